/-! the law: the case of out -/
section LAWO
variable {X : Cx} {g : Gd} {I : MI} {L : ML} {i Ls z n cl sl : Nat} {sh : Shp} {xs : Nat → Int32} {u5 u6 : Option Value}
theorem nOut : (parseMethodDescriptor yL_out.desc).map (fun d => d.parameters.length) = some 3 := by decide +kernel
theorem aw_lout {Lc : List (Option Value)} (hst : (xL X).stackTraces = false) (hX : IsX n sh) {B : List Int32} (hB : Prc I B) (hl : B.length ≤ 1024) {x : Int32} (hk : (sh 511).1 = 101 ∧ (sh 511).2.1 = 1) (hn : 511 < n) (hb : cl + 1 ≤ 601024 ∧ sl + 6 ≤ 7293034)
    (kk : ∀ (v : Option Value) (z' n' : Nat) (sh' : Shp) (I2 : MI) (L2 : ML), LoP B x n sh I L v z' n' sh' I2 L2 → AW X g RL cL_law 7 LBd (z', n', sh', cl + 1, sl + 6) I2 L2 1745 Lc (v.toList ++ [])) : AW X g RL cL_law 7 LBd (z, n, sh, cl, sl) I L 1742 Lc [.ref 511, .int x, .ref 0] := by
  intro F H locs ls h1 h2 h3 h4 h5
  obtain ⟨hx, hbc, hml, ho, hts, hK, hSt, hlk, ⟨r1, r2, r3, r4⟩, hB9⟩ := id F
  have f1 : (rmK 7 1 6).frames + 1 ≤ (xR X).frames := Nat.le_trans (by decide) r1
  have f2 : 8 + (4 + 11) + (rmK 7 1 6).locals ≤ (xR X).locals := Nat.le_trans (by decide) r2
  refine call_end (pc := 1742) (E := (z, n, sh, cl, sl)) (st := []) F h4 h5 (vx_runSW (hh := hhO) (bytes := cL_out) (maxL := 4) (ret := some .int) (index := 209) (n := 3) (As := ([.ref 0, .int x, .ref 511] : List Value).map (cvK g)) ⟨hx, hbc, hml, ho, hts⟩ (sL_out (z := z) (L := L) hst g hX hB hl (x := x) hk hn)
    ⟨⟨rfl, rfl, f1, f2, pay_G hts wL_out, List.mem_cons_self⟩, hts _ wL_out, hts _ (t1 (i := 0) rfl rfl), ⟨by decide, by decide⟩, fun sig h => ?_, hts _ kL_209, hts _ wL_outS⟩ ⟨PcK_blind, PcK_start (E := (z, n, sh, cl, sl)) (vs := [.ref 0, .int x, .ref 511]) hK hSt h1 h2 h3 h4⟩ rfl rfl h5.2.1 rfl ?_ dL_law_1742 ⟨by rw [← r3]; exact hb.1, by rw [← r4]; exact hb.2⟩) kk
  · have q := nOut
    rw [h] at q
    exact (Option.some.inj q).symm
  · exact lv_room (Nat.zero_le 8)
theorem Good.long {v : Int64} (G : Good I L) : Good I (upL L 511 0 v) := by
  obtain ⟨N, s, h, hs⟩ := G
  exact ⟨N, s, h.ref (fun _ _ => rfl) (fun a ha => if_neg (by omega)) (fun _ _ => rfl), hs⟩
theorem Good.thr {v : Int32} (G : Good I L) : Good (upI I 496 0 v) L := by
  obtain ⟨N, s, h, hs⟩ := G
  refine ⟨N, s, h.ref (fun x hx => if_neg (by omega)) (fun _ _ => rfl) (fun k hk => upI_n (Or.inr (by omega))), ?_⟩
  rw [upI_n (Or.inr (by decide))]
  exact hs
theorem Good.pap (G : Good I L) : ∃ B : List Int32, Prc I B ∧ Prt I 496 B ∧ B.length ≤ 1024 := by
  obtain ⟨N, s, ⟨Q, K, t, c, k, T, B, f1, f2, h, r, u, -⟩, -⟩ := G
  exact ⟨B, h.2.2.2.2.2.2.2.2, r.2.2.2.2.2.2.2.2, u.2.2.2.1.2.2.2⟩
theorem cmp_me (x : Int64) : lg_cmp x x = 0 := by
  unfold lg_cmp
  simp
theorem lc_out (S : Scr X g Ls xs) (hst : (xL X).stackTraces = false) (hX : IsX n sh) (hM : IsM n sh 496) (G : Good I L) (hk : (sh 511).1 = 101 ∧ (sh 511).2.1 = 1) (hn : 511 < n) (hi : i + 6 ≤ Ls) (hb : cl + 1 ≤ 601024 ∧ sl + 6 ≤ 7293034)
    (kk : ∀ z' J M v5 v6, Good J M → AW X g RL cL_law 7 LBd (z', n, sh, cl + 1, sl + 6) J M 1790 (LcL i v5 v6) []) : AW X g RL cL_law 7 LBd (z, n, sh, cl, sl) I L 1734 (LcL i u5 u6) [] := by
  obtain ⟨B, hB, hT, hl⟩ := G.pap
  refine aw_aload_n dL_law_1734 rfl ?_
  refine aw_arg S hi (j := 1) (by decide) rfl dL_law_1735 dL_law_1736 dL_law_1738 dL_law_1739 dL_law_1740 ?_
  refine aw_aload_n dL_law_1741 rfl ?_
  refine aw_lout hst hX hB hl hk hn hb (fun v z' n' sh' I2 L2 hp => ?_)
  obtain ⟨rfl, rfl, rfl, rfl, eL⟩ := hp
  have G2 : Good I2 L2 := by
    rw [eL]
    split
    · exact G.long
    · exact G
  refine aw_istore dL_law_1745 (by decide) rfl ?_
  refine aw_aload_n dL_law_1747 rfl ?_
  refine aw_arg (u5 := some (.int (outT B (xs (i + 1))))) (u6 := u6) S hi (j := 1) (by decide) rfl dL_law_1748 dL_law_1749 dL_law_1751 dL_law_1752 dL_law_1753 ?_
  refine aw_cV dL_law_1754 kL_214 mX11_out (rX11_out hM hT (by omega)) (Nat.le_of_ble_eq_true rfl) hM.k ⟨by decide, rfl⟩ hM.b rfl rfl (Nat.le_of_ble_eq_true rfl) hb ?_
  refine aw_istore dL_law_1757 (by decide) rfl ?_
  refine aw_aload_n dL_law_1759 rfl ?_
  refine aw_cV dL_law_1760 kL_215 mX11_thrown (sX11_thrown hM) (Nat.le_of_ble_eq_true rfl) hM.k ⟨by decide, rfl⟩ hM.b rfl rfl (Nat.le_of_ble_eq_true rfl) hb ?_
  refine AW.top (y := outT B (xs (i + 1))) upI_s ?_
  refine aw_iload dL_law_1763 rfl ?_
  refine aw_icmp_eq (tgt := 1770) dL_law_1765 rfl (fun _ => ?_) (fun c => absurd rfl c)
  refine aw_iload dL_law_1770 rfl ?_
  refine aw_if_ne (tgt := 1787) dL_law_1772 rfl (fun c => ?_) (fun c => ?_)
  · refine aw_goto (tgt := 1790) dL_law_1787 rfl ?_
    exact kk _ _ _ _ _ G2.thr
  · refine aw_aload_n dL_law_1775 rfl ?_
    refine aw_iconst (v := 0) dL_law_1776 rfl ?_
    refine aw_lald dL_law_1777 hk.1 hn (by show ¬ ((0 : Int32) < 0 ∨ (sh' 511).2.1 ≤ (0 : Int32).toNatClampNeg); rw [hk.2]; decide) ?_
    refine AW.topL (y := (outV B (xs (i + 1))).toInt64) (by rw [eL, if_pos c]; exact upL_s) ?_
    refine aw_iload dL_law_1778 rfl ?_
    refine aw_i2l dL_law_1780 ?_
    refine aw_lcmp dL_law_1781 ?_
    refine AW.top (cmp_me _) ?_
    refine aw_if_eq (tgt := 1787) dL_law_1782 rfl (fun _ => ?_) (fun c => absurd rfl c)
    refine aw_goto (tgt := 1790) dL_law_1787 rfl ?_
    exact kk _ _ _ _ _ G2.thr
end LAWO
