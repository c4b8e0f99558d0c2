/-! the class's reader: rules; a nest mate's static method called -/
section ASN
variable {X : Cx} {g : Gd} {own : String} {cc : ByteArray} {nL : Nat} {Bd : Nat × Nat × Nat} {E : En} {I : MI} {L : ML} {pc : Nat} {Lc : List (Option Value)} {st : List Value}
theorem aw_callSN {idx : Nat} {y : MethodName} {cc2 : ByteArray} {nL2 : Nat} {ret2 : Option FieldType} {np d mc ms : Nat} {As : List Value} {st0 : List Value} {Po : PoT} (dg : decode cc pc = .ok (.invokestatic idx, 3)) (hl : ∀ (g : Gd) (U : State) (H : Heap), StK g U H → va_Nw (.methodLinkNest own idx y "HomesQueue") U) (hm : mS y cc2 nL2 ret2 np) (hM : CM y cc2 nL2 ret2 d mc ms As E.1 E.2.1 E.2.2.1 I L Po)
    (hd : d + 1 ≤ Bd.1) (hst : st0 = As.reverse ++ st) (hn : As.length = np) (hw : (st.map fun v => v.category).sum ≤ 8) (hf : E.2.2.2.1 + mc ≤ Bd.2.1 ∧ E.2.2.2.2 + ms ≤ Bd.2.2)
    (kk : ∀ (v : Option Value) (z n : Nat) (sh : Shp) (I2 : MI) (L2 : ML), Po v z n sh I2 L2 → AW X g own cc nL Bd (z, n, sh, E.2.2.2.1 + mc, E.2.2.2.2 + ms) I2 L2 (pc + 3) Lc (v.toList ++ st)) : AW X g own cc nL Bd E I L pc Lc st0 := by
  intro F H locs ls h1 h2 h3 h4 h5
  obtain ⟨hx, hbc, hml, ho, hts, hK, hSt, hlk, ⟨r1, r2, r3, r4⟩, hB⟩ := id F
  subst hst
  have hs0 : (As.reverse ++ st).map (cvK g) = (As.map (cvK g)).reverse ++ st.map (cvK g) := by
    rw [List.map_append, List.map_reverse]
  rw [hs0]
  obtain ⟨⟨m1, m2, m3, m4, m5⟩, m6⟩ := hm
  have cn : va_CN (xR X) (xS X) (xA X) own idx y "HomesQueue" cc2 nL2 ret2 (.code y cc2 nL2 ret2 :: tblG) (rmK d mc ms) mc ms np := by
    refine ⟨⟨rfl, rfl, ?_, ?_, pay_G hts m1, List.mem_cons_self⟩, hts _ m1, hts _ m2, m3, fun sig h => ?_, va_Nw.use rfl (hl g _ _ hSt)⟩
    · show d + 1 ≤ (xR X).frames
      omega
    · show 8 + (nL2 + 11) + 100 * d ≤ (xR X).locals
      omega
    · rw [h] at m4
      exact (Option.some.inj m4).symm
  refine call_end F h4 h5 (va_runSN (As := As.map (cvK g)) ⟨hx, hbc, hml, ho, hts⟩ (hM (xL X) g) ⟨cn, hts _ m6, trivial⟩ ⟨PcK_blind, PcK_start (vs := As) hK hSt h1 h2 h3 h4⟩ rfl (by rw [List.length_map]; exact hn) h5.2.1 rfl ?_ dg ⟨by rw [← r3]; exact hf.1, by rw [← r4]; exact hf.2⟩) kk
  exact lv_room (by rw [cvK_cats]; exact hw)
theorem aw_cSN {idx : Nat} {y : MethodName} {cc2 : ByteArray} {nL2 : Nat} {ret2 : Option FieldType} {np d : Nat} {As : List Value} {st0 : List Value} {r : Option Value} {I2 : MI} {L2 : ML} (dg : decode cc pc = .ok (.invokestatic idx, 3)) (hl : ∀ (g : Gd) (U : State) (H : Heap), StK g U H → va_Nw (.methodLinkNest own idx y "HomesQueue") U) (hm : mS y cc2 nL2 ret2 np) (hM : CM y cc2 nL2 ret2 d 0 0 As E.1 E.2.1 E.2.2.1 I L (Pst r E.1 E.2.1 E.2.2.1 I2 L2))
    (hd : d + 1 ≤ Bd.1) (hst : st0 = As.reverse ++ st) (hn : As.length = np) (hw : (st.map fun v => v.category).sum ≤ 8) (hf : E.2.2.2.1 ≤ Bd.2.1 ∧ E.2.2.2.2 ≤ Bd.2.2)
    (k : AW X g own cc nL Bd E I2 L2 (pc + 3) Lc (r.toList ++ st)) : AW X g own cc nL Bd E I L pc Lc st0 :=
  aw_callSN dg hl hm hM hd hst hn hw hf (fun v z n sh I3 L3 q => by obtain ⟨rfl, rfl, rfl, rfl, rfl, rfl⟩ := q; exact k)
theorem nkTold : ∀ (g : Gd) (U : State) (H : Heap), StK g U H → va_Nw (.methodLinkNest "HomesQueue$Reader" 177 yX10_canBeTold "HomesQueue") U := fun _ _ _ h => h.2.2.2.2.2.1.2.2.1
theorem nkKwR : ∀ (g : Gd) (U : State) (H : Heap), StK g U H → va_Nw (.methodLinkNest "HomesQueue$Reader" 19 yX10_keyword "HomesQueue") U := fun _ _ _ h => h.2.2.2.2.2.1.2.2.2
theorem nkKwP : ∀ (g : Gd) (U : State) (H : Heap), StK g U H → va_Nw (.methodLinkNest "HomesQueue$Paper" 31 yX10_keyword "HomesQueue") U := fun _ _ _ h => h.2.2.2.2.2.1.2.1
end ASN
theorem kwL_val {w : Int64} : ∀ n, kwL w n = -1 ∨ ∃ i, i < n ∧ kwL w n = nI i
  | 0 => Or.inl rfl
  | n + 1 => by
    by_cases h : wdK9 (kwM n) = w
    · exact Or.inr ⟨n, by omega, if_pos h⟩
    · have e : kwL w (n + 1) = kwL w n := if_neg h
      rcases kwL_val (w := w) n with q | ⟨i, i1, i2⟩
      · exact Or.inl (e.trans q)
      · exact Or.inr ⟨i, by omega, e.trans i2⟩
theorem fa_all {P : Nat → Bool} : ∀ n, (∀ k, k < n → ¬ P k = true) → fa_first P n = n
  | 0, _ => rfl
  | n + 1, h => fa_first_no1 (fa_all n (fun k hk => h k (by omega))) (h n (by omega))
theorem no_rule {k : Tk} (hk : ¬ k.2.2.1 = 2) : fa_first (tWd k) 6 = 6 := fa_all 6 (fun _ _ q => hk (tWd_k q))
theorem ruleKw {k : Tk} (hk : k.2.2.1 = 2) : (∃ r, r < 6 ∧ kwL k.2.2.2.1 10 = nI (4 + r) ∧ fa_first (tWd k) 6 = r) ∨ (¬ (4 : Int32) ≤ kwL k.2.2.2.1 10 ∧ fa_first (tWd k) 6 = 6) := by
  by_cases h : fa_first (tWd k) 6 < 6
  · have y := fa_first_yes _ 6 h
    refine Or.inl ⟨fa_first (tWd k) 6, h, ?_, rfl⟩
    refine (tWd_kw hk (by omega)).mpr ?_
    have e : kwM (4 + fa_first (tWd k) 6) = fa_first (tWd k) 6 := by
      unfold kwM
      rw [if_neg (by omega)]
      omega
    rw [e]
    exact y
  · have e6 : fa_first (tWd k) 6 = 6 := by have := fa_first_le (tWd k) 6; omega
    refine Or.inr ⟨fun q => ?_, e6⟩
    rcases kwL_val (w := k.2.2.2.1) 10 with z | ⟨i, i1, i2⟩
    · rw [z] at q
      exact absurd q (by decide)
    · rw [i2] at q
      have hi := (nI_leI (a := 4) (b := i) (by decide) (by omega)).mp q
      have y := (tWd_kw hk i1).mp i2
      have e : kwM i = i - 4 := by
        unfold kwM
        rw [if_neg (by omega)]
      rw [e] at y
      have no := fa_first_no (tWd k) 6 (i - 4) (by omega)
      rw [no] at y
      cases y
theorem told_iff {r : Nat} {y : Int32} (hr : r < 6) : (mFrom (nI r) 0 5 && mFrom y (rLeast (nI r).toNatClampNeg) (rMost (nI r).toNatClampNeg)) = true ↔ rLeast r ≤ y ∧ y ≤ rMost r := by
  have e1 : ∀ r, r < 6 → mFrom (nI r) 0 5 = true := by decide
  rw [nI_clamp (by omega), e1 r hr, Bool.true_and]
  unfold mFrom
  rw [Bool.and_eq_true, decide_eq_true_eq, decide_eq_true_eq]
theorem rule_cn {N : Nat → Int32} {r : Nat} {v : Int32} (c : Cn N) (hr : r < 6) (hv : rLeast r ≤ v) : Cn (upd N (224 + r) v) := by
  have hl := c.l8
  refine c.upd' (by omega) (by omega) (by omega) (by omega) (fun e => ?_) (fun q hq => ⟨by omega, fun z => by omega, fun z => by omega, fun k hk z => by have := c.w6 hq; omega⟩) (fun i hi z => by omega) (fun k hk => ⟨fun z => by omega, fun z => by omega⟩)
  have e4 : r = 4 := by omega
  subst e4
  intro z
  rw [z] at hv
  exact absurd hv (by decide)
theorem sub4 : ∀ r, r < 6 → nI (4 + r) - 4 = nI r := by decide
theorem Pc.rule {I J : MI} {L : ML} {T : Nat → Int32} {s r : Nat} {p : PSt} {v : Int32} (hp : Pc I L T s p) (hr : r < 6) (hv : rLeast r ≤ v) (hF : Fr 35 I J) (hJ : CtS J L 35 (upd p.2.1 (224 + r) v) p.2.2) : Pc J L T s (p.1, upd p.2.1 (224 + r) v, p.2.2) ∧ RcG I J L L :=
  ⟨hp.st (fun x hx => hF x (by omega)) (fun _ _ => rfl) hJ (rule_cn hp.2.2.2.2.1 hr hv) (nLe_u hp.2.2.2.2.2 (by omega)), RcG.st (fun x hx => hF x (by omega)) (fun _ _ => rfl)⟩
section ClsS
variable {z n : Nat} {sh : Shp} {I : MI} {L : ML} {N : Nat → Int32} {Q : Nat → Int64}
set_option maxHeartbeats 4000000 in
set_option maxRecDepth 100000 in
theorem sX6_readRule (hX : IsX n sh) {T : Nat → Int32} {s : Nat} (hs9 : s ≤ 900) {p : PSt} (hP : Pc I L T s p) (hOk : Ok p.2.1)  : CM yX6_readRule cX6_readRule 3 (Option.some .boolean) 4 0 0 [.ref 479, .ref 35] z n sh I L (RcP z n sh I L T s (cRule T s p)) := by
  refine CM.go [some (.ref 479), some (.ref 35), none] rfl rfl (Nat.le_of_ble_eq_true rfl) (fun X g q => ?_)
  have hN := hP.2.2.2.2.1
  have h8 : cP p.2.1 ≤ 8 := hN.p8
  have h10 : cH p.2.1 ≤ 10 := hN.h10
  refine aw_aload_n dX6_readRule_0 rfl ?_
  refine aw_hV dX6_readRule_1 kX6_59 mX6_next (sX6_next hX hP.1.1 hP.1.2.1 hs9 hP.1.2.2.2.1 hP.2.1.2.1 hP.2.2.2.1) (Nat.le_of_ble_eq_true rfl) hX.rdr.1 ⟨by decide, rfl⟩ (hX.lt (by decide)) rfl rfl (Nat.le_of_ble_eq_true rfl) ⟨Nat.le_refl _, Nat.le_refl _⟩ (fun J1 M1 hq1 => ?_)
  have hP1 := hP.adv hq1
  have hG1 := RcG.nx hq1
  refine aw_aload_n dX6_readRule_4 rfl ?_
  refine aw_getI dX6_readRule_5 fX6_62 hX.rdr.1 (hX.lt (by decide)) rfl ?_
  refine AW.top hP1.1.2.2.2.2.1 ?_
  refine aw_iconst (v := 1) dX6_readRule_8 rfl ?_
  refine aw_icmp_ne (tgt := 20) dX6_readRule_9 rfl (fun c9 => ?_) (fun c9 => ?_)
  · have f6 : fa_first (tWd (nx T s p.1)) 6 = 6 := no_rule (fun q => c9 ((cTk_1 _ hP1.2.1.2.2).mpr q))
    refine aw_aload_n dX6_readRule_20 rfl ?_
    refine aw_cV dX6_readRule_21 kX6_73 mX6_misplaced (sX6_misplaced hX hP1.1 hP1.2.1.2.2) (Nat.le_of_ble_eq_true rfl) hX.rdr.1 ⟨by decide, rfl⟩ (hX.lt (by decide)) rfl rfl (Nat.le_of_ble_eq_true rfl) ⟨Nat.le_refl _, Nat.le_refl _⟩ ?_
    refine aw_zret q rfl (Or.inl rfl) dX6_readRule_24 ⟨Nat.le_refl _, Nat.le_refl _⟩ ?_
    exact RcP.ms hG1 hP1.2.2.1.1 (if_pos f6)
  · have k2 : (nx T s p.1).2.2.1 = 2 := (cTk_1 _ hP1.2.1.2.2).mp c9
    rcases ruleKw k2 with ⟨r, hr, er, fr⟩ | ⟨nr, f6⟩
    · refine aw_aload_n dX6_readRule_12 rfl ?_
      refine aw_getI dX6_readRule_13 fX6_76 hX.rdr.1 (hX.lt (by decide)) rfl ?_
      refine AW.top ((hP1.1.2.2.2.2.2.1 k2).2.trans er) ?_
      refine aw_iconst (v := 4) dX6_readRule_16 rfl ?_
      refine aw_icmp_ge (tgt := 25) dX6_readRule_17 rfl (fun c17 => ?_) (fun c17 => ?_)
      · skip
        refine aw_aload_n dX6_readRule_25 rfl ?_
        refine aw_getI dX6_readRule_26 fX6_76 hX.rdr.1 (hX.lt (by decide)) rfl ?_
        refine AW.top ((hP1.1.2.2.2.2.2.1 k2).2.trans er) ?_
        refine aw_iconst (v := 4) dX6_readRule_29 rfl ?_
        refine aw_isub dX6_readRule_30 ?_
        refine AW.top (sub4 r hr) ?_
        refine aw_istore_n dX6_readRule_31 (by decide) rfl ?_
        refine aw_aload_n dX6_readRule_32 rfl ?_
        refine aw_hV dX6_readRule_33 kX6_59 mX6_next (sX6_next hX hP1.1.1 hP1.1.2.1 hs9 hP1.1.2.2.2.1 hP1.2.1.2.1 hP1.2.2.2.1) (Nat.le_of_ble_eq_true rfl) hX.rdr.1 ⟨by decide, rfl⟩ (hX.lt (by decide)) rfl rfl (Nat.le_of_ble_eq_true rfl) ⟨Nat.le_refl _, Nat.le_refl _⟩ (fun J2 M2 hq2 => ?_)
        have hP2 := hP1.adv hq2
        have hG2 := hG1.tr (RcG.nx hq2)
        refine aw_aload_n dX6_readRule_36 rfl ?_
        refine aw_getI dX6_readRule_37 fX6_62 hX.rdr.1 (hX.lt (by decide)) rfl ?_
        refine AW.top hP2.1.2.2.2.2.1 ?_
        refine aw_iconst (v := 2) dX6_readRule_40 rfl ?_
        refine aw_icmp_eq (tgt := 49) dX6_readRule_41 rfl (fun c41 => ?_) (fun c41 => ?_)
        · have k3 : (nx T s (nx T s p.1)).2.2.1 = 3 := (cTk_2 _ hP2.2.1.2.2).mp c41
          refine aw_iload_n dX6_readRule_49 rfl ?_
          refine aw_aload_n dX6_readRule_50 rfl ?_
          refine aw_getI dX6_readRule_51 fX6_109 hX.rdr.1 (hX.lt (by decide)) rfl ?_
          refine AW.top (y := (nx T s (nx T s p.1)).2.2.2.2) (hP2.1.2.2.2.2.2.2 k3) ?_
          refine aw_cSN dX6_readRule_54 nkTold mX10_canBeTold sX10_canBeTold (Nat.le_of_ble_eq_true rfl) rfl rfl (Nat.le_of_ble_eq_true rfl) ⟨Nat.le_refl _, Nat.le_refl _⟩ ?_
          refine aw_if_ne (tgt := 66) dX6_readRule_57 rfl (fun c57 => ?_) (fun c57 => ?_)
          · have g9 := (told_iff hr).mp (bI1.mp c57)
            refine aw_aload_n dX6_readRule_66 rfl ?_
            refine aw_iload_n dX6_readRule_67 rfl ?_
            refine aw_aload_n dX6_readRule_68 rfl ?_
            refine aw_getI dX6_readRule_69 fX6_109 hX.rdr.1 (hX.lt (by decide)) rfl ?_
            refine AW.top (y := (nx T s (nx T s p.1)).2.2.2.2) (hP2.1.2.2.2.2.2.2 k3) ?_
            refine aw_mV dX6_readRule_72 kX6_180 mX7_setRule (sX7_setRule (r := r) hX.spr hP2.2.2.1 hOk rfl hr) (Nat.le_of_ble_eq_true rfl) hX.spr.k ⟨by decide, rfl⟩ hX.spr.b0 rfl rfl (Nat.le_of_ble_eq_true rfl) ⟨Nat.le_refl _, Nat.le_refl _⟩ (fun J3 hF3 hJ3 => ?_)
            have hP3 := hP2.rule hr g9.1 hF3 hJ3
            have hG3 := hG2.tr hP3.2
            refine aw_aload_n dX6_readRule_75 rfl ?_
            refine aw_hV dX6_readRule_76 kX6_59 mX6_next (sX6_next hX hP3.1.1.1 hP3.1.1.2.1 hs9 hP3.1.1.2.2.2.1 hP3.1.2.1.2.1 hP3.1.2.2.2.1) (Nat.le_of_ble_eq_true rfl) hX.rdr.1 ⟨by decide, rfl⟩ (hX.lt (by decide)) rfl rfl (Nat.le_of_ble_eq_true rfl) ⟨Nat.le_refl _, Nat.le_refl _⟩ (fun J4 M4 hq4 => ?_)
            have hP4 := hP3.1.adv hq4
            have hG4 := hG3.tr (RcG.nx hq4)
            refine aw_iconst (v := 1) dX6_readRule_79 rfl ?_
            refine aw_zret q rfl (Or.inr rfl) dX6_readRule_80 ⟨Nat.le_refl _, Nat.le_refl _⟩ ?_
            exact RcP.good hG4 ((if_neg (by rw [fr]; omega)).trans (by rw [fr]; exact (if_pos k3).trans (if_pos g9))) hP4
          · have g9 := mt (told_iff hr).mpr (by rw [bI0.mp c57]; decide)
            refine aw_aload_n dX6_readRule_60 rfl ?_
            refine aw_iconst (v := 3) dX6_readRule_61 rfl ?_
            refine aw_cV dX6_readRule_62 kX6_90 mX6_wrong (sX6_wrong hX) (Nat.le_of_ble_eq_true rfl) hX.rdr.1 ⟨by decide, rfl⟩ (hX.lt (by decide)) rfl rfl (Nat.le_of_ble_eq_true rfl) ⟨Nat.le_refl _, Nat.le_refl _⟩ ?_
            refine aw_zret q rfl (Or.inl rfl) dX6_readRule_65 ⟨Nat.le_refl _, Nat.le_refl _⟩ ?_
            rw [wrong_fl hP2.1]
            exact RcP.fl (c := 3) hG2 hP2.2.2.1.1 ((if_neg (by rw [fr]; omega)).trans (by rw [fr]; exact (if_pos k3).trans ((if_neg g9).trans (pBad_k (by rw [k3]; decide)))))
        · have k3 : ¬ (nx T s (nx T s p.1)).2.2.1 = 3 := fun q => c41 ((cTk_2 _ hP2.2.1.2.2).mpr q)
          refine aw_aload_n dX6_readRule_44 rfl ?_
          refine aw_cV dX6_readRule_45 kX6_73 mX6_misplaced (sX6_misplaced hX hP2.1 hP2.2.1.2.2) (Nat.le_of_ble_eq_true rfl) hX.rdr.1 ⟨by decide, rfl⟩ (hX.lt (by decide)) rfl rfl (Nat.le_of_ble_eq_true rfl) ⟨Nat.le_refl _, Nat.le_refl _⟩ ?_
          refine aw_zret q rfl (Or.inl rfl) dX6_readRule_48 ⟨Nat.le_refl _, Nat.le_refl _⟩ ?_
          exact RcP.ms hG2 hP2.2.2.1.1 ((if_neg (by rw [fr]; omega)).trans (by rw [fr]; exact if_neg k3))
      · exact absurd ((nI_leI (a := 4) (b := 4 + r) (by decide) (by omega)).mpr (by omega)) c17
    · refine aw_aload_n dX6_readRule_12 rfl ?_
      refine aw_getI dX6_readRule_13 fX6_76 hX.rdr.1 (hX.lt (by decide)) rfl ?_
      refine AW.top (hP1.1.2.2.2.2.2.1 k2).2 ?_
      refine aw_iconst (v := 4) dX6_readRule_16 rfl ?_
      refine aw_icmp_ge (tgt := 25) dX6_readRule_17 rfl (fun c17 => ?_) (fun c17 => ?_)
      · exact absurd c17 nr
      · skip
        refine aw_aload_n dX6_readRule_20 rfl ?_
        refine aw_cV dX6_readRule_21 kX6_73 mX6_misplaced (sX6_misplaced hX hP1.1 hP1.2.1.2.2) (Nat.le_of_ble_eq_true rfl) hX.rdr.1 ⟨by decide, rfl⟩ (hX.lt (by decide)) rfl rfl (Nat.le_of_ble_eq_true rfl) ⟨Nat.le_refl _, Nat.le_refl _⟩ ?_
        refine aw_zret q rfl (Or.inl rfl) dX6_readRule_24 ⟨Nat.le_refl _, Nat.le_refl _⟩ ?_
        exact RcP.ms hG1 hP1.2.2.1.1 (if_pos f6)
end ClsS
