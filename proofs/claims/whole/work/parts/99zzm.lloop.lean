/-! the law: its loop -/
theorem and63 (x : Int32) : ∃ k, k < 64 ∧ x &&& 63 = nI k := by
  refine ⟨(x.toBitVec &&& 63#32).toNat, ?_, ?_⟩
  · rw [BitVec.toNat_and]
    exact Nat.lt_of_le_of_lt Nat.and_le_right (by decide)
  · apply Int32.toBitVec_inj.mp
    show x.toBitVec &&& 63#32 = BitVec.ofNat 32 (x.toBitVec &&& 63#32).toNat
    rw [BitVec.ofNat_toNat, BitVec.setWidth_eq]
theorem len_in {Ls r : Nat} (hL : Ls ≤ 3072) (hr : r ≤ 600) (h : ¬ nI Ls - 6 < nI (6 * r)) : 6 * r + 6 ≤ Ls := by
  apply Nat.le_of_not_lt
  intro w
  apply h
  by_cases h6 : 6 ≤ Ls
  · have e : nI Ls - 6 = nI (Ls - 6) := by
      have q : nI (Ls - 6) + 6 = nI Ls := by
        rw [show (6 : Int32) = nI 6 from rfl, nI_add, Nat.sub_add_cancel h6]
      rw [← q, Int32.add_sub_cancel]
    rw [e]
    exact (nI_ltI (by omega) (by omega)).mpr (by omega)
  · have n0 : nI Ls - 6 < 0 := by
      match Ls, h6 with
      | 0, _ => decide
      | 1, _ => decide
      | 2, _ => decide
      | 3, _ => decide
      | 4, _ => decide
      | 5, _ => decide
      | n + 6, h => exact absurd (by omega) h
    exact Int32.lt_of_lt_of_le n0 (Int32.not_lt.mp (nI_pos (by omega)))
section LAWL
variable {X : Cx} {g : Gd} {Ls : Nat} {sh : Shp} {xs : Nat → Int32}
theorem law_loop (S : Scr X g Ls xs) (hst : (xL X).stackTraces = false) (hX : IsX 512 sh) (hM : IsM 512 sh 496) (hk : (sh 511).1 = 101 ∧ (sh 511).2.1 = 1)
    (hE : ∀ (z cl sl : Nat) (I : MI) (L : ML) (Lc : List (Option Value)), cl ≤ 601024 ∧ sl ≤ 7293034 → AW X g RL cL_law 7 LBd (z, 512, sh, cl, sl) I L 1796 Lc []) :
    ∀ (f r z cl sl : Nat) (I : MI) (L : ML) (u5 u6 : Option Value), Ls < 6 * r + 6 * f + 6 → 6 * r ≤ Ls + 6 → cl + f ≤ 601024 → sl + 6 * f ≤ 7293034 → Good I L → AW X g RL cL_law 7 LBd (z, 512, sh, cl, sl) I L 23 (LcL (6 * r) u5 u6) [] := by
  intro f
  induction f with
  | zero =>
    intro r z cl sl I L u5 u6 h1 h2 h3 h4 G
    have hL := S.2.2.2
    refine aw_iload dL_law_23 rfl ?_
    refine aw_aload_n dL_law_25 rfl ?_
    refine aw_slen S dL_law_26 ?_
    refine aw_bipush (v := 6) dL_law_27 rfl ?_
    refine aw_isub dL_law_29 ?_
    refine aw_icmp_gt (tgt := 1796) dL_law_30 rfl (fun _ => hE _ _ _ _ _ _ ⟨by omega, by omega⟩) (fun c => ?_)
    have := len_in hL (by omega) c
    omega
  | succ f ih =>
    intro r z cl sl I L u5 u6 h1 h2 h3 h4 G
    have hL := S.2.2.2
    refine aw_iload dL_law_23 rfl ?_
    refine aw_aload_n dL_law_25 rfl ?_
    refine aw_slen S dL_law_26 ?_
    refine aw_bipush (v := 6) dL_law_27 rfl ?_
    refine aw_isub dL_law_29 ?_
    refine aw_icmp_gt (tgt := 1796) dL_law_30 rfl (fun _ => hE _ _ _ _ _ _ ⟨by omega, by omega⟩) (fun c => ?_)
    have hi := len_in hL (by omega) c
    have cont : ∀ (z cl sl : Nat) (J : MI) (M : ML) (v5 v6 : Option Value), cl + f ≤ 601024 → sl + 6 * f ≤ 7293034 → Good J M → AW X g RL cL_law 7 LBd (z, 512, sh, cl, sl) J M 1790 (LcL (6 * r) v5 v6) [] := by
      intro z cl sl J M v5 v6 b1 b2 G2
      refine aw_iinc (v := nI (6 * (r + 1))) dL_law_1790 rfl ?_ (by decide) rfl ?_
      · show nI (6 * r) + 6 = nI (6 * (r + 1))
        rw [show (6 : Int32) = nI 6 from rfl, nI_add]
        exact congrArg nI (by omega)
      refine aw_goto (tgt := 23) dL_law_1793 rfl ?_
      exact ih (r + 1) z cl sl J M v5 v6 (by omega) (by omega) b1 b2 G2
    have k0 : ∀ J M, Good J M → AW X g RL cL_law 7 LBd (z, 512, sh, cl, sl) J M 1790 (LcL (6 * r) u5 u6) [] := fun J M G2 => cont z cl sl J M u5 u6 (by omega) (by omega) G2
    have hb : cl ≤ 601024 ∧ sl ≤ 7293034 := ⟨by omega, by omega⟩
    refine aw_aload_n dL_law_33 rfl ?_
    refine aw_iload dL_law_34 rfl ?_
    refine aw_sld S (k := 6 * r) (by omega) dL_law_36 ?_
    refine aw_bipush (v := 63) dL_law_37 rfl ?_
    refine aw_iand dL_law_39 ?_
    obtain ⟨k, hk64, ek⟩ := and63 (xs (6 * r))
    refine AW.top ek ?_
    match k, hk64 with
    | 0, _ => exact aw_tableIn (off := 204) (tgt := 244) dL_law_40 (by decide) (by decide) (by decide) rfl (lc_status S hX hM G hi hb k0)
    | 1, _ => exact aw_tableIn (off := 217) (tgt := 257) dL_law_40 (by decide) (by decide) (by decide) rfl (lc_feed S hX hM G hi hb k0)
    | 2, _ => exact aw_tableIn (off := 290) (tgt := 330) dL_law_40 (by decide) (by decide) (by decide) rfl (lc_load S hX hM G hi hb k0)
    | 3, _ => exact aw_tableIn (off := 315) (tgt := 355) dL_law_40 (by decide) (by decide) (by decide) rfl (lc_fault S hX hM G hi hb k0)
    | 4, _ => exact aw_tableIn (off := 340) (tgt := 380) dL_law_40 (by decide) (by decide) (by decide) rfl (lc_many S hX hM G hi hb k0)
    | 5, _ => exact aw_tableIn (off := 365) (tgt := 405) dL_law_40 (by decide) (by decide) (by decide) rfl (lc_home S hX hM G hi hb k0)
    | 6, _ => exact aw_tableIn (off := 402) (tgt := 442) dL_law_40 (by decide) (by decide) (by decide) rfl (lc_house S hX hM G hi hb k0)
    | 7, _ => exact aw_tableIn (off := 439) (tgt := 479) dL_law_40 (by decide) (by decide) (by decide) rfl (lc_rule S hX hM G hi hb k0)
    | 8, _ => exact aw_tableIn (off := 464) (tgt := 504) dL_law_40 (by decide) (by decide) (by decide) rfl (lc_why S hX hM G hi hb k0)
    | 9, _ => exact aw_tableIn (off := 501) (tgt := 541) dL_law_40 (by decide) (by decide) (by decide) rfl (lc_bids S hX hM G hi hb k0)
    | 10, _ => exact aw_tableIn (off := 538) (tgt := 578) dL_law_40 (by decide) (by decide) (by decide) rfl (lc_order S hX hM G hi hb k0)
    | 11, _ => exact aw_tableIn (off := 575) (tgt := 615) dL_law_40 (by decide) (by decide) (by decide) rfl (lc_ahead S hX hM G hi hb k0)
    | 12, _ => exact aw_tableIn (off := 612) (tgt := 652) dL_law_40 (by decide) (by decide) (by decide) rfl (lc_turn S hX hM G hi hb k0)
    | 13, _ => exact aw_tableIn (off := 649) (tgt := 689) dL_law_40 (by decide) (by decide) (by decide) rfl (lc_let S hX hM G hi hb k0)
    | 14, _ => exact aw_tableIn (off := 686) (tgt := 726) dL_law_40 (by decide) (by decide) (by decide) rfl (lc_offer S hX hM G hi hb k0)
    | 15, _ => exact aw_tableIn (off := 723) (tgt := 763) dL_law_40 (by decide) (by decide) (by decide) rfl (lc_tally S hX hM G hi hb k0)
    | 16, _ => exact aw_tableIn (off := 748) (tgt := 788) dL_law_40 (by decide) (by decide) (by decide) rfl (lc_lack S hX hM G hi hb k0)
    | 17, _ => exact aw_tableIn (off := 773) (tgt := 813) dL_law_40 (by decide) (by decide) (by decide) rfl (lc_weeks S hX hM G hi hb k0)
    | 18, _ => exact aw_tableIn (off := 810) (tgt := 850) dL_law_40 (by decide) (by decide) (by decide) rfl (lc_when S hX hM G hi hb k0)
    | 19, _ => exact aw_tableIn (off := 875) (tgt := 915) dL_law_40 (by decide) (by decide) (by decide) rfl (lc_tip S hX hM G hi hb k0)
    | 20, _ => exact aw_tableIn (off := 900) (tgt := 940) dL_law_40 (by decide) (by decide) (by decide) rfl (lc_would S hX hM G hi hb k0)
    | 21, _ => exact aw_tableIn (off := 937) (tgt := 977) dL_law_40 (by decide) (by decide) (by decide) rfl (lc_top S hX hM G hi hb k0)
    | 22, _ => exact aw_tableIn (off := 962) (tgt := 1002) dL_law_40 (by decide) (by decide) (by decide) rfl (lc_lot S hX hM G hi hb k0)
    | 23, _ => exact aw_tableIn (off := 999) (tgt := 1039) dL_law_40 (by decide) (by decide) (by decide) rfl (lc_fits S hX hM G hi hb k0)
    | 24, _ => exact aw_tableIn (off := 1036) (tgt := 1076) dL_law_40 (by decide) (by decide) (by decide) rfl (lc_ward S hX hM G hi hb k0)
    | 25, _ => exact aw_tableIn (off := 1077) (tgt := 1117) dL_law_40 (by decide) (by decide) (by decide) rfl (lc_envy S hX hM G hi hb k0)
    | 26, _ => exact aw_tableIn (off := 1102) (tgt := 1142) dL_law_40 (by decide) (by decide) (by decide) rfl (lc_lever S hX hM G hi hb k0)
    | 27, _ => exact aw_tableIn (off := 1139) (tgt := 1179) dL_law_40 (by decide) (by decide) (by decide) rfl (lc_queue S hX hM G hi hb k0)
    | 28, _ => exact aw_tableIn (off := 1164) (tgt := 1204) dL_law_40 (by decide) (by decide) (by decide) rfl (lc_most S hX hM G hi hb k0)
    | 29, _ => exact aw_tableIn (off := 1177) (tgt := 1217) dL_law_40 (by decide) (by decide) (by decide) rfl (lc_gift S hX hM G hi hb k0)
    | 30, _ => exact aw_tableIn (off := 1202) (tgt := 1242) dL_law_40 (by decide) (by decide) (by decide) rfl (lc_trade S hX hM G hi hb k0)
    | 31, _ => exact aw_tableIn (off := 1227) (tgt := 1267) dL_law_40 (by decide) (by decide) (by decide) rfl (lc_trades S hX hM G hi hb k0)
    | 32, _ => exact aw_tableIn (off := 1252) (tgt := 1292) dL_law_40 (by decide) (by decide) (by decide) rfl (lc_longest S hX hM G hi hb k0)
    | 33, _ => exact aw_tableIn (off := 1305) (tgt := 1345) dL_law_40 (by decide) (by decide) (by decide) rfl (lc_gap S hX hM G hi hb k0)
    | 34, _ => exact aw_tableIn (off := 1342) (tgt := 1382) dL_law_40 (by decide) (by decide) (by decide) rfl (lc_bid S hX hM G hi hb k0)
    | 35, _ => exact aw_tableIn (off := 1379) (tgt := 1419) dL_law_40 (by decide) (by decide) (by decide) rfl (lc_unbid S hX hM G hi hb k0)
    | 36, _ => exact aw_tableIn (off := 1416) (tgt := 1456) dL_law_40 (by decide) (by decide) (by decide) rfl (lc_auto S hX hM G hi hb k0)
    | 37, _ => exact aw_tableIn (off := 1429) (tgt := 1469) dL_law_40 (by decide) (by decide) (by decide) rfl (lc_week S hX hM G hi hb k0)
    | 38, _ => exact aw_tableIn (off := 1442) (tgt := 1482) dL_law_40 (by decide) (by decide) (by decide) rfl (lc_wish S hX hM G hi hb k0)
    | 39, _ => exact aw_tableIn (off := 1479) (tgt := 1519) dL_law_40 (by decide) (by decide) (by decide) rfl (lc_unwish S hX hM G hi hb k0)
    | 40, _ => exact aw_tableIn (off := 1516) (tgt := 1556) dL_law_40 (by decide) (by decide) (by decide) rfl (lc_leave S hX hM G hi hb k0)
    | 41, _ => exact aw_tableIn (off := 1541) (tgt := 1581) dL_law_40 (by decide) (by decide) (by decide) rfl (lc_shut S hX hM G hi hb k0)
    | 42, _ => exact aw_tableIn (off := 1594) (tgt := 1634) dL_law_40 (by decide) (by decide) (by decide) rfl (lc_need S hX hM G hi hb k0)
    | 43, _ => exact aw_tableIn (off := 1631) (tgt := 1671) dL_law_40 (by decide) (by decide) (by decide) rfl (lc_rules S hX hM G hi hb k0)
    | 44, _ => exact aw_tableIn (off := 1668) (tgt := 1708) dL_law_40 (by decide) (by decide) (by decide) rfl (lc_undo S hX hM G hi hb k0)
    | 45, _ => exact aw_tableIn (off := 1681) (tgt := 1721) dL_law_40 (by decide) (by decide) (by decide) rfl (lc_print S hX hM G hi hb k0)
    | 46, _ => exact aw_tableIn (off := 1694) (tgt := 1734) dL_law_40 (by decide) (by decide) (by decide) rfl (lc_out S hst hX hM G hk (by decide) hi ⟨by omega, by omega⟩ (fun z' J M v5 v6 G2 => cont z' (cl + 1) (sl + 6) J M v5 v6 (by omega) (by omega) G2))
    | k + 47, h64 =>
      refine aw_tableOut (tgt := 1790) dL_law_40 (Or.inr ?_) rfl (k0 _ _ G)
      have q := Int32.lt_iff_toInt_lt.mp ((nI_ltI (a := 46) (b := k + 47) (by decide) (by omega)).mpr (by omega))
      exact q
end LAWL
