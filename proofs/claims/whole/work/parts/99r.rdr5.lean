/-! the class: names sought; faults told -/
def oR (b : Nat) (f : Option Nat) : Value := match f with
  | some h => .ref (b + 2 + h)
  | none => .null
def hmF (Q : Nat → Int64) (w : Int64) (a : Nat) : Option Nat := if fa_first (fun h => decide (Q h = w)) a < a then some (fa_first (fun h => decide (Q h = w)) a) else none
section ClsS
variable {z n b : Nat} {sh : Shp} {I : MI} {L : ML} {N : Nat → Int32} {Q : Nat → Int64}
set_option maxHeartbeats 4000000 in
set_option maxRecDepth 100000 in
theorem sX7_homeNamed (hS : IsS n sh b) (hC : CtS I L b N Q) (hN : Cn N) {w : Int64}  : CM yX7_homeNamed cX7_homeNamed 4 (Option.some (.object "HomesQueue$Home")) 1 0 0 [.ref b, .long w] z n sh I L (Pst (some (oR b (hmF Q w (nHo N)))) z n sh I L) := by
  refine CM.go [some (.ref b), some (.long w), none, none] rfl rfl (Nat.le_of_ble_eq_true rfl) (fun X g q => ?_)
  have h8 := hN.p8
  have h10 := hN.h10
  have loop : ∀ i, i ≤ nHo N → fa_first (fun h => decide (Q h = w)) i = i → AW X g RX7 cX7_homeNamed 4 (1, 0, 0) (z, n, sh, 0, 0) (I) (L) 2 [some (.ref b), some (.long w), none, some (.int (nI i))] [] := by
    refine up_loop (fun i hi ih hf => ?_)
    refine aw_iload_n dX7_homeNamed_2 rfl ?_
    refine aw_aload_n dX7_homeNamed_3 rfl ?_
    refine aw_getI dX7_homeNamed_4 fX7_59 hS.k hS.b0 rfl ?_
    refine AW.top (hC.nh.trans hN.h) ?_
    refine aw_icmp_ge (tgt := 37) dX7_homeNamed_7 rfl (fun c7 => ?_) (fun c7 => ?_)
    · have e := ge_t rfl (by omega) hi c7
      subst e
      refine aw_null dX7_homeNamed_37 ?_
      refine aw_aret q rfl (Or.inl rfl) dX7_homeNamed_38 ⟨Nat.le_refl _, Nat.le_refl _⟩ ?_
      have e8 : hmF Q w (nHo N) = none := by unfold hmF; rw [hf, if_neg (Nat.lt_irrefl _)]
      rw [e8]
      exact Pst.rf
    · have hlt := ge_f rfl (by omega) hi c7
      refine aw_aload_n dX7_homeNamed_10 rfl ?_
      refine aw_getR (b := b + 1) dX7_homeNamed_11 fX7_11 hS.k hS.b0 rfl hS.r0 ?_
      refine aw_iload_n dX7_homeNamed_14 rfl ?_
      refine aw_homes (h := i) hS rfl (by omega) dX7_homeNamed_15 ?_
      refine aw_getL dX7_homeNamed_16 fX7_86 (hS.ho (by omega)) (hS.hb (by omega)) rfl ?_
      refine AW.topL (hC.qh (by omega)) ?_
      refine aw_lload_n dX7_homeNamed_19 rfl ?_
      refine aw_lcmp dX7_homeNamed_20 ?_
      refine aw_if_ne (tgt := 31) dX7_homeNamed_21 rfl (fun c21 => ?_) (fun c21 => ?_)
      · skip
        refine aw_iinc dX7_homeNamed_31 rfl (ginc rfl) (by decide) rfl ?_
        refine aw_goto (tgt := 2) dX7_homeNamed_34 rfl ?_
        exact ih hlt (fa_first_no1 hf (by rw [decide_eq_false (fun z => c21 (lg_cmp0.mpr z))]; exact Bool.noConfusion))
      · have e9 := fa_first_yes1 hf (decide_eq_true (lg_cmp0.mp c21)) hlt
        refine aw_aload_n dX7_homeNamed_24 rfl ?_
        refine aw_getR (b := b + 1) dX7_homeNamed_25 fX7_11 hS.k hS.b0 rfl hS.r0 ?_
        refine aw_iload_n dX7_homeNamed_28 rfl ?_
        refine aw_homes (h := i) hS rfl (by omega) dX7_homeNamed_29 ?_
        refine aw_aret q rfl (Or.inr ⟨_, rfl⟩) dX7_homeNamed_30 ⟨Nat.le_refl _, Nat.le_refl _⟩ ?_
        have e8 : hmF Q w (nHo N) = some i := by unfold hmF; rw [e9, if_pos hlt]
        rw [e8]
        exact Pst.rf
  refine aw_iconst (v := 0) dX7_homeNamed_0 rfl ?_
  refine aw_istore_n dX7_homeNamed_1 (by decide) rfl ?_
  exact loop 0 (Nat.zero_le _) rfl
set_option maxHeartbeats 4000000 in
set_option maxRecDepth 100000 in
theorem sX7_isTaken (hS : IsS n sh b) (hC : CtS I L b N Q) (hN : Cn N) {w : Int64}  : CM yX7_isTaken cX7_isTaken 4 (Option.some .boolean) 2 0 0 [.ref b, .long w] z n sh I L (Pst (some (.int (bI (pTaken Q w (nHo N) (nPo N))))) z n sh I L) := by
  refine CM.go [some (.ref b), some (.long w), none, none] rfl rfl (Nat.le_of_ble_eq_true rfl) (fun X g q => ?_)
  have h8 := hN.p8
  have h10 := hN.h10
  have loop : ∀ i, i ≤ nPo N → fa_first (fun q => decide (Q (10 + q) = w)) i = i → AW X g RX7 cX7_isTaken 4 (2, 0, 0) (z, n, sh, 0, 0) (I) (L) 2 [some (.ref b), some (.long w), none, some (.int (nI i))] [] := by
    refine up_loop (fun i hi ih hf => ?_)
    refine aw_iload_n dX7_isTaken_2 rfl ?_
    refine aw_aload_n dX7_isTaken_3 rfl ?_
    refine aw_getI dX7_isTaken_4 fX7_62 hS.k hS.b0 rfl ?_
    refine AW.top (hC.np.trans hN.p) ?_
    refine aw_icmp_ge (tgt := 32) dX7_isTaken_7 rfl (fun c7 => ?_) (fun c7 => ?_)
    · have e := ge_t rfl (by omega) hi c7
      subst e
      have hpt : pTaken Q w (nHo N) (nPo N) = decide (pHere Q w (nHo N) < nHo N) := by
        unfold pTaken
        rw [hf, decide_eq_false (Nat.lt_irrefl _), Bool.false_or]
      refine aw_aload_n dX7_isTaken_32 rfl ?_
      refine aw_lload_n dX7_isTaken_33 rfl ?_
      refine aw_cV dX7_isTaken_34 kX7_91 mX7_homeNamed (sX7_homeNamed hS hC hN) (Nat.le_of_ble_eq_true rfl) hS.k ⟨by decide, rfl⟩ hS.b0 rfl rfl (Nat.le_of_ble_eq_true rfl) ⟨Nat.le_refl _, Nat.le_refl _⟩ ?_
      cases e8 : hmF Q w (nHo N) with
      | none =>
        refine aw_ifnullN (tgt := 44) dX7_isTaken_37 rfl ?_
        refine aw_iconst (v := 0) dX7_isTaken_44 rfl ?_
        refine aw_zret q rfl (by decide) dX7_isTaken_45 ⟨Nat.le_refl _, Nat.le_refl _⟩ ?_
        refine Pst.iv ?_
        rw [hpt]
        unfold hmF at e8
        by_cases z9 : pHere Q w (nHo N) < nHo N
        · have z8 : fa_first (fun h => decide (Q h = w)) (nHo N) < nHo N := z9
          rw [if_pos z8] at e8
          cases e8
        · rw [decide_eq_false z9]
          rfl
      | some h =>
        refine aw_ifnull dX7_isTaken_37 ?_
        refine aw_iconst (v := 1) dX7_isTaken_40 rfl ?_
        refine aw_goto (tgt := 45) dX7_isTaken_41 rfl ?_
        refine aw_zret q rfl (by decide) dX7_isTaken_45 ⟨Nat.le_refl _, Nat.le_refl _⟩ ?_
        refine Pst.iv ?_
        rw [hpt]
        unfold hmF at e8
        by_cases z9 : pHere Q w (nHo N) < nHo N
        · rw [decide_eq_true z9]
          rfl
        · have z8 : ¬ fa_first (fun h => decide (Q h = w)) (nHo N) < nHo N := z9
          rw [if_neg z8] at e8
          cases e8
    · have hlt := ge_f rfl (by omega) hi c7
      refine aw_aload_n dX7_isTaken_10 rfl ?_
      refine aw_getR (b := b + 12) dX7_isTaken_11 fX7_22 hS.k hS.b0 rfl hS.r1 ?_
      refine aw_iload_n dX7_isTaken_14 rfl ?_
      refine aw_houses (p := i) hS rfl (by omega) dX7_isTaken_15 ?_
      refine aw_getL dX7_isTaken_16 fX7_90 (hS.po (by omega)) (hS.pb (by omega)) rfl ?_
      refine AW.topL (hC.qp (by omega)) ?_
      refine aw_lload_n dX7_isTaken_19 rfl ?_
      refine aw_lcmp dX7_isTaken_20 ?_
      refine aw_if_ne (tgt := 26) dX7_isTaken_21 rfl (fun c21 => ?_) (fun c21 => ?_)
      · skip
        refine aw_iinc dX7_isTaken_26 rfl (ginc rfl) (by decide) rfl ?_
        refine aw_goto (tgt := 2) dX7_isTaken_29 rfl ?_
        exact ih hlt (fa_first_no1 hf (by rw [decide_eq_false (fun z => c21 (lg_cmp0.mpr z))]; exact Bool.noConfusion))
      · have e9 := fa_first_yes1 hf (decide_eq_true (lg_cmp0.mp c21)) hlt
        refine aw_iconst (v := 1) dX7_isTaken_24 rfl ?_
        refine aw_zret q rfl (by decide) dX7_isTaken_25 ⟨Nat.le_refl _, Nat.le_refl _⟩ ?_
        refine Pst.iv ?_
        have e8 : pTaken Q w (nHo N) (nPo N) = true := by
          unfold pTaken
          rw [e9, decide_eq_true hlt, Bool.true_or]
        rw [e8]
        rfl
  refine aw_iconst (v := 0) dX7_isTaken_0 rfl ?_
  refine aw_istore_n dX7_isTaken_1 (by decide) rfl ?_
  exact loop 0 (Nat.zero_le _) rfl
end ClsS
section ClsS
variable {z n : Nat} {sh : Shp} {I : MI} {L : ML} {N : Nat → Int32} {Q : Nat → Int64}
set_option maxHeartbeats 4000000 in
set_option maxRecDepth 100000 in
theorem sX6_wrong (hX : IsX n sh) {x : Int32}  : CM yX6_wrong cX6_wrong 2 (Option.some .boolean) 1 0 0 [.ref 479, .int x] z n sh I L (Pst (some (.int (bI false))) z n sh (upI (upI I 479 3 x) 479 4 (I 479 8)) L) := by
  refine CM.go [some (.ref 479), some (.int x)] rfl rfl (Nat.le_of_ble_eq_true rfl) (fun X g q => ?_)
  refine aw_aload_n dX6_wrong_0 rfl ?_
  refine aw_iload_n dX6_wrong_1 rfl ?_
  refine aw_putI dX6_wrong_2 fX6_37 hX.rdr.1 (hX.lt (by decide)) rfl rfl ?_
  refine aw_aload_n dX6_wrong_5 rfl ?_
  refine aw_aload_n dX6_wrong_6 rfl ?_
  refine aw_getI dX6_wrong_7 fX6_188 hX.rdr.1 (hX.lt (by decide)) rfl ?_
  refine AW.top (upI_n (Or.inr (by decide))) ?_
  refine aw_putI dX6_wrong_10 fX6_41 hX.rdr.1 (hX.lt (by decide)) rfl rfl ?_
  refine aw_iconst (v := 0) dX6_wrong_13 rfl ?_
  refine aw_zret q rfl (by decide) dX6_wrong_14 ⟨Nat.le_refl _, Nat.le_refl _⟩ ?_
  exact Pst.rf
end ClsS
