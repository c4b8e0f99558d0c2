/-! the class: names sought; faults told -/
def oR (b : Nat) (f : Option Nat) : Value := match f with
  | some h => .ref (b + 2 + h)
  | none => .null
def hmF (Q : Nat → Int64) (w : Int64) (a : Nat) : Option Nat := if fa_first (fun h => decide (Q h = w)) a < a then some (fa_first (fun h => decide (Q h = w)) a) else none
section ClsS
variable {z n b : Nat} {sh : Shp} {I : MI} {L : ML} {N : Nat → Int32} {Q : Nat → Int64}
set_option maxHeartbeats 4000000 in
set_option maxRecDepth 100000 in
theorem sX7_homeNamed (hS : IsS n sh b) (hC : CtS I L b N Q) (hN : Cn N) {w : Int64}  : CM yX7_homeNamed cX7_homeNamed 4 (Option.some (.object "HomesQueue$Home")) 1 0 0 [.ref b, .long w] z n sh I L (Pst (some (oR b (hmF Q w (nHo N)))) z n sh I L) := by
  refine CM.go [some (.ref b), some (.long w), none, none] rfl rfl (Nat.le_of_ble_eq_true rfl) (fun X g q => ?_)
  have h8 := hN.p8
  have h10 := hN.h10
  have loop : ∀ i, i ≤ nHo N → fa_first (fun h => decide (Q h = w)) i = i → AW X g RX7 cX7_homeNamed 4 (1, 0, 0) (z, n, sh, 0, 0) (I) (L) 2 [some (.ref b), some (.long w), none, some (.int (nI i))] [] := by
    refine up_loop (fun i hi ih hf => ?_)
    refine aw_iload_n dX7_homeNamed_2 rfl ?_
    refine aw_aload_n dX7_homeNamed_3 rfl ?_
    refine aw_getI dX7_homeNamed_4 fX7_59 hS.k hS.b0 rfl ?_
    refine AW.top (hC.nh.trans hN.h) ?_
    refine aw_icmp_ge (tgt := 37) dX7_homeNamed_7 rfl (fun c7 => ?_) (fun c7 => ?_)
    · have e := ge_t rfl (by omega) hi c7
      subst e
      refine aw_null dX7_homeNamed_37 ?_
      refine aw_aret q rfl (Or.inl rfl) dX7_homeNamed_38 ⟨Nat.le_refl _, Nat.le_refl _⟩ ?_
      have e8 : hmF Q w (nHo N) = none := by unfold hmF; rw [hf, if_neg (Nat.lt_irrefl _)]
      rw [e8]
      exact Pst.rf
    · have hlt := ge_f rfl (by omega) hi c7
      refine aw_aload_n dX7_homeNamed_10 rfl ?_
      refine aw_getR (b := b + 1) dX7_homeNamed_11 fX7_11 hS.k hS.b0 rfl hS.r0 ?_
      refine aw_iload_n dX7_homeNamed_14 rfl ?_
      refine aw_homes (h := i) hS rfl (by omega) dX7_homeNamed_15 ?_
      refine aw_getL dX7_homeNamed_16 fX7_86 (hS.ho (by omega)) (hS.hb (by omega)) rfl ?_
      refine AW.topL (hC.qh (by omega)) ?_
      refine aw_lload_n dX7_homeNamed_19 rfl ?_
      refine aw_lcmp dX7_homeNamed_20 ?_
      refine aw_if_ne (tgt := 31) dX7_homeNamed_21 rfl (fun c21 => ?_) (fun c21 => ?_)
      · skip
        refine aw_iinc dX7_homeNamed_31 rfl (ginc rfl) (by decide) rfl ?_
        refine aw_goto (tgt := 2) dX7_homeNamed_34 rfl ?_
        exact ih hlt (fa_first_no1 hf (by rw [decide_eq_false (fun z => c21 (lg_cmp0.mpr z))]; exact Bool.noConfusion))
      · have e9 := fa_first_yes1 hf (decide_eq_true (lg_cmp0.mp c21)) hlt
        refine aw_aload_n dX7_homeNamed_24 rfl ?_
        refine aw_getR (b := b + 1) dX7_homeNamed_25 fX7_11 hS.k hS.b0 rfl hS.r0 ?_
        refine aw_iload_n dX7_homeNamed_28 rfl ?_
        refine aw_homes (h := i) hS rfl (by omega) dX7_homeNamed_29 ?_
        refine aw_aret q rfl (Or.inr ⟨_, rfl⟩) dX7_homeNamed_30 ⟨Nat.le_refl _, Nat.le_refl _⟩ ?_
        have e8 : hmF Q w (nHo N) = some i := by unfold hmF; rw [e9, if_pos hlt]
        rw [e8]
        exact Pst.rf
  refine aw_iconst (v := 0) dX7_homeNamed_0 rfl ?_
  refine aw_istore_n dX7_homeNamed_1 (by decide) rfl ?_
  exact loop 0 (Nat.zero_le _) rfl
end ClsS
