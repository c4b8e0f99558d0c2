/-! the class: a state cleared -/
def clM (I : MI) (b : Nat) : MI := upI (upI (upI (upI (upI (upI (upA I (b + 29) (cpA ruleUntold (I (b + 29)) 6)) (b + 30) 2 0) (b + 32) 2 0) b 5 0) b 6 0) b 7 0) b 8 0
section ClsS
variable {z n b : Nat} {sh : Shp} {I : MI} {L : ML} {N : Nat → Int32} {Q : Nat → Int64}
set_option maxHeartbeats 4000000 in
set_option maxRecDepth 100000 in
theorem sX7_clear (hS : IsS n sh b)  : CM yX7_clear cX7_clear 1 (Option.none : Option FieldType) 1 0 0 [.ref b] z n sh I L (Pst none z n sh (clM I b) L) := by
  refine CM.go [some (.ref b)] rfl rfl (Nat.le_of_ble_eq_true rfl) (fun X g q => ?_)
  refine aw_sUntold dX7_clear_0 ?_
  refine aw_iconst (v := 0) dX7_clear_3 rfl ?_
  refine aw_aload_n dX7_clear_4 rfl ?_
  refine aw_getR (b := b + 29) dX7_clear_5 fX7_27 hS.k hS.b0 rfl hS.r2 ?_
  refine aw_iconst (v := 0) dX7_clear_8 rfl ?_
  refine aw_bipush (v := 6) dX7_clear_9 rfl ?_
  refine aw_acopyU dX7_clear_11 acp_X7 hS.uk (hS.lt (k := 29) (by decide)) (by rw [hS.ul]; decide) (Nat.le_of_ble_eq_true rfl) (Nat.le_of_ble_eq_true rfl) ?_
  refine aw_aload_n dX7_clear_14 rfl ?_
  refine aw_getR (b := b + 30) dX7_clear_15 fX7_36 hS.k hS.b0 rfl hS.r3 ?_
  refine aw_iconst (v := 0) dX7_clear_18 rfl ?_
  refine aw_putI dX7_clear_19 fX7_55 hS.tk (hS.lt (k := 30) (by decide)) rfl rfl ?_
  refine aw_aload_n dX7_clear_22 rfl ?_
  refine aw_getR (b := b + 32) dX7_clear_23 fX7_40 hS.k hS.b0 rfl hS.r4 ?_
  refine aw_iconst (v := 0) dX7_clear_26 rfl ?_
  refine aw_putI dX7_clear_27 fX7_55 hS.ok (hS.lt (k := 32) (by decide)) rfl rfl ?_
  refine aw_aload_n dX7_clear_30 rfl ?_
  refine aw_iconst (v := 0) dX7_clear_31 rfl ?_
  refine aw_putI dX7_clear_32 fX7_59 hS.k hS.b0 rfl rfl ?_
  refine aw_aload_n dX7_clear_35 rfl ?_
  refine aw_iconst (v := 0) dX7_clear_36 rfl ?_
  refine aw_putI dX7_clear_37 fX7_62 hS.k hS.b0 rfl rfl ?_
  refine aw_aload_n dX7_clear_40 rfl ?_
  refine aw_iconst (v := 0) dX7_clear_41 rfl ?_
  refine aw_putI dX7_clear_42 fX7_65 hS.k hS.b0 rfl rfl ?_
  refine aw_aload_n dX7_clear_45 rfl ?_
  refine aw_iconst (v := 0) dX7_clear_46 rfl ?_
  refine aw_putI dX7_clear_47 fX7_68 hS.k hS.b0 rfl rfl ?_
  refine aw_vret q rfl dX7_clear_50 ⟨Nat.le_refl _, Nat.le_refl _⟩ ?_
  exact Pst.rf
end ClsS
