/-! the class: a home, a house begun -/
def bgH (I : MI) (a : Nat) : MI := upI (upI (upI (upI (upI (upI (upI (upI I (a) 3 (0)) (a) 4 (0)) (a) 5 (-1)) (a) 6 (0)) (a) 7 (0)) (a) 8 (0)) (a) 9 (0)) (a) 10 (0)
def bgP (I : MI) (a : Nat) : MI := upI (upI (upI (upI (upI (upI (upI (upI (upI (upI (upI I (a) 3 (0)) (a) 5 (0)) (a) 6 (0)) (a) 7 (0)) (a) 8 (0)) (a) 9 (-1)) (a) 10 (0)) (a) 11 (0)) (a) 12 (0)) (a) 13 (0)) (a) 14 (0)
section ClsS
variable {z n b : Nat} {sh : Shp} {I : MI} {L : ML} {N : Nat → Int32} {Q : Nat → Int64}
set_option maxHeartbeats 4000000 in
set_option maxRecDepth 100000 in
theorem sX2_begin (hS : IsS n sh b) {w : Int64} {h : Nat} (hh : h < 10)  : CM yX2_begin cX2_begin 3 (Option.none : Option FieldType) 1 0 0 [.ref (b + 2 + h), .long w] z n sh I L (Pst none z n sh (bgH I (b + 2 + h)) (upL L (b + 2 + h) 2 w)) := by
  refine CM.go [some (.ref (b + 2 + h)), some (.long w), none] rfl rfl (Nat.le_of_ble_eq_true rfl) (fun X g q => ?_)
  refine aw_aload_n dX2_begin_0 rfl ?_
  refine aw_lload_n dX2_begin_1 rfl ?_
  refine aw_putL dX2_begin_2 fX2_28 (hS.ho (by omega)) (hS.hb (by omega)) rfl rfl ?_
  refine aw_aload_n dX2_begin_5 rfl ?_
  refine aw_iconst (v := 0) dX2_begin_6 rfl ?_
  refine aw_putI dX2_begin_7 fX2_32 (hS.ho (by omega)) (hS.hb (by omega)) rfl rfl ?_
  refine aw_aload_n dX2_begin_10 rfl ?_
  refine aw_iconst (v := 0) dX2_begin_11 rfl ?_
  refine aw_putI dX2_begin_12 fX2_35 (hS.ho (by omega)) (hS.hb (by omega)) rfl rfl ?_
  refine aw_aload_n dX2_begin_15 rfl ?_
  refine aw_iconst (v := (-1)) dX2_begin_16 rfl ?_
  refine aw_putI dX2_begin_17 fX2_18 (hS.ho (by omega)) (hS.hb (by omega)) rfl rfl ?_
  refine aw_aload_n dX2_begin_20 rfl ?_
  refine aw_iconst (v := 0) dX2_begin_21 rfl ?_
  refine aw_putZ dX2_begin_22 fX2_21 (hS.ho (by omega)) (hS.hb (by omega)) rfl rfl (by decide) ?_
  refine aw_aload_n dX2_begin_25 rfl ?_
  refine aw_iconst (v := 0) dX2_begin_26 rfl ?_
  refine aw_putZ dX2_begin_27 fX2_25 (hS.ho (by omega)) (hS.hb (by omega)) rfl rfl (by decide) ?_
  refine aw_aload_n dX2_begin_30 rfl ?_
  refine aw_iconst (v := 0) dX2_begin_31 rfl ?_
  refine aw_putI dX2_begin_32 fX2_38 (hS.ho (by omega)) (hS.hb (by omega)) rfl rfl ?_
  refine aw_aload_n dX2_begin_35 rfl ?_
  refine aw_iconst (v := 0) dX2_begin_36 rfl ?_
  refine aw_putI dX2_begin_37 fX2_41 (hS.ho (by omega)) (hS.hb (by omega)) rfl rfl ?_
  refine aw_aload_n dX2_begin_40 rfl ?_
  refine aw_iconst (v := 0) dX2_begin_41 rfl ?_
  refine aw_putI dX2_begin_42 fX2_44 (hS.ho (by omega)) (hS.hb (by omega)) rfl rfl ?_
  refine aw_vret q rfl dX2_begin_45 ⟨Nat.le_refl _, Nat.le_refl _⟩ ?_
  exact Pst.rf
set_option maxHeartbeats 4000000 in
set_option maxRecDepth 100000 in
theorem sX3_begin (hS : IsS n sh b) {w : Int64} {p : Nat} (hp : p < 8)  : CM yX3_begin cX3_begin 3 (Option.none : Option FieldType) 1 0 0 [.ref (b + 13 + 2 * p), .long w] z n sh I L (Pst none z n sh (bgP I (b + 13 + 2 * p)) (upL L (b + 13 + 2 * p) 4 w)) := by
  refine CM.go [some (.ref (b + 13 + 2 * p)), some (.long w), none] rfl rfl (Nat.le_of_ble_eq_true rfl) (fun X g q => ?_)
  refine aw_aload_n dX3_begin_0 rfl ?_
  refine aw_lload_n dX3_begin_1 rfl ?_
  refine aw_putL dX3_begin_2 fX3_68 (hS.po (by omega)) (hS.pb (by omega)) rfl rfl ?_
  refine aw_aload_n dX3_begin_5 rfl ?_
  refine aw_iconst (v := 0) dX3_begin_6 rfl ?_
  refine aw_putI dX3_begin_7 fX3_50 (hS.po (by omega)) (hS.pb (by omega)) rfl rfl ?_
  refine aw_aload_n dX3_begin_10 rfl ?_
  refine aw_iconst (v := 0) dX3_begin_11 rfl ?_
  refine aw_putI dX3_begin_12 fX3_72 (hS.po (by omega)) (hS.pb (by omega)) rfl rfl ?_
  refine aw_aload_n dX3_begin_15 rfl ?_
  refine aw_iconst (v := 0) dX3_begin_16 rfl ?_
  refine aw_putI dX3_begin_17 fX3_37 (hS.po (by omega)) (hS.pb (by omega)) rfl rfl ?_
  refine aw_aload_n dX3_begin_20 rfl ?_
  refine aw_iconst (v := 0) dX3_begin_21 rfl ?_
  refine aw_putI dX3_begin_22 fX3_75 (hS.po (by omega)) (hS.pb (by omega)) rfl rfl ?_
  refine aw_aload_n dX3_begin_25 rfl ?_
  refine aw_iconst (v := 0) dX3_begin_26 rfl ?_
  refine aw_putI dX3_begin_27 fX3_78 (hS.po (by omega)) (hS.pb (by omega)) rfl rfl ?_
  refine aw_aload_n dX3_begin_30 rfl ?_
  refine aw_iconst (v := (-1)) dX3_begin_31 rfl ?_
  refine aw_putI dX3_begin_32 fX3_22 (hS.po (by omega)) (hS.pb (by omega)) rfl rfl ?_
  refine aw_aload_n dX3_begin_35 rfl ?_
  refine aw_iconst (v := 0) dX3_begin_36 rfl ?_
  refine aw_putI dX3_begin_37 fX3_81 (hS.po (by omega)) (hS.pb (by omega)) rfl rfl ?_
  refine aw_aload_n dX3_begin_40 rfl ?_
  refine aw_iconst (v := 0) dX3_begin_41 rfl ?_
  refine aw_putI dX3_begin_42 fX3_29 (hS.po (by omega)) (hS.pb (by omega)) rfl rfl ?_
  refine aw_aload_n dX3_begin_45 rfl ?_
  refine aw_iconst (v := 0) dX3_begin_46 rfl ?_
  refine aw_putZ dX3_begin_47 fX3_25 (hS.po (by omega)) (hS.pb (by omega)) rfl rfl (by decide) ?_
  refine aw_aload_n dX3_begin_50 rfl ?_
  refine aw_iconst (v := 0) dX3_begin_51 rfl ?_
  refine aw_putI dX3_begin_52 fX3_40 (hS.po (by omega)) (hS.pb (by omega)) rfl rfl ?_
  refine aw_aload_n dX3_begin_55 rfl ?_
  refine aw_iconst (v := 0) dX3_begin_56 rfl ?_
  refine aw_putI dX3_begin_57 fX3_84 (hS.po (by omega)) (hS.pb (by omega)) rfl rfl ?_
  refine aw_vret q rfl dX3_begin_60 ⟨Nat.le_refl _, Nat.le_refl _⟩ ?_
  exact Pst.rf
end ClsS
