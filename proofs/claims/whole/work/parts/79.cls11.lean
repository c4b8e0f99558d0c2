/-! the class: copies -/
/-- fields of one cell taken from another -/
def cpS (I : MI) (a c : Nat) (l : List Nat) : MI := upA I a (fun k => if l.contains k then I c k else I a k)
theorem cpS_nil {I : MI} {a c : Nat} : I = cpS I a c [] := by
  funext x
  unfold cpS upA
  by_cases h : x = a
  · subst h
    rw [if_pos rfl]
    rfl
  · rw [if_neg h]
theorem cpS_put {I : MI} {a c k : Nat} {l : List Nat} : upI (cpS I a c l) a k (I c k) = cpS I a c (k :: l) := by
  funext x j
  rw [upI_rd]
  unfold cpS upA
  by_cases h : x = a
  · subst h
    rw [if_pos rfl, if_pos rfl]
    by_cases hj : j = k
    · subst hj
      rw [if_pos ⟨rfl, rfl⟩, if_pos (by simp)]
    · rw [if_neg (fun q => hj q.2)]
      simp [List.contains_cons, hj]
  · rw [if_neg (fun q => h q.1), if_neg h, if_neg h]
theorem cpS_src {I : MI} {a c k : Nat} {l : List Nat} (h : c ≠ a) : cpS I a c l c k = I c k := by
  unfold cpS
  rw [upA_ne h]
theorem cpS_off {I : MI} {a c x : Nat} {l : List Nat} (h : x ≠ a) : cpS I a c l x = I x := upA_ne h
theorem cpS_in {I : MI} {a c k : Nat} {l : List Nat} (h : l.contains k = true) : cpS I a c l a k = I c k := by
  unfold cpS
  rw [upA_self, if_pos h]
theorem cpS_out {I : MI} {a c k : Nat} {l : List Nat} (h : l.contains k = false) : cpS I a c l a k = I a k := by
  unfold cpS
  rw [upA_self, h]
  rfl
theorem imin_le {len k : Nat} (h : k ≤ len) (hl : len < 2 ^ 31) : imin (nI len) (nI k) = nI k := by
  unfold imin
  by_cases e : k < len
  · rw [if_pos ((nI_ltI (by omega) hl).mpr e)]
  · rw [if_neg (fun q => e ((nI_ltI (by omega) hl).mp q)), show len = k by omega]
def TbS (n : Nat) (sh : Shp) (u len : Nat) : Prop := (sh u).1 = 8 ∧ u + 1 < n ∧ (sh u).2.2 1 = some (u + 1) ∧ (sh (u + 1)).1 = 100 ∧ (sh (u + 1)).2.1 = len
def FrL (b : Nat) (L M : ML) : Prop := ∀ a, (a < b ∨ b + 34 ≤ a) → M a = L a
theorem upL_n {L : ML} {a k c : Nat} {v : Int64} (h : c ≠ a) : upL L a k v c = L c := if_neg h
theorem upL_s {L : ML} {a k : Nat} {v : Int64} : upL L a k v a k = v := by
  unfold upL vp_updL
  rw [if_pos rfl, if_pos rfl]
section ClsS
variable {z n : Nat} {sh : Shp} {I : MI} {L : ML}
set_option maxHeartbeats 4000000 in
set_option maxRecDepth 100000 in
theorem sX2_copy {a c : Nat} (ka : (sh a).1 = 2) (ha : a < n) (kc : (sh c).1 = 2) (hc : c < n) (hne : c ≠ a) (z6 : z01 (I c 6)) (z7 : z01 (I c 7))  : CM yX2_copy cX2_copy 2 (Option.none : Option FieldType) 1 0 0 [.ref a, .ref c] z n sh I L (Pst none z n sh (cpS I a c [10, 9, 8, 7, 6, 5, 4, 3]) (upL L a 2 (L c 2)) ) := by
  refine CM.go [some (.ref a), some (.ref c)] rfl rfl (Nat.le_of_ble_eq_true rfl) (fun X g q => ?_)
  refine AW.mem (cpS_nil (a := a) (c := c)) ?_
  refine aw_aload_n dX2_copy_0 rfl ?_
  refine aw_aload_n dX2_copy_1 rfl ?_
  refine aw_getL dX2_copy_2 fX2_28 kc hc rfl ?_
  refine aw_putL dX2_copy_5 fX2_28 ka ha rfl rfl ?_
  refine aw_aload_n dX2_copy_8 rfl ?_
  refine aw_aload_n dX2_copy_9 rfl ?_
  refine aw_getI dX2_copy_10 fX2_32 kc hc rfl ?_
  refine AW.top (cpS_src hne) ?_
  refine aw_putI dX2_copy_13 fX2_32 ka ha rfl rfl ?_
  refine AW.mem cpS_put ?_
  refine aw_aload_n dX2_copy_16 rfl ?_
  refine aw_aload_n dX2_copy_17 rfl ?_
  refine aw_getI dX2_copy_18 fX2_35 kc hc rfl ?_
  refine AW.top (cpS_src hne) ?_
  refine aw_putI dX2_copy_21 fX2_35 ka ha rfl rfl ?_
  refine AW.mem cpS_put ?_
  refine aw_aload_n dX2_copy_24 rfl ?_
  refine aw_aload_n dX2_copy_25 rfl ?_
  refine aw_getI dX2_copy_26 fX2_18 kc hc rfl ?_
  refine AW.top (cpS_src hne) ?_
  refine aw_putI dX2_copy_29 fX2_18 ka ha rfl rfl ?_
  refine AW.mem cpS_put ?_
  refine aw_aload_n dX2_copy_32 rfl ?_
  refine aw_aload_n dX2_copy_33 rfl ?_
  refine aw_getI dX2_copy_34 fX2_21 kc hc rfl ?_
  refine AW.top (cpS_src hne) ?_
  refine aw_putZ dX2_copy_37 fX2_21 ka ha rfl rfl z6 ?_
  refine AW.mem cpS_put ?_
  refine aw_aload_n dX2_copy_40 rfl ?_
  refine aw_aload_n dX2_copy_41 rfl ?_
  refine aw_getI dX2_copy_42 fX2_25 kc hc rfl ?_
  refine AW.top (cpS_src hne) ?_
  refine aw_putZ dX2_copy_45 fX2_25 ka ha rfl rfl z7 ?_
  refine AW.mem cpS_put ?_
  refine aw_aload_n dX2_copy_48 rfl ?_
  refine aw_aload_n dX2_copy_49 rfl ?_
  refine aw_getI dX2_copy_50 fX2_38 kc hc rfl ?_
  refine AW.top (cpS_src hne) ?_
  refine aw_putI dX2_copy_53 fX2_38 ka ha rfl rfl ?_
  refine AW.mem cpS_put ?_
  refine aw_aload_n dX2_copy_56 rfl ?_
  refine aw_aload_n dX2_copy_57 rfl ?_
  refine aw_getI dX2_copy_58 fX2_41 kc hc rfl ?_
  refine AW.top (cpS_src hne) ?_
  refine aw_putI dX2_copy_61 fX2_41 ka ha rfl rfl ?_
  refine AW.mem cpS_put ?_
  refine aw_aload_n dX2_copy_64 rfl ?_
  refine aw_aload_n dX2_copy_65 rfl ?_
  refine aw_getI dX2_copy_66 fX2_44 kc hc rfl ?_
  refine AW.top (cpS_src hne) ?_
  refine aw_putI dX2_copy_69 fX2_44 ka ha rfl rfl ?_
  refine AW.mem cpS_put ?_
  refine aw_vret q rfl dX2_copy_72 ⟨Nat.le_refl _, Nat.le_refl _⟩ ?_
  exact Pst.rf
set_option maxHeartbeats 4000000 in
set_option maxRecDepth 100000 in
theorem sX3_copy {a c : Nat} (ka : (sh a).1 = 3) (ha : a < n) (kc : (sh c).1 = 3) (hc : c < n) (ra : (sh a).2.2 2 = some (a + 1)) (rc : (sh c).2.2 2 = some (c + 1)) (kw1 : (sh (a + 1)).1 = 100) (hw1 : a + 1 < n) (lw1 : (sh (a + 1)).2.1 = 6) (kw0 : (sh (c + 1)).1 = 100) (hw0 : c + 1 < n) (lw0 : (sh (c + 1)).2.1 = 6) (hne : c ≠ a) (hne1 : c ≠ a + 1) (z12 : z01 (I c 12))  : CM yX3_copy cX3_copy 2 (Option.none : Option FieldType) 1 0 0 [.ref a, .ref c] z n sh I L (Pst none z n sh (cpS (upA I (a + 1) (cpA (I (c + 1)) (I (a + 1)) 6)) a c [14, 13, 12, 11, 10, 9, 8, 7, 6, 5, 3]) (upL L a 4 (L c 4)) ) := by
  refine CM.go [some (.ref a), some (.ref c)] rfl rfl (Nat.le_of_ble_eq_true rfl) (fun X g q => ?_)
  have z12 : z01 ((upA I (a + 1) (cpA (I (c + 1)) (I (a + 1)) 6)) c 12) := by rw [upA_ne hne1]; exact z12
  refine aw_aload_n dX3_copy_0 rfl ?_
  refine aw_getR (b := c + 1) dX3_copy_1 fX3_18 kc hc rfl rc ?_
  refine aw_iconst (v := 0) dX3_copy_4 rfl ?_
  refine aw_aload_n dX3_copy_5 rfl ?_
  refine aw_getR (b := a + 1) dX3_copy_6 fX3_18 ka ha rfl ra ?_
  refine aw_iconst (v := 0) dX3_copy_9 rfl ?_
  refine aw_bipush (v := 6) dX3_copy_10 rfl ?_
  refine aw_acopy (len := 6) dX3_copy_12 acp_X3 rfl kw0 hw0 kw1 hw1 (by rw [lw0]; decide) (by rw [lw1]; decide) (by decide) (Nat.le_refl 1) (Nat.le_of_ble_eq_true rfl) ?_
  refine AW.mem (cpS_nil (a := a) (c := c)) ?_
  refine aw_aload_n dX3_copy_15 rfl ?_
  refine aw_aload_n dX3_copy_16 rfl ?_
  refine aw_getI dX3_copy_17 fX3_50 kc hc rfl ?_
  refine AW.top (cpS_src hne) ?_
  refine aw_putI dX3_copy_20 fX3_50 ka ha rfl rfl ?_
  refine AW.mem cpS_put ?_
  refine aw_aload_n dX3_copy_23 rfl ?_
  refine aw_aload_n dX3_copy_24 rfl ?_
  refine aw_getL dX3_copy_25 fX3_68 kc hc rfl ?_
  refine aw_putL dX3_copy_28 fX3_68 ka ha rfl rfl ?_
  refine aw_aload_n dX3_copy_31 rfl ?_
  refine aw_aload_n dX3_copy_32 rfl ?_
  refine aw_getI dX3_copy_33 fX3_72 kc hc rfl ?_
  refine AW.top (cpS_src hne) ?_
  refine aw_putI dX3_copy_36 fX3_72 ka ha rfl rfl ?_
  refine AW.mem cpS_put ?_
  refine aw_aload_n dX3_copy_39 rfl ?_
  refine aw_aload_n dX3_copy_40 rfl ?_
  refine aw_getI dX3_copy_41 fX3_37 kc hc rfl ?_
  refine AW.top (cpS_src hne) ?_
  refine aw_putI dX3_copy_44 fX3_37 ka ha rfl rfl ?_
  refine AW.mem cpS_put ?_
  refine aw_aload_n dX3_copy_47 rfl ?_
  refine aw_aload_n dX3_copy_48 rfl ?_
  refine aw_getI dX3_copy_49 fX3_75 kc hc rfl ?_
  refine AW.top (cpS_src hne) ?_
  refine aw_putI dX3_copy_52 fX3_75 ka ha rfl rfl ?_
  refine AW.mem cpS_put ?_
  refine aw_aload_n dX3_copy_55 rfl ?_
  refine aw_aload_n dX3_copy_56 rfl ?_
  refine aw_getI dX3_copy_57 fX3_78 kc hc rfl ?_
  refine AW.top (cpS_src hne) ?_
  refine aw_putI dX3_copy_60 fX3_78 ka ha rfl rfl ?_
  refine AW.mem cpS_put ?_
  refine aw_aload_n dX3_copy_63 rfl ?_
  refine aw_aload_n dX3_copy_64 rfl ?_
  refine aw_getI dX3_copy_65 fX3_22 kc hc rfl ?_
  refine AW.top (cpS_src hne) ?_
  refine aw_putI dX3_copy_68 fX3_22 ka ha rfl rfl ?_
  refine AW.mem cpS_put ?_
  refine aw_aload_n dX3_copy_71 rfl ?_
  refine aw_aload_n dX3_copy_72 rfl ?_
  refine aw_getI dX3_copy_73 fX3_81 kc hc rfl ?_
  refine AW.top (cpS_src hne) ?_
  refine aw_putI dX3_copy_76 fX3_81 ka ha rfl rfl ?_
  refine AW.mem cpS_put ?_
  refine aw_aload_n dX3_copy_79 rfl ?_
  refine aw_aload_n dX3_copy_80 rfl ?_
  refine aw_getI dX3_copy_81 fX3_29 kc hc rfl ?_
  refine AW.top (cpS_src hne) ?_
  refine aw_putI dX3_copy_84 fX3_29 ka ha rfl rfl ?_
  refine AW.mem cpS_put ?_
  refine aw_aload_n dX3_copy_87 rfl ?_
  refine aw_aload_n dX3_copy_88 rfl ?_
  refine aw_getI dX3_copy_89 fX3_25 kc hc rfl ?_
  refine AW.top (cpS_src hne) ?_
  refine aw_putZ dX3_copy_92 fX3_25 ka ha rfl rfl z12 ?_
  refine AW.mem cpS_put ?_
  refine aw_aload_n dX3_copy_95 rfl ?_
  refine aw_aload_n dX3_copy_96 rfl ?_
  refine aw_getI dX3_copy_97 fX3_40 kc hc rfl ?_
  refine AW.top (cpS_src hne) ?_
  refine aw_putI dX3_copy_100 fX3_40 ka ha rfl rfl ?_
  refine AW.mem cpS_put ?_
  refine aw_aload_n dX3_copy_103 rfl ?_
  refine aw_aload_n dX3_copy_104 rfl ?_
  refine aw_getI dX3_copy_105 fX3_84 kc hc rfl ?_
  refine AW.top (cpS_src hne) ?_
  refine aw_putI dX3_copy_108 fX3_84 ka ha rfl rfl ?_
  refine AW.mem cpS_put ?_
  refine aw_vret q rfl dX3_copy_111 ⟨Nat.le_refl _, Nat.le_refl _⟩ ?_
  exact Pst.rf
set_option maxHeartbeats 4000000 in
set_option maxRecDepth 100000 in
theorem sX8_copy {t u len w c : Nat} (hT : TbO n sh I t len w c) (hU : TbS n sh u len) (hne : t ≠ u + 1)  : CM yX8_copy cX8_copy 3 (Option.none : Option FieldType) 2 0 0 [.ref u, .ref t] z n sh I L (Pst none z n sh (upI (upA I (u + 1) (cpA (I (t + 1)) (I (u + 1)) (c * w))) u 2 (nI c)) L) := by
  refine CM.go [some (.ref u), some (.ref t), none] rfl rfl (Nat.le_of_ble_eq_true rfl) (fun X g q => ?_)
  have hll := hT.ll
  have hlc := hT.lc
  have hlw := hT.lw
  have hle := hT.le
  refine aw_aload_n dX8_copy_0 rfl ?_
  refine aw_getR (b := u + 1) dX8_copy_1 fX8_15 hU.1 (Nat.lt_of_succ_lt hU.2.1) rfl hU.2.2.1 ?_
  refine aw_alen dX8_copy_4 hU.2.2.2.1 hU.2.1 ?_
  refine AW.top (y := nI len) (by rw [hU.2.2.2.2]; rfl) ?_
  refine aw_aload_n dX8_copy_5 rfl ?_
  refine aw_getI dX8_copy_6 fX8_19 hT.k hT.b rfl ?_
  refine AW.top hT.ct ?_
  refine aw_aload_n dX8_copy_9 rfl ?_
  refine aw_getI dX8_copy_10 fX8_9 hT.k hT.b rfl ?_
  refine AW.top hT.wd ?_
  refine aw_imul dX8_copy_13 ?_
  refine AW.top (y := nI (c * w)) (pk_mul c w) ?_
  refine aw_mmin dX8_copy_14 kX8_26 (Nat.le_of_ble_eq_true rfl) (Nat.le_of_ble_eq_true rfl) ⟨Nat.le_refl _, Nat.le_refl _⟩ ?_
  refine aw_istore_n dX8_copy_17 (by decide) rfl ?_
  refine aw_aload_n dX8_copy_18 rfl ?_
  refine aw_getR (b := t + 1) dX8_copy_19 fX8_15 hT.k hT.b rfl hT.r ?_
  refine aw_iconst (v := 0) dX8_copy_22 rfl ?_
  refine aw_aload_n dX8_copy_23 rfl ?_
  refine aw_getR (b := u + 1) dX8_copy_24 fX8_15 hU.1 (Nat.lt_of_succ_lt hU.2.1) rfl hU.2.2.1 ?_
  refine aw_iconst (v := 0) dX8_copy_27 rfl ?_
  refine aw_iload_n dX8_copy_28 rfl ?_
  refine aw_acopy (len := c * w) dX8_copy_29 acp_X8 (imin_le hle (by omega)) hT.ck hT.cb hU.2.2.2.1 hU.2.1 (by rw [hT.cl]; exact hle) (by rw [hU.2.2.2.2]; exact hle) (by omega) (Nat.le_of_ble_eq_true rfl) (Nat.le_of_ble_eq_true rfl) ?_
  refine aw_aload_n dX8_copy_32 rfl ?_
  refine aw_aload_n dX8_copy_33 rfl ?_
  refine aw_getI dX8_copy_34 fX8_19 hT.k hT.b rfl ?_
  refine AW.top ((congrFun (upA_ne hne) 2).trans hT.ct) ?_
  refine aw_putI dX8_copy_37 fX8_19 hU.1 (Nat.lt_of_succ_lt hU.2.1) rfl rfl ?_
  refine aw_vret q rfl dX8_copy_40 ⟨Nat.le_refl _, Nat.le_refl _⟩ ?_
  exact Pst.rf
end ClsS
