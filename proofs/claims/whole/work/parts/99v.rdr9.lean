/-! the class: a home, a house more -/
theorem upI_row2 {J : MI} {a k x : Nat} {v : Int32} (h : x ≠ a) : upI J a k v x = J x := if_neg h
theorem bgH_n {I : MI} {a x : Nat} (h : x ≠ a) : bgH I a x = I x := by
  unfold bgH
  simp only [upI_row2 h]
theorem bgP_n {I : MI} {a x : Nat} (h : x ≠ a) : bgP I a x = I x := by
  unfold bgP
  simp only [upI_row2 h]
section ClsS
variable {z n b : Nat} {sh : Shp} {I : MI} {L : ML} {N : Nat → Int32} {Q : Nat → Int64}
set_option maxHeartbeats 4000000 in
set_option maxRecDepth 100000 in
theorem sX7_addHome (hS : IsS n sh b) {w : Int64} {c : Nat} (hc : I b 5 = nI c) (hm : c < 10)  : CM yX7_addHome cX7_addHome 4 (Option.some (.object "HomesQueue$Home")) 2 0 0 [.ref b, .long w] z n sh I L (Pst (some (.ref (b + 2 + c))) z n sh (upI (bgH I (b + 2 + c)) b 5 (nI (c + 1))) (upL L (b + 2 + c) 2 w)) := by
  refine CM.go [some (.ref b), some (.long w), none, none] rfl rfl (Nat.le_of_ble_eq_true rfl) (fun X g q => ?_)
  refine aw_aload_n dX7_addHome_0 rfl ?_
  refine aw_getI dX7_addHome_1 fX7_59 hS.k hS.b0 rfl ?_
  refine AW.top hc ?_
  refine aw_bipush (v := 10) dX7_addHome_4 rfl ?_
  refine aw_icmp_lt (tgt := 11) dX7_addHome_6 rfl (fun c6 => ?_) (fun c6 => ?_)
  · skip
    refine aw_aload_n dX7_addHome_11 rfl ?_
    refine aw_getR (b := b + 1) dX7_addHome_12 fX7_11 hS.k hS.b0 rfl hS.r0 ?_
    refine aw_aload_n dX7_addHome_15 rfl ?_
    refine aw_getI dX7_addHome_16 fX7_59 hS.k hS.b0 rfl ?_
    refine AW.top hc ?_
    refine aw_homes (h := c) hS rfl (by omega) dX7_addHome_19 ?_
    refine aw_astore_n dX7_addHome_20 (by decide) rfl ?_
    refine aw_aload_n dX7_addHome_21 rfl ?_
    refine aw_lload_n dX7_addHome_22 rfl ?_
    refine aw_cV dX7_addHome_23 kX7_81 mX2_begin (sX2_begin hS hm) (Nat.le_of_ble_eq_true rfl) (hS.ho (by omega)) ⟨by decide, rfl⟩ (hS.hb (by omega)) rfl rfl (Nat.le_of_ble_eq_true rfl) ⟨Nat.le_refl _, Nat.le_refl _⟩ ?_
    refine aw_aload_n dX7_addHome_26 rfl ?_
    refine aw_dup dX7_addHome_27 rfl ?_
    refine aw_getI dX7_addHome_28 fX7_59 hS.k hS.b0 rfl ?_
    refine AW.top ((congrFun (bgH_n (by omega)) _).trans hc) ?_
    refine aw_iconst (v := 1) dX7_addHome_31 rfl ?_
    refine aw_iadd dX7_addHome_32 ?_
    refine AW.top (y := nI (c + 1)) (nI_sum _ 1) ?_
    refine aw_putI dX7_addHome_33 fX7_59 hS.k hS.b0 rfl rfl ?_
    refine aw_aload_n dX7_addHome_36 rfl ?_
    refine aw_aret q rfl (Or.inr ⟨_, rfl⟩) dX7_addHome_37 ⟨Nat.le_refl _, Nat.le_refl _⟩ ?_
    exact Pst.rf
  · exact absurd ((nI_ltI (a := c) (b := 10) (by omega) (by decide)).mpr hm) c6
set_option maxHeartbeats 4000000 in
set_option maxRecDepth 100000 in
theorem sX7_addHouse (hS : IsS n sh b) {w : Int64} {c : Nat} (hc : I b 6 = nI c) (hm : c < 8)  : CM yX7_addHouse cX7_addHouse 4 (Option.some (.object "HomesQueue$House")) 2 0 0 [.ref b, .long w] z n sh I L (Pst (some (.ref (b + 13 + 2 * c))) z n sh (upI (bgP I (b + 13 + 2 * c)) b 6 (nI (c + 1))) (upL L (b + 13 + 2 * c) 4 w)) := by
  refine CM.go [some (.ref b), some (.long w), none, none] rfl rfl (Nat.le_of_ble_eq_true rfl) (fun X g q => ?_)
  refine aw_aload_n dX7_addHouse_0 rfl ?_
  refine aw_getI dX7_addHouse_1 fX7_62 hS.k hS.b0 rfl ?_
  refine AW.top hc ?_
  refine aw_bipush (v := 8) dX7_addHouse_4 rfl ?_
  refine aw_icmp_lt (tgt := 11) dX7_addHouse_6 rfl (fun c6 => ?_) (fun c6 => ?_)
  · skip
    refine aw_aload_n dX7_addHouse_11 rfl ?_
    refine aw_getR (b := b + 12) dX7_addHouse_12 fX7_22 hS.k hS.b0 rfl hS.r1 ?_
    refine aw_aload_n dX7_addHouse_15 rfl ?_
    refine aw_getI dX7_addHouse_16 fX7_62 hS.k hS.b0 rfl ?_
    refine AW.top hc ?_
    refine aw_houses (p := c) hS rfl (by omega) dX7_addHouse_19 ?_
    refine aw_astore_n dX7_addHouse_20 (by decide) rfl ?_
    refine aw_aload_n dX7_addHouse_21 rfl ?_
    refine aw_lload_n dX7_addHouse_22 rfl ?_
    refine aw_cV dX7_addHouse_23 kX7_85 mX3_begin (sX3_begin hS hm) (Nat.le_of_ble_eq_true rfl) (hS.po (by omega)) ⟨by decide, rfl⟩ (hS.pb (by omega)) rfl rfl (Nat.le_of_ble_eq_true rfl) ⟨Nat.le_refl _, Nat.le_refl _⟩ ?_
    refine aw_aload_n dX7_addHouse_26 rfl ?_
    refine aw_dup dX7_addHouse_27 rfl ?_
    refine aw_getI dX7_addHouse_28 fX7_62 hS.k hS.b0 rfl ?_
    refine AW.top ((congrFun (bgP_n (by omega)) _).trans hc) ?_
    refine aw_iconst (v := 1) dX7_addHouse_31 rfl ?_
    refine aw_iadd dX7_addHouse_32 ?_
    refine AW.top (y := nI (c + 1)) (nI_sum _ 1) ?_
    refine aw_putI dX7_addHouse_33 fX7_62 hS.k hS.b0 rfl rfl ?_
    refine aw_aload_n dX7_addHouse_36 rfl ?_
    refine aw_aret q rfl (Or.inr ⟨_, rfl⟩) dX7_addHouse_37 ⟨Nat.le_refl _, Nat.le_refl _⟩ ?_
    exact Pst.rf
  · exact absurd ((nI_ltI (a := c) (b := 8) (by omega) (by decide)).mpr hm) c6
end ClsS
