/-! constructors: the reference -/
def InMP (sh : Shp) (I : MI) (L : ML) : PoT := fun v z' n' sh' J M => v = none ∧ z' = n' ∧ n' = 511 ∧ M = L ∧ IsM 511 sh' 496 ∧ (∀ a, a < 496 → sh' a = sh a ∧ J a = I a) ∧ J 497 = mPlain (fun _ => 0) ∧ (J 496 10 = -1 ∧ J 496 11 = -1 ∧ ∀ k, k ≠ 10 → k ≠ 11 → J 496 k = 0) ∧ ∀ a, 498 ≤ a → J a = fun _ => 0
section IniS
variable {sh : Shp} {I : MI} {L : ML}
set_option maxHeartbeats 4000000 in
set_option maxRecDepth 100000 in
theorem sX11_init (hk : (sh 496).1 = 11) (hI : I 496 = fun _ => 0) (hF : Fz 497 I L) : CM yX11_init cX11_init 1 (Option.none : Option FieldType) 2 14 17842 [.ref 496] 497 497 sh I L (InMP sh I L) := by
  refine CM.goI [some (.ref 496)] rfl rfl (Nat.le_of_ble_eq_true rfl) (fun X g q hin => ?_)
  refine aw_aload_n dX11_init_0 rfl ?_
  refine aw_obj dX11_init_1 oX11_1 (Nat.le_of_ble_eq_true rfl) (Nat.le_of_ble_eq_true rfl) ?_
  refine aw_aload_n dX11_init_4 rfl ?_
  refine aw_sipush (v := 390) dX11_init_5 rfl ?_
  refine an_I (N := 390) dX11_init_8 rfl (Nat.le_of_ble_eq_true rfl) (show 497 < 900000 by omega) (show I 497 = _ from (hF 497 (by omega)).1) ⟨(Nat.le_of_ble_eq_true rfl), (Nat.le_of_ble_eq_true rfl)⟩ ?_
  refine an_pR dX11_init_10 fX11_7 ((congrArg Prod.fst (upS_n (by omega))).trans hk) (show 496 < 498 by omega) (show 497 < 498 by omega) rfl (fun _ => rfl) (fun _ => rfl) rfl hin rfl ?_
  refine aw_aload_n dX11_init_13 rfl ?_
  refine aw_sipush (v := 390) dX11_init_14 rfl ?_
  refine an_I (N := 390) dX11_init_17 rfl (Nat.le_of_ble_eq_true rfl) (show 498 < 900000 by omega) (show I 498 = _ from (hF 498 (by omega)).1) ⟨(Nat.le_of_ble_eq_true rfl), (Nat.le_of_ble_eq_true rfl)⟩ ?_
  refine an_pR dX11_init_19 fX11_13 ((congrArg Prod.fst (upS_n (by omega))).trans (upR_1.trans ((congrArg Prod.fst (upS_n (by omega))).trans hk))) (show 496 < 499 by omega) (show 498 < 499 by omega) rfl (fun _ => rfl) (fun _ => rfl) rfl hin rfl ?_
  refine aw_aload_n dX11_init_22 rfl ?_
  refine aw_sipush (v := 390) dX11_init_23 rfl ?_
  refine an_I (N := 390) dX11_init_26 rfl (Nat.le_of_ble_eq_true rfl) (show 499 < 900000 by omega) (show I 499 = _ from (hF 499 (by omega)).1) ⟨(Nat.le_of_ble_eq_true rfl), (Nat.le_of_ble_eq_true rfl)⟩ ?_
  refine an_pR dX11_init_28 fX11_16 ((congrArg Prod.fst (upS_n (by omega))).trans (upR_1.trans ((congrArg Prod.fst (upS_n (by omega))).trans (upR_1.trans ((congrArg Prod.fst (upS_n (by omega))).trans hk))))) (show 496 < 500 by omega) (show 499 < 500 by omega) rfl (fun _ => rfl) (fun _ => rfl) rfl hin rfl ?_
  refine aw_aload_n dX11_init_31 rfl ?_
  refine aw_sipush (v := 4680) dX11_init_32 rfl ?_
  refine an_I (N := 4680) dX11_init_35 rfl (Nat.le_of_ble_eq_true rfl) (show 500 < 900000 by omega) (show I 500 = _ from (hF 500 (by omega)).1) ⟨(Nat.le_of_ble_eq_true rfl), (Nat.le_of_ble_eq_true rfl)⟩ ?_
  refine an_pR dX11_init_37 fX11_19 ((congrArg Prod.fst (upS_n (by omega))).trans (upR_1.trans ((congrArg Prod.fst (upS_n (by omega))).trans (upR_1.trans ((congrArg Prod.fst (upS_n (by omega))).trans (upR_1.trans ((congrArg Prod.fst (upS_n (by omega))).trans hk))))))) (show 496 < 501 by omega) (show 500 < 501 by omega) rfl (fun _ => rfl) (fun _ => rfl) rfl hin rfl ?_
  refine aw_aload_n dX11_init_40 rfl ?_
  refine aw_sipush (v := 900) dX11_init_41 rfl ?_
  refine an_I (N := 900) dX11_init_44 rfl (Nat.le_of_ble_eq_true rfl) (show 501 < 900000 by omega) (show I 501 = _ from (hF 501 (by omega)).1) ⟨(Nat.le_of_ble_eq_true rfl), (Nat.le_of_ble_eq_true rfl)⟩ ?_
  refine an_pR dX11_init_46 fX11_22 ((congrArg Prod.fst (upS_n (by omega))).trans (upR_1.trans ((congrArg Prod.fst (upS_n (by omega))).trans (upR_1.trans ((congrArg Prod.fst (upS_n (by omega))).trans (upR_1.trans ((congrArg Prod.fst (upS_n (by omega))).trans (upR_1.trans ((congrArg Prod.fst (upS_n (by omega))).trans hk))))))))) (show 496 < 502 by omega) (show 501 < 502 by omega) rfl (fun _ => rfl) (fun _ => rfl) rfl hin rfl ?_
  refine aw_aload_n dX11_init_49 rfl ?_
  refine aw_bipush (v := 18) dX11_init_50 rfl ?_
  refine an_L (N := 18) dX11_init_52 rfl (Nat.le_of_ble_eq_true rfl) (show 502 < 900000 by omega) (show L 502 = _ from (hF 502 (by omega)).2) ⟨(Nat.le_of_ble_eq_true rfl), (Nat.le_of_ble_eq_true rfl)⟩ ?_
  refine an_pR dX11_init_54 fX11_25 ((congrArg Prod.fst (upS_n (by omega))).trans (upR_1.trans ((congrArg Prod.fst (upS_n (by omega))).trans (upR_1.trans ((congrArg Prod.fst (upS_n (by omega))).trans (upR_1.trans ((congrArg Prod.fst (upS_n (by omega))).trans (upR_1.trans ((congrArg Prod.fst (upS_n (by omega))).trans (upR_1.trans ((congrArg Prod.fst (upS_n (by omega))).trans hk))))))))))) (show 496 < 503 by omega) (show 502 < 503 by omega) rfl (fun _ => rfl) (fun _ => rfl) rfl hin rfl ?_
  refine aw_aload_n dX11_init_57 rfl ?_
  refine aw_bipush (v := 18) dX11_init_58 rfl ?_
  refine an_L (N := 18) dX11_init_60 rfl (Nat.le_of_ble_eq_true rfl) (show 503 < 900000 by omega) (show L 503 = _ from (hF 503 (by omega)).2) ⟨(Nat.le_of_ble_eq_true rfl), (Nat.le_of_ble_eq_true rfl)⟩ ?_
  refine an_pR dX11_init_62 fX11_29 ((congrArg Prod.fst (upS_n (by omega))).trans (upR_1.trans ((congrArg Prod.fst (upS_n (by omega))).trans (upR_1.trans ((congrArg Prod.fst (upS_n (by omega))).trans (upR_1.trans ((congrArg Prod.fst (upS_n (by omega))).trans (upR_1.trans ((congrArg Prod.fst (upS_n (by omega))).trans (upR_1.trans ((congrArg Prod.fst (upS_n (by omega))).trans (upR_1.trans ((congrArg Prod.fst (upS_n (by omega))).trans hk))))))))))))) (show 496 < 504 by omega) (show 503 < 504 by omega) rfl (fun _ => rfl) (fun _ => rfl) rfl hin rfl ?_
  refine aw_aload_n dX11_init_65 rfl ?_
  refine aw_iconst (v := (-1)) dX11_init_66 rfl ?_
  refine aw_putI dX11_init_67 fX11_32 (upR_1.trans ((congrArg Prod.fst (upS_n (by omega))).trans (upR_1.trans ((congrArg Prod.fst (upS_n (by omega))).trans (upR_1.trans ((congrArg Prod.fst (upS_n (by omega))).trans (upR_1.trans ((congrArg Prod.fst (upS_n (by omega))).trans (upR_1.trans ((congrArg Prod.fst (upS_n (by omega))).trans (upR_1.trans ((congrArg Prod.fst (upS_n (by omega))).trans (upR_1.trans ((congrArg Prod.fst (upS_n (by omega))).trans hk)))))))))))))) (show 496 < 504 by omega) rfl rfl ?_
  refine aw_aload_n dX11_init_70 rfl ?_
  refine aw_iconst (v := (-1)) dX11_init_71 rfl ?_
  refine aw_putI dX11_init_72 fX11_36 (upR_1.trans ((congrArg Prod.fst (upS_n (by omega))).trans (upR_1.trans ((congrArg Prod.fst (upS_n (by omega))).trans (upR_1.trans ((congrArg Prod.fst (upS_n (by omega))).trans (upR_1.trans ((congrArg Prod.fst (upS_n (by omega))).trans (upR_1.trans ((congrArg Prod.fst (upS_n (by omega))).trans (upR_1.trans ((congrArg Prod.fst (upS_n (by omega))).trans (upR_1.trans ((congrArg Prod.fst (upS_n (by omega))).trans hk)))))))))))))) (show 496 < 504 by omega) rfl rfl ?_
  refine aw_aload_n dX11_init_75 rfl ?_
  refine aw_sipush (v := 9216) dX11_init_76 rfl ?_
  refine an_I (N := 9216) dX11_init_79 rfl (Nat.le_of_ble_eq_true rfl) (show 504 < 900000 by omega) (show I 504 = _ from (hF 504 (by omega)).1) ⟨(Nat.le_of_ble_eq_true rfl), (Nat.le_of_ble_eq_true rfl)⟩ ?_
  refine an_pR dX11_init_81 fX11_39 ((congrArg Prod.fst (upS_n (by omega))).trans (upR_1.trans ((congrArg Prod.fst (upS_n (by omega))).trans (upR_1.trans ((congrArg Prod.fst (upS_n (by omega))).trans (upR_1.trans ((congrArg Prod.fst (upS_n (by omega))).trans (upR_1.trans ((congrArg Prod.fst (upS_n (by omega))).trans (upR_1.trans ((congrArg Prod.fst (upS_n (by omega))).trans (upR_1.trans ((congrArg Prod.fst (upS_n (by omega))).trans (upR_1.trans ((congrArg Prod.fst (upS_n (by omega))).trans hk))))))))))))))) (show 496 < 505 by omega) (show 504 < 505 by omega) rfl (fun _ => rfl) (fun _ => rfl) rfl hin rfl ?_
  refine aw_aload_n dX11_init_84 rfl ?_
  refine aw_bipush (v := 8) dX11_init_85 rfl ?_
  refine an_I (N := 8) dX11_init_87 rfl (Nat.le_of_ble_eq_true rfl) (show 505 < 900000 by omega) (show I 505 = _ from (hF 505 (by omega)).1) ⟨(Nat.le_of_ble_eq_true rfl), (Nat.le_of_ble_eq_true rfl)⟩ ?_
  refine an_pR dX11_init_89 fX11_42 ((congrArg Prod.fst (upS_n (by omega))).trans (upR_1.trans ((congrArg Prod.fst (upS_n (by omega))).trans (upR_1.trans ((congrArg Prod.fst (upS_n (by omega))).trans (upR_1.trans ((congrArg Prod.fst (upS_n (by omega))).trans (upR_1.trans ((congrArg Prod.fst (upS_n (by omega))).trans (upR_1.trans ((congrArg Prod.fst (upS_n (by omega))).trans (upR_1.trans ((congrArg Prod.fst (upS_n (by omega))).trans (upR_1.trans ((congrArg Prod.fst (upS_n (by omega))).trans (upR_1.trans ((congrArg Prod.fst (upS_n (by omega))).trans hk))))))))))))))))) (show 496 < 506 by omega) (show 505 < 506 by omega) rfl (fun _ => rfl) (fun _ => rfl) rfl hin rfl ?_
  refine aw_aload_n dX11_init_92 rfl ?_
  refine aw_bipush (v := 8) dX11_init_93 rfl ?_
  refine an_I (N := 8) dX11_init_95 rfl (Nat.le_of_ble_eq_true rfl) (show 506 < 900000 by omega) (show I 506 = _ from (hF 506 (by omega)).1) ⟨(Nat.le_of_ble_eq_true rfl), (Nat.le_of_ble_eq_true rfl)⟩ ?_
  refine an_pR dX11_init_97 fX11_45 ((congrArg Prod.fst (upS_n (by omega))).trans (upR_1.trans ((congrArg Prod.fst (upS_n (by omega))).trans (upR_1.trans ((congrArg Prod.fst (upS_n (by omega))).trans (upR_1.trans ((congrArg Prod.fst (upS_n (by omega))).trans (upR_1.trans ((congrArg Prod.fst (upS_n (by omega))).trans (upR_1.trans ((congrArg Prod.fst (upS_n (by omega))).trans (upR_1.trans ((congrArg Prod.fst (upS_n (by omega))).trans (upR_1.trans ((congrArg Prod.fst (upS_n (by omega))).trans (upR_1.trans ((congrArg Prod.fst (upS_n (by omega))).trans (upR_1.trans ((congrArg Prod.fst (upS_n (by omega))).trans hk))))))))))))))))))) (show 496 < 507 by omega) (show 506 < 507 by omega) rfl (fun _ => rfl) (fun _ => rfl) rfl hin rfl ?_
  refine aw_aload_n dX11_init_100 rfl ?_
  refine aw_bipush (v := 8) dX11_init_101 rfl ?_
  refine an_I (N := 8) dX11_init_103 rfl (Nat.le_of_ble_eq_true rfl) (show 507 < 900000 by omega) (show I 507 = _ from (hF 507 (by omega)).1) ⟨(Nat.le_of_ble_eq_true rfl), (Nat.le_of_ble_eq_true rfl)⟩ ?_
  refine an_pR dX11_init_105 fX11_48 ((congrArg Prod.fst (upS_n (by omega))).trans (upR_1.trans ((congrArg Prod.fst (upS_n (by omega))).trans (upR_1.trans ((congrArg Prod.fst (upS_n (by omega))).trans (upR_1.trans ((congrArg Prod.fst (upS_n (by omega))).trans (upR_1.trans ((congrArg Prod.fst (upS_n (by omega))).trans (upR_1.trans ((congrArg Prod.fst (upS_n (by omega))).trans (upR_1.trans ((congrArg Prod.fst (upS_n (by omega))).trans (upR_1.trans ((congrArg Prod.fst (upS_n (by omega))).trans (upR_1.trans ((congrArg Prod.fst (upS_n (by omega))).trans (upR_1.trans ((congrArg Prod.fst (upS_n (by omega))).trans (upR_1.trans ((congrArg Prod.fst (upS_n (by omega))).trans hk))))))))))))))))))))) (show 496 < 508 by omega) (show 507 < 508 by omega) rfl (fun _ => rfl) (fun _ => rfl) rfl hin rfl ?_
  refine aw_aload_n dX11_init_108 rfl ?_
  refine aw_bipush (v := 8) dX11_init_109 rfl ?_
  refine an_I (N := 8) dX11_init_111 rfl (Nat.le_of_ble_eq_true rfl) (show 508 < 900000 by omega) (show I 508 = _ from (hF 508 (by omega)).1) ⟨(Nat.le_of_ble_eq_true rfl), (Nat.le_of_ble_eq_true rfl)⟩ ?_
  refine an_pR dX11_init_113 fX11_51 ((congrArg Prod.fst (upS_n (by omega))).trans (upR_1.trans ((congrArg Prod.fst (upS_n (by omega))).trans (upR_1.trans ((congrArg Prod.fst (upS_n (by omega))).trans (upR_1.trans ((congrArg Prod.fst (upS_n (by omega))).trans (upR_1.trans ((congrArg Prod.fst (upS_n (by omega))).trans (upR_1.trans ((congrArg Prod.fst (upS_n (by omega))).trans (upR_1.trans ((congrArg Prod.fst (upS_n (by omega))).trans (upR_1.trans ((congrArg Prod.fst (upS_n (by omega))).trans (upR_1.trans ((congrArg Prod.fst (upS_n (by omega))).trans (upR_1.trans ((congrArg Prod.fst (upS_n (by omega))).trans (upR_1.trans ((congrArg Prod.fst (upS_n (by omega))).trans (upR_1.trans ((congrArg Prod.fst (upS_n (by omega))).trans hk))))))))))))))))))))))) (show 496 < 509 by omega) (show 508 < 509 by omega) rfl (fun _ => rfl) (fun _ => rfl) rfl hin rfl ?_
  refine aw_aload_n dX11_init_116 rfl ?_
  refine aw_bipush (v := 8) dX11_init_117 rfl ?_
  refine an_I (N := 8) dX11_init_119 rfl (Nat.le_of_ble_eq_true rfl) (show 509 < 900000 by omega) (show I 509 = _ from (hF 509 (by omega)).1) ⟨(Nat.le_of_ble_eq_true rfl), (Nat.le_of_ble_eq_true rfl)⟩ ?_
  refine an_pR dX11_init_121 fX11_54 ((congrArg Prod.fst (upS_n (by omega))).trans (upR_1.trans ((congrArg Prod.fst (upS_n (by omega))).trans (upR_1.trans ((congrArg Prod.fst (upS_n (by omega))).trans (upR_1.trans ((congrArg Prod.fst (upS_n (by omega))).trans (upR_1.trans ((congrArg Prod.fst (upS_n (by omega))).trans (upR_1.trans ((congrArg Prod.fst (upS_n (by omega))).trans (upR_1.trans ((congrArg Prod.fst (upS_n (by omega))).trans (upR_1.trans ((congrArg Prod.fst (upS_n (by omega))).trans (upR_1.trans ((congrArg Prod.fst (upS_n (by omega))).trans (upR_1.trans ((congrArg Prod.fst (upS_n (by omega))).trans (upR_1.trans ((congrArg Prod.fst (upS_n (by omega))).trans (upR_1.trans ((congrArg Prod.fst (upS_n (by omega))).trans (upR_1.trans ((congrArg Prod.fst (upS_n (by omega))).trans hk))))))))))))))))))))))))) (show 496 < 510 by omega) (show 509 < 510 by omega) rfl (fun _ => rfl) (fun _ => rfl) rfl hin rfl ?_
  refine aw_aload_n dX11_init_124 rfl ?_
  refine aw_sipush (v := 1800) dX11_init_125 rfl ?_
  refine an_B (N := 1800) dX11_init_128 rfl (Nat.le_of_ble_eq_true rfl) (show 510 < 900000 by omega) (show I 510 = _ from (hF 510 (by omega)).1) ⟨(Nat.le_of_ble_eq_true rfl), (Nat.le_of_ble_eq_true rfl)⟩ ?_
  refine an_pR dX11_init_130 fX11_57 ((congrArg Prod.fst (upS_n (by omega))).trans (upR_1.trans ((congrArg Prod.fst (upS_n (by omega))).trans (upR_1.trans ((congrArg Prod.fst (upS_n (by omega))).trans (upR_1.trans ((congrArg Prod.fst (upS_n (by omega))).trans (upR_1.trans ((congrArg Prod.fst (upS_n (by omega))).trans (upR_1.trans ((congrArg Prod.fst (upS_n (by omega))).trans (upR_1.trans ((congrArg Prod.fst (upS_n (by omega))).trans (upR_1.trans ((congrArg Prod.fst (upS_n (by omega))).trans (upR_1.trans ((congrArg Prod.fst (upS_n (by omega))).trans (upR_1.trans ((congrArg Prod.fst (upS_n (by omega))).trans (upR_1.trans ((congrArg Prod.fst (upS_n (by omega))).trans (upR_1.trans ((congrArg Prod.fst (upS_n (by omega))).trans (upR_1.trans ((congrArg Prod.fst (upS_n (by omega))).trans (upR_1.trans ((congrArg Prod.fst (upS_n (by omega))).trans hk))))))))))))))))))))))))))) (show 496 < 511 by omega) (show 510 < 511 by omega) rfl (fun _ => rfl) (fun _ => rfl) rfl hin rfl ?_
  refine aw_aload_n dX11_init_133 rfl ?_
  refine aw_getR (ci := 11) (k := 1) (a := 496) (b := 497) dX11_init_134 fX11_7 (upR_1.trans ((congrArg Prod.fst (upS_n (by omega))).trans (upR_1.trans ((congrArg Prod.fst (upS_n (by omega))).trans (upR_1.trans ((congrArg Prod.fst (upS_n (by omega))).trans (upR_1.trans ((congrArg Prod.fst (upS_n (by omega))).trans (upR_1.trans ((congrArg Prod.fst (upS_n (by omega))).trans (upR_1.trans ((congrArg Prod.fst (upS_n (by omega))).trans (upR_1.trans ((congrArg Prod.fst (upS_n (by omega))).trans (upR_1.trans ((congrArg Prod.fst (upS_n (by omega))).trans (upR_1.trans ((congrArg Prod.fst (upS_n (by omega))).trans (upR_1.trans ((congrArg Prod.fst (upS_n (by omega))).trans (upR_1.trans ((congrArg Prod.fst (upS_n (by omega))).trans (upR_1.trans ((congrArg Prod.fst (upS_n (by omega))).trans (upR_1.trans ((congrArg Prod.fst (upS_n (by omega))).trans (upR_1.trans ((congrArg Prod.fst (upS_n (by omega))).trans hk)))))))))))))))))))))))))))) (show 496 < 511 by decide) rfl rfl ?_
  refine aw_cS (As := [.ref 497]) dX11_init_137 kX11_61 mX11_plain (rX11_plain (a := 497) rfl (show 497 < 511 by decide) rfl) (Nat.le_of_ble_eq_true rfl) rfl rfl (Nat.le_of_ble_eq_true rfl) ⟨(Nat.le_of_ble_eq_true rfl), (Nat.le_of_ble_eq_true rfl)⟩ ?_
  refine aw_vret q rfl dX11_init_140 ⟨(Nat.le_of_ble_eq_true rfl), (Nat.le_of_ble_eq_true rfl)⟩ ?_
  refine ⟨rfl, rfl, rfl, rfl, ⟨by decide, (upR_1.trans ((congrArg Prod.fst (upS_n (by omega))).trans (upR_1.trans ((congrArg Prod.fst (upS_n (by omega))).trans (upR_1.trans ((congrArg Prod.fst (upS_n (by omega))).trans (upR_1.trans ((congrArg Prod.fst (upS_n (by omega))).trans (upR_1.trans ((congrArg Prod.fst (upS_n (by omega))).trans (upR_1.trans ((congrArg Prod.fst (upS_n (by omega))).trans (upR_1.trans ((congrArg Prod.fst (upS_n (by omega))).trans (upR_1.trans ((congrArg Prod.fst (upS_n (by omega))).trans (upR_1.trans ((congrArg Prod.fst (upS_n (by omega))).trans (upR_1.trans ((congrArg Prod.fst (upS_n (by omega))).trans (upR_1.trans ((congrArg Prod.fst (upS_n (by omega))).trans (upR_1.trans ((congrArg Prod.fst (upS_n (by omega))).trans (upR_1.trans ((congrArg Prod.fst (upS_n (by omega))).trans (upR_1.trans ((congrArg Prod.fst (upS_n (by omega))).trans hk)))))))))))))))))))))))))))), fun j hj => ?_⟩, fun a ha => ⟨?_, ?_⟩, ?_, ⟨rfl, rfl, fun k k1 k2 => ?_⟩, fun a ha => ?_⟩
  · match j, hj with
    | 0, _ => exact ⟨rfl, rfl, rfl⟩
    | 1, _ => exact ⟨rfl, rfl, rfl⟩
    | 2, _ => exact ⟨rfl, rfl, rfl⟩
    | 3, _ => exact ⟨rfl, rfl, rfl⟩
    | 4, _ => exact ⟨rfl, rfl, rfl⟩
    | 5, _ => exact ⟨rfl, rfl, rfl⟩
    | 6, _ => exact ⟨rfl, rfl, rfl⟩
    | 7, _ => exact ⟨rfl, rfl, rfl⟩
    | 8, _ => exact ⟨rfl, rfl, rfl⟩
    | 9, _ => exact ⟨rfl, rfl, rfl⟩
    | 10, _ => exact ⟨rfl, rfl, rfl⟩
    | 11, _ => exact ⟨rfl, rfl, rfl⟩
    | 12, _ => exact ⟨rfl, rfl, rfl⟩
    | 13, _ => exact ⟨rfl, rfl, rfl⟩
  · dsimp only
    repeat (first | rw [upR_n (by omega)] | rw [upS_n (by omega)])
  · exact (if_neg (by omega)).trans ((upI_row2 (by omega)).trans (upI_row2 (by omega)))
  · show mPlain (I 497) = _
    rw [(hF 497 (Nat.le_refl _)).1]
  · show upd (upd (I 496) 10 (-1)) 11 (-1) k = 0
    rw [upd_ne k2, upd_ne k1, hI]
  · exact (if_neg (by omega)).trans ((upI_row2 (by omega)).trans ((upI_row2 (by omega)).trans (hF a (by omega)).1))
end IniS
