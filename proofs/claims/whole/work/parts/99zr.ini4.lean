/-! constructors: the class itself, the reference -/
def InXP : PoT := fun v z' n' sh' J M => v = none ∧ z' = n' ∧ n' = 496 ∧ IsX 496 sh' ∧ (∀ R Q, CtS J M 1 (mPlain R) Q) ∧ FxS J 35 ∧ (∀ i, i < 12 → FxS J (69 + 2 + 34 * i)) ∧ (J 69 1 = 0 ∧ J 69 2 = 0) ∧ (J 479 2 = 0 ∧ J 479 3 = -1 ∧ J 479 4 = -1) ∧ J 480 = (fun _ => 0) ∧ KwO M ∧ J 482 1 = 0 ∧ J 0 8 = 0 ∧ Fz 496 J M
section IniS
variable {sh : Shp} {I : MI} {L : ML}
set_option maxHeartbeats 4000000 in
set_option maxRecDepth 100000 in
theorem sX10_init (hk : (sh 0).1 = 10) (hF : Fz 1 I L) : CM yX10_init cX10_init 1 (Option.none : Option FieldType) 7 495 11024 [.ref 0] 1 1 sh I L InXP := by
  refine CM.goI [some (.ref 0)] rfl rfl (Nat.le_of_ble_eq_true rfl) (fun X g q hin => ?_)
  refine aw_aload_n dX10_init_0 rfl ?_
  refine aw_obj dX10_init_1 oX10_1 (Nat.le_of_ble_eq_true rfl) (Nat.le_of_ble_eq_true rfl) ?_
  refine aw_aload_n dX10_init_4 rfl ?_
  refine an_o (n := 1) (ci := 7) (by decide) dX10_init_5 lX10_7 iX7 (by decide) (hF 1 (by omega)).1 (hF 1 (by omega)).2 ⟨(Nat.le_of_ble_eq_true rfl), (Nat.le_of_ble_eq_true rfl)⟩ ?_
  refine aw_dup dX10_init_8 rfl ?_
  refine an_k (b := 1) (As := []) dX10_init_9 kX10_9 mX7_init (sX7_init (b := 1) (congrArg Prod.fst upS_s) (by decide) (fun a ha => hF a (by omega))) InSP.to (Nat.le_of_ble_eq_true rfl) (by decide) rfl rfl (Nat.le_of_ble_eq_true rfl) ⟨(Nat.le_of_ble_eq_true rfl), (Nat.le_of_ble_eq_true rfl)⟩ (fun n2 s2 J2 M2 hq => ?_)
  obtain ⟨rfl, e2, h2⟩ := hq
  have e2 := e2.symm
  subst e2
  have k2 : (s2 0).1 = 10 := by rw [(h2.1 0 (by decide)).1, upS_n (by decide)]; exact hk
  refine an_pR dX10_init_12 fX10_10 (a := 0) (b := 1) k2 (by decide) (by decide) rfl (fun _ => rfl) (fun _ => rfl) rfl hin rfl ?_
  refine aw_aload_n dX10_init_15 rfl ?_
  refine an_o (n := 35) (ci := 7) (by decide) dX10_init_16 lX10_7 iX7 (by decide) (h2.2.2.2 35 (by omega)) (hF 35 (by omega)).2 ⟨(Nat.le_of_ble_eq_true rfl), (Nat.le_of_ble_eq_true rfl)⟩ ?_
  refine aw_dup dX10_init_19 rfl ?_
  refine an_k (b := 35) (As := []) dX10_init_20 kX10_9 mX7_init (sX7_init (b := 35) (congrArg Prod.fst upS_s) (by decide) (fun a ha => ⟨h2.2.2.2 a (by omega), (hF a (by omega)).2⟩)) InSP.to (Nat.le_of_ble_eq_true rfl) (by decide) rfl rfl (Nat.le_of_ble_eq_true rfl) ⟨(Nat.le_of_ble_eq_true rfl), (Nat.le_of_ble_eq_true rfl)⟩ (fun n5 s5 J5 M5 hq => ?_)
  obtain ⟨rfl, e5, h5⟩ := hq
  have e5 := e5.symm
  subst e5
  have r5 : s5 0 = upR s2 0 0 (some 1) 0 := (h5.1 0 (by decide)).1.trans (upS_n (by decide))
  have k5 : (s5 0).1 = 10 := by rw [r5, upR_1]; exact k2
  refine an_pR dX10_init_23 fX10_16 (a := 0) (b := 35) k5 (by decide) (by decide) rfl (fun _ => rfl) (fun _ => rfl) rfl hin rfl ?_
  refine aw_aload_n dX10_init_26 rfl ?_
  refine an_o (n := 69) (ci := 1) (by decide) dX10_init_27 lX10_19 iX1 (by decide) (h5.2.2.2 69 (by omega)) (hF 69 (by omega)).2 ⟨(Nat.le_of_ble_eq_true rfl), (Nat.le_of_ble_eq_true rfl)⟩ ?_
  refine aw_dup dX10_init_30 rfl ?_
  refine an_k (b := 69) (As := []) dX10_init_31 kX10_21 mX1_init (sX1_init (y := 69) (congrArg Prod.fst upS_s) (by decide) (fun a ha => ⟨h5.2.2.2 a (by omega), (hF a (by omega)).2⟩)) (P := fun n' sh' J M => n' = 69 + 410 ∧ M = L ∧ InH 69 _ sh' J5 J) (fun _ _ _ _ _ _ h => h) (Nat.le_of_ble_eq_true rfl) (by decide) rfl rfl (Nat.le_of_ble_eq_true rfl) ⟨(Nat.le_of_ble_eq_true rfl), (Nat.le_of_ble_eq_true rfl)⟩ (fun n8 s8 J8 M8 hq => ?_)
  obtain ⟨rfl, e8, h8⟩ := hq
  have e8 := e8.symm
  subst e8
  have r8 : s8 0 = upR s5 0 1 (some 35) 0 := (h8.1 0 (by decide)).1.trans (upS_n (by decide))
  have k8 : (s8 0).1 = 10 := by rw [r8, upR_1]; exact k5
  refine an_pR dX10_init_34 fX10_22 (a := 0) (b := 69) k8 (by decide) (by decide) rfl (fun _ => rfl) (fun _ => rfl) rfl hin rfl ?_
  refine aw_aload_n dX10_init_37 rfl ?_
  refine an_o (n := 479) (ci := 6) (by decide) dX10_init_38 lX10_26 iX6 (by decide) (h8.2.2.2.2 479 (by omega)) (hF 479 (by omega)).2 ⟨(Nat.le_of_ble_eq_true rfl), (Nat.le_of_ble_eq_true rfl)⟩ ?_
  refine aw_dup dX10_init_41 rfl ?_
  refine an_k (b := 479) (As := []) dX10_init_42 kX10_28 mX6_init (sX6_init (n := 480) (a := 479) (congrArg Prod.fst upS_s) (by decide) (by decide) (fun a ha => ⟨h8.2.2.2.2 a (by omega), (hF a (by omega)).2⟩)) (P := fun n' sh' J M => InRP 480 479 _ J8 L none n' n' sh' J M) (fun v z1 n1 sh1 J M h => ⟨h.1, h.2.1, ⟨rfl, rfl, h.2.2⟩⟩) (Nat.le_of_ble_eq_true rfl) (by decide) rfl rfl (Nat.le_of_ble_eq_true rfl) ⟨(Nat.le_of_ble_eq_true rfl), (Nat.le_of_ble_eq_true rfl)⟩ (fun n11 s11 J11 M11 hq => ?_)
  obtain ⟨-, -, rfl, rfl, rfl, hm1, hm2⟩ := hq
  have k0 : ∀ f : Shp, f 0 = s8 0 → (f 0).1 = 10 := fun f h => by rw [h]; exact k8
  refine an_pR dX10_init_45 fX10_29 (a := 0) (b := 479) (show (s8 0).1 = 10 from k8) (by decide) (by decide) rfl (fun _ => rfl) (fun _ => rfl) rfl hin rfl ?_
  refine aw_aload_n dX10_init_48 rfl ?_
  refine an_o (n := 482) (ci := 5) (by decide) dX10_init_49 lX10_33 iX5 (by decide) (show J8 482 = _ from h8.2.2.2.2 482 (by omega)) ((hm1 482 (by decide)).trans (hF 482 (by omega)).2) ⟨(Nat.le_of_ble_eq_true rfl), (Nat.le_of_ble_eq_true rfl)⟩ ?_
  refine aw_dup dX10_init_52 rfl ?_
  refine an_c (b := 482) (As := []) dX10_init_53 kX10_35 mX5_init (sX5_init (n := 483) (a := 482) rfl (by decide) (by decide) (fun a ha => ⟨(upI_row2 (by omega)).trans <| (upI_row2 (by omega)).trans <| (h8.2.2.2.2 a (by omega)), (hm1 a (by omega)).trans (hF a (by omega)).2⟩)) (Nat.le_of_ble_eq_true rfl) (by decide) rfl rfl (Nat.le_of_ble_eq_true rfl) ⟨(Nat.le_of_ble_eq_true rfl), (Nat.le_of_ble_eq_true rfl)⟩ ?_
  refine an_pR dX10_init_56 fX10_36 (a := 0) (b := 482) (show (s8 0).1 = 10 from k8) (by decide) (by decide) rfl (fun _ => rfl) (fun _ => rfl) rfl hin rfl ?_
  refine aw_aload_n dX10_init_59 rfl ?_
  refine an_o (n := 484) (ci := 4) (by decide) dX10_init_60 lX10_40 iX4 (by decide) (show J8 484 = _ from h8.2.2.2.2 484 (by omega)) ((hm1 484 (by decide)).trans (hF 484 (by omega)).2) ⟨(Nat.le_of_ble_eq_true rfl), (Nat.le_of_ble_eq_true rfl)⟩ ?_
  refine aw_dup dX10_init_63 rfl ?_
  refine an_c (b := 484) (As := []) dX10_init_64 kX10_42 mX4_init (sX4_init (n := 485) (a := 484) rfl (by decide) (by decide) (fun a ha => ⟨(upI_row2 (by omega)).trans <| (upI_row2 (by omega)).trans <| (upI_row2 (by omega)).trans <| (h8.2.2.2.2 a (by omega)), (hm1 a (by omega)).trans (hF a (by omega)).2⟩)) (Nat.le_of_ble_eq_true rfl) (by decide) rfl rfl (Nat.le_of_ble_eq_true rfl) ⟨(Nat.le_of_ble_eq_true rfl), (Nat.le_of_ble_eq_true rfl)⟩ ?_
  refine an_pR dX10_init_67 fX10_43 (a := 0) (b := 484) (show (s8 0).1 = 10 from k8) (by decide) (by decide) rfl (fun _ => rfl) (fun _ => rfl) rfl hin rfl ?_
  refine aw_aload_n dX10_init_70 rfl ?_
  refine an_o (n := 487) (ci := 0) (by decide) dX10_init_71 lX10_47 iX0 (by decide) (show J8 487 = _ from h8.2.2.2.2 487 (by omega)) ((hm1 487 (by decide)).trans (hF 487 (by omega)).2) ⟨(Nat.le_of_ble_eq_true rfl), (Nat.le_of_ble_eq_true rfl)⟩ ?_
  refine aw_dup dX10_init_74 rfl ?_
  refine an_c (b := 487) (As := []) dX10_init_75 kX10_49 mX0_init (sX0_init (n := 488) (a := 487) rfl (by decide) (by decide) (fun a ha => ⟨(upI_row2 (by omega)).trans <| (upI_row2 (by omega)).trans <| (upI_row2 (by omega)).trans <| (h8.2.2.2.2 a (by omega)), (hm1 a (by omega)).trans (hF a (by omega)).2⟩)) (Nat.le_of_ble_eq_true rfl) (by decide) rfl rfl (Nat.le_of_ble_eq_true rfl) ⟨(Nat.le_of_ble_eq_true rfl), (Nat.le_of_ble_eq_true rfl)⟩ ?_
  refine an_pR dX10_init_78 fX10_50 (a := 0) (b := 487) (show (s8 0).1 = 10 from k8) (by decide) (by decide) rfl (fun _ => rfl) (fun _ => rfl) rfl hin rfl ?_
  refine aw_aload_n dX10_init_81 rfl ?_
  refine an_o (n := 493) (ci := 9) (by decide) dX10_init_82 lX10_54 iX9 (by decide) (show J8 493 = _ from h8.2.2.2.2 493 (by omega)) ((hm1 493 (by decide)).trans (hF 493 (by omega)).2) ⟨(Nat.le_of_ble_eq_true rfl), (Nat.le_of_ble_eq_true rfl)⟩ ?_
  refine aw_dup dX10_init_85 rfl ?_
  refine an_c (b := 493) (As := []) dX10_init_86 kX10_56 mX9_init (sX9_init (n := 494) (a := 493) rfl (by decide) (by decide) (fun a ha => ⟨(upI_row2 (by omega)).trans <| (upI_row2 (by omega)).trans <| (upI_row2 (by omega)).trans <| (h8.2.2.2.2 a (by omega)), (hm1 a (by omega)).trans (hF a (by omega)).2⟩)) (Nat.le_of_ble_eq_true rfl) (by decide) rfl rfl (Nat.le_of_ble_eq_true rfl) ⟨(Nat.le_of_ble_eq_true rfl), (Nat.le_of_ble_eq_true rfl)⟩ ?_
  refine an_pR dX10_init_89 fX10_57 (a := 0) (b := 493) (show (s8 0).1 = 10 from k8) (by decide) (by decide) rfl (fun _ => rfl) (fun _ => rfl) rfl hin rfl ?_
  refine aw_aload_n dX10_init_92 rfl ?_
  refine aw_iconst (v := 0) dX10_init_93 rfl ?_
  refine aw_putI (ci := 10) dX10_init_94 fX10_61 (a := 0) (show (s8 0).1 = 10 from k8) (show 0 < 496 by decide) rfl rfl ?_
  refine aw_vret q rfl dX10_init_97 ⟨(Nat.le_of_ble_eq_true rfl), (Nat.le_of_ble_eq_true rfl)⟩ ?_
  have eJ : ∀ x, x ≠ 0 → x ≠ 479 → x ≠ 482 → upI (upI (upI (upI J8 479 3 (-1)) 479 4 (-1)) 482 1 0) 0 8 0 x = J8 x := fun x x1 x2 x3 => (upI_row2 x1).trans ((upI_row2 x3).trans ((upI_row2 x2).trans (upI_row2 x2)))
  have a2 : ∀ x, 1 ≤ x → x < 35 → s8 x = s2 x ∧ J8 x = J2 x := fun x x1 x2 => by
    refine ⟨(h8.1 x (by omega)).1.trans ((upS_n (by omega)).trans ((upR_n (by omega)).trans ((h5.1 x (by omega)).1.trans ((upS_n (by omega)).trans (upR_n (by omega)))))), (h8.1 x (by omega)).2.trans (h5.1 x (by omega)).2⟩
  have a5 : ∀ x, 35 ≤ x → x < 69 → s8 x = s5 x ∧ J8 x = J5 x := fun x x1 x2 => by
    refine ⟨(h8.1 x (by omega)).1.trans ((upS_n (by omega)).trans (upR_n (by omega))), (h8.1 x (by omega)).2⟩
  refine ⟨rfl, rfl, rfl, ?_, fun R Q => ?_, ?_, fun i hi => ?_, ⟨?_, ?_⟩, ⟨?_, ?_, ?_⟩, ?_, fun i hi => hm2 i hi, ?_, rfl, fun a ha => ⟨(eJ a (by omega) (by omega) (by omega)).trans (h8.2.2.2.2 a (by omega)), (hm1 a (by omega)).trans (hF a (by omega)).2⟩⟩
  · have eS : ∀ (G : Shp), (∀ x, x ≠ 0 → x < 479 → G x = s8 x) → IsS 496 G 1 ∧ IsS 496 G 35 ∧ IsH 496 G 69 := fun G hG => by
      refine ⟨h2.2.1.fr (by decide) (fun a a1 a2' => (hG a (by omega) (by omega)).trans (a2 a a1 (by omega)).1), h5.2.1.fr (by decide) (fun a a1 a2' => (hG a (by omega) (by omega)).trans (a5 a a1 (by omega)).1), ?_⟩
      obtain ⟨q0, q1, q2, q3, q4, q5⟩ := h8.2.1
      refine ⟨by decide, ?_, ?_, ?_, ?_, fun i hi => ⟨?_, (q5 i hi).2.fr (by decide) (fun a a1 a2' => hG a (by omega) (by omega))⟩⟩
      · rw [hG 69 (by decide) (by decide)]; exact q1
      · rw [hG 69 (by decide) (by decide)]; exact q2
      · rw [hG (69 + 1) (by decide) (by decide)]; exact q3
      · rw [hG (69 + 1) (by decide) (by decide)]; exact q4
      · rw [hG (69 + 1) (by decide) (by decide)]; exact (q5 i hi).1
    have e9 : ∀ (G : Shp), (∀ x, x ≠ 0 → x < 479 → G x = s8 x) → ((G 0).1 = 10 ∧ ((G 0).2.2 0 = some 1 ∧ (G 0).2.2 1 = some 35 ∧ (G 0).2.2 2 = some 69 ∧ (G 0).2.2 3 = some 479 ∧ (G 0).2.2 4 = some 482 ∧ (G 0).2.2 5 = some 484 ∧ (G 0).2.2 6 = some 487 ∧ (G 0).2.2 7 = some 493)) ∧ IsR G ∧ IsPp G ∧ IsMt G ∧ IsCh G ∧ IsTd G → IsX 496 G := fun G hG h => ⟨by decide, h.1.1, h.1.2, (eS G hG).1, (eS G hG).2.1, (eS G hG).2.2, h.2⟩
    refine e9 _ (fun x x1 x2 => ?_) ⟨⟨k8, ?_, ?_, rfl, rfl, rfl, rfl, rfl, rfl⟩, ⟨rfl, rfl, rfl, ⟨rfl, rfl⟩, rfl, rfl⟩, ⟨rfl, rfl, rfl, rfl⟩, ⟨rfl, rfl, rfl, ⟨rfl, rfl⟩, rfl, rfl⟩, ⟨rfl, ⟨rfl, rfl, rfl, rfl, rfl⟩, ⟨rfl, rfl, rfl, rfl, rfl⟩, rfl, rfl, rfl, rfl, rfl⟩, ⟨rfl, rfl, rfl, ⟨rfl, rfl⟩, rfl, rfl⟩⟩
    · dsimp only
      repeat (first | rw [upR_n (by omega)] | rw [upS_n (by omega)])
    · show (s8 0).2.2 0 = some 1
      rw [r8, upR_o (Or.inr (by decide)), r5, upR_r]
    · show (s8 0).2.2 1 = some 35
      rw [r8, upR_r]
  · obtain ⟨I2, q1, q2⟩ := h2.2.2.1
    have := clM_ct (L := M11) (R := R) (Q := Q) q1
    rw [← q2] at this
    exact this.fr plain_cn.1 (fun a ha => (eJ _ (by omega) (by omega) (by omega)).trans (a2 _ (by omega) (by omega)).2) (fun _ _ => rfl)
  · exact h5.fx.fr (fun a ha => (eJ _ (by omega) (by omega) (by omega)).trans (a5 _ (by omega) (by omega)).2)
  · exact (h8.2.2.1 i hi).fr (fun a ha => eJ _ (by omega) (by omega) (by omega))
  · exact (congrFun (eJ 69 (by decide) (by decide) (by decide)) 1).trans h8.2.2.2.1.1
  · exact (congrFun (eJ 69 (by decide) (by decide) (by decide)) 2).trans h8.2.2.2.1.2
  · show J8 479 2 = 0
    rw [h8.2.2.2.2 479 (by decide)]
  · rfl
  · rfl
  · exact (eJ 480 (by decide) (by decide) (by decide)).trans (h8.2.2.2.2 480 (by decide))
  · rfl
end IniS
