/-! the class whole: leaving, shutting, needs, rules, undone -/
theorem rl_eq : ∀ r, r < 6 → ruleLeast r = rLeast r ∧ ruleMost r = rMost r := by decide
theorem lea_cls1 {N : Nat → Int32} {p : Nat} (e : N (80 + 18 * p + 4) = -1) (hp : p < 8) : mPuts (mPuts (mPuts N p 4 (-1)) p 10 0) p 8 1 = leaN N p := by
  unfold leaN
  rw [if_pos e]
  unfold leaN1 mPuts
  rw [fa_upd_swap N (show 80 + 18 * p + 4 ≠ 80 + 18 * p + 10 by omega), fa_upd_swap _ (show 80 + 18 * p + 4 ≠ 80 + 18 * p + 8 by omega)]
theorem lea_cls2 {N : Nat → Int32} {p u : Nat} (e : N (80 + 18 * p + 4) = nI u) (hu : u < 10) (hp : p < 8) : mPuts (mPuts (mPuts (mLeaves N u 0) p 4 (-1)) p 10 0) p 8 1 = leaN N p := by
  unfold leaN
  rw [if_neg (by rw [e]; exact nI_ne_m1 (by omega)), e, nI_clamp (by omega)]
  unfold leaN1 mLeaves mPutsH mPuts
  funext j
  by_cases a8 : j = 80 + 18 * p + 8
  · subst a8
    rw [upd_eq, upd_ne (by omega), upd_ne (by omega), upd_ne (by omega), upd_ne (by omega), upd_eq]
  · rw [upd_ne a8]
    by_cases a10 : j = 80 + 18 * p + 10
    · subst a10
      rw [upd_eq, upd_ne (by omega), upd_ne (by omega), upd_ne (by omega), upd_ne (by omega), upd_ne (by omega), upd_eq]
    · rw [upd_ne a10]
      by_cases a4 : j = 80 + 18 * p + 4
      · subst a4
        rw [upd_eq, upd_eq]
      · rw [upd_ne a4, upd_ne a4]
        by_cases b5 : j = 8 * u + 5
        · subst b5
          rw [upd_eq, upd_eq]
        · rw [upd_ne b5, upd_ne b5]
          by_cases b3 : j = 8 * u + 3
          · subst b3
            rw [upd_eq, upd_eq]
          · rw [upd_ne b3, upd_ne b3]
            by_cases b2 : j = 8 * u + 2
            · subst b2
              rw [upd_eq, upd_eq]
            · rw [upd_ne b2, upd_ne b2, upd_ne a8, upd_ne a10]
section ClsS
variable {z n : Nat} {sh : Shp} {I : MI} {L : ML} {N : Nat → Int32} {Q : Nat → Int64}
set_option maxHeartbeats 4000000 in
set_option maxRecDepth 100000 in
theorem sX10_canBeTold {x y : Int32}  : CM yX10_canBeTold cX10_canBeTold 2 (Option.some .boolean) 1 0 0 [.int x, .int y] z n sh I L (Pst (some (.int (bI (mFrom x 0 5 && mFrom y (rLeast x.toNatClampNeg) (rMost x.toNatClampNeg))))) z n sh I L) := by
  refine CM.go [some (.int x), some (.int y)] rfl rfl (Nat.le_of_ble_eq_true rfl) (fun X g q => ?_)
  refine aw_iload_n dX10_canBeTold_0 rfl ?_
  refine aw_if_lt (tgt := 10) dX10_canBeTold_1 rfl (fun c1 => ?_) (fun c1 => ?_)
  · have hw := from_neg (b := 5) c1
    refine aw_iconst (v := 0) dX10_canBeTold_10 rfl ?_
    refine aw_zret q rfl (by decide) dX10_canBeTold_11 ⟨Nat.le_refl _, Nat.le_refl _⟩ ?_
    refine Pst.iv ?_
    rw [hw]
    rfl
  · skip
    refine aw_iload_n dX10_canBeTold_4 rfl ?_
    refine aw_bipush (v := 6) dX10_canBeTold_5 rfl ?_
    refine aw_icmp_lt (tgt := 12) dX10_canBeTold_7 rfl (fun c7 => ?_) (fun c7 => ?_)
    · have c7 := lt_6.mp c7
      have hw := from_in c1 c7
      obtain ⟨r, hr, er⟩ := le_ix (B := 5) (by decide) c1 c7
      subst er
      obtain ⟨l1, l2⟩ := rl_eq r (by omega)
      refine aw_iload_n dX10_canBeTold_12 rfl ?_
      refine aw_sLeast dX10_canBeTold_13 ?_
      refine aw_iload_n dX10_canBeTold_16 rfl ?_
      refine aw_ldLeast (k := r) rfl (by omega) dX10_canBeTold_17 ?_
      refine aw_icmp_lt (tgt := 34) dX10_canBeTold_18 rfl (fun c18 => ?_) (fun c18 => ?_)
      · refine aw_iconst (v := 0) dX10_canBeTold_34 rfl ?_
        refine aw_zret q rfl (by decide) dX10_canBeTold_35 ⟨Nat.le_refl _, Nat.le_refl _⟩ ?_
        refine Pst.iv ?_
        rw [hw, nI_clamp (by omega), from_lo (by rw [← l1]; exact c18)]
        rfl
      · refine aw_iload_n dX10_canBeTold_21 rfl ?_
        refine aw_sMost dX10_canBeTold_22 ?_
        refine aw_iload_n dX10_canBeTold_25 rfl ?_
        refine aw_ldMost (k := r) rfl (by omega) dX10_canBeTold_26 ?_
        refine aw_icmp_gt (tgt := 34) dX10_canBeTold_27 rfl (fun c27 => ?_) (fun c27 => ?_)
        · refine aw_iconst (v := 0) dX10_canBeTold_34 rfl ?_
          refine aw_zret q rfl (by decide) dX10_canBeTold_35 ⟨Nat.le_refl _, Nat.le_refl _⟩ ?_
          refine Pst.iv ?_
          rw [hw, nI_clamp (by omega), from_gt (by rw [← l2]; exact Int32.not_le.mpr c27)]
          rfl
        · refine aw_iconst (v := 1) dX10_canBeTold_30 rfl ?_
          refine aw_goto (tgt := 35) dX10_canBeTold_31 rfl ?_
          refine aw_zret q rfl (by decide) dX10_canBeTold_35 ⟨Nat.le_refl _, Nat.le_refl _⟩ ?_
          refine Pst.iv ?_
          rw [hw, nI_clamp (by omega), from_in (by rw [← l1]; exact c18) (by rw [← l2]; exact Int32.not_lt.mp c27)]
          rfl
    · have hw := from_gt (a := 0) (fun q => c7 (lt_6.mpr q))
      refine aw_iconst (v := 0) dX10_canBeTold_10 rfl ?_
      refine aw_zret q rfl (by decide) dX10_canBeTold_11 ⟨Nat.le_refl _, Nat.le_refl _⟩ ?_
      refine Pst.iv ?_
      rw [hw]
      rfl
set_option maxHeartbeats 4000000 in
set_option maxRecDepth 100000 in
theorem sX10_rules (hX : IsX n sh) (hC : CtS I L 1 N Q) (hIv : Iv N) {t c : Nat} (ht : t < 12) (hc : c ≤ 12) (e1 : I 69 1 = nI t) (e2 : I 69 2 = nI c) (hFk : FxS I (69 + 2 + 34 * t)) (hFs : FxS I 35) {w v : Int32} : CM yX10_rules cX10_rules 4 (Option.some .int) 5 0 0 [.ref 0, .int w, .int v] z n sh I L (CA (aRules N w v) t c N Q z n sh I L) := by
  refine CM.go [some (.ref 0), some (.int w), some (.int v), none] rfl rfl (Nat.le_of_ble_eq_true rfl) (fun X g q => ?_)
  have hO := hIv.ok
  have hN := hO.1
  have hR := hO.2.1
  have hB := hO.2.2.1
  have hE := hO.2.2.2
  have h8 := hN.p8
  have h10 := hN.h10
  have hS := hX.now
  refine aw_iload_n dX10_rules_0 rfl ?_
  refine aw_iload_n dX10_rules_1 rfl ?_
  refine aw_cS dX10_rules_2 kX10_314 mX10_canBeTold (sX10_canBeTold) (Nat.le_of_ble_eq_true rfl) rfl rfl (Nat.le_of_ble_eq_true rfl) ⟨Nat.le_refl _, Nat.le_refl _⟩ ?_
  refine aw_if_ne (tgt := 14) dX10_rules_5 rfl (fun c5 => ?_) (fun c5 => ?_)
  · have hw2 := bI1.mp c5
    obtain ⟨hwa, hwb⟩ := andT hw2
    obtain ⟨r, hr, rfl⟩ := from_ix (y := nI 6) rfl (by decide) (show mFrom w 0 (nI 6 - 1) = true from hwa)
    have er2 : (nI r).toNatClampNeg = r := nI_clamp (by omega)
    refine aw_aload_n dX10_rules_14 rfl ?_
    refine aw_getR (b := 1) dX10_rules_15 fX10_10 hX.k hX.b rfl hX.r0 ?_
    refine aw_iload_n dX10_rules_18 rfl ?_
    refine aw_cV dX10_rules_19 kX10_218 mX7_ruleAt (sX7_ruleAt hS hC hO rfl hr) (Nat.le_of_ble_eq_true rfl) hS.k ⟨by decide, rfl⟩ hS.b0 rfl rfl (Nat.le_of_ble_eq_true rfl) ⟨Nat.le_refl _, Nat.le_refl _⟩ ?_
    refine aw_istore_n dX10_rules_22 (by decide) rfl ?_
    refine aw_iload_n dX10_rules_23 rfl ?_
    refine aw_iload_n dX10_rules_24 rfl ?_
    refine aw_icmp_ne (tgt := 34) dX10_rules_25 rfl (fun c25 => ?_) (fun c25 => ?_)
    · refine aw_aload_n dX10_rules_34 rfl ?_
      refine aw_getR (b := 69) dX10_rules_35 fX10_22 hX.k hX.b rfl hX.r2 ?_
      refine aw_aload_n dX10_rules_38 rfl ?_
      refine aw_getR (b := 1) dX10_rules_39 fX10_10 hX.k hX.b rfl hX.r0 ?_
      refine aw_kV dX10_rules_42 kX10_358 mX1_keep (sX1_keep hX.his hX.now (Or.inl (by decide)) ht e1 e2 hc hFk hC hN) (Nat.le_of_ble_eq_true rfl) hX.his.2.1 ⟨by decide, rfl⟩ hX.his.b0 rfl rfl (Nat.le_of_ble_eq_true rfl) ⟨Nat.le_refl _, Nat.le_refl _⟩ (fun J1 M1 hK1 => ?_)
      have hC1 := hK1.now hN hC
      refine aw_aload_n dX10_rules_45 rfl ?_
      refine aw_getR (b := 1) dX10_rules_46 fX10_10 hX.k hX.b rfl hX.r0 ?_
      refine aw_iload_n dX10_rules_49 rfl ?_
      refine aw_iload_n dX10_rules_50 rfl ?_
      refine aw_mV dX10_rules_51 kX10_387 mX7_setRule (sX7_setRule hS hC1 hO (r := r) rfl hr) (Nat.le_of_ble_eq_true rfl) hS.k ⟨by decide, rfl⟩ hS.b0 rfl rfl (Nat.le_of_ble_eq_true rfl) ⟨Nat.le_refl _, Nat.le_refl _⟩ (fun J2 hF2 hJ2 => ?_)
      
      refine aw_aload_n dX10_rules_54 rfl ?_
      refine aw_iload_n dX10_rules_55 rfl ?_
      refine aw_cV dX10_rules_56 kX10_94 mX10_answer (sX10_answer hX) (Nat.le_of_ble_eq_true rfl) hX.k ⟨by decide, rfl⟩ hX.b rfl rfl (Nat.le_of_ble_eq_true rfl) ⟨Nat.le_refl _, Nat.le_refl _⟩ ?_
      refine aw_iret q rfl dX10_rules_59 ⟨Nat.le_refl _, Nat.le_refl _⟩ ?_
      refine CA.ok ?_ (hK1.kf ht hN hFs hF2 hJ2)
      unfold aRules
      rw [hw2, er2]
      exact if_neg c25
    · refine aw_aload_n dX10_rules_28 rfl ?_
      refine aw_iconst (v := 4) dX10_rules_29 rfl ?_
      refine aw_cV dX10_rules_30 kX10_76 mX10_fail (sX10_fail hX) (Nat.le_of_ble_eq_true rfl) hX.k ⟨by decide, rfl⟩ hX.b rfl rfl (Nat.le_of_ble_eq_true rfl) ⟨Nat.le_refl _, Nat.le_refl _⟩ ?_
      refine aw_iret q rfl dX10_rules_33 ⟨Nat.le_refl _, Nat.le_refl _⟩ ?_
      refine CA.no (s := 4) ?_ (SpF.rf hFs)
      unfold aRules
      rw [hw2, er2]
      exact if_pos c25
  · skip
    refine aw_aload_n dX10_rules_8 rfl ?_
    refine aw_iconst (v := 1) dX10_rules_9 rfl ?_
    refine aw_cV dX10_rules_10 kX10_76 mX10_fail (sX10_fail hX) (Nat.le_of_ble_eq_true rfl) hX.k ⟨by decide, rfl⟩ hX.b rfl rfl (Nat.le_of_ble_eq_true rfl) ⟨Nat.le_refl _, Nat.le_refl _⟩ ?_
    refine aw_iret q rfl dX10_rules_13 ⟨Nat.le_refl _, Nat.le_refl _⟩ ?_
    refine CA.no (s := 1) ?_ (SpF.rf hFs)
    unfold aRules
    rw [bI0.mp c5]
    rfl
set_option maxHeartbeats 4000000 in
set_option maxRecDepth 100000 in
theorem sX10_leave (hX : IsX n sh) (hC : CtS I L 1 N Q) (hIv : Iv N) {t c : Nat} (ht : t < 12) (hc : c ≤ 12) (e1 : I 69 1 = nI t) (e2 : I 69 2 = nI c) (hFk : FxS I (69 + 2 + 34 * t)) (hFs : FxS I 35) {x : Int32} : CM yX10_leave cX10_leave 3 (Option.some .int) 5 0 0 [.ref 0, .int x] z n sh I L (CA (aLeave N x) t c N Q z n sh I L) := by
  refine CM.go [some (.ref 0), some (.int x), none] rfl rfl (Nat.le_of_ble_eq_true rfl) (fun X g q => ?_)
  have hO := hIv.ok
  have hN := hO.1
  have hR := hO.2.1
  have hB := hO.2.2.1
  have hE := hO.2.2.2
  have h8 := hN.p8
  have h10 := hN.h10
  have hS := hX.now
  cases h9x : mFrom x 0 (N 231 - 1) with
  | false =>
    refine aw_aload_n dX10_leave_0 rfl ?_
    refine aw_getR (b := 1) dX10_leave_1 fX10_10 hX.k hX.b rfl hX.r0 ?_
    refine aw_iload_n dX10_leave_4 rfl ?_
    refine aw_cV dX10_leave_5 kX10_176 mX7_houseAt (sX7_houseAtN hS hC hO h9x) (Nat.le_of_ble_eq_true rfl) hS.k ⟨by decide, rfl⟩ hS.b0 rfl rfl (Nat.le_of_ble_eq_true rfl) ⟨Nat.le_refl _, Nat.le_refl _⟩ ?_
    refine aw_astore_nN dX10_leave_8 (by decide) rfl ?_
    refine aw_aload_nN dX10_leave_9 rfl ?_
    refine aw_ifnonnullN dX10_leave_10 ?_
    refine aw_aload_n dX10_leave_13 rfl ?_
    refine aw_iconst (v := 2) dX10_leave_14 rfl ?_
    refine aw_cV dX10_leave_15 kX10_76 mX10_fail (sX10_fail hX) (Nat.le_of_ble_eq_true rfl) hX.k ⟨by decide, rfl⟩ hX.b rfl rfl (Nat.le_of_ble_eq_true rfl) ⟨Nat.le_refl _, Nat.le_refl _⟩ ?_
    refine aw_iret q rfl dX10_leave_18 ⟨Nat.le_refl _, Nat.le_refl _⟩ ?_
    refine CA.no (s := 2) ?_ (SpF.rf hFs)
    unfold aLeave
    rw [h9x]
    rfl
  | true =>
    obtain ⟨p, hp, rfl⟩ := from_ix hN.p (by omega) h9x
    have e9p : (nI p).toNatClampNeg = p := nI_clamp (by omega)
    refine aw_aload_n dX10_leave_0 rfl ?_
    refine aw_getR (b := 1) dX10_leave_1 fX10_10 hX.k hX.b rfl hX.r0 ?_
    refine aw_iload_n dX10_leave_4 rfl ?_
    refine aw_cV dX10_leave_5 kX10_176 mX7_houseAt (sX7_houseAt hS hC hO rfl hp) (Nat.le_of_ble_eq_true rfl) hS.k ⟨by decide, rfl⟩ hS.b0 rfl rfl (Nat.le_of_ble_eq_true rfl) ⟨Nat.le_refl _, Nat.le_refl _⟩ ?_
    refine aw_astore_n dX10_leave_8 (by decide) rfl ?_
    refine aw_aload_n dX10_leave_9 rfl ?_
    refine aw_ifnonnull (tgt := 19) dX10_leave_10 rfl ?_
    refine aw_aload_n dX10_leave_19 rfl ?_
    refine aw_getI dX10_leave_20 fX10_205 (hS.po (by omega)) (hS.pb (by omega)) rfl ?_
    refine AW.top (hC.pf h8 (p := p) (w := 8) (by omega) (by decide) (by decide) (by decide)) ?_
    refine aw_if_eq (tgt := 32) dX10_leave_23 rfl (fun c23 => ?_) (fun c23 => ?_)
    · refine aw_aload_n dX10_leave_32 rfl ?_
      refine aw_getR (b := 69) dX10_leave_33 fX10_22 hX.k hX.b rfl hX.r2 ?_
      refine aw_aload_n dX10_leave_36 rfl ?_
      refine aw_getR (b := 1) dX10_leave_37 fX10_10 hX.k hX.b rfl hX.r0 ?_
      refine aw_kV dX10_leave_40 kX10_358 mX1_keep (sX1_keep hX.his hX.now (Or.inl (by decide)) ht e1 e2 hc hFk hC hN) (Nat.le_of_ble_eq_true rfl) hX.his.2.1 ⟨by decide, rfl⟩ hX.his.b0 rfl rfl (Nat.le_of_ble_eq_true rfl) ⟨Nat.le_refl _, Nat.le_refl _⟩ (fun J1 M1 hK1 => ?_)
      have hC1 := hK1.now hN hC
      rcases hIv.co.1 p hp with e4 | ⟨u, hu, e4, eu⟩
      · refine aw_aload_n dX10_leave_43 rfl ?_
        refine aw_getR (b := 1) dX10_leave_44 fX10_10 hX.k hX.b rfl hX.r0 ?_
        refine aw_aload_n dX10_leave_47 rfl ?_
        refine aw_iconst (v := 0) dX10_leave_48 rfl ?_
        refine aw_mV dX10_leave_49 kX10_379 mX7_vacate (sX7_vacateN hS hC1 hO hp e4) (Nat.le_of_ble_eq_true rfl) hS.k ⟨by decide, rfl⟩ hS.b0 rfl rfl (Nat.le_of_ble_eq_true rfl) ⟨Nat.le_refl _, Nat.le_refl _⟩ (fun J2 hF2 hJ2 => ?_)
        have c2 : Cn (mPuts N p 4 (-1)) := hN.home' (by omega) (Or.inl rfl)
        have c3 : Cn (mPuts (mPuts N p 4 (-1)) p 10 0) := c2.bids' (by omega) (b := 0) rfl (by decide)
        refine aw_aload_n dX10_leave_52 rfl ?_
        refine aw_iconst (v := 0) dX10_leave_53 rfl ?_
        refine aw_putI dX10_leave_54 fX10_361 (hS.po (by omega)) (hS.pb (by omega)) rfl rfl ?_
        have hJ3 := hJ2.putP c2 (p := p) (w := 10) (v := 0) (by omega) (by decide) (by decide) (by decide) (by decide) (by decide) (fun q => absurd q (by decide))
        refine aw_aload_n dX10_leave_57 rfl ?_
        refine aw_iconst (v := 1) dX10_leave_58 rfl ?_
        refine aw_putZ dX10_leave_59 fX10_205 (hS.po (by omega)) (hS.pb (by omega)) rfl rfl (by decide) ?_
        have hJ4 := (hJ3.putP c3 (p := p) (w := 8) (v := 1) (by omega) (by decide) (by decide) (by decide) (by decide) (by decide) (fun _ => Or.inr rfl)).cong (lea_cls1 e4 (by omega))
        have iL := leaN_Iv hIv hp
        refine aw_aload_n dX10_leave_62 rfl ?_
        refine aw_aload_n dX10_leave_63 rfl ?_
        refine aw_getR (b := 1) dX10_leave_64 fX10_10 hX.k hX.b rfl hX.r0 ?_
        refine aw_cV dX10_leave_67 kX10_123 mX7_countWaiting (sX7_countWaiting hS hJ4 iL.ok) (Nat.le_of_ble_eq_true rfl) hS.k ⟨by decide, rfl⟩ hS.b0 rfl rfl (Nat.le_of_ble_eq_true rfl) ⟨Nat.le_refl _, Nat.le_refl _⟩ ?_
        refine aw_cV dX10_leave_70 kX10_94 mX10_answer (sX10_answer hX) (Nat.le_of_ble_eq_true rfl) hX.k ⟨by decide, rfl⟩ hX.b rfl rfl (Nat.le_of_ble_eq_true rfl) ⟨Nat.le_refl _, Nat.le_refl _⟩ ?_
        refine aw_iret q rfl dX10_leave_73 ⟨Nat.le_refl _, Nat.le_refl _⟩ ?_
        refine CA.ok ?_ (hK1.kf ht hN hFs ((hF2.put (by omega)).put (by omega)) hJ4)
        unfold aLeave
        rw [h9x, e9p, show mIn N p = true from decide_eq_true c23]
        rfl
      · refine aw_aload_n dX10_leave_43 rfl ?_
        refine aw_getR (b := 1) dX10_leave_44 fX10_10 hX.k hX.b rfl hX.r0 ?_
        refine aw_aload_n dX10_leave_47 rfl ?_
        refine aw_iconst (v := 0) dX10_leave_48 rfl ?_
        refine aw_mV dX10_leave_49 kX10_379 mX7_vacate (sX7_vacate hS hC1 hO hp hu e4) (Nat.le_of_ble_eq_true rfl) hS.k ⟨by decide, rfl⟩ hS.b0 rfl rfl (Nat.le_of_ble_eq_true rfl) ⟨Nat.le_refl _, Nat.le_refl _⟩ (fun J2 hF2 hJ2 => ?_)
        have c2 : Cn (mPuts (mLeaves N u 0) p 4 (-1)) := (leaves_Cn hN (by omega)).home' (by omega) (Or.inl rfl)
        have c3 : Cn (mPuts (mPuts (mLeaves N u 0) p 4 (-1)) p 10 0) := c2.bids' (by omega) (b := 0) rfl (by decide)
        refine aw_aload_n dX10_leave_52 rfl ?_
        refine aw_iconst (v := 0) dX10_leave_53 rfl ?_
        refine aw_putI dX10_leave_54 fX10_361 (hS.po (by omega)) (hS.pb (by omega)) rfl rfl ?_
        have hJ3 := hJ2.putP c2 (p := p) (w := 10) (v := 0) (by omega) (by decide) (by decide) (by decide) (by decide) (by decide) (fun q => absurd q (by decide))
        refine aw_aload_n dX10_leave_57 rfl ?_
        refine aw_iconst (v := 1) dX10_leave_58 rfl ?_
        refine aw_putZ dX10_leave_59 fX10_205 (hS.po (by omega)) (hS.pb (by omega)) rfl rfl (by decide) ?_
        have hJ4 := (hJ3.putP c3 (p := p) (w := 8) (v := 1) (by omega) (by decide) (by decide) (by decide) (by decide) (by decide) (fun _ => Or.inr rfl)).cong (lea_cls2 e4 (by omega) (by omega))
        have iL := leaN_Iv hIv hp
        refine aw_aload_n dX10_leave_62 rfl ?_
        refine aw_aload_n dX10_leave_63 rfl ?_
        refine aw_getR (b := 1) dX10_leave_64 fX10_10 hX.k hX.b rfl hX.r0 ?_
        refine aw_cV dX10_leave_67 kX10_123 mX7_countWaiting (sX7_countWaiting hS hJ4 iL.ok) (Nat.le_of_ble_eq_true rfl) hS.k ⟨by decide, rfl⟩ hS.b0 rfl rfl (Nat.le_of_ble_eq_true rfl) ⟨Nat.le_refl _, Nat.le_refl _⟩ ?_
        refine aw_cV dX10_leave_70 kX10_94 mX10_answer (sX10_answer hX) (Nat.le_of_ble_eq_true rfl) hX.k ⟨by decide, rfl⟩ hX.b rfl rfl (Nat.le_of_ble_eq_true rfl) ⟨Nat.le_refl _, Nat.le_refl _⟩ ?_
        refine aw_iret q rfl dX10_leave_73 ⟨Nat.le_refl _, Nat.le_refl _⟩ ?_
        refine CA.ok ?_ (hK1.kf ht hN hFs ((hF2.put (by omega)).put (by omega)) hJ4)
        unfold aLeave
        rw [h9x, e9p, show mIn N p = true from decide_eq_true c23]
        rfl
    · refine aw_aload_n dX10_leave_26 rfl ?_
      refine aw_iconst (v := 4) dX10_leave_27 rfl ?_
      refine aw_cV dX10_leave_28 kX10_76 mX10_fail (sX10_fail hX) (Nat.le_of_ble_eq_true rfl) hX.k ⟨by decide, rfl⟩ hX.b rfl rfl (Nat.le_of_ble_eq_true rfl) ⟨Nat.le_refl _, Nat.le_refl _⟩ ?_
      refine aw_iret q rfl dX10_leave_31 ⟨Nat.le_refl _, Nat.le_refl _⟩ ?_
      refine CA.no (s := 4) ?_ (SpF.rf hFs)
      unfold aLeave
      rw [h9x, e9p, show mIn N p = false from decide_eq_false c23]
      rfl
theorem sh_if {x : Int32} (h : z01 x) : (if x = 1 then (1 : Int32) else 0) = x := by
  rcases h with e | e <;> rw [e] <;> rfl
theorem z01_one {x : Int32} (h : z01 x) (h0 : ¬ x = 0) : x = 1 := h.resolve_left h0
set_option maxHeartbeats 4000000 in
set_option maxRecDepth 100000 in
theorem sX10_shut (hX : IsX n sh) (hC : CtS I L 1 N Q) (hIv : Iv N) {t c : Nat} (ht : t < 12) (hc : c ≤ 12) (e1 : I 69 1 = nI t) (e2 : I 69 2 = nI c) (hFk : FxS I (69 + 2 + 34 * t)) (hFs : FxS I 35) {x y : Int32} (hy : z01 y) (hBs : BsO N) : CM yX10_shut cX10_shut 4 (Option.some .int) 5 0 0 [.ref 0, .int x, .int y] z n sh I L (CA (aShut N x y) t c N Q z n sh I L) := by
  refine CM.go [some (.ref 0), some (.int x), some (.int y), none] rfl rfl (Nat.le_of_ble_eq_true rfl) (fun X g q => ?_)
  have hO := hIv.ok
  have hN := hO.1
  have hR := hO.2.1
  have hB := hO.2.2.1
  have hE := hO.2.2.2
  have h8 := hN.p8
  have h10 := hN.h10
  have hS := hX.now
  cases h9x : mFrom x 0 (N 230 - 1) with
  | false =>
    refine aw_aload_n dX10_shut_0 rfl ?_
    refine aw_getR (b := 1) dX10_shut_1 fX10_10 hX.k hX.b rfl hX.r0 ?_
    refine aw_iload_n dX10_shut_4 rfl ?_
    refine aw_cV dX10_shut_5 kX10_132 mX7_homeAt (sX7_homeAtN hS hC hO h9x) (Nat.le_of_ble_eq_true rfl) hS.k ⟨by decide, rfl⟩ hS.b0 rfl rfl (Nat.le_of_ble_eq_true rfl) ⟨Nat.le_refl _, Nat.le_refl _⟩ ?_
    refine aw_astore_nN dX10_shut_8 (by decide) rfl ?_
    refine aw_aload_nN dX10_shut_9 rfl ?_
    refine aw_ifnonnullN dX10_shut_10 ?_
    refine aw_aload_n dX10_shut_13 rfl ?_
    refine aw_iconst (v := 2) dX10_shut_14 rfl ?_
    refine aw_cV dX10_shut_15 kX10_76 mX10_fail (sX10_fail hX) (Nat.le_of_ble_eq_true rfl) hX.k ⟨by decide, rfl⟩ hX.b rfl rfl (Nat.le_of_ble_eq_true rfl) ⟨Nat.le_refl _, Nat.le_refl _⟩ ?_
    refine aw_iret q rfl dX10_shut_18 ⟨Nat.le_refl _, Nat.le_refl _⟩ ?_
    refine CA.no (s := 2) ?_ (SpF.rf hFs)
    unfold aShut
    rw [h9x]
    rfl
  | true =>
    obtain ⟨h, hh, rfl⟩ := from_ix hN.h (by omega) h9x
    have e9h : (nI h).toNatClampNeg = h := nI_clamp (by omega)
    refine aw_aload_n dX10_shut_0 rfl ?_
    refine aw_getR (b := 1) dX10_shut_1 fX10_10 hX.k hX.b rfl hX.r0 ?_
    refine aw_iload_n dX10_shut_4 rfl ?_
    refine aw_cV dX10_shut_5 kX10_132 mX7_homeAt (sX7_homeAt hS hC hO rfl hh) (Nat.le_of_ble_eq_true rfl) hS.k ⟨by decide, rfl⟩ hS.b0 rfl rfl (Nat.le_of_ble_eq_true rfl) ⟨Nat.le_refl _, Nat.le_refl _⟩ ?_
    refine aw_astore_n dX10_shut_8 (by decide) rfl ?_
    refine aw_aload_n dX10_shut_9 rfl ?_
    refine aw_ifnonnull (tgt := 19) dX10_shut_10 rfl ?_
    refine aw_aload_n dX10_shut_19 rfl ?_
    refine aw_getI dX10_shut_20 fX10_169 (hS.ho (by omega)) (hS.hb (by omega)) rfl ?_
    refine AW.top (hC.hf h10 (h := h) (w := 6) (by omega) (by decide)) ?_
    refine aw_iload_n dX10_shut_23 rfl ?_
    refine aw_icmp_ne (tgt := 33) dX10_shut_24 rfl (fun c24 => ?_) (fun c24 => ?_)
    · refine aw_aload_n dX10_shut_33 rfl ?_
      refine aw_getR (b := 69) dX10_shut_34 fX10_22 hX.k hX.b rfl hX.r2 ?_
      refine aw_aload_n dX10_shut_37 rfl ?_
      refine aw_getR (b := 1) dX10_shut_38 fX10_10 hX.k hX.b rfl hX.r0 ?_
      refine aw_kV dX10_shut_41 kX10_358 mX1_keep (sX1_keep hX.his hX.now (Or.inl (by decide)) ht e1 e2 hc hFk hC hN) (Nat.le_of_ble_eq_true rfl) hX.his.2.1 ⟨by decide, rfl⟩ hX.his.b0 rfl rfl (Nat.le_of_ble_eq_true rfl) ⟨Nat.le_refl _, Nat.le_refl _⟩ (fun J1 M1 hK1 => ?_)
      have hC1 := hK1.now hN hC
      refine aw_aload_n dX10_shut_44 rfl ?_
      refine aw_iload_n dX10_shut_45 rfl ?_
      refine aw_putZ dX10_shut_46 fX10_169 (hS.ho (by omega)) (hS.hb (by omega)) rfl rfl hy ?_
      have iS : Iv (mPutsH N h 6 y) := hIv.putH (by omega) (by decide) (by decide)
      have hJ2 := hC1.putH hN (h := h) (w := 6) (v := y) (by omega) (by decide) (by decide) (fun _ => hy)
      have eHS : nHo (mPutsH N h 6 y) = nHo N := by unfold nHo mPutsH; rw [upd_ne (by omega)]
      have ePS : nPo (mPutsH N h 6 y) = nPo N := by unfold nPo mPutsH; rw [upd_ne (by omega)]
      have iN : Iv (shuN N h y) := shuN_Iv hIv (by omega)
      refine aw_iload_n dX10_shut_49 rfl ?_
      refine aw_if_eq (tgt := 61) dX10_shut_50 rfl (fun c50 => ?_) (fun c50 => ?_)
      · have hJ4 : CtS (upI J1 (1 + 2 + h) 7 y) M1 1 (shuN N h y) Q := by
          refine hJ2.cong ?_
          unfold shuN
          rw [if_pos c50, ← c50, ← ePS, shuL_no iS.1 (by omega) (fun p hp => ?_) _ (Nat.le_refl _)]
          rw [ePS] at hp
          have z6 : N (8 * h + 6) = 1 := by
            rcases sh_z01 hC h10 hh with q | q
            · exact absurd (q.trans c50.symm) c24
            · exact q
          rw [show nBi (mPutsH N h 6 y) p = nBi N p from by unfold nBi mPutsH; rw [upd_ne (by omega)]]
          exact hBs p hp h hh z6
        refine aw_aload_n dX10_shut_61 rfl ?_
        refine aw_aload_n dX10_shut_62 rfl ?_
        refine aw_getR (b := 1) dX10_shut_63 fX10_10 hX.k hX.b rfl hX.r0 ?_
        refine aw_cV dX10_shut_66 kX10_120 mX7_countFree (sX7_countFree hS hJ4 iN.ok) (Nat.le_of_ble_eq_true rfl) hS.k ⟨by decide, rfl⟩ hS.b0 rfl rfl (Nat.le_of_ble_eq_true rfl) ⟨Nat.le_refl _, Nat.le_refl _⟩ ?_
        refine aw_cV dX10_shut_69 kX10_94 mX10_answer (sX10_answer hX) (Nat.le_of_ble_eq_true rfl) hX.k ⟨by decide, rfl⟩ hX.b rfl rfl (Nat.le_of_ble_eq_true rfl) ⟨Nat.le_refl _, Nat.le_refl _⟩ ?_
        refine aw_iret q rfl dX10_shut_72 ⟨Nat.le_refl _, Nat.le_refl _⟩ ?_
        refine CA.ok ?_ (hK1.kf ht hN hFs (Fr.rf.put (by omega)) hJ4)
        unfold aShut
        rw [h9x, e9h]
        exact if_neg (fun q => c24 ((sh_if (sh_z01 hC h10 hh)).symm.trans q))
      · skip
        refine aw_aload_n dX10_shut_53 rfl ?_
        refine aw_getR (b := 1) dX10_shut_54 fX10_10 hX.k hX.b rfl hX.r0 ?_
        refine aw_aload_n dX10_shut_57 rfl ?_
        refine aw_mV dX10_shut_58 kX10_383 mX7_dropBidsFor (sX7_dropBidsFor (d := 0) hS hJ2 iS.ok iS.2.1 (h := h) (by omega)) (Nat.le_of_ble_eq_true rfl) hS.k ⟨by decide, rfl⟩ hS.b0 rfl rfl (Nat.le_of_ble_eq_true rfl) ⟨Nat.le_refl _, Nat.le_refl _⟩ (fun J3 hF3 hJ3 => ?_)
        have hJ4 : CtS J3 M1 1 (shuN N h y) Q := by
          refine hJ3.cong ?_
          unfold shuN
          rw [if_neg c50, ePS, z01_one hy c50]
        refine aw_aload_n dX10_shut_61 rfl ?_
        refine aw_aload_n dX10_shut_62 rfl ?_
        refine aw_getR (b := 1) dX10_shut_63 fX10_10 hX.k hX.b rfl hX.r0 ?_
        refine aw_cV dX10_shut_66 kX10_120 mX7_countFree (sX7_countFree hS hJ4 iN.ok) (Nat.le_of_ble_eq_true rfl) hS.k ⟨by decide, rfl⟩ hS.b0 rfl rfl (Nat.le_of_ble_eq_true rfl) ⟨Nat.le_refl _, Nat.le_refl _⟩ ?_
        refine aw_cV dX10_shut_69 kX10_94 mX10_answer (sX10_answer hX) (Nat.le_of_ble_eq_true rfl) hX.k ⟨by decide, rfl⟩ hX.b rfl rfl (Nat.le_of_ble_eq_true rfl) ⟨Nat.le_refl _, Nat.le_refl _⟩ ?_
        refine aw_iret q rfl dX10_shut_72 ⟨Nat.le_refl _, Nat.le_refl _⟩ ?_
        refine CA.ok ?_ (hK1.kf ht hN hFs ((Fr.rf.put (by omega)).tr hF3) hJ4)
        unfold aShut
        rw [h9x, e9h]
        exact if_neg (fun q => c24 ((sh_if (sh_z01 hC h10 hh)).symm.trans q))
    · refine aw_aload_n dX10_shut_27 rfl ?_
      refine aw_iconst (v := 4) dX10_shut_28 rfl ?_
      refine aw_cV dX10_shut_29 kX10_76 mX10_fail (sX10_fail hX) (Nat.le_of_ble_eq_true rfl) hX.k ⟨by decide, rfl⟩ hX.b rfl rfl (Nat.le_of_ble_eq_true rfl) ⟨Nat.le_refl _, Nat.le_refl _⟩ ?_
      refine aw_iret q rfl dX10_shut_32 ⟨Nat.le_refl _, Nat.le_refl _⟩ ?_
      refine CA.no (s := 4) ?_ (SpF.rf hFs)
      unfold aShut
      rw [h9x, e9h]
      exact if_pos ((sh_if (sh_z01 hC h10 hh)).trans c24)
set_option maxHeartbeats 4000000 in
set_option maxRecDepth 100000 in
theorem sX10_need (hX : IsX n sh) (hC : CtS I L 1 N Q) (hIv : Iv N) {t c : Nat} (ht : t < 12) (hc : c ≤ 12) (e1 : I 69 1 = nI t) (e2 : I 69 2 = nI c) (hFk : FxS I (69 + 2 + 34 * t)) (hFs : FxS I 35) {x v : Int32} (hBh : BhO N) : CM yX10_need cX10_need 5 (Option.some .int) 5 0 0 [.ref 0, .int x, .int v] z n sh I L (CA (aNeed N x v) t c N Q z n sh I L) := by
  refine CM.go [some (.ref 0), some (.int x), some (.int v), none, none] rfl rfl (Nat.le_of_ble_eq_true rfl) (fun X g q => ?_)
  have hO := hIv.ok
  have hN := hO.1
  have hR := hO.2.1
  have hB := hO.2.2.1
  have hE := hO.2.2.2
  have h8 := hN.p8
  have h10 := hN.h10
  have hS := hX.now
  cases h9x : mFrom x 0 (N 231 - 1) with
  | false =>
    refine aw_iload_n dX10_need_0 rfl ?_
    refine aw_iconst (v := 1) dX10_need_1 rfl ?_
    refine aw_icmp_lt (tgt := 10) dX10_need_2 rfl (fun c2 => ?_) (fun c2 => ?_)
    · have hw := from_lo (b := 4) c2
      refine aw_aload_n dX10_need_10 rfl ?_
      refine aw_iconst (v := 1) dX10_need_11 rfl ?_
      refine aw_cV dX10_need_12 kX10_76 mX10_fail (sX10_fail hX) (Nat.le_of_ble_eq_true rfl) hX.k ⟨by decide, rfl⟩ hX.b rfl rfl (Nat.le_of_ble_eq_true rfl) ⟨Nat.le_refl _, Nat.le_refl _⟩ ?_
      refine aw_iret q rfl dX10_need_15 ⟨Nat.le_refl _, Nat.le_refl _⟩ ?_
      refine CA.no (s := 1) ?_ (SpF.rf hFs)
      unfold aNeed
      rw [hw]
      rfl
    · skip
      refine aw_iload_n dX10_need_5 rfl ?_
      refine aw_iconst (v := 4) dX10_need_6 rfl ?_
      refine aw_icmp_le (tgt := 16) dX10_need_7 rfl (fun c7 => ?_) (fun c7 => ?_)
      · have hw := from_in c2 c7
        refine aw_aload_n dX10_need_16 rfl ?_
        refine aw_getR (b := 1) dX10_need_17 fX10_10 hX.k hX.b rfl hX.r0 ?_
        refine aw_iload_n dX10_need_20 rfl ?_
        refine aw_cV dX10_need_21 kX10_176 mX7_houseAt (sX7_houseAtN hS hC hO h9x) (Nat.le_of_ble_eq_true rfl) hS.k ⟨by decide, rfl⟩ hS.b0 rfl rfl (Nat.le_of_ble_eq_true rfl) ⟨Nat.le_refl _, Nat.le_refl _⟩ ?_
        refine aw_astore_nN dX10_need_24 (by decide) rfl ?_
        refine aw_aload_nN dX10_need_25 rfl ?_
        refine aw_ifnonnullN dX10_need_26 ?_
        refine aw_aload_n dX10_need_29 rfl ?_
        refine aw_iconst (v := 2) dX10_need_30 rfl ?_
        refine aw_cV dX10_need_31 kX10_76 mX10_fail (sX10_fail hX) (Nat.le_of_ble_eq_true rfl) hX.k ⟨by decide, rfl⟩ hX.b rfl rfl (Nat.le_of_ble_eq_true rfl) ⟨Nat.le_refl _, Nat.le_refl _⟩ ?_
        refine aw_iret q rfl dX10_need_34 ⟨Nat.le_refl _, Nat.le_refl _⟩ ?_
        refine CA.no (s := 2) ?_ (SpF.rf hFs)
        unfold aNeed
        rw [hw, h9x]
        rfl
      · have hw := from_gt (a := 1) c7
        refine aw_aload_n dX10_need_10 rfl ?_
        refine aw_iconst (v := 1) dX10_need_11 rfl ?_
        refine aw_cV dX10_need_12 kX10_76 mX10_fail (sX10_fail hX) (Nat.le_of_ble_eq_true rfl) hX.k ⟨by decide, rfl⟩ hX.b rfl rfl (Nat.le_of_ble_eq_true rfl) ⟨Nat.le_refl _, Nat.le_refl _⟩ ?_
        refine aw_iret q rfl dX10_need_15 ⟨Nat.le_refl _, Nat.le_refl _⟩ ?_
        refine CA.no (s := 1) ?_ (SpF.rf hFs)
        unfold aNeed
        rw [hw]
        rfl
  | true =>
    obtain ⟨p, hp, rfl⟩ := from_ix hN.p (by omega) h9x
    have e9p : (nI p).toNatClampNeg = p := nI_clamp (by omega)
    refine aw_iload_n dX10_need_0 rfl ?_
    refine aw_iconst (v := 1) dX10_need_1 rfl ?_
    refine aw_icmp_lt (tgt := 10) dX10_need_2 rfl (fun c2 => ?_) (fun c2 => ?_)
    · have hw := from_lo (b := 4) c2
      refine aw_aload_n dX10_need_10 rfl ?_
      refine aw_iconst (v := 1) dX10_need_11 rfl ?_
      refine aw_cV dX10_need_12 kX10_76 mX10_fail (sX10_fail hX) (Nat.le_of_ble_eq_true rfl) hX.k ⟨by decide, rfl⟩ hX.b rfl rfl (Nat.le_of_ble_eq_true rfl) ⟨Nat.le_refl _, Nat.le_refl _⟩ ?_
      refine aw_iret q rfl dX10_need_15 ⟨Nat.le_refl _, Nat.le_refl _⟩ ?_
      refine CA.no (s := 1) ?_ (SpF.rf hFs)
      unfold aNeed
      rw [hw]
      rfl
    · skip
      refine aw_iload_n dX10_need_5 rfl ?_
      refine aw_iconst (v := 4) dX10_need_6 rfl ?_
      refine aw_icmp_le (tgt := 16) dX10_need_7 rfl (fun c7 => ?_) (fun c7 => ?_)
      · have hw := from_in c2 c7
        refine aw_aload_n dX10_need_16 rfl ?_
        refine aw_getR (b := 1) dX10_need_17 fX10_10 hX.k hX.b rfl hX.r0 ?_
        refine aw_iload_n dX10_need_20 rfl ?_
        refine aw_cV dX10_need_21 kX10_176 mX7_houseAt (sX7_houseAt hS hC hO rfl hp) (Nat.le_of_ble_eq_true rfl) hS.k ⟨by decide, rfl⟩ hS.b0 rfl rfl (Nat.le_of_ble_eq_true rfl) ⟨Nat.le_refl _, Nat.le_refl _⟩ ?_
        refine aw_astore_n dX10_need_24 (by decide) rfl ?_
        refine aw_aload_n dX10_need_25 rfl ?_
        refine aw_ifnonnull (tgt := 35) dX10_need_26 rfl ?_
        refine aw_aload_n dX10_need_35 rfl ?_
        refine aw_getI dX10_need_36 fX10_189 (hS.po (by omega)) (hS.pb (by omega)) rfl ?_
        refine AW.top (hC.pf h8 (p := p) (w := 1) (by omega) (by decide) (by decide) (by decide)) ?_
        refine aw_istore dX10_need_39 (by decide) rfl ?_
        refine aw_iload dX10_need_41 rfl ?_
        refine aw_iload_n dX10_need_43 rfl ?_
        refine aw_icmp_ne (tgt := 53) dX10_need_44 rfl (fun c44 => ?_) (fun c44 => ?_)
        · refine aw_aload_n dX10_need_53 rfl ?_
          refine aw_getR (b := 69) dX10_need_54 fX10_22 hX.k hX.b rfl hX.r2 ?_
          refine aw_aload_n dX10_need_57 rfl ?_
          refine aw_getR (b := 1) dX10_need_58 fX10_10 hX.k hX.b rfl hX.r0 ?_
          refine aw_kV dX10_need_61 kX10_358 mX1_keep (sX1_keep hX.his hX.now (Or.inl (by decide)) ht e1 e2 hc hFk hC hN) (Nat.le_of_ble_eq_true rfl) hX.his.2.1 ⟨by decide, rfl⟩ hX.his.b0 rfl rfl (Nat.le_of_ble_eq_true rfl) ⟨Nat.le_refl _, Nat.le_refl _⟩ (fun J1 M1 hK1 => ?_)
          have hC1 := hK1.now hN hC
          refine aw_aload_n dX10_need_64 rfl ?_
          refine aw_iload_n dX10_need_65 rfl ?_
          refine aw_putI dX10_need_66 fX10_189 (hS.po (by omega)) (hS.pb (by omega)) rfl rfl ?_
          have hrg : rg v 1 4 := by
            obtain ⟨k, k1, k2, k3⟩ := rng (x := 1) (y := 4) (v := v) (by decide) (Int32.not_lt.mp c2) c7 (by decide)
            exact ⟨k, k1, k2, k3⟩
          have iS := need_Iv hIv hp hrg
          have hJ2 := hC1.putP hN (p := p) (w := 1) (v := v) (by omega) (by decide) (by decide) (by decide) (by decide) (by decide) (fun q => absurd q (by decide))
          have ePS : nPo (mPuts N p 1 v) = nPo N := by unfold nPo mPuts; rw [upd_ne (by omega)]
          have eHS : nHo (mPuts N p 1 v) = nHo N := by unfold nHo mPuts; rw [upd_ne (by omega)]
          have e10 : mPuts N p 1 v (80 + 18 * p + 10) = N (80 + 18 * p + 10) := upd_ne (by omega)
          refine aw_aload_n dX10_need_69 rfl ?_
          refine aw_dup dX10_need_70 rfl ?_
          refine aw_getI dX10_need_71 fX10_361 (hS.po (by omega)) (hS.pb (by omega)) rfl ?_
          refine AW.top (hJ2.pf iS.1.p8 (p := p) (w := 10) (by omega) (by decide) (by decide) (by decide)) ?_
          refine aw_aload_n dX10_need_74 rfl ?_
          refine aw_getR (b := 1) dX10_need_75 fX10_10 hX.k hX.b rfl hX.r0 ?_
          refine aw_aload_n dX10_need_78 rfl ?_
          refine aw_iconst (v := 0) dX10_need_79 rfl ?_
          refine aw_iconst (v := 0) dX10_need_80 rfl ?_
          refine aw_cV dX10_need_81 kX10_293 mX7_homesThatFit (sX7_homesThatFit hS hJ2 iS.ok (p := p) (by omega) (Or.inl rfl) (Or.inl rfl)) (Nat.le_of_ble_eq_true rfl) hS.k ⟨by decide, rfl⟩ hS.b0 rfl rfl (Nat.le_of_ble_eq_true rfl) ⟨Nat.le_refl _, Nat.le_refl _⟩ ?_
          refine aw_iand dX10_need_84 ?_
          refine aw_putI dX10_need_85 fX10_361 (hS.po (by omega)) (hS.pb (by omega)) rfl rfl ?_
          have hJ3 := hJ2.putP iS.1 (p := p) (w := 10) (v := mPuts N p 1 v (80 + 18 * p + 10) &&& iset (fun h => mFit (mPuts N p 1 v) p h && (!decide ((0 : Int32) = 1) || mFree (mPuts N p 1 v) h) && (!decide ((0 : Int32) = 1) || mTake (mPuts N p 1 v) p (nI h))) (nHo (mPuts N p 1 v))) (by omega) (by decide) (by decide) (by decide) (by decide) (by decide) (fun q => absurd q (by decide))
          have hJ4 := hJ3.cong (M := neeN N p v) (by
            unfold neeN
            rw [← eHS, need_eq iS.1 (by omega) (by
              rw [eHS, show nBi (mPuts N p 1 v) p = nBi N p from by unfold nBi; rw [e10]]
              exact hBh p hp)]
            congr 2
            exact iset_cong (fun k hk => by simp))
          refine aw_aload_n dX10_need_88 rfl ?_
          refine aw_iload dX10_need_89 rfl ?_
          refine aw_cV dX10_need_91 kX10_94 mX10_answer (sX10_answer hX) (Nat.le_of_ble_eq_true rfl) hX.k ⟨by decide, rfl⟩ hX.b rfl rfl (Nat.le_of_ble_eq_true rfl) ⟨Nat.le_refl _, Nat.le_refl _⟩ ?_
          refine aw_iret q rfl dX10_need_94 ⟨Nat.le_refl _, Nat.le_refl _⟩ ?_
          refine CA.ok ?_ (hK1.kf ht hN hFs ((Fr.rf.put (by omega)).put (by omega)) hJ4)
          unfold aNeed
          rw [hw, h9x, e9p]
          exact if_neg c44
        · refine aw_aload_n dX10_need_47 rfl ?_
          refine aw_iconst (v := 4) dX10_need_48 rfl ?_
          refine aw_cV dX10_need_49 kX10_76 mX10_fail (sX10_fail hX) (Nat.le_of_ble_eq_true rfl) hX.k ⟨by decide, rfl⟩ hX.b rfl rfl (Nat.le_of_ble_eq_true rfl) ⟨Nat.le_refl _, Nat.le_refl _⟩ ?_
          refine aw_iret q rfl dX10_need_52 ⟨Nat.le_refl _, Nat.le_refl _⟩ ?_
          refine CA.no (s := 4) ?_ (SpF.rf hFs)
          unfold aNeed
          rw [hw, h9x, e9p]
          exact if_pos c44
      · have hw := from_gt (a := 1) c7
        refine aw_aload_n dX10_need_10 rfl ?_
        refine aw_iconst (v := 1) dX10_need_11 rfl ?_
        refine aw_cV dX10_need_12 kX10_76 mX10_fail (sX10_fail hX) (Nat.le_of_ble_eq_true rfl) hX.k ⟨by decide, rfl⟩ hX.b rfl rfl (Nat.le_of_ble_eq_true rfl) ⟨Nat.le_refl _, Nat.le_refl _⟩ ?_
        refine aw_iret q rfl dX10_need_15 ⟨Nat.le_refl _, Nat.le_refl _⟩ ?_
        refine CA.no (s := 1) ?_ (SpF.rf hFs)
        unfold aNeed
        rw [hw]
        rfl
def UF (t c : Nat) (N' : Nat → Int32) (Q : Nat → Int64) (I : MI) (L : ML) (J : MI) (M : ML) : Prop := (∀ x, x ≠ 69 → (x = 0 ∨ 35 ≤ x) → J x = I x) ∧ (∀ x, (x = 0 ∨ 35 ≤ x) → M x = L x) ∧ CtS J M 1 N' Q ∧ J 69 1 = nI ((t + 11) % 12) ∧ J 69 2 = nI (c - 1)
theorem aw_gV {X : Cx} {g : Gd} {cc : ByteArray} {nL : Nat} {Bd : Nat × Nat × Nat} {E : En} {I : MI} {L : ML} {pc : Nat} {Lc : List (Option Value)} {st : List Value} {own : String} {idx ci b u s t c : Nat} {y : MethodName} {cc2 : ByteArray} {nL2 : Nat} {ret2 : Option FieldType} {np d : Nat} {As : List Value} {st0 : List Value} {M : Nat → Int32} {Q : Nat → Int64} (dg : decode cc pc = .ok (.invokevirtual idx, 3)) (hl : Cond.methodLink own idx y ∈ tblG) (hm : mV y cc2 nL2 ret2 np) (hM : CM y cc2 nL2 ret2 d 0 0 (.ref b :: As) E.1 E.2.1 E.2.2.1 I L (GbP u s t c M Q E.1 E.2.1 E.2.2.1 I L))
    (hd : d + 1 ≤ Bd.1) (hk : (E.2.2.1 b).1 = ci) (hci : ci < 12 ∧ clR ci = y.cls) (hb : b < E.2.1) (hst : st0 = As.reverse ++ .ref b :: st) (hn : As.length = np) (hw : (st.map fun v => v.category).sum ≤ 8) (hf : E.2.2.2.1 ≤ Bd.2.1 ∧ E.2.2.2.2 ≤ Bd.2.2)
    (k : ∀ J P, ((∀ x, x ≠ u → (x < s ∨ s + 34 ≤ x) → J x = I x) ∧ FrL s L P ∧ CtS J P s M Q ∧ J u 1 = nI ((t + 11) % 12) ∧ J u 2 = nI (c - 1)) → AW X g own cc nL Bd E J P (pc + 3) Lc st) : AW X g own cc nL Bd E I L pc Lc st0 :=
  aw_callV dg hl hm hM hd hk hci hb hst hn hw hf (fun v z n sh I3 L3 q => by
    obtain ⟨h1, h2, h3, h4, h5⟩ := q
    subst h1 h2 h3 h4
    exact k _ _ h5)
set_option maxHeartbeats 4000000 in
set_option maxRecDepth 100000 in
theorem sX10_undoN (hX : IsX n sh) (hC : CtS I L 1 N Q) {t c : Nat} (e2 : I 69 2 = nI c) (hc : c = 0)  : CM yX10_undo cX10_undo 1 (Option.some .int) 5 0 0 [.ref 0] z n sh I L (Pst (some (.int (-1))) z n sh (upI I 0 8 5) L) := by
  refine CM.go [some (.ref 0)] rfl rfl (Nat.le_of_ble_eq_true rfl) (fun X g q => ?_)
  refine aw_aload_n dX10_undo_0 rfl ?_
  refine aw_getR (b := 69) dX10_undo_1 fX10_22 hX.k hX.b rfl hX.r2 ?_
  refine aw_getI dX10_undo_4 fX10_88 hX.his.2.1 hX.his.b0 rfl ?_
  refine AW.top e2 ?_
  refine aw_if_ne (tgt := 16) dX10_undo_7 rfl (fun c7 => ?_) (fun c7 => ?_)
  · rw [hc] at c7
    exact absurd rfl c7
  · skip
    refine aw_aload_n dX10_undo_10 rfl ?_
    refine aw_iconst (v := 5) dX10_undo_11 rfl ?_
    refine aw_cV dX10_undo_12 kX10_76 mX10_fail (sX10_fail hX) (Nat.le_of_ble_eq_true rfl) hX.k ⟨by decide, rfl⟩ hX.b rfl rfl (Nat.le_of_ble_eq_true rfl) ⟨Nat.le_refl _, Nat.le_refl _⟩ ?_
    refine aw_iret q rfl dX10_undo_15 ⟨Nat.le_refl _, Nat.le_refl _⟩ ?_
    exact Pst.rf
set_option maxHeartbeats 4000000 in
set_option maxRecDepth 100000 in
theorem sX10_undo (hX : IsX n sh) (hC : CtS I L 1 N Q) {t c : Nat} (e2 : I 69 2 = nI c) (hc : 1 ≤ c ∧ c ≤ 12) (ht : t < 12) (e1 : I 69 1 = nI t) {N2 : Nat → Int32} {Q2 : Nat → Int64} (hK : CtS I L (69 + 2 + 34 * ((t + 11) % 12)) N2 Q2) (hN2 : Cn N2)  : CM yX10_undo cX10_undo 1 (Option.some .int) 5 0 0 [.ref 0] z n sh I L (fun v z' n' sh' J' M' => v = some (.int (nI (c - 1))) ∧ z' = z ∧ n' = n ∧ sh' = sh ∧ ∃ J, J' = upI J 0 8 0 ∧ UF t c N2 Q2 I L J M') := by
  refine CM.go [some (.ref 0)] rfl rfl (Nat.le_of_ble_eq_true rfl) (fun X g q => ?_)
  refine aw_aload_n dX10_undo_0 rfl ?_
  refine aw_getR (b := 69) dX10_undo_1 fX10_22 hX.k hX.b rfl hX.r2 ?_
  refine aw_getI dX10_undo_4 fX10_88 hX.his.2.1 hX.his.b0 rfl ?_
  refine AW.top e2 ?_
  refine aw_if_ne (tgt := 16) dX10_undo_7 rfl (fun c7 => ?_) (fun c7 => ?_)
  · skip
    refine aw_aload_n dX10_undo_16 rfl ?_
    refine aw_getR (b := 69) dX10_undo_17 fX10_22 hX.k hX.b rfl hX.r2 ?_
    refine aw_aload_n dX10_undo_20 rfl ?_
    refine aw_getR (b := 1) dX10_undo_21 fX10_10 hX.k hX.b rfl hX.r0 ?_
    refine aw_gV dX10_undo_24 kX10_391 mX1_goBack (sX1_goBack hX.his hX.now (Or.inl (by decide)) ht e1 e2 hc hC.1 hK hN2) (Nat.le_of_ble_eq_true rfl) hX.his.2.1 ⟨by decide, rfl⟩ hX.his.b0 rfl rfl (Nat.le_of_ble_eq_true rfl) ⟨Nat.le_refl _, Nat.le_refl _⟩ (fun J1 M1 hG => ?_)
    obtain ⟨g1, g2, g3, g4, g5⟩ := hG
    refine aw_aload_n dX10_undo_27 rfl ?_
    refine aw_aload_n dX10_undo_28 rfl ?_
    refine aw_getR (b := 69) dX10_undo_29 fX10_22 hX.k hX.b rfl hX.r2 ?_
    refine aw_getI dX10_undo_32 fX10_88 hX.his.2.1 hX.his.b0 rfl ?_
    refine AW.top g5 ?_
    refine aw_cV dX10_undo_35 kX10_94 mX10_answer (sX10_answer hX) (Nat.le_of_ble_eq_true rfl) hX.k ⟨by decide, rfl⟩ hX.b rfl rfl (Nat.le_of_ble_eq_true rfl) ⟨Nat.le_refl _, Nat.le_refl _⟩ ?_
    refine aw_iret q rfl dX10_undo_38 ⟨Nat.le_refl _, Nat.le_refl _⟩ ?_
    exact ⟨rfl, rfl, rfl, rfl, J1, rfl, fun x h1 h2 => g1 x h1 (by omega), fun x h2 => g2 x (by omega), g3, g4, g5⟩
  · exact absurd c7 (nz0 (by omega) (by omega))
end ClsS
