/-! the class whole: order, queue, tips, gaps, envy, wards -/
theorem nI_ge0 {x : Int32} (h : 0 ≤ x) : ∃ k, k < 2 ^ 31 ∧ x = nI k := nI_of (Int32.not_lt.mpr h)
section ClsS
variable {z n : Nat} {sh : Shp} {I : MI} {L : ML} {N : Nat → Int32} {Q : Nat → Int64}
set_option maxHeartbeats 4000000 in
set_option maxRecDepth 100000 in
theorem sX10_order (hX : IsX n sh) (hC : CtS I L 1 N Q) (hIv : Iv N) {x k : Int32} (hBd : BdO N) : CM yX10_order cX10_order 4 (Option.some .int) 5 0 0 [.ref 0, .int x, .int k] z n sh I L (Ct (aOrder N x k) z n sh I L) := by
  refine CM.go [some (.ref 0), some (.int x), some (.int k), none] rfl rfl (Nat.le_of_ble_eq_true rfl) (fun X g q => ?_)
  have hO := hIv.ok
  have hN := hO.1
  have hR := hO.2.1
  have hB := hO.2.2.1
  have hE := hO.2.2.2
  have h8 := hN.p8
  have h10 := hN.h10
  have hS := hX.now
  cases h9x : mFrom x 0 (N 230 - 1) with
  | false =>
    refine aw_iload_n dX10_order_0 rfl ?_
    refine aw_if_ge (tgt := 10) dX10_order_1 rfl (fun c1 => ?_) (fun c1 => ?_)
    · obtain ⟨u, hu, rfl⟩ := nI_ge0 c1
      refine aw_aload_n dX10_order_10 rfl ?_
      refine aw_getR (b := 1) dX10_order_11 fX10_10 hX.k hX.b rfl hX.r0 ?_
      refine aw_iload_n dX10_order_14 rfl ?_
      refine aw_cV dX10_order_15 kX10_132 mX7_homeAt (sX7_homeAtN hS hC hO h9x) (Nat.le_of_ble_eq_true rfl) hS.k ⟨by decide, rfl⟩ hS.b0 rfl rfl (Nat.le_of_ble_eq_true rfl) ⟨Nat.le_refl _, Nat.le_refl _⟩ ?_
      refine aw_astore_nN dX10_order_18 (by decide) rfl ?_
      refine aw_aload_nN dX10_order_19 rfl ?_
      refine aw_ifnonnullN dX10_order_20 ?_
      refine aw_aload_n dX10_order_23 rfl ?_
      refine aw_iconst (v := 2) dX10_order_24 rfl ?_
      refine aw_cV dX10_order_25 kX10_76 mX10_fail (sX10_fail hX) (Nat.le_of_ble_eq_true rfl) hX.k ⟨by decide, rfl⟩ hX.b rfl rfl (Nat.le_of_ble_eq_true rfl) ⟨Nat.le_refl _, Nat.le_refl _⟩ ?_
      refine aw_iret q rfl dX10_order_28 ⟨Nat.le_refl _, Nat.le_refl _⟩ ?_
      refine Ct.no ?_
      unfold aOrder
      rw [if_neg (Int32.not_lt.mpr c1), h9x]
      rfl
    · skip
      refine aw_aload_n dX10_order_4 rfl ?_
      refine aw_iconst (v := 1) dX10_order_5 rfl ?_
      refine aw_cV dX10_order_6 kX10_76 mX10_fail (sX10_fail hX) (Nat.le_of_ble_eq_true rfl) hX.k ⟨by decide, rfl⟩ hX.b rfl rfl (Nat.le_of_ble_eq_true rfl) ⟨Nat.le_refl _, Nat.le_refl _⟩ ?_
      refine aw_iret q rfl dX10_order_9 ⟨Nat.le_refl _, Nat.le_refl _⟩ ?_
      refine Ct.no ?_
      unfold aOrder
      rw [if_pos (fa_of_nle c1)]
  | true =>
    obtain ⟨h, hh, rfl⟩ := from_ix hN.h (by omega) h9x
    have e9h : (nI h).toNatClampNeg = h := nI_clamp (by omega)
    refine aw_iload_n dX10_order_0 rfl ?_
    refine aw_if_ge (tgt := 10) dX10_order_1 rfl (fun c1 => ?_) (fun c1 => ?_)
    · obtain ⟨u, hu, rfl⟩ := nI_ge0 c1
      refine aw_aload_n dX10_order_10 rfl ?_
      refine aw_getR (b := 1) dX10_order_11 fX10_10 hX.k hX.b rfl hX.r0 ?_
      refine aw_iload_n dX10_order_14 rfl ?_
      refine aw_cV dX10_order_15 kX10_132 mX7_homeAt (sX7_homeAt hS hC hO rfl hh) (Nat.le_of_ble_eq_true rfl) hS.k ⟨by decide, rfl⟩ hS.b0 rfl rfl (Nat.le_of_ble_eq_true rfl) ⟨Nat.le_refl _, Nat.le_refl _⟩ ?_
      refine aw_astore_n dX10_order_18 (by decide) rfl ?_
      refine aw_aload_n dX10_order_19 rfl ?_
      refine aw_ifnonnull (tgt := 29) dX10_order_20 rfl ?_
      refine aw_aload_n dX10_order_29 rfl ?_
      refine aw_aload_n dX10_order_30 rfl ?_
      refine aw_getR (b := 1) dX10_order_31 fX10_10 hX.k hX.b rfl hX.r0 ?_
      refine aw_aload_n dX10_order_34 rfl ?_
      refine aw_getR (b := 1) dX10_order_35 fX10_10 hX.k hX.b rfl hX.r0 ?_
      refine aw_aload_n dX10_order_38 rfl ?_
      refine aw_cV dX10_order_39 kX10_158 mX7_biddersFor (show CM yX7_biddersFor cX7_biddersFor 4 (Option.some .int) 2 0 0 [.ref 1, .ref (1 + 2 + h)] z n sh I L (Pst (some (.int (mBidders N h))) z n sh I L) from bidders_eq (h := h) hBd ▸ sX7_biddersFor hS hC hO hh) (Nat.le_of_ble_eq_true rfl) hS.k ⟨by decide, rfl⟩ hS.b0 rfl rfl (Nat.le_of_ble_eq_true rfl) ⟨Nat.le_refl _, Nat.le_refl _⟩ ?_
      refine aw_aload_n dX10_order_42 rfl ?_
      refine aw_iload_n dX10_order_43 rfl ?_
      refine aw_cV dX10_order_44 kX10_229 mX7_kthOf (sX7_kthOf hS hC hO (iset_lt (fun p => mBid N p (nI h)) h8).1 (iset_lt (fun p => mBid N p (nI h)) h8).2 (k := u) rfl hu hh) (Nat.le_of_ble_eq_true rfl) hS.k ⟨by decide, rfl⟩ hS.b0 rfl rfl (Nat.le_of_ble_eq_true rfl) ⟨Nat.le_refl _, Nat.le_refl _⟩ ?_
      refine aw_cV dX10_order_47 kX10_233 mX10_answerNumber (sX10_answerNumberO hX hC.1 (fun p q => by have := kO_lt q; omega)) (Nat.le_of_ble_eq_true rfl) hX.k ⟨by decide, rfl⟩ hX.b rfl rfl (Nat.le_of_ble_eq_true rfl) ⟨Nat.le_refl _, Nat.le_refl _⟩ ?_
      refine aw_iret q rfl dX10_order_50 ⟨Nat.le_refl _, Nat.le_refl _⟩ ?_
      have e : aOrder N (nI h) (nI u) = aNum (kO (fun p => cRk N p h (mLocal N h) (mQuota N) (mBand N p)) (nPo N) (mBidders N h) u) := by
        rw [order_eq hR h8 hu]
        unfold aOrder
        rw [if_neg (Int32.not_lt.mpr c1), h9x, e9h, nI_clamp hu]
        rfl
      rw [e]
      exact Pst.rf
    · skip
      refine aw_aload_n dX10_order_4 rfl ?_
      refine aw_iconst (v := 1) dX10_order_5 rfl ?_
      refine aw_cV dX10_order_6 kX10_76 mX10_fail (sX10_fail hX) (Nat.le_of_ble_eq_true rfl) hX.k ⟨by decide, rfl⟩ hX.b rfl rfl (Nat.le_of_ble_eq_true rfl) ⟨Nat.le_refl _, Nat.le_refl _⟩ ?_
      refine aw_iret q rfl dX10_order_9 ⟨Nat.le_refl _, Nat.le_refl _⟩ ?_
      refine Ct.no ?_
      unfold aOrder
      rw [if_pos (fa_of_nle c1)]
set_option maxHeartbeats 4000000 in
set_option maxRecDepth 100000 in
theorem sX10_queue (hX : IsX n sh) (hC : CtS I L 1 N Q) (hIv : Iv N) {k : Int32} : CM yX10_queue cX10_queue 2 (Option.some .int) 5 0 0 [.ref 0, .int k] z n sh I L (Ct (aQueue N k) z n sh I L) := by
  refine CM.go [some (.ref 0), some (.int k)] rfl rfl (Nat.le_of_ble_eq_true rfl) (fun X g q => ?_)
  have hO := hIv.ok
  have hN := hO.1
  have hR := hO.2.1
  have hB := hO.2.2.1
  have hE := hO.2.2.2
  have h8 := hN.p8
  have h10 := hN.h10
  have hS := hX.now
  refine aw_iload_n dX10_queue_0 rfl ?_
  refine aw_if_ge (tgt := 10) dX10_queue_1 rfl (fun c1 => ?_) (fun c1 => ?_)
  · obtain ⟨u, hu, rfl⟩ := nI_ge0 c1
    refine aw_aload_n dX10_queue_10 rfl ?_
    refine aw_aload_n dX10_queue_11 rfl ?_
    refine aw_getR (b := 1) dX10_queue_12 fX10_10 hX.k hX.b rfl hX.r0 ?_
    refine aw_aload_n dX10_queue_15 rfl ?_
    refine aw_getR (b := 1) dX10_queue_16 fX10_10 hX.k hX.b rfl hX.r0 ?_
    refine aw_cV dX10_queue_19 kX10_322 mX7_waiting (sX7_waiting hS hC hO) (Nat.le_of_ble_eq_true rfl) hS.k ⟨by decide, rfl⟩ hS.b0 rfl rfl (Nat.le_of_ble_eq_true rfl) ⟨Nat.le_refl _, Nat.le_refl _⟩ ?_
    refine aw_null dX10_queue_22 ?_
    refine aw_iload_n dX10_queue_23 rfl ?_
    refine aw_cV dX10_queue_24 kX10_229 mX7_kthOf (sX7_kthOfN hS hC hO (iset_lt (mIn N) h8).1 (iset_lt (mIn N) h8).2 (k := u) rfl hu) (Nat.le_of_ble_eq_true rfl) hS.k ⟨by decide, rfl⟩ hS.b0 rfl rfl (Nat.le_of_ble_eq_true rfl) ⟨Nat.le_refl _, Nat.le_refl _⟩ ?_
    refine aw_cV dX10_queue_27 kX10_233 mX10_answerNumber (sX10_answerNumberO hX hC.1 (fun p q => by have := kO_lt q; omega)) (Nat.le_of_ble_eq_true rfl) hX.k ⟨by decide, rfl⟩ hX.b rfl rfl (Nat.le_of_ble_eq_true rfl) ⟨Nat.le_refl _, Nat.le_refl _⟩ ?_
    refine aw_iret q rfl dX10_queue_30 ⟨Nat.le_refl _, Nat.le_refl _⟩ ?_
    have e : aQueue N (nI u) = aNum (kO (fun p => cRk N p 0 false false (mBand N p)) (nPo N) (iset (mIn N) (nPo N)) u) := by
      rw [queue_eq hR h8 hu]
      unfold aQueue
      rw [if_neg (Int32.not_lt.mpr c1), nI_clamp hu]
    rw [e]
    exact Pst.rf
  · skip
    refine aw_aload_n dX10_queue_4 rfl ?_
    refine aw_iconst (v := 1) dX10_queue_5 rfl ?_
    refine aw_cV dX10_queue_6 kX10_76 mX10_fail (sX10_fail hX) (Nat.le_of_ble_eq_true rfl) hX.k ⟨by decide, rfl⟩ hX.b rfl rfl (Nat.le_of_ble_eq_true rfl) ⟨Nat.le_refl _, Nat.le_refl _⟩ ?_
    refine aw_iret q rfl dX10_queue_9 ⟨Nat.le_refl _, Nat.le_refl _⟩ ?_
    refine Ct.no ?_
    unfold aQueue
    rw [if_pos (fa_of_nle c1)]
set_option maxHeartbeats 4000000 in
set_option maxRecDepth 100000 in
theorem sX10_tip (hX : IsX n sh) (hC : CtS I L 1 N Q) (hIv : Iv N) {x : Int32} (hBd : BdO N) : CM yX10_tip cX10_tip 3 (Option.some .int) 6 0 0 [.ref 0, .int x] z n sh I L (Ct (aTip N x) z n sh I L) := by
  refine CM.go [some (.ref 0), some (.int x), none] rfl rfl (Nat.le_of_ble_eq_true rfl) (fun X g q => ?_)
  have hO := hIv.ok
  have hN := hO.1
  have hR := hO.2.1
  have hB := hO.2.2.1
  have hE := hO.2.2.2
  have h8 := hN.p8
  have h10 := hN.h10
  have hS := hX.now
  cases h9x : mFrom x 0 (N 231 - 1) with
  | false =>
    refine aw_aload_n dX10_tip_0 rfl ?_
    refine aw_getR (b := 1) dX10_tip_1 fX10_10 hX.k hX.b rfl hX.r0 ?_
    refine aw_iload_n dX10_tip_4 rfl ?_
    refine aw_cV dX10_tip_5 kX10_176 mX7_houseAt (sX7_houseAtN hS hC hO h9x) (Nat.le_of_ble_eq_true rfl) hS.k ⟨by decide, rfl⟩ hS.b0 rfl rfl (Nat.le_of_ble_eq_true rfl) ⟨Nat.le_refl _, Nat.le_refl _⟩ ?_
    refine aw_astore_nN dX10_tip_8 (by decide) rfl ?_
    refine aw_aload_nN dX10_tip_9 rfl ?_
    refine aw_ifnonnullN dX10_tip_10 ?_
    refine aw_aload_n dX10_tip_13 rfl ?_
    refine aw_iconst (v := 2) dX10_tip_14 rfl ?_
    refine aw_cV dX10_tip_15 kX10_76 mX10_fail (sX10_fail hX) (Nat.le_of_ble_eq_true rfl) hX.k ⟨by decide, rfl⟩ hX.b rfl rfl (Nat.le_of_ble_eq_true rfl) ⟨Nat.le_refl _, Nat.le_refl _⟩ ?_
    refine aw_iret q rfl dX10_tip_18 ⟨Nat.le_refl _, Nat.le_refl _⟩ ?_
    refine Ct.no ?_
    unfold aTip
    rw [h9x]
    rfl
  | true =>
    obtain ⟨p, hp, rfl⟩ := from_ix hN.p (by omega) h9x
    have e9p : (nI p).toNatClampNeg = p := nI_clamp (by omega)
    refine aw_aload_n dX10_tip_0 rfl ?_
    refine aw_getR (b := 1) dX10_tip_1 fX10_10 hX.k hX.b rfl hX.r0 ?_
    refine aw_iload_n dX10_tip_4 rfl ?_
    refine aw_cV dX10_tip_5 kX10_176 mX7_houseAt (sX7_houseAt hS hC hO rfl hp) (Nat.le_of_ble_eq_true rfl) hS.k ⟨by decide, rfl⟩ hS.b0 rfl rfl (Nat.le_of_ble_eq_true rfl) ⟨Nat.le_refl _, Nat.le_refl _⟩ ?_
    refine aw_astore_n dX10_tip_8 (by decide) rfl ?_
    refine aw_aload_n dX10_tip_9 rfl ?_
    refine aw_ifnonnull (tgt := 19) dX10_tip_10 rfl ?_
    refine aw_aload_n dX10_tip_19 rfl ?_
    refine aw_aload_n dX10_tip_20 rfl ?_
    refine aw_getR (b := 1) dX10_tip_21 fX10_10 hX.k hX.b rfl hX.r0 ?_
    refine aw_aload_n dX10_tip_24 rfl ?_
    refine aw_cV dX10_tip_25 kX10_274 mX7_bestTip (sX7_bestTip hS hC hO hIv.co.wi hp) (Nat.le_of_ble_eq_true rfl) hS.k ⟨by decide, rfl⟩ hS.b0 rfl rfl (Nat.le_of_ble_eq_true rfl) ⟨Nat.le_refl _, Nat.le_refl _⟩ ?_
    refine aw_cV dX10_tip_28 kX10_147 mX10_answerIfAny (sX10_answerIfAny hX) (Nat.le_of_ble_eq_true rfl) hX.k ⟨by decide, rfl⟩ hX.b rfl rfl (Nat.le_of_ble_eq_true rfl) ⟨Nat.le_refl _, Nat.le_refl _⟩ ?_
    refine aw_iret q rfl dX10_tip_31 ⟨Nat.le_refl _, Nat.le_refl _⟩ ?_
    have e : aTip N (nI p) = aAny (tpL N p (nLikes N p)).1 := by
      rw [(tip_eq hN hR hBd hIv.co.wi hp _ (Nat.le_refl _)).1]
      unfold aTip aAny
      rw [h9x, e9p]
      rfl
    rw [e]
    exact Pst.rf
set_option maxHeartbeats 4000000 in
set_option maxRecDepth 100000 in
theorem sX10_gap (hX : IsX n sh) (hC : CtS I L 1 N Q) (hIv : Iv N) {x y : Int32} (hBd : BdO N) : CM yX10_gap cX10_gap 5 (Option.some .int) 6 0 0 [.ref 0, .int x, .int y] z n sh I L (Ct (aGap N x y) z n sh I L) := by
  refine CM.go [some (.ref 0), some (.int x), some (.int y), none, none] rfl rfl (Nat.le_of_ble_eq_true rfl) (fun X g q => ?_)
  have hO := hIv.ok
  have hN := hO.1
  have hR := hO.2.1
  have hB := hO.2.2.1
  have hE := hO.2.2.2
  have h8 := hN.p8
  have h10 := hN.h10
  have hS := hX.now
  cases h9x : mFrom x 0 (N 231 - 1) with
  | false =>
    cases h9y : mFrom y 0 (N 230 - 1) with
    | false =>
      refine aw_aload_n dX10_gap_0 rfl ?_
      refine aw_getR (b := 1) dX10_gap_1 fX10_10 hX.k hX.b rfl hX.r0 ?_
      refine aw_iload_n dX10_gap_4 rfl ?_
      refine aw_cV dX10_gap_5 kX10_176 mX7_houseAt (sX7_houseAtN hS hC hO h9x) (Nat.le_of_ble_eq_true rfl) hS.k ⟨by decide, rfl⟩ hS.b0 rfl rfl (Nat.le_of_ble_eq_true rfl) ⟨Nat.le_refl _, Nat.le_refl _⟩ ?_
      refine aw_astore_nN dX10_gap_8 (by decide) rfl ?_
      refine aw_aload_n dX10_gap_9 rfl ?_
      refine aw_getR (b := 1) dX10_gap_10 fX10_10 hX.k hX.b rfl hX.r0 ?_
      refine aw_iload_n dX10_gap_13 rfl ?_
      refine aw_cV dX10_gap_14 kX10_132 mX7_homeAt (sX7_homeAtN hS hC hO h9y) (Nat.le_of_ble_eq_true rfl) hS.k ⟨by decide, rfl⟩ hS.b0 rfl rfl (Nat.le_of_ble_eq_true rfl) ⟨Nat.le_refl _, Nat.le_refl _⟩ ?_
      refine aw_astoreN dX10_gap_17 (by decide) rfl ?_
      refine aw_aload_nN dX10_gap_19 rfl ?_
      refine aw_ifnullN (tgt := 28) dX10_gap_20 rfl ?_
      refine aw_aload_n dX10_gap_28 rfl ?_
      refine aw_iconst (v := 2) dX10_gap_29 rfl ?_
      refine aw_cV dX10_gap_30 kX10_76 mX10_fail (sX10_fail hX) (Nat.le_of_ble_eq_true rfl) hX.k ⟨by decide, rfl⟩ hX.b rfl rfl (Nat.le_of_ble_eq_true rfl) ⟨Nat.le_refl _, Nat.le_refl _⟩ ?_
      refine aw_iret q rfl dX10_gap_33 ⟨Nat.le_refl _, Nat.le_refl _⟩ ?_
      refine Ct.no ?_
      unfold aGap mOnes
      rw [h9x, h9y]
      rfl
    | true =>
      obtain ⟨h, hh, rfl⟩ := from_ix hN.h (by omega) h9y
      have e9h : (nI h).toNatClampNeg = h := nI_clamp (by omega)
      refine aw_aload_n dX10_gap_0 rfl ?_
      refine aw_getR (b := 1) dX10_gap_1 fX10_10 hX.k hX.b rfl hX.r0 ?_
      refine aw_iload_n dX10_gap_4 rfl ?_
      refine aw_cV dX10_gap_5 kX10_176 mX7_houseAt (sX7_houseAtN hS hC hO h9x) (Nat.le_of_ble_eq_true rfl) hS.k ⟨by decide, rfl⟩ hS.b0 rfl rfl (Nat.le_of_ble_eq_true rfl) ⟨Nat.le_refl _, Nat.le_refl _⟩ ?_
      refine aw_astore_nN dX10_gap_8 (by decide) rfl ?_
      refine aw_aload_n dX10_gap_9 rfl ?_
      refine aw_getR (b := 1) dX10_gap_10 fX10_10 hX.k hX.b rfl hX.r0 ?_
      refine aw_iload_n dX10_gap_13 rfl ?_
      refine aw_cV dX10_gap_14 kX10_132 mX7_homeAt (sX7_homeAt hS hC hO rfl hh) (Nat.le_of_ble_eq_true rfl) hS.k ⟨by decide, rfl⟩ hS.b0 rfl rfl (Nat.le_of_ble_eq_true rfl) ⟨Nat.le_refl _, Nat.le_refl _⟩ ?_
      refine aw_astore dX10_gap_17 (by decide) rfl ?_
      refine aw_aload_nN dX10_gap_19 rfl ?_
      refine aw_ifnullN (tgt := 28) dX10_gap_20 rfl ?_
      refine aw_aload_n dX10_gap_28 rfl ?_
      refine aw_iconst (v := 2) dX10_gap_29 rfl ?_
      refine aw_cV dX10_gap_30 kX10_76 mX10_fail (sX10_fail hX) (Nat.le_of_ble_eq_true rfl) hX.k ⟨by decide, rfl⟩ hX.b rfl rfl (Nat.le_of_ble_eq_true rfl) ⟨Nat.le_refl _, Nat.le_refl _⟩ ?_
      refine aw_iret q rfl dX10_gap_33 ⟨Nat.le_refl _, Nat.le_refl _⟩ ?_
      refine Ct.no ?_
      unfold aGap mOnes
      rw [h9x, h9y]
      rfl
  | true =>
    obtain ⟨p, hp, rfl⟩ := from_ix hN.p (by omega) h9x
    have e9p : (nI p).toNatClampNeg = p := nI_clamp (by omega)
    cases h9y : mFrom y 0 (N 230 - 1) with
    | false =>
      refine aw_aload_n dX10_gap_0 rfl ?_
      refine aw_getR (b := 1) dX10_gap_1 fX10_10 hX.k hX.b rfl hX.r0 ?_
      refine aw_iload_n dX10_gap_4 rfl ?_
      refine aw_cV dX10_gap_5 kX10_176 mX7_houseAt (sX7_houseAt hS hC hO rfl hp) (Nat.le_of_ble_eq_true rfl) hS.k ⟨by decide, rfl⟩ hS.b0 rfl rfl (Nat.le_of_ble_eq_true rfl) ⟨Nat.le_refl _, Nat.le_refl _⟩ ?_
      refine aw_astore_n dX10_gap_8 (by decide) rfl ?_
      refine aw_aload_n dX10_gap_9 rfl ?_
      refine aw_getR (b := 1) dX10_gap_10 fX10_10 hX.k hX.b rfl hX.r0 ?_
      refine aw_iload_n dX10_gap_13 rfl ?_
      refine aw_cV dX10_gap_14 kX10_132 mX7_homeAt (sX7_homeAtN hS hC hO h9y) (Nat.le_of_ble_eq_true rfl) hS.k ⟨by decide, rfl⟩ hS.b0 rfl rfl (Nat.le_of_ble_eq_true rfl) ⟨Nat.le_refl _, Nat.le_refl _⟩ ?_
      refine aw_astoreN dX10_gap_17 (by decide) rfl ?_
      refine aw_aload_n dX10_gap_19 rfl ?_
      refine aw_ifnull dX10_gap_20 ?_
      refine aw_aloadN dX10_gap_23 rfl ?_
      refine aw_ifnonnullN dX10_gap_25 ?_
      refine aw_aload_n dX10_gap_28 rfl ?_
      refine aw_iconst (v := 2) dX10_gap_29 rfl ?_
      refine aw_cV dX10_gap_30 kX10_76 mX10_fail (sX10_fail hX) (Nat.le_of_ble_eq_true rfl) hX.k ⟨by decide, rfl⟩ hX.b rfl rfl (Nat.le_of_ble_eq_true rfl) ⟨Nat.le_refl _, Nat.le_refl _⟩ ?_
      refine aw_iret q rfl dX10_gap_33 ⟨Nat.le_refl _, Nat.le_refl _⟩ ?_
      refine Ct.no ?_
      unfold aGap mOnes
      rw [h9x, h9y]
      rfl
    | true =>
      obtain ⟨h, hh, rfl⟩ := from_ix hN.h (by omega) h9y
      have e9h : (nI h).toNatClampNeg = h := nI_clamp (by omega)
      refine aw_aload_n dX10_gap_0 rfl ?_
      refine aw_getR (b := 1) dX10_gap_1 fX10_10 hX.k hX.b rfl hX.r0 ?_
      refine aw_iload_n dX10_gap_4 rfl ?_
      refine aw_cV dX10_gap_5 kX10_176 mX7_houseAt (sX7_houseAt hS hC hO rfl hp) (Nat.le_of_ble_eq_true rfl) hS.k ⟨by decide, rfl⟩ hS.b0 rfl rfl (Nat.le_of_ble_eq_true rfl) ⟨Nat.le_refl _, Nat.le_refl _⟩ ?_
      refine aw_astore_n dX10_gap_8 (by decide) rfl ?_
      refine aw_aload_n dX10_gap_9 rfl ?_
      refine aw_getR (b := 1) dX10_gap_10 fX10_10 hX.k hX.b rfl hX.r0 ?_
      refine aw_iload_n dX10_gap_13 rfl ?_
      refine aw_cV dX10_gap_14 kX10_132 mX7_homeAt (sX7_homeAt hS hC hO rfl hh) (Nat.le_of_ble_eq_true rfl) hS.k ⟨by decide, rfl⟩ hS.b0 rfl rfl (Nat.le_of_ble_eq_true rfl) ⟨Nat.le_refl _, Nat.le_refl _⟩ ?_
      refine aw_astore dX10_gap_17 (by decide) rfl ?_
      refine aw_aload_n dX10_gap_19 rfl ?_
      refine aw_ifnull dX10_gap_20 ?_
      refine aw_aload dX10_gap_23 rfl ?_
      refine aw_ifnonnull (tgt := 34) dX10_gap_25 rfl ?_
      refine aw_aload_n dX10_gap_34 rfl ?_
      refine aw_cV dX10_gap_35 kX10_236 mX3_isAble (sX3_isAble hS hC hN hp hB) (Nat.le_of_ble_eq_true rfl) (hS.po (by omega)) ⟨by decide, rfl⟩ (hS.pb (by omega)) rfl rfl (Nat.le_of_ble_eq_true rfl) ⟨Nat.le_refl _, Nat.le_refl _⟩ ?_
      refine aw_if_eq (tgt := 50) dX10_gap_38 rfl (fun c38 => ?_) (fun c38 => ?_)
      · refine aw_aload_n dX10_gap_50 rfl ?_
        refine aw_iconst (v := 5) dX10_gap_51 rfl ?_
        refine aw_cV dX10_gap_52 kX10_76 mX10_fail (sX10_fail hX) (Nat.le_of_ble_eq_true rfl) hX.k ⟨by decide, rfl⟩ hX.b rfl rfl (Nat.le_of_ble_eq_true rfl) ⟨Nat.le_refl _, Nat.le_refl _⟩ ?_
        refine aw_iret q rfl dX10_gap_55 ⟨Nat.le_refl _, Nat.le_refl _⟩ ?_
        refine Ct.no ?_
        unfold aGap mOnes
        rw [h9x, h9y, e9p, e9h, bI0.mp c38]
        rfl
      · refine aw_aload_n dX10_gap_41 rfl ?_
        refine aw_aload dX10_gap_42 rfl ?_
        refine aw_cV dX10_gap_44 kX10_239 mX3_suits (sX3_suits hS hC hN hp hh hR) (Nat.le_of_ble_eq_true rfl) (hS.po (by omega)) ⟨by decide, rfl⟩ (hS.pb (by omega)) rfl rfl (Nat.le_of_ble_eq_true rfl) ⟨Nat.le_refl _, Nat.le_refl _⟩ ?_
        refine aw_if_ne (tgt := 56) dX10_gap_47 rfl (fun c47 => ?_) (fun c47 => ?_)
        · refine aw_aload_n dX10_gap_56 rfl ?_
          refine aw_aload_n dX10_gap_57 rfl ?_
          refine aw_getR (b := 1) dX10_gap_58 fX10_10 hX.k hX.b rfl hX.r0 ?_
          refine aw_aload_n dX10_gap_61 rfl ?_
          refine aw_aload dX10_gap_62 rfl ?_
          refine aw_cV dX10_gap_64 kX10_355 mX7_bandsToBeFirst (sX7_bandsToBeFirst hS hC hO hp hh) (Nat.le_of_ble_eq_true rfl) hS.k ⟨by decide, rfl⟩ hS.b0 rfl rfl (Nat.le_of_ble_eq_true rfl) ⟨Nat.le_refl _, Nat.le_refl _⟩ ?_
          refine aw_cV dX10_gap_67 kX10_147 mX10_answerIfAny (sX10_answerIfAny hX) (Nat.le_of_ble_eq_true rfl) hX.k ⟨by decide, rfl⟩ hX.b rfl rfl (Nat.le_of_ble_eq_true rfl) ⟨Nat.le_refl _, Nat.le_refl _⟩ ?_
          refine aw_iret q rfl dX10_gap_70 ⟨Nat.le_refl _, Nat.le_refl _⟩ ?_
          have e : aGap N (nI p) (nI h) = aAny (iFirst (fun l => decide (cAh N p h (mBand N p - nI l) (iset (fun q => mBid N q (nI h) && mHope N q) (nPo N)) = 0)) (mBand N p).toNatClampNeg) := by
            have e2 : fa_first (fun l => decide (cAh N p h (mBand N p - nI l) (iset (fun q => mBid N q (nI h) && mHope N q) (nPo N)) = 0)) (mBand N p).toNatClampNeg = fa_first (gapP N p h (mFirst N h (iDrop (mBidders N h) (nI p)))) (mBand N p).toNatClampNeg := ff_cong (fun l hl => by rw [bidders_eq hBd]; exact gap_eq hR h8 hp hl)
            unfold aGap mOnes iFirst aAny
            rw [h9x, h9y, e9p, e9h, bI1.mp c38, bI1.mp c47, e2]
            obtain ⟨B, eB, B1, B4⟩ := mBand_rg hR hp
            have hB2 : (mBand N p).toNatClampNeg = B := by rw [eB]; exact nI_clamp (by omega)
            show (if fa_first (gapP N p h (mFirst N h (iDrop (mBidders N h) (nI p)))) (mBand N p).toNatClampNeg < (mBand N p).toNatClampNeg then _ else _) = _
            by_cases hq : fa_first (gapP N p h (mFirst N h (iDrop (mBidders N h) (nI p)))) (mBand N p).toNatClampNeg < (mBand N p).toNatClampNeg
            · rw [if_pos hq, if_pos hq, if_neg (nI_ne_m1 (by omega))]
            · rw [if_neg hq, if_neg hq, if_pos rfl]
          rw [e]
          exact Pst.rf
        · refine aw_aload_n dX10_gap_50 rfl ?_
          refine aw_iconst (v := 5) dX10_gap_51 rfl ?_
          refine aw_cV dX10_gap_52 kX10_76 mX10_fail (sX10_fail hX) (Nat.le_of_ble_eq_true rfl) hX.k ⟨by decide, rfl⟩ hX.b rfl rfl (Nat.le_of_ble_eq_true rfl) ⟨Nat.le_refl _, Nat.le_refl _⟩ ?_
          refine aw_iret q rfl dX10_gap_55 ⟨Nat.le_refl _, Nat.le_refl _⟩ ?_
          refine Ct.no ?_
          unfold aGap mOnes
          rw [h9x, h9y, e9p, e9h, bI0.mp c47, Bool.and_false]
          rfl
theorem ward_ne {N : Nat → Int32} (hN : Cn N) (hR : Rg N) : ∀ i, i < nHo N → ¬ wardL N (i + 1) = -1
  | i, hi => by
    have h10 := hN.h10
    have hne : ¬ N (8 * i + 1) = -1 := by
      obtain ⟨v, e, -, hv⟩ := (hR.2.1 i hi).2
      rw [e]
      exact nI_ne_m1 (by omega)
    rw [wardL]
    split
    · exact hne
    · rename_i q
      cases i with
      | zero =>
        exfalso
        apply q
        unfold wardB
        rw [show wardL N 0 = -1 from rfl]
        simp
      | succ i => exact ward_ne hN hR i (by omega)
theorem ward_none {N : Nat → Int32} (hN : Cn N) (hR : Rg N) : N 230 = 0 ↔ wdL N (nHo N) = -1 := by
  rw [ward_eq hN, hN.h]
  cases h : nHo N with
  | zero => exact ⟨fun _ => rfl, fun _ => rfl⟩
  | succ k =>
    have h10 := hN.h10
    constructor
    · intro q
      exact absurd q (nz0 (by omega) (by omega))
    · intro q
      exact absurd q (ward_ne hN hR k (by omega))
set_option maxHeartbeats 4000000 in
set_option maxRecDepth 100000 in
theorem sX10_ward (hX : IsX n sh) (hC : CtS I L 1 N Q) (hIv : Iv N) {t : Int32} : CM yX10_ward cX10_ward 3 (Option.some .int) 4 0 0 [.ref 0, .int t] z n sh I L (Ct (aWard N t) z n sh I L) := by
  refine CM.go [some (.ref 0), some (.int t), none] rfl rfl (Nat.le_of_ble_eq_true rfl) (fun X g q => ?_)
  have hO := hIv.ok
  have hN := hO.1
  have hR := hO.2.1
  have hB := hO.2.2.1
  have hE := hO.2.2.2
  have h8 := hN.p8
  have h10 := hN.h10
  have hS := hX.now
  refine aw_aload_n dX10_ward_0 rfl ?_
  refine aw_getR (b := 1) dX10_ward_1 fX10_10 hX.k hX.b rfl hX.r0 ?_
  refine aw_cV dX10_ward_4 kX10_297 mX7_shortestWard (sX7_shortestWard hS hC hO) (Nat.le_of_ble_eq_true rfl) hS.k ⟨by decide, rfl⟩ hS.b0 rfl rfl (Nat.le_of_ble_eq_true rfl) ⟨Nat.le_refl _, Nat.le_refl _⟩ ?_
  refine aw_istore_n dX10_ward_7 (by decide) rfl ?_
  refine aw_iload_n dX10_ward_8 rfl ?_
  refine aw_iconst (v := (-1)) dX10_ward_9 rfl ?_
  refine aw_icmp_ne (tgt := 19) dX10_ward_10 rfl (fun c10 => ?_) (fun c10 => ?_)
  · refine aw_aload_n dX10_ward_19 rfl ?_
    refine aw_iload_n dX10_ward_20 rfl ?_
    refine aw_if_eq (tgt := 35) dX10_ward_21 rfl (fun c21 => ?_) (fun c21 => ?_)
    · refine aw_iload_n dX10_ward_35 rfl ?_
      refine aw_cV dX10_ward_36 kX10_94 mX10_answer (sX10_answer hX) (Nat.le_of_ble_eq_true rfl) hX.k ⟨by decide, rfl⟩ hX.b rfl rfl (Nat.le_of_ble_eq_true rfl) ⟨Nat.le_refl _, Nat.le_refl _⟩ ?_
      refine aw_iret q rfl dX10_ward_39 ⟨Nat.le_refl _, Nat.le_refl _⟩ ?_
      have hz : N 230 = 0 ↔ wdL N (nHo N) = -1 := ward_none hN hR
      refine Ct.ok ?_
      unfold aWard
      rw [if_neg (fun q => c10 (hz.mp q)), if_pos c21, ward_eq hN]
    · refine aw_aload_n dX10_ward_24 rfl ?_
      refine aw_getR (b := 1) dX10_ward_25 fX10_10 hX.k hX.b rfl hX.r0 ?_
      refine aw_iload_n dX10_ward_28 rfl ?_
      refine aw_cV dX10_ward_29 kX10_300 mX7_wantOf (sX7_wantOf hS hC hO) (Nat.le_of_ble_eq_true rfl) hS.k ⟨by decide, rfl⟩ hS.b0 rfl rfl (Nat.le_of_ble_eq_true rfl) ⟨Nat.le_refl _, Nat.le_refl _⟩ ?_
      refine aw_goto (tgt := 36) dX10_ward_32 rfl ?_
      refine aw_cV dX10_ward_36 kX10_94 mX10_answer (sX10_answer hX) (Nat.le_of_ble_eq_true rfl) hX.k ⟨by decide, rfl⟩ hX.b rfl rfl (Nat.le_of_ble_eq_true rfl) ⟨Nat.le_refl _, Nat.le_refl _⟩ ?_
      refine aw_iret q rfl dX10_ward_39 ⟨Nat.le_refl _, Nat.le_refl _⟩ ?_
      have hz : N 230 = 0 ↔ wdL N (nHo N) = -1 := ward_none hN hR
      refine Ct.ok ?_
      unfold aWard
      rw [if_neg (fun q => c10 (hz.mp q)), if_neg c21, ward_eq hN]
  · refine aw_aload_n dX10_ward_13 rfl ?_
    refine aw_iconst (v := 5) dX10_ward_14 rfl ?_
    refine aw_cV dX10_ward_15 kX10_76 mX10_fail (sX10_fail hX) (Nat.le_of_ble_eq_true rfl) hX.k ⟨by decide, rfl⟩ hX.b rfl rfl (Nat.le_of_ble_eq_true rfl) ⟨Nat.le_refl _, Nat.le_refl _⟩ ?_
    refine aw_iret q rfl dX10_ward_18 ⟨Nat.le_refl _, Nat.le_refl _⟩ ?_
    have hz : N 230 = 0 ↔ wdL N (nHo N) = -1 := ward_none hN hR
    refine Ct.no ?_
    unfold aWard
    rw [if_pos (hz.mpr c10)]
theorem cPE_lt {N : Nat → Int32} {p : Nat} (h : cPE N = some p) : p < nPo N := by
  unfold cPE at h
  split at h
  · cases h
  · unfold cPar at h
    split at h
    · cases h
      assumption
    · cases h
theorem cEnv_lt {N : Nat → Int32} {p : Nat} (h : cEnv N = some p) : p < nPo N := by
  unfold cEnv at h
  split at h
  · cases h
    assumption
  · cases h
theorem sX7_envyPartnerO (hS : IsS n sh 1) (hC : CtS I L 1 N Q) (hO : Ok N) (hHo : HoO N) : CM yX7_envyPartner cX7_envyPartner 3 (Option.some (.object "HomesQueue$House")) 4 0 0 [.ref 1, oH 1 (cEnv N)] z n sh I L (Pst (some (oH 1 (cPE N))) z n sh I L) := by
  unfold cPE
  cases h : cEnv N with
  | none => exact sX7_envyPartnerN hS hC hO
  | some p => exact sX7_envyPartner hS hC hO (cEnv_lt h) hHo
set_option maxHeartbeats 4000000 in
set_option maxRecDepth 100000 in
theorem sX10_envy (hX : IsX n sh) (hC : CtS I L 1 N Q) (hIv : Iv N) {x : Int32} : CM yX10_envy cX10_envy 2 (Option.some .int) 6 0 0 [.ref 0, .int x] z n sh I L (Ct (aEnvy N x) z n sh I L) := by
  refine CM.go [some (.ref 0), some (.int x)] rfl rfl (Nat.le_of_ble_eq_true rfl) (fun X g q => ?_)
  have hO := hIv.ok
  have hN := hO.1
  have hR := hO.2.1
  have hB := hO.2.2.1
  have hE := hO.2.2.2
  have h8 := hN.p8
  have h10 := hN.h10
  have hS := hX.now
  refine aw_iload_n dX10_envy_0 rfl ?_
  rcases swx x 3 (by decide) with ⟨j1, hj1, rfl⟩ | ho1
  · match j1, hj1 with
    | 0, _ =>
      refine aw_tableIn (off := 27) (tgt := 28) dX10_envy_1 (by decide) (by decide) (by decide) rfl ?_
      refine aw_aload_n dX10_envy_28 rfl ?_
      refine aw_aload_n dX10_envy_29 rfl ?_
      refine aw_getR (b := 1) dX10_envy_30 fX10_10 hX.k hX.b rfl hX.r0 ?_
      refine aw_cV dX10_envy_33 kX10_303 mX7_countEnvy (sX7_countEnvy hS hC hO hIv.co.ho) (Nat.le_of_ble_eq_true rfl) hS.k ⟨by decide, rfl⟩ hS.b0 rfl rfl (Nat.le_of_ble_eq_true rfl) ⟨Nat.le_refl _, Nat.le_refl _⟩ ?_
      refine aw_cV dX10_envy_36 kX10_94 mX10_answer (sX10_answer hX) (Nat.le_of_ble_eq_true rfl) hX.k ⟨by decide, rfl⟩ hX.b rfl rfl (Nat.le_of_ble_eq_true rfl) ⟨Nat.le_refl _, Nat.le_refl _⟩ ?_
      refine aw_goto (tgt := 82) dX10_envy_39 rfl ?_
      refine aw_iret q rfl dX10_envy_82 ⟨Nat.le_refl _, Nat.le_refl _⟩ ?_
      refine Ct.ok ?_
      show ok _ = ok _
      rw [(envy_eq h8).1]
    | 1, _ =>
      refine aw_tableIn (off := 41) (tgt := 42) dX10_envy_1 (by decide) (by decide) (by decide) rfl ?_
      refine aw_aload_n dX10_envy_42 rfl ?_
      refine aw_aload_n dX10_envy_43 rfl ?_
      refine aw_getR (b := 1) dX10_envy_44 fX10_10 hX.k hX.b rfl hX.r0 ?_
      refine aw_cV dX10_envy_47 kX10_306 mX7_firstEnvious (sX7_firstEnvious hS hC hO hIv.co.ho) (Nat.le_of_ble_eq_true rfl) hS.k ⟨by decide, rfl⟩ hS.b0 rfl rfl (Nat.le_of_ble_eq_true rfl) ⟨Nat.le_refl _, Nat.le_refl _⟩ ?_
      refine aw_cV dX10_envy_50 kX10_233 mX10_answerNumber (sX10_answerNumberO hX hC.1 (fun p q => by
        have hq : (if fa_first (hasP N) (nPo N) < nPo N then some (fa_first (hasP N) (nPo N)) else none) = some p := q
        split at hq
        · cases hq
          omega
        · cases hq)) (Nat.le_of_ble_eq_true rfl) hX.k ⟨by decide, rfl⟩ hX.b rfl rfl (Nat.le_of_ble_eq_true rfl) ⟨Nat.le_refl _, Nat.le_refl _⟩ ?_
      refine aw_goto (tgt := 82) dX10_envy_53 rfl ?_
      refine aw_iret q rfl dX10_envy_82 ⟨Nat.le_refl _, Nat.le_refl _⟩ ?_
      have e : aEnvy N (nI 1) = aNum (cEnv N) := (envy_eq h8).2.1.symm
      rw [e]
      exact Pst.rf
    | 2, _ =>
      refine aw_tableIn (off := 55) (tgt := 56) dX10_envy_1 (by decide) (by decide) (by decide) rfl ?_
      refine aw_aload_n dX10_envy_56 rfl ?_
      refine aw_aload_n dX10_envy_57 rfl ?_
      refine aw_getR (b := 1) dX10_envy_58 fX10_10 hX.k hX.b rfl hX.r0 ?_
      refine aw_aload_n dX10_envy_61 rfl ?_
      refine aw_getR (b := 1) dX10_envy_62 fX10_10 hX.k hX.b rfl hX.r0 ?_
      refine aw_cV dX10_envy_65 kX10_306 mX7_firstEnvious (sX7_firstEnvious hS hC hO hIv.co.ho) (Nat.le_of_ble_eq_true rfl) hS.k ⟨by decide, rfl⟩ hS.b0 rfl rfl (Nat.le_of_ble_eq_true rfl) ⟨Nat.le_refl _, Nat.le_refl _⟩ ?_
      refine aw_cV dX10_envy_68 kX10_310 mX7_envyPartner (sX7_envyPartnerO hS hC hO hIv.co.ho) (Nat.le_of_ble_eq_true rfl) hS.k ⟨by decide, rfl⟩ hS.b0 rfl rfl (Nat.le_of_ble_eq_true rfl) ⟨Nat.le_refl _, Nat.le_refl _⟩ ?_
      refine aw_cV dX10_envy_71 kX10_233 mX10_answerNumber (sX10_answerNumberO hX hC.1 (fun p q => by have := cPE_lt q; omega)) (Nat.le_of_ble_eq_true rfl) hX.k ⟨by decide, rfl⟩ hX.b rfl rfl (Nat.le_of_ble_eq_true rfl) ⟨Nat.le_refl _, Nat.le_refl _⟩ ?_
      refine aw_goto (tgt := 82) dX10_envy_74 rfl ?_
      refine aw_iret q rfl dX10_envy_82 ⟨Nat.le_refl _, Nat.le_refl _⟩ ?_
      have e : aEnvy N (nI 2) = aNum (cPE N) := (envy_eq h8).2.2.symm
      rw [e]
      exact Pst.rf
  · refine aw_tableOut (tgt := 77) dX10_envy_1 (by omega) rfl ?_
    refine aw_aload_n dX10_envy_77 rfl ?_
    refine aw_iconst (v := 1) dX10_envy_78 rfl ?_
    refine aw_cV dX10_envy_79 kX10_76 mX10_fail (sX10_fail hX) (Nat.le_of_ble_eq_true rfl) hX.k ⟨by decide, rfl⟩ hX.b rfl rfl (Nat.le_of_ble_eq_true rfl) ⟨Nat.le_refl _, Nat.le_refl _⟩ ?_
    refine aw_iret q rfl dX10_envy_82 ⟨Nat.le_refl _, Nat.le_refl _⟩ ?_
    have e0 : mFrom x 0 2 = false := out_from (B := 2) (by decide) ho1
    refine Ct.no ?_
    unfold aEnvy
    rw [e0]
    rfl
end ClsS
