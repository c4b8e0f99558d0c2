/-! the class whole: more that it tells -/
/-- who bids may hope -/
def BdO (N : Nat → Int32) : Prop := ∀ p, p < nPo N → mHope N p = false → N (80 + 18 * p + 10) = 0
/-- none is newly barred between calls -/
def NwO (N : Nat → Int32) : Prop := ∀ p, p < nPo N → N (80 + 18 * p + 7) = 0
theorem out_from {x : Int32} {B : Nat} (hB : B + 1 < 2 ^ 30) (h : x.toInt < 0 ∨ ((B + 1 : Nat) : Int) ≤ x.toInt) : mFrom x 0 (nI B) = false := by
  cases hf : mFrom x 0 (nI B) with
  | false => rfl
  | true =>
    obtain ⟨j, hj, e⟩ := from_ix (y := nI (B + 1)) rfl hB (by rw [nI_pred]; exact hf)
    exact absurd e (out_ne h hj (by omega))
theorem bid_hope {N : Nat → Int32} (hB : BdO N) {p : Nat} (hp : p < nPo N) {x : Int32} : (mBid N p x && mHope N p) = mBid N p x := by
  cases h : mHope N p with
  | true => rw [Bool.and_true]
  | false =>
    unfold mBid
    rw [hB p hp h]
    have : ∀ y : Int32, ((0 : Int32) >>> y) &&& 1 = 0 := fun y => by rw [Int32.zero_shiftRight, Int32.zero_and]
    rw [this]
    rfl
theorem bidders_eq {N : Nat → Int32} (hB : BdO N) {h : Nat} : iset (fun p => mBid N p (nI h) && mHope N p) (nPo N) = mBidders N h := iset_cong (fun p hp => bid_hope hB hp)
theorem nset_cong {S T : Nat → Bool} : ∀ {n : Nat}, (∀ k, k < n → S k = T k) → nset S n = nset T n
  | 0, _ => rfl
  | n + 1, h => by rw [nset, nset, nset_cong (fun k hk => h k (by omega)), h n (by omega)]
theorem ahead_eq {N : Nat → Int32} (hR : Rg N) (h8 : nPo N ≤ 8) {p h : Nat} (hp : p < nPo N) {x : Int32} : nI (cAh N p h (mBand N p) x) = mAhead N p h x := by
  unfold cAh mAhead
  rw [isB_cnt]
  refine congrArg nI (fa_cnt_cong (fun q hq => ?_))
  by_cases e : q = p
  · subst e
    rw [decide_eq_false (show ¬ mW N q h < mW N q h from Int32.lt_irrefl)]
    simp
  · have := rk_lt (h := h) hR h8 hq hp
    by_cases hl : mW N q h < mW N p h
    · rw [decide_eq_true hl, decide_eq_true (this.mp hl)]
      simp [e]
    · rw [decide_eq_false hl, decide_eq_false (fun z => hl (this.mpr z))]
      simp
theorem lived_eq {N : Nat → Int32} (hE : LeO N) : nI (fa_cnt (fun r => decide (N (234 + 8 * r + 5) >>> (1 &&& 31) = 1)) (nLe N)) = mLived N := by
  unfold mLived
  rw [← isB_cnt]
  refine isum_cong (fun k hk => ?_)
  obtain ⟨v, hv, e⟩ := hE k hk
  rw [e]
  have : ∀ v, v < 4 → bB (decide (nI v >>> (1 &&& 31) = 1)) = nI v >>> (1 &&& 31) := by decide +kernel
  exact this v hv
theorem bB_1 (b : Bool) : decide (bB b = 1) = b := by cases b <;> rfl
theorem z01_bI {x : Int32} (h : z01 x) : x = bI (decide (x = 1)) := by
  rcases h with e | e <;> rw [e] <;> rfl
theorem top_eq {N : Nat → Int32} (hR : Rg N) (h8 : nPo N ≤ 8) {h : Nat} {x : Int32} : kO (fun p => cRk N p h (mLocal N h) (mQuota N) (mBand N p)) (nPo N) x 0 = mFirst N h x := by
  rw [mFirst_rk hR h8]
  unfold kO
  by_cases e : 0 < nPo N
  · rw [if_pos e]
    rfl
  · rw [if_neg e, show nPo N = 0 by omega]
    rfl
theorem aNum_oN {f : Option Nat} (h : ∀ p, f = some p → p < 8) : aNum f = if oN f = -1 then no 5 else ok (oN f) := by
  cases f with
  | none => rfl
  | some p => rw [show oN (some p) = nI p from rfl, if_neg (nI_ne_m1 (by have := h p rfl; omega))]; rfl
theorem kO_lt {w : Nat → Int32} {n : Nat} {s : Int32} {k p : Nat} (h : kO w n s k = some p) : p < n := by
  unfold kO at h
  split at h
  · exact (fst_lt h).1
  · cases h
section ClsS
variable {z n : Nat} {sh : Shp} {I : MI} {L : ML} {N : Nat → Int32} {Q : Nat → Int64}
set_option maxHeartbeats 4000000 in
set_option maxRecDepth 100000 in
theorem sX10_tally (hX : IsX n sh) (hC : CtS I L 1 N Q) (hIv : Iv N) {x : Int32} : CM yX10_tally cX10_tally 2 (Option.some .int) 3 0 0 [.ref 0, .int x] z n sh I L (Ct (aTally N x) z n sh I L) := by
  refine CM.go [some (.ref 0), some (.int x)] rfl rfl (Nat.le_of_ble_eq_true rfl) (fun X g q => ?_)
  have hO := hIv.ok
  have hN := hO.1
  have hR := hO.2.1
  have hB := hO.2.2.1
  have hE := hO.2.2.2
  have h8 := hN.p8
  have h10 := hN.h10
  have hS := hX.now
  refine aw_iload_n dX10_tally_0 rfl ?_
  rcases swx x 5 (by decide) with ⟨j1, hj1, rfl⟩ | ho1
  · match j1, hj1 with
    | 0, _ =>
      refine aw_tableIn (off := 35) (tgt := 36) dX10_tally_1 (by decide) (by decide) (by decide) rfl ?_
      refine aw_aload_n dX10_tally_36 rfl ?_
      refine aw_aload_n dX10_tally_37 rfl ?_
      refine aw_getR (b := 1) dX10_tally_38 fX10_10 hX.k hX.b rfl hX.r0 ?_
      refine aw_cV dX10_tally_41 kX10_256 mX7_greatestChain (sX7_greatestChain hS hC hO) (Nat.le_of_ble_eq_true rfl) hS.k ⟨by decide, rfl⟩ hS.b0 rfl rfl (Nat.le_of_ble_eq_true rfl) ⟨Nat.le_refl _, Nat.le_refl _⟩ ?_
      refine aw_cV dX10_tally_44 kX10_94 mX10_answer (sX10_answer hX) (Nat.le_of_ble_eq_true rfl) hX.k ⟨by decide, rfl⟩ hX.b rfl rfl (Nat.le_of_ble_eq_true rfl) ⟨Nat.le_refl _, Nat.le_refl _⟩ ?_
      refine aw_goto (tgt := 128) dX10_tally_47 rfl ?_
      refine aw_iret q rfl dX10_tally_128 ⟨Nat.le_refl _, Nat.le_refl _⟩ ?_
      exact Ct.ok rfl
    | 1, _ =>
      refine aw_tableIn (off := 49) (tgt := 50) dX10_tally_1 (by decide) (by decide) (by decide) rfl ?_
      refine aw_aload_n dX10_tally_50 rfl ?_
      refine aw_aload_n dX10_tally_51 rfl ?_
      refine aw_getR (b := 1) dX10_tally_52 fX10_10 hX.k hX.b rfl hX.r0 ?_
      refine aw_getR (b := 1 + 30) dX10_tally_55 fX10_109 hS.k hS.b0 rfl hS.r3 ?_
      refine aw_iconst (v := 3) dX10_tally_58 rfl ?_
      refine aw_iconst (v := 1) dX10_tally_59 rfl ?_
      refine aw_cV dX10_tally_60 kX10_259 mX8_countWith (sX8_countWith (hC.tbL hS hN) (k := 3) rfl (by decide)) (Nat.le_of_ble_eq_true rfl) hS.tk ⟨by decide, rfl⟩ (hS.lt (k := 30) (by decide)) rfl rfl (Nat.le_of_ble_eq_true rfl) ⟨Nat.le_refl _, Nat.le_refl _⟩ ?_
      refine aw_cV dX10_tally_63 kX10_94 mX10_answer (sX10_answer hX) (Nat.le_of_ble_eq_true rfl) hX.k ⟨by decide, rfl⟩ hX.b rfl rfl (Nat.le_of_ble_eq_true rfl) ⟨Nat.le_refl _, Nat.le_refl _⟩ ?_
      refine aw_goto (tgt := 128) dX10_tally_66 rfl ?_
      refine aw_iret q rfl dX10_tally_128 ⟨Nat.le_refl _, Nat.le_refl _⟩ ?_
      refine Ct.ok ?_
      show ok _ = ok _
      refine congrArg ok ?_
      rw [show tallyF N (nI 1) = fun k => bB (decide (N (234 + 8 * k + 3) = 1)) from rfl, isB_cnt]
      exact congrArg nI (fa_cnt_cong (fun k hk => by rw [← (hC.lt hk).1 3 (by decide) (by decide)]))
    | 2, _ =>
      refine aw_tableIn (off := 68) (tgt := 69) dX10_tally_1 (by decide) (by decide) (by decide) rfl ?_
      refine aw_aload_n dX10_tally_69 rfl ?_
      refine aw_aload_n dX10_tally_70 rfl ?_
      refine aw_getR (b := 1) dX10_tally_71 fX10_10 hX.k hX.b rfl hX.r0 ?_
      refine aw_getR (b := 1 + 30) dX10_tally_74 fX10_109 hS.k hS.b0 rfl hS.r3 ?_
      refine aw_bipush (v := 8) dX10_tally_77 rfl ?_
      refine aw_iconst (v := 1) dX10_tally_79 rfl ?_
      refine aw_cV dX10_tally_80 kX10_259 mX8_countWith (sX8_countWith (hC.tbL hS hN) (k := 8) rfl (by decide)) (Nat.le_of_ble_eq_true rfl) hS.tk ⟨by decide, rfl⟩ (hS.lt (k := 30) (by decide)) rfl rfl (Nat.le_of_ble_eq_true rfl) ⟨Nat.le_refl _, Nat.le_refl _⟩ ?_
      refine aw_cV dX10_tally_83 kX10_94 mX10_answer (sX10_answer hX) (Nat.le_of_ble_eq_true rfl) hX.k ⟨by decide, rfl⟩ hX.b rfl rfl (Nat.le_of_ble_eq_true rfl) ⟨Nat.le_refl _, Nat.le_refl _⟩ ?_
      refine aw_goto (tgt := 128) dX10_tally_86 rfl ?_
      refine aw_iret q rfl dX10_tally_128 ⟨Nat.le_refl _, Nat.le_refl _⟩ ?_
      refine Ct.ok ?_
      show ok _ = ok _
      refine congrArg ok ?_
      rw [← lived_eq hE]
      exact congrArg nI (fa_cnt_cong (fun k hk => by rw [← (hC.lt hk).2.2.1]))
    | 3, _ =>
      refine aw_tableIn (off := 88) (tgt := 89) dX10_tally_1 (by decide) (by decide) (by decide) rfl ?_
      refine aw_aload_n dX10_tally_89 rfl ?_
      refine aw_aload_n dX10_tally_90 rfl ?_
      refine aw_getR (b := 1) dX10_tally_91 fX10_10 hX.k hX.b rfl hX.r0 ?_
      refine aw_getR (b := 1 + 30) dX10_tally_94 fX10_109 hS.k hS.b0 rfl hS.r3 ?_
      refine aw_bipush (v := 9) dX10_tally_97 rfl ?_
      refine aw_iconst (v := 1) dX10_tally_99 rfl ?_
      refine aw_cV dX10_tally_100 kX10_259 mX8_countWith (sX8_countWith (hC.tbL hS hN) (k := 9) rfl (by decide)) (Nat.le_of_ble_eq_true rfl) hS.tk ⟨by decide, rfl⟩ (hS.lt (k := 30) (by decide)) rfl rfl (Nat.le_of_ble_eq_true rfl) ⟨Nat.le_refl _, Nat.le_refl _⟩ ?_
      refine aw_cV dX10_tally_103 kX10_94 mX10_answer (sX10_answer hX) (Nat.le_of_ble_eq_true rfl) hX.k ⟨by decide, rfl⟩ hX.b rfl rfl (Nat.le_of_ble_eq_true rfl) ⟨Nat.le_refl _, Nat.le_refl _⟩ ?_
      refine aw_goto (tgt := 128) dX10_tally_106 rfl ?_
      refine aw_iret q rfl dX10_tally_128 ⟨Nat.le_refl _, Nat.le_refl _⟩ ?_
      refine Ct.ok ?_
      show ok _ = ok _
      refine congrArg ok ?_
      rw [show tallyF N (nI 3) = fun k => bB (decide (N (80 + 18 * lPo N k + 2) = N (8 * lHo N k + 1))) from rfl, isB_cnt]
      exact congrArg nI (fa_cnt_cong (fun k hk => by rw [← bB_1 (decide (N (80 + 18 * lPo N k + 2) = N (8 * lHo N k + 1))), ← (hC.lt hk).2.2.2.1]))
    | 4, _ =>
      refine aw_tableIn (off := 108) (tgt := 109) dX10_tally_1 (by decide) (by decide) (by decide) rfl ?_
      refine aw_aload_n dX10_tally_109 rfl ?_
      refine aw_aload_n dX10_tally_110 rfl ?_
      refine aw_getR (b := 1) dX10_tally_111 fX10_10 hX.k hX.b rfl hX.r0 ?_
      refine aw_cV dX10_tally_114 kX10_262 mX7_countPassed (sX7_countPassed hS hC hO) (Nat.le_of_ble_eq_true rfl) hS.k ⟨by decide, rfl⟩ hS.b0 rfl rfl (Nat.le_of_ble_eq_true rfl) ⟨Nat.le_refl _, Nat.le_refl _⟩ ?_
      refine aw_cV dX10_tally_117 kX10_94 mX10_answer (sX10_answer hX) (Nat.le_of_ble_eq_true rfl) hX.k ⟨by decide, rfl⟩ hX.b rfl rfl (Nat.le_of_ble_eq_true rfl) ⟨Nat.le_refl _, Nat.le_refl _⟩ ?_
      refine aw_goto (tgt := 128) dX10_tally_120 rfl ?_
      refine aw_iret q rfl dX10_tally_128 ⟨Nat.le_refl _, Nat.le_refl _⟩ ?_
      exact Ct.ok rfl
  · refine aw_tableOut (tgt := 123) dX10_tally_1 (by omega) rfl ?_
    refine aw_aload_n dX10_tally_123 rfl ?_
    refine aw_iconst (v := 1) dX10_tally_124 rfl ?_
    refine aw_cV dX10_tally_125 kX10_76 mX10_fail (sX10_fail hX) (Nat.le_of_ble_eq_true rfl) hX.k ⟨by decide, rfl⟩ hX.b rfl rfl (Nat.le_of_ble_eq_true rfl) ⟨Nat.le_refl _, Nat.le_refl _⟩ ?_
    refine aw_iret q rfl dX10_tally_128 ⟨Nat.le_refl _, Nat.le_refl _⟩ ?_
    have e0 : mFrom x 0 4 = false := out_from (B := 4) (by decide) ho1
    refine Ct.no ?_
    unfold aTally
    rw [e0]
    rfl
set_option maxHeartbeats 4000000 in
set_option maxRecDepth 100000 in
theorem sX10_many (hX : IsX n sh) (hC : CtS I L 1 N Q) (hIv : Iv N) {x : Int32} : CM yX10_many cX10_many 2 (Option.some .int) 4 0 0 [.ref 0, .int x] z n sh I L (Ct (aMany N (I 69 2) x) z n sh I L) := by
  refine CM.go [some (.ref 0), some (.int x)] rfl rfl (Nat.le_of_ble_eq_true rfl) (fun X g q => ?_)
  have hO := hIv.ok
  have hN := hO.1
  have hR := hO.2.1
  have hB := hO.2.2.1
  have hE := hO.2.2.2
  have h8 := hN.p8
  have h10 := hN.h10
  have hS := hX.now
  refine aw_iload_n dX10_many_0 rfl ?_
  rcases swx x 10 (by decide) with ⟨j1, hj1, rfl⟩ | ho1
  · match j1, hj1 with
    | 0, _ =>
      refine aw_tableIn (off := 55) (tgt := 56) dX10_many_1 (by decide) (by decide) (by decide) rfl ?_
      refine aw_aload_n dX10_many_56 rfl ?_
      refine aw_aload_n dX10_many_57 rfl ?_
      refine aw_getR (b := 1) dX10_many_58 fX10_10 hX.k hX.b rfl hX.r0 ?_
      refine aw_getI dX10_many_61 fX10_103 hS.k hS.b0 rfl ?_
      refine AW.top hC.nh ?_
      refine aw_cV dX10_many_64 kX10_94 mX10_answer (sX10_answer hX) (Nat.le_of_ble_eq_true rfl) hX.k ⟨by decide, rfl⟩ hX.b rfl rfl (Nat.le_of_ble_eq_true rfl) ⟨Nat.le_refl _, Nat.le_refl _⟩ ?_
      refine aw_goto (tgt := 207) dX10_many_67 rfl ?_
      refine aw_iret q rfl dX10_many_207 ⟨Nat.le_refl _, Nat.le_refl _⟩ ?_
      refine Ct.ok ?_
      rfl
    | 1, _ =>
      refine aw_tableIn (off := 69) (tgt := 70) dX10_many_1 (by decide) (by decide) (by decide) rfl ?_
      refine aw_aload_n dX10_many_70 rfl ?_
      refine aw_aload_n dX10_many_71 rfl ?_
      refine aw_getR (b := 1) dX10_many_72 fX10_10 hX.k hX.b rfl hX.r0 ?_
      refine aw_getI dX10_many_75 fX10_91 hS.k hS.b0 rfl ?_
      refine AW.top hC.np ?_
      refine aw_cV dX10_many_78 kX10_94 mX10_answer (sX10_answer hX) (Nat.le_of_ble_eq_true rfl) hX.k ⟨by decide, rfl⟩ hX.b rfl rfl (Nat.le_of_ble_eq_true rfl) ⟨Nat.le_refl _, Nat.le_refl _⟩ ?_
      refine aw_goto (tgt := 207) dX10_many_81 rfl ?_
      refine aw_iret q rfl dX10_many_207 ⟨Nat.le_refl _, Nat.le_refl _⟩ ?_
      refine Ct.ok ?_
      rfl
    | 2, _ =>
      refine aw_tableIn (off := 83) (tgt := 84) dX10_many_1 (by decide) (by decide) (by decide) rfl ?_
      refine aw_aload_n dX10_many_84 rfl ?_
      refine aw_aload_n dX10_many_85 rfl ?_
      refine aw_getR (b := 1) dX10_many_86 fX10_10 hX.k hX.b rfl hX.r0 ?_
      refine aw_getI dX10_many_89 fX10_106 hS.k hS.b0 rfl ?_
      refine AW.top hC.wk ?_
      refine aw_cV dX10_many_92 kX10_94 mX10_answer (sX10_answer hX) (Nat.le_of_ble_eq_true rfl) hX.k ⟨by decide, rfl⟩ hX.b rfl rfl (Nat.le_of_ble_eq_true rfl) ⟨Nat.le_refl _, Nat.le_refl _⟩ ?_
      refine aw_goto (tgt := 207) dX10_many_95 rfl ?_
      refine aw_iret q rfl dX10_many_207 ⟨Nat.le_refl _, Nat.le_refl _⟩ ?_
      refine Ct.ok ?_
      rfl
    | 3, _ =>
      refine aw_tableIn (off := 97) (tgt := 98) dX10_many_1 (by decide) (by decide) (by decide) rfl ?_
      refine aw_aload_n dX10_many_98 rfl ?_
      refine aw_aload_n dX10_many_99 rfl ?_
      refine aw_getR (b := 1) dX10_many_100 fX10_10 hX.k hX.b rfl hX.r0 ?_
      refine aw_getR (b := 1 + 30) dX10_many_103 fX10_109 hS.k hS.b0 rfl hS.r3 ?_
      refine aw_getI dX10_many_106 fX10_113 hS.tk (hS.lt (k := 30) (by decide)) rfl ?_
      refine AW.top hC.nl ?_
      refine aw_cV dX10_many_109 kX10_94 mX10_answer (sX10_answer hX) (Nat.le_of_ble_eq_true rfl) hX.k ⟨by decide, rfl⟩ hX.b rfl rfl (Nat.le_of_ble_eq_true rfl) ⟨Nat.le_refl _, Nat.le_refl _⟩ ?_
      refine aw_goto (tgt := 207) dX10_many_112 rfl ?_
      refine aw_iret q rfl dX10_many_207 ⟨Nat.le_refl _, Nat.le_refl _⟩ ?_
      refine Ct.ok ?_
      rfl
    | 4, _ =>
      refine aw_tableIn (off := 114) (tgt := 115) dX10_many_1 (by decide) (by decide) (by decide) rfl ?_
      refine aw_aload_n dX10_many_115 rfl ?_
      refine aw_aload_n dX10_many_116 rfl ?_
      refine aw_getR (b := 1) dX10_many_117 fX10_10 hX.k hX.b rfl hX.r0 ?_
      refine aw_cV dX10_many_120 kX10_116 mX7_countBids (sX7_countBids hS hC hO) (Nat.le_of_ble_eq_true rfl) hS.k ⟨by decide, rfl⟩ hS.b0 rfl rfl (Nat.le_of_ble_eq_true rfl) ⟨Nat.le_refl _, Nat.le_refl _⟩ ?_
      refine aw_cV dX10_many_123 kX10_94 mX10_answer (sX10_answer hX) (Nat.le_of_ble_eq_true rfl) hX.k ⟨by decide, rfl⟩ hX.b rfl rfl (Nat.le_of_ble_eq_true rfl) ⟨Nat.le_refl _, Nat.le_refl _⟩ ?_
      refine aw_goto (tgt := 207) dX10_many_126 rfl ?_
      refine aw_iret q rfl dX10_many_207 ⟨Nat.le_refl _, Nat.le_refl _⟩ ?_
      refine Ct.ok ?_
      rfl
    | 5, _ =>
      refine aw_tableIn (off := 128) (tgt := 129) dX10_many_1 (by decide) (by decide) (by decide) rfl ?_
      refine aw_aload_n dX10_many_129 rfl ?_
      refine aw_aload_n dX10_many_130 rfl ?_
      refine aw_getR (b := 1) dX10_many_131 fX10_10 hX.k hX.b rfl hX.r0 ?_
      refine aw_cV dX10_many_134 kX10_120 mX7_countFree (sX7_countFree hS hC hO) (Nat.le_of_ble_eq_true rfl) hS.k ⟨by decide, rfl⟩ hS.b0 rfl rfl (Nat.le_of_ble_eq_true rfl) ⟨Nat.le_refl _, Nat.le_refl _⟩ ?_
      refine aw_cV dX10_many_137 kX10_94 mX10_answer (sX10_answer hX) (Nat.le_of_ble_eq_true rfl) hX.k ⟨by decide, rfl⟩ hX.b rfl rfl (Nat.le_of_ble_eq_true rfl) ⟨Nat.le_refl _, Nat.le_refl _⟩ ?_
      refine aw_goto (tgt := 207) dX10_many_140 rfl ?_
      refine aw_iret q rfl dX10_many_207 ⟨Nat.le_refl _, Nat.le_refl _⟩ ?_
      refine Ct.ok ?_
      rfl
    | 6, _ =>
      refine aw_tableIn (off := 142) (tgt := 143) dX10_many_1 (by decide) (by decide) (by decide) rfl ?_
      refine aw_aload_n dX10_many_143 rfl ?_
      refine aw_aload_n dX10_many_144 rfl ?_
      refine aw_getR (b := 1) dX10_many_145 fX10_10 hX.k hX.b rfl hX.r0 ?_
      refine aw_cV dX10_many_148 kX10_123 mX7_countWaiting (sX7_countWaiting hS hC hO) (Nat.le_of_ble_eq_true rfl) hS.k ⟨by decide, rfl⟩ hS.b0 rfl rfl (Nat.le_of_ble_eq_true rfl) ⟨Nat.le_refl _, Nat.le_refl _⟩ ?_
      refine aw_cV dX10_many_151 kX10_94 mX10_answer (sX10_answer hX) (Nat.le_of_ble_eq_true rfl) hX.k ⟨by decide, rfl⟩ hX.b rfl rfl (Nat.le_of_ble_eq_true rfl) ⟨Nat.le_refl _, Nat.le_refl _⟩ ?_
      refine aw_goto (tgt := 207) dX10_many_154 rfl ?_
      refine aw_iret q rfl dX10_many_207 ⟨Nat.le_refl _, Nat.le_refl _⟩ ?_
      refine Ct.ok ?_
      rfl
    | 7, _ =>
      refine aw_tableIn (off := 156) (tgt := 157) dX10_many_1 (by decide) (by decide) (by decide) rfl ?_
      refine aw_aload_n dX10_many_157 rfl ?_
      refine aw_aload_n dX10_many_158 rfl ?_
      refine aw_getR (b := 69) dX10_many_159 fX10_22 hX.k hX.b rfl hX.r2 ?_
      refine aw_getI dX10_many_162 fX10_88 hX.his.2.1 hX.his.b0 rfl ?_
      refine aw_cV dX10_many_165 kX10_94 mX10_answer (sX10_answer hX) (Nat.le_of_ble_eq_true rfl) hX.k ⟨by decide, rfl⟩ hX.b rfl rfl (Nat.le_of_ble_eq_true rfl) ⟨Nat.le_refl _, Nat.le_refl _⟩ ?_
      refine aw_goto (tgt := 207) dX10_many_168 rfl ?_
      refine aw_iret q rfl dX10_many_207 ⟨Nat.le_refl _, Nat.le_refl _⟩ ?_
      refine Ct.ok ?_
      rfl
    | 8, _ =>
      refine aw_tableIn (off := 170) (tgt := 171) dX10_many_1 (by decide) (by decide) (by decide) rfl ?_
      refine aw_aload_n dX10_many_171 rfl ?_
      refine aw_aload_n dX10_many_172 rfl ?_
      refine aw_getR (b := 1) dX10_many_173 fX10_10 hX.k hX.b rfl hX.r0 ?_
      refine aw_getI dX10_many_176 fX10_126 hS.k hS.b0 rfl ?_
      refine AW.top hC.rf ?_
      refine aw_cV dX10_many_179 kX10_94 mX10_answer (sX10_answer hX) (Nat.le_of_ble_eq_true rfl) hX.k ⟨by decide, rfl⟩ hX.b rfl rfl (Nat.le_of_ble_eq_true rfl) ⟨Nat.le_refl _, Nat.le_refl _⟩ ?_
      refine aw_goto (tgt := 207) dX10_many_182 rfl ?_
      refine aw_iret q rfl dX10_many_207 ⟨Nat.le_refl _, Nat.le_refl _⟩ ?_
      refine Ct.ok ?_
      rfl
    | 9, _ =>
      refine aw_tableIn (off := 184) (tgt := 185) dX10_many_1 (by decide) (by decide) (by decide) rfl ?_
      refine aw_aload_n dX10_many_185 rfl ?_
      refine aw_aload_n dX10_many_186 rfl ?_
      refine aw_getR (b := 1) dX10_many_187 fX10_10 hX.k hX.b rfl hX.r0 ?_
      refine aw_getR (b := 1 + 32) dX10_many_190 fX10_129 hS.k hS.b0 rfl hS.r4 ?_
      refine aw_getI dX10_many_193 fX10_113 hS.ok (hS.lt (k := 32) (by decide)) rfl ?_
      refine AW.top hC.no ?_
      refine aw_cV dX10_many_196 kX10_94 mX10_answer (sX10_answer hX) (Nat.le_of_ble_eq_true rfl) hX.k ⟨by decide, rfl⟩ hX.b rfl rfl (Nat.le_of_ble_eq_true rfl) ⟨Nat.le_refl _, Nat.le_refl _⟩ ?_
      refine aw_goto (tgt := 207) dX10_many_199 rfl ?_
      refine aw_iret q rfl dX10_many_207 ⟨Nat.le_refl _, Nat.le_refl _⟩ ?_
      refine Ct.ok ?_
      rfl
  · refine aw_tableOut (tgt := 202) dX10_many_1 (by omega) rfl ?_
    refine aw_aload_n dX10_many_202 rfl ?_
    refine aw_iconst (v := 1) dX10_many_203 rfl ?_
    refine aw_cV dX10_many_204 kX10_76 mX10_fail (sX10_fail hX) (Nat.le_of_ble_eq_true rfl) hX.k ⟨by decide, rfl⟩ hX.b rfl rfl (Nat.le_of_ble_eq_true rfl) ⟨Nat.le_refl _, Nat.le_refl _⟩ ?_
    refine aw_iret q rfl dX10_many_207 ⟨Nat.le_refl _, Nat.le_refl _⟩ ?_
    have e0 : ¬ x = (0 : Int32) := out_ne ho1 (j := 0) (by decide) (by decide)
    have e1 : ¬ x = (1 : Int32) := out_ne ho1 (j := 1) (by decide) (by decide)
    have e2 : ¬ x = (2 : Int32) := out_ne ho1 (j := 2) (by decide) (by decide)
    have e3 : ¬ x = (3 : Int32) := out_ne ho1 (j := 3) (by decide) (by decide)
    have e4 : ¬ x = (4 : Int32) := out_ne ho1 (j := 4) (by decide) (by decide)
    have e5 : ¬ x = (5 : Int32) := out_ne ho1 (j := 5) (by decide) (by decide)
    have e6 : ¬ x = (6 : Int32) := out_ne ho1 (j := 6) (by decide) (by decide)
    have e7 : ¬ x = (7 : Int32) := out_ne ho1 (j := 7) (by decide) (by decide)
    have e8 : ¬ x = (8 : Int32) := out_ne ho1 (j := 8) (by decide) (by decide)
    have e9 : ¬ x = (9 : Int32) := out_ne ho1 (j := 9) (by decide) (by decide)
    refine Ct.no ?_
    simp [aMany, e0, e1, e2, e3, e4, e5, e6, e7, e8, e9]
set_option maxHeartbeats 4000000 in
set_option maxRecDepth 100000 in
theorem sX10_ahead (hX : IsX n sh) (hC : CtS I L 1 N Q) (hIv : Iv N) {x y : Int32} : CM yX10_ahead cX10_ahead 5 (Option.some .int) 5 0 0 [.ref 0, .int x, .int y] z n sh I L (Ct (aAhead N x y) z n sh I L) := by
  refine CM.go [some (.ref 0), some (.int x), some (.int y), none, none] rfl rfl (Nat.le_of_ble_eq_true rfl) (fun X g q => ?_)
  have hO := hIv.ok
  have hN := hO.1
  have hR := hO.2.1
  have hB := hO.2.2.1
  have hE := hO.2.2.2
  have h8 := hN.p8
  have h10 := hN.h10
  have hS := hX.now
  cases h9x : mFrom x 0 (N 231 - 1) with
  | false =>
    cases h9y : mFrom y 0 (N 230 - 1) with
    | false =>
      refine aw_aload_n dX10_ahead_0 rfl ?_
      refine aw_getR (b := 1) dX10_ahead_1 fX10_10 hX.k hX.b rfl hX.r0 ?_
      refine aw_iload_n dX10_ahead_4 rfl ?_
      refine aw_cV dX10_ahead_5 kX10_176 mX7_houseAt (sX7_houseAtN hS hC hO h9x) (Nat.le_of_ble_eq_true rfl) hS.k ⟨by decide, rfl⟩ hS.b0 rfl rfl (Nat.le_of_ble_eq_true rfl) ⟨Nat.le_refl _, Nat.le_refl _⟩ ?_
      refine aw_astore_nN dX10_ahead_8 (by decide) rfl ?_
      refine aw_aload_n dX10_ahead_9 rfl ?_
      refine aw_getR (b := 1) dX10_ahead_10 fX10_10 hX.k hX.b rfl hX.r0 ?_
      refine aw_iload_n dX10_ahead_13 rfl ?_
      refine aw_cV dX10_ahead_14 kX10_132 mX7_homeAt (sX7_homeAtN hS hC hO h9y) (Nat.le_of_ble_eq_true rfl) hS.k ⟨by decide, rfl⟩ hS.b0 rfl rfl (Nat.le_of_ble_eq_true rfl) ⟨Nat.le_refl _, Nat.le_refl _⟩ ?_
      refine aw_astoreN dX10_ahead_17 (by decide) rfl ?_
      refine aw_aload_nN dX10_ahead_19 rfl ?_
      refine aw_ifnullN (tgt := 28) dX10_ahead_20 rfl ?_
      refine aw_aload_n dX10_ahead_28 rfl ?_
      refine aw_iconst (v := 2) dX10_ahead_29 rfl ?_
      refine aw_cV dX10_ahead_30 kX10_76 mX10_fail (sX10_fail hX) (Nat.le_of_ble_eq_true rfl) hX.k ⟨by decide, rfl⟩ hX.b rfl rfl (Nat.le_of_ble_eq_true rfl) ⟨Nat.le_refl _, Nat.le_refl _⟩ ?_
      refine aw_iret q rfl dX10_ahead_33 ⟨Nat.le_refl _, Nat.le_refl _⟩ ?_
      refine Ct.no ?_
      unfold aAhead mOnes
      rw [h9x, h9y]
      rfl
    | true =>
      obtain ⟨h, hh, rfl⟩ := from_ix hN.h (by omega) h9y
      have e9h : (nI h).toNatClampNeg = h := nI_clamp (by omega)
      refine aw_aload_n dX10_ahead_0 rfl ?_
      refine aw_getR (b := 1) dX10_ahead_1 fX10_10 hX.k hX.b rfl hX.r0 ?_
      refine aw_iload_n dX10_ahead_4 rfl ?_
      refine aw_cV dX10_ahead_5 kX10_176 mX7_houseAt (sX7_houseAtN hS hC hO h9x) (Nat.le_of_ble_eq_true rfl) hS.k ⟨by decide, rfl⟩ hS.b0 rfl rfl (Nat.le_of_ble_eq_true rfl) ⟨Nat.le_refl _, Nat.le_refl _⟩ ?_
      refine aw_astore_nN dX10_ahead_8 (by decide) rfl ?_
      refine aw_aload_n dX10_ahead_9 rfl ?_
      refine aw_getR (b := 1) dX10_ahead_10 fX10_10 hX.k hX.b rfl hX.r0 ?_
      refine aw_iload_n dX10_ahead_13 rfl ?_
      refine aw_cV dX10_ahead_14 kX10_132 mX7_homeAt (sX7_homeAt hS hC hO rfl hh) (Nat.le_of_ble_eq_true rfl) hS.k ⟨by decide, rfl⟩ hS.b0 rfl rfl (Nat.le_of_ble_eq_true rfl) ⟨Nat.le_refl _, Nat.le_refl _⟩ ?_
      refine aw_astore dX10_ahead_17 (by decide) rfl ?_
      refine aw_aload_nN dX10_ahead_19 rfl ?_
      refine aw_ifnullN (tgt := 28) dX10_ahead_20 rfl ?_
      refine aw_aload_n dX10_ahead_28 rfl ?_
      refine aw_iconst (v := 2) dX10_ahead_29 rfl ?_
      refine aw_cV dX10_ahead_30 kX10_76 mX10_fail (sX10_fail hX) (Nat.le_of_ble_eq_true rfl) hX.k ⟨by decide, rfl⟩ hX.b rfl rfl (Nat.le_of_ble_eq_true rfl) ⟨Nat.le_refl _, Nat.le_refl _⟩ ?_
      refine aw_iret q rfl dX10_ahead_33 ⟨Nat.le_refl _, Nat.le_refl _⟩ ?_
      refine Ct.no ?_
      unfold aAhead mOnes
      rw [h9x, h9y]
      rfl
  | true =>
    obtain ⟨p, hp, rfl⟩ := from_ix hN.p (by omega) h9x
    have e9p : (nI p).toNatClampNeg = p := nI_clamp (by omega)
    cases h9y : mFrom y 0 (N 230 - 1) with
    | false =>
      refine aw_aload_n dX10_ahead_0 rfl ?_
      refine aw_getR (b := 1) dX10_ahead_1 fX10_10 hX.k hX.b rfl hX.r0 ?_
      refine aw_iload_n dX10_ahead_4 rfl ?_
      refine aw_cV dX10_ahead_5 kX10_176 mX7_houseAt (sX7_houseAt hS hC hO rfl hp) (Nat.le_of_ble_eq_true rfl) hS.k ⟨by decide, rfl⟩ hS.b0 rfl rfl (Nat.le_of_ble_eq_true rfl) ⟨Nat.le_refl _, Nat.le_refl _⟩ ?_
      refine aw_astore_n dX10_ahead_8 (by decide) rfl ?_
      refine aw_aload_n dX10_ahead_9 rfl ?_
      refine aw_getR (b := 1) dX10_ahead_10 fX10_10 hX.k hX.b rfl hX.r0 ?_
      refine aw_iload_n dX10_ahead_13 rfl ?_
      refine aw_cV dX10_ahead_14 kX10_132 mX7_homeAt (sX7_homeAtN hS hC hO h9y) (Nat.le_of_ble_eq_true rfl) hS.k ⟨by decide, rfl⟩ hS.b0 rfl rfl (Nat.le_of_ble_eq_true rfl) ⟨Nat.le_refl _, Nat.le_refl _⟩ ?_
      refine aw_astoreN dX10_ahead_17 (by decide) rfl ?_
      refine aw_aload_n dX10_ahead_19 rfl ?_
      refine aw_ifnull dX10_ahead_20 ?_
      refine aw_aloadN dX10_ahead_23 rfl ?_
      refine aw_ifnonnullN dX10_ahead_25 ?_
      refine aw_aload_n dX10_ahead_28 rfl ?_
      refine aw_iconst (v := 2) dX10_ahead_29 rfl ?_
      refine aw_cV dX10_ahead_30 kX10_76 mX10_fail (sX10_fail hX) (Nat.le_of_ble_eq_true rfl) hX.k ⟨by decide, rfl⟩ hX.b rfl rfl (Nat.le_of_ble_eq_true rfl) ⟨Nat.le_refl _, Nat.le_refl _⟩ ?_
      refine aw_iret q rfl dX10_ahead_33 ⟨Nat.le_refl _, Nat.le_refl _⟩ ?_
      refine Ct.no ?_
      unfold aAhead mOnes
      rw [h9x, h9y]
      rfl
    | true =>
      obtain ⟨h, hh, rfl⟩ := from_ix hN.h (by omega) h9y
      have e9h : (nI h).toNatClampNeg = h := nI_clamp (by omega)
      refine aw_aload_n dX10_ahead_0 rfl ?_
      refine aw_getR (b := 1) dX10_ahead_1 fX10_10 hX.k hX.b rfl hX.r0 ?_
      refine aw_iload_n dX10_ahead_4 rfl ?_
      refine aw_cV dX10_ahead_5 kX10_176 mX7_houseAt (sX7_houseAt hS hC hO rfl hp) (Nat.le_of_ble_eq_true rfl) hS.k ⟨by decide, rfl⟩ hS.b0 rfl rfl (Nat.le_of_ble_eq_true rfl) ⟨Nat.le_refl _, Nat.le_refl _⟩ ?_
      refine aw_astore_n dX10_ahead_8 (by decide) rfl ?_
      refine aw_aload_n dX10_ahead_9 rfl ?_
      refine aw_getR (b := 1) dX10_ahead_10 fX10_10 hX.k hX.b rfl hX.r0 ?_
      refine aw_iload_n dX10_ahead_13 rfl ?_
      refine aw_cV dX10_ahead_14 kX10_132 mX7_homeAt (sX7_homeAt hS hC hO rfl hh) (Nat.le_of_ble_eq_true rfl) hS.k ⟨by decide, rfl⟩ hS.b0 rfl rfl (Nat.le_of_ble_eq_true rfl) ⟨Nat.le_refl _, Nat.le_refl _⟩ ?_
      refine aw_astore dX10_ahead_17 (by decide) rfl ?_
      refine aw_aload_n dX10_ahead_19 rfl ?_
      refine aw_ifnull dX10_ahead_20 ?_
      refine aw_aload dX10_ahead_23 rfl ?_
      refine aw_ifnonnull (tgt := 34) dX10_ahead_25 rfl ?_
      refine aw_aload_n dX10_ahead_34 rfl ?_
      refine aw_cV dX10_ahead_35 kX10_236 mX3_isAble (sX3_isAble hS hC hN hp hB) (Nat.le_of_ble_eq_true rfl) (hS.po (by omega)) ⟨by decide, rfl⟩ (hS.pb (by omega)) rfl rfl (Nat.le_of_ble_eq_true rfl) ⟨Nat.le_refl _, Nat.le_refl _⟩ ?_
      refine aw_if_eq (tgt := 50) dX10_ahead_38 rfl (fun c38 => ?_) (fun c38 => ?_)
      · refine aw_aload_n dX10_ahead_50 rfl ?_
        refine aw_iconst (v := 5) dX10_ahead_51 rfl ?_
        refine aw_cV dX10_ahead_52 kX10_76 mX10_fail (sX10_fail hX) (Nat.le_of_ble_eq_true rfl) hX.k ⟨by decide, rfl⟩ hX.b rfl rfl (Nat.le_of_ble_eq_true rfl) ⟨Nat.le_refl _, Nat.le_refl _⟩ ?_
        refine aw_iret q rfl dX10_ahead_55 ⟨Nat.le_refl _, Nat.le_refl _⟩ ?_
        refine Ct.no ?_
        unfold aAhead mOnes
        rw [h9x, h9y, e9p, e9h, bI0.mp c38]
        rfl
      · refine aw_aload_n dX10_ahead_41 rfl ?_
        refine aw_aload dX10_ahead_42 rfl ?_
        refine aw_cV dX10_ahead_44 kX10_239 mX3_suits (sX3_suits hS hC hN hp hh hR) (Nat.le_of_ble_eq_true rfl) (hS.po (by omega)) ⟨by decide, rfl⟩ (hS.pb (by omega)) rfl rfl (Nat.le_of_ble_eq_true rfl) ⟨Nat.le_refl _, Nat.le_refl _⟩ ?_
        refine aw_if_ne (tgt := 56) dX10_ahead_47 rfl (fun c47 => ?_) (fun c47 => ?_)
        · refine aw_aload_n dX10_ahead_56 rfl ?_
          refine aw_aload_n dX10_ahead_57 rfl ?_
          refine aw_getR (b := 1) dX10_ahead_58 fX10_10 hX.k hX.b rfl hX.r0 ?_
          refine aw_aload_n dX10_ahead_61 rfl ?_
          refine aw_aload dX10_ahead_62 rfl ?_
          refine aw_aload_n dX10_ahead_64 rfl ?_
          refine aw_getR (b := 1) dX10_ahead_65 fX10_10 hX.k hX.b rfl hX.r0 ?_
          refine aw_aload_n dX10_ahead_68 rfl ?_
          refine aw_cV dX10_ahead_69 kX10_185 mX7_bandNow (sX7_bandNow hS hC hO hp) (Nat.le_of_ble_eq_true rfl) hS.k ⟨by decide, rfl⟩ hS.b0 rfl rfl (Nat.le_of_ble_eq_true rfl) ⟨Nat.le_refl _, Nat.le_refl _⟩ ?_
          refine aw_aload_n dX10_ahead_72 rfl ?_
          refine aw_getR (b := 1) dX10_ahead_73 fX10_10 hX.k hX.b rfl hX.r0 ?_
          refine aw_aload dX10_ahead_76 rfl ?_
          refine aw_cV dX10_ahead_78 kX10_242 mX7_ableFor (sX7_ableFor hS hC hO hh) (Nat.le_of_ble_eq_true rfl) hS.k ⟨by decide, rfl⟩ hS.b0 rfl rfl (Nat.le_of_ble_eq_true rfl) ⟨Nat.le_refl _, Nat.le_refl _⟩ ?_
          refine aw_cV dX10_ahead_81 kX10_245 mX7_countAhead (sX7_countAhead hS hC hO hp hh (iset_lt (fun p => mHope N p && mFit N p h) h8).1 (iset_lt (fun p => mHope N p && mFit N p h) h8).2) (Nat.le_of_ble_eq_true rfl) hS.k ⟨by decide, rfl⟩ hS.b0 rfl rfl (Nat.le_of_ble_eq_true rfl) ⟨Nat.le_refl _, Nat.le_refl _⟩ ?_
          refine aw_cV dX10_ahead_84 kX10_94 mX10_answer (sX10_answer hX) (Nat.le_of_ble_eq_true rfl) hX.k ⟨by decide, rfl⟩ hX.b rfl rfl (Nat.le_of_ble_eq_true rfl) ⟨Nat.le_refl _, Nat.le_refl _⟩ ?_
          refine aw_iret q rfl dX10_ahead_87 ⟨Nat.le_refl _, Nat.le_refl _⟩ ?_
          refine Ct.ok ?_
          unfold aAhead mOnes
          rw [h9x, h9y, e9p, e9h, bI1.mp c38, bI1.mp c47]
          exact congrArg ok (ahead_eq hR h8 hp).symm
        · refine aw_aload_n dX10_ahead_50 rfl ?_
          refine aw_iconst (v := 5) dX10_ahead_51 rfl ?_
          refine aw_cV dX10_ahead_52 kX10_76 mX10_fail (sX10_fail hX) (Nat.le_of_ble_eq_true rfl) hX.k ⟨by decide, rfl⟩ hX.b rfl rfl (Nat.le_of_ble_eq_true rfl) ⟨Nat.le_refl _, Nat.le_refl _⟩ ?_
          refine aw_iret q rfl dX10_ahead_55 ⟨Nat.le_refl _, Nat.le_refl _⟩ ?_
          refine Ct.no ?_
          unfold aAhead mOnes
          rw [h9x, h9y, e9p, e9h, bI0.mp c47, Bool.and_false]
          rfl
set_option maxHeartbeats 4000000 in
set_option maxRecDepth 100000 in
theorem sX10_top (hX : IsX n sh) (hC : CtS I L 1 N Q) (hIv : Iv N) {x : Int32} : CM yX10_top cX10_top 3 (Option.some .int) 5 0 0 [.ref 0, .int x] z n sh I L (Ct (aTop N x) z n sh I L) := by
  refine CM.go [some (.ref 0), some (.int x), none] rfl rfl (Nat.le_of_ble_eq_true rfl) (fun X g q => ?_)
  have hO := hIv.ok
  have hN := hO.1
  have hR := hO.2.1
  have hB := hO.2.2.1
  have hE := hO.2.2.2
  have h8 := hN.p8
  have h10 := hN.h10
  have hS := hX.now
  cases h9x : mFrom x 0 (N 230 - 1) with
  | false =>
    refine aw_aload_n dX10_top_0 rfl ?_
    refine aw_getR (b := 1) dX10_top_1 fX10_10 hX.k hX.b rfl hX.r0 ?_
    refine aw_iload_n dX10_top_4 rfl ?_
    refine aw_cV dX10_top_5 kX10_132 mX7_homeAt (sX7_homeAtN hS hC hO h9x) (Nat.le_of_ble_eq_true rfl) hS.k ⟨by decide, rfl⟩ hS.b0 rfl rfl (Nat.le_of_ble_eq_true rfl) ⟨Nat.le_refl _, Nat.le_refl _⟩ ?_
    refine aw_astore_nN dX10_top_8 (by decide) rfl ?_
    refine aw_aload_nN dX10_top_9 rfl ?_
    refine aw_ifnonnullN dX10_top_10 ?_
    refine aw_aload_n dX10_top_13 rfl ?_
    refine aw_iconst (v := 2) dX10_top_14 rfl ?_
    refine aw_cV dX10_top_15 kX10_76 mX10_fail (sX10_fail hX) (Nat.le_of_ble_eq_true rfl) hX.k ⟨by decide, rfl⟩ hX.b rfl rfl (Nat.le_of_ble_eq_true rfl) ⟨Nat.le_refl _, Nat.le_refl _⟩ ?_
    refine aw_iret q rfl dX10_top_18 ⟨Nat.le_refl _, Nat.le_refl _⟩ ?_
    first | refine Ct.ok ?_ | refine Ct.no ?_
    simp [aTop, h9x]
  | true =>
    obtain ⟨h, hh, rfl⟩ := from_ix hN.h (by omega) h9x
    have e9h : (nI h).toNatClampNeg = h := nI_clamp (by omega)
    refine aw_aload_n dX10_top_0 rfl ?_
    refine aw_getR (b := 1) dX10_top_1 fX10_10 hX.k hX.b rfl hX.r0 ?_
    refine aw_iload_n dX10_top_4 rfl ?_
    refine aw_cV dX10_top_5 kX10_132 mX7_homeAt (sX7_homeAt hS hC hO rfl hh) (Nat.le_of_ble_eq_true rfl) hS.k ⟨by decide, rfl⟩ hS.b0 rfl rfl (Nat.le_of_ble_eq_true rfl) ⟨Nat.le_refl _, Nat.le_refl _⟩ ?_
    refine aw_astore_n dX10_top_8 (by decide) rfl ?_
    refine aw_aload_n dX10_top_9 rfl ?_
    refine aw_ifnonnull (tgt := 19) dX10_top_10 rfl ?_
    refine aw_aload_n dX10_top_19 rfl ?_
    refine aw_aload_n dX10_top_20 rfl ?_
    refine aw_getR (b := 1) dX10_top_21 fX10_10 hX.k hX.b rfl hX.r0 ?_
    refine aw_aload_n dX10_top_24 rfl ?_
    refine aw_getR (b := 1) dX10_top_25 fX10_10 hX.k hX.b rfl hX.r0 ?_
    refine aw_aload_n dX10_top_28 rfl ?_
    refine aw_cV dX10_top_29 kX10_284 mX7_takersOf (sX7_takersOf hS hC hO hh) (Nat.le_of_ble_eq_true rfl) hS.k ⟨by decide, rfl⟩ hS.b0 rfl rfl (Nat.le_of_ble_eq_true rfl) ⟨Nat.le_refl _, Nat.le_refl _⟩ ?_
    refine aw_aload_n dX10_top_32 rfl ?_
    refine aw_iconst (v := 0) dX10_top_33 rfl ?_
    refine aw_cV dX10_top_34 kX10_229 mX7_kthOf (show CM yX7_kthOf cX7_kthOf 8 (Option.some (.object "HomesQueue$House")) 4 0 0 [.ref 1, .int (iset (fun p => mCould N p h) (nPo N)), .ref (1 + 2 + h), .int 0] z n sh I L (Pst (some (oH 1 (mFirst N h (mAllC N h)))) z n sh I L) from top_eq (h := h) (x := mAllC N h) hR h8 ▸ sX7_kthOf hS hC hO (iset_lt (fun p => mCould N p h) h8).1 (iset_lt (fun p => mCould N p h) h8).2 (k := 0) rfl (by decide) hh) (Nat.le_of_ble_eq_true rfl) hS.k ⟨by decide, rfl⟩ hS.b0 rfl rfl (Nat.le_of_ble_eq_true rfl) ⟨Nat.le_refl _, Nat.le_refl _⟩ ?_
    refine aw_cV dX10_top_37 kX10_233 mX10_answerNumber (sX10_answerNumberO hX hC.1 (fun p q => by have := (fst_lt q).1; omega)) (Nat.le_of_ble_eq_true rfl) hX.k ⟨by decide, rfl⟩ hX.b rfl rfl (Nat.le_of_ble_eq_true rfl) ⟨Nat.le_refl _, Nat.le_refl _⟩ ?_
    refine aw_iret q rfl dX10_top_40 ⟨Nat.le_refl _, Nat.le_refl _⟩ ?_
    rw [show aTop N (nI h) = aNum (mFirst N h (mAllC N h)) from by
      unfold aTop
      rw [h9x, e9h, aNum_oN (fun p q => by have := (fst_lt q).1; omega)]
      rfl]
    exact Pst.rf
theorem ff_lt {P : Nat → Bool} {n k : Nat} (hk : k < n) (h : P k = true) : fa_first P n < n := by
  rcases Nat.lt_or_ge (fa_first P n) n with q | q
  · exact q
  · have := fa_first_no P n k (by omega)
    rw [h] at this
    cases this
theorem lot_rem {u : Nat} (hu : u ≤ 65536) : (75 * nI u + 74) - (75 * nI u + 74) / 65537 * 65537 = nI ((75 * u + 74) % 65537) := by
  rw [show (75 : Int32) = nI 75 from rfl, show (74 : Int32) = nI 74 from rfl, show (65537 : Int32) = nI 65537 from rfl, pk_mul, nI_add]
  exact pk_rem (by omega) (by decide) (by decide)
theorem lot_lt {N : Nat → Int32} {h u : Nat} (e : ¬ lS N h (nPo N) = 0) : fa_first (fun p => decide (u % lS N h (nPo N) < lS N h (p + 1))) (nPo N) < nPo N := by
  have hm : u % lS N h (nPo N) < lS N h (nPo N) := Nat.mod_lt _ (by omega)
  have hn : 0 < nPo N := by
    rcases Nat.eq_zero_or_pos (nPo N) with q | q
    · rw [q] at e
      exact absurd rfl e
    · exact q
  refine ff_lt (k := nPo N - 1) (by omega) ?_
  rw [show nPo N - 1 + 1 = nPo N by omega]
  exact decide_eq_true hm
set_option maxHeartbeats 4000000 in
set_option maxRecDepth 100000 in
theorem sX10_lot (hX : IsX n sh) (hC : CtS I L 1 N Q) (hIv : Iv N) {x w : Int32} : CM yX10_lot cX10_lot 4 (Option.some .int) 6 0 0 [.ref 0, .int x, .int w] z n sh I L (Ct (aLot N x w) z n sh I L) := by
  refine CM.go [some (.ref 0), some (.int x), some (.int w), none] rfl rfl (Nat.le_of_ble_eq_true rfl) (fun X g q => ?_)
  have hO := hIv.ok
  have hN := hO.1
  have hR := hO.2.1
  have hB := hO.2.2.1
  have hE := hO.2.2.2
  have h8 := hN.p8
  have h10 := hN.h10
  have hS := hX.now
  cases h9x : mFrom x 0 (N 230 - 1) with
  | false =>
    refine aw_iload_n dX10_lot_0 rfl ?_
    refine aw_if_lt (tgt := 11) dX10_lot_1 rfl (fun c1 => ?_) (fun c1 => ?_)
    · have hw := from_neg (b := 65536) c1
      refine aw_aload_n dX10_lot_11 rfl ?_
      refine aw_iconst (v := 1) dX10_lot_12 rfl ?_
      refine aw_cV dX10_lot_13 kX10_76 mX10_fail (sX10_fail hX) (Nat.le_of_ble_eq_true rfl) hX.k ⟨by decide, rfl⟩ hX.b rfl rfl (Nat.le_of_ble_eq_true rfl) ⟨Nat.le_refl _, Nat.le_refl _⟩ ?_
      refine aw_iret q rfl dX10_lot_16 ⟨Nat.le_refl _, Nat.le_refl _⟩ ?_
      first | refine Ct.ok ?_ | refine Ct.no ?_
      simp [aLot, h9x, hw]
    · skip
      refine aw_iload_n dX10_lot_4 rfl ?_
      refine aw_ldcw dX10_lot_5 qX10_287 ?_
      refine aw_icmp_le (tgt := 17) dX10_lot_8 rfl (fun c8 => ?_) (fun c8 => ?_)
      · have hw := from_in c1 c8
        obtain ⟨u, hu, rfl⟩ := le_ix (B := 65536) (by decide) c1 c8
        refine aw_aload_n dX10_lot_17 rfl ?_
        refine aw_getR (b := 1) dX10_lot_18 fX10_10 hX.k hX.b rfl hX.r0 ?_
        refine aw_iload_n dX10_lot_21 rfl ?_
        refine aw_cV dX10_lot_22 kX10_132 mX7_homeAt (sX7_homeAtN hS hC hO h9x) (Nat.le_of_ble_eq_true rfl) hS.k ⟨by decide, rfl⟩ hS.b0 rfl rfl (Nat.le_of_ble_eq_true rfl) ⟨Nat.le_refl _, Nat.le_refl _⟩ ?_
        refine aw_astore_nN dX10_lot_25 (by decide) rfl ?_
        refine aw_aload_nN dX10_lot_26 rfl ?_
        refine aw_ifnonnullN dX10_lot_27 ?_
        refine aw_aload_n dX10_lot_30 rfl ?_
        refine aw_iconst (v := 2) dX10_lot_31 rfl ?_
        refine aw_cV dX10_lot_32 kX10_76 mX10_fail (sX10_fail hX) (Nat.le_of_ble_eq_true rfl) hX.k ⟨by decide, rfl⟩ hX.b rfl rfl (Nat.le_of_ble_eq_true rfl) ⟨Nat.le_refl _, Nat.le_refl _⟩ ?_
        refine aw_iret q rfl dX10_lot_35 ⟨Nat.le_refl _, Nat.le_refl _⟩ ?_
        first | refine Ct.ok ?_ | refine Ct.no ?_
        simp [aLot, h9x, hw]
      · have hw := from_gt (a := 0) c8
        refine aw_aload_n dX10_lot_11 rfl ?_
        refine aw_iconst (v := 1) dX10_lot_12 rfl ?_
        refine aw_cV dX10_lot_13 kX10_76 mX10_fail (sX10_fail hX) (Nat.le_of_ble_eq_true rfl) hX.k ⟨by decide, rfl⟩ hX.b rfl rfl (Nat.le_of_ble_eq_true rfl) ⟨Nat.le_refl _, Nat.le_refl _⟩ ?_
        refine aw_iret q rfl dX10_lot_16 ⟨Nat.le_refl _, Nat.le_refl _⟩ ?_
        first | refine Ct.ok ?_ | refine Ct.no ?_
        simp [aLot, h9x, hw]
  | true =>
    obtain ⟨h, hh, rfl⟩ := from_ix hN.h (by omega) h9x
    have e9h : (nI h).toNatClampNeg = h := nI_clamp (by omega)
    refine aw_iload_n dX10_lot_0 rfl ?_
    refine aw_if_lt (tgt := 11) dX10_lot_1 rfl (fun c1 => ?_) (fun c1 => ?_)
    · have hw := from_neg (b := 65536) c1
      refine aw_aload_n dX10_lot_11 rfl ?_
      refine aw_iconst (v := 1) dX10_lot_12 rfl ?_
      refine aw_cV dX10_lot_13 kX10_76 mX10_fail (sX10_fail hX) (Nat.le_of_ble_eq_true rfl) hX.k ⟨by decide, rfl⟩ hX.b rfl rfl (Nat.le_of_ble_eq_true rfl) ⟨Nat.le_refl _, Nat.le_refl _⟩ ?_
      refine aw_iret q rfl dX10_lot_16 ⟨Nat.le_refl _, Nat.le_refl _⟩ ?_
      first | refine Ct.ok ?_ | refine Ct.no ?_
      simp [aLot, h9x, e9h, hw]
    · skip
      refine aw_iload_n dX10_lot_4 rfl ?_
      refine aw_ldcw dX10_lot_5 qX10_287 ?_
      refine aw_icmp_le (tgt := 17) dX10_lot_8 rfl (fun c8 => ?_) (fun c8 => ?_)
      · have hw := from_in c1 c8
        obtain ⟨u, hu, rfl⟩ := le_ix (B := 65536) (by decide) c1 c8
        refine aw_aload_n dX10_lot_17 rfl ?_
        refine aw_getR (b := 1) dX10_lot_18 fX10_10 hX.k hX.b rfl hX.r0 ?_
        refine aw_iload_n dX10_lot_21 rfl ?_
        refine aw_cV dX10_lot_22 kX10_132 mX7_homeAt (sX7_homeAt hS hC hO rfl hh) (Nat.le_of_ble_eq_true rfl) hS.k ⟨by decide, rfl⟩ hS.b0 rfl rfl (Nat.le_of_ble_eq_true rfl) ⟨Nat.le_refl _, Nat.le_refl _⟩ ?_
        refine aw_astore_n dX10_lot_25 (by decide) rfl ?_
        refine aw_aload_n dX10_lot_26 rfl ?_
        refine aw_ifnonnull (tgt := 36) dX10_lot_27 rfl ?_
        refine aw_aload_n dX10_lot_36 rfl ?_
        refine aw_aload_n dX10_lot_37 rfl ?_
        refine aw_getR (b := 1) dX10_lot_38 fX10_10 hX.k hX.b rfl hX.r0 ?_
        refine aw_aload_n dX10_lot_41 rfl ?_
        refine aw_bipush (v := 75) dX10_lot_42 rfl ?_
        refine aw_iload_n dX10_lot_44 rfl ?_
        refine aw_imul dX10_lot_45 ?_
        refine aw_bipush (v := 74) dX10_lot_46 rfl ?_
        refine aw_iadd dX10_lot_48 ?_
        refine aw_ldcw dX10_lot_49 qX10_288 ?_
        refine aw_irem dX10_lot_52 (by decide) ?_
        refine AW.top (y := nI ((75 * u + 74) % 65537)) (lot_rem (by omega)) ?_
        refine aw_cV dX10_lot_53 kX10_289 mX7_drawn (sX7_drawn hS hC hO hh (u := (75 * u + 74) % 65537) rfl (by omega)) (Nat.le_of_ble_eq_true rfl) hS.k ⟨by decide, rfl⟩ hS.b0 rfl rfl (Nat.le_of_ble_eq_true rfl) ⟨Nat.le_refl _, Nat.le_refl _⟩ ?_
        refine aw_cV dX10_lot_56 kX10_233 mX10_answerNumber (sX10_answerNumberO hX hC.1 (fun p q => by
          split at q
          · cases q
          · rename_i e9
            have := lot_lt (N := N) (h := h) (u := (75 * u + 74) % 65537) e9
            cases q
            omega)) (Nat.le_of_ble_eq_true rfl) hX.k ⟨by decide, rfl⟩ hX.b rfl rfl (Nat.le_of_ble_eq_true rfl) ⟨Nat.le_refl _, Nat.le_refl _⟩ ?_
        refine aw_iret q rfl dX10_lot_59 ⟨Nat.le_refl _, Nat.le_refl _⟩ ?_
        rw [show aLot N (nI h) (nI u) = aNum (if lS N h (nPo N) = 0 then none else some (fa_first (fun p => decide (((75 * u + 74) % 65537) % lS N h (nPo N) < lS N h (p + 1))) (nPo N))) from by
          unfold aLot lotR
          rw [hw, h9x, e9h, nI_clamp (by omega)]
          by_cases e : lS N h (nPo N) = 0
          · rw [if_pos e, if_pos e]
            rfl
          · rw [if_neg e, if_neg e]
            rfl]
        exact Pst.rf
      · have hw := from_gt (a := 0) c8
        refine aw_aload_n dX10_lot_11 rfl ?_
        refine aw_iconst (v := 1) dX10_lot_12 rfl ?_
        refine aw_cV dX10_lot_13 kX10_76 mX10_fail (sX10_fail hX) (Nat.le_of_ble_eq_true rfl) hX.k ⟨by decide, rfl⟩ hX.b rfl rfl (Nat.le_of_ble_eq_true rfl) ⟨Nat.le_refl _, Nat.le_refl _⟩ ?_
        refine aw_iret q rfl dX10_lot_16 ⟨Nat.le_refl _, Nat.le_refl _⟩ ?_
        first | refine Ct.ok ?_ | refine Ct.no ?_
        simp [aLot, h9x, e9h, hw]
end ClsS
