/-! the class: a home's and a house's own methods, those that tell -/
section ClsS
variable {z n b : Nat} {sh : Shp} {I : MI} {L : ML} {N : Nat → Int32} {Q : Nat → Int64}
set_option maxHeartbeats 4000000 in
set_option maxRecDepth 100000 in
theorem sX2_isFree (hS : IsS n sh b) (hC : CtS I L b N Q) (hN : Cn N) {h : Nat} (hh : h < nHo N)  : CM yX2_isFree cX2_isFree 1 (Option.some .boolean) 1 0 0 [.ref (b + 2 + h)] z n sh I L (Pst (some (.int (bI (mFree N h)))) z n sh I L) := by
  refine CM.go [some (.ref (b + 2 + h))] rfl rfl (Nat.le_of_ble_eq_true rfl) (fun X g q => ?_)
  have h8 := hN.p8
  have h10 := hN.h10
  refine aw_aload_n dX2_isFree_0 rfl ?_
  refine aw_getI dX2_isFree_1 fX2_18 (hS.ho (by omega)) (hS.hb (by omega)) rfl ?_
  refine AW.top (hC.hf h10 (h := h) (w := 2) (by omega) (by decide)) ?_
  refine aw_iconst (v := (-1)) dX2_isFree_4 rfl ?_
  refine aw_icmp_ne (tgt := 26) dX2_isFree_5 rfl (fun c5 => ?_) (fun c5 => ?_)
  · refine aw_iconst (v := 0) dX2_isFree_26 rfl ?_
    refine aw_zret q rfl (by decide) dX2_isFree_27 ⟨Nat.le_refl _, Nat.le_refl _⟩ ?_
    refine Pst.iv ?_
    simp -failIfUnchanged only [bI0, bI1] at c5
    simp [bI, mFree, c5]
  · refine aw_aload_n dX2_isFree_8 rfl ?_
    refine aw_getI dX2_isFree_9 fX2_21 (hS.ho (by omega)) (hS.hb (by omega)) rfl ?_
    refine AW.top (hC.hf h10 (h := h) (w := 3) (by omega) (by decide)) ?_
    refine aw_if_ne (tgt := 26) dX2_isFree_12 rfl (fun c12 => ?_) (fun c12 => ?_)
    · refine aw_iconst (v := 0) dX2_isFree_26 rfl ?_
      refine aw_zret q rfl (by decide) dX2_isFree_27 ⟨Nat.le_refl _, Nat.le_refl _⟩ ?_
      refine Pst.iv ?_
      simp -failIfUnchanged only [bI0, bI1] at c5 c12
      simp [bI, mFree, c5, c12]
    · refine aw_aload_n dX2_isFree_15 rfl ?_
      refine aw_getI dX2_isFree_16 fX2_25 (hS.ho (by omega)) (hS.hb (by omega)) rfl ?_
      refine AW.top (hC.hf h10 (h := h) (w := 6) (by omega) (by decide)) ?_
      refine aw_if_ne (tgt := 26) dX2_isFree_19 rfl (fun c19 => ?_) (fun c19 => ?_)
      · refine aw_iconst (v := 0) dX2_isFree_26 rfl ?_
        refine aw_zret q rfl (by decide) dX2_isFree_27 ⟨Nat.le_refl _, Nat.le_refl _⟩ ?_
        refine Pst.iv ?_
        simp -failIfUnchanged only [bI0, bI1] at c5 c12 c19
        simp [bI, mFree, c5, c12, c19]
      · refine aw_iconst (v := 1) dX2_isFree_22 rfl ?_
        refine aw_goto (tgt := 27) dX2_isFree_23 rfl ?_
        refine aw_zret q rfl (by decide) dX2_isFree_27 ⟨Nat.le_refl _, Nat.le_refl _⟩ ?_
        refine Pst.iv ?_
        simp -failIfUnchanged only [bI0, bI1] at c5 c12 c19
        simp [bI, mFree, c5, c12, c19]
set_option maxHeartbeats 4000000 in
set_option maxRecDepth 100000 in
theorem sX3_isAble (hS : IsS n sh b) (hC : CtS I L b N Q) (hN : Cn N) {p : Nat} (hp : p < nPo N) (hB : BrO N)  : CM yX3_isAble cX3_isAble 1 (Option.some .boolean) 1 0 0 [.ref (b + 13 + 2 * p)] z n sh I L (Pst (some (.int (bI (mHope N p)))) z n sh I L) := by
  refine CM.go [some (.ref (b + 13 + 2 * p))] rfl rfl (Nat.le_of_ble_eq_true rfl) (fun X g q => ?_)
  have h8 := hN.p8
  have h10 := hN.h10
  refine aw_aload_n dX3_isAble_0 rfl ?_
  refine aw_getI dX3_isAble_1 fX3_25 (hS.po (by omega)) (hS.pb (by omega)) rfl ?_
  refine AW.top (hC.pf h8 (p := p) (w := 8) (by omega) (by decide) (by decide) (by decide)) ?_
  refine aw_if_ne (tgt := 18) dX3_isAble_4 rfl (fun c4 => ?_) (fun c4 => ?_)
  · refine aw_iconst (v := 0) dX3_isAble_18 rfl ?_
    refine aw_zret q rfl (by decide) dX3_isAble_19 ⟨Nat.le_refl _, Nat.le_refl _⟩ ?_
    refine Pst.iv ?_
    simp [bI, mHope, mIn, c4]
  · refine aw_aload_n dX3_isAble_7 rfl ?_
    refine aw_getI dX3_isAble_8 fX3_29 (hS.po (by omega)) (hS.pb (by omega)) rfl ?_
    refine AW.top (hC.br (by omega)) ?_
    have e6 := hB.zero hp
    refine aw_if_ne (tgt := 18) dX3_isAble_11 rfl (fun c11 => ?_) (fun c11 => ?_)
    · refine aw_iconst (v := 0) dX3_isAble_18 rfl ?_
      refine aw_zret q rfl (by decide) dX3_isAble_19 ⟨Nat.le_refl _, Nat.le_refl _⟩ ?_
      refine Pst.iv ?_
      rw [e6] at c11
      simp [bI, mHope, mIn, c4, c11]
    · refine aw_iconst (v := 1) dX3_isAble_14 rfl ?_
      refine aw_goto (tgt := 19) dX3_isAble_15 rfl ?_
      refine aw_zret q rfl (by decide) dX3_isAble_19 ⟨Nat.le_refl _, Nat.le_refl _⟩ ?_
      refine Pst.iv ?_
      rw [e6] at c11
      simp [bI, mHope, mIn, c4, c11]
set_option maxHeartbeats 4000000 in
set_option maxRecDepth 100000 in
theorem sX3_suits (hS : IsS n sh b) (hC : CtS I L b N Q) (hN : Cn N) {p : Nat} (hp : p < nPo N) {h : Nat} (hh : h < nHo N) (hR : Rg N)  : CM yX3_suits cX3_suits 2 (Option.some .boolean) 1 0 0 [.ref (b + 13 + 2 * p), .ref (b + 2 + h)] z n sh I L (Pst (some (.int (bI (mFit N p h)))) z n sh I L) := by
  refine CM.go [some (.ref (b + 13 + 2 * p)), some (.ref (b + 2 + h))] rfl rfl (Nat.le_of_ble_eq_true rfl) (fun X g q => ?_)
  have h8 := hN.p8
  have h10 := hN.h10
  refine aw_aload_n dX3_suits_0 rfl ?_
  refine aw_getI dX3_suits_1 fX3_32 (hS.ho (by omega)) (hS.hb (by omega)) rfl ?_
  refine AW.top (hC.hf h10 (h := h) (w := 0) (by omega) (by decide)) ?_
  refine aw_aload_n dX3_suits_4 rfl ?_
  refine aw_getI dX3_suits_5 fX3_37 (hS.po (by omega)) (hS.pb (by omega)) rfl ?_
  refine AW.top (hC.pf h8 (p := p) (w := 1) (by omega) (by decide) (by decide) (by decide)) ?_
  refine aw_icmp_eq (tgt := 24) dX3_suits_8 rfl (fun c8 => ?_) (fun c8 => ?_)
  · refine aw_iconst (v := 1) dX3_suits_24 rfl ?_
    refine aw_goto (tgt := 29) dX3_suits_25 rfl ?_
    refine aw_zret q rfl (by decide) dX3_suits_29 ⟨Nat.le_refl _, Nat.le_refl _⟩ ?_
    refine Pst.iv ?_
    simp only [Nat.add_zero] at c8
    rw [fit_bool hR hp hh]
    simp [bI, c8]
  · refine aw_aload_n dX3_suits_11 rfl ?_
    refine aw_getI dX3_suits_12 fX3_32 (hS.ho (by omega)) (hS.hb (by omega)) rfl ?_
    refine AW.top (hC.hf h10 (h := h) (w := 0) (by omega) (by decide)) ?_
    refine aw_aload_n dX3_suits_15 rfl ?_
    refine aw_getI dX3_suits_16 fX3_37 (hS.po (by omega)) (hS.pb (by omega)) rfl ?_
    refine AW.top (hC.pf h8 (p := p) (w := 1) (by omega) (by decide) (by decide) (by decide)) ?_
    refine aw_iconst (v := 1) dX3_suits_19 rfl ?_
    refine aw_iadd dX3_suits_20 ?_
    refine aw_icmp_ne (tgt := 28) dX3_suits_21 rfl (fun c21 => ?_) (fun c21 => ?_)
    · refine aw_iconst (v := 0) dX3_suits_28 rfl ?_
      refine aw_zret q rfl (by decide) dX3_suits_29 ⟨Nat.le_refl _, Nat.le_refl _⟩ ?_
      refine Pst.iv ?_
      simp only [Nat.add_zero] at c8 c21
      rw [fit_bool hR hp hh]
      simp [bI, c8, c21]
    · refine aw_iconst (v := 1) dX3_suits_24 rfl ?_
      refine aw_goto (tgt := 29) dX3_suits_25 rfl ?_
      refine aw_zret q rfl (by decide) dX3_suits_29 ⟨Nat.le_refl _, Nat.le_refl _⟩ ?_
      refine Pst.iv ?_
      simp only [Nat.add_zero] at c8 c21
      rw [fit_bool hR hp hh]
      simp [bI, c8, c21]
set_option maxHeartbeats 4000000 in
set_option maxRecDepth 100000 in
theorem sX3_countBids (hS : IsS n sh b) (hC : CtS I L b N Q) (hN : Cn N) {p : Nat} (hp : p < nPo N)  : CM yX3_countBids cX3_countBids 1 (Option.some .int) 2 0 0 [.ref (b + 13 + 2 * p)] z n sh I L (Pst (some (.int (nI (pcn (nBi N p))))) z n sh I L) := by
  refine CM.go [some (.ref (b + 13 + 2 * p))] rfl rfl (Nat.le_of_ble_eq_true rfl) (fun X g q => ?_)
  have h8 := hN.p8
  have h10 := hN.h10
  refine aw_aload_n dX3_countBids_0 rfl ?_
  refine aw_getI dX3_countBids_1 fX3_40 (hS.po (by omega)) (hS.pb (by omega)) rfl ?_
  refine AW.top (hC.pf h8 (p := p) (w := 10) (by omega) (by decide) (by decide) (by decide)) ?_
  refine aw_cS dX3_countBids_4 kX3_43 mJ6_bitCount_0f7a4 (sJ6_bitCount (hN.bi (by omega)) (hN.bi10 (by omega))) (Nat.le_of_ble_eq_true rfl) rfl rfl (Nat.le_of_ble_eq_true rfl) ⟨Nat.le_refl _, Nat.le_refl _⟩ ?_
  refine aw_iret q rfl dX3_countBids_7 ⟨Nat.le_refl _, Nat.le_refl _⟩ ?_
  exact Pst.rf
set_option maxHeartbeats 4000000 in
set_option maxRecDepth 100000 in
theorem sX3_bidsFor (hS : IsS n sh b) (hC : CtS I L b N Q) (hN : Cn N) {p : Nat} (hp : p < nPo N) {h : Nat} (hh : h < 10)  : CM yX3_bidsFor cX3_bidsFor 2 (Option.some .boolean) 1 0 0 [.ref (b + 13 + 2 * p), .ref (b + 2 + h)] z n sh I L (Pst (some (.int (bI (mBid N p (nI h))))) z n sh I L) := by
  refine CM.go [some (.ref (b + 13 + 2 * p)), some (.ref (b + 2 + h))] rfl rfl (Nat.le_of_ble_eq_true rfl) (fun X g q => ?_)
  have h8 := hN.p8
  have h10 := hN.h10
  refine aw_aload_n dX3_bidsFor_0 rfl ?_
  refine aw_getI dX3_bidsFor_1 fX3_40 (hS.po (by omega)) (hS.pb (by omega)) rfl ?_
  refine AW.top (hC.pf h8 (p := p) (w := 10) (by omega) (by decide) (by decide) (by decide)) ?_
  refine aw_aload_n dX3_bidsFor_4 rfl ?_
  refine aw_getI dX3_bidsFor_5 fX3_49 (hS.ho (by omega)) (hS.hb (by omega)) rfl ?_
  refine AW.top (hC.hi (by omega)) ?_
  have eb := and_bit (nBi N p) (hN.bi10 (by omega)) h hh
  rw [← hN.bi (by omega)] at eb
  refine aw_iand dX3_bidsFor_8 ?_
  refine aw_if_eq (tgt := 16) dX3_bidsFor_9 rfl (fun c9 => ?_) (fun c9 => ?_)
  · refine aw_iconst (v := 0) dX3_bidsFor_16 rfl ?_
    refine aw_zret q rfl (by decide) dX3_bidsFor_17 ⟨Nat.le_refl _, Nat.le_refl _⟩ ?_
    refine Pst.iv ?_
    rw [eb] at c9
    simp [bI, mBid, c9]
  · refine aw_iconst (v := 1) dX3_bidsFor_12 rfl ?_
    refine aw_goto (tgt := 17) dX3_bidsFor_13 rfl ?_
    refine aw_zret q rfl (by decide) dX3_bidsFor_17 ⟨Nat.le_refl _, Nat.le_refl _⟩ ?_
    refine Pst.iv ?_
    rw [eb] at c9
    simp [bI, mBid, c9]
    try exact Classical.byContradiction c9
set_option maxHeartbeats 4000000 in
set_option maxRecDepth 100000 in
theorem sX3_wishAt (hS : IsS n sh b) (hC : CtS I L b N Q) (hN : Cn N) {p : Nat} (hp : p < nPo N) {x : Int32} {k : Nat} (hx : x = nI k) (hk : k < nWi N p)  : CM yX3_wishAt cX3_wishAt 2 (Option.some .int) 1 0 0 [.ref (b + 13 + 2 * p), .int x] z n sh I L (Pst (some (.int (N (80 + 18 * p + (12 + k))))) z n sh I L) := by
  refine CM.go [some (.ref (b + 13 + 2 * p)), some (.int x)] rfl rfl (Nat.le_of_ble_eq_true rfl) (fun X g q => ?_)
  have h8 := hN.p8
  have h10 := hN.h10
  have hw6 := hN.w6 (show p < 8 by omega)
  refine aw_iload_n dX3_wishAt_0 rfl ?_
  refine aw_if_lt (tgt := 18) dX3_wishAt_1 rfl (fun c1 => ?_) (fun c1 => ?_)
  · rw [hx] at c1
    exact absurd c1 (nI_pos (by omega))
  · skip
    refine aw_iload_n dX3_wishAt_4 rfl ?_
    refine aw_aload_n dX3_wishAt_5 rfl ?_
    refine aw_getI dX3_wishAt_6 fX3_50 (hS.po (by omega)) (hS.pb (by omega)) rfl ?_
    refine AW.top ((hC.pf h8 (p := p) (w := 11) (by omega) (by decide) (by decide) (by decide)).trans (hN.w (by omega))) ?_
    refine aw_icmp_ge (tgt := 18) dX3_wishAt_9 rfl (fun c9 => ?_) (fun c9 => ?_)
    · rw [hx] at c9
      exact absurd ((nI_leI (by omega) (by omega)).mp c9) (by omega)
    · skip
      refine aw_iload_n dX3_wishAt_12 rfl ?_
      refine aw_bipush (v := 6) dX3_wishAt_13 rfl ?_
      refine aw_icmp_lt (tgt := 22) dX3_wishAt_15 rfl (fun c15 => ?_) (fun c15 => ?_)
      · skip
        refine aw_aload_n dX3_wishAt_22 rfl ?_
        refine aw_getR (b := b + 14 + 2 * p) dX3_wishAt_23 fX3_18 (hS.po (by omega)) (hS.pb (by omega)) rfl (hS.pw (by omega)) ?_
        refine aw_iload_n dX3_wishAt_26 rfl ?_
        refine aw_ialdN (k := k) dX3_wishAt_27 (hS.wk (by omega)) (hS.wb (by omega)) (hS.wl (by omega)) hx (by omega) (by decide) ?_
        refine AW.top (hC.wf h8 (p := p) (k := k) (by omega) (by omega) (by omega)) ?_
        refine aw_iret q rfl dX3_wishAt_28 ⟨Nat.le_refl _, Nat.le_refl _⟩ ?_
        exact Pst.rf
      · rw [hx] at c15
        exact absurd (nI_lt (b := 6) (by omega) (by decide)) c15
set_option maxHeartbeats 4000000 in
set_option maxRecDepth 100000 in
theorem sX3_wishAtN (hS : IsS n sh b) (hC : CtS I L b N Q) (hN : Cn N) {p : Nat} (hp : p < nPo N) {x : Int32} (hx : mFrom x 0 (nI (nWi N p) - 1) = false)  : CM yX3_wishAt cX3_wishAt 2 (Option.some .int) 1 0 0 [.ref (b + 13 + 2 * p), .int x] z n sh I L (Pst (some (.int (-1))) z n sh I L) := by
  refine CM.go [some (.ref (b + 13 + 2 * p)), some (.int x)] rfl rfl (Nat.le_of_ble_eq_true rfl) (fun X g q => ?_)
  have h8 := hN.p8
  have h10 := hN.h10
  have hw6 := hN.w6 (show p < 8 by omega)
  have hl := from_lt (x := x) (k := nWi N p) (by omega)
  rw [hx] at hl
  simp at hl
  refine aw_iload_n dX3_wishAt_0 rfl ?_
  refine aw_if_lt (tgt := 18) dX3_wishAt_1 rfl (fun c1 => ?_) (fun c1 => ?_)
  · refine aw_iconst (v := (-1)) dX3_wishAt_18 rfl ?_
    refine aw_goto (tgt := 28) dX3_wishAt_19 rfl ?_
    refine aw_iret q rfl dX3_wishAt_28 ⟨Nat.le_refl _, Nat.le_refl _⟩ ?_
    exact Pst.rf
  · refine aw_iload_n dX3_wishAt_4 rfl ?_
    refine aw_aload_n dX3_wishAt_5 rfl ?_
    refine aw_getI dX3_wishAt_6 fX3_50 (hS.po (by omega)) (hS.pb (by omega)) rfl ?_
    refine AW.top ((hC.pf h8 (p := p) (w := 11) (by omega) (by decide) (by decide) (by decide)).trans (hN.w (by omega))) ?_
    refine aw_icmp_ge (tgt := 18) dX3_wishAt_9 rfl (fun c9 => ?_) (fun c9 => ?_)
    · skip
      refine aw_iconst (v := (-1)) dX3_wishAt_18 rfl ?_
      refine aw_goto (tgt := 28) dX3_wishAt_19 rfl ?_
      refine aw_iret q rfl dX3_wishAt_28 ⟨Nat.le_refl _, Nat.le_refl _⟩ ?_
      exact Pst.rf
    · exact absurd (hl (Int32.not_lt.mp c1)) (fun q => c9 q)
set_option maxHeartbeats 4000000 in
set_option maxRecDepth 100000 in
theorem sX3_rankOfWish (hS : IsS n sh b) (hC : CtS I L b N Q) (hN : Cn N) {p : Nat} (hp : p < nPo N) {x : Int32}  : CM yX3_rankOfWish cX3_rankOfWish 3 (Option.some .int) 1 0 0 [.ref (b + 13 + 2 * p), .int x] z n sh I L (Pst (some (.int (mWish N p x))) z n sh I L) := by
  refine CM.go [some (.ref (b + 13 + 2 * p)), some (.int x), none] rfl rfl (Nat.le_of_ble_eq_true rfl) (fun X g q => ?_)
  have h8 := hN.p8
  have h10 := hN.h10
  have hw6 := hN.w6 (show p < 8 by omega)
  have loop : ∀ i, i ≤ nWi N p → fa_first (fun k => decide (N (80 + 18 * p + (12 + k)) = x)) i = i → AW X g RX3 cX3_rankOfWish 3 (1, 0, 0) (z, n, sh, 0, 0) (I) (L) 2 [some (.ref (b + 13 + 2 * p)), some (.int x), some (.int (nI i))] [] := by
    refine up_loop (fun i hi ih hfi => ?_)
    refine aw_iload_n dX3_rankOfWish_2 rfl ?_
    refine aw_aload_n dX3_rankOfWish_3 rfl ?_
    refine aw_getI dX3_rankOfWish_4 fX3_50 (hS.po (by omega)) (hS.pb (by omega)) rfl ?_
    refine AW.top ((hC.pf h8 (p := p) (w := 11) (by omega) (by decide) (by decide) (by decide)).trans (hN.w (by omega))) ?_
    refine aw_icmp_ge (tgt := 34) dX3_rankOfWish_7 rfl (fun c7 => ?_) (fun c7 => ?_)
    · have e := ge_t rfl (by omega) hi c7
      subst e
      refine aw_iconst (v := (-1)) dX3_rankOfWish_34 rfl ?_
      refine aw_iret q rfl dX3_rankOfWish_35 ⟨Nat.le_refl _, Nat.le_refl _⟩ ?_
      refine Pst.iv ?_
      unfold mWish iFirst
      rw [hfi, if_neg (Nat.lt_irrefl _)]
    · have hlt := ge_f rfl (by omega) hi c7
      refine aw_iload_n dX3_rankOfWish_10 rfl ?_
      refine aw_bipush (v := 6) dX3_rankOfWish_11 rfl ?_
      refine aw_icmp_ge (tgt := 34) dX3_rankOfWish_13 rfl (fun c13 => ?_) (fun c13 => ?_)
      · exact absurd ((nI_leI (b := i) (by decide) (by omega)).mp (show nI 6 ≤ nI i from c13)) (by omega)
      · skip
        refine aw_aload_n dX3_rankOfWish_16 rfl ?_
        refine aw_getR (b := b + 14 + 2 * p) dX3_rankOfWish_17 fX3_18 (hS.po (by omega)) (hS.pb (by omega)) rfl (hS.pw (by omega)) ?_
        refine aw_iload_n dX3_rankOfWish_20 rfl ?_
        refine aw_ialdN (k := i) dX3_rankOfWish_21 (hS.wk (by omega)) (hS.wb (by omega)) (hS.wl (by omega)) rfl (by omega) (by decide) ?_
        refine AW.top (hC.wf h8 (p := p) (k := i) (by omega) (by omega) (by omega)) ?_
        refine aw_iload_n dX3_rankOfWish_22 rfl ?_
        refine aw_icmp_ne (tgt := 28) dX3_rankOfWish_23 rfl (fun c23 => ?_) (fun c23 => ?_)
        · refine aw_iinc dX3_rankOfWish_28 rfl (ginc rfl) (by decide) rfl ?_
          refine aw_goto (tgt := 2) dX3_rankOfWish_31 rfl ?_
          exact ih hlt (fa_first_no1 hfi (by simpa using c23))
        · refine aw_iload_n dX3_rankOfWish_26 rfl ?_
          refine aw_iret q rfl dX3_rankOfWish_27 ⟨Nat.le_refl _, Nat.le_refl _⟩ ?_
          refine Pst.iv ?_
          have e9 : fa_first (fun k => decide (N (80 + 18 * p + (12 + k)) = x)) (nWi N p) = i := fa_first_yes1 hfi (by simpa using c23) hlt
          unfold mWish iFirst
          rw [e9, if_pos hlt]
  refine aw_iconst (v := 0) dX3_rankOfWish_0 rfl ?_
  refine aw_istore_n dX3_rankOfWish_1 (by decide) rfl ?_
  exact loop 0 (Nat.zero_le _) rfl
set_option maxHeartbeats 4000000 in
set_option maxRecDepth 100000 in
theorem sX3_wouldTake (hS : IsS n sh b) (hC : CtS I L b N Q) (hN : Cn N) {p : Nat} (hp : p < nPo N) {h : Nat} (hh : h < nHo N)  : CM yX3_wouldTake cX3_wouldTake 2 (Option.some .boolean) 2 0 0 [.ref (b + 13 + 2 * p), .ref (b + 2 + h)] z n sh I L (Pst (some (.int (bI (mTake N p (nI h))))) z n sh I L) := by
  refine CM.go [some (.ref (b + 13 + 2 * p)), some (.ref (b + 2 + h))] rfl rfl (Nat.le_of_ble_eq_true rfl) (fun X g q => ?_)
  have h8 := hN.p8
  have h10 := hN.h10
  refine aw_aload_n dX3_wouldTake_0 rfl ?_
  refine aw_getI dX3_wouldTake_1 fX3_50 (hS.po (by omega)) (hS.pb (by omega)) rfl ?_
  refine AW.top (hC.pf h8 (p := p) (w := 11) (by omega) (by decide) (by decide) (by decide)) ?_
  refine aw_if_eq (tgt := 19) dX3_wouldTake_4 rfl (fun c4 => ?_) (fun c4 => ?_)
  · refine aw_iconst (v := 1) dX3_wouldTake_19 rfl ?_
    refine aw_goto (tgt := 24) dX3_wouldTake_20 rfl ?_
    refine aw_zret q rfl (by decide) dX3_wouldTake_24 ⟨Nat.le_refl _, Nat.le_refl _⟩ ?_
    refine Pst.iv ?_
    simp -failIfUnchanged only [bI0, bI1] at c4
    simp [bI, mTake, c4]
  · refine aw_aload_n dX3_wouldTake_7 rfl ?_
    refine aw_aload_n dX3_wouldTake_8 rfl ?_
    refine aw_getI dX3_wouldTake_9 fX3_53 (hS.ho (by omega)) (hS.hb (by omega)) rfl ?_
    refine AW.top (hC.hn (by omega)) ?_
    refine aw_cV dX3_wouldTake_12 kX3_54 mX3_rankOfWish (sX3_rankOfWish hS hC hN hp) (Nat.le_of_ble_eq_true rfl) (hS.po (by omega)) ⟨by decide, rfl⟩ (hS.pb (by omega)) rfl rfl (Nat.le_of_ble_eq_true rfl) ⟨Nat.le_refl _, Nat.le_refl _⟩ ?_
    refine aw_iconst (v := (-1)) dX3_wouldTake_15 rfl ?_
    refine aw_icmp_eq (tgt := 23) dX3_wouldTake_16 rfl (fun c16 => ?_) (fun c16 => ?_)
    · refine aw_iconst (v := 0) dX3_wouldTake_23 rfl ?_
      refine aw_zret q rfl (by decide) dX3_wouldTake_24 ⟨Nat.le_refl _, Nat.le_refl _⟩ ?_
      refine Pst.iv ?_
      simp -failIfUnchanged only [bI0, bI1] at c4 c16
      simp [bI, mTake, c4, c16]
    · refine aw_iconst (v := 1) dX3_wouldTake_19 rfl ?_
      refine aw_goto (tgt := 24) dX3_wouldTake_20 rfl ?_
      refine aw_zret q rfl (by decide) dX3_wouldTake_24 ⟨Nat.le_refl _, Nat.le_refl _⟩ ?_
      refine Pst.iv ?_
      simp -failIfUnchanged only [bI0, bI1] at c4 c16
      simp [bI, mTake, c4, c16]
set_option maxHeartbeats 4000000 in
set_option maxRecDepth 100000 in
theorem sX3_couldBeGiven (hS : IsS n sh b) (hC : CtS I L b N Q) (hN : Cn N) {p : Nat} (hp : p < nPo N) {h : Nat} (hh : h < nHo N) (hB : BrO N) (hR : Rg N)  : CM yX3_couldBeGiven cX3_couldBeGiven 2 (Option.some .boolean) 3 0 0 [.ref (b + 13 + 2 * p), .ref (b + 2 + h)] z n sh I L (Pst (some (.int (bI (mCould N p h)))) z n sh I L) := by
  refine CM.go [some (.ref (b + 13 + 2 * p)), some (.ref (b + 2 + h))] rfl rfl (Nat.le_of_ble_eq_true rfl) (fun X g q => ?_)
  have h8 := hN.p8
  have h10 := hN.h10
  refine aw_aload_n dX3_couldBeGiven_0 rfl ?_
  refine aw_cV dX3_couldBeGiven_1 kX3_57 mX3_isAble (sX3_isAble hS hC hN hp hB) (Nat.le_of_ble_eq_true rfl) (hS.po (by omega)) ⟨by decide, rfl⟩ (hS.pb (by omega)) rfl rfl (Nat.le_of_ble_eq_true rfl) ⟨Nat.le_refl _, Nat.le_refl _⟩ ?_
  refine aw_if_eq (tgt := 27) dX3_couldBeGiven_4 rfl (fun c4 => ?_) (fun c4 => ?_)
  · refine aw_iconst (v := 0) dX3_couldBeGiven_27 rfl ?_
    refine aw_zret q rfl (by decide) dX3_couldBeGiven_28 ⟨Nat.le_refl _, Nat.le_refl _⟩ ?_
    refine Pst.iv ?_
    simp -failIfUnchanged only [bI0, bI1] at c4
    simp [bI, mCould, c4]
  · refine aw_aload_n dX3_couldBeGiven_7 rfl ?_
    refine aw_aload_n dX3_couldBeGiven_8 rfl ?_
    refine aw_cV dX3_couldBeGiven_9 kX3_61 mX3_suits (sX3_suits hS hC hN hp hh hR) (Nat.le_of_ble_eq_true rfl) (hS.po (by omega)) ⟨by decide, rfl⟩ (hS.pb (by omega)) rfl rfl (Nat.le_of_ble_eq_true rfl) ⟨Nat.le_refl _, Nat.le_refl _⟩ ?_
    refine aw_if_eq (tgt := 27) dX3_couldBeGiven_12 rfl (fun c12 => ?_) (fun c12 => ?_)
    · refine aw_iconst (v := 0) dX3_couldBeGiven_27 rfl ?_
      refine aw_zret q rfl (by decide) dX3_couldBeGiven_28 ⟨Nat.le_refl _, Nat.le_refl _⟩ ?_
      refine Pst.iv ?_
      simp -failIfUnchanged only [bI0, bI1] at c4 c12
      simp [bI, mCould, c4, c12]
    · refine aw_aload_n dX3_couldBeGiven_15 rfl ?_
      refine aw_aload_n dX3_couldBeGiven_16 rfl ?_
      refine aw_cV dX3_couldBeGiven_17 kX3_65 mX3_wouldTake (sX3_wouldTake hS hC hN hp hh) (Nat.le_of_ble_eq_true rfl) (hS.po (by omega)) ⟨by decide, rfl⟩ (hS.pb (by omega)) rfl rfl (Nat.le_of_ble_eq_true rfl) ⟨Nat.le_refl _, Nat.le_refl _⟩ ?_
      refine aw_if_eq (tgt := 27) dX3_couldBeGiven_20 rfl (fun c20 => ?_) (fun c20 => ?_)
      · refine aw_iconst (v := 0) dX3_couldBeGiven_27 rfl ?_
        refine aw_zret q rfl (by decide) dX3_couldBeGiven_28 ⟨Nat.le_refl _, Nat.le_refl _⟩ ?_
        refine Pst.iv ?_
        simp -failIfUnchanged only [bI0, bI1] at c4 c12 c20
        simp [bI, mCould, c4, c12, c20]
      · refine aw_iconst (v := 1) dX3_couldBeGiven_23 rfl ?_
        refine aw_goto (tgt := 28) dX3_couldBeGiven_24 rfl ?_
        refine aw_zret q rfl (by decide) dX3_couldBeGiven_28 ⟨Nat.le_refl _, Nat.le_refl _⟩ ?_
        refine Pst.iv ?_
        simp -failIfUnchanged only [bI0, bI1] at c4 c12 c20
        simp [bI, mCould, c4, c12, c20]
set_option maxHeartbeats 4000000 in
set_option maxRecDepth 100000 in
theorem sX3_wouldRather (hS : IsS n sh b) (hC : CtS I L b N Q) (hN : Cn N) {p : Nat} (hp : p < nPo N) {h : Nat} (hh : h < nHo N) (hR : Rg N)  : CM yX3_wouldRather cX3_wouldRather 4 (Option.some .boolean) 2 0 0 [.ref (b + 13 + 2 * p), .ref (b + 2 + h)] z n sh I L (Pst (some (.int (bI (!decide (N (80 + 18 * p + 4) = -1) && mRather N p (nI h))))) z n sh I L) := by
  refine CM.go [some (.ref (b + 13 + 2 * p)), some (.ref (b + 2 + h)), none, none] rfl rfl (Nat.le_of_ble_eq_true rfl) (fun X g q => ?_)
  have h8 := hN.p8
  have h10 := hN.h10
  have eh := nI_clamp (show h < 2 ^ 31 by omega)
  refine aw_aload_n dX3_wouldRather_0 rfl ?_
  refine aw_aload_n dX3_wouldRather_1 rfl ?_
  refine aw_getI dX3_wouldRather_2 fX3_53 (hS.ho (by omega)) (hS.hb (by omega)) rfl ?_
  refine AW.top (hC.hn (by omega)) ?_
  refine aw_cV dX3_wouldRather_5 kX3_54 mX3_rankOfWish (sX3_rankOfWish hS hC hN hp) (Nat.le_of_ble_eq_true rfl) (hS.po (by omega)) ⟨by decide, rfl⟩ (hS.pb (by omega)) rfl rfl (Nat.le_of_ble_eq_true rfl) ⟨Nat.le_refl _, Nat.le_refl _⟩ ?_
  refine aw_istore_n dX3_wouldRather_8 (by decide) rfl ?_
  refine aw_aload_n dX3_wouldRather_9 rfl ?_
  refine aw_getI dX3_wouldRather_10 fX3_22 (hS.po (by omega)) (hS.pb (by omega)) rfl ?_
  refine AW.top (hC.pf h8 (p := p) (w := 4) (by omega) (by decide) (by decide) (by decide)) ?_
  refine aw_iconst (v := (-1)) dX3_wouldRather_13 rfl ?_
  refine aw_icmp_eq (tgt := 30) dX3_wouldRather_14 rfl (fun c14 => ?_) (fun c14 => ?_)
  · refine aw_iconst (v := 0) dX3_wouldRather_30 rfl ?_
    refine aw_zret q rfl (by decide) dX3_wouldRather_31 ⟨Nat.le_refl _, Nat.le_refl _⟩ ?_
    refine Pst.iv ?_
    simp [bI, mRather, eh, c14]
  · refine aw_iload_n dX3_wouldRather_17 rfl ?_
    refine aw_iconst (v := (-1)) dX3_wouldRather_18 rfl ?_
    refine aw_icmp_eq (tgt := 30) dX3_wouldRather_19 rfl (fun c19 => ?_) (fun c19 => ?_)
    · refine aw_iconst (v := 0) dX3_wouldRather_30 rfl ?_
      refine aw_zret q rfl (by decide) dX3_wouldRather_31 ⟨Nat.le_refl _, Nat.le_refl _⟩ ?_
      refine Pst.iv ?_
      simp [bI, mRather, eh, c14, c19]
    · refine aw_aload_n dX3_wouldRather_22 rfl ?_
      refine aw_aload_n dX3_wouldRather_23 rfl ?_
      refine aw_cV dX3_wouldRather_24 kX3_61 mX3_suits (sX3_suits hS hC hN hp hh hR) (Nat.le_of_ble_eq_true rfl) (hS.po (by omega)) ⟨by decide, rfl⟩ (hS.pb (by omega)) rfl rfl (Nat.le_of_ble_eq_true rfl) ⟨Nat.le_refl _, Nat.le_refl _⟩ ?_
      refine aw_if_ne (tgt := 32) dX3_wouldRather_27 rfl (fun c27 => ?_) (fun c27 => ?_)
      · refine aw_aload_n dX3_wouldRather_32 rfl ?_
        refine aw_aload_n dX3_wouldRather_33 rfl ?_
        refine aw_getI dX3_wouldRather_34 fX3_22 (hS.po (by omega)) (hS.pb (by omega)) rfl ?_
        refine AW.top (hC.pf h8 (p := p) (w := 4) (by omega) (by decide) (by decide) (by decide)) ?_
        refine aw_cV dX3_wouldRather_37 kX3_54 mX3_rankOfWish (sX3_rankOfWish hS hC hN hp) (Nat.le_of_ble_eq_true rfl) (hS.po (by omega)) ⟨by decide, rfl⟩ (hS.pb (by omega)) rfl rfl (Nat.le_of_ble_eq_true rfl) ⟨Nat.le_refl _, Nat.le_refl _⟩ ?_
        refine aw_istore_n dX3_wouldRather_40 (by decide) rfl ?_
        refine aw_iload_n dX3_wouldRather_41 rfl ?_
        refine aw_iconst (v := (-1)) dX3_wouldRather_42 rfl ?_
        refine aw_icmp_eq (tgt := 51) dX3_wouldRather_43 rfl (fun c43 => ?_) (fun c43 => ?_)
        · refine aw_iconst (v := 1) dX3_wouldRather_51 rfl ?_
          refine aw_goto (tgt := 56) dX3_wouldRather_52 rfl ?_
          refine aw_zret q rfl (by decide) dX3_wouldRather_56 ⟨Nat.le_refl _, Nat.le_refl _⟩ ?_
          refine Pst.iv ?_
          simp -failIfUnchanged only [bI0, bI1] at c27
          simp [bI, mRather, eh, c14, c19, c27, c43]
        · refine aw_iload_n dX3_wouldRather_46 rfl ?_
          refine aw_iload_n dX3_wouldRather_47 rfl ?_
          refine aw_icmp_le (tgt := 55) dX3_wouldRather_48 rfl (fun c48 => ?_) (fun c48 => ?_)
          · refine aw_iconst (v := 0) dX3_wouldRather_55 rfl ?_
            refine aw_zret q rfl (by decide) dX3_wouldRather_56 ⟨Nat.le_refl _, Nat.le_refl _⟩ ?_
            refine Pst.iv ?_
            simp -failIfUnchanged only [bI0, bI1] at c27
            rw [← Int32.not_lt] at c48
            simp [bI, mRather, eh, c14, c19, c27, c43, c48]
          · refine aw_iconst (v := 1) dX3_wouldRather_51 rfl ?_
            refine aw_goto (tgt := 56) dX3_wouldRather_52 rfl ?_
            refine aw_zret q rfl (by decide) dX3_wouldRather_56 ⟨Nat.le_refl _, Nat.le_refl _⟩ ?_
            refine Pst.iv ?_
            simp -failIfUnchanged only [bI0, bI1] at c27
            rw [Int32.not_le] at c48
            simp [bI, mRather, eh, c14, c19, c27, c43, c48]
      · refine aw_iconst (v := 0) dX3_wouldRather_30 rfl ?_
        refine aw_zret q rfl (by decide) dX3_wouldRather_31 ⟨Nat.le_refl _, Nat.le_refl _⟩ ?_
        refine Pst.iv ?_
        simp -failIfUnchanged only [bI0, bI1] at c27
        simp [bI, mRather, eh, c14, c19, c27]
end ClsS
