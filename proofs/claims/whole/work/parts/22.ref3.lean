/-! the reference: counting, and what is told -/
section RefS
variable {z n m : Nat} {sh : Shp} {I : MI} {L : ML}
set_option maxHeartbeats 4000000 in
set_option maxRecDepth 100000 in
theorem sX11_freeOnes (hM : IsM n sh m) (hN : Cn (I (m + 1)))  : CM yX11_freeOnes cX11_freeOnes 3 (Option.some .int) 3 0 0 [.ref m] z n sh I L (Pst (some (.int (isum (fun k => bI (mFree (I (m + 1)) k)) (nHo (I (m + 1)))))) z n sh I L) := by
  refine CM.go [some (.ref m), none, none] rfl rfl (Nat.le_of_ble_eq_true rfl) (fun X g q => ?_)
  have loop : ∀ i, i ≤ nHo (I (m + 1)) → ∀ (acc : Int32), acc = isum (fun k => bI (mFree (I (m + 1)) k)) i → AW X g RX11 cX11_freeOnes 3 (3, 0, 0) (z, n, sh, 0, 0) (I) (L) 4 [some (.ref m), some (.int acc), some (.int (nI i))] [] := by
    refine up_loop (fun i hi ih acc ha => ?_)
    have hb10 := hN.h10
    refine aw_iload_n dX11_freeOnes_4 rfl ?_
    refine aw_aload_n dX11_freeOnes_5 rfl ?_
    refine aw_getR (b := m + 1) dX11_freeOnes_6 fX11_7 hM.k hM.b rfl hM.r0 ?_
    refine aw_sipush (v := 230) dX11_freeOnes_9 rfl ?_
    refine aw_ialdN (k := 230) dX11_freeOnes_12 hM.k0 hM.b0 hM.l0 rfl (by decide) (by decide) ?_
    refine aw_icmp_ge (tgt := 38) dX11_freeOnes_13 rfl (fun c13 => ?_) (fun c13 => ?_)
    · have e := ge_t hN.h (by have := hN.h10; omega) hi c13
      refine aw_iload_n dX11_freeOnes_38 rfl ?_
      refine aw_iret q rfl dX11_freeOnes_39 ⟨Nat.le_refl _, Nat.le_refl _⟩ ?_
      exact Pst.iv (by rw [ha, e])
    · have hlt := ge_f hN.h (by have := hN.h10; omega) hi c13
      refine aw_iload_n dX11_freeOnes_16 rfl ?_
      refine aw_aload_n dX11_freeOnes_17 rfl ?_
      refine aw_iload_n dX11_freeOnes_18 rfl ?_
      refine aw_cV dX11_freeOnes_19 kX11_219 mX11_isFree (sX11_isFree (h := i) hM rfl (by omega)) (Nat.le_of_ble_eq_true rfl) hM.k ⟨by decide, rfl⟩ hM.b rfl rfl (Nat.le_of_ble_eq_true rfl) ⟨Nat.le_refl _, Nat.le_refl _⟩ ?_
      refine aw_if_eq (tgt := 29) dX11_freeOnes_22 rfl (fun c22 => ?_) (fun c22 => ?_)
      · refine aw_iconst (v := 0) dX11_freeOnes_29 rfl ?_
        refine aw_iadd dX11_freeOnes_30 ?_
        refine aw_istore_n dX11_freeOnes_31 (by decide) rfl ?_
        refine aw_iinc dX11_freeOnes_32 rfl (ginc rfl) (by decide) rfl ?_
        refine aw_goto (tgt := 4) dX11_freeOnes_35 rfl ?_
        exact ih hlt _ (by rw [isum, ← ha, bI0.mp c22]; rfl)
      · refine aw_iconst (v := 1) dX11_freeOnes_25 rfl ?_
        refine aw_goto (tgt := 30) dX11_freeOnes_26 rfl ?_
        refine aw_iadd dX11_freeOnes_30 ?_
        refine aw_istore_n dX11_freeOnes_31 (by decide) rfl ?_
        refine aw_iinc dX11_freeOnes_32 rfl (ginc rfl) (by decide) rfl ?_
        refine aw_goto (tgt := 4) dX11_freeOnes_35 rfl ?_
        exact ih hlt _ (by rw [isum, ← ha, bI1.mp c22]; rfl)
  refine aw_iconst (v := 0) dX11_freeOnes_0 rfl ?_
  refine aw_istore_n dX11_freeOnes_1 (by decide) rfl ?_
  refine aw_iconst (v := 0) dX11_freeOnes_2 rfl ?_
  refine aw_istore_n dX11_freeOnes_3 (by decide) rfl ?_
  exact loop 0 (Nat.zero_le _) 0 rfl
theorem rX11_freeOnes (hM : IsM n sh m) {N : Nat → Int32} (hI : I (m + 1) = N) (hN : Cn N)  : CM yX11_freeOnes cX11_freeOnes 3 (Option.some .int) 3 0 0 [.ref m] z n sh I L (Pst (some (.int (isum (fun k => bI (mFree (N) k)) (nHo (N))))) z n sh I L) := by
  subst hI
  apply sX11_freeOnes <;> assumption
set_option maxHeartbeats 4000000 in
set_option maxRecDepth 100000 in
theorem sX11_inOnes (hM : IsM n sh m) (hN : Cn (I (m + 1)))  : CM yX11_inOnes cX11_inOnes 3 (Option.some .int) 4 0 0 [.ref m] z n sh I L (Pst (some (.int (isum (fun k => bI (mIn (I (m + 1)) k)) (nPo (I (m + 1)))))) z n sh I L) := by
  refine CM.go [some (.ref m), none, none] rfl rfl (Nat.le_of_ble_eq_true rfl) (fun X g q => ?_)
  have loop : ∀ i, i ≤ nPo (I (m + 1)) → ∀ (acc : Int32), acc = isum (fun k => bI (mIn (I (m + 1)) k)) i → AW X g RX11 cX11_inOnes 3 (4, 0, 0) (z, n, sh, 0, 0) (I) (L) 4 [some (.ref m), some (.int acc), some (.int (nI i))] [] := by
    refine up_loop (fun i hi ih acc ha => ?_)
    have hb10 := hN.p8
    refine aw_iload_n dX11_inOnes_4 rfl ?_
    refine aw_aload_n dX11_inOnes_5 rfl ?_
    refine aw_getR (b := m + 1) dX11_inOnes_6 fX11_7 hM.k hM.b rfl hM.r0 ?_
    refine aw_sipush (v := 231) dX11_inOnes_9 rfl ?_
    refine aw_ialdN (k := 231) dX11_inOnes_12 hM.k0 hM.b0 hM.l0 rfl (by decide) (by decide) ?_
    refine aw_icmp_ge (tgt := 38) dX11_inOnes_13 rfl (fun c13 => ?_) (fun c13 => ?_)
    · have e := ge_t hN.p (by have := hN.p8; omega) hi c13
      refine aw_iload_n dX11_inOnes_38 rfl ?_
      refine aw_iret q rfl dX11_inOnes_39 ⟨Nat.le_refl _, Nat.le_refl _⟩ ?_
      exact Pst.iv (by rw [ha, e])
    · have hlt := ge_f hN.p (by have := hN.p8; omega) hi c13
      refine aw_iload_n dX11_inOnes_16 rfl ?_
      refine aw_aload_n dX11_inOnes_17 rfl ?_
      refine aw_iload_n dX11_inOnes_18 rfl ?_
      refine aw_cV dX11_inOnes_19 kX11_208 mX11_isIn (sX11_isIn (p := i) hM rfl (by omega)) (Nat.le_of_ble_eq_true rfl) hM.k ⟨by decide, rfl⟩ hM.b rfl rfl (Nat.le_of_ble_eq_true rfl) ⟨Nat.le_refl _, Nat.le_refl _⟩ ?_
      refine aw_if_eq (tgt := 29) dX11_inOnes_22 rfl (fun c22 => ?_) (fun c22 => ?_)
      · refine aw_iconst (v := 0) dX11_inOnes_29 rfl ?_
        refine aw_iadd dX11_inOnes_30 ?_
        refine aw_istore_n dX11_inOnes_31 (by decide) rfl ?_
        refine aw_iinc dX11_inOnes_32 rfl (ginc rfl) (by decide) rfl ?_
        refine aw_goto (tgt := 4) dX11_inOnes_35 rfl ?_
        exact ih hlt _ (by rw [isum, ← ha, bI0.mp c22]; rfl)
      · refine aw_iconst (v := 1) dX11_inOnes_25 rfl ?_
        refine aw_goto (tgt := 30) dX11_inOnes_26 rfl ?_
        refine aw_iadd dX11_inOnes_30 ?_
        refine aw_istore_n dX11_inOnes_31 (by decide) rfl ?_
        refine aw_iinc dX11_inOnes_32 rfl (ginc rfl) (by decide) rfl ?_
        refine aw_goto (tgt := 4) dX11_inOnes_35 rfl ?_
        exact ih hlt _ (by rw [isum, ← ha, bI1.mp c22]; rfl)
  refine aw_iconst (v := 0) dX11_inOnes_0 rfl ?_
  refine aw_istore_n dX11_inOnes_1 (by decide) rfl ?_
  refine aw_iconst (v := 0) dX11_inOnes_2 rfl ?_
  refine aw_istore_n dX11_inOnes_3 (by decide) rfl ?_
  exact loop 0 (Nat.zero_le _) 0 rfl
theorem rX11_inOnes (hM : IsM n sh m) {N : Nat → Int32} (hI : I (m + 1) = N) (hN : Cn N)  : CM yX11_inOnes cX11_inOnes 3 (Option.some .int) 4 0 0 [.ref m] z n sh I L (Pst (some (.int (isum (fun k => bI (mIn (N) k)) (nPo (N))))) z n sh I L) := by
  subst hI
  apply sX11_inOnes <;> assumption
theorem pc_step : ∀ v, v < 1024 → ¬ v = 0 → pcn (v &&& (v - 1)) + 1 = pcn v ∧ nI v &&& (nI v - 1) = nI (v &&& (v - 1)) ∧ (v &&& (v - 1)) < 1024 := by decide +kernel
theorem pc_0 : pcn 0 = 0 := by decide
theorem pc_10 : ∀ v, v < 1024 → pcn v ≤ 10 := by decide +kernel
set_option maxHeartbeats 4000000 in
set_option maxRecDepth 100000 in
theorem sX11_bits {x : Int32} {v : Nat} (hx : x = nI v) (hv : v < 1024) : CM yX11_bits cX11_bits 3 (Option.some .int) 1 0 0 [.int x] z n sh I L (Pst (some (.int (nI (pcn v)))) z n sh I L) := by
  refine CM.go [some (.int x), none, none] rfl rfl (Nat.le_of_ble_eq_true rfl) (fun X g q => ?_)
  have loop : ∀ i, i ≤ pcn v → ∀ (u : Nat), u < 1024 → i + pcn u = pcn v → AW X g RX11 cX11_bits 3 (1, 0, 0) (z, n, sh, 0, 0) (I) (L) 4 [some (.int x), some (.int (nI i)), some (.int (nI u))] [] := by
    refine up_loop (fun i hi ih u hu hs => ?_)
    refine aw_iload_n dX11_bits_4 rfl ?_
    refine aw_if_eq (tgt := 20) dX11_bits_5 rfl (fun c5 => ?_) (fun c5 => ?_)
    · have u0 : u = 0 := (nI_eq (by omega) (by decide)).mp c5
      subst u0
      rw [pc_0] at hs
      refine aw_iload_n dX11_bits_20 rfl ?_
      refine aw_iret q rfl dX11_bits_21 ⟨Nat.le_refl _, Nat.le_refl _⟩ ?_
      exact Pst.iv (by rw [← hs]; rfl)
    · obtain ⟨s1, s2, s3⟩ := pc_step u hu (fun e => c5 (by rw [e]; rfl))
      refine aw_iinc dX11_bits_8 rfl (ginc rfl) (by decide) rfl ?_
      refine aw_iload_n dX11_bits_11 rfl ?_
      refine aw_iload_n dX11_bits_12 rfl ?_
      refine aw_iconst (v := 1) dX11_bits_13 rfl ?_
      refine aw_isub dX11_bits_14 ?_
      refine aw_iand dX11_bits_15 ?_
      rw [s2]
      refine aw_istore_n dX11_bits_16 (by decide) rfl ?_
      refine aw_goto (tgt := 4) dX11_bits_17 rfl ?_
      refine ih (by omega) (u &&& (u - 1)) s3 (by omega)
  refine aw_iconst (v := 0) dX11_bits_0 rfl ?_
  refine aw_istore_n dX11_bits_1 (by decide) rfl ?_
  refine aw_iload_n dX11_bits_2 rfl ?_
  refine aw_istore_n dX11_bits_3 (by decide) rfl ?_
  subst hx
  exact loop 0 (Nat.zero_le _) v hv (by omega)
set_option maxHeartbeats 4000000 in
set_option maxRecDepth 100000 in
theorem sX11_allBids (hM : IsM n sh m) (hN : Cn (I (m + 1)))  : CM yX11_allBids cX11_allBids 3 (Option.some .int) 3 0 0 [.ref m] z n sh I L (Pst (some (.int (isum (fun p => nI (pcn (nBi (I (m + 1)) p))) (nPo (I (m + 1)))))) z n sh I L) := by
  refine CM.go [some (.ref m), none, none] rfl rfl (Nat.le_of_ble_eq_true rfl) (fun X g q => ?_)
  have loop : ∀ i, i ≤ nPo (I (m + 1)) → ∀ (acc : Int32), acc = isum (fun p => nI (pcn (nBi (I (m + 1)) p))) i → AW X g RX11 cX11_allBids 3 (3, 0, 0) (z, n, sh, 0, 0) (I) (L) 4 [some (.ref m), some (.int acc), some (.int (nI i))] [] := by
    refine up_loop (fun i hi ih acc ha => ?_)
    have hb8 := hN.p8
    refine aw_iload_n dX11_allBids_4 rfl ?_
    refine aw_aload_n dX11_allBids_5 rfl ?_
    refine aw_getR (b := m + 1) dX11_allBids_6 fX11_7 hM.k hM.b rfl hM.r0 ?_
    refine aw_sipush (v := 231) dX11_allBids_9 rfl ?_
    refine aw_ialdN (k := 231) dX11_allBids_12 hM.k0 hM.b0 hM.l0 rfl (by decide) (by decide) ?_
    refine aw_icmp_ge (tgt := 35) dX11_allBids_13 rfl (fun c13 => ?_) (fun c13 => ?_)
    · have e := ge_t hN.p (by have := hN.p8; omega) hi c13
      refine aw_iload_n dX11_allBids_35 rfl ?_
      refine aw_iret q rfl dX11_allBids_36 ⟨Nat.le_refl _, Nat.le_refl _⟩ ?_
      exact Pst.iv (by rw [ha, e])
    · have hlt := ge_f hN.p (by have := hN.p8; omega) hi c13
      refine aw_iload_n dX11_allBids_16 rfl ?_
      refine aw_aload_n dX11_allBids_17 rfl ?_
      refine aw_iload_n dX11_allBids_18 rfl ?_
      refine aw_bipush (v := 10) dX11_allBids_19 rfl ?_
      refine aw_cV dX11_allBids_21 kX11_205 mX11_of (sX11_of (p := i) (w := 10) hM rfl rfl (by omega)) (Nat.le_of_ble_eq_true rfl) hM.k ⟨by decide, rfl⟩ hM.b rfl rfl (Nat.le_of_ble_eq_true rfl) ⟨Nat.le_refl _, Nat.le_refl _⟩ ?_
      have hbi := hN.bi10 (p := i) (by omega)
      refine aw_cS dX11_allBids_24 kX11_222 mX11_bits (sX11_bits (v := (nBi (I (m + 1)) i)) (hN.bi (by omega)) (by omega)) (Nat.le_of_ble_eq_true rfl) rfl rfl (Nat.le_of_ble_eq_true rfl) ⟨Nat.le_refl _, Nat.le_refl _⟩ ?_
      refine aw_iadd dX11_allBids_27 ?_
      refine aw_istore_n dX11_allBids_28 (by decide) rfl ?_
      refine aw_iinc dX11_allBids_29 rfl (ginc rfl) (by decide) rfl ?_
      refine aw_goto (tgt := 4) dX11_allBids_32 rfl ?_
      exact ih hlt _ (by rw [isum, ← ha])
  refine aw_iconst (v := 0) dX11_allBids_0 rfl ?_
  refine aw_istore_n dX11_allBids_1 (by decide) rfl ?_
  refine aw_iconst (v := 0) dX11_allBids_2 rfl ?_
  refine aw_istore_n dX11_allBids_3 (by decide) rfl ?_
  exact loop 0 (Nat.zero_le _) 0 rfl
theorem rX11_allBids (hM : IsM n sh m) {N : Nat → Int32} (hI : I (m + 1) = N) (hN : Cn N)  : CM yX11_allBids cX11_allBids 3 (Option.some .int) 3 0 0 [.ref m] z n sh I L (Pst (some (.int (isum (fun p => nI (pcn (nBi (N) p))) (nPo (N))))) z n sh I L) := by
  subst hI
  apply sX11_allBids <;> assumption
set_option maxHeartbeats 4000000 in
set_option maxRecDepth 100000 in
theorem sX11_bidders (hM : IsM n sh m) (hN : Cn (I (m + 1))) {x : Int32} : CM yX11_bidders cX11_bidders 4 (Option.some .int) 4 0 0 [.ref m, .int x] z n sh I L (Pst (some (.int (isum (fun p => bI (mBid (I (m + 1)) p x)) (nPo (I (m + 1)))))) z n sh I L) := by
  refine CM.go [some (.ref m), some (.int x), none, none] rfl rfl (Nat.le_of_ble_eq_true rfl) (fun X g q => ?_)
  have loop : ∀ i, i ≤ nPo (I (m + 1)) → ∀ (acc : Int32), acc = isum (fun p => bI (mBid (I (m + 1)) p x)) i → AW X g RX11 cX11_bidders 4 (4, 0, 0) (z, n, sh, 0, 0) (I) (L) 4 [some (.ref m), some (.int x), some (.int acc), some (.int (nI i))] [] := by
    refine up_loop (fun i hi ih acc ha => ?_)
    have hb8 := hN.p8
    refine aw_iload_n dX11_bidders_4 rfl ?_
    refine aw_aload_n dX11_bidders_5 rfl ?_
    refine aw_getR (b := m + 1) dX11_bidders_6 fX11_7 hM.k hM.b rfl hM.r0 ?_
    refine aw_sipush (v := 231) dX11_bidders_9 rfl ?_
    refine aw_ialdN (k := 231) dX11_bidders_12 hM.k0 hM.b0 hM.l0 rfl (by decide) (by decide) ?_
    refine aw_icmp_ge (tgt := 39) dX11_bidders_13 rfl (fun c13 => ?_) (fun c13 => ?_)
    · have e := ge_t hN.p (by have := hN.p8; omega) hi c13
      refine aw_iload_n dX11_bidders_39 rfl ?_
      refine aw_iret q rfl dX11_bidders_40 ⟨Nat.le_refl _, Nat.le_refl _⟩ ?_
      exact Pst.iv (by rw [ha, e])
    · have hlt := ge_f hN.p (by have := hN.p8; omega) hi c13
      refine aw_iload_n dX11_bidders_16 rfl ?_
      refine aw_aload_n dX11_bidders_17 rfl ?_
      refine aw_iload_n dX11_bidders_18 rfl ?_
      refine aw_iload_n dX11_bidders_19 rfl ?_
      refine aw_cV dX11_bidders_20 kX11_234 mX11_isBid (sX11_isBid (p := i) hM rfl (by omega)) (Nat.le_of_ble_eq_true rfl) hM.k ⟨by decide, rfl⟩ hM.b rfl rfl (Nat.le_of_ble_eq_true rfl) ⟨Nat.le_refl _, Nat.le_refl _⟩ ?_
      refine aw_if_eq (tgt := 30) dX11_bidders_23 rfl (fun c23 => ?_) (fun c23 => ?_)
      · refine aw_iconst (v := 0) dX11_bidders_30 rfl ?_
        refine aw_iadd dX11_bidders_31 ?_
        refine aw_istore_n dX11_bidders_32 (by decide) rfl ?_
        refine aw_iinc dX11_bidders_33 rfl (ginc rfl) (by decide) rfl ?_
        refine aw_goto (tgt := 4) dX11_bidders_36 rfl ?_
        exact ih hlt _ (by rw [isum, ← ha, bI0.mp c23]; rfl)
      · refine aw_iconst (v := 1) dX11_bidders_26 rfl ?_
        refine aw_goto (tgt := 31) dX11_bidders_27 rfl ?_
        refine aw_iadd dX11_bidders_31 ?_
        refine aw_istore_n dX11_bidders_32 (by decide) rfl ?_
        refine aw_iinc dX11_bidders_33 rfl (ginc rfl) (by decide) rfl ?_
        refine aw_goto (tgt := 4) dX11_bidders_36 rfl ?_
        exact ih hlt _ (by rw [isum, ← ha, bI1.mp c23]; rfl)
  refine aw_iconst (v := 0) dX11_bidders_0 rfl ?_
  refine aw_istore_n dX11_bidders_1 (by decide) rfl ?_
  refine aw_iconst (v := 0) dX11_bidders_2 rfl ?_
  refine aw_istore_n dX11_bidders_3 (by decide) rfl ?_
  exact loop 0 (Nat.zero_le _) 0 rfl
theorem rX11_bidders (hM : IsM n sh m) {N : Nat → Int32} (hI : I (m + 1) = N) (hN : Cn N) {x : Int32} : CM yX11_bidders cX11_bidders 4 (Option.some .int) 4 0 0 [.ref m, .int x] z n sh I L (Pst (some (.int (isum (fun p => bI (mBid (N) p x)) (nPo (N))))) z n sh I L) := by
  subst hI
  apply sX11_bidders <;> assumption
/-- what is told: an answer and a STATUS -/
abbrev An : Type := Int32 × Int32
def ok (v : Int32) : An := (v, 0)
def no (s : Int32) : An := (-1, s)
def aMany (N : Nat → Int32) (acts x : Int32) : An :=
  if x = 0 then ok (N 230) else if x = 1 then ok (N 231) else if x = 2 then ok (N 232) else if x = 3 then ok (N 233) else if x = 4 then ok (isum (fun p => nI (pcn (nBi N p))) (nPo N)) else if x = 5 then ok (isum (fun k => bI (mFree N k)) (nHo N))
  else if x = 6 then ok (isum (fun k => bI (mIn N k)) (nPo N)) else if x = 7 then ok acts else if x = 8 then ok (N 298) else if x = 9 then ok (N 299) else no 1
/-- the end of a call that only tells -/
def Tl (a : An) (z n : Nat) (sh : Shp) (I : MI) (L : ML) (m : Nat) : PoT := Pst (some (.int a.1)) z n sh (stt I m a.2) L
theorem Tl.ok {v : Int32} {a : An} {z n : Nat} {sh : Shp} {I : MI} {L : ML} {m : Nat} (h : a = ok v) : Tl a z n sh I L m (some (.int v)) z n sh (stt I m 0) L := by subst h; exact Pst.rf
theorem Tl.no {s : Int32} {a : An} {z n : Nat} {sh : Shp} {I : MI} {L : ML} {m : Nat} (h : a = no s) : Tl a z n sh I L m (some (.int (-1))) z n sh (stt I m s) L := by subst h; exact Pst.rf
theorem out_ne {x : Int32} {n : Nat} (h : x.toInt < 0 ∨ (n : Int) ≤ x.toInt) {j : Nat} (hj : j < n) (hn : n < 2 ^ 31) : ¬ x = nI j := by
  intro e
  rw [e, nI_toInt (by omega)] at h
  omega
set_option maxHeartbeats 4000000 in
set_option maxRecDepth 100000 in
theorem sX11_many (hM : IsM n sh m) (hN : Cn (I (m + 1))) {x : Int32} : CM yX11_many cX11_many 2 (Option.some .int) 5 0 0 [.ref m, .int x] z n sh I L (Tl (aMany (I (m + 1)) (I m 12) x) z n sh I L m) := by
  refine CM.go [some (.ref m), some (.int x)] rfl rfl (Nat.le_of_ble_eq_true rfl) (fun X g q => ?_)
  refine aw_iload_n dX11_many_0 rfl ?_
  rcases swx x 10 (by decide) with ⟨j1, hj1, rfl⟩ | ho1
  · match j1, hj1 with
    | 0, _ =>
      refine aw_tableIn (off := 55) (tgt := 56) dX11_many_1 (by decide) (by decide) (by decide) rfl ?_
      refine aw_aload_n dX11_many_56 rfl ?_
      refine aw_aload_n dX11_many_57 rfl ?_
      refine aw_getR (b := m + 1) dX11_many_58 fX11_7 hM.k hM.b rfl hM.r0 ?_
      refine aw_sipush (v := 230) dX11_many_61 rfl ?_
      refine aw_ialdN (k := 230) dX11_many_64 hM.k0 hM.b0 hM.l0 rfl (by decide) (by decide) ?_
      refine aw_cV dX11_many_65 kX11_199 mX11_gives (sX11_gives hM) (Nat.le_of_ble_eq_true rfl) hM.k ⟨by decide, rfl⟩ hM.b rfl rfl (Nat.le_of_ble_eq_true rfl) ⟨Nat.le_refl _, Nat.le_refl _⟩ ?_
      refine aw_iret q rfl dX11_many_68 ⟨Nat.le_refl _, Nat.le_refl _⟩ ?_
      exact Tl.ok rfl
    | 1, _ =>
      refine aw_tableIn (off := 68) (tgt := 69) dX11_many_1 (by decide) (by decide) (by decide) rfl ?_
      refine aw_aload_n dX11_many_69 rfl ?_
      refine aw_aload_n dX11_many_70 rfl ?_
      refine aw_getR (b := m + 1) dX11_many_71 fX11_7 hM.k hM.b rfl hM.r0 ?_
      refine aw_sipush (v := 231) dX11_many_74 rfl ?_
      refine aw_ialdN (k := 231) dX11_many_77 hM.k0 hM.b0 hM.l0 rfl (by decide) (by decide) ?_
      refine aw_cV dX11_many_78 kX11_199 mX11_gives (sX11_gives hM) (Nat.le_of_ble_eq_true rfl) hM.k ⟨by decide, rfl⟩ hM.b rfl rfl (Nat.le_of_ble_eq_true rfl) ⟨Nat.le_refl _, Nat.le_refl _⟩ ?_
      refine aw_iret q rfl dX11_many_81 ⟨Nat.le_refl _, Nat.le_refl _⟩ ?_
      exact Tl.ok rfl
    | 2, _ =>
      refine aw_tableIn (off := 81) (tgt := 82) dX11_many_1 (by decide) (by decide) (by decide) rfl ?_
      refine aw_aload_n dX11_many_82 rfl ?_
      refine aw_aload_n dX11_many_83 rfl ?_
      refine aw_getR (b := m + 1) dX11_many_84 fX11_7 hM.k hM.b rfl hM.r0 ?_
      refine aw_sipush (v := 232) dX11_many_87 rfl ?_
      refine aw_ialdN (k := 232) dX11_many_90 hM.k0 hM.b0 hM.l0 rfl (by decide) (by decide) ?_
      refine aw_cV dX11_many_91 kX11_199 mX11_gives (sX11_gives hM) (Nat.le_of_ble_eq_true rfl) hM.k ⟨by decide, rfl⟩ hM.b rfl rfl (Nat.le_of_ble_eq_true rfl) ⟨Nat.le_refl _, Nat.le_refl _⟩ ?_
      refine aw_iret q rfl dX11_many_94 ⟨Nat.le_refl _, Nat.le_refl _⟩ ?_
      exact Tl.ok rfl
    | 3, _ =>
      refine aw_tableIn (off := 94) (tgt := 95) dX11_many_1 (by decide) (by decide) (by decide) rfl ?_
      refine aw_aload_n dX11_many_95 rfl ?_
      refine aw_aload_n dX11_many_96 rfl ?_
      refine aw_getR (b := m + 1) dX11_many_97 fX11_7 hM.k hM.b rfl hM.r0 ?_
      refine aw_sipush (v := 233) dX11_many_100 rfl ?_
      refine aw_ialdN (k := 233) dX11_many_103 hM.k0 hM.b0 hM.l0 rfl (by decide) (by decide) ?_
      refine aw_cV dX11_many_104 kX11_199 mX11_gives (sX11_gives hM) (Nat.le_of_ble_eq_true rfl) hM.k ⟨by decide, rfl⟩ hM.b rfl rfl (Nat.le_of_ble_eq_true rfl) ⟨Nat.le_refl _, Nat.le_refl _⟩ ?_
      refine aw_iret q rfl dX11_many_107 ⟨Nat.le_refl _, Nat.le_refl _⟩ ?_
      exact Tl.ok rfl
    | 4, _ =>
      refine aw_tableIn (off := 107) (tgt := 108) dX11_many_1 (by decide) (by decide) (by decide) rfl ?_
      refine aw_aload_n dX11_many_108 rfl ?_
      refine aw_aload_n dX11_many_109 rfl ?_
      refine aw_cV dX11_many_110 kX11_225 mX11_allBids (sX11_allBids hM hN) (Nat.le_of_ble_eq_true rfl) hM.k ⟨by decide, rfl⟩ hM.b rfl rfl (Nat.le_of_ble_eq_true rfl) ⟨Nat.le_refl _, Nat.le_refl _⟩ ?_
      refine aw_cV dX11_many_113 kX11_199 mX11_gives (sX11_gives hM) (Nat.le_of_ble_eq_true rfl) hM.k ⟨by decide, rfl⟩ hM.b rfl rfl (Nat.le_of_ble_eq_true rfl) ⟨Nat.le_refl _, Nat.le_refl _⟩ ?_
      refine aw_iret q rfl dX11_many_116 ⟨Nat.le_refl _, Nat.le_refl _⟩ ?_
      exact Tl.ok rfl
    | 5, _ =>
      refine aw_tableIn (off := 116) (tgt := 117) dX11_many_1 (by decide) (by decide) (by decide) rfl ?_
      refine aw_aload_n dX11_many_117 rfl ?_
      refine aw_aload_n dX11_many_118 rfl ?_
      refine aw_cV dX11_many_119 kX11_228 mX11_freeOnes (sX11_freeOnes hM hN) (Nat.le_of_ble_eq_true rfl) hM.k ⟨by decide, rfl⟩ hM.b rfl rfl (Nat.le_of_ble_eq_true rfl) ⟨Nat.le_refl _, Nat.le_refl _⟩ ?_
      refine aw_cV dX11_many_122 kX11_199 mX11_gives (sX11_gives hM) (Nat.le_of_ble_eq_true rfl) hM.k ⟨by decide, rfl⟩ hM.b rfl rfl (Nat.le_of_ble_eq_true rfl) ⟨Nat.le_refl _, Nat.le_refl _⟩ ?_
      refine aw_iret q rfl dX11_many_125 ⟨Nat.le_refl _, Nat.le_refl _⟩ ?_
      exact Tl.ok rfl
    | 6, _ =>
      refine aw_tableIn (off := 125) (tgt := 126) dX11_many_1 (by decide) (by decide) (by decide) rfl ?_
      refine aw_aload_n dX11_many_126 rfl ?_
      refine aw_aload_n dX11_many_127 rfl ?_
      refine aw_cV dX11_many_128 kX11_231 mX11_inOnes (sX11_inOnes hM hN) (Nat.le_of_ble_eq_true rfl) hM.k ⟨by decide, rfl⟩ hM.b rfl rfl (Nat.le_of_ble_eq_true rfl) ⟨Nat.le_refl _, Nat.le_refl _⟩ ?_
      refine aw_cV dX11_many_131 kX11_199 mX11_gives (sX11_gives hM) (Nat.le_of_ble_eq_true rfl) hM.k ⟨by decide, rfl⟩ hM.b rfl rfl (Nat.le_of_ble_eq_true rfl) ⟨Nat.le_refl _, Nat.le_refl _⟩ ?_
      refine aw_iret q rfl dX11_many_134 ⟨Nat.le_refl _, Nat.le_refl _⟩ ?_
      exact Tl.ok rfl
    | 7, _ =>
      refine aw_tableIn (off := 134) (tgt := 135) dX11_many_1 (by decide) (by decide) (by decide) rfl ?_
      refine aw_aload_n dX11_many_135 rfl ?_
      refine aw_aload_n dX11_many_136 rfl ?_
      refine aw_getI dX11_many_137 fX11_196 hM.k hM.b rfl ?_
      refine aw_cV dX11_many_140 kX11_199 mX11_gives (sX11_gives hM) (Nat.le_of_ble_eq_true rfl) hM.k ⟨by decide, rfl⟩ hM.b rfl rfl (Nat.le_of_ble_eq_true rfl) ⟨Nat.le_refl _, Nat.le_refl _⟩ ?_
      refine aw_iret q rfl dX11_many_143 ⟨Nat.le_refl _, Nat.le_refl _⟩ ?_
      exact Tl.ok rfl
    | 8, _ =>
      refine aw_tableIn (off := 143) (tgt := 144) dX11_many_1 (by decide) (by decide) (by decide) rfl ?_
      refine aw_aload_n dX11_many_144 rfl ?_
      refine aw_aload_n dX11_many_145 rfl ?_
      refine aw_getR (b := m + 1) dX11_many_146 fX11_7 hM.k hM.b rfl hM.r0 ?_
      refine aw_sipush (v := 298) dX11_many_149 rfl ?_
      refine aw_ialdN (k := 298) dX11_many_152 hM.k0 hM.b0 hM.l0 rfl (by decide) (by decide) ?_
      refine aw_cV dX11_many_153 kX11_199 mX11_gives (sX11_gives hM) (Nat.le_of_ble_eq_true rfl) hM.k ⟨by decide, rfl⟩ hM.b rfl rfl (Nat.le_of_ble_eq_true rfl) ⟨Nat.le_refl _, Nat.le_refl _⟩ ?_
      refine aw_iret q rfl dX11_many_156 ⟨Nat.le_refl _, Nat.le_refl _⟩ ?_
      exact Tl.ok rfl
    | 9, _ =>
      refine aw_tableIn (off := 156) (tgt := 157) dX11_many_1 (by decide) (by decide) (by decide) rfl ?_
      refine aw_aload_n dX11_many_157 rfl ?_
      refine aw_aload_n dX11_many_158 rfl ?_
      refine aw_getR (b := m + 1) dX11_many_159 fX11_7 hM.k hM.b rfl hM.r0 ?_
      refine aw_sipush (v := 299) dX11_many_162 rfl ?_
      refine aw_ialdN (k := 299) dX11_many_165 hM.k0 hM.b0 hM.l0 rfl (by decide) (by decide) ?_
      refine aw_cV dX11_many_166 kX11_199 mX11_gives (sX11_gives hM) (Nat.le_of_ble_eq_true rfl) hM.k ⟨by decide, rfl⟩ hM.b rfl rfl (Nat.le_of_ble_eq_true rfl) ⟨Nat.le_refl _, Nat.le_refl _⟩ ?_
      refine aw_iret q rfl dX11_many_169 ⟨Nat.le_refl _, Nat.le_refl _⟩ ?_
      exact Tl.ok rfl
  · refine aw_tableOut (tgt := 170) dX11_many_1 (by omega) rfl ?_
    refine aw_aload_n dX11_many_170 rfl ?_
    refine aw_iconst (v := 1) dX11_many_171 rfl ?_
    refine aw_cV dX11_many_172 kX11_186 mX11_refuse (sX11_refuse hM) (Nat.le_of_ble_eq_true rfl) hM.k ⟨by decide, rfl⟩ hM.b rfl rfl (Nat.le_of_ble_eq_true rfl) ⟨Nat.le_refl _, Nat.le_refl _⟩ ?_
    refine aw_iret q rfl dX11_many_175 ⟨Nat.le_refl _, Nat.le_refl _⟩ ?_
    have e0 : ¬ x = (0 : Int32) := out_ne ho1 (j := 0) (by decide) (by decide)
    have e1 : ¬ x = (1 : Int32) := out_ne ho1 (j := 1) (by decide) (by decide)
    have e2 : ¬ x = (2 : Int32) := out_ne ho1 (j := 2) (by decide) (by decide)
    have e3 : ¬ x = (3 : Int32) := out_ne ho1 (j := 3) (by decide) (by decide)
    have e4 : ¬ x = (4 : Int32) := out_ne ho1 (j := 4) (by decide) (by decide)
    have e5 : ¬ x = (5 : Int32) := out_ne ho1 (j := 5) (by decide) (by decide)
    have e6 : ¬ x = (6 : Int32) := out_ne ho1 (j := 6) (by decide) (by decide)
    have e7 : ¬ x = (7 : Int32) := out_ne ho1 (j := 7) (by decide) (by decide)
    have e8 : ¬ x = (8 : Int32) := out_ne ho1 (j := 8) (by decide) (by decide)
    have e9 : ¬ x = (9 : Int32) := out_ne ho1 (j := 9) (by decide) (by decide)
    refine Tl.no ?_
    simp [aMany, e0, e1, e2, e3, e4, e5, e6, e7, e8, e9]
theorem rX11_many (hM : IsM n sh m) {N : Nat → Int32} (hI : I (m + 1) = N) (hN : Cn N) {x : Int32} : CM yX11_many cX11_many 2 (Option.some .int) 5 0 0 [.ref m, .int x] z n sh I L (Tl (aMany (N) (I m 12) x) z n sh I L m) := by
  subst hI
  apply sX11_many <;> assumption
end RefS
