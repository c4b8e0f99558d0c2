/-! the reference: top, fits, wards, envy -/
section RefS
variable {z n m : Nat} {sh : Shp} {I : MI} {L : ML}
theorem rX11_wishOf (hM : IsM n sh m) {N : Nat → Int32} (hI : I (m + 1) = N) {x y : Int32} {p : Nat} (hx : x = nI p) (hb : p < 8) (hw : N (80 + 18 * p + 11) = nI (nWi N p)) (hw6 : nWi N p ≤ 6) : CM yX11_wishOf cX11_wishOf 4 (Option.some .int) 3 0 0 [.ref m, .int x, .int y] z n sh I L (Pst (some (.int (mWish N p y))) z n sh I L) := by
  subst hI
  exact sX11_wishOf hM hx hb hw hw6
set_option maxHeartbeats 4000000 in
set_option maxRecDepth 100000 in
theorem rX11_couldHave (hM : IsM n sh m) {N : Nat → Int32} (hI : I (m + 1) = N) (hN : Cn N) {x y : Int32} {p h : Nat} (hx : x = nI p) (hy : y = nI h) (hp : p < 8) (hh : h < 10) : CM yX11_couldHave cX11_couldHave 3 (Option.some .boolean) 5 0 0 [.ref m, .int x, .int y] z n sh I L (Pst (some (.int (bI (mCould N p h)))) z n sh I L) := by
  refine CM.go [some (.ref m), some (.int x), some (.int y)] rfl rfl (Nat.le_of_ble_eq_true rfl) (fun X g q => ?_)
  refine aw_aload_n dX11_couldHave_0 rfl ?_
  refine aw_iload_n dX11_couldHave_1 rfl ?_
  refine aw_cV dX11_couldHave_2 kX11_283 mX11_mayHope (rX11_mayHope (p := p) hM hI hx (by omega)) (Nat.le_of_ble_eq_true rfl) hM.k ⟨by decide, rfl⟩ hM.b rfl rfl (Nat.le_of_ble_eq_true rfl) ⟨Nat.le_refl _, Nat.le_refl _⟩ ?_
  refine aw_if_eq (tgt := 30) dX11_couldHave_5 rfl (fun c5 => ?_) (fun c5 => ?_)
  · refine aw_iconst (v := 0) dX11_couldHave_30 rfl ?_
    refine aw_zret q rfl (by decide) dX11_couldHave_31 ⟨Nat.le_refl _, Nat.le_refl _⟩ ?_
    refine Pst.iv ?_
    simp -failIfUnchanged only [bI0, bI1] at c5
    simp [bI, mCould, c5]
  · refine aw_aload_n dX11_couldHave_8 rfl ?_
    refine aw_iload_n dX11_couldHave_9 rfl ?_
    refine aw_iload_n dX11_couldHave_10 rfl ?_
    refine aw_cV dX11_couldHave_11 kX11_250 mX11_doesFit (rX11_doesFit (p := p) (h := h) hM hI hx hy (by omega) (by omega)) (Nat.le_of_ble_eq_true rfl) hM.k ⟨by decide, rfl⟩ hM.b rfl rfl (Nat.le_of_ble_eq_true rfl) ⟨Nat.le_refl _, Nat.le_refl _⟩ ?_
    refine aw_if_eq (tgt := 30) dX11_couldHave_14 rfl (fun c14 => ?_) (fun c14 => ?_)
    · refine aw_iconst (v := 0) dX11_couldHave_30 rfl ?_
      refine aw_zret q rfl (by decide) dX11_couldHave_31 ⟨Nat.le_refl _, Nat.le_refl _⟩ ?_
      refine Pst.iv ?_
      simp -failIfUnchanged only [bI0, bI1] at c5 c14
      simp [bI, mCould, c5, c14]
    · refine aw_aload_n dX11_couldHave_17 rfl ?_
      refine aw_iload_n dX11_couldHave_18 rfl ?_
      refine aw_iload_n dX11_couldHave_19 rfl ?_
      refine aw_cV dX11_couldHave_20 kX11_300 mX11_wouldTake (rX11_wouldTake (p := p) hM hI hx (by omega) ((hN).w (by omega)) ((hN).w6 (by omega))) (Nat.le_of_ble_eq_true rfl) hM.k ⟨by decide, rfl⟩ hM.b rfl rfl (Nat.le_of_ble_eq_true rfl) ⟨Nat.le_refl _, Nat.le_refl _⟩ ?_
      rw [hy]
      refine aw_if_eq (tgt := 30) dX11_couldHave_23 rfl (fun c23 => ?_) (fun c23 => ?_)
      · refine aw_iconst (v := 0) dX11_couldHave_30 rfl ?_
        refine aw_zret q rfl (by decide) dX11_couldHave_31 ⟨Nat.le_refl _, Nat.le_refl _⟩ ?_
        refine Pst.iv ?_
        simp -failIfUnchanged only [bI0, bI1] at c5 c14 c23
        simp [bI, mCould, c5, c14, c23]
      · refine aw_iconst (v := 1) dX11_couldHave_26 rfl ?_
        refine aw_goto (tgt := 31) dX11_couldHave_27 rfl ?_
        refine aw_zret q rfl (by decide) dX11_couldHave_31 ⟨Nat.le_refl _, Nat.le_refl _⟩ ?_
        refine Pst.iv ?_
        simp -failIfUnchanged only [bI0, bI1] at c5 c14 c23
        simp [bI, mCould, c5, c14, c23]
set_option maxHeartbeats 4000000 in
set_option maxRecDepth 100000 in
theorem rX11_canGive (hM : IsM n sh m) {N : Nat → Int32} (hI : I (m + 1) = N) (hN : Cn N) {x y : Int32} {p h : Nat} (hx : x = nI p) (hy : y = nI h) (hp : p < 8) (hh : h < 10) : CM yX11_canGive cX11_canGive 3 (Option.some .boolean) 6 0 0 [.ref m, .int x, .int y] z n sh I L (Pst (some (.int (bI (mCan N p h)))) z n sh I L) := by
  refine CM.go [some (.ref m), some (.int x), some (.int y)] rfl rfl (Nat.le_of_ble_eq_true rfl) (fun X g q => ?_)
  refine aw_aload_n dX11_canGive_0 rfl ?_
  refine aw_iload_n dX11_canGive_1 rfl ?_
  refine aw_cV dX11_canGive_2 kX11_219 mX11_isFree (rX11_isFree (h := h) hM hI hy (by omega)) (Nat.le_of_ble_eq_true rfl) hM.k ⟨by decide, rfl⟩ hM.b rfl rfl (Nat.le_of_ble_eq_true rfl) ⟨Nat.le_refl _, Nat.le_refl _⟩ ?_
  refine aw_if_eq (tgt := 21) dX11_canGive_5 rfl (fun c5 => ?_) (fun c5 => ?_)
  · refine aw_iconst (v := 0) dX11_canGive_21 rfl ?_
    refine aw_zret q rfl (by decide) dX11_canGive_22 ⟨Nat.le_refl _, Nat.le_refl _⟩ ?_
    refine Pst.iv ?_
    simp -failIfUnchanged only [bI0, bI1] at c5
    simp [bI, mCan, c5]
  · refine aw_aload_n dX11_canGive_8 rfl ?_
    refine aw_iload_n dX11_canGive_9 rfl ?_
    refine aw_iload_n dX11_canGive_10 rfl ?_
    refine aw_cV dX11_canGive_11 kX11_337 mX11_couldHave (rX11_couldHave (p := p) (h := h) hM hI hN hx hy (by omega) (by omega)) (Nat.le_of_ble_eq_true rfl) hM.k ⟨by decide, rfl⟩ hM.b rfl rfl (Nat.le_of_ble_eq_true rfl) ⟨Nat.le_refl _, Nat.le_refl _⟩ ?_
    refine aw_if_eq (tgt := 21) dX11_canGive_14 rfl (fun c14 => ?_) (fun c14 => ?_)
    · refine aw_iconst (v := 0) dX11_canGive_21 rfl ?_
      refine aw_zret q rfl (by decide) dX11_canGive_22 ⟨Nat.le_refl _, Nat.le_refl _⟩ ?_
      refine Pst.iv ?_
      simp -failIfUnchanged only [bI0, bI1] at c5 c14
      simp [bI, mCan, c5, c14]
    · refine aw_iconst (v := 1) dX11_canGive_17 rfl ?_
      refine aw_goto (tgt := 22) dX11_canGive_18 rfl ?_
      refine aw_zret q rfl (by decide) dX11_canGive_22 ⟨Nat.le_refl _, Nat.le_refl _⟩ ?_
      refine Pst.iv ?_
      simp -failIfUnchanged only [bI0, bI1] at c5 c14
      simp [bI, mCan, c5, c14]
set_option maxHeartbeats 4000000 in
set_option maxRecDepth 100000 in
theorem rX11_allThatCould (hM : IsM n sh m) {N : Nat → Int32} (hI : I (m + 1) = N) (hN : Cn N) {x : Int32} {h : Nat} (hx : x = nI h) (hh : h < 10) : CM yX11_allThatCould cX11_allThatCould 4 (Option.some .int) 6 0 0 [.ref m, .int x] z n sh I L (Pst (some (.int (mAllC N h))) z n sh I L) := by
  refine CM.go [some (.ref m), some (.int x), none, none] rfl rfl (Nat.le_of_ble_eq_true rfl) (fun X g q => ?_)
  have loop : ∀ i, i ≤ nPo N → ∀ acc : Int32, acc = iset (fun p => mCould N p h) i → AW X g RX11 cX11_allThatCould 4 (6, 0, 0) (z, n, sh, 0, 0) (I) (L) 4 [some (.ref m), some (.int x), some (.int acc), some (.int (nI i))] [] := by
    refine up_loop (fun i hi ih acc ha => ?_)
    have h8 := hN.p8
    refine aw_iload_n dX11_allThatCould_4 rfl ?_
    refine aw_aload_n dX11_allThatCould_5 rfl ?_
    refine aw_getR (b := m + 1) dX11_allThatCould_6 fX11_7 hM.k hM.b rfl hM.r0 ?_
    refine aw_sipush (v := 231) dX11_allThatCould_9 rfl ?_
    refine aw_ialdH (k := 231) hI dX11_allThatCould_12 hM.k0 hM.b0 hM.l0 rfl (by decide) (by decide) ?_
    refine aw_icmp_ge (tgt := 41) dX11_allThatCould_13 rfl (fun c13 => ?_) (fun c13 => ?_)
    · have e := ge_t hN.p (by have := hN.p8; omega) hi c13
      refine aw_iload_n dX11_allThatCould_41 rfl ?_
      refine aw_iret q rfl dX11_allThatCould_42 ⟨Nat.le_refl _, Nat.le_refl _⟩ ?_
      exact Pst.iv (by rw [ha, e]; rfl)
    · have hlt := ge_f hN.p (by have := hN.p8; omega) hi c13
      refine aw_iload_n dX11_allThatCould_16 rfl ?_
      refine aw_aload_n dX11_allThatCould_17 rfl ?_
      refine aw_iload_n dX11_allThatCould_18 rfl ?_
      refine aw_iload_n dX11_allThatCould_19 rfl ?_
      refine aw_cV dX11_allThatCould_20 kX11_337 mX11_couldHave (rX11_couldHave (p := i) (h := h) hM hI hN rfl hx (by omega) (by omega)) (Nat.le_of_ble_eq_true rfl) hM.k ⟨by decide, rfl⟩ hM.b rfl rfl (Nat.le_of_ble_eq_true rfl) ⟨Nat.le_refl _, Nat.le_refl _⟩ ?_
      refine aw_if_eq (tgt := 32) dX11_allThatCould_23 rfl (fun c23 => ?_) (fun c23 => ?_)
      · refine aw_iconst (v := 0) dX11_allThatCould_32 rfl ?_
        refine aw_ior dX11_allThatCould_33 ?_
        refine aw_istore_n dX11_allThatCould_34 (by decide) rfl ?_
        refine aw_iinc dX11_allThatCould_35 rfl (ginc rfl) (by decide) rfl ?_
        refine aw_goto (tgt := 4) dX11_allThatCould_38 rfl ?_
        refine ih hlt _ ?_
        rw [iset, ← ha]
        simp [bI0.mp c23]
      · refine aw_iconst (v := 1) dX11_allThatCould_26 rfl ?_
        refine aw_iload_n dX11_allThatCould_27 rfl ?_
        refine aw_ishl dX11_allThatCould_28 ?_
        refine aw_goto (tgt := 33) dX11_allThatCould_29 rfl ?_
        refine aw_ior dX11_allThatCould_33 ?_
        refine aw_istore_n dX11_allThatCould_34 (by decide) rfl ?_
        refine aw_iinc dX11_allThatCould_35 rfl (ginc rfl) (by decide) rfl ?_
        refine aw_goto (tgt := 4) dX11_allThatCould_38 rfl ?_
        refine ih hlt _ ?_
        rw [iset, ← ha]
        simp [bI1.mp c23]
  refine aw_iconst (v := 0) dX11_allThatCould_0 rfl ?_
  refine aw_istore_n dX11_allThatCould_1 (by decide) rfl ?_
  refine aw_iconst (v := 0) dX11_allThatCould_2 rfl ?_
  refine aw_istore_n dX11_allThatCould_3 (by decide) rfl ?_
  exact loop 0 (Nat.zero_le _) 0 rfl
set_option maxHeartbeats 4000000 in
set_option maxRecDepth 100000 in
theorem rX11_top (hM : IsM n sh m) {N : Nat → Int32} (hI : I (m + 1) = N) (hN : Cn N) {x : Int32} : CM yX11_top cX11_top 3 (Option.some .int) 7 0 0 [.ref m, .int x] z n sh I L (Tl (aTop N x) z n sh I L m) := by
  refine CM.go [some (.ref m), some (.int x), none] rfl rfl (Nat.le_of_ble_eq_true rfl) (fun X g q => ?_)
  refine aw_aload_n dX11_top_0 rfl ?_
  refine aw_iload_n dX11_top_1 rfl ?_
  refine aw_cV dX11_top_2 kX11_238 mX11_isHome (rX11_isHome hM hI) (Nat.le_of_ble_eq_true rfl) hM.k ⟨by decide, rfl⟩ hM.b rfl rfl (Nat.le_of_ble_eq_true rfl) ⟨Nat.le_refl _, Nat.le_refl _⟩ ?_
  refine aw_if_ne (tgt := 14) dX11_top_5 rfl (fun c5 => ?_) (fun c5 => ?_)
  · have f5 := bI1.mp c5
    obtain ⟨h, hhn, rfl⟩ := from_ix hN.h (by have := hN.h10; omega) f5
    have hh10 : h < 10 := by have := hN.h10; omega
    have eh := nI_clamp (show h < 2 ^ 31 by omega)
    refine aw_aload_n dX11_top_14 rfl ?_
    refine aw_aload_n dX11_top_15 rfl ?_
    refine aw_iload_n dX11_top_16 rfl ?_
    refine aw_cV dX11_top_17 kX11_349 mX11_allThatCould (rX11_allThatCould (h := h) hM hI hN rfl hh10) (Nat.le_of_ble_eq_true rfl) hM.k ⟨by decide, rfl⟩ hM.b rfl rfl (Nat.le_of_ble_eq_true rfl) ⟨Nat.le_refl _, Nat.le_refl _⟩ ?_
    refine aw_iload_n dX11_top_20 rfl ?_
    refine aw_cV dX11_top_21 kX11_280 mX11_firstOf (rX11_firstOf (h := h) hM hI hN rfl hh10) (Nat.le_of_ble_eq_true rfl) hM.k ⟨by decide, rfl⟩ hM.b rfl rfl (Nat.le_of_ble_eq_true rfl) ⟨Nat.le_refl _, Nat.le_refl _⟩ ?_
    refine aw_istore_n dX11_top_24 (by decide) rfl ?_
    refine aw_iload_n dX11_top_25 rfl ?_
    refine aw_iconst (v := (-1)) dX11_top_26 rfl ?_
    refine aw_icmp_ne (tgt := 38) dX11_top_27 rfl (fun c27 => ?_) (fun c27 => ?_)
    · refine aw_aload_n dX11_top_38 rfl ?_
      refine aw_iload_n dX11_top_39 rfl ?_
      refine aw_cV dX11_top_40 kX11_199 mX11_gives (sX11_gives hM) (Nat.le_of_ble_eq_true rfl) hM.k ⟨by decide, rfl⟩ hM.b rfl rfl (Nat.le_of_ble_eq_true rfl) ⟨Nat.le_refl _, Nat.le_refl _⟩ ?_
      refine aw_iret q rfl dX11_top_43 ⟨Nat.le_refl _, Nat.le_refl _⟩ ?_
      refine Tl.ok ?_
      simp [aTop, f5, eh, c27]
    · refine aw_aload_n dX11_top_30 rfl ?_
      refine aw_iconst (v := 5) dX11_top_31 rfl ?_
      refine aw_cV dX11_top_32 kX11_186 mX11_refuse (sX11_refuse hM) (Nat.le_of_ble_eq_true rfl) hM.k ⟨by decide, rfl⟩ hM.b rfl rfl (Nat.le_of_ble_eq_true rfl) ⟨Nat.le_refl _, Nat.le_refl _⟩ ?_
      refine aw_goto (tgt := 43) dX11_top_35 rfl ?_
      refine aw_iret q rfl dX11_top_43 ⟨Nat.le_refl _, Nat.le_refl _⟩ ?_
      refine Tl.no ?_
      simp [aTop, f5, eh, c27]
  · refine aw_aload_n dX11_top_8 rfl ?_
    refine aw_iconst (v := 2) dX11_top_9 rfl ?_
    refine aw_cV dX11_top_10 kX11_186 mX11_refuse (sX11_refuse hM) (Nat.le_of_ble_eq_true rfl) hM.k ⟨by decide, rfl⟩ hM.b rfl rfl (Nat.le_of_ble_eq_true rfl) ⟨Nat.le_refl _, Nat.le_refl _⟩ ?_
    refine aw_iret q rfl dX11_top_13 ⟨Nat.le_refl _, Nat.le_refl _⟩ ?_
    exact Tl.no (by simp [aTop, bI0.mp c5])
set_option maxHeartbeats 4000000 in
set_option maxRecDepth 100000 in
theorem rX11_weeksWaited (hM : IsM n sh m) {N : Nat → Int32} (hI : I (m + 1) = N) (hN : Cn N) {x : Int32} {p : Nat} (hx : x = nI p) (hp : p < 8) : CM yX11_weeksWaited cX11_weeksWaited 2 (Option.some .int) 3 0 0 [.ref m, .int x] z n sh I L (Pst (some (.int (mWaited N p))) z n sh I L) := by
  refine CM.go [some (.ref m), some (.int x)] rfl rfl (Nat.le_of_ble_eq_true rfl) (fun X g q => ?_)
  refine aw_iconst (v := 1) dX11_weeksWaited_0 rfl ?_
  refine aw_sipush (v := 1000) dX11_weeksWaited_1 rfl ?_
  refine aw_bipush (v := 7) dX11_weeksWaited_4 rfl ?_
  refine aw_aload_n dX11_weeksWaited_6 rfl ?_
  refine aw_getR (b := m + 1) dX11_weeksWaited_7 fX11_7 hM.k hM.b rfl hM.r0 ?_
  refine aw_sipush (v := 232) dX11_weeksWaited_10 rfl ?_
  refine aw_ialdH (k := 232) hI dX11_weeksWaited_13 hM.k0 hM.b0 hM.l0 rfl (by decide) (by decide) ?_
  refine aw_imul dX11_weeksWaited_14 ?_
  refine aw_iadd dX11_weeksWaited_15 ?_
  refine aw_aload_n dX11_weeksWaited_16 rfl ?_
  refine aw_iload_n dX11_weeksWaited_17 rfl ?_
  refine aw_iconst (v := 3) dX11_weeksWaited_18 rfl ?_
  refine aw_cV dX11_weeksWaited_19 kX11_205 mX11_of (rX11_of (p := p) (w := 3) hM hI hx rfl (by omega)) (Nat.le_of_ble_eq_true rfl) hM.k ⟨by decide, rfl⟩ hM.b rfl rfl (Nat.le_of_ble_eq_true rfl) ⟨Nat.le_refl _, Nat.le_refl _⟩ ?_
  refine aw_isub dX11_weeksWaited_22 ?_
  refine aw_bipush (v := 7) dX11_weeksWaited_23 rfl ?_
  refine aw_idiv dX11_weeksWaited_25 (by decide) ?_
  refine aw_mmax dX11_weeksWaited_26 kX11_211 (Nat.le_of_ble_eq_true rfl) (Nat.le_of_ble_eq_true rfl) ⟨Nat.le_refl _, Nat.le_refl _⟩ ?_
  refine aw_iret q rfl dX11_weeksWaited_29 ⟨Nat.le_refl _, Nat.le_refl _⟩ ?_
  exact Pst.rf
set_option maxHeartbeats 4000000 in
set_option maxRecDepth 100000 in
theorem rX11_fits (hM : IsM n sh m) {N : Nat → Int32} (hI : I (m + 1) = N) (hN : Cn N) {x w : Int32} : CM yX11_fits cX11_fits 5 (Option.some .int) 5 0 0 [.ref m, .int x, .int w] z n sh I L (Tl (aFits N x w) z n sh I L m) := by
  refine CM.go [some (.ref m), some (.int x), some (.int w), none, none] rfl rfl (Nat.le_of_ble_eq_true rfl) (fun X g q => ?_)
  refine aw_iload_n dX11_fits_0 rfl ?_
  refine aw_iconst (v := 0) dX11_fits_1 rfl ?_
  refine aw_iconst (v := 2) dX11_fits_2 rfl ?_
  refine aw_cS dX11_fits_3 kX11_71 mX11_isFrom (sX11_isFrom hM) (Nat.le_of_ble_eq_true rfl) rfl rfl (Nat.le_of_ble_eq_true rfl) ⟨Nat.le_refl _, Nat.le_refl _⟩ ?_
  refine aw_if_ne (tgt := 15) dX11_fits_6 rfl (fun c6 => ?_) (fun c6 => ?_)
  · have f6 := bI1.mp c6
    refine aw_aload_n dX11_fits_15 rfl ?_
    refine aw_iload_n dX11_fits_16 rfl ?_
    refine aw_cV dX11_fits_17 kX11_244 mX11_isHouse (rX11_isHouse hM hI) (Nat.le_of_ble_eq_true rfl) hM.k ⟨by decide, rfl⟩ hM.b rfl rfl (Nat.le_of_ble_eq_true rfl) ⟨Nat.le_refl _, Nat.le_refl _⟩ ?_
    refine aw_if_ne (tgt := 29) dX11_fits_20 rfl (fun c20 => ?_) (fun c20 => ?_)
    · have f20 := bI1.mp c20
      obtain ⟨p, hpn, rfl⟩ := from_ix hN.p (by have := hN.p8; omega) f20
      have hp8 : p < 8 := by have := hN.p8; omega
      have ep := nI_clamp (show p < 2 ^ 31 by omega)
      refine aw_iconst (v := 0) dX11_fits_29 rfl ?_
      refine aw_istore_n dX11_fits_30 (by decide) rfl ?_
      refine aw_iconst (v := 0) dX11_fits_31 rfl ?_
      refine aw_istore dX11_fits_32 (by decide) rfl ?_
      have loop : ∀ i, i ≤ nHo N → ∀ acc : Int32, acc = iset (fitP N p w) i → AW X g RX11 cX11_fits 5 (5, 0, 0) (z, n, sh, 0, 0) (I) (L) 34 [some (.ref m), some (.int (nI p)), some (.int w), some (.int acc), some (.int (nI i))] [] := by
        refine up_loop (fun i hi ih acc ha => ?_)
        have h10 := hN.h10
        refine aw_iload dX11_fits_34 rfl ?_
        refine aw_aload_n dX11_fits_36 rfl ?_
        refine aw_getR (b := m + 1) dX11_fits_37 fX11_7 hM.k hM.b rfl hM.r0 ?_
        refine aw_sipush (v := 230) dX11_fits_40 rfl ?_
        refine aw_ialdH (k := 230) hI dX11_fits_43 hM.k0 hM.b0 hM.l0 rfl (by decide) (by decide) ?_
        refine aw_icmp_ge (tgt := 105) dX11_fits_44 rfl (fun c44 => ?_) (fun c44 => ?_)
        · have e := ge_t hN.h (by have := hN.h10; omega) hi c44
          refine aw_aload_n dX11_fits_105 rfl ?_
          refine aw_iload_n dX11_fits_106 rfl ?_
          refine aw_cV dX11_fits_107 kX11_199 mX11_gives (sX11_gives hM) (Nat.le_of_ble_eq_true rfl) hM.k ⟨by decide, rfl⟩ hM.b rfl rfl (Nat.le_of_ble_eq_true rfl) ⟨Nat.le_refl _, Nat.le_refl _⟩ ?_
          refine aw_iret q rfl dX11_fits_110 ⟨Nat.le_refl _, Nat.le_refl _⟩ ?_
          refine Tl.ok ?_
          simp [aFits, f6, f20, ep, ha, e]
        · have hlt := ge_f hN.h (by have := hN.h10; omega) hi c44
          refine aw_iload_n dX11_fits_47 rfl ?_
          refine aw_aload_n dX11_fits_48 rfl ?_
          refine aw_iload_n dX11_fits_49 rfl ?_
          refine aw_iload dX11_fits_50 rfl ?_
          refine aw_cV dX11_fits_52 kX11_250 mX11_doesFit (rX11_doesFit (p := p) (h := i) hM hI rfl rfl (by omega) (by omega)) (Nat.le_of_ble_eq_true rfl) hM.k ⟨by decide, rfl⟩ hM.b rfl rfl (Nat.le_of_ble_eq_true rfl) ⟨Nat.le_refl _, Nat.le_refl _⟩ ?_
          refine aw_if_eq (tgt := 96) dX11_fits_55 rfl (fun c55 => ?_) (fun c55 => ?_)
          · refine aw_iconst (v := 0) dX11_fits_96 rfl ?_
            refine aw_ior dX11_fits_97 ?_
            refine aw_istore_n dX11_fits_98 (by decide) rfl ?_
            refine aw_iinc dX11_fits_99 rfl (ginc rfl) (by decide) rfl ?_
            refine aw_goto (tgt := 34) dX11_fits_102 rfl ?_
            refine ih hlt _ ?_
            rw [iset, ← ha]
            simp [fitP, bI0.mp c55]
          · refine aw_iload_n dX11_fits_58 rfl ?_
            refine aw_if_eq (tgt := 89) dX11_fits_59 rfl (fun c59 => ?_) (fun c59 => ?_)
            · refine aw_iconst (v := 1) dX11_fits_89 rfl ?_
              refine aw_iload dX11_fits_90 rfl ?_
              refine aw_ishl dX11_fits_92 ?_
              refine aw_goto (tgt := 97) dX11_fits_93 rfl ?_
              refine aw_ior dX11_fits_97 ?_
              refine aw_istore_n dX11_fits_98 (by decide) rfl ?_
              refine aw_iinc dX11_fits_99 rfl (ginc rfl) (by decide) rfl ?_
              refine aw_goto (tgt := 34) dX11_fits_102 rfl ?_
              refine ih hlt _ ?_
              rw [iset, ← ha]
              simp [fitP, bI1.mp c55, c59]
            · refine aw_iload_n dX11_fits_62 rfl ?_
              refine aw_iconst (v := 1) dX11_fits_63 rfl ?_
              refine aw_icmp_ne (tgt := 79) dX11_fits_64 rfl (fun c64 => ?_) (fun c64 => ?_)
              · refine aw_aload_n dX11_fits_79 rfl ?_
                refine aw_iload_n dX11_fits_80 rfl ?_
                refine aw_iload dX11_fits_81 rfl ?_
                refine aw_cV dX11_fits_83 kX11_300 mX11_wouldTake (rX11_wouldTake (p := p) hM hI rfl (by omega) ((hN).w (by omega)) ((hN).w6 (by omega))) (Nat.le_of_ble_eq_true rfl) hM.k ⟨by decide, rfl⟩ hM.b rfl rfl (Nat.le_of_ble_eq_true rfl) ⟨Nat.le_refl _, Nat.le_refl _⟩ ?_
                refine aw_if_eq (tgt := 96) dX11_fits_86 rfl (fun c86 => ?_) (fun c86 => ?_)
                · refine aw_iconst (v := 0) dX11_fits_96 rfl ?_
                  refine aw_ior dX11_fits_97 ?_
                  refine aw_istore_n dX11_fits_98 (by decide) rfl ?_
                  refine aw_iinc dX11_fits_99 rfl (ginc rfl) (by decide) rfl ?_
                  refine aw_goto (tgt := 34) dX11_fits_102 rfl ?_
                  refine ih hlt _ ?_
                  rw [iset, ← ha]
                  simp [fitP, bI1.mp c55, c59, c64, bI0.mp c86]
                · refine aw_iconst (v := 1) dX11_fits_89 rfl ?_
                  refine aw_iload dX11_fits_90 rfl ?_
                  refine aw_ishl dX11_fits_92 ?_
                  refine aw_goto (tgt := 97) dX11_fits_93 rfl ?_
                  refine aw_ior dX11_fits_97 ?_
                  refine aw_istore_n dX11_fits_98 (by decide) rfl ?_
                  refine aw_iinc dX11_fits_99 rfl (ginc rfl) (by decide) rfl ?_
                  refine aw_goto (tgt := 34) dX11_fits_102 rfl ?_
                  refine ih hlt _ ?_
                  rw [iset, ← ha]
                  simp [fitP, bI1.mp c55, c59, c64, bI1.mp c86]
              · refine aw_aload_n dX11_fits_67 rfl ?_
                refine aw_iload dX11_fits_68 rfl ?_
                refine aw_cV dX11_fits_70 kX11_219 mX11_isFree (rX11_isFree (h := i) hM hI rfl (by omega)) (Nat.le_of_ble_eq_true rfl) hM.k ⟨by decide, rfl⟩ hM.b rfl rfl (Nat.le_of_ble_eq_true rfl) ⟨Nat.le_refl _, Nat.le_refl _⟩ ?_
                refine aw_if_eq (tgt := 96) dX11_fits_73 rfl (fun c73 => ?_) (fun c73 => ?_)
                · refine aw_iconst (v := 0) dX11_fits_96 rfl ?_
                  refine aw_ior dX11_fits_97 ?_
                  refine aw_istore_n dX11_fits_98 (by decide) rfl ?_
                  refine aw_iinc dX11_fits_99 rfl (ginc rfl) (by decide) rfl ?_
                  refine aw_goto (tgt := 34) dX11_fits_102 rfl ?_
                  refine ih hlt _ ?_
                  rw [iset, ← ha]
                  simp [fitP, bI1.mp c55, c64, bI0.mp c73]
                · refine aw_goto (tgt := 89) dX11_fits_76 rfl ?_
                  refine aw_iconst (v := 1) dX11_fits_89 rfl ?_
                  refine aw_iload dX11_fits_90 rfl ?_
                  refine aw_ishl dX11_fits_92 ?_
                  refine aw_goto (tgt := 97) dX11_fits_93 rfl ?_
                  refine aw_ior dX11_fits_97 ?_
                  refine aw_istore_n dX11_fits_98 (by decide) rfl ?_
                  refine aw_iinc dX11_fits_99 rfl (ginc rfl) (by decide) rfl ?_
                  refine aw_goto (tgt := 34) dX11_fits_102 rfl ?_
                  refine ih hlt _ ?_
                  rw [iset, ← ha]
                  simp [fitP, bI1.mp c55, c64, bI1.mp c73]
      exact loop 0 (Nat.zero_le _) 0 rfl
    · refine aw_aload_n dX11_fits_23 rfl ?_
      refine aw_iconst (v := 2) dX11_fits_24 rfl ?_
      refine aw_cV dX11_fits_25 kX11_186 mX11_refuse (sX11_refuse hM) (Nat.le_of_ble_eq_true rfl) hM.k ⟨by decide, rfl⟩ hM.b rfl rfl (Nat.le_of_ble_eq_true rfl) ⟨Nat.le_refl _, Nat.le_refl _⟩ ?_
      refine aw_iret q rfl dX11_fits_28 ⟨Nat.le_refl _, Nat.le_refl _⟩ ?_
      exact Tl.no (by simp [aFits, f6, bI0.mp c20])
  · refine aw_aload_n dX11_fits_9 rfl ?_
    refine aw_iconst (v := 1) dX11_fits_10 rfl ?_
    refine aw_cV dX11_fits_11 kX11_186 mX11_refuse (sX11_refuse hM) (Nat.le_of_ble_eq_true rfl) hM.k ⟨by decide, rfl⟩ hM.b rfl rfl (Nat.le_of_ble_eq_true rfl) ⟨Nat.le_refl _, Nat.le_refl _⟩ ?_
    refine aw_iret q rfl dX11_fits_14 ⟨Nat.le_refl _, Nat.le_refl _⟩ ?_
    exact Tl.no (by simp [aFits, bI0.mp c6])
set_option maxHeartbeats 4000000 in
set_option maxRecDepth 100000 in
theorem rX11_lackOf (hM : IsM n sh m) {N : Nat → Int32} (hI : I (m + 1) = N) (hN : Cn N) {x : Int32} : CM yX11_lackOf cX11_lackOf 4 (Option.some .int) 4 0 0 [.ref m, .int x] z n sh I L (Pst (some (.int (mWant N x))) z n sh I L) := by
  refine CM.go [some (.ref m), some (.int x), none, none] rfl rfl (Nat.le_of_ble_eq_true rfl) (fun X g q => ?_)
  refine aw_iconst (v := 0) dX11_lackOf_0 rfl ?_
  refine aw_istore_n dX11_lackOf_1 (by decide) rfl ?_
  refine aw_iconst (v := 0) dX11_lackOf_2 rfl ?_
  refine aw_istore_n dX11_lackOf_3 (by decide) rfl ?_
  have loop2 : ∀ i, i ≤ nHo N → ∀ acc : Int32, acc = idn (isum (wantP N x) (nPo N)) (wantH N x) i → AW X g RX11 cX11_lackOf 4 (4, 0, 0) (z, n, sh, 0, 0) (I) (L) 50 [some (.ref m), some (.int x), some (.int acc), some (.int (nI i))] [] := by
    refine up_loop (fun i hi ih acc ha => ?_)
    have h10 := hN.h10
    refine aw_iload_n dX11_lackOf_50 rfl ?_
    refine aw_aload_n dX11_lackOf_51 rfl ?_
    refine aw_getR (b := m + 1) dX11_lackOf_52 fX11_7 hM.k hM.b rfl hM.r0 ?_
    refine aw_sipush (v := 230) dX11_lackOf_55 rfl ?_
    refine aw_ialdH (k := 230) hI dX11_lackOf_58 hM.k0 hM.b0 hM.l0 rfl (by decide) (by decide) ?_
    refine aw_icmp_ge (tgt := 94) dX11_lackOf_59 rfl (fun c59 => ?_) (fun c59 => ?_)
    · have e := ge_t hN.h (by have := hN.h10; omega) hi c59
      refine aw_iload_n dX11_lackOf_94 rfl ?_
      refine aw_iret q rfl dX11_lackOf_95 ⟨Nat.le_refl _, Nat.le_refl _⟩ ?_
      exact Pst.iv (by rw [ha, e]; rfl)
    · have hlt := ge_f hN.h (by have := hN.h10; omega) hi c59
      refine aw_iload_n dX11_lackOf_62 rfl ?_
      refine aw_aload_n dX11_lackOf_63 rfl ?_
      refine aw_iload_n dX11_lackOf_64 rfl ?_
      refine aw_cV dX11_lackOf_65 kX11_219 mX11_isFree (rX11_isFree (h := i) hM hI rfl (by omega)) (Nat.le_of_ble_eq_true rfl) hM.k ⟨by decide, rfl⟩ hM.b rfl rfl (Nat.le_of_ble_eq_true rfl) ⟨Nat.le_refl _, Nat.le_refl _⟩ ?_
      refine aw_if_eq (tgt := 85) dX11_lackOf_68 rfl (fun c68 => ?_) (fun c68 => ?_)
      · refine aw_iconst (v := 0) dX11_lackOf_85 rfl ?_
        refine aw_isub dX11_lackOf_86 ?_
        refine aw_istore_n dX11_lackOf_87 (by decide) rfl ?_
        refine aw_iinc dX11_lackOf_88 rfl (ginc rfl) (by decide) rfl ?_
        refine aw_goto (tgt := 50) dX11_lackOf_91 rfl ?_
        refine ih hlt _ ?_
        rw [idn, ← ha]
        simp [wantH, bB, bI0.mp c68]
      · refine aw_aload_n dX11_lackOf_71 rfl ?_
        refine aw_iload_n dX11_lackOf_72 rfl ?_
        refine aw_iconst (v := 1) dX11_lackOf_73 rfl ?_
        refine aw_cV dX11_lackOf_74 kX11_202 mX11_home0 (rX11_home0 (h := i) (w := 1) hM hI rfl rfl (by omega)) (Nat.le_of_ble_eq_true rfl) hM.k ⟨by decide, rfl⟩ hM.b rfl rfl (Nat.le_of_ble_eq_true rfl) ⟨Nat.le_refl _, Nat.le_refl _⟩ ?_
        refine aw_iload_n dX11_lackOf_77 rfl ?_
        refine awt_icmp_ne (A := 1) (B := 0) dX11_lackOf_78 dX11_lackOf_81 dX11_lackOf_82 dX11_lackOf_85 rfl rfl ?_
        refine aw_isub dX11_lackOf_86 ?_
        refine aw_istore_n dX11_lackOf_87 (by decide) rfl ?_
        refine aw_iinc dX11_lackOf_88 rfl (ginc rfl) (by decide) rfl ?_
        refine aw_goto (tgt := 50) dX11_lackOf_91 rfl ?_
        refine ih hlt _ ?_
        rw [idn, ← ha]
        simp [wantH, bB, bI1.mp c68]
  have loop1 : ∀ i, i ≤ nPo N → ∀ acc : Int32, acc = isum (wantP N x) i → AW X g RX11 cX11_lackOf 4 (4, 0, 0) (z, n, sh, 0, 0) (I) (L) 4 [some (.ref m), some (.int x), some (.int acc), some (.int (nI i))] [] := by
    refine up_loop (fun i hi ih acc ha => ?_)
    have h8 := hN.p8
    refine aw_iload_n dX11_lackOf_4 rfl ?_
    refine aw_aload_n dX11_lackOf_5 rfl ?_
    refine aw_getR (b := m + 1) dX11_lackOf_6 fX11_7 hM.k hM.b rfl hM.r0 ?_
    refine aw_sipush (v := 231) dX11_lackOf_9 rfl ?_
    refine aw_ialdH (k := 231) hI dX11_lackOf_12 hM.k0 hM.b0 hM.l0 rfl (by decide) (by decide) ?_
    refine aw_icmp_ge (tgt := 48) dX11_lackOf_13 rfl (fun c13 => ?_) (fun c13 => ?_)
    · have e := ge_t hN.p (by have := hN.p8; omega) hi c13
      refine aw_iconst (v := 0) dX11_lackOf_48 rfl ?_
      refine aw_istore_n dX11_lackOf_49 (by decide) rfl ?_
      exact loop2 0 (Nat.zero_le _) _ (by rw [idn, ha, e])
    · have hlt := ge_f hN.p (by have := hN.p8; omega) hi c13
      refine aw_iload_n dX11_lackOf_16 rfl ?_
      refine aw_aload_n dX11_lackOf_17 rfl ?_
      refine aw_iload_n dX11_lackOf_18 rfl ?_
      refine aw_cV dX11_lackOf_19 kX11_208 mX11_isIn (rX11_isIn (p := i) hM hI rfl (by omega)) (Nat.le_of_ble_eq_true rfl) hM.k ⟨by decide, rfl⟩ hM.b rfl rfl (Nat.le_of_ble_eq_true rfl) ⟨Nat.le_refl _, Nat.le_refl _⟩ ?_
      refine aw_if_eq (tgt := 39) dX11_lackOf_22 rfl (fun c22 => ?_) (fun c22 => ?_)
      · refine aw_iconst (v := 0) dX11_lackOf_39 rfl ?_
        refine aw_iadd dX11_lackOf_40 ?_
        refine aw_istore_n dX11_lackOf_41 (by decide) rfl ?_
        refine aw_iinc dX11_lackOf_42 rfl (ginc rfl) (by decide) rfl ?_
        refine aw_goto (tgt := 4) dX11_lackOf_45 rfl ?_
        refine ih hlt _ ?_
        rw [isum, ← ha]
        simp [wantP, bB, bI0.mp c22]
      · refine aw_aload_n dX11_lackOf_25 rfl ?_
        refine aw_iload_n dX11_lackOf_26 rfl ?_
        refine aw_iconst (v := 2) dX11_lackOf_27 rfl ?_
        refine aw_cV dX11_lackOf_28 kX11_205 mX11_of (rX11_of (p := i) (w := 2) hM hI rfl rfl (by omega)) (Nat.le_of_ble_eq_true rfl) hM.k ⟨by decide, rfl⟩ hM.b rfl rfl (Nat.le_of_ble_eq_true rfl) ⟨Nat.le_refl _, Nat.le_refl _⟩ ?_
        refine aw_iload_n dX11_lackOf_31 rfl ?_
        refine awt_icmp_ne (A := 1) (B := 0) dX11_lackOf_32 dX11_lackOf_35 dX11_lackOf_36 dX11_lackOf_39 rfl rfl ?_
        refine aw_iadd dX11_lackOf_40 ?_
        refine aw_istore_n dX11_lackOf_41 (by decide) rfl ?_
        refine aw_iinc dX11_lackOf_42 rfl (ginc rfl) (by decide) rfl ?_
        refine aw_goto (tgt := 4) dX11_lackOf_45 rfl ?_
        refine ih hlt _ ?_
        rw [isum, ← ha]
        simp [wantP, bB, bI1.mp c22]
  exact loop1 0 (Nat.zero_le _) 0 rfl
set_option maxHeartbeats 4000000 in
set_option maxRecDepth 100000 in
theorem rX11_ward (hM : IsM n sh m) {N : Nat → Int32} (hI : I (m + 1) = N) (hN : Cn N) {t : Int32} : CM yX11_ward cX11_ward 5 (Option.some .int) 5 0 0 [.ref m, .int t] z n sh I L (Tl (aWard N t) z n sh I L m) := by
  refine CM.go [some (.ref m), some (.int t), none, none, none] rfl rfl (Nat.le_of_ble_eq_true rfl) (fun X g q => ?_)
  refine aw_aload_n dX11_ward_0 rfl ?_
  refine aw_getR (b := m + 1) dX11_ward_1 fX11_7 hM.k hM.b rfl hM.r0 ?_
  refine aw_sipush (v := 230) dX11_ward_4 rfl ?_
  refine aw_ialdH (k := 230) hI dX11_ward_7 hM.k0 hM.b0 hM.l0 rfl (by decide) (by decide) ?_
  refine aw_if_ne (tgt := 17) dX11_ward_8 rfl (fun c8 => ?_) (fun c8 => ?_)
  · refine aw_iconst (v := (-1)) dX11_ward_17 rfl ?_
    refine aw_istore_n dX11_ward_18 (by decide) rfl ?_
    refine aw_iconst (v := 0) dX11_ward_19 rfl ?_
    refine aw_istore_n dX11_ward_20 (by decide) rfl ?_
    have loop : ∀ i, i ≤ nHo N → ∀ a4 : Option Value, AW X g RX11 cX11_ward 5 (5, 0, 0) (z, n, sh, 0, 0) (I) (L) 21 [some (.ref m), some (.int t), some (.int (wardL N i)), some (.int (nI i)), a4] [] := by
      refine up_loop (fun i hi ih a4 => ?_)
      have h10 := hN.h10
      refine aw_iload_n dX11_ward_21 rfl ?_
      refine aw_aload_n dX11_ward_22 rfl ?_
      refine aw_getR (b := m + 1) dX11_ward_23 fX11_7 hM.k hM.b rfl hM.r0 ?_
      refine aw_sipush (v := 230) dX11_ward_26 rfl ?_
      refine aw_ialdH (k := 230) hI dX11_ward_29 hM.k0 hM.b0 hM.l0 rfl (by decide) (by decide) ?_
      refine aw_icmp_ge (tgt := 89) dX11_ward_30 rfl (fun c30 => ?_) (fun c30 => ?_)
      · have e := ge_t hN.h (by have := hN.h10; omega) hi c30
        refine aw_aload_n dX11_ward_89 rfl ?_
        refine aw_iload_n dX11_ward_90 rfl ?_
        refine aw_if_eq (tgt := 102) dX11_ward_91 rfl (fun c91 => ?_) (fun c91 => ?_)
        · refine aw_iload_n dX11_ward_102 rfl ?_
          refine aw_cV dX11_ward_103 kX11_199 mX11_gives (sX11_gives hM) (Nat.le_of_ble_eq_true rfl) hM.k ⟨by decide, rfl⟩ hM.b rfl rfl (Nat.le_of_ble_eq_true rfl) ⟨Nat.le_refl _, Nat.le_refl _⟩ ?_
          refine aw_iret q rfl dX11_ward_106 ⟨Nat.le_refl _, Nat.le_refl _⟩ ?_
          refine Tl.ok ?_
          simp [aWard, c8, c91, e]
        · refine aw_aload_n dX11_ward_94 rfl ?_
          refine aw_iload_n dX11_ward_95 rfl ?_
          refine aw_cV dX11_ward_96 kX11_357 mX11_lackOf (rX11_lackOf hM hI hN) (Nat.le_of_ble_eq_true rfl) hM.k ⟨by decide, rfl⟩ hM.b rfl rfl (Nat.le_of_ble_eq_true rfl) ⟨Nat.le_refl _, Nat.le_refl _⟩ ?_
          refine aw_goto (tgt := 103) dX11_ward_99 rfl ?_
          refine aw_cV dX11_ward_103 kX11_199 mX11_gives (sX11_gives hM) (Nat.le_of_ble_eq_true rfl) hM.k ⟨by decide, rfl⟩ hM.b rfl rfl (Nat.le_of_ble_eq_true rfl) ⟨Nat.le_refl _, Nat.le_refl _⟩ ?_
          refine aw_iret q rfl dX11_ward_106 ⟨Nat.le_refl _, Nat.le_refl _⟩ ?_
          refine Tl.ok ?_
          simp [aWard, c8, c91, e]
      · have hlt := ge_f hN.h (by have := hN.h10; omega) hi c30
        refine aw_aload_n dX11_ward_33 rfl ?_
        refine aw_iload_n dX11_ward_34 rfl ?_
        refine aw_iconst (v := 1) dX11_ward_35 rfl ?_
        refine aw_cV dX11_ward_36 kX11_202 mX11_home0 (rX11_home0 (h := i) (w := 1) hM hI rfl rfl (by omega)) (Nat.le_of_ble_eq_true rfl) hM.k ⟨by decide, rfl⟩ hM.b rfl rfl (Nat.le_of_ble_eq_true rfl) ⟨Nat.le_refl _, Nat.le_refl _⟩ ?_
        refine aw_istore dX11_ward_39 (by decide) rfl ?_
        refine aw_iload_n dX11_ward_41 rfl ?_
        refine aw_iconst (v := (-1)) dX11_ward_42 rfl ?_
        refine aw_icmp_eq (tgt := 80) dX11_ward_43 rfl (fun c43 => ?_) (fun c43 => ?_)
        · refine aw_iload dX11_ward_80 rfl ?_
          refine aw_istore_n dX11_ward_82 (by decide) rfl ?_
          refine aw_iinc dX11_ward_83 rfl (ginc rfl) (by decide) rfl ?_
          refine aw_goto (tgt := 21) dX11_ward_86 rfl ?_
          have st : wardB N (wardL N i) (N (8 * i + 1)) = true := by simp [wardB, c43]
          have := ih hlt (some (.int (N (8 * i + 1))))
          rw [wardL, st] at this
          exact this
        · refine aw_aload_n dX11_ward_46 rfl ?_
          refine aw_iload dX11_ward_47 rfl ?_
          refine aw_cV dX11_ward_49 kX11_357 mX11_lackOf (rX11_lackOf hM hI hN) (Nat.le_of_ble_eq_true rfl) hM.k ⟨by decide, rfl⟩ hM.b rfl rfl (Nat.le_of_ble_eq_true rfl) ⟨Nat.le_refl _, Nat.le_refl _⟩ ?_
          refine aw_aload_n dX11_ward_52 rfl ?_
          refine aw_iload_n dX11_ward_53 rfl ?_
          refine aw_cV dX11_ward_54 kX11_357 mX11_lackOf (rX11_lackOf hM hI hN) (Nat.le_of_ble_eq_true rfl) hM.k ⟨by decide, rfl⟩ hM.b rfl rfl (Nat.le_of_ble_eq_true rfl) ⟨Nat.le_refl _, Nat.le_refl _⟩ ?_
          refine aw_icmp_gt (tgt := 80) dX11_ward_57 rfl (fun c57 => ?_) (fun c57 => ?_)
          · refine aw_iload dX11_ward_80 rfl ?_
            refine aw_istore_n dX11_ward_82 (by decide) rfl ?_
            refine aw_iinc dX11_ward_83 rfl (ginc rfl) (by decide) rfl ?_
            refine aw_goto (tgt := 21) dX11_ward_86 rfl ?_
            have st : wardB N (wardL N i) (N (8 * i + 1)) = true := by simp [wardB, c57]
            have := ih hlt (some (.int (N (8 * i + 1))))
            rw [wardL, st] at this
            exact this
          · refine aw_aload_n dX11_ward_60 rfl ?_
            refine aw_iload dX11_ward_61 rfl ?_
            refine aw_cV dX11_ward_63 kX11_357 mX11_lackOf (rX11_lackOf hM hI hN) (Nat.le_of_ble_eq_true rfl) hM.k ⟨by decide, rfl⟩ hM.b rfl rfl (Nat.le_of_ble_eq_true rfl) ⟨Nat.le_refl _, Nat.le_refl _⟩ ?_
            refine aw_aload_n dX11_ward_66 rfl ?_
            refine aw_iload_n dX11_ward_67 rfl ?_
            refine aw_cV dX11_ward_68 kX11_357 mX11_lackOf (rX11_lackOf hM hI hN) (Nat.le_of_ble_eq_true rfl) hM.k ⟨by decide, rfl⟩ hM.b rfl rfl (Nat.le_of_ble_eq_true rfl) ⟨Nat.le_refl _, Nat.le_refl _⟩ ?_
            refine aw_icmp_ne (tgt := 83) dX11_ward_71 rfl (fun c71 => ?_) (fun c71 => ?_)
            · refine aw_iinc dX11_ward_83 rfl (ginc rfl) (by decide) rfl ?_
              refine aw_goto (tgt := 21) dX11_ward_86 rfl ?_
              have st : wardB N (wardL N i) (N (8 * i + 1)) = false := by simp [wardB, c43, c57, c71]
              have := ih hlt (some (.int (N (8 * i + 1))))
              rw [wardL, st] at this
              exact this
            · refine aw_iload dX11_ward_74 rfl ?_
              refine aw_iload_n dX11_ward_76 rfl ?_
              refine aw_icmp_ge (tgt := 83) dX11_ward_77 rfl (fun c77 => ?_) (fun c77 => ?_)
              · refine aw_iinc dX11_ward_83 rfl (ginc rfl) (by decide) rfl ?_
                refine aw_goto (tgt := 21) dX11_ward_86 rfl ?_
                have st : wardB N (wardL N i) (N (8 * i + 1)) = false := by simp [wardB, c43, c57, c71, Int32.not_lt.mpr c77]
                have := ih hlt (some (.int (N (8 * i + 1))))
                rw [wardL, st] at this
                exact this
              · refine aw_iload dX11_ward_80 rfl ?_
                refine aw_istore_n dX11_ward_82 (by decide) rfl ?_
                refine aw_iinc dX11_ward_83 rfl (ginc rfl) (by decide) rfl ?_
                refine aw_goto (tgt := 21) dX11_ward_86 rfl ?_
                have st : wardB N (wardL N i) (N (8 * i + 1)) = true := by simp [wardB, c43, c57, c71, fa_of_nle c77]
                have := ih hlt (some (.int (N (8 * i + 1))))
                rw [wardL, st] at this
                exact this
    exact loop 0 (Nat.zero_le _) none
  · refine aw_aload_n dX11_ward_11 rfl ?_
    refine aw_iconst (v := 5) dX11_ward_12 rfl ?_
    refine aw_cV dX11_ward_13 kX11_186 mX11_refuse (sX11_refuse hM) (Nat.le_of_ble_eq_true rfl) hM.k ⟨by decide, rfl⟩ hM.b rfl rfl (Nat.le_of_ble_eq_true rfl) ⟨Nat.le_refl _, Nat.le_refl _⟩ ?_
    refine aw_iret q rfl dX11_ward_16 ⟨Nat.le_refl _, Nat.le_refl _⟩ ?_
    exact Tl.no (by simp [aWard, c8])
set_option maxHeartbeats 4000000 in
set_option maxRecDepth 100000 in
theorem rX11_isRather (hM : IsM n sh m) {N : Nat → Int32} (hI : I (m + 1) = N) (hN : Cn N) {x y : Int32} {p h : Nat} (hx : x = nI p) (hy : y = nI h) (hp : p < 8) (hh : h < 10) : CM yX11_isRather cX11_isRather 5 (Option.some .boolean) 4 0 0 [.ref m, .int x, .int y] z n sh I L (Pst (some (.int (bI (mRather N p (nI h))))) z n sh I L) := by
  subst hy
  refine CM.go [some (.ref m), some (.int x), some (.int (nI h)), none, none] rfl rfl (Nat.le_of_ble_eq_true rfl) (fun X g q => ?_)
  have ehc := nI_clamp (show h < 2 ^ 31 by omega)
  refine aw_aload_n dX11_isRather_0 rfl ?_
  refine aw_iload_n dX11_isRather_1 rfl ?_
  refine aw_iload_n dX11_isRather_2 rfl ?_
  refine aw_cV dX11_isRather_3 kX11_216 mX11_wishOf (rX11_wishOf (p := p) hM hI hx (by omega) ((hN).w (by omega)) ((hN).w6 (by omega))) (Nat.le_of_ble_eq_true rfl) hM.k ⟨by decide, rfl⟩ hM.b rfl rfl (Nat.le_of_ble_eq_true rfl) ⟨Nat.le_refl _, Nat.le_refl _⟩ ?_
  refine aw_istore_n dX11_isRather_6 (by decide) rfl ?_
  refine aw_aload_n dX11_isRather_7 rfl ?_
  refine aw_iload_n dX11_isRather_8 rfl ?_
  refine aw_aload_n dX11_isRather_9 rfl ?_
  refine aw_iload_n dX11_isRather_10 rfl ?_
  refine aw_iconst (v := 4) dX11_isRather_11 rfl ?_
  refine aw_cV dX11_isRather_12 kX11_205 mX11_of (rX11_of (p := p) (w := 4) hM hI hx rfl (by omega)) (Nat.le_of_ble_eq_true rfl) hM.k ⟨by decide, rfl⟩ hM.b rfl rfl (Nat.le_of_ble_eq_true rfl) ⟨Nat.le_refl _, Nat.le_refl _⟩ ?_
  refine aw_cV dX11_isRather_15 kX11_216 mX11_wishOf (rX11_wishOf (p := p) hM hI hx (by omega) ((hN).w (by omega)) ((hN).w6 (by omega))) (Nat.le_of_ble_eq_true rfl) hM.k ⟨by decide, rfl⟩ hM.b rfl rfl (Nat.le_of_ble_eq_true rfl) ⟨Nat.le_refl _, Nat.le_refl _⟩ ?_
  refine aw_istore dX11_isRather_18 (by decide) rfl ?_
  refine aw_iload_n dX11_isRather_20 rfl ?_
  refine aw_iconst (v := (-1)) dX11_isRather_21 rfl ?_
  refine aw_icmp_eq (tgt := 50) dX11_isRather_22 rfl (fun c22 => ?_) (fun c22 => ?_)
  · refine aw_iconst (v := 0) dX11_isRather_50 rfl ?_
    refine aw_zret q rfl (by decide) dX11_isRather_51 ⟨Nat.le_refl _, Nat.le_refl _⟩ ?_
    refine Pst.iv ?_
    simp [bI, mRather, ehc, c22]
  · refine aw_aload_n dX11_isRather_25 rfl ?_
    refine aw_iload_n dX11_isRather_26 rfl ?_
    refine aw_iload_n dX11_isRather_27 rfl ?_
    refine aw_cV dX11_isRather_28 kX11_250 mX11_doesFit (rX11_doesFit (p := p) (h := h) hM hI hx rfl (by omega) (by omega)) (Nat.le_of_ble_eq_true rfl) hM.k ⟨by decide, rfl⟩ hM.b rfl rfl (Nat.le_of_ble_eq_true rfl) ⟨Nat.le_refl _, Nat.le_refl _⟩ ?_
    refine aw_if_eq (tgt := 50) dX11_isRather_31 rfl (fun c31 => ?_) (fun c31 => ?_)
    · refine aw_iconst (v := 0) dX11_isRather_50 rfl ?_
      refine aw_zret q rfl (by decide) dX11_isRather_51 ⟨Nat.le_refl _, Nat.le_refl _⟩ ?_
      refine Pst.iv ?_
      simp -failIfUnchanged only [bI0, bI1] at c31
      simp [bI, mRather, ehc, c22, c31]
    · refine aw_iload dX11_isRather_34 rfl ?_
      refine aw_iconst (v := (-1)) dX11_isRather_36 rfl ?_
      refine aw_icmp_eq (tgt := 46) dX11_isRather_37 rfl (fun c37 => ?_) (fun c37 => ?_)
      · refine aw_iconst (v := 1) dX11_isRather_46 rfl ?_
        refine aw_goto (tgt := 51) dX11_isRather_47 rfl ?_
        refine aw_zret q rfl (by decide) dX11_isRather_51 ⟨Nat.le_refl _, Nat.le_refl _⟩ ?_
        refine Pst.iv ?_
        simp -failIfUnchanged only [bI0, bI1] at c31
        simp [bI, mRather, ehc, c22, c31, c37]
      · refine aw_iload_n dX11_isRather_40 rfl ?_
        refine aw_iload dX11_isRather_41 rfl ?_
        refine aw_icmp_ge (tgt := 50) dX11_isRather_43 rfl (fun c43 => ?_) (fun c43 => ?_)
        · refine aw_iconst (v := 0) dX11_isRather_50 rfl ?_
          refine aw_zret q rfl (by decide) dX11_isRather_51 ⟨Nat.le_refl _, Nat.le_refl _⟩ ?_
          refine Pst.iv ?_
          simp -failIfUnchanged only [bI0, bI1] at c31
          simp [bI, mRather, ehc, c22, c31, c37, Int32.not_lt.mpr c43]
        · refine aw_iconst (v := 1) dX11_isRather_46 rfl ?_
          refine aw_goto (tgt := 51) dX11_isRather_47 rfl ?_
          refine aw_zret q rfl (by decide) dX11_isRather_51 ⟨Nat.le_refl _, Nat.le_refl _⟩ ?_
          refine Pst.iv ?_
          simp -failIfUnchanged only [bI0, bI1] at c31
          simp [bI, mRather, ehc, c22, c31, c37, fa_of_nle c43]
theorem ix8 {p q : Nat} : (8 : Int32) * nI p + nI q = nI (8 * p + q) := gadd (gmul (a := 8) rfl rfl) rfl
set_option maxHeartbeats 4000000 in
set_option maxRecDepth 100000 in
theorem rX11_envy (hM : IsM n sh m) {N : Nat → Int32} (hI : I (m + 1) = N) (hN : Cn N) {x : Int32} : CM yX11_envy cX11_envy 6 (Option.some .int) 5 0 0 [.ref m, .int x] z n sh I L (Tl (aEnvy N x) z n sh I L m) := by
  refine CM.go [some (.ref m), some (.int x), none, none, none, none] rfl rfl (Nat.le_of_ble_eq_true rfl) (fun X g q => ?_)
  refine aw_iload_n dX11_envy_0 rfl ?_
  refine aw_iconst (v := 0) dX11_envy_1 rfl ?_
  refine aw_iconst (v := 2) dX11_envy_2 rfl ?_
  refine aw_cS dX11_envy_3 kX11_71 mX11_isFrom (sX11_isFrom hM) (Nat.le_of_ble_eq_true rfl) rfl rfl (Nat.le_of_ble_eq_true rfl) ⟨Nat.le_refl _, Nat.le_refl _⟩ ?_
  refine aw_if_ne (tgt := 15) dX11_envy_6 rfl (fun c6 => ?_) (fun c6 => ?_)
  · have f6 := bI1.mp c6
    refine aw_iconst (v := 0) dX11_envy_15 rfl ?_
    refine aw_istore_n dX11_envy_16 (by decide) rfl ?_
    refine aw_iconst (v := (-1)) dX11_envy_17 rfl ?_
    refine aw_istore_n dX11_envy_18 (by decide) rfl ?_
    refine aw_iconst (v := 0) dX11_envy_19 rfl ?_
    refine aw_istore dX11_envy_20 (by decide) rfl ?_
    have loop : ∀ i, i ≤ nPo N → ∀ a5 : Option Value, AW X g RX11 cX11_envy 6 (5, 0, 0) (z, n, sh, 0, 0) (I) (L) 22 [some (.ref m), some (.int x), some (.int (envO N i).1), some (.int (envO N i).2), some (.int (nI i)), a5] [] := by
      refine up_loop (fun i hi ih a5 => ?_)
      have h8 := hN.p8
      refine aw_iload dX11_envy_22 rfl ?_
      refine aw_aload_n dX11_envy_24 rfl ?_
      refine aw_getR (b := m + 1) dX11_envy_25 fX11_7 hM.k hM.b rfl hM.r0 ?_
      refine aw_sipush (v := 231) dX11_envy_28 rfl ?_
      refine aw_ialdH (k := 231) hI dX11_envy_31 hM.k0 hM.b0 hM.l0 rfl (by decide) (by decide) ?_
      refine aw_icmp_ge (tgt := 143) dX11_envy_32 rfl (fun c32 => ?_) (fun c32 => ?_)
      · have e := ge_t hN.p (by omega) hi c32
        subst e
        refine aw_iload_n dX11_envy_143 rfl ?_
        refine aw_if_ne (tgt := 153) dX11_envy_144 rfl (fun c144 => ?_) (fun c144 => ?_)
        · refine aw_iload_n dX11_envy_153 rfl ?_
          refine aw_if_ne (tgt := 165) dX11_envy_154 rfl (fun c154 => ?_) (fun c154 => ?_)
          · refine aw_aload_n dX11_envy_165 rfl ?_
            refine aw_iload_n dX11_envy_166 rfl ?_
            refine aw_iconst (v := 1) dX11_envy_167 rfl ?_
            refine aw_icmp_ne (tgt := 178) dX11_envy_168 rfl (fun c168 => ?_) (fun c168 => ?_)
            · refine aw_iload_n dX11_envy_178 rfl ?_
              refine aw_bipush (v := 8) dX11_envy_179 rfl ?_
              refine aw_irem dX11_envy_181 (by decide) ?_
              refine aw_cV dX11_envy_182 kX11_199 mX11_gives (sX11_gives hM) (Nat.le_of_ble_eq_true rfl) hM.k ⟨by decide, rfl⟩ hM.b rfl rfl (Nat.le_of_ble_eq_true rfl) ⟨Nat.le_refl _, Nat.le_refl _⟩ ?_
              refine aw_iret q rfl dX11_envy_185 ⟨Nat.le_refl _, Nat.le_refl _⟩ ?_
              refine Tl.ok ?_
              simp [aEnvy, f6, c144, mEnvy, c154, c168, irem]
            · refine aw_iload_n dX11_envy_171 rfl ?_
              refine aw_bipush (v := 8) dX11_envy_172 rfl ?_
              refine aw_idiv dX11_envy_174 (by decide) ?_
              refine aw_goto (tgt := 182) dX11_envy_175 rfl ?_
              refine aw_cV dX11_envy_182 kX11_199 mX11_gives (sX11_gives hM) (Nat.le_of_ble_eq_true rfl) hM.k ⟨by decide, rfl⟩ hM.b rfl rfl (Nat.le_of_ble_eq_true rfl) ⟨Nat.le_refl _, Nat.le_refl _⟩ ?_
              refine aw_iret q rfl dX11_envy_185 ⟨Nat.le_refl _, Nat.le_refl _⟩ ?_
              subst c168
              refine Tl.ok ?_
              simp [aEnvy, f6, mEnvy, c154]
          · refine aw_aload_n dX11_envy_157 rfl ?_
            refine aw_iconst (v := 5) dX11_envy_158 rfl ?_
            refine aw_cV dX11_envy_159 kX11_186 mX11_refuse (sX11_refuse hM) (Nat.le_of_ble_eq_true rfl) hM.k ⟨by decide, rfl⟩ hM.b rfl rfl (Nat.le_of_ble_eq_true rfl) ⟨Nat.le_refl _, Nat.le_refl _⟩ ?_
            refine aw_goto (tgt := 185) dX11_envy_162 rfl ?_
            refine aw_iret q rfl dX11_envy_185 ⟨Nat.le_refl _, Nat.le_refl _⟩ ?_
            refine Tl.no ?_
            simp [aEnvy, f6, c144, mEnvy, c154]
        · refine aw_aload_n dX11_envy_147 rfl ?_
          refine aw_iload_n dX11_envy_148 rfl ?_
          refine aw_cV dX11_envy_149 kX11_199 mX11_gives (sX11_gives hM) (Nat.le_of_ble_eq_true rfl) hM.k ⟨by decide, rfl⟩ hM.b rfl rfl (Nat.le_of_ble_eq_true rfl) ⟨Nat.le_refl _, Nat.le_refl _⟩ ?_
          refine aw_iret q rfl dX11_envy_152 ⟨Nat.le_refl _, Nat.le_refl _⟩ ?_
          subst c144
          refine Tl.ok ?_
          simp [aEnvy, f6, mEnvy]
      · have hlt := ge_f hN.p (by omega) hi c32
        refine aw_iload dX11_envy_35 rfl ?_
        refine aw_iconst (v := 1) dX11_envy_37 rfl ?_
        refine aw_iadd dX11_envy_38 ?_
        refine AW.top (gadd rfl rfl) ?_
        refine aw_istore dX11_envy_39 (by decide) rfl ?_
        have inner : ∀ d, d ≤ nPo N - (i + 1) → AW X g RX11 cX11_envy 6 (5, 0, 0) (z, n, sh, 0, 0) (I) (L) 41 [some (.ref m), some (.int x), some (.int (envI N i (envO N i) d).1), some (.int (envI N i (envO N i) d).2), some (.int (nI i)), some (.int (nI (i + 1 + d)))] [] := by
          refine up_loop (fun d hd ihd => ?_)
          refine aw_iload dX11_envy_41 rfl ?_
          refine aw_aload_n dX11_envy_43 rfl ?_
          refine aw_getR (b := m + 1) dX11_envy_44 fX11_7 hM.k hM.b rfl hM.r0 ?_
          refine aw_sipush (v := 231) dX11_envy_47 rfl ?_
          refine aw_ialdH (k := 231) hI dX11_envy_50 hM.k0 hM.b0 hM.l0 rfl (by decide) (by decide) ?_
          refine aw_icmp_ge (tgt := 137) dX11_envy_51 rfl (fun c51 => ?_) (fun c51 => ?_)
          · have e2 : d = nPo N - (i + 1) := by
              have := ge_t hN.p (by omega) (show i + 1 + d ≤ nPo N by omega) c51
              omega
            subst e2
            refine aw_iinc dX11_envy_137 rfl (ginc rfl) (by decide) rfl ?_
            refine aw_goto (tgt := 22) dX11_envy_140 rfl ?_
            have := ih hlt
            rw [envO] at this
            exact this _
          · have hlt2 := ge_f hN.p (by omega) (show i + 1 + d ≤ nPo N by omega) c51
            have hlt3 : d < nPo N - (i + 1) := by omega
            refine aw_aload_n dX11_envy_54 rfl ?_
            refine aw_iload dX11_envy_55 rfl ?_
            refine aw_iconst (v := 4) dX11_envy_57 rfl ?_
            refine aw_cV dX11_envy_58 kX11_205 mX11_of (rX11_of (p := i) (w := 4) hM hI rfl rfl (by omega)) (Nat.le_of_ble_eq_true rfl) hM.k ⟨by decide, rfl⟩ hM.b rfl rfl (Nat.le_of_ble_eq_true rfl) ⟨Nat.le_refl _, Nat.le_refl _⟩ ?_
            refine aw_iconst (v := (-1)) dX11_envy_61 rfl ?_
            refine aw_icmp_eq (tgt := 131) dX11_envy_62 rfl (fun c62 => ?_) (fun c62 => ?_)
            · refine aw_iinc dX11_envy_131 rfl (ginc rfl) (by decide) rfl ?_
              refine aw_goto (tgt := 41) dX11_envy_134 rfl ?_
              have ev : envP N i (i + 1 + d) = false := by simp [envP, c62]
              have := ihd hlt3
              rw [envI, ev] at this
              exact this
            · refine aw_aload_n dX11_envy_65 rfl ?_
              refine aw_iload dX11_envy_66 rfl ?_
              refine aw_iconst (v := 4) dX11_envy_68 rfl ?_
              refine aw_cV dX11_envy_69 kX11_205 mX11_of (rX11_of (p := i + 1 + d) (w := 4) hM hI rfl rfl (by omega)) (Nat.le_of_ble_eq_true rfl) hM.k ⟨by decide, rfl⟩ hM.b rfl rfl (Nat.le_of_ble_eq_true rfl) ⟨Nat.le_refl _, Nat.le_refl _⟩ ?_
              refine aw_iconst (v := (-1)) dX11_envy_72 rfl ?_
              refine aw_icmp_eq (tgt := 131) dX11_envy_73 rfl (fun c73 => ?_) (fun c73 => ?_)
              · refine aw_iinc dX11_envy_131 rfl (ginc rfl) (by decide) rfl ?_
                refine aw_goto (tgt := 41) dX11_envy_134 rfl ?_
                have ev : envP N i (i + 1 + d) = false := by simp [envP, c73]
                have := ihd hlt3
                rw [envI, ev] at this
                exact this
              · obtain ⟨hq, hq10, eq4⟩ := (hN.ho (show i + 1 + d < 8 by omega)).resolve_left c73
                obtain ⟨hp, hp10, ep4⟩ := (hN.ho (show i < 8 by omega)).resolve_left c62
                refine aw_aload_n dX11_envy_76 rfl ?_
                refine aw_iload dX11_envy_77 rfl ?_
                refine aw_aload_n dX11_envy_79 rfl ?_
                refine aw_iload dX11_envy_80 rfl ?_
                refine aw_iconst (v := 4) dX11_envy_82 rfl ?_
                refine aw_cV dX11_envy_83 kX11_205 mX11_of (rX11_of (p := i + 1 + d) (w := 4) hM hI rfl rfl (by omega)) (Nat.le_of_ble_eq_true rfl) hM.k ⟨by decide, rfl⟩ hM.b rfl rfl (Nat.le_of_ble_eq_true rfl) ⟨Nat.le_refl _, Nat.le_refl _⟩ ?_
                refine aw_cV dX11_envy_86 kX11_360 mX11_isRather (rX11_isRather (p := i) (h := hq) hM hI hN rfl eq4 (by omega) hq10) (Nat.le_of_ble_eq_true rfl) hM.k ⟨by decide, rfl⟩ hM.b rfl rfl (Nat.le_of_ble_eq_true rfl) ⟨Nat.le_refl _, Nat.le_refl _⟩ ?_
                rw [← eq4]
                refine aw_if_eq (tgt := 131) dX11_envy_89 rfl (fun c89 => ?_) (fun c89 => ?_)
                · refine aw_iinc dX11_envy_131 rfl (ginc rfl) (by decide) rfl ?_
                  refine aw_goto (tgt := 41) dX11_envy_134 rfl ?_
                  have ev : envP N i (i + 1 + d) = false := by simp [envP, bI0.mp c89]
                  have := ihd hlt3
                  rw [envI, ev] at this
                  exact this
                · refine aw_aload_n dX11_envy_92 rfl ?_
                  refine aw_iload dX11_envy_93 rfl ?_
                  refine aw_aload_n dX11_envy_95 rfl ?_
                  refine aw_iload dX11_envy_96 rfl ?_
                  refine aw_iconst (v := 4) dX11_envy_98 rfl ?_
                  refine aw_cV dX11_envy_99 kX11_205 mX11_of (rX11_of (p := i) (w := 4) hM hI rfl rfl (by omega)) (Nat.le_of_ble_eq_true rfl) hM.k ⟨by decide, rfl⟩ hM.b rfl rfl (Nat.le_of_ble_eq_true rfl) ⟨Nat.le_refl _, Nat.le_refl _⟩ ?_
                  refine aw_cV dX11_envy_102 kX11_360 mX11_isRather (rX11_isRather (p := i + 1 + d) (h := hp) hM hI hN rfl ep4 (by omega) hp10) (Nat.le_of_ble_eq_true rfl) hM.k ⟨by decide, rfl⟩ hM.b rfl rfl (Nat.le_of_ble_eq_true rfl) ⟨Nat.le_refl _, Nat.le_refl _⟩ ?_
                  rw [← ep4]
                  refine aw_if_ne (tgt := 111) dX11_envy_105 rfl (fun c105 => ?_) (fun c105 => ?_)
                  · refine aw_iload_n dX11_envy_111 rfl ?_
                    refine aw_if_ne (tgt := 126) dX11_envy_112 rfl (fun c112 => ?_) (fun c112 => ?_)
                    · refine aw_iload_n dX11_envy_126 rfl ?_
                      refine aw_istore_n dX11_envy_127 (by decide) rfl ?_
                      refine aw_iinc dX11_envy_128 rfl rfl (by decide) rfl ?_
                      refine aw_iinc dX11_envy_131 rfl (ginc rfl) (by decide) rfl ?_
                      refine aw_goto (tgt := 41) dX11_envy_134 rfl ?_
                      have ev : envP N i (i + 1 + d) = true := by simp [envP, c62, c73, bI1.mp c89, bI1.mp c105]
                      have := ihd hlt3
                      rw [envI, ev] at this
                      simp only [if_neg c112, if_true] at this
                      exact this
                    · refine aw_bipush (v := 8) dX11_envy_115 rfl ?_
                      refine aw_iload dX11_envy_117 rfl ?_
                      refine aw_imul dX11_envy_119 ?_
                      refine aw_iload dX11_envy_120 rfl ?_
                      refine aw_iadd dX11_envy_122 ?_
                      refine aw_goto (tgt := 127) dX11_envy_123 rfl ?_
                      refine aw_istore_n dX11_envy_127 (by decide) rfl ?_
                      refine aw_iinc dX11_envy_128 rfl rfl (by decide) rfl ?_
                      refine aw_iinc dX11_envy_131 rfl (ginc rfl) (by decide) rfl ?_
                      refine aw_goto (tgt := 41) dX11_envy_134 rfl ?_
                      have ev : envP N i (i + 1 + d) = true := by simp [envP, c62, c73, bI1.mp c89, bI1.mp c105]
                      have := ihd hlt3
                      rw [envI, ev] at this
                      simp only [if_pos c112, if_true] at this
                      rw [← ix8 (p := i) (q := i + 1 + d)] at this
                      exact this
                  · refine aw_goto (tgt := 131) dX11_envy_108 rfl ?_
                    refine aw_iinc dX11_envy_131 rfl (ginc rfl) (by decide) rfl ?_
                    refine aw_goto (tgt := 41) dX11_envy_134 rfl ?_
                    have ev : envP N i (i + 1 + d) = false := by simp [envP, bI0.mp c105]
                    have := ihd hlt3
                    rw [envI, ev] at this
                    exact this
        exact inner 0 (Nat.zero_le _)
    exact loop 0 (Nat.zero_le _) none
  · refine aw_aload_n dX11_envy_9 rfl ?_
    refine aw_iconst (v := 1) dX11_envy_10 rfl ?_
    refine aw_cV dX11_envy_11 kX11_186 mX11_refuse (sX11_refuse hM) (Nat.le_of_ble_eq_true rfl) hM.k ⟨by decide, rfl⟩ hM.b rfl rfl (Nat.le_of_ble_eq_true rfl) ⟨Nat.le_refl _, Nat.le_refl _⟩ ?_
    refine aw_iret q rfl dX11_envy_14 ⟨Nat.le_refl _, Nat.le_refl _⟩ ?_
    exact Tl.no (by simp [aEnvy, bI0.mp c6])
end RefS
