/-! the reference: what came, what weeks ahead bring -/
section RefS
variable {z n m : Nat} {sh : Shp} {I : MI} {L : ML}
set_option maxHeartbeats 4000000 in
set_option maxRecDepth 100000 in
theorem rX11_let (hM : IsM n sh m) {N : Nat → Int32} (hI : I (m + 1) = N) (hN : Cn N) {k w : Int32} : CM yX11_let cX11_let 3 (Option.some .int) 2 0 0 [.ref m, .int k, .int w] z n sh I L (Tl (aLet N k w) z n sh I L m) := by
  refine CM.go [some (.ref m), some (.int k), some (.int w)] rfl rfl (Nat.le_of_ble_eq_true rfl) (fun X g q => ?_)
  refine aw_iload_n dX11_let_0 rfl ?_
  refine aw_iconst (v := 0) dX11_let_1 rfl ?_
  refine aw_bipush (v := 7) dX11_let_2 rfl ?_
  refine aw_cS dX11_let_4 kX11_71 mX11_isFrom (sX11_isFrom hM) (Nat.le_of_ble_eq_true rfl) rfl rfl (Nat.le_of_ble_eq_true rfl) ⟨Nat.le_refl _, Nat.le_refl _⟩ ?_
  refine aw_if_ne (tgt := 16) dX11_let_7 rfl (fun c7 => ?_) (fun c7 => ?_)
  · have f7 := bI1.mp c7
    obtain ⟨v, hv, rfl⟩ := from_nI (B := 7) (by decide) f7
    refine aw_iload_n dX11_let_16 rfl ?_
    refine aw_iconst (v := 0) dX11_let_17 rfl ?_
    refine aw_aload_n dX11_let_18 rfl ?_
    refine aw_getR (b := m + 1) dX11_let_19 fX11_7 hM.k hM.b rfl hM.r0 ?_
    refine aw_sipush (v := 233) dX11_let_22 rfl ?_
    refine aw_ialdH (k := 233) hI dX11_let_25 hM.k0 hM.b0 hM.l0 rfl (by decide) (by decide) ?_
    refine aw_iconst (v := 1) dX11_let_26 rfl ?_
    refine aw_isub dX11_let_27 ?_
    refine aw_cS dX11_let_28 kX11_71 mX11_isFrom (sX11_isFrom hM) (Nat.le_of_ble_eq_true rfl) rfl rfl (Nat.le_of_ble_eq_true rfl) ⟨Nat.le_refl _, Nat.le_refl _⟩ ?_
    refine aw_if_ne (tgt := 40) dX11_let_31 rfl (fun c31 => ?_) (fun c31 => ?_)
    · have f31 := bI1.mp c31
      obtain ⟨i, hi, rfl⟩ := from_ix hN.l (by have := hN.l8; omega) f31
      have hi8 := hN.l8
      have f8 : mFrom (nI v) 0 7 = true := f7
      refine aw_aload_n dX11_let_40 rfl ?_
      refine aw_iload_n dX11_let_41 rfl ?_
      refine aw_iconst (v := 5) dX11_let_42 rfl ?_
      refine aw_icmp_ne (tgt := 57) dX11_let_43 rfl (fun c43 => ?_) (fun c43 => ?_)
      · refine aw_aload_n dX11_let_57 rfl ?_
        refine aw_iload_n dX11_let_58 rfl ?_
        refine aw_iload_n dX11_let_59 rfl ?_
        refine aw_cV dX11_let_60 kX11_259 mX11_let0 (rX11_let0 (k := i) (w := v) hM hI rfl rfl (by omega)) (Nat.le_of_ble_eq_true rfl) hM.k ⟨by decide, rfl⟩ hM.b rfl rfl (Nat.le_of_ble_eq_true rfl) ⟨Nat.le_refl _, Nat.le_refl _⟩ ?_
        refine aw_cV dX11_let_63 kX11_199 mX11_gives (sX11_gives hM) (Nat.le_of_ble_eq_true rfl) hM.k ⟨by decide, rfl⟩ hM.b rfl rfl (Nat.le_of_ble_eq_true rfl) ⟨Nat.le_refl _, Nat.le_refl _⟩ ?_
        refine aw_iret q rfl dX11_let_66 ⟨Nat.le_refl _, Nat.le_refl _⟩ ?_
        refine Tl.ok ?_
        simp [aLet, f8, f31, c43, nI_clamp (show i < 2 ^ 31 by omega), nI_clamp (show v < 2 ^ 31 by omega)]
      · refine aw_aload_n dX11_let_46 rfl ?_
        refine aw_iload_n dX11_let_47 rfl ?_
        refine aw_iconst (v := 5) dX11_let_48 rfl ?_
        refine aw_cV dX11_let_49 kX11_259 mX11_let0 (rX11_let0 (k := i) (w := 5) hM hI rfl rfl (by omega)) (Nat.le_of_ble_eq_true rfl) hM.k ⟨by decide, rfl⟩ hM.b rfl rfl (Nat.le_of_ble_eq_true rfl) ⟨Nat.le_refl _, Nat.le_refl _⟩ ?_
        refine aw_iconst (v := 1) dX11_let_52 rfl ?_
        refine aw_iand dX11_let_53 ?_
        refine aw_goto (tgt := 63) dX11_let_54 rfl ?_
        refine aw_cV dX11_let_63 kX11_199 mX11_gives (sX11_gives hM) (Nat.le_of_ble_eq_true rfl) hM.k ⟨by decide, rfl⟩ hM.b rfl rfl (Nat.le_of_ble_eq_true rfl) ⟨Nat.le_refl _, Nat.le_refl _⟩ ?_
        refine aw_iret q rfl dX11_let_66 ⟨Nat.le_refl _, Nat.le_refl _⟩ ?_
        have v5 : v = 5 := (nI_eq (by omega) (by decide)).mp c43
        subst v5
        refine Tl.ok ?_
        have f9 : mFrom (5 : Int32) 0 7 = true := f7
        show aLet N (nI i) (5 : Int32) = _
        simp [aLet, f9, f31, nI_clamp (show i < 2 ^ 31 by omega)]
    · refine aw_aload_n dX11_let_34 rfl ?_
      refine aw_iconst (v := 2) dX11_let_35 rfl ?_
      refine aw_cV dX11_let_36 kX11_186 mX11_refuse (sX11_refuse hM) (Nat.le_of_ble_eq_true rfl) hM.k ⟨by decide, rfl⟩ hM.b rfl rfl (Nat.le_of_ble_eq_true rfl) ⟨Nat.le_refl _, Nat.le_refl _⟩ ?_
      refine aw_iret q rfl dX11_let_39 ⟨Nat.le_refl _, Nat.le_refl _⟩ ?_
      have f8 : mFrom (nI v) 0 7 = true := f7
      exact Tl.no (by simp [aLet, f8, bI0.mp c31])
  · 
    refine aw_aload_n dX11_let_10 rfl ?_
    refine aw_iconst (v := 1) dX11_let_11 rfl ?_
    refine aw_cV dX11_let_12 kX11_186 mX11_refuse (sX11_refuse hM) (Nat.le_of_ble_eq_true rfl) hM.k ⟨by decide, rfl⟩ hM.b rfl rfl (Nat.le_of_ble_eq_true rfl) ⟨Nat.le_refl _, Nat.le_refl _⟩ ?_
    refine aw_iret q rfl dX11_let_15 ⟨Nat.le_refl _, Nat.le_refl _⟩ ?_
    exact Tl.no (by simp [aLet, bI0.mp c7])
set_option maxHeartbeats 4000000 in
set_option maxRecDepth 100000 in
theorem rX11_offer (hM : IsM n sh m) {N : Nat → Int32} (hI : I (m + 1) = N) (hN : Cn N) {k w : Int32} : CM yX11_offer cX11_offer 3 (Option.some .int) 2 0 0 [.ref m, .int k, .int w] z n sh I L (Tl (aOffer N k w) z n sh I L m) := by
  refine CM.go [some (.ref m), some (.int k), some (.int w)] rfl rfl (Nat.le_of_ble_eq_true rfl) (fun X g q => ?_)
  refine aw_iload_n dX11_offer_0 rfl ?_
  refine aw_iconst (v := 0) dX11_offer_1 rfl ?_
  refine aw_iconst (v := 2) dX11_offer_2 rfl ?_
  refine aw_cS dX11_offer_3 kX11_71 mX11_isFrom (sX11_isFrom hM) (Nat.le_of_ble_eq_true rfl) rfl rfl (Nat.le_of_ble_eq_true rfl) ⟨Nat.le_refl _, Nat.le_refl _⟩ ?_
  refine aw_if_ne (tgt := 15) dX11_offer_6 rfl (fun c6 => ?_) (fun c6 => ?_)
  · have f6 := bI1.mp c6
    obtain ⟨v, hv, rfl⟩ := from_nI (B := 2) (by decide) f6
    refine aw_iload_n dX11_offer_15 rfl ?_
    refine aw_iconst (v := 0) dX11_offer_16 rfl ?_
    refine aw_aload_n dX11_offer_17 rfl ?_
    refine aw_getR (b := m + 1) dX11_offer_18 fX11_7 hM.k hM.b rfl hM.r0 ?_
    refine aw_sipush (v := 299) dX11_offer_21 rfl ?_
    refine aw_ialdH (k := 299) hI dX11_offer_24 hM.k0 hM.b0 hM.l0 rfl (by decide) (by decide) ?_
    refine aw_iconst (v := 1) dX11_offer_25 rfl ?_
    refine aw_isub dX11_offer_26 ?_
    refine aw_cS dX11_offer_27 kX11_71 mX11_isFrom (sX11_isFrom hM) (Nat.le_of_ble_eq_true rfl) rfl rfl (Nat.le_of_ble_eq_true rfl) ⟨Nat.le_refl _, Nat.le_refl _⟩ ?_
    refine aw_if_eq (tgt := 54) dX11_offer_30 rfl (fun c30 => ?_) (fun c30 => ?_)
    · refine aw_aload_n dX11_offer_54 rfl ?_
      refine aw_iconst (v := 2) dX11_offer_55 rfl ?_
      refine aw_cV dX11_offer_56 kX11_186 mX11_refuse (sX11_refuse hM) (Nat.le_of_ble_eq_true rfl) hM.k ⟨by decide, rfl⟩ hM.b rfl rfl (Nat.le_of_ble_eq_true rfl) ⟨Nat.le_refl _, Nat.le_refl _⟩ ?_
      refine aw_iret q rfl dX11_offer_59 ⟨Nat.le_refl _, Nat.le_refl _⟩ ?_
      have f8 : mFrom (nI v) 0 2 = true := f6
      exact Tl.no (by simp [aOffer, f8, bI0.mp c30])
    · have f30 := bI1.mp c30
      obtain ⟨i, hi, rfl⟩ := from_ix hN.o (by have := hN.o30; omega) f30
      have hi30 := hN.o30
      have f8 : mFrom (nI v) 0 2 = true := f6
      refine aw_aload_n dX11_offer_33 rfl ?_
      refine aw_aload_n dX11_offer_34 rfl ?_
      refine aw_getR (b := m + 1) dX11_offer_35 fX11_7 hM.k hM.b rfl hM.r0 ?_
      refine aw_sipush (v := 300) dX11_offer_38 rfl ?_
      refine aw_iconst (v := 3) dX11_offer_41 rfl ?_
      refine aw_iload_n dX11_offer_42 rfl ?_
      refine aw_imul dX11_offer_43 ?_
      refine aw_iadd dX11_offer_44 ?_
      refine aw_iload_n dX11_offer_45 rfl ?_
      refine aw_iadd dX11_offer_46 ?_
      refine aw_ialdH (k := ((300 + (3 * i)) + v)) hI dX11_offer_47 hM.k0 hM.b0 hM.l0 (gadd (gadd rfl (gmul rfl rfl)) rfl) (by omega) (by decide) ?_
      refine aw_cV dX11_offer_48 kX11_199 mX11_gives (sX11_gives hM) (Nat.le_of_ble_eq_true rfl) hM.k ⟨by decide, rfl⟩ hM.b rfl rfl (Nat.le_of_ble_eq_true rfl) ⟨Nat.le_refl _, Nat.le_refl _⟩ ?_
      refine aw_goto (tgt := 59) dX11_offer_51 rfl ?_
      refine aw_iret q rfl dX11_offer_59 ⟨Nat.le_refl _, Nat.le_refl _⟩ ?_
      refine Tl.ok ?_
      simp [aOffer, f8, f30, nI_clamp (show i < 2 ^ 31 by omega), nI_clamp (show v < 2 ^ 31 by omega)]
  · refine aw_aload_n dX11_offer_9 rfl ?_
    refine aw_iconst (v := 1) dX11_offer_10 rfl ?_
    refine aw_cV dX11_offer_11 kX11_186 mX11_refuse (sX11_refuse hM) (Nat.le_of_ble_eq_true rfl) hM.k ⟨by decide, rfl⟩ hM.b rfl rfl (Nat.le_of_ble_eq_true rfl) ⟨Nat.le_refl _, Nat.le_refl _⟩ ?_
    refine aw_iret q rfl dX11_offer_14 ⟨Nat.le_refl _, Nat.le_refl _⟩ ?_
    exact Tl.no (by simp [aOffer, bI0.mp c6])
set_option maxHeartbeats 4000000 in
set_option maxRecDepth 100000 in
theorem rX11_greatestChain (hM : IsM n sh m) {N : Nat → Int32} (hI : I (m + 1) = N) (hN : Cn N)  : CM yX11_greatestChain cX11_greatestChain 3 (Option.some .int) 2 0 0 [.ref m] z n sh I L (Pst (some (.int (mChain N))) z n sh I L) := by
  refine CM.go [some (.ref m), none, none] rfl rfl (Nat.le_of_ble_eq_true rfl) (fun X g q => ?_)
  have loop : ∀ i, i ≤ nLe N → ∀ (acc : Int32), acc = imaxf (fun k => N (234 + 8 * k + 3)) i → AW X g RX11 cX11_greatestChain 3 (2, 0, 0) (z, n, sh, 0, 0) (I) (L) 4 [some (.ref m), some (.int acc), some (.int (nI i))] [] := by
    refine up_loop (fun i hi ih acc ha => ?_)
    have h8 := hN.l8
    refine aw_iload_n dX11_greatestChain_4 rfl ?_
    refine aw_aload_n dX11_greatestChain_5 rfl ?_
    refine aw_getR (b := m + 1) dX11_greatestChain_6 fX11_7 hM.k hM.b rfl hM.r0 ?_
    refine aw_sipush (v := 233) dX11_greatestChain_9 rfl ?_
    refine aw_ialdH (k := 233) hI dX11_greatestChain_12 hM.k0 hM.b0 hM.l0 rfl (by decide) (by decide) ?_
    refine aw_icmp_ge (tgt := 33) dX11_greatestChain_13 rfl (fun c13 => ?_) (fun c13 => ?_)
    · have e := ge_t hN.l (by have := hN.l8; omega) hi c13
      refine aw_iload_n dX11_greatestChain_33 rfl ?_
      refine aw_iret q rfl dX11_greatestChain_34 ⟨Nat.le_refl _, Nat.le_refl _⟩ ?_
      exact Pst.iv (by rw [ha, e]; rfl)
    · have hlt := ge_f hN.l (by have := hN.l8; omega) hi c13
      refine aw_iload_n dX11_greatestChain_16 rfl ?_
      refine aw_aload_n dX11_greatestChain_17 rfl ?_
      refine aw_iload_n dX11_greatestChain_18 rfl ?_
      refine aw_iconst (v := 3) dX11_greatestChain_19 rfl ?_
      refine aw_cV dX11_greatestChain_20 kX11_259 mX11_let0 (rX11_let0 (k := i) (w := 3) hM hI rfl rfl (by omega)) (Nat.le_of_ble_eq_true rfl) hM.k ⟨by decide, rfl⟩ hM.b rfl rfl (Nat.le_of_ble_eq_true rfl) ⟨Nat.le_refl _, Nat.le_refl _⟩ ?_
      refine aw_mmax dX11_greatestChain_23 kX11_211 (Nat.le_of_ble_eq_true rfl) (Nat.le_of_ble_eq_true rfl) ⟨Nat.le_refl _, Nat.le_refl _⟩ ?_
      refine aw_istore_n dX11_greatestChain_26 (by decide) rfl ?_
      refine aw_iinc dX11_greatestChain_27 rfl (ginc rfl) (by decide) rfl ?_
      refine aw_goto (tgt := 4) dX11_greatestChain_30 rfl ?_
      exact ih hlt _ (by rw [imaxf, ← ha])
  refine aw_iconst (v := 0) dX11_greatestChain_0 rfl ?_
  refine aw_istore_n dX11_greatestChain_1 (by decide) rfl ?_
  refine aw_iconst (v := 0) dX11_greatestChain_2 rfl ?_
  refine aw_istore_n dX11_greatestChain_3 (by decide) rfl ?_
  exact loop 0 (Nat.zero_le _) 0 rfl
set_option maxHeartbeats 4000000 in
set_option maxRecDepth 100000 in
theorem rX11_allPassed (hM : IsM n sh m) {N : Nat → Int32} (hI : I (m + 1) = N) (hN : Cn N)  : CM yX11_allPassed cX11_allPassed 3 (Option.some .int) 3 0 0 [.ref m] z n sh I L (Pst (some (.int (mPassed N))) z n sh I L) := by
  refine CM.go [some (.ref m), none, none] rfl rfl (Nat.le_of_ble_eq_true rfl) (fun X g q => ?_)
  have loop : ∀ i, i ≤ nPo N → ∀ (acc : Int32), acc = isum (fun p => N (80 + 18 * p + 9)) i → AW X g RX11 cX11_allPassed 3 (3, 0, 0) (z, n, sh, 0, 0) (I) (L) 4 [some (.ref m), some (.int acc), some (.int (nI i))] [] := by
    refine up_loop (fun i hi ih acc ha => ?_)
    have h8 := hN.p8
    refine aw_iload_n dX11_allPassed_4 rfl ?_
    refine aw_aload_n dX11_allPassed_5 rfl ?_
    refine aw_getR (b := m + 1) dX11_allPassed_6 fX11_7 hM.k hM.b rfl hM.r0 ?_
    refine aw_sipush (v := 231) dX11_allPassed_9 rfl ?_
    refine aw_ialdH (k := 231) hI dX11_allPassed_12 hM.k0 hM.b0 hM.l0 rfl (by decide) (by decide) ?_
    refine aw_icmp_ge (tgt := 32) dX11_allPassed_13 rfl (fun c13 => ?_) (fun c13 => ?_)
    · have e := ge_t hN.p (by have := hN.p8; omega) hi c13
      refine aw_iload_n dX11_allPassed_32 rfl ?_
      refine aw_iret q rfl dX11_allPassed_33 ⟨Nat.le_refl _, Nat.le_refl _⟩ ?_
      exact Pst.iv (by rw [ha, e]; rfl)
    · have hlt := ge_f hN.p (by have := hN.p8; omega) hi c13
      refine aw_iload_n dX11_allPassed_16 rfl ?_
      refine aw_aload_n dX11_allPassed_17 rfl ?_
      refine aw_iload_n dX11_allPassed_18 rfl ?_
      refine aw_bipush (v := 9) dX11_allPassed_19 rfl ?_
      refine aw_cV dX11_allPassed_21 kX11_205 mX11_of (rX11_of (p := i) (w := 9) hM hI rfl rfl (by omega)) (Nat.le_of_ble_eq_true rfl) hM.k ⟨by decide, rfl⟩ hM.b rfl rfl (Nat.le_of_ble_eq_true rfl) ⟨Nat.le_refl _, Nat.le_refl _⟩ ?_
      refine aw_iadd dX11_allPassed_24 ?_
      refine aw_istore_n dX11_allPassed_25 (by decide) rfl ?_
      refine aw_iinc dX11_allPassed_26 rfl (ginc rfl) (by decide) rfl ?_
      refine aw_goto (tgt := 4) dX11_allPassed_29 rfl ?_
      exact ih hlt _ (by rw [isum, ← ha])
  refine aw_iconst (v := 0) dX11_allPassed_0 rfl ?_
  refine aw_istore_n dX11_allPassed_1 (by decide) rfl ?_
  refine aw_iconst (v := 0) dX11_allPassed_2 rfl ?_
  refine aw_istore_n dX11_allPassed_3 (by decide) rfl ?_
  exact loop 0 (Nat.zero_le _) 0 rfl
set_option maxHeartbeats 4000000 in
set_option maxRecDepth 100000 in
theorem rX11_tally (hM : IsM n sh m) {N : Nat → Int32} (hI : I (m + 1) = N) (hN : Cn N) {x : Int32} : CM yX11_tally cX11_tally 4 (Option.some .int) 4 0 0 [.ref m, .int x] z n sh I L (Tl (aTally N x) z n sh I L m) := by
  refine CM.go [some (.ref m), some (.int x), none, none] rfl rfl (Nat.le_of_ble_eq_true rfl) (fun X g q => ?_)
  refine aw_iload_n dX11_tally_0 rfl ?_
  refine aw_iconst (v := 0) dX11_tally_1 rfl ?_
  refine aw_iconst (v := 4) dX11_tally_2 rfl ?_
  refine aw_cS dX11_tally_3 kX11_71 mX11_isFrom (sX11_isFrom hM) (Nat.le_of_ble_eq_true rfl) rfl rfl (Nat.le_of_ble_eq_true rfl) ⟨Nat.le_refl _, Nat.le_refl _⟩ ?_
  refine aw_if_ne (tgt := 15) dX11_tally_6 rfl (fun c6 => ?_) (fun c6 => ?_)
  · have f6 := bI1.mp c6
    refine aw_iload_n dX11_tally_15 rfl ?_
    refine aw_if_ne (tgt := 28) dX11_tally_16 rfl (fun c16 => ?_) (fun c16 => ?_)
    · refine aw_iload_n dX11_tally_28 rfl ?_
      refine aw_iconst (v := 2) dX11_tally_29 rfl ?_
      refine aw_icmp_ne (tgt := 42) dX11_tally_30 rfl (fun c30 => ?_) (fun c30 => ?_)
      · refine aw_iload_n dX11_tally_42 rfl ?_
        refine aw_iconst (v := 4) dX11_tally_43 rfl ?_
        refine aw_icmp_ne (tgt := 56) dX11_tally_44 rfl (fun c44 => ?_) (fun c44 => ?_)
        · refine aw_iconst (v := 0) dX11_tally_56 rfl ?_
          refine aw_istore_n dX11_tally_57 (by decide) rfl ?_
          refine aw_iconst (v := 0) dX11_tally_58 rfl ?_
          refine aw_istore_n dX11_tally_59 (by decide) rfl ?_
          have loop : ∀ i, i ≤ nLe N → ∀ acc : Int32, acc = isum (tallyF N x) i → AW X g RX11 cX11_tally 4 (4, 0, 0) (z, n, sh, 0, 0) (I) (L) 60 [some (.ref m), some (.int x), some (.int acc), some (.int (nI i))] [] := by
            refine up_loop (fun i hi ih acc ha => ?_)
            have h8 := hN.l8
            refine aw_iload_n dX11_tally_60 rfl ?_
            refine aw_aload_n dX11_tally_61 rfl ?_
            refine aw_getR (b := m + 1) dX11_tally_62 fX11_7 hM.k hM.b rfl hM.r0 ?_
            refine aw_sipush (v := 233) dX11_tally_65 rfl ?_
            refine aw_ialdH (k := 233) hI dX11_tally_68 hM.k0 hM.b0 hM.l0 rfl (by decide) (by decide) ?_
            refine aw_icmp_ge (tgt := 129) dX11_tally_69 rfl (fun c69 => ?_) (fun c69 => ?_)
            · have e := ge_t hN.l (by have := hN.l8; omega) hi c69
              refine aw_aload_n dX11_tally_129 rfl ?_
              refine aw_iload_n dX11_tally_130 rfl ?_
              refine aw_cV dX11_tally_131 kX11_199 mX11_gives (sX11_gives hM) (Nat.le_of_ble_eq_true rfl) hM.k ⟨by decide, rfl⟩ hM.b rfl rfl (Nat.le_of_ble_eq_true rfl) ⟨Nat.le_refl _, Nat.le_refl _⟩ ?_
              refine aw_iret q rfl dX11_tally_134 ⟨Nat.le_refl _, Nat.le_refl _⟩ ?_
              refine Tl.ok ?_
              simp [aTally, f6, c16, c30, c44, ha, e]
            · have hlt := ge_f hN.l (by have := hN.l8; omega) hi c69
              refine aw_iload_n dX11_tally_72 rfl ?_
              refine aw_iload_n dX11_tally_73 rfl ?_
              refine aw_iconst (v := 1) dX11_tally_74 rfl ?_
              refine aw_icmp_ne (tgt := 91) dX11_tally_75 rfl (fun c75 => ?_) (fun c75 => ?_)
              · refine aw_aload_n dX11_tally_91 rfl ?_
                refine aw_aload_n dX11_tally_92 rfl ?_
                refine aw_iload_n dX11_tally_93 rfl ?_
                refine aw_iconst (v := 0) dX11_tally_94 rfl ?_
                obtain ⟨jp, hjp, elp⟩ := hN.lp hlt
                obtain ⟨jh, hjh, elh⟩ := hN.lh hlt
                have hcp : lPo N i = jp := by unfold lPo; rw [elp]; exact nI_clamp (by omega)
                have hch : lHo N i = jh := by unfold lHo; rw [elh]; exact nI_clamp (by omega)
                refine aw_cV dX11_tally_95 kX11_259 mX11_let0 (rX11_let0 (k := i) (w := 0) hM hI rfl rfl (by omega)) (Nat.le_of_ble_eq_true rfl) hM.k ⟨by decide, rfl⟩ hM.b rfl rfl (Nat.le_of_ble_eq_true rfl) ⟨Nat.le_refl _, Nat.le_refl _⟩ ?_
                refine aw_iconst (v := 2) dX11_tally_98 rfl ?_
                refine aw_cV dX11_tally_99 kX11_205 mX11_of (rX11_of (p := jp) (w := 2) hM hI elp rfl (by omega)) (Nat.le_of_ble_eq_true rfl) hM.k ⟨by decide, rfl⟩ hM.b rfl rfl (Nat.le_of_ble_eq_true rfl) ⟨Nat.le_refl _, Nat.le_refl _⟩ ?_
                refine aw_aload_n dX11_tally_102 rfl ?_
                refine aw_aload_n dX11_tally_103 rfl ?_
                refine aw_iload_n dX11_tally_104 rfl ?_
                refine aw_iconst (v := 1) dX11_tally_105 rfl ?_
                refine aw_cV dX11_tally_106 kX11_259 mX11_let0 (rX11_let0 (k := i) (w := 1) hM hI rfl rfl (by omega)) (Nat.le_of_ble_eq_true rfl) hM.k ⟨by decide, rfl⟩ hM.b rfl rfl (Nat.le_of_ble_eq_true rfl) ⟨Nat.le_refl _, Nat.le_refl _⟩ ?_
                refine aw_iconst (v := 1) dX11_tally_109 rfl ?_
                refine aw_cV dX11_tally_110 kX11_202 mX11_home0 (rX11_home0 (h := jh) (w := 1) hM hI elh rfl (by omega)) (Nat.le_of_ble_eq_true rfl) hM.k ⟨by decide, rfl⟩ hM.b rfl rfl (Nat.le_of_ble_eq_true rfl) ⟨Nat.le_refl _, Nat.le_refl _⟩ ?_
                refine awt_icmp_ne (A := 1) (B := 0) dX11_tally_113 dX11_tally_116 dX11_tally_117 dX11_tally_120 rfl rfl ?_
                refine aw_iadd dX11_tally_121 ?_
                refine aw_istore_n dX11_tally_122 (by decide) rfl ?_
                refine aw_iinc dX11_tally_123 rfl (ginc rfl) (by decide) rfl ?_
                refine aw_goto (tgt := 60) dX11_tally_126 rfl ?_
                refine ih hlt _ ?_
                rw [isum, ← ha]
                simp [tallyF, bB, c75, hcp, hch]
              · refine aw_aload_n dX11_tally_78 rfl ?_
                refine aw_iload_n dX11_tally_79 rfl ?_
                refine aw_iconst (v := 3) dX11_tally_80 rfl ?_
                refine aw_cV dX11_tally_81 kX11_259 mX11_let0 (rX11_let0 (k := i) (w := 3) hM hI rfl rfl (by omega)) (Nat.le_of_ble_eq_true rfl) hM.k ⟨by decide, rfl⟩ hM.b rfl rfl (Nat.le_of_ble_eq_true rfl) ⟨Nat.le_refl _, Nat.le_refl _⟩ ?_
                refine aw_iconst (v := 1) dX11_tally_84 rfl ?_
                refine aw_icmp_ne (tgt := 120) dX11_tally_85 rfl (fun c85 => ?_) (fun c85 => ?_)
                · refine aw_iconst (v := 0) dX11_tally_120 rfl ?_
                  refine aw_iadd dX11_tally_121 ?_
                  refine aw_istore_n dX11_tally_122 (by decide) rfl ?_
                  refine aw_iinc dX11_tally_123 rfl (ginc rfl) (by decide) rfl ?_
                  refine aw_goto (tgt := 60) dX11_tally_126 rfl ?_
                  refine ih hlt _ ?_
                  rw [isum, ← ha]
                  simp [tallyF, bB, c75, c85]
                · refine aw_goto (tgt := 116) dX11_tally_88 rfl ?_
                  refine aw_iconst (v := 1) dX11_tally_116 rfl ?_
                  refine aw_goto (tgt := 121) dX11_tally_117 rfl ?_
                  refine aw_iadd dX11_tally_121 ?_
                  refine aw_istore_n dX11_tally_122 (by decide) rfl ?_
                  refine aw_iinc dX11_tally_123 rfl (ginc rfl) (by decide) rfl ?_
                  refine aw_goto (tgt := 60) dX11_tally_126 rfl ?_
                  refine ih hlt _ ?_
                  rw [isum, ← ha]
                  simp [tallyF, bB, c75, c85]
          exact loop 0 (Nat.zero_le _) 0 rfl
        · refine aw_aload_n dX11_tally_47 rfl ?_
          refine aw_aload_n dX11_tally_48 rfl ?_
          refine aw_cV dX11_tally_49 kX11_322 mX11_allPassed (rX11_allPassed hM hI hN) (Nat.le_of_ble_eq_true rfl) hM.k ⟨by decide, rfl⟩ hM.b rfl rfl (Nat.le_of_ble_eq_true rfl) ⟨Nat.le_refl _, Nat.le_refl _⟩ ?_
          refine aw_cV dX11_tally_52 kX11_199 mX11_gives (sX11_gives hM) (Nat.le_of_ble_eq_true rfl) hM.k ⟨by decide, rfl⟩ hM.b rfl rfl (Nat.le_of_ble_eq_true rfl) ⟨Nat.le_refl _, Nat.le_refl _⟩ ?_
          refine aw_iret q rfl dX11_tally_55 ⟨Nat.le_refl _, Nat.le_refl _⟩ ?_
          subst c44
          exact Tl.ok (by simp [aTally, f6])
      · refine aw_aload_n dX11_tally_33 rfl ?_
        refine aw_aload_n dX11_tally_34 rfl ?_
        refine aw_cV dX11_tally_35 kX11_262 mX11_livedLets (rX11_livedLets hM hI hN) (Nat.le_of_ble_eq_true rfl) hM.k ⟨by decide, rfl⟩ hM.b rfl rfl (Nat.le_of_ble_eq_true rfl) ⟨Nat.le_refl _, Nat.le_refl _⟩ ?_
        refine aw_cV dX11_tally_38 kX11_199 mX11_gives (sX11_gives hM) (Nat.le_of_ble_eq_true rfl) hM.k ⟨by decide, rfl⟩ hM.b rfl rfl (Nat.le_of_ble_eq_true rfl) ⟨Nat.le_refl _, Nat.le_refl _⟩ ?_
        refine aw_iret q rfl dX11_tally_41 ⟨Nat.le_refl _, Nat.le_refl _⟩ ?_
        subst c30
        exact Tl.ok (by simp [aTally, f6])
    · refine aw_aload_n dX11_tally_19 rfl ?_
      refine aw_aload_n dX11_tally_20 rfl ?_
      refine aw_cV dX11_tally_21 kX11_319 mX11_greatestChain (rX11_greatestChain hM hI hN) (Nat.le_of_ble_eq_true rfl) hM.k ⟨by decide, rfl⟩ hM.b rfl rfl (Nat.le_of_ble_eq_true rfl) ⟨Nat.le_refl _, Nat.le_refl _⟩ ?_
      refine aw_cV dX11_tally_24 kX11_199 mX11_gives (sX11_gives hM) (Nat.le_of_ble_eq_true rfl) hM.k ⟨by decide, rfl⟩ hM.b rfl rfl (Nat.le_of_ble_eq_true rfl) ⟨Nat.le_refl _, Nat.le_refl _⟩ ?_
      refine aw_iret q rfl dX11_tally_27 ⟨Nat.le_refl _, Nat.le_refl _⟩ ?_
      subst c16
      exact Tl.ok (by simp [aTally, f6])
  · refine aw_aload_n dX11_tally_9 rfl ?_
    refine aw_iconst (v := 1) dX11_tally_10 rfl ?_
    refine aw_cV dX11_tally_11 kX11_186 mX11_refuse (sX11_refuse hM) (Nat.le_of_ble_eq_true rfl) hM.k ⟨by decide, rfl⟩ hM.b rfl rfl (Nat.le_of_ble_eq_true rfl) ⟨Nat.le_refl _, Nat.le_refl _⟩ ?_
    refine aw_iret q rfl dX11_tally_14 ⟨Nat.le_refl _, Nat.le_refl _⟩ ?_
    exact Tl.no (by simp [aTally, bI0.mp c6])
set_option maxHeartbeats 4000000 in
set_option maxRecDepth 100000 in
theorem rX11_lack (hM : IsM n sh m) {N : Nat → Int32} (hI : I (m + 1) = N) (hN : Cn N) {x : Int32} : CM yX11_lack cX11_lack 4 (Option.some .int) 4 0 0 [.ref m, .int x] z n sh I L (Tl (aLack N x) z n sh I L m) := by
  refine CM.go [some (.ref m), some (.int x), none, none] rfl rfl (Nat.le_of_ble_eq_true rfl) (fun X g q => ?_)
  refine aw_iload_n dX11_lack_0 rfl ?_
  refine aw_iconst (v := 1) dX11_lack_1 rfl ?_
  refine aw_iconst (v := 4) dX11_lack_2 rfl ?_
  refine aw_cS dX11_lack_3 kX11_71 mX11_isFrom (sX11_isFrom hM) (Nat.le_of_ble_eq_true rfl) rfl rfl (Nat.le_of_ble_eq_true rfl) ⟨Nat.le_refl _, Nat.le_refl _⟩ ?_
  refine aw_if_ne (tgt := 15) dX11_lack_6 rfl (fun c6 => ?_) (fun c6 => ?_)
  · have f6 := bI1.mp c6
    refine aw_iconst (v := 0) dX11_lack_15 rfl ?_
    refine aw_istore_n dX11_lack_16 (by decide) rfl ?_
    refine aw_iconst (v := 0) dX11_lack_17 rfl ?_
    refine aw_istore_n dX11_lack_18 (by decide) rfl ?_
    have loop2 : ∀ i, i ≤ nHo N → ∀ acc : Int32, acc = idn (isum (lackP N x) (nPo N)) (lackH N x) i → AW X g RX11 cX11_lack 4 (4, 0, 0) (z, n, sh, 0, 0) (I) (L) 65 [some (.ref m), some (.int x), some (.int acc), some (.int (nI i))] [] := by
      refine up_loop (fun i hi ih acc ha => ?_)
      have h10 := hN.h10
      refine aw_iload_n dX11_lack_65 rfl ?_
      refine aw_aload_n dX11_lack_66 rfl ?_
      refine aw_getR (b := m + 1) dX11_lack_67 fX11_7 hM.k hM.b rfl hM.r0 ?_
      refine aw_sipush (v := 230) dX11_lack_70 rfl ?_
      refine aw_ialdH (k := 230) hI dX11_lack_73 hM.k0 hM.b0 hM.l0 rfl (by decide) (by decide) ?_
      refine aw_icmp_ge (tgt := 109) dX11_lack_74 rfl (fun c74 => ?_) (fun c74 => ?_)
      · have e := ge_t hN.h (by have := hN.h10; omega) hi c74
        refine aw_aload_n dX11_lack_109 rfl ?_
        refine aw_iload_n dX11_lack_110 rfl ?_
        refine aw_cV dX11_lack_111 kX11_199 mX11_gives (sX11_gives hM) (Nat.le_of_ble_eq_true rfl) hM.k ⟨by decide, rfl⟩ hM.b rfl rfl (Nat.le_of_ble_eq_true rfl) ⟨Nat.le_refl _, Nat.le_refl _⟩ ?_
        refine aw_iret q rfl dX11_lack_114 ⟨Nat.le_refl _, Nat.le_refl _⟩ ?_
        refine Tl.ok ?_
        simp [aLack, f6, ha, e]
      · have hlt := ge_f hN.h (by have := hN.h10; omega) hi c74
        refine aw_iload_n dX11_lack_77 rfl ?_
        refine aw_aload_n dX11_lack_78 rfl ?_
        refine aw_iload_n dX11_lack_79 rfl ?_
        refine aw_cV dX11_lack_80 kX11_219 mX11_isFree (rX11_isFree (h := i) hM hI rfl (by omega)) (Nat.le_of_ble_eq_true rfl) hM.k ⟨by decide, rfl⟩ hM.b rfl rfl (Nat.le_of_ble_eq_true rfl) ⟨Nat.le_refl _, Nat.le_refl _⟩ ?_
        refine aw_if_eq (tgt := 100) dX11_lack_83 rfl (fun c83 => ?_) (fun c83 => ?_)
        · refine aw_iconst (v := 0) dX11_lack_100 rfl ?_
          refine aw_isub dX11_lack_101 ?_
          refine aw_istore_n dX11_lack_102 (by decide) rfl ?_
          refine aw_iinc dX11_lack_103 rfl (ginc rfl) (by decide) rfl ?_
          refine aw_goto (tgt := 65) dX11_lack_106 rfl ?_
          refine ih hlt _ ?_
          rw [idn, ← ha]
          simp [lackH, bB, bI0.mp c83]
        · refine aw_aload_n dX11_lack_86 rfl ?_
          refine aw_iload_n dX11_lack_87 rfl ?_
          refine aw_iconst (v := 0) dX11_lack_88 rfl ?_
          refine aw_cV dX11_lack_89 kX11_202 mX11_home0 (rX11_home0 (h := i) (w := 0) hM hI rfl rfl (by omega)) (Nat.le_of_ble_eq_true rfl) hM.k ⟨by decide, rfl⟩ hM.b rfl rfl (Nat.le_of_ble_eq_true rfl) ⟨Nat.le_refl _, Nat.le_refl _⟩ ?_
          refine aw_iload_n dX11_lack_92 rfl ?_
          refine awt_icmp_ne (A := 1) (B := 0) dX11_lack_93 dX11_lack_96 dX11_lack_97 dX11_lack_100 rfl rfl ?_
          refine aw_isub dX11_lack_101 ?_
          refine aw_istore_n dX11_lack_102 (by decide) rfl ?_
          refine aw_iinc dX11_lack_103 rfl (ginc rfl) (by decide) rfl ?_
          refine aw_goto (tgt := 65) dX11_lack_106 rfl ?_
          refine ih hlt _ ?_
          rw [idn, ← ha]
          simp [lackH, bB, bI1.mp c83]
    have loop1 : ∀ i, i ≤ nPo N → ∀ acc : Int32, acc = isum (lackP N x) i → AW X g RX11 cX11_lack 4 (4, 0, 0) (z, n, sh, 0, 0) (I) (L) 19 [some (.ref m), some (.int x), some (.int acc), some (.int (nI i))] [] := by
      refine up_loop (fun i hi ih acc ha => ?_)
      have h8 := hN.p8
      refine aw_iload_n dX11_lack_19 rfl ?_
      refine aw_aload_n dX11_lack_20 rfl ?_
      refine aw_getR (b := m + 1) dX11_lack_21 fX11_7 hM.k hM.b rfl hM.r0 ?_
      refine aw_sipush (v := 231) dX11_lack_24 rfl ?_
      refine aw_ialdH (k := 231) hI dX11_lack_27 hM.k0 hM.b0 hM.l0 rfl (by decide) (by decide) ?_
      refine aw_icmp_ge (tgt := 63) dX11_lack_28 rfl (fun c28 => ?_) (fun c28 => ?_)
      · have e := ge_t hN.p (by have := hN.p8; omega) hi c28
        refine aw_iconst (v := 0) dX11_lack_63 rfl ?_
        refine aw_istore_n dX11_lack_64 (by decide) rfl ?_
        exact loop2 0 (Nat.zero_le _) _ (by rw [idn, ha, e])
      · have hlt := ge_f hN.p (by have := hN.p8; omega) hi c28
        refine aw_iload_n dX11_lack_31 rfl ?_
        refine aw_aload_n dX11_lack_32 rfl ?_
        refine aw_iload_n dX11_lack_33 rfl ?_
        refine aw_cV dX11_lack_34 kX11_208 mX11_isIn (rX11_isIn (p := i) hM hI rfl (by omega)) (Nat.le_of_ble_eq_true rfl) hM.k ⟨by decide, rfl⟩ hM.b rfl rfl (Nat.le_of_ble_eq_true rfl) ⟨Nat.le_refl _, Nat.le_refl _⟩ ?_
        refine aw_if_eq (tgt := 54) dX11_lack_37 rfl (fun c37 => ?_) (fun c37 => ?_)
        · refine aw_iconst (v := 0) dX11_lack_54 rfl ?_
          refine aw_iadd dX11_lack_55 ?_
          refine aw_istore_n dX11_lack_56 (by decide) rfl ?_
          refine aw_iinc dX11_lack_57 rfl (ginc rfl) (by decide) rfl ?_
          refine aw_goto (tgt := 19) dX11_lack_60 rfl ?_
          refine ih hlt _ ?_
          rw [isum, ← ha]
          simp [lackP, bB, bI0.mp c37]
        · refine aw_aload_n dX11_lack_40 rfl ?_
          refine aw_iload_n dX11_lack_41 rfl ?_
          refine aw_iconst (v := 1) dX11_lack_42 rfl ?_
          refine aw_cV dX11_lack_43 kX11_205 mX11_of (rX11_of (p := i) (w := 1) hM hI rfl rfl (by omega)) (Nat.le_of_ble_eq_true rfl) hM.k ⟨by decide, rfl⟩ hM.b rfl rfl (Nat.le_of_ble_eq_true rfl) ⟨Nat.le_refl _, Nat.le_refl _⟩ ?_
          refine aw_iload_n dX11_lack_46 rfl ?_
          refine awt_icmp_ne (A := 1) (B := 0) dX11_lack_47 dX11_lack_50 dX11_lack_51 dX11_lack_54 rfl rfl ?_
          refine aw_iadd dX11_lack_55 ?_
          refine aw_istore_n dX11_lack_56 (by decide) rfl ?_
          refine aw_iinc dX11_lack_57 rfl (ginc rfl) (by decide) rfl ?_
          refine aw_goto (tgt := 19) dX11_lack_60 rfl ?_
          refine ih hlt _ ?_
          rw [isum, ← ha]
          simp [lackP, bB, bI1.mp c37]
    exact loop1 0 (Nat.zero_le _) 0 rfl
  · refine aw_aload_n dX11_lack_9 rfl ?_
    refine aw_iconst (v := 1) dX11_lack_10 rfl ?_
    refine aw_cV dX11_lack_11 kX11_186 mX11_refuse (sX11_refuse hM) (Nat.le_of_ble_eq_true rfl) hM.k ⟨by decide, rfl⟩ hM.b rfl rfl (Nat.le_of_ble_eq_true rfl) ⟨Nat.le_refl _, Nat.le_refl _⟩ ?_
    refine aw_iret q rfl dX11_lack_14 ⟨Nat.le_refl _, Nat.le_refl _⟩ ?_
    exact Tl.no (by simp [aLack, bI0.mp c6])
set_option maxHeartbeats 4000000 in
set_option maxRecDepth 100000 in
theorem rX11_weeks (hM : IsM n sh m) {N : Nat → Int32} (hI : I (m + 1) = N) (hN : Cn N) (hl : Lo N) {x w : Int32} : CM yX11_weeks cX11_weeks 7 (Option.some .int) 10 0 0 [.ref m, .int x, .int w] z n sh I L (TlS (aWeeks N x w) z n sh I L m) := by
  refine CM.go [some (.ref m), some (.int x), some (.int w), none, none, none, none] rfl rfl (Nat.le_of_ble_eq_true rfl) (fun X g q => ?_)
  refine aw_iload_n dX11_weeks_0 rfl ?_
  refine aw_iconst (v := 0) dX11_weeks_1 rfl ?_
  refine aw_bipush (v := 30) dX11_weeks_2 rfl ?_
  refine aw_cS dX11_weeks_4 kX11_71 mX11_isFrom (sX11_isFrom hM) (Nat.le_of_ble_eq_true rfl) rfl rfl (Nat.le_of_ble_eq_true rfl) ⟨Nat.le_refl _, Nat.le_refl _⟩ ?_
  refine aw_if_eq (tgt := 19) dX11_weeks_7 rfl (fun c7 => ?_) (fun c7 => ?_)
  · refine aw_aload_n dX11_weeks_19 rfl ?_
    refine aw_iconst (v := 1) dX11_weeks_20 rfl ?_
    refine aw_cV dX11_weeks_21 kX11_186 mX11_refuse (sX11_refuse hM) (Nat.le_of_ble_eq_true rfl) hM.k ⟨by decide, rfl⟩ hM.b rfl rfl (Nat.le_of_ble_eq_true rfl) ⟨Nat.le_refl _, Nat.le_refl _⟩ ?_
    refine aw_iret q rfl dX11_weeks_24 ⟨Nat.le_refl _, Nat.le_refl _⟩ ?_
    exact TlS.no (by simp [aWeeks, bI0.mp c7]) RSc.rf
  · have f7 := bI1.mp c7
    refine aw_iload_n dX11_weeks_10 rfl ?_
    refine aw_iconst (v := 0) dX11_weeks_11 rfl ?_
    refine aw_iconst (v := 5) dX11_weeks_12 rfl ?_
    refine aw_cS dX11_weeks_13 kX11_71 mX11_isFrom (sX11_isFrom hM) (Nat.le_of_ble_eq_true rfl) rfl rfl (Nat.le_of_ble_eq_true rfl) ⟨Nat.le_refl _, Nat.le_refl _⟩ ?_
    refine aw_if_ne (tgt := 25) dX11_weeks_16 rfl (fun c16 => ?_) (fun c16 => ?_)
    · have f16 := bI1.mp c16
      obtain ⟨kk, hkk, rfl⟩ := from_nI (B := 30) (by decide) f7
      have f8 : mFrom (nI kk) 0 30 = true := f7
      refine aw_aload_n dX11_weeks_25 rfl ?_
      refine aw_getR (b := m + 1) dX11_weeks_26 fX11_7 hM.k hM.b rfl hM.r0 ?_
      refine aw_aload_n dX11_weeks_29 rfl ?_
      refine aw_getR (b := m + 3) dX11_weeks_30 fX11_16 hM.k hM.b rfl hM.r2 ?_
      refine aw_cS dX11_weeks_33 kX11_192 mX11_copies (rX11_copies (a := m + 1) (b := m + 3) hM.k0 hM.b0 hM.l0 hM.k2 hM.b2 hM.l2 (by omega)) (Nat.le_of_ble_eq_true rfl) rfl rfl (Nat.le_of_ble_eq_true rfl) ⟨Nat.le_refl _, Nat.le_refl _⟩ ?_
      refine AW.mem (I2 := sv I m N) (by unfold sv; rw [hI]) ?_
      refine aw_aload_n dX11_weeks_36 rfl ?_
      refine aw_getR (b := m + 1) dX11_weeks_37 fX11_7 hM.k hM.b rfl hM.r0 ?_
      refine aw_sipush (v := 233) dX11_weeks_40 rfl ?_
      refine aw_ialdH (k := 233) (sv_now hI) dX11_weeks_43 hM.k0 hM.b0 hM.l0 rfl (by decide) (by decide) ?_
      refine aw_istore_n dX11_weeks_44 (by decide) rfl ?_
      refine aw_aload_n dX11_weeks_45 rfl ?_
      refine aw_getR (b := m + 1) dX11_weeks_46 fX11_7 hM.k hM.b rfl hM.r0 ?_
      refine aw_sipush (v := 298) dX11_weeks_49 rfl ?_
      refine aw_ialdH (k := 298) (sv_now hI) dX11_weeks_52 hM.k0 hM.b0 hM.l0 rfl (by decide) (by decide) ?_
      refine aw_istore dX11_weeks_53 (by decide) rfl ?_
      refine aw_aload_n dX11_weeks_55 rfl ?_
      refine aw_cV dX11_weeks_56 kX11_322 mX11_allPassed (rX11_allPassed hM (sv_now hI) hN) (Nat.le_of_ble_eq_true rfl) hM.k ⟨by decide, rfl⟩ hM.b rfl rfl (Nat.le_of_ble_eq_true rfl) ⟨Nat.le_refl _, Nat.le_refl _⟩ ?_
      refine aw_istore dX11_weeks_59 (by decide) rfl ?_
      refine aw_iconst (v := 0) dX11_weeks_61 rfl ?_
      refine aw_istore dX11_weeks_62 (by decide) rfl ?_
      have loop : ∀ i, i ≤ kk → AW X g RX11 cX11_weeks 7 (10, 0, 0) (z, n, sh, 0, 0) (upA (sv I m N) (m + 1) (itr mOneMore i N)) (L) 64 [some (.ref m), some (.int (nI kk)), some (.int w), some (.int (N 233)), some (.int (N 298)), some (.int (mPassed N)), some (.int (nI i))] [] := by
        refine up_loop (fun i hi ih => ?_)
        refine aw_iload dX11_weeks_64 rfl ?_
        refine aw_iload_n dX11_weeks_66 rfl ?_
        refine aw_icmp_ge (tgt := 80) dX11_weeks_67 rfl (fun c67 => ?_) (fun c67 => ?_)
        · have e := ge_t (B := kk) rfl (by omega) hi c67
          subst e
          obtain ⟨cM, lM, -, -, hiM⟩ := ahead_inv hN hl i
          refine aw_iload_n dX11_weeks_80 rfl ?_
          refine aw_if_ne (tgt := 97) dX11_weeks_81 rfl (fun c81 => ?_) (fun c81 => ?_)
          · refine aw_iload_n dX11_weeks_97 rfl ?_
            refine aw_iconst (v := 1) dX11_weeks_98 rfl ?_
            refine aw_icmp_ne (tgt := 116) dX11_weeks_99 rfl (fun c99 => ?_) (fun c99 => ?_)
            · refine aw_iload_n dX11_weeks_116 rfl ?_
              refine aw_iconst (v := 2) dX11_weeks_117 rfl ?_
              refine aw_icmp_ne (tgt := 128) dX11_weeks_118 rfl (fun c118 => ?_) (fun c118 => ?_)
              · refine aw_iload_n dX11_weeks_128 rfl ?_
                refine aw_iconst (v := 3) dX11_weeks_129 rfl ?_
                refine aw_icmp_ne (tgt := 140) dX11_weeks_130 rfl (fun c130 => ?_) (fun c130 => ?_)
                · refine aw_iload_n dX11_weeks_140 rfl ?_
                  refine aw_iconst (v := 4) dX11_weeks_141 rfl ?_
                  refine aw_icmp_ne (tgt := 152) dX11_weeks_142 rfl (fun c142 => ?_) (fun c142 => ?_)
                  · refine aw_aload_n dX11_weeks_152 rfl ?_
                    refine aw_cV dX11_weeks_153 kX11_322 mX11_allPassed (rX11_allPassed hM upA_self cM) (Nat.le_of_ble_eq_true rfl) hM.k ⟨by decide, rfl⟩ hM.b rfl rfl (Nat.le_of_ble_eq_true rfl) ⟨Nat.le_refl _, Nat.le_refl _⟩ ?_
                    refine aw_iload dX11_weeks_156 rfl ?_
                    refine aw_isub dX11_weeks_158 ?_
                    refine aw_istore dX11_weeks_159 (by decide) rfl ?_
                    refine aw_aload_n dX11_weeks_161 rfl ?_
                    refine aw_getR (b := m + 3) dX11_weeks_162 fX11_16 hM.k hM.b rfl hM.r2 ?_
                    refine aw_aload_n dX11_weeks_165 rfl ?_
                    refine aw_getR (b := m + 1) dX11_weeks_166 fX11_7 hM.k hM.b rfl hM.r0 ?_
                    refine aw_cS dX11_weeks_169 kX11_192 mX11_copies (rX11_copies (a := m + 3) (b := m + 1) hM.k2 hM.b2 hM.l2 hM.k0 hM.b0 hM.l0 (by omega)) (Nat.le_of_ble_eq_true rfl) rfl rfl (Nat.le_of_ble_eq_true rfl) ⟨Nat.le_refl _, Nat.le_refl _⟩ ?_
                    refine AW.mem (I2 := sv I m N) (sv_back hI hiM) ?_
                    refine aw_aload_n dX11_weeks_172 rfl ?_
                    refine aw_iload dX11_weeks_173 rfl ?_
                    refine aw_cV dX11_weeks_175 kX11_199 mX11_gives (sX11_gives hM) (Nat.le_of_ble_eq_true rfl) hM.k ⟨by decide, rfl⟩ hM.b rfl rfl (Nat.le_of_ble_eq_true rfl) ⟨Nat.le_refl _, Nat.le_refl _⟩ ?_
                    refine aw_iret q rfl dX11_weeks_178 ⟨Nat.le_refl _, Nat.le_refl _⟩ ?_
                    refine TlS.ok ?_ RSc.svd
                    simp [aWeeks, f8, f16, weeksV, nI_clamp (show i < 2 ^ 31 by omega), c81, c99, c118, c130, c142]
                  · refine aw_aload_n dX11_weeks_145 rfl ?_
                    refine aw_cV dX11_weeks_146 kX11_319 mX11_greatestChain (rX11_greatestChain hM upA_self cM) (Nat.le_of_ble_eq_true rfl) hM.k ⟨by decide, rfl⟩ hM.b rfl rfl (Nat.le_of_ble_eq_true rfl) ⟨Nat.le_refl _, Nat.le_refl _⟩ ?_
                    refine aw_goto (tgt := 159) dX11_weeks_149 rfl ?_
                    refine aw_istore dX11_weeks_159 (by decide) rfl ?_
                    refine aw_aload_n dX11_weeks_161 rfl ?_
                    refine aw_getR (b := m + 3) dX11_weeks_162 fX11_16 hM.k hM.b rfl hM.r2 ?_
                    refine aw_aload_n dX11_weeks_165 rfl ?_
                    refine aw_getR (b := m + 1) dX11_weeks_166 fX11_7 hM.k hM.b rfl hM.r0 ?_
                    refine aw_cS dX11_weeks_169 kX11_192 mX11_copies (rX11_copies (a := m + 3) (b := m + 1) hM.k2 hM.b2 hM.l2 hM.k0 hM.b0 hM.l0 (by omega)) (Nat.le_of_ble_eq_true rfl) rfl rfl (Nat.le_of_ble_eq_true rfl) ⟨Nat.le_refl _, Nat.le_refl _⟩ ?_
                    refine AW.mem (I2 := sv I m N) (sv_back hI hiM) ?_
                    refine aw_aload_n dX11_weeks_172 rfl ?_
                    refine aw_iload dX11_weeks_173 rfl ?_
                    refine aw_cV dX11_weeks_175 kX11_199 mX11_gives (sX11_gives hM) (Nat.le_of_ble_eq_true rfl) hM.k ⟨by decide, rfl⟩ hM.b rfl rfl (Nat.le_of_ble_eq_true rfl) ⟨Nat.le_refl _, Nat.le_refl _⟩ ?_
                    refine aw_iret q rfl dX11_weeks_178 ⟨Nat.le_refl _, Nat.le_refl _⟩ ?_
                    subst c142
                    refine TlS.ok ?_ RSc.svd
                    simp [aWeeks, f8, f16, weeksV, nI_clamp (show i < 2 ^ 31 by omega), mFrees, mIns]
                · refine aw_aload_n dX11_weeks_133 rfl ?_
                  refine aw_cV dX11_weeks_134 kX11_231 mX11_inOnes (rX11_inOnes hM upA_self cM) (Nat.le_of_ble_eq_true rfl) hM.k ⟨by decide, rfl⟩ hM.b rfl rfl (Nat.le_of_ble_eq_true rfl) ⟨Nat.le_refl _, Nat.le_refl _⟩ ?_
                  refine aw_goto (tgt := 159) dX11_weeks_137 rfl ?_
                  refine aw_istore dX11_weeks_159 (by decide) rfl ?_
                  refine aw_aload_n dX11_weeks_161 rfl ?_
                  refine aw_getR (b := m + 3) dX11_weeks_162 fX11_16 hM.k hM.b rfl hM.r2 ?_
                  refine aw_aload_n dX11_weeks_165 rfl ?_
                  refine aw_getR (b := m + 1) dX11_weeks_166 fX11_7 hM.k hM.b rfl hM.r0 ?_
                  refine aw_cS dX11_weeks_169 kX11_192 mX11_copies (rX11_copies (a := m + 3) (b := m + 1) hM.k2 hM.b2 hM.l2 hM.k0 hM.b0 hM.l0 (by omega)) (Nat.le_of_ble_eq_true rfl) rfl rfl (Nat.le_of_ble_eq_true rfl) ⟨Nat.le_refl _, Nat.le_refl _⟩ ?_
                  refine AW.mem (I2 := sv I m N) (sv_back hI hiM) ?_
                  refine aw_aload_n dX11_weeks_172 rfl ?_
                  refine aw_iload dX11_weeks_173 rfl ?_
                  refine aw_cV dX11_weeks_175 kX11_199 mX11_gives (sX11_gives hM) (Nat.le_of_ble_eq_true rfl) hM.k ⟨by decide, rfl⟩ hM.b rfl rfl (Nat.le_of_ble_eq_true rfl) ⟨Nat.le_refl _, Nat.le_refl _⟩ ?_
                  refine aw_iret q rfl dX11_weeks_178 ⟨Nat.le_refl _, Nat.le_refl _⟩ ?_
                  subst c130
                  refine TlS.ok ?_ RSc.svd
                  simp [aWeeks, f8, f16, weeksV, nI_clamp (show i < 2 ^ 31 by omega), mFrees, mIns]
              · refine aw_aload_n dX11_weeks_121 rfl ?_
                refine aw_cV dX11_weeks_122 kX11_228 mX11_freeOnes (rX11_freeOnes hM upA_self cM) (Nat.le_of_ble_eq_true rfl) hM.k ⟨by decide, rfl⟩ hM.b rfl rfl (Nat.le_of_ble_eq_true rfl) ⟨Nat.le_refl _, Nat.le_refl _⟩ ?_
                refine aw_goto (tgt := 159) dX11_weeks_125 rfl ?_
                refine aw_istore dX11_weeks_159 (by decide) rfl ?_
                refine aw_aload_n dX11_weeks_161 rfl ?_
                refine aw_getR (b := m + 3) dX11_weeks_162 fX11_16 hM.k hM.b rfl hM.r2 ?_
                refine aw_aload_n dX11_weeks_165 rfl ?_
                refine aw_getR (b := m + 1) dX11_weeks_166 fX11_7 hM.k hM.b rfl hM.r0 ?_
                refine aw_cS dX11_weeks_169 kX11_192 mX11_copies (rX11_copies (a := m + 3) (b := m + 1) hM.k2 hM.b2 hM.l2 hM.k0 hM.b0 hM.l0 (by omega)) (Nat.le_of_ble_eq_true rfl) rfl rfl (Nat.le_of_ble_eq_true rfl) ⟨Nat.le_refl _, Nat.le_refl _⟩ ?_
                refine AW.mem (I2 := sv I m N) (sv_back hI hiM) ?_
                refine aw_aload_n dX11_weeks_172 rfl ?_
                refine aw_iload dX11_weeks_173 rfl ?_
                refine aw_cV dX11_weeks_175 kX11_199 mX11_gives (sX11_gives hM) (Nat.le_of_ble_eq_true rfl) hM.k ⟨by decide, rfl⟩ hM.b rfl rfl (Nat.le_of_ble_eq_true rfl) ⟨Nat.le_refl _, Nat.le_refl _⟩ ?_
                refine aw_iret q rfl dX11_weeks_178 ⟨Nat.le_refl _, Nat.le_refl _⟩ ?_
                subst c118
                refine TlS.ok ?_ RSc.svd
                simp [aWeeks, f8, f16, weeksV, nI_clamp (show i < 2 ^ 31 by omega), mFrees, mIns]
            · refine aw_aload_n dX11_weeks_102 rfl ?_
              refine aw_getR (b := m + 1) dX11_weeks_103 fX11_7 hM.k hM.b rfl hM.r0 ?_
              refine aw_sipush (v := 298) dX11_weeks_106 rfl ?_
              refine aw_ialdH (k := 298) upA_self dX11_weeks_109 hM.k0 hM.b0 hM.l0 rfl (by decide) (by decide) ?_
              refine aw_iload dX11_weeks_110 rfl ?_
              refine aw_isub dX11_weeks_112 ?_
              refine aw_goto (tgt := 159) dX11_weeks_113 rfl ?_
              refine aw_istore dX11_weeks_159 (by decide) rfl ?_
              refine aw_aload_n dX11_weeks_161 rfl ?_
              refine aw_getR (b := m + 3) dX11_weeks_162 fX11_16 hM.k hM.b rfl hM.r2 ?_
              refine aw_aload_n dX11_weeks_165 rfl ?_
              refine aw_getR (b := m + 1) dX11_weeks_166 fX11_7 hM.k hM.b rfl hM.r0 ?_
              refine aw_cS dX11_weeks_169 kX11_192 mX11_copies (rX11_copies (a := m + 3) (b := m + 1) hM.k2 hM.b2 hM.l2 hM.k0 hM.b0 hM.l0 (by omega)) (Nat.le_of_ble_eq_true rfl) rfl rfl (Nat.le_of_ble_eq_true rfl) ⟨Nat.le_refl _, Nat.le_refl _⟩ ?_
              refine AW.mem (I2 := sv I m N) (sv_back hI hiM) ?_
              refine aw_aload_n dX11_weeks_172 rfl ?_
              refine aw_iload dX11_weeks_173 rfl ?_
              refine aw_cV dX11_weeks_175 kX11_199 mX11_gives (sX11_gives hM) (Nat.le_of_ble_eq_true rfl) hM.k ⟨by decide, rfl⟩ hM.b rfl rfl (Nat.le_of_ble_eq_true rfl) ⟨Nat.le_refl _, Nat.le_refl _⟩ ?_
              refine aw_iret q rfl dX11_weeks_178 ⟨Nat.le_refl _, Nat.le_refl _⟩ ?_
              subst c99
              refine TlS.ok ?_ RSc.svd
              simp [aWeeks, f8, f16, weeksV, nI_clamp (show i < 2 ^ 31 by omega), mFrees, mIns]
          · refine aw_aload_n dX11_weeks_84 rfl ?_
            refine aw_getR (b := m + 1) dX11_weeks_85 fX11_7 hM.k hM.b rfl hM.r0 ?_
            refine aw_sipush (v := 233) dX11_weeks_88 rfl ?_
            refine aw_ialdH (k := 233) upA_self dX11_weeks_91 hM.k0 hM.b0 hM.l0 rfl (by decide) (by decide) ?_
            refine aw_iload_n dX11_weeks_92 rfl ?_
            refine aw_isub dX11_weeks_93 ?_
            refine aw_goto (tgt := 159) dX11_weeks_94 rfl ?_
            refine aw_istore dX11_weeks_159 (by decide) rfl ?_
            refine aw_aload_n dX11_weeks_161 rfl ?_
            refine aw_getR (b := m + 3) dX11_weeks_162 fX11_16 hM.k hM.b rfl hM.r2 ?_
            refine aw_aload_n dX11_weeks_165 rfl ?_
            refine aw_getR (b := m + 1) dX11_weeks_166 fX11_7 hM.k hM.b rfl hM.r0 ?_
            refine aw_cS dX11_weeks_169 kX11_192 mX11_copies (rX11_copies (a := m + 3) (b := m + 1) hM.k2 hM.b2 hM.l2 hM.k0 hM.b0 hM.l0 (by omega)) (Nat.le_of_ble_eq_true rfl) rfl rfl (Nat.le_of_ble_eq_true rfl) ⟨Nat.le_refl _, Nat.le_refl _⟩ ?_
            refine AW.mem (I2 := sv I m N) (sv_back hI hiM) ?_
            refine aw_aload_n dX11_weeks_172 rfl ?_
            refine aw_iload dX11_weeks_173 rfl ?_
            refine aw_cV dX11_weeks_175 kX11_199 mX11_gives (sX11_gives hM) (Nat.le_of_ble_eq_true rfl) hM.k ⟨by decide, rfl⟩ hM.b rfl rfl (Nat.le_of_ble_eq_true rfl) ⟨Nat.le_refl _, Nat.le_refl _⟩ ?_
            refine aw_iret q rfl dX11_weeks_178 ⟨Nat.le_refl _, Nat.le_refl _⟩ ?_
            subst c81
            refine TlS.ok ?_ RSc.svd
            simp [aWeeks, f8, f16, weeksV, nI_clamp (show i < 2 ^ 31 by omega), mFrees, mIns]
        · have hlt := ge_f (B := kk) rfl (by omega) hi c67
          obtain ⟨cM, lM, -, -, hiM⟩ := ahead_inv hN hl i
          refine aw_aload_n dX11_weeks_70 rfl ?_
          refine aw_cV dX11_weeks_71 kX11_331 mX11_oneMore (rX11_oneMore hM upA_self cM lM) (Nat.le_of_ble_eq_true rfl) hM.k ⟨by decide, rfl⟩ hM.b rfl rfl (Nat.le_of_ble_eq_true rfl) ⟨Nat.le_refl _, Nat.le_refl _⟩ ?_
          refine aw_iinc dX11_weeks_74 rfl (ginc rfl) (by decide) rfl ?_
          refine aw_goto (tgt := 64) dX11_weeks_77 rfl ?_
          have := ih hlt
          rw [itr_succ] at this
          refine AW.mem ?_ this
          rw [upA_upA]
      refine AW.mem ?_ (loop 0 (Nat.zero_le _))
      exact (sv_me hI).symm
    · refine aw_aload_n dX11_weeks_19 rfl ?_
      refine aw_iconst (v := 1) dX11_weeks_20 rfl ?_
      refine aw_cV dX11_weeks_21 kX11_186 mX11_refuse (sX11_refuse hM) (Nat.le_of_ble_eq_true rfl) hM.k ⟨by decide, rfl⟩ hM.b rfl rfl (Nat.le_of_ble_eq_true rfl) ⟨Nat.le_refl _, Nat.le_refl _⟩ ?_
      refine aw_iret q rfl dX11_weeks_24 ⟨Nat.le_refl _, Nat.le_refl _⟩ ?_
      exact TlS.no (by simp [aWeeks, bI0.mp c16]) RSc.rf
end RefS
