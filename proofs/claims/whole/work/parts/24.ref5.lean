/-! the reference: who is first, how many are ahead -/
theorem fst_no {w : Nat → Int32} {S : Nat → Bool} {i : Nat} (hS : S i = false) : fst w S (i + 1) = fst w S i := by
  rw [fst, hS]
  simp
theorem fst_new {w : Nat → Int32} {S : Nat → Bool} {i : Nat} (hS : S i = true) (e : fst w S i = none) : fst w S (i + 1) = some i := by
  rw [fst, hS, e]
  simp
theorem fst_less {w : Nat → Int32} {S : Nat → Bool} {i b : Nat} (hS : S i = true) (e : fst w S i = some b) (h : w i < w b) : fst w S (i + 1) = some i := by
  rw [fst, hS, e]
  simp [h]
theorem fst_ge {w : Nat → Int32} {S : Nat → Bool} {i b : Nat} (hS : S i = true) (e : fst w S i = some b) (h : ¬ w i < w b) : fst w S (i + 1) = some b := by
  rw [fst, hS, e]
  simp [h]
theorem fst_lt {w : Nat → Int32} {S : Nat → Bool} : ∀ {n b : Nat}, fst w S n = some b → b < n ∧ S b = true
  | 0, b, h => by simp [fst] at h
  | n + 1, b, h => by
    cases hS : S n with
    | false =>
      rw [fst_no hS] at h
      have := fst_lt h
      exact ⟨by omega, this.2⟩
    | true =>
      cases e : fst w S n with
      | none =>
        rw [fst_new hS e] at h
        cases h
        exact ⟨by omega, hS⟩
      | some c =>
        by_cases hw : w n < w c
        · rw [fst_less hS e hw] at h
          cases h
          exact ⟨by omega, hS⟩
        · rw [fst_ge hS e hw] at h
          have := fst_lt (e.trans h)
          exact ⟨by omega, this.2⟩
theorem bt_t {x : Int32} {i : Nat} (h : (x >>> (nI i &&& 31)) &&& 1 = 1) : bt x i = true := by simp [bt, h]
theorem bt_f {x : Int32} {i : Nat} (h : ¬ (x >>> (nI i &&& 31)) &&& 1 = 1) : bt x i = false := by simp [bt, h]
theorem nI_ne_m1 {b : Nat} (h : b < 2 ^ 31) : ¬ nI b = -1 := by
  intro e
  have := congrArg Int32.toInt e
  rw [nI_toInt h, show (-1 : Int32).toInt = -1 from by decide] at this
  omega
theorem oN_some {w : Nat → Int32} {S : Nat → Bool} {n : Nat} (h : ¬ oN (fst w S n) = -1) : ∃ b, fst w S n = some b ∧ b < n ∧ S b = true ∧ oN (fst w S n) = nI b := by
  cases e : fst w S n with
  | none => rw [e] at h; exact absurd rfl h
  | some b => exact ⟨b, rfl, (fst_lt e).1, (fst_lt e).2, rfl⟩
theorem oN_none {w : Nat → Int32} {S : Nat → Bool} {n : Nat} (hn : n < 2 ^ 31) (h : oN (fst w S n) = -1) : fst w S n = none := by
  cases e : fst w S n with
  | none => rfl
  | some b =>
    rw [e] at h
    exact absurd h (nI_ne_m1 (by have := (fst_lt e).1; omega))
section RefS
variable {z n m : Nat} {sh : Shp} {I : MI} {L : ML}
set_option maxHeartbeats 4000000 in
set_option maxRecDepth 100000 in
theorem sX11_firstOf (hM : IsM n sh m) (hN : Cn (I (m + 1))) {x y : Int32} {h : Nat} (hy : y = nI h) (hh : h < 10) : CM yX11_firstOf cX11_firstOf 5 (Option.some .int) 6 0 0 [.ref m, .int x, .int y] z n sh I L (Pst (some (.int (oN (mFirst (I (m + 1)) h x)))) z n sh I L) := by
  refine CM.go [some (.ref m), some (.int x), some (.int y), none, none] rfl rfl (Nat.le_of_ble_eq_true rfl) (fun X g q => ?_)
  have loop : ∀ i, i ≤ nPo (I (m + 1)) → ∀ (acc : Int32), acc = oN (fst (fun p => mW (I (m + 1)) p h) (bt x) i) → AW X g RX11 cX11_firstOf 5 (6, 0, 0) (z, n, sh, 0, 0) (I) (L) 5 [some (.ref m), some (.int x), some (.int y), some (.int acc), some (.int (nI i))] [] := by
    refine up_loop (fun i hi ih acc ha => ?_)
    have hb8 := hN.p8
    refine aw_iload dX11_firstOf_5 rfl ?_
    refine aw_aload_n dX11_firstOf_7 rfl ?_
    refine aw_getR (b := m + 1) dX11_firstOf_8 fX11_7 hM.k hM.b rfl hM.r0 ?_
    refine aw_sipush (v := 231) dX11_firstOf_11 rfl ?_
    refine aw_ialdN (k := 231) dX11_firstOf_14 hM.k0 hM.b0 hM.l0 rfl (by decide) (by decide) ?_
    refine aw_icmp_ge (tgt := 58) dX11_firstOf_15 rfl (fun c15 => ?_) (fun c15 => ?_)
    · have e := ge_t hN.p (by have := hN.p8; omega) hi c15
      refine aw_iload_n dX11_firstOf_58 rfl ?_
      refine aw_iret q rfl dX11_firstOf_59 ⟨Nat.le_refl _, Nat.le_refl _⟩ ?_
      exact Pst.iv (by rw [ha, e]; rfl)
    · have hlt := ge_f hN.p (by have := hN.p8; omega) hi c15
      refine aw_iload_n dX11_firstOf_18 rfl ?_
      refine aw_iload dX11_firstOf_19 rfl ?_
      refine aw_ishr dX11_firstOf_21 ?_
      refine aw_iconst (v := 1) dX11_firstOf_22 rfl ?_
      refine aw_iand dX11_firstOf_23 ?_
      refine aw_iconst (v := 1) dX11_firstOf_24 rfl ?_
      refine aw_icmp_ne (tgt := 52) dX11_firstOf_25 rfl (fun c25 => ?_) (fun c25 => ?_)
      · refine aw_iinc dX11_firstOf_52 rfl (ginc rfl) (by decide) rfl ?_
        refine aw_goto (tgt := 5) dX11_firstOf_55 rfl ?_
        refine ih hlt _ ?_
        rw [ha, fst_no (bt_f c25)]
      · refine aw_iload_n dX11_firstOf_28 rfl ?_
        refine aw_iconst (v := (-1)) dX11_firstOf_29 rfl ?_
        refine aw_icmp_eq (tgt := 49) dX11_firstOf_30 rfl (fun c30 => ?_) (fun c30 => ?_)
        · rw [ha] at c30
          have e30 := oN_none (by omega) c30
          refine aw_iload dX11_firstOf_49 rfl ?_
          refine aw_istore_n dX11_firstOf_51 (by decide) rfl ?_
          refine aw_iinc dX11_firstOf_52 rfl (ginc rfl) (by decide) rfl ?_
          refine aw_goto (tgt := 5) dX11_firstOf_55 rfl ?_
          refine ih hlt _ ?_
          rw [fst_new (bt_t c25) e30]
          rfl
        · rw [ha] at c30
          obtain ⟨b, eb, hbi, -, hb2⟩ := oN_some c30
          have hb3 : acc = nI b := by rw [ha, hb2]
          refine aw_aload_n dX11_firstOf_33 rfl ?_
          refine aw_iload dX11_firstOf_34 rfl ?_
          refine aw_iload_n dX11_firstOf_36 rfl ?_
          refine aw_cV dX11_firstOf_37 kX11_275 mX11_weight_ (sX11_weight_ (p := i) (h := h) hM hN rfl hy (by omega) (by omega)) (Nat.le_of_ble_eq_true rfl) hM.k ⟨by decide, rfl⟩ hM.b rfl rfl (Nat.le_of_ble_eq_true rfl) ⟨Nat.le_refl _, Nat.le_refl _⟩ ?_
          refine aw_aload_n dX11_firstOf_40 rfl ?_
          refine aw_iload_n dX11_firstOf_41 rfl ?_
          refine aw_iload_n dX11_firstOf_42 rfl ?_
          refine aw_cV dX11_firstOf_43 kX11_275 mX11_weight_ (sX11_weight_ (p := b) (h := h) hM hN hb3 hy (by omega) (by omega)) (Nat.le_of_ble_eq_true rfl) hM.k ⟨by decide, rfl⟩ hM.b rfl rfl (Nat.le_of_ble_eq_true rfl) ⟨Nat.le_refl _, Nat.le_refl _⟩ ?_
          refine aw_icmp_ge (tgt := 52) dX11_firstOf_46 rfl (fun c46 => ?_) (fun c46 => ?_)
          · refine aw_iinc dX11_firstOf_52 rfl (ginc rfl) (by decide) rfl ?_
            refine aw_goto (tgt := 5) dX11_firstOf_55 rfl ?_
            refine ih hlt _ ?_
            rw [ha, fst_ge (bt_t c25) eb (Int32.not_lt.mpr c46), eb]
          · refine aw_iload dX11_firstOf_49 rfl ?_
            refine aw_istore_n dX11_firstOf_51 (by decide) rfl ?_
            refine aw_iinc dX11_firstOf_52 rfl (ginc rfl) (by decide) rfl ?_
            refine aw_goto (tgt := 5) dX11_firstOf_55 rfl ?_
            refine ih hlt _ ?_
            rw [fst_less (bt_t c25) eb (fa_of_nle c46)]
            rfl
  refine aw_iconst (v := (-1)) dX11_firstOf_0 rfl ?_
  refine aw_istore_n dX11_firstOf_1 (by decide) rfl ?_
  refine aw_iconst (v := 0) dX11_firstOf_2 rfl ?_
  refine aw_istore dX11_firstOf_3 (by decide) rfl ?_
  exact loop 0 (Nat.zero_le _) (-1) rfl
theorem rX11_firstOf (hM : IsM n sh m) {N : Nat → Int32} (hI : I (m + 1) = N) (hN : Cn N) {x y : Int32} {h : Nat} (hy : y = nI h) (hh : h < 10) : CM yX11_firstOf cX11_firstOf 5 (Option.some .int) 6 0 0 [.ref m, .int x, .int y] z n sh I L (Pst (some (.int (oN (mFirst (N) h x)))) z n sh I L) := by
  subst hI
  apply sX11_firstOf <;> assumption
set_option maxHeartbeats 4000000 in
set_option maxRecDepth 100000 in
theorem sX11_biddersOf (hM : IsM n sh m) (hN : Cn (I (m + 1))) {x : Int32} {h : Nat} (hx : x = nI h) : CM yX11_biddersOf cX11_biddersOf 4 (Option.some .int) 4 0 0 [.ref m, .int x] z n sh I L (Pst (some (.int (mBidders (I (m + 1)) h))) z n sh I L) := by
  refine CM.go [some (.ref m), some (.int x), none, none] rfl rfl (Nat.le_of_ble_eq_true rfl) (fun X g q => ?_)
  have loop : ∀ i, i ≤ nPo (I (m + 1)) → ∀ (acc : Int32), acc = iset (fun p => mBid (I (m + 1)) p (nI h)) i → AW X g RX11 cX11_biddersOf 4 (4, 0, 0) (z, n, sh, 0, 0) (I) (L) 4 [some (.ref m), some (.int x), some (.int acc), some (.int (nI i))] [] := by
    refine up_loop (fun i hi ih acc ha => ?_)
    have hb8 := hN.p8
    refine aw_iload_n dX11_biddersOf_4 rfl ?_
    refine aw_aload_n dX11_biddersOf_5 rfl ?_
    refine aw_getR (b := m + 1) dX11_biddersOf_6 fX11_7 hM.k hM.b rfl hM.r0 ?_
    refine aw_sipush (v := 231) dX11_biddersOf_9 rfl ?_
    refine aw_ialdN (k := 231) dX11_biddersOf_12 hM.k0 hM.b0 hM.l0 rfl (by decide) (by decide) ?_
    refine aw_icmp_ge (tgt := 41) dX11_biddersOf_13 rfl (fun c13 => ?_) (fun c13 => ?_)
    · have e := ge_t hN.p (by have := hN.p8; omega) hi c13
      refine aw_iload_n dX11_biddersOf_41 rfl ?_
      refine aw_iret q rfl dX11_biddersOf_42 ⟨Nat.le_refl _, Nat.le_refl _⟩ ?_
      exact Pst.iv (by rw [ha, e]; rfl)
    · have hlt := ge_f hN.p (by have := hN.p8; omega) hi c13
      refine aw_iload_n dX11_biddersOf_16 rfl ?_
      refine aw_aload_n dX11_biddersOf_17 rfl ?_
      refine aw_iload_n dX11_biddersOf_18 rfl ?_
      refine aw_iload_n dX11_biddersOf_19 rfl ?_
      refine aw_cV dX11_biddersOf_20 kX11_234 mX11_isBid (sX11_isBid (p := i) hM rfl (by omega)) (Nat.le_of_ble_eq_true rfl) hM.k ⟨by decide, rfl⟩ hM.b rfl rfl (Nat.le_of_ble_eq_true rfl) ⟨Nat.le_refl _, Nat.le_refl _⟩ ?_
      refine aw_if_eq (tgt := 32) dX11_biddersOf_23 rfl (fun c23 => ?_) (fun c23 => ?_)
      · refine aw_iconst (v := 0) dX11_biddersOf_32 rfl ?_
        refine aw_ior dX11_biddersOf_33 ?_
        refine aw_istore_n dX11_biddersOf_34 (by decide) rfl ?_
        refine aw_iinc dX11_biddersOf_35 rfl (ginc rfl) (by decide) rfl ?_
        refine aw_goto (tgt := 4) dX11_biddersOf_38 rfl ?_
        refine ih hlt _ ?_
        simp -failIfUnchanged only [bI0, bI1] at c23
        rw [hx] at c23
        rw [iset, ← ha]
        simp [c23]
      · refine aw_iconst (v := 1) dX11_biddersOf_26 rfl ?_
        refine aw_iload_n dX11_biddersOf_27 rfl ?_
        refine aw_ishl dX11_biddersOf_28 ?_
        refine aw_goto (tgt := 33) dX11_biddersOf_29 rfl ?_
        refine aw_ior dX11_biddersOf_33 ?_
        refine aw_istore_n dX11_biddersOf_34 (by decide) rfl ?_
        refine aw_iinc dX11_biddersOf_35 rfl (ginc rfl) (by decide) rfl ?_
        refine aw_goto (tgt := 4) dX11_biddersOf_38 rfl ?_
        refine ih hlt _ ?_
        simp -failIfUnchanged only [bI0, bI1] at c23
        rw [hx] at c23
        rw [iset, ← ha]
        simp [c23]
  refine aw_iconst (v := 0) dX11_biddersOf_0 rfl ?_
  refine aw_istore_n dX11_biddersOf_1 (by decide) rfl ?_
  refine aw_iconst (v := 0) dX11_biddersOf_2 rfl ?_
  refine aw_istore_n dX11_biddersOf_3 (by decide) rfl ?_
  exact loop 0 (Nat.zero_le _) 0 rfl
theorem rX11_biddersOf (hM : IsM n sh m) {N : Nat → Int32} (hI : I (m + 1) = N) (hN : Cn N) {x : Int32} {h : Nat} (hx : x = nI h) : CM yX11_biddersOf cX11_biddersOf 4 (Option.some .int) 4 0 0 [.ref m, .int x] z n sh I L (Pst (some (.int (mBidders (N) h))) z n sh I L) := by
  subst hI
  apply sX11_biddersOf <;> assumption
set_option maxHeartbeats 4000000 in
set_option maxRecDepth 100000 in
theorem sX11_aheadOf (hM : IsM n sh m) (hN : Cn (I (m + 1))) {x y st : Int32} {p h : Nat} (hx : x = nI p) (hy : y = nI h) (hp : p < 8) (hh : h < 10) : CM yX11_aheadOf cX11_aheadOf 6 (Option.some .int) 6 0 0 [.ref m, .int x, .int y, .int st] z n sh I L (Pst (some (.int (mAhead (I (m + 1)) p h st))) z n sh I L) := by
  refine CM.go [some (.ref m), some (.int x), some (.int y), some (.int st), none, none] rfl rfl (Nat.le_of_ble_eq_true rfl) (fun X g q => ?_)
  have loop : ∀ i, i ≤ nPo (I (m + 1)) → ∀ (acc : Int32), acc = isum (fun q => bB (bt st q && decide (mW (I (m + 1)) q h < mW (I (m + 1)) p h))) i → AW X g RX11 cX11_aheadOf 6 (6, 0, 0) (z, n, sh, 0, 0) (I) (L) 6 [some (.ref m), some (.int x), some (.int y), some (.int st), some (.int acc), some (.int (nI i))] [] := by
    refine up_loop (fun i hi ih acc ha => ?_)
    have hb8 := hN.p8
    refine aw_iload dX11_aheadOf_6 rfl ?_
    refine aw_aload_n dX11_aheadOf_8 rfl ?_
    refine aw_getR (b := m + 1) dX11_aheadOf_9 fX11_7 hM.k hM.b rfl hM.r0 ?_
    refine aw_sipush (v := 231) dX11_aheadOf_12 rfl ?_
    refine aw_ialdN (k := 231) dX11_aheadOf_15 hM.k0 hM.b0 hM.l0 rfl (by decide) (by decide) ?_
    refine aw_icmp_ge (tgt := 61) dX11_aheadOf_16 rfl (fun c16 => ?_) (fun c16 => ?_)
    · have e := ge_t hN.p (by have := hN.p8; omega) hi c16
      refine aw_iload dX11_aheadOf_61 rfl ?_
      refine aw_iret q rfl dX11_aheadOf_63 ⟨Nat.le_refl _, Nat.le_refl _⟩ ?_
      exact Pst.iv (by rw [ha, e]; rfl)
    · have hlt := ge_f hN.p (by have := hN.p8; omega) hi c16
      refine aw_iload dX11_aheadOf_19 rfl ?_
      refine aw_iload_n dX11_aheadOf_21 rfl ?_
      refine aw_iload dX11_aheadOf_22 rfl ?_
      refine aw_ishr dX11_aheadOf_24 ?_
      refine aw_iconst (v := 1) dX11_aheadOf_25 rfl ?_
      refine aw_iand dX11_aheadOf_26 ?_
      refine aw_iconst (v := 1) dX11_aheadOf_27 rfl ?_
      refine aw_icmp_ne (tgt := 51) dX11_aheadOf_28 rfl (fun c28 => ?_) (fun c28 => ?_)
      · refine aw_iconst (v := 0) dX11_aheadOf_51 rfl ?_
        refine aw_iadd dX11_aheadOf_52 ?_
        refine aw_istore dX11_aheadOf_53 (by decide) rfl ?_
        refine aw_iinc dX11_aheadOf_55 rfl (ginc rfl) (by decide) rfl ?_
        refine aw_goto (tgt := 6) dX11_aheadOf_58 rfl ?_
        refine ih hlt _ ?_
        rw [isum, ← ha]
        simp [bB, bt_f c28]
      · refine aw_aload_n dX11_aheadOf_31 rfl ?_
        refine aw_iload dX11_aheadOf_32 rfl ?_
        refine aw_iload_n dX11_aheadOf_34 rfl ?_
        refine aw_cV dX11_aheadOf_35 kX11_275 mX11_weight_ (sX11_weight_ (p := i) (h := h) hM hN rfl hy (by omega) (by omega)) (Nat.le_of_ble_eq_true rfl) hM.k ⟨by decide, rfl⟩ hM.b rfl rfl (Nat.le_of_ble_eq_true rfl) ⟨Nat.le_refl _, Nat.le_refl _⟩ ?_
        refine aw_aload_n dX11_aheadOf_38 rfl ?_
        refine aw_iload_n dX11_aheadOf_39 rfl ?_
        refine aw_iload_n dX11_aheadOf_40 rfl ?_
        refine aw_cV dX11_aheadOf_41 kX11_275 mX11_weight_ (sX11_weight_ (p := p) (h := h) hM hN hx hy (by omega) (by omega)) (Nat.le_of_ble_eq_true rfl) hM.k ⟨by decide, rfl⟩ hM.b rfl rfl (Nat.le_of_ble_eq_true rfl) ⟨Nat.le_refl _, Nat.le_refl _⟩ ?_
        refine aw_icmp_ge (tgt := 51) dX11_aheadOf_44 rfl (fun c44 => ?_) (fun c44 => ?_)
        · refine aw_iconst (v := 0) dX11_aheadOf_51 rfl ?_
          refine aw_iadd dX11_aheadOf_52 ?_
          refine aw_istore dX11_aheadOf_53 (by decide) rfl ?_
          refine aw_iinc dX11_aheadOf_55 rfl (ginc rfl) (by decide) rfl ?_
          refine aw_goto (tgt := 6) dX11_aheadOf_58 rfl ?_
          refine ih hlt _ ?_
          rw [isum, ← ha]
          simp [bB, bt_t c28, Int32.not_lt.mpr c44]
        · refine aw_iconst (v := 1) dX11_aheadOf_47 rfl ?_
          refine aw_goto (tgt := 52) dX11_aheadOf_48 rfl ?_
          refine aw_iadd dX11_aheadOf_52 ?_
          refine aw_istore dX11_aheadOf_53 (by decide) rfl ?_
          refine aw_iinc dX11_aheadOf_55 rfl (ginc rfl) (by decide) rfl ?_
          refine aw_goto (tgt := 6) dX11_aheadOf_58 rfl ?_
          refine ih hlt _ ?_
          rw [isum, ← ha]
          simp [bB, bt_t c28, fa_of_nle c44]
  refine aw_iconst (v := 0) dX11_aheadOf_0 rfl ?_
  refine aw_istore dX11_aheadOf_1 (by decide) rfl ?_
  refine aw_iconst (v := 0) dX11_aheadOf_3 rfl ?_
  refine aw_istore dX11_aheadOf_4 (by decide) rfl ?_
  exact loop 0 (Nat.zero_le _) 0 rfl
theorem rX11_aheadOf (hM : IsM n sh m) {N : Nat → Int32} (hI : I (m + 1) = N) (hN : Cn N) {x y st : Int32} {p h : Nat} (hx : x = nI p) (hy : y = nI h) (hp : p < 8) (hh : h < 10) : CM yX11_aheadOf cX11_aheadOf 6 (Option.some .int) 6 0 0 [.ref m, .int x, .int y, .int st] z n sh I L (Pst (some (.int (mAhead (N) p h st))) z n sh I L) := by
  subst hI
  apply sX11_aheadOf <;> assumption
def aOrder (N : Nat → Int32) (x k : Int32) : An :=
  if k < 0 then no 1 else if !mFrom x 0 (N 230 - 1) then no 2 else if nI (pcn (nset (fun p => mBid N p x) (nPo N))) ≤ k then no 5
  else ok (oN (mFirst N x.toNatClampNeg (itr (fun s => iDrop s (oN (mFirst N x.toNatClampNeg s))) k.toNatClampNeg (mBidders N x.toNatClampNeg))))
theorem bid_n {N : Nat → Int32} (hN : Cn N) (h : Nat) : mBidders N h = nI (nset (fun p => mBid N p (nI h)) (nPo N)) ∧ nset (fun p => mBid N p (nI h)) (nPo N) < 1024 := by
  have h8 := hN.p8
  refine ⟨iset_n _ _ (by omega), Nat.lt_of_lt_of_le (nset_lt _ _) ?_⟩
  calc 2 ^ nPo N ≤ 2 ^ 8 := Nat.pow_le_pow_right (by decide) h8
    _ ≤ 1024 := by decide
set_option maxHeartbeats 4000000 in
set_option maxRecDepth 100000 in
theorem sX11_order (hM : IsM n sh m) (hN : Cn (I (m + 1))) {x k : Int32} : CM yX11_order cX11_order 5 (Option.some .int) 7 0 0 [.ref m, .int x, .int k] z n sh I L (Tl (aOrder (I (m + 1)) x k) z n sh I L m) := by
  refine CM.go [some (.ref m), some (.int x), some (.int k), none, none] rfl rfl (Nat.le_of_ble_eq_true rfl) (fun X g q => ?_)
  refine aw_iload_n dX11_order_0 rfl ?_
  refine aw_if_ge (tgt := 10) dX11_order_1 rfl (fun c1 => ?_) (fun c1 => ?_)
  · refine aw_aload_n dX11_order_10 rfl ?_
    refine aw_iload_n dX11_order_11 rfl ?_
    refine aw_cV dX11_order_12 kX11_238 mX11_isHome (sX11_isHome hM) (Nat.le_of_ble_eq_true rfl) hM.k ⟨by decide, rfl⟩ hM.b rfl rfl (Nat.le_of_ble_eq_true rfl) ⟨Nat.le_refl _, Nat.le_refl _⟩ ?_
    refine aw_if_ne (tgt := 24) dX11_order_15 rfl (fun c15 => ?_) (fun c15 => ?_)
    · have f15 := bI1.mp c15
      obtain ⟨h, hhn, rfl⟩ := from_ix hN.h (by have := hN.h10; omega) f15
      have hh10 : h < 10 := by have := hN.h10; omega
      have eh := nI_clamp (show h < 2 ^ 31 by omega)
      obtain ⟨kk, hkk, rfl⟩ := nI_of (x := k) (by rw [Int32.not_lt]; exact c1)
      obtain ⟨b1, b2⟩ := bid_n hN h
      refine aw_aload_n dX11_order_24 rfl ?_
      refine aw_iload_n dX11_order_25 rfl ?_
      refine aw_cV dX11_order_26 kX11_277 mX11_biddersOf (sX11_biddersOf (h := h) hM hN rfl) (Nat.le_of_ble_eq_true rfl) hM.k ⟨by decide, rfl⟩ hM.b rfl rfl (Nat.le_of_ble_eq_true rfl) ⟨Nat.le_refl _, Nat.le_refl _⟩ ?_
      refine aw_istore_n dX11_order_29 (by decide) rfl ?_
      refine aw_iload_n dX11_order_30 rfl ?_
      refine aw_iload_n dX11_order_31 rfl ?_
      refine aw_cS dX11_order_32 kX11_222 mX11_bits (sX11_bits (v := nset (fun p => mBid (I (m + 1)) p (nI h)) (nPo (I (m + 1)))) b1 b2) (Nat.le_of_ble_eq_true rfl) rfl rfl (Nat.le_of_ble_eq_true rfl) ⟨Nat.le_refl _, Nat.le_refl _⟩ ?_
      refine aw_icmp_lt (tgt := 44) dX11_order_35 rfl (fun c35 => ?_) (fun c35 => ?_)
      · refine aw_iconst (v := 0) dX11_order_44 rfl ?_
        refine aw_istore dX11_order_45 (by decide) rfl ?_
        have loop : ∀ i, i ≤ kk → AW X g RX11 cX11_order 5 (7, 0, 0) (z, n, sh, 0, 0) I L 47 [some (.ref m), some (.int (nI h)), some (.int (nI kk)), some (.int (itr (fun s => iDrop s (oN (mFirst (I (m + 1)) h s))) i (mBidders (I (m + 1)) h))), some (.int (nI i))] [] := by
          refine up_loop (fun i hi ih => ?_)
          refine aw_iload dX11_order_47 rfl ?_
          refine aw_iload_n dX11_order_49 rfl ?_
          refine aw_icmp_ge (tgt := 72) dX11_order_50 rfl (fun c50 => ?_) (fun c50 => ?_)
          · have e := ge_t (B := kk) rfl hkk hi c50
            subst e
            refine aw_aload_n dX11_order_72 rfl ?_
            refine aw_aload_n dX11_order_73 rfl ?_
            refine aw_iload_n dX11_order_74 rfl ?_
            refine aw_iload_n dX11_order_75 rfl ?_
            refine aw_cV dX11_order_76 kX11_280 mX11_firstOf (sX11_firstOf (h := h) hM hN rfl hh10) (Nat.le_of_ble_eq_true rfl) hM.k ⟨by decide, rfl⟩ hM.b rfl rfl (Nat.le_of_ble_eq_true rfl) ⟨Nat.le_refl _, Nat.le_refl _⟩ ?_
            refine aw_cV dX11_order_79 kX11_199 mX11_gives (sX11_gives hM) (Nat.le_of_ble_eq_true rfl) hM.k ⟨by decide, rfl⟩ hM.b rfl rfl (Nat.le_of_ble_eq_true rfl) ⟨Nat.le_refl _, Nat.le_refl _⟩ ?_
            refine aw_iret q rfl dX11_order_82 ⟨Nat.le_refl _, Nat.le_refl _⟩ ?_
            refine Tl.ok ?_
            simp [aOrder, Int32.not_lt.mpr c1, f15, c35, Int32.not_le.mpr c35, eh, nI_clamp hkk]
          · have hlt := ge_f (B := kk) rfl hkk hi c50
            refine aw_iload_n dX11_order_53 rfl ?_
            refine aw_iconst (v := 1) dX11_order_54 rfl ?_
            refine aw_aload_n dX11_order_55 rfl ?_
            refine aw_iload_n dX11_order_56 rfl ?_
            refine aw_iload_n dX11_order_57 rfl ?_
            refine aw_cV dX11_order_58 kX11_280 mX11_firstOf (sX11_firstOf (h := h) hM hN rfl hh10) (Nat.le_of_ble_eq_true rfl) hM.k ⟨by decide, rfl⟩ hM.b rfl rfl (Nat.le_of_ble_eq_true rfl) ⟨Nat.le_refl _, Nat.le_refl _⟩ ?_
            refine aw_ishl dX11_order_61 ?_
            refine aw_iconst (v := (-1)) dX11_order_62 rfl ?_
            refine aw_ixor dX11_order_63 ?_
            refine aw_iand dX11_order_64 ?_
            refine aw_istore_n dX11_order_65 (by decide) rfl ?_
            refine aw_iinc dX11_order_66 rfl (ginc rfl) (by decide) rfl ?_
            refine aw_goto (tgt := 47) dX11_order_69 rfl ?_
            have := ih hlt
            rw [itr_succ] at this
            exact this
        exact loop 0 (Nat.zero_le _)
      · refine aw_aload_n dX11_order_38 rfl ?_
        refine aw_iconst (v := 5) dX11_order_39 rfl ?_
        refine aw_cV dX11_order_40 kX11_186 mX11_refuse (sX11_refuse hM) (Nat.le_of_ble_eq_true rfl) hM.k ⟨by decide, rfl⟩ hM.b rfl rfl (Nat.le_of_ble_eq_true rfl) ⟨Nat.le_refl _, Nat.le_refl _⟩ ?_
        refine aw_iret q rfl dX11_order_43 ⟨Nat.le_refl _, Nat.le_refl _⟩ ?_
        refine Tl.no ?_
        simp [aOrder, Int32.not_lt.mpr c1, f15, fa_of_nlt c35]
    · refine aw_aload_n dX11_order_18 rfl ?_
      refine aw_iconst (v := 2) dX11_order_19 rfl ?_
      refine aw_cV dX11_order_20 kX11_186 mX11_refuse (sX11_refuse hM) (Nat.le_of_ble_eq_true rfl) hM.k ⟨by decide, rfl⟩ hM.b rfl rfl (Nat.le_of_ble_eq_true rfl) ⟨Nat.le_refl _, Nat.le_refl _⟩ ?_
      refine aw_iret q rfl dX11_order_23 ⟨Nat.le_refl _, Nat.le_refl _⟩ ?_
      refine Tl.no ?_
      simp [aOrder, Int32.not_lt.mpr c1, bI0.mp c15]
  · refine aw_aload_n dX11_order_4 rfl ?_
    refine aw_iconst (v := 1) dX11_order_5 rfl ?_
    refine aw_cV dX11_order_6 kX11_186 mX11_refuse (sX11_refuse hM) (Nat.le_of_ble_eq_true rfl) hM.k ⟨by decide, rfl⟩ hM.b rfl rfl (Nat.le_of_ble_eq_true rfl) ⟨Nat.le_refl _, Nat.le_refl _⟩ ?_
    refine aw_iret q rfl dX11_order_9 ⟨Nat.le_refl _, Nat.le_refl _⟩ ?_
    exact Tl.no (by simp [aOrder, fa_of_nle c1])
def aAhead (N : Nat → Int32) (x y : Int32) : An := if !mOnes N x y then no 2 else if !(mHope N x.toNatClampNeg && mFit N x.toNatClampNeg y.toNatClampNeg) then no 5 else ok (mAhead N x.toNatClampNeg y.toNatClampNeg (mAble N y.toNatClampNeg))
def aTurn (N : Nat → Int32) (x w : Int32) : An := if !mFrom w 0 1 then no 1 else if !mFrom x 0 (N 230 - 1) then no 2 else ok (bI (if w = 0 then mLocal N x.toNatClampNeg else mQuota N))
set_option maxHeartbeats 4000000 in
set_option maxRecDepth 100000 in
theorem sX11_ahead (hM : IsM n sh m) (hN : Cn (I (m + 1))) {x y : Int32} : CM yX11_ahead cX11_ahead 5 (Option.some .int) 7 0 0 [.ref m, .int x, .int y] z n sh I L (Tl (aAhead (I (m + 1)) x y) z n sh I L m) := by
  refine CM.go [some (.ref m), some (.int x), some (.int y), none, none] rfl rfl (Nat.le_of_ble_eq_true rfl) (fun X g q => ?_)
  refine aw_aload_n dX11_ahead_0 rfl ?_
  refine aw_iload_n dX11_ahead_1 rfl ?_
  refine aw_iload_n dX11_ahead_2 rfl ?_
  refine aw_cV dX11_ahead_3 kX11_253 mX11_areOnes (sX11_areOnes hM) (Nat.le_of_ble_eq_true rfl) hM.k ⟨by decide, rfl⟩ hM.b rfl rfl (Nat.le_of_ble_eq_true rfl) ⟨Nat.le_refl _, Nat.le_refl _⟩ ?_
  refine aw_if_ne (tgt := 15) dX11_ahead_6 rfl (fun c6 => ?_) (fun c6 => ?_)
  · have f6 := bI1.mp c6
    obtain ⟨p, h, hpn, hhn, hp8, hh10, rfl, rfl, ep, eh⟩ := ones_ix hN f6
    refine aw_aload_n dX11_ahead_15 rfl ?_
    refine aw_iload_n dX11_ahead_16 rfl ?_
    refine aw_cV dX11_ahead_17 kX11_283 mX11_mayHope (sX11_mayHope (p := p) hM rfl hp8) (Nat.le_of_ble_eq_true rfl) hM.k ⟨by decide, rfl⟩ hM.b rfl rfl (Nat.le_of_ble_eq_true rfl) ⟨Nat.le_refl _, Nat.le_refl _⟩ ?_
    refine aw_if_eq (tgt := 32) dX11_ahead_20 rfl (fun c20 => ?_) (fun c20 => ?_)
    · refine aw_aload_n dX11_ahead_32 rfl ?_
      refine aw_iconst (v := 5) dX11_ahead_33 rfl ?_
      refine aw_cV dX11_ahead_34 kX11_186 mX11_refuse (sX11_refuse hM) (Nat.le_of_ble_eq_true rfl) hM.k ⟨by decide, rfl⟩ hM.b rfl rfl (Nat.le_of_ble_eq_true rfl) ⟨Nat.le_refl _, Nat.le_refl _⟩ ?_
      refine aw_iret q rfl dX11_ahead_37 ⟨Nat.le_refl _, Nat.le_refl _⟩ ?_
      have f20 := bI0.mp c20
      exact Tl.no (by simp [aAhead, f6, f20, ep, eh])
    · refine aw_aload_n dX11_ahead_23 rfl ?_
      refine aw_iload_n dX11_ahead_24 rfl ?_
      refine aw_iload_n dX11_ahead_25 rfl ?_
      refine aw_cV dX11_ahead_26 kX11_250 mX11_doesFit (sX11_doesFit (p := p) (h := h) hM rfl rfl hp8 hh10) (Nat.le_of_ble_eq_true rfl) hM.k ⟨by decide, rfl⟩ hM.b rfl rfl (Nat.le_of_ble_eq_true rfl) ⟨Nat.le_refl _, Nat.le_refl _⟩ ?_
      refine aw_if_ne (tgt := 38) dX11_ahead_29 rfl (fun c29 => ?_) (fun c29 => ?_)
      · refine aw_iconst (v := 0) dX11_ahead_38 rfl ?_
        refine aw_istore_n dX11_ahead_39 (by decide) rfl ?_
        refine aw_iconst (v := 0) dX11_ahead_40 rfl ?_
        refine aw_istore dX11_ahead_41 (by decide) rfl ?_
        have f20 := bI1.mp c20
        have f29 := bI1.mp c29
        have loop : ∀ i, i ≤ nPo (I (m + 1)) → ∀ acc : Int32, acc = iset (fun p => mHope (I (m + 1)) p && mFit (I (m + 1)) p h) i → AW X g RX11 cX11_ahead 5 (7, 0, 0) (z, n, sh, 0, 0) I L 43 [some (.ref m), some (.int (nI p)), some (.int (nI h)), some (.int acc), some (.int (nI i))] [] := by
          refine up_loop (fun i hi ih acc ha => ?_)
          have hb8 := hN.p8
          refine aw_iload dX11_ahead_43 rfl ?_
          refine aw_aload_n dX11_ahead_45 rfl ?_
          refine aw_getR (b := m + 1) dX11_ahead_46 fX11_7 hM.k hM.b rfl hM.r0 ?_
          refine aw_sipush (v := 231) dX11_ahead_49 rfl ?_
          refine aw_ialdN (k := 231) dX11_ahead_52 hM.k0 hM.b0 hM.l0 rfl (by decide) (by decide) ?_
          refine aw_icmp_ge (tgt := 92) dX11_ahead_53 rfl (fun c53 => ?_) (fun c53 => ?_)
          · have e := ge_t hN.p (by have := hN.p8; omega) hi c53
            refine aw_aload_n dX11_ahead_92 rfl ?_
            refine aw_aload_n dX11_ahead_93 rfl ?_
            refine aw_iload_n dX11_ahead_94 rfl ?_
            refine aw_iload_n dX11_ahead_95 rfl ?_
            refine aw_iload_n dX11_ahead_96 rfl ?_
            refine aw_cV dX11_ahead_97 kX11_286 mX11_aheadOf (sX11_aheadOf (p := p) (h := h) hM hN rfl rfl (by omega) (by omega)) (Nat.le_of_ble_eq_true rfl) hM.k ⟨by decide, rfl⟩ hM.b rfl rfl (Nat.le_of_ble_eq_true rfl) ⟨Nat.le_refl _, Nat.le_refl _⟩ ?_
            refine aw_cV dX11_ahead_100 kX11_199 mX11_gives (sX11_gives hM) (Nat.le_of_ble_eq_true rfl) hM.k ⟨by decide, rfl⟩ hM.b rfl rfl (Nat.le_of_ble_eq_true rfl) ⟨Nat.le_refl _, Nat.le_refl _⟩ ?_
            refine aw_iret q rfl dX11_ahead_103 ⟨Nat.le_refl _, Nat.le_refl _⟩ ?_
            refine Tl.ok ?_
            simp [aAhead, f6, f20, f29, ep, eh, mAble, ha, e]
          · have hlt := ge_f hN.p (by have := hN.p8; omega) hi c53
            refine aw_iload_n dX11_ahead_56 rfl ?_
            refine aw_aload_n dX11_ahead_57 rfl ?_
            refine aw_iload dX11_ahead_58 rfl ?_
            refine aw_cV dX11_ahead_60 kX11_283 mX11_mayHope (sX11_mayHope (p := i) hM rfl (by omega)) (Nat.le_of_ble_eq_true rfl) hM.k ⟨by decide, rfl⟩ hM.b rfl rfl (Nat.le_of_ble_eq_true rfl) ⟨Nat.le_refl _, Nat.le_refl _⟩ ?_
            refine aw_if_eq (tgt := 83) dX11_ahead_63 rfl (fun c63 => ?_) (fun c63 => ?_)
            · refine aw_iconst (v := 0) dX11_ahead_83 rfl ?_
              refine aw_ior dX11_ahead_84 ?_
              refine aw_istore_n dX11_ahead_85 (by decide) rfl ?_
              refine aw_iinc dX11_ahead_86 rfl (ginc rfl) (by decide) rfl ?_
              refine aw_goto (tgt := 43) dX11_ahead_89 rfl ?_
              refine ih hlt _ ?_
              rw [iset, ← ha]
              simp [bI0.mp c63]
            · refine aw_aload_n dX11_ahead_66 rfl ?_
              refine aw_iload dX11_ahead_67 rfl ?_
              refine aw_iload_n dX11_ahead_69 rfl ?_
              refine aw_cV dX11_ahead_70 kX11_250 mX11_doesFit (sX11_doesFit (p := i) (h := h) hM rfl rfl (by omega) (by omega)) (Nat.le_of_ble_eq_true rfl) hM.k ⟨by decide, rfl⟩ hM.b rfl rfl (Nat.le_of_ble_eq_true rfl) ⟨Nat.le_refl _, Nat.le_refl _⟩ ?_
              refine aw_if_eq (tgt := 83) dX11_ahead_73 rfl (fun c73 => ?_) (fun c73 => ?_)
              · refine aw_iconst (v := 0) dX11_ahead_83 rfl ?_
                refine aw_ior dX11_ahead_84 ?_
                refine aw_istore_n dX11_ahead_85 (by decide) rfl ?_
                refine aw_iinc dX11_ahead_86 rfl (ginc rfl) (by decide) rfl ?_
                refine aw_goto (tgt := 43) dX11_ahead_89 rfl ?_
                refine ih hlt _ ?_
                rw [iset, ← ha]
                simp [bI1.mp c63, bI0.mp c73]
              · refine aw_iconst (v := 1) dX11_ahead_76 rfl ?_
                refine aw_iload dX11_ahead_77 rfl ?_
                refine aw_ishl dX11_ahead_79 ?_
                refine aw_goto (tgt := 84) dX11_ahead_80 rfl ?_
                refine aw_ior dX11_ahead_84 ?_
                refine aw_istore_n dX11_ahead_85 (by decide) rfl ?_
                refine aw_iinc dX11_ahead_86 rfl (ginc rfl) (by decide) rfl ?_
                refine aw_goto (tgt := 43) dX11_ahead_89 rfl ?_
                refine ih hlt _ ?_
                rw [iset, ← ha]
                simp [bI1.mp c63, bI1.mp c73]
        exact loop 0 (Nat.zero_le _) 0 rfl
      · refine aw_aload_n dX11_ahead_32 rfl ?_
        refine aw_iconst (v := 5) dX11_ahead_33 rfl ?_
        refine aw_cV dX11_ahead_34 kX11_186 mX11_refuse (sX11_refuse hM) (Nat.le_of_ble_eq_true rfl) hM.k ⟨by decide, rfl⟩ hM.b rfl rfl (Nat.le_of_ble_eq_true rfl) ⟨Nat.le_refl _, Nat.le_refl _⟩ ?_
        refine aw_iret q rfl dX11_ahead_37 ⟨Nat.le_refl _, Nat.le_refl _⟩ ?_
        have f29 := bI0.mp c29
        exact Tl.no (by simp [aAhead, f6, f29, ep, eh])
  · refine aw_aload_n dX11_ahead_9 rfl ?_
    refine aw_iconst (v := 2) dX11_ahead_10 rfl ?_
    refine aw_cV dX11_ahead_11 kX11_186 mX11_refuse (sX11_refuse hM) (Nat.le_of_ble_eq_true rfl) hM.k ⟨by decide, rfl⟩ hM.b rfl rfl (Nat.le_of_ble_eq_true rfl) ⟨Nat.le_refl _, Nat.le_refl _⟩ ?_
    refine aw_iret q rfl dX11_ahead_14 ⟨Nat.le_refl _, Nat.le_refl _⟩ ?_
    exact Tl.no (by simp [aAhead, bI0.mp c6])
set_option maxHeartbeats 4000000 in
set_option maxRecDepth 100000 in
theorem sX11_turn (hM : IsM n sh m) (hN : Cn (I (m + 1))) {x w : Int32} : CM yX11_turn cX11_turn 3 (Option.some .int) 4 0 0 [.ref m, .int x, .int w] z n sh I L (Tl (aTurn (I (m + 1)) x w) z n sh I L m) := by
  refine CM.go [some (.ref m), some (.int x), some (.int w)] rfl rfl (Nat.le_of_ble_eq_true rfl) (fun X g q => ?_)
  refine aw_iload_n dX11_turn_0 rfl ?_
  refine aw_iconst (v := 0) dX11_turn_1 rfl ?_
  refine aw_iconst (v := 1) dX11_turn_2 rfl ?_
  refine aw_cS dX11_turn_3 kX11_71 mX11_isFrom (sX11_isFrom hM) (Nat.le_of_ble_eq_true rfl) rfl rfl (Nat.le_of_ble_eq_true rfl) ⟨Nat.le_refl _, Nat.le_refl _⟩ ?_
  refine aw_if_ne (tgt := 15) dX11_turn_6 rfl (fun c6 => ?_) (fun c6 => ?_)
  · have f6 := bI1.mp c6
    refine aw_aload_n dX11_turn_15 rfl ?_
    refine aw_iload_n dX11_turn_16 rfl ?_
    refine aw_cV dX11_turn_17 kX11_238 mX11_isHome (sX11_isHome hM) (Nat.le_of_ble_eq_true rfl) hM.k ⟨by decide, rfl⟩ hM.b rfl rfl (Nat.le_of_ble_eq_true rfl) ⟨Nat.le_refl _, Nat.le_refl _⟩ ?_
    refine aw_if_ne (tgt := 29) dX11_turn_20 rfl (fun c20 => ?_) (fun c20 => ?_)
    · have f20 := bI1.mp c20
      obtain ⟨h, hhn, rfl⟩ := from_ix hN.h (by have := hN.h10; omega) f20
      have hh10 : h < 10 := by have := hN.h10; omega
      have eh := nI_clamp (show h < 2 ^ 31 by omega)
      refine aw_aload_n dX11_turn_29 rfl ?_
      refine aw_iload_n dX11_turn_30 rfl ?_
      refine aw_if_ne (tgt := 45) dX11_turn_31 rfl (fun c31 => ?_) (fun c31 => ?_)
      · refine aw_aload_n dX11_turn_45 rfl ?_
        refine aw_cV dX11_turn_46 kX11_268 mX11_isQuota (sX11_isQuota hM hN) (Nat.le_of_ble_eq_true rfl) hM.k ⟨by decide, rfl⟩ hM.b rfl rfl (Nat.le_of_ble_eq_true rfl) ⟨Nat.le_refl _, Nat.le_refl _⟩ ?_
        refine aw_if_eq (tgt := 56) dX11_turn_49 rfl (fun c49 => ?_) (fun c49 => ?_)
        · refine aw_iconst (v := 0) dX11_turn_56 rfl ?_
          refine aw_cV dX11_turn_57 kX11_199 mX11_gives (sX11_gives hM) (Nat.le_of_ble_eq_true rfl) hM.k ⟨by decide, rfl⟩ hM.b rfl rfl (Nat.le_of_ble_eq_true rfl) ⟨Nat.le_refl _, Nat.le_refl _⟩ ?_
          refine aw_iret q rfl dX11_turn_60 ⟨Nat.le_refl _, Nat.le_refl _⟩ ?_
          refine Tl.ok ?_
          simp [aTurn, f6, f20, eh, bI, c31, bI0.mp c49]
        · refine aw_iconst (v := 1) dX11_turn_52 rfl ?_
          refine aw_goto (tgt := 57) dX11_turn_53 rfl ?_
          refine aw_cV dX11_turn_57 kX11_199 mX11_gives (sX11_gives hM) (Nat.le_of_ble_eq_true rfl) hM.k ⟨by decide, rfl⟩ hM.b rfl rfl (Nat.le_of_ble_eq_true rfl) ⟨Nat.le_refl _, Nat.le_refl _⟩ ?_
          refine aw_iret q rfl dX11_turn_60 ⟨Nat.le_refl _, Nat.le_refl _⟩ ?_
          refine Tl.ok ?_
          simp [aTurn, f6, f20, eh, bI, c31, bI1.mp c49]
      · refine aw_aload_n dX11_turn_34 rfl ?_
        refine aw_iload_n dX11_turn_35 rfl ?_
        refine aw_cV dX11_turn_36 kX11_265 mX11_isLocal (sX11_isLocal (h := h) hM hN rfl hh10) (Nat.le_of_ble_eq_true rfl) hM.k ⟨by decide, rfl⟩ hM.b rfl rfl (Nat.le_of_ble_eq_true rfl) ⟨Nat.le_refl _, Nat.le_refl _⟩ ?_
        refine aw_if_eq (tgt := 56) dX11_turn_39 rfl (fun c39 => ?_) (fun c39 => ?_)
        · refine aw_iconst (v := 0) dX11_turn_56 rfl ?_
          refine aw_cV dX11_turn_57 kX11_199 mX11_gives (sX11_gives hM) (Nat.le_of_ble_eq_true rfl) hM.k ⟨by decide, rfl⟩ hM.b rfl rfl (Nat.le_of_ble_eq_true rfl) ⟨Nat.le_refl _, Nat.le_refl _⟩ ?_
          refine aw_iret q rfl dX11_turn_60 ⟨Nat.le_refl _, Nat.le_refl _⟩ ?_
          subst c31
          refine Tl.ok ?_
          simp [aTurn, f6, f20, eh, bI, bI0.mp c39]
        · refine aw_goto (tgt := 52) dX11_turn_42 rfl ?_
          refine aw_iconst (v := 1) dX11_turn_52 rfl ?_
          refine aw_goto (tgt := 57) dX11_turn_53 rfl ?_
          refine aw_cV dX11_turn_57 kX11_199 mX11_gives (sX11_gives hM) (Nat.le_of_ble_eq_true rfl) hM.k ⟨by decide, rfl⟩ hM.b rfl rfl (Nat.le_of_ble_eq_true rfl) ⟨Nat.le_refl _, Nat.le_refl _⟩ ?_
          refine aw_iret q rfl dX11_turn_60 ⟨Nat.le_refl _, Nat.le_refl _⟩ ?_
          subst c31
          refine Tl.ok ?_
          simp [aTurn, f6, f20, eh, bI, bI1.mp c39]
    · refine aw_aload_n dX11_turn_23 rfl ?_
      refine aw_iconst (v := 2) dX11_turn_24 rfl ?_
      refine aw_cV dX11_turn_25 kX11_186 mX11_refuse (sX11_refuse hM) (Nat.le_of_ble_eq_true rfl) hM.k ⟨by decide, rfl⟩ hM.b rfl rfl (Nat.le_of_ble_eq_true rfl) ⟨Nat.le_refl _, Nat.le_refl _⟩ ?_
      refine aw_iret q rfl dX11_turn_28 ⟨Nat.le_refl _, Nat.le_refl _⟩ ?_
      exact Tl.no (by simp [aTurn, f6, bI0.mp c20])
  · refine aw_aload_n dX11_turn_9 rfl ?_
    refine aw_iconst (v := 1) dX11_turn_10 rfl ?_
    refine aw_cV dX11_turn_11 kX11_186 mX11_refuse (sX11_refuse hM) (Nat.le_of_ble_eq_true rfl) hM.k ⟨by decide, rfl⟩ hM.b rfl rfl (Nat.le_of_ble_eq_true rfl) ⟨Nat.le_refl _, Nat.le_refl _⟩ ?_
    refine aw_iret q rfl dX11_turn_14 ⟨Nat.le_refl _, Nat.le_refl _⟩ ?_
    exact Tl.no (by simp [aTurn, bI0.mp c6])
theorem rX11_turn (hM : IsM n sh m) {N : Nat → Int32} (hI : I (m + 1) = N) (hN : Cn N) {x w : Int32} : CM yX11_turn cX11_turn 3 (Option.some .int) 4 0 0 [.ref m, .int x, .int w] z n sh I L (Tl (aTurn (N) x w) z n sh I L m) := by
  subst hI
  apply sX11_turn <;> assumption
theorem band_nI (N : Nat → Int32) (p : Nat) : mBand N p = nI (mBand N p).toNatClampNeg ∧ (mBand N p).toNatClampNeg < 2 ^ 31 := by
  have h : ¬ mBand N p < 0 := by
    unfold mBand imax
    rw [Int32.not_lt]
    split
    · rename_i h
      have h1 := Int32.le_iff_toInt_le.mp (Int32.le_of_lt h)
      rw [Int32.le_iff_toInt_le]
      have e1 : (1 : Int32).toInt = 1 := by decide
      have e0 : (0 : Int32).toInt = 0 := by decide
      omega
    · decide
  obtain ⟨j, hj, e⟩ := nI_of h
  rw [e, nI_clamp hj]
  exact ⟨rfl, hj⟩
def gapP (N : Nat → Int32) (p h : Nat) (f : Option Nat) (l : Nat) : Bool := f.isNone || decide (mWeight N p h (mBand N p - nI l) < mW N (f.getD 0) h)
def aGap (N : Nat → Int32) (x y : Int32) : An :=
  if !mOnes N x y then no 2 else if !(mHope N x.toNatClampNeg && mFit N x.toNatClampNeg y.toNatClampNeg) then no 5 else
  if fa_first (gapP N x.toNatClampNeg y.toNatClampNeg (mFirst N y.toNatClampNeg (iDrop (mBidders N y.toNatClampNeg) x))) (mBand N x.toNatClampNeg).toNatClampNeg < (mBand N x.toNatClampNeg).toNatClampNeg
  then ok (nI (fa_first (gapP N x.toNatClampNeg y.toNatClampNeg (mFirst N y.toNatClampNeg (iDrop (mBidders N y.toNatClampNeg) x))) (mBand N x.toNatClampNeg).toNatClampNeg)) else no 5
set_option maxHeartbeats 4000000 in
set_option maxRecDepth 100000 in
theorem sX11_gap (hM : IsM n sh m) (hN : Cn (I (m + 1))) {x y : Int32} : CM yX11_gap cX11_gap 6 (Option.some .int) 7 0 0 [.ref m, .int x, .int y] z n sh I L (Tl (aGap (I (m + 1)) x y) z n sh I L m) := by
  refine CM.go [some (.ref m), some (.int x), some (.int y), none, none, none] rfl rfl (Nat.le_of_ble_eq_true rfl) (fun X g q => ?_)
  refine aw_aload_n dX11_gap_0 rfl ?_
  refine aw_iload_n dX11_gap_1 rfl ?_
  refine aw_iload_n dX11_gap_2 rfl ?_
  refine aw_cV dX11_gap_3 kX11_253 mX11_areOnes (sX11_areOnes hM) (Nat.le_of_ble_eq_true rfl) hM.k ⟨by decide, rfl⟩ hM.b rfl rfl (Nat.le_of_ble_eq_true rfl) ⟨Nat.le_refl _, Nat.le_refl _⟩ ?_
  refine aw_if_ne (tgt := 15) dX11_gap_6 rfl (fun c6 => ?_) (fun c6 => ?_)
  · have f6 := bI1.mp c6
    obtain ⟨p, h, hpn, hhn, hp8, hh10, rfl, rfl, ep, eh⟩ := ones_ix hN f6
    refine aw_aload_n dX11_gap_15 rfl ?_
    refine aw_iload_n dX11_gap_16 rfl ?_
    refine aw_cV dX11_gap_17 kX11_283 mX11_mayHope (sX11_mayHope (p := p) hM rfl hp8) (Nat.le_of_ble_eq_true rfl) hM.k ⟨by decide, rfl⟩ hM.b rfl rfl (Nat.le_of_ble_eq_true rfl) ⟨Nat.le_refl _, Nat.le_refl _⟩ ?_
    refine aw_if_eq (tgt := 32) dX11_gap_20 rfl (fun c20 => ?_) (fun c20 => ?_)
    · refine aw_aload_n dX11_gap_32 rfl ?_
      refine aw_iconst (v := 5) dX11_gap_33 rfl ?_
      refine aw_cV dX11_gap_34 kX11_186 mX11_refuse (sX11_refuse hM) (Nat.le_of_ble_eq_true rfl) hM.k ⟨by decide, rfl⟩ hM.b rfl rfl (Nat.le_of_ble_eq_true rfl) ⟨Nat.le_refl _, Nat.le_refl _⟩ ?_
      refine aw_iret q rfl dX11_gap_37 ⟨Nat.le_refl _, Nat.le_refl _⟩ ?_
      have f20 := bI0.mp c20
      exact Tl.no (by simp [aGap, f6, f20, ep, eh])
    · refine aw_aload_n dX11_gap_23 rfl ?_
      refine aw_iload_n dX11_gap_24 rfl ?_
      refine aw_iload_n dX11_gap_25 rfl ?_
      refine aw_cV dX11_gap_26 kX11_250 mX11_doesFit (sX11_doesFit (p := p) (h := h) hM rfl rfl hp8 hh10) (Nat.le_of_ble_eq_true rfl) hM.k ⟨by decide, rfl⟩ hM.b rfl rfl (Nat.le_of_ble_eq_true rfl) ⟨Nat.le_refl _, Nat.le_refl _⟩ ?_
      refine aw_if_ne (tgt := 38) dX11_gap_29 rfl (fun c29 => ?_) (fun c29 => ?_)
      · refine aw_aload_n dX11_gap_38 rfl ?_
        refine aw_iload_n dX11_gap_39 rfl ?_
        refine aw_cV dX11_gap_40 kX11_277 mX11_biddersOf (sX11_biddersOf (h := h) hM hN rfl) (Nat.le_of_ble_eq_true rfl) hM.k ⟨by decide, rfl⟩ hM.b rfl rfl (Nat.le_of_ble_eq_true rfl) ⟨Nat.le_refl _, Nat.le_refl _⟩ ?_
        refine aw_iconst (v := 1) dX11_gap_43 rfl ?_
        refine aw_iload_n dX11_gap_44 rfl ?_
        refine aw_ishl dX11_gap_45 ?_
        refine aw_iconst (v := (-1)) dX11_gap_46 rfl ?_
        refine aw_ixor dX11_gap_47 ?_
        refine aw_iand dX11_gap_48 ?_
        refine aw_istore_n dX11_gap_49 (by decide) rfl ?_
        refine aw_aload_n dX11_gap_50 rfl ?_
        refine aw_iload_n dX11_gap_51 rfl ?_
        refine aw_iload_n dX11_gap_52 rfl ?_
        refine aw_cV dX11_gap_53 kX11_280 mX11_firstOf (sX11_firstOf (h := h) hM hN rfl hh10) (Nat.le_of_ble_eq_true rfl) hM.k ⟨by decide, rfl⟩ hM.b rfl rfl (Nat.le_of_ble_eq_true rfl) ⟨Nat.le_refl _, Nat.le_refl _⟩ ?_
        refine aw_istore dX11_gap_56 (by decide) rfl ?_
        refine aw_iconst (v := 0) dX11_gap_58 rfl ?_
        refine aw_istore dX11_gap_59 (by decide) rfl ?_
        have f20 := bI1.mp c20
        have f29 := bI1.mp c29
        obtain ⟨hbd, hbd31⟩ := band_nI (I (m + 1)) p
        have loop : ∀ i, i ≤ (mBand (I (m + 1)) p).toNatClampNeg → fa_first (gapP (I (m + 1)) p h (mFirst (I (m + 1)) h (iDrop (mBidders (I (m + 1)) h) (nI p)))) i = i → AW X g RX11 cX11_gap 6 (7, 0, 0) (z, n, sh, 0, 0) I L 61 [some (.ref m), some (.int (nI p)), some (.int (nI h)), some (.int (iDrop (mBidders (I (m + 1)) h) (nI p))), some (.int (oN (mFirst (I (m + 1)) h (iDrop (mBidders (I (m + 1)) h) (nI p))))), some (.int (nI i))] [] := by
          refine up_loop (fun i hi ih hf => ?_)
          have hb8 := hN.p8
          refine aw_iload dX11_gap_61 rfl ?_
          refine aw_aload_n dX11_gap_63 rfl ?_
          refine aw_iload_n dX11_gap_64 rfl ?_
          refine aw_cV dX11_gap_65 kX11_247 mX11_bandNow (sX11_bandNow (p := p) hM rfl (by omega) hN.age) (Nat.le_of_ble_eq_true rfl) hM.k ⟨by decide, rfl⟩ hM.b rfl rfl (Nat.le_of_ble_eq_true rfl) ⟨Nat.le_refl _, Nat.le_refl _⟩ ?_
          refine aw_icmp_ge (tgt := 114) dX11_gap_68 rfl (fun c68 => ?_) (fun c68 => ?_)
          · have e := ge_t hbd hbd31 hi c68
            refine aw_aload_n dX11_gap_114 rfl ?_
            refine aw_iconst (v := 5) dX11_gap_115 rfl ?_
            refine aw_cV dX11_gap_116 kX11_186 mX11_refuse (sX11_refuse hM) (Nat.le_of_ble_eq_true rfl) hM.k ⟨by decide, rfl⟩ hM.b rfl rfl (Nat.le_of_ble_eq_true rfl) ⟨Nat.le_refl _, Nat.le_refl _⟩ ?_
            refine aw_iret q rfl dX11_gap_119 ⟨Nat.le_refl _, Nat.le_refl _⟩ ?_
            refine Tl.no ?_
            have e2 : fa_first (gapP (I (m + 1)) p h (mFirst (I (m + 1)) h (iDrop (mBidders (I (m + 1)) h) (nI p)))) (mBand (I (m + 1)) p).toNatClampNeg = (mBand (I (m + 1)) p).toNatClampNeg := by rw [← e]; exact hf
            simp [aGap, f6, f20, f29, ep, eh, e2]
          · have hlt := ge_f hbd hbd31 hi c68
            refine aw_iload dX11_gap_71 rfl ?_
            refine aw_iconst (v := (-1)) dX11_gap_73 rfl ?_
            refine aw_icmp_eq (tgt := 101) dX11_gap_74 rfl (fun c74 => ?_) (fun c74 => ?_)
            · have e30 := oN_none (n := nPo (I (m + 1))) (by omega) c74
              have e30 : mFirst (I (m + 1)) h (iDrop (mBidders (I (m + 1)) h) (nI p)) = none := e30
              refine aw_aload_n dX11_gap_101 rfl ?_
              refine aw_iload dX11_gap_102 rfl ?_
              refine aw_cV dX11_gap_104 kX11_199 mX11_gives (sX11_gives hM) (Nat.le_of_ble_eq_true rfl) hM.k ⟨by decide, rfl⟩ hM.b rfl rfl (Nat.le_of_ble_eq_true rfl) ⟨Nat.le_refl _, Nat.le_refl _⟩ ?_
              refine aw_iret q rfl dX11_gap_107 ⟨Nat.le_refl _, Nat.le_refl _⟩ ?_
              have pf : gapP (I (m + 1)) p h (mFirst (I (m + 1)) h (iDrop (mBidders (I (m + 1)) h) (nI p))) i = true := by simp [gapP, e30]
              refine Tl.ok ?_
              have e := fa_first_yes1 hf pf hlt
              simp [aGap, f6, f20, f29, ep, eh, e, hlt]
            · obtain ⟨b, eb, hbi, -, hb3⟩ := oN_some c74
              have eb : mFirst (I (m + 1)) h (iDrop (mBidders (I (m + 1)) h) (nI p)) = some b := eb
              refine aw_aload_n dX11_gap_77 rfl ?_
              refine aw_iload_n dX11_gap_78 rfl ?_
              refine aw_iload_n dX11_gap_79 rfl ?_
              refine aw_aload_n dX11_gap_80 rfl ?_
              refine aw_iload_n dX11_gap_81 rfl ?_
              refine aw_cV dX11_gap_82 kX11_247 mX11_bandNow (sX11_bandNow (p := p) hM rfl (by omega) hN.age) (Nat.le_of_ble_eq_true rfl) hM.k ⟨by decide, rfl⟩ hM.b rfl rfl (Nat.le_of_ble_eq_true rfl) ⟨Nat.le_refl _, Nat.le_refl _⟩ ?_
              refine aw_iload dX11_gap_85 rfl ?_
              refine aw_isub dX11_gap_87 ?_
              refine aw_cV dX11_gap_88 kX11_271 mX11_weight (sX11_weight (p := p) (h := h) hM hN rfl rfl (by omega) (by omega)) (Nat.le_of_ble_eq_true rfl) hM.k ⟨by decide, rfl⟩ hM.b rfl rfl (Nat.le_of_ble_eq_true rfl) ⟨Nat.le_refl _, Nat.le_refl _⟩ ?_
              refine aw_aload_n dX11_gap_91 rfl ?_
              refine aw_iload dX11_gap_92 rfl ?_
              refine aw_iload_n dX11_gap_94 rfl ?_
              refine aw_cV dX11_gap_95 kX11_275 mX11_weight_ (sX11_weight_ (p := b) (h := h) hM hN hb3 rfl (by omega) (by omega)) (Nat.le_of_ble_eq_true rfl) hM.k ⟨by decide, rfl⟩ hM.b rfl rfl (Nat.le_of_ble_eq_true rfl) ⟨Nat.le_refl _, Nat.le_refl _⟩ ?_
              refine aw_icmp_ge (tgt := 108) dX11_gap_98 rfl (fun c98 => ?_) (fun c98 => ?_)
              · have pf : ¬ gapP (I (m + 1)) p h (mFirst (I (m + 1)) h (iDrop (mBidders (I (m + 1)) h) (nI p))) i = true := by simp [gapP, eb, Int32.not_lt.mpr c98]
                refine aw_iinc dX11_gap_108 rfl (ginc rfl) (by decide) rfl ?_
                refine aw_goto (tgt := 61) dX11_gap_111 rfl ?_
                exact ih hlt (fa_first_no1 hf pf)
              · have pf : gapP (I (m + 1)) p h (mFirst (I (m + 1)) h (iDrop (mBidders (I (m + 1)) h) (nI p))) i = true := by simp [gapP, eb, fa_of_nle c98]
                refine aw_aload_n dX11_gap_101 rfl ?_
                refine aw_iload dX11_gap_102 rfl ?_
                refine aw_cV dX11_gap_104 kX11_199 mX11_gives (sX11_gives hM) (Nat.le_of_ble_eq_true rfl) hM.k ⟨by decide, rfl⟩ hM.b rfl rfl (Nat.le_of_ble_eq_true rfl) ⟨Nat.le_refl _, Nat.le_refl _⟩ ?_
                refine aw_iret q rfl dX11_gap_107 ⟨Nat.le_refl _, Nat.le_refl _⟩ ?_
                refine Tl.ok ?_
                have e := fa_first_yes1 hf pf hlt
                simp [aGap, f6, f20, f29, ep, eh, e, hlt]
        exact loop 0 (Nat.zero_le _) rfl
      · refine aw_aload_n dX11_gap_32 rfl ?_
        refine aw_iconst (v := 5) dX11_gap_33 rfl ?_
        refine aw_cV dX11_gap_34 kX11_186 mX11_refuse (sX11_refuse hM) (Nat.le_of_ble_eq_true rfl) hM.k ⟨by decide, rfl⟩ hM.b rfl rfl (Nat.le_of_ble_eq_true rfl) ⟨Nat.le_refl _, Nat.le_refl _⟩ ?_
        refine aw_iret q rfl dX11_gap_37 ⟨Nat.le_refl _, Nat.le_refl _⟩ ?_
        have f29 := bI0.mp c29
        exact Tl.no (by simp [aGap, f6, f29, ep, eh])
  · refine aw_aload_n dX11_gap_9 rfl ?_
    refine aw_iconst (v := 2) dX11_gap_10 rfl ?_
    refine aw_cV dX11_gap_11 kX11_186 mX11_refuse (sX11_refuse hM) (Nat.le_of_ble_eq_true rfl) hM.k ⟨by decide, rfl⟩ hM.b rfl rfl (Nat.le_of_ble_eq_true rfl) ⟨Nat.le_refl _, Nat.le_refl _⟩ ?_
    refine aw_iret q rfl dX11_gap_14 ⟨Nat.le_refl _, Nat.le_refl _⟩ ?_
    exact Tl.no (by simp [aGap, bI0.mp c6])
def aHouse (N : Nat → Int32) (x w : Int32) : An :=
  if !(mFrom w 0 11 || mFrom w 20 25) then no 1 else if !mFrom x 0 (N 231 - 1) then no 2 else
  if ¬ w < 20 then (if N (80 + 18 * x.toNatClampNeg + 11) ≤ w - 20 then no 5 else ok (N (80 + 18 * x.toNatClampNeg + (12 + (w.toNatClampNeg - 20))))) else
  if w = 0 then ok (N (80 + 18 * x.toNatClampNeg + 0)) else if w = 1 then ok (mBand N x.toNatClampNeg) else if w = 2 then ok (N (80 + 18 * x.toNatClampNeg + 1)) else if w = 3 then ok (N (80 + 18 * x.toNatClampNeg + 2))
  else if w = 4 then ok (N (80 + 18 * x.toNatClampNeg + 3)) else if w = 5 then (if N (80 + 18 * x.toNatClampNeg + 4) = -1 then no 5 else ok (N (80 + 18 * x.toNatClampNeg + 4))) else if w = 6 then ok (N (80 + 18 * x.toNatClampNeg + 5))
  else if w = 7 then ok (N (80 + 18 * x.toNatClampNeg + 6)) else if w = 8 then ok (N (80 + 18 * x.toNatClampNeg + 8)) else if w = 9 then ok (nI (pcn (nBi N x.toNatClampNeg))) else if w = 10 then ok (N (80 + 18 * x.toNatClampNeg + 11)) else ok (N (80 + 18 * x.toNatClampNeg + 9))
theorem from_20 {w : Int32} (h : mFrom w 20 25 = true) : ∃ v, 20 ≤ v ∧ v ≤ 25 ∧ w = nI v := by
  unfold mFrom at h
  simp only [Bool.and_eq_true, decide_eq_true_eq] at h
  have h0 : ¬ w < 0 := by
    rw [Int32.not_lt, Int32.le_iff_toInt_le]
    have h1 := Int32.le_iff_toInt_le.mp h.1
    have e1 : (20 : Int32).toInt = 20 := by decide
    have e0 : (0 : Int32).toInt = 0 := by decide
    omega
  obtain ⟨v, hv, rfl⟩ := nI_of h0
  have h1 := (nI_leI (a := 20) (b := v) (by decide) hv).mp h.1
  have h2 := (nI_leI (a := v) (b := 25) hv (by decide)).mp h.2
  exact ⟨v, h1, h2, rfl⟩
theorem house20 {w : Int32} (h : (mFrom w 0 11 || mFrom w 20 25) = true) (hw : ¬ w < 20) : ∃ v, 20 ≤ v ∧ v ≤ 25 ∧ w = nI v := by
  rw [Bool.or_eq_true] at h
  rcases h with h | h
  · unfold mFrom at h
    simp only [Bool.and_eq_true, decide_eq_true_eq] at h
    have h1 := Int32.le_iff_toInt_le.mp h.2
    have h2 := Int32.le_iff_toInt_le.mp (Int32.not_lt.mp hw)
    have e1 : (20 : Int32).toInt = 20 := by decide
    have e0 : (11 : Int32).toInt = 11 := by decide
    omega
  · exact from_20 h
set_option maxHeartbeats 4000000 in
set_option maxRecDepth 100000 in
theorem sX11_house (hM : IsM n sh m) (hN : Cn (I (m + 1))) {x w : Int32} : CM yX11_house cX11_house 3 (Option.some .int) 4 0 0 [.ref m, .int x, .int w] z n sh I L (Tl (aHouse (I (m + 1)) x w) z n sh I L m) := by
  refine CM.go [some (.ref m), some (.int x), some (.int w)] rfl rfl (Nat.le_of_ble_eq_true rfl) (fun X g q => ?_)
  refine aw_iload_n dX11_house_0 rfl ?_
  refine aw_iconst (v := 0) dX11_house_1 rfl ?_
  refine aw_bipush (v := 11) dX11_house_2 rfl ?_
  refine aw_cS dX11_house_4 kX11_71 mX11_isFrom (sX11_isFrom hM) (Nat.le_of_ble_eq_true rfl) rfl rfl (Nat.le_of_ble_eq_true rfl) ⟨Nat.le_refl _, Nat.le_refl _⟩ ?_
  refine aw_if_ne (tgt := 27) dX11_house_7 rfl (fun c7 => ?_) (fun c7 => ?_)
  · have fo : (mFrom w 0 11 || mFrom w 20 25) = true := by simp [bI1.mp c7]
    refine aw_aload_n dX11_house_27 rfl ?_
    refine aw_iload_n dX11_house_28 rfl ?_
    refine aw_cV dX11_house_29 kX11_244 mX11_isHouse (sX11_isHouse hM) (Nat.le_of_ble_eq_true rfl) hM.k ⟨by decide, rfl⟩ hM.b rfl rfl (Nat.le_of_ble_eq_true rfl) ⟨Nat.le_refl _, Nat.le_refl _⟩ ?_
    refine aw_if_ne (tgt := 41) dX11_house_32 rfl (fun c32 => ?_) (fun c32 => ?_)
    · have f32 := bI1.mp c32
      obtain ⟨p, hpn, rfl⟩ := from_ix hN.p (by have := hN.p8; omega) f32
      have hp8 : p < 8 := by have := hN.p8; omega
      have ep := nI_clamp (show p < 2 ^ 31 by omega)
      refine aw_iload_n dX11_house_41 rfl ?_
      refine aw_bipush (v := 20) dX11_house_42 rfl ?_
      refine aw_icmp_lt (tgt := 86) dX11_house_44 rfl (fun c44 => ?_) (fun c44 => ?_)
      · refine aw_iload_n dX11_house_86 rfl ?_
        rcases swx w 11 (by decide) with ⟨j87, hj87, rfl⟩ | ho87
        · match j87, hj87 with
          | 0, _ =>
            refine aw_tableIn (off := 57) (tgt := 144) dX11_house_87 (by decide) (by decide) (by decide) rfl ?_
            refine aw_aload_n dX11_house_144 rfl ?_
            refine aw_aload_n dX11_house_145 rfl ?_
            refine aw_iload_n dX11_house_146 rfl ?_
            refine aw_iconst (v := 0) dX11_house_147 rfl ?_
            refine aw_cV dX11_house_148 kX11_205 mX11_of (sX11_of (p := p) (w := 0) hM rfl rfl (by omega)) (Nat.le_of_ble_eq_true rfl) hM.k ⟨by decide, rfl⟩ hM.b rfl rfl (Nat.le_of_ble_eq_true rfl) ⟨Nat.le_refl _, Nat.le_refl _⟩ ?_
            refine aw_cV dX11_house_151 kX11_199 mX11_gives (sX11_gives hM) (Nat.le_of_ble_eq_true rfl) hM.k ⟨by decide, rfl⟩ hM.b rfl rfl (Nat.le_of_ble_eq_true rfl) ⟨Nat.le_refl _, Nat.le_refl _⟩ ?_
            refine aw_iret q rfl dX11_house_154 ⟨Nat.le_refl _, Nat.le_refl _⟩ ?_
            have fo2 : (mFrom (0 : Int32) 0 11 || mFrom (0 : Int32) 20 25) = true := fo
            refine Tl.ok ?_
            show aHouse _ _ (0 : Int32) = _
            simp [aHouse, fo2, f32, ep]
          | 1, _ =>
            refine aw_tableIn (off := 68) (tgt := 155) dX11_house_87 (by decide) (by decide) (by decide) rfl ?_
            refine aw_aload_n dX11_house_155 rfl ?_
            refine aw_aload_n dX11_house_156 rfl ?_
            refine aw_iload_n dX11_house_157 rfl ?_
            refine aw_cV dX11_house_158 kX11_247 mX11_bandNow (sX11_bandNow (p := p) hM rfl hp8 hN.age) (Nat.le_of_ble_eq_true rfl) hM.k ⟨by decide, rfl⟩ hM.b rfl rfl (Nat.le_of_ble_eq_true rfl) ⟨Nat.le_refl _, Nat.le_refl _⟩ ?_
            refine aw_cV dX11_house_161 kX11_199 mX11_gives (sX11_gives hM) (Nat.le_of_ble_eq_true rfl) hM.k ⟨by decide, rfl⟩ hM.b rfl rfl (Nat.le_of_ble_eq_true rfl) ⟨Nat.le_refl _, Nat.le_refl _⟩ ?_
            refine aw_iret q rfl dX11_house_164 ⟨Nat.le_refl _, Nat.le_refl _⟩ ?_
            have fo2 : (mFrom (1 : Int32) 0 11 || mFrom (1 : Int32) 20 25) = true := fo
            refine Tl.ok ?_
            show aHouse _ _ (1 : Int32) = _
            simp [aHouse, fo2, f32, ep]
          | 2, _ =>
            refine aw_tableIn (off := 78) (tgt := 165) dX11_house_87 (by decide) (by decide) (by decide) rfl ?_
            refine aw_aload_n dX11_house_165 rfl ?_
            refine aw_aload_n dX11_house_166 rfl ?_
            refine aw_iload_n dX11_house_167 rfl ?_
            refine aw_iconst (v := 1) dX11_house_168 rfl ?_
            refine aw_cV dX11_house_169 kX11_205 mX11_of (sX11_of (p := p) (w := 1) hM rfl rfl (by omega)) (Nat.le_of_ble_eq_true rfl) hM.k ⟨by decide, rfl⟩ hM.b rfl rfl (Nat.le_of_ble_eq_true rfl) ⟨Nat.le_refl _, Nat.le_refl _⟩ ?_
            refine aw_cV dX11_house_172 kX11_199 mX11_gives (sX11_gives hM) (Nat.le_of_ble_eq_true rfl) hM.k ⟨by decide, rfl⟩ hM.b rfl rfl (Nat.le_of_ble_eq_true rfl) ⟨Nat.le_refl _, Nat.le_refl _⟩ ?_
            refine aw_iret q rfl dX11_house_175 ⟨Nat.le_refl _, Nat.le_refl _⟩ ?_
            have fo2 : (mFrom (2 : Int32) 0 11 || mFrom (2 : Int32) 20 25) = true := fo
            refine Tl.ok ?_
            show aHouse _ _ (2 : Int32) = _
            simp [aHouse, fo2, f32, ep]
          | 3, _ =>
            refine aw_tableIn (off := 89) (tgt := 176) dX11_house_87 (by decide) (by decide) (by decide) rfl ?_
            refine aw_aload_n dX11_house_176 rfl ?_
            refine aw_aload_n dX11_house_177 rfl ?_
            refine aw_iload_n dX11_house_178 rfl ?_
            refine aw_iconst (v := 2) dX11_house_179 rfl ?_
            refine aw_cV dX11_house_180 kX11_205 mX11_of (sX11_of (p := p) (w := 2) hM rfl rfl (by omega)) (Nat.le_of_ble_eq_true rfl) hM.k ⟨by decide, rfl⟩ hM.b rfl rfl (Nat.le_of_ble_eq_true rfl) ⟨Nat.le_refl _, Nat.le_refl _⟩ ?_
            refine aw_cV dX11_house_183 kX11_199 mX11_gives (sX11_gives hM) (Nat.le_of_ble_eq_true rfl) hM.k ⟨by decide, rfl⟩ hM.b rfl rfl (Nat.le_of_ble_eq_true rfl) ⟨Nat.le_refl _, Nat.le_refl _⟩ ?_
            refine aw_iret q rfl dX11_house_186 ⟨Nat.le_refl _, Nat.le_refl _⟩ ?_
            have fo2 : (mFrom (3 : Int32) 0 11 || mFrom (3 : Int32) 20 25) = true := fo
            refine Tl.ok ?_
            show aHouse _ _ (3 : Int32) = _
            simp [aHouse, fo2, f32, ep]
          | 4, _ =>
            refine aw_tableIn (off := 100) (tgt := 187) dX11_house_87 (by decide) (by decide) (by decide) rfl ?_
            refine aw_aload_n dX11_house_187 rfl ?_
            refine aw_aload_n dX11_house_188 rfl ?_
            refine aw_iload_n dX11_house_189 rfl ?_
            refine aw_iconst (v := 3) dX11_house_190 rfl ?_
            refine aw_cV dX11_house_191 kX11_205 mX11_of (sX11_of (p := p) (w := 3) hM rfl rfl (by omega)) (Nat.le_of_ble_eq_true rfl) hM.k ⟨by decide, rfl⟩ hM.b rfl rfl (Nat.le_of_ble_eq_true rfl) ⟨Nat.le_refl _, Nat.le_refl _⟩ ?_
            refine aw_cV dX11_house_194 kX11_199 mX11_gives (sX11_gives hM) (Nat.le_of_ble_eq_true rfl) hM.k ⟨by decide, rfl⟩ hM.b rfl rfl (Nat.le_of_ble_eq_true rfl) ⟨Nat.le_refl _, Nat.le_refl _⟩ ?_
            refine aw_iret q rfl dX11_house_197 ⟨Nat.le_refl _, Nat.le_refl _⟩ ?_
            have fo2 : (mFrom (4 : Int32) 0 11 || mFrom (4 : Int32) 20 25) = true := fo
            refine Tl.ok ?_
            show aHouse _ _ (4 : Int32) = _
            simp [aHouse, fo2, f32, ep]
          | 5, _ =>
            refine aw_tableIn (off := 111) (tgt := 198) dX11_house_87 (by decide) (by decide) (by decide) rfl ?_
            refine aw_aload_n dX11_house_198 rfl ?_
            refine aw_iload_n dX11_house_199 rfl ?_
            refine aw_iconst (v := 4) dX11_house_200 rfl ?_
            refine aw_cV dX11_house_201 kX11_205 mX11_of (sX11_of (p := p) (w := 4) hM rfl rfl (by omega)) (Nat.le_of_ble_eq_true rfl) hM.k ⟨by decide, rfl⟩ hM.b rfl rfl (Nat.le_of_ble_eq_true rfl) ⟨Nat.le_refl _, Nat.le_refl _⟩ ?_
            refine aw_iconst (v := (-1)) dX11_house_204 rfl ?_
            refine aw_icmp_ne (tgt := 216) dX11_house_205 rfl (fun c205 => ?_) (fun c205 => ?_)
            · refine aw_aload_n dX11_house_216 rfl ?_
              refine aw_aload_n dX11_house_217 rfl ?_
              refine aw_iload_n dX11_house_218 rfl ?_
              refine aw_iconst (v := 4) dX11_house_219 rfl ?_
              refine aw_cV dX11_house_220 kX11_205 mX11_of (sX11_of (p := p) (w := 4) hM rfl rfl (by omega)) (Nat.le_of_ble_eq_true rfl) hM.k ⟨by decide, rfl⟩ hM.b rfl rfl (Nat.le_of_ble_eq_true rfl) ⟨Nat.le_refl _, Nat.le_refl _⟩ ?_
              refine aw_cV dX11_house_223 kX11_199 mX11_gives (sX11_gives hM) (Nat.le_of_ble_eq_true rfl) hM.k ⟨by decide, rfl⟩ hM.b rfl rfl (Nat.le_of_ble_eq_true rfl) ⟨Nat.le_refl _, Nat.le_refl _⟩ ?_
              refine aw_iret q rfl dX11_house_226 ⟨Nat.le_refl _, Nat.le_refl _⟩ ?_
              have fo2 : (mFrom (5 : Int32) 0 11 || mFrom (5 : Int32) 20 25) = true := fo
              first | refine Tl.no ?_ | refine Tl.ok ?_
              show aHouse _ _ (5 : Int32) = _
              simp [aHouse, fo2, f32, ep, c205]
            · refine aw_aload_n dX11_house_208 rfl ?_
              refine aw_iconst (v := 5) dX11_house_209 rfl ?_
              refine aw_cV dX11_house_210 kX11_186 mX11_refuse (sX11_refuse hM) (Nat.le_of_ble_eq_true rfl) hM.k ⟨by decide, rfl⟩ hM.b rfl rfl (Nat.le_of_ble_eq_true rfl) ⟨Nat.le_refl _, Nat.le_refl _⟩ ?_
              refine aw_goto (tgt := 226) dX11_house_213 rfl ?_
              refine aw_iret q rfl dX11_house_226 ⟨Nat.le_refl _, Nat.le_refl _⟩ ?_
              have fo2 : (mFrom (5 : Int32) 0 11 || mFrom (5 : Int32) 20 25) = true := fo
              first | refine Tl.no ?_ | refine Tl.ok ?_
              show aHouse _ _ (5 : Int32) = _
              simp [aHouse, fo2, f32, ep, c205]
          | 6, _ =>
            refine aw_tableIn (off := 140) (tgt := 227) dX11_house_87 (by decide) (by decide) (by decide) rfl ?_
            refine aw_aload_n dX11_house_227 rfl ?_
            refine aw_aload_n dX11_house_228 rfl ?_
            refine aw_iload_n dX11_house_229 rfl ?_
            refine aw_iconst (v := 5) dX11_house_230 rfl ?_
            refine aw_cV dX11_house_231 kX11_205 mX11_of (sX11_of (p := p) (w := 5) hM rfl rfl (by omega)) (Nat.le_of_ble_eq_true rfl) hM.k ⟨by decide, rfl⟩ hM.b rfl rfl (Nat.le_of_ble_eq_true rfl) ⟨Nat.le_refl _, Nat.le_refl _⟩ ?_
            refine aw_cV dX11_house_234 kX11_199 mX11_gives (sX11_gives hM) (Nat.le_of_ble_eq_true rfl) hM.k ⟨by decide, rfl⟩ hM.b rfl rfl (Nat.le_of_ble_eq_true rfl) ⟨Nat.le_refl _, Nat.le_refl _⟩ ?_
            refine aw_iret q rfl dX11_house_237 ⟨Nat.le_refl _, Nat.le_refl _⟩ ?_
            have fo2 : (mFrom (6 : Int32) 0 11 || mFrom (6 : Int32) 20 25) = true := fo
            refine Tl.ok ?_
            show aHouse _ _ (6 : Int32) = _
            simp [aHouse, fo2, f32, ep]
          | 7, _ =>
            refine aw_tableIn (off := 151) (tgt := 238) dX11_house_87 (by decide) (by decide) (by decide) rfl ?_
            refine aw_aload_n dX11_house_238 rfl ?_
            refine aw_aload_n dX11_house_239 rfl ?_
            refine aw_iload_n dX11_house_240 rfl ?_
            refine aw_bipush (v := 6) dX11_house_241 rfl ?_
            refine aw_cV dX11_house_243 kX11_205 mX11_of (sX11_of (p := p) (w := 6) hM rfl rfl (by omega)) (Nat.le_of_ble_eq_true rfl) hM.k ⟨by decide, rfl⟩ hM.b rfl rfl (Nat.le_of_ble_eq_true rfl) ⟨Nat.le_refl _, Nat.le_refl _⟩ ?_
            refine aw_cV dX11_house_246 kX11_199 mX11_gives (sX11_gives hM) (Nat.le_of_ble_eq_true rfl) hM.k ⟨by decide, rfl⟩ hM.b rfl rfl (Nat.le_of_ble_eq_true rfl) ⟨Nat.le_refl _, Nat.le_refl _⟩ ?_
            refine aw_iret q rfl dX11_house_249 ⟨Nat.le_refl _, Nat.le_refl _⟩ ?_
            have fo2 : (mFrom (7 : Int32) 0 11 || mFrom (7 : Int32) 20 25) = true := fo
            refine Tl.ok ?_
            show aHouse _ _ (7 : Int32) = _
            simp [aHouse, fo2, f32, ep]
          | 8, _ =>
            refine aw_tableIn (off := 163) (tgt := 250) dX11_house_87 (by decide) (by decide) (by decide) rfl ?_
            refine aw_aload_n dX11_house_250 rfl ?_
            refine aw_aload_n dX11_house_251 rfl ?_
            refine aw_iload_n dX11_house_252 rfl ?_
            refine aw_bipush (v := 8) dX11_house_253 rfl ?_
            refine aw_cV dX11_house_255 kX11_205 mX11_of (sX11_of (p := p) (w := 8) hM rfl rfl (by omega)) (Nat.le_of_ble_eq_true rfl) hM.k ⟨by decide, rfl⟩ hM.b rfl rfl (Nat.le_of_ble_eq_true rfl) ⟨Nat.le_refl _, Nat.le_refl _⟩ ?_
            refine aw_cV dX11_house_258 kX11_199 mX11_gives (sX11_gives hM) (Nat.le_of_ble_eq_true rfl) hM.k ⟨by decide, rfl⟩ hM.b rfl rfl (Nat.le_of_ble_eq_true rfl) ⟨Nat.le_refl _, Nat.le_refl _⟩ ?_
            refine aw_iret q rfl dX11_house_261 ⟨Nat.le_refl _, Nat.le_refl _⟩ ?_
            have fo2 : (mFrom (8 : Int32) 0 11 || mFrom (8 : Int32) 20 25) = true := fo
            refine Tl.ok ?_
            show aHouse _ _ (8 : Int32) = _
            simp [aHouse, fo2, f32, ep]
          | 9, _ =>
            refine aw_tableIn (off := 175) (tgt := 262) dX11_house_87 (by decide) (by decide) (by decide) rfl ?_
            refine aw_aload_n dX11_house_262 rfl ?_
            refine aw_aload_n dX11_house_263 rfl ?_
            refine aw_iload_n dX11_house_264 rfl ?_
            refine aw_bipush (v := 10) dX11_house_265 rfl ?_
            refine aw_cV dX11_house_267 kX11_205 mX11_of (sX11_of (p := p) (w := 10) hM rfl rfl (by omega)) (Nat.le_of_ble_eq_true rfl) hM.k ⟨by decide, rfl⟩ hM.b rfl rfl (Nat.le_of_ble_eq_true rfl) ⟨Nat.le_refl _, Nat.le_refl _⟩ ?_
            refine aw_cS dX11_house_270 kX11_222 mX11_bits (sX11_bits (v := nBi (I (m + 1)) p) (hN.bi hp8) (hN.bi10 hp8)) (Nat.le_of_ble_eq_true rfl) rfl rfl (Nat.le_of_ble_eq_true rfl) ⟨Nat.le_refl _, Nat.le_refl _⟩ ?_
            refine aw_cV dX11_house_273 kX11_199 mX11_gives (sX11_gives hM) (Nat.le_of_ble_eq_true rfl) hM.k ⟨by decide, rfl⟩ hM.b rfl rfl (Nat.le_of_ble_eq_true rfl) ⟨Nat.le_refl _, Nat.le_refl _⟩ ?_
            refine aw_iret q rfl dX11_house_276 ⟨Nat.le_refl _, Nat.le_refl _⟩ ?_
            have fo2 : (mFrom (9 : Int32) 0 11 || mFrom (9 : Int32) 20 25) = true := fo
            refine Tl.ok ?_
            show aHouse _ _ (9 : Int32) = _
            simp [aHouse, fo2, f32, ep]
          | 10, _ =>
            refine aw_tableIn (off := 190) (tgt := 277) dX11_house_87 (by decide) (by decide) (by decide) rfl ?_
            refine aw_aload_n dX11_house_277 rfl ?_
            refine aw_aload_n dX11_house_278 rfl ?_
            refine aw_iload_n dX11_house_279 rfl ?_
            refine aw_bipush (v := 11) dX11_house_280 rfl ?_
            refine aw_cV dX11_house_282 kX11_205 mX11_of (sX11_of (p := p) (w := 11) hM rfl rfl (by omega)) (Nat.le_of_ble_eq_true rfl) hM.k ⟨by decide, rfl⟩ hM.b rfl rfl (Nat.le_of_ble_eq_true rfl) ⟨Nat.le_refl _, Nat.le_refl _⟩ ?_
            refine aw_cV dX11_house_285 kX11_199 mX11_gives (sX11_gives hM) (Nat.le_of_ble_eq_true rfl) hM.k ⟨by decide, rfl⟩ hM.b rfl rfl (Nat.le_of_ble_eq_true rfl) ⟨Nat.le_refl _, Nat.le_refl _⟩ ?_
            refine aw_iret q rfl dX11_house_288 ⟨Nat.le_refl _, Nat.le_refl _⟩ ?_
            have fo2 : (mFrom (10 : Int32) 0 11 || mFrom (10 : Int32) 20 25) = true := fo
            refine Tl.ok ?_
            show aHouse _ _ (10 : Int32) = _
            simp [aHouse, fo2, f32, ep]
        · refine aw_tableOut (tgt := 289) dX11_house_87 (by omega) rfl ?_
          refine aw_aload_n dX11_house_289 rfl ?_
          refine aw_aload_n dX11_house_290 rfl ?_
          refine aw_iload_n dX11_house_291 rfl ?_
          refine aw_bipush (v := 9) dX11_house_292 rfl ?_
          refine aw_cV dX11_house_294 kX11_205 mX11_of (sX11_of (p := p) (w := 9) hM rfl rfl (by omega)) (Nat.le_of_ble_eq_true rfl) hM.k ⟨by decide, rfl⟩ hM.b rfl rfl (Nat.le_of_ble_eq_true rfl) ⟨Nat.le_refl _, Nat.le_refl _⟩ ?_
          refine aw_cV dX11_house_297 kX11_199 mX11_gives (sX11_gives hM) (Nat.le_of_ble_eq_true rfl) hM.k ⟨by decide, rfl⟩ hM.b rfl rfl (Nat.le_of_ble_eq_true rfl) ⟨Nat.le_refl _, Nat.le_refl _⟩ ?_
          refine aw_iret q rfl dX11_house_300 ⟨Nat.le_refl _, Nat.le_refl _⟩ ?_
          have e0 : ¬ w = (0 : Int32) := out_ne ho87 (j := 0) (by decide) (by decide)
          have e1 : ¬ w = (1 : Int32) := out_ne ho87 (j := 1) (by decide) (by decide)
          have e2 : ¬ w = (2 : Int32) := out_ne ho87 (j := 2) (by decide) (by decide)
          have e3 : ¬ w = (3 : Int32) := out_ne ho87 (j := 3) (by decide) (by decide)
          have e4 : ¬ w = (4 : Int32) := out_ne ho87 (j := 4) (by decide) (by decide)
          have e5 : ¬ w = (5 : Int32) := out_ne ho87 (j := 5) (by decide) (by decide)
          have e6 : ¬ w = (6 : Int32) := out_ne ho87 (j := 6) (by decide) (by decide)
          have e7 : ¬ w = (7 : Int32) := out_ne ho87 (j := 7) (by decide) (by decide)
          have e8 : ¬ w = (8 : Int32) := out_ne ho87 (j := 8) (by decide) (by decide)
          have e9 : ¬ w = (9 : Int32) := out_ne ho87 (j := 9) (by decide) (by decide)
          have e10 : ¬ w = (10 : Int32) := out_ne ho87 (j := 10) (by decide) (by decide)
          refine Tl.ok ?_
          simp [aHouse, fo, f32, ep, c44, e0, e1, e2, e3, e4, e5, e6, e7, e8, e9, e10]
      · obtain ⟨v, hv1, hv2, rfl⟩ := house20 fo c44
        refine aw_iload_n dX11_house_47 rfl ?_
        refine aw_bipush (v := 20) dX11_house_48 rfl ?_
        refine aw_isub dX11_house_50 ?_
        refine aw_aload_n dX11_house_51 rfl ?_
        refine aw_iload_n dX11_house_52 rfl ?_
        refine aw_bipush (v := 11) dX11_house_53 rfl ?_
        refine aw_cV dX11_house_55 kX11_205 mX11_of (sX11_of (p := p) (w := 11) hM rfl rfl (by omega)) (Nat.le_of_ble_eq_true rfl) hM.k ⟨by decide, rfl⟩ hM.b rfl rfl (Nat.le_of_ble_eq_true rfl) ⟨Nat.le_refl _, Nat.le_refl _⟩ ?_
        refine aw_icmp_ge (tgt := 80) dX11_house_58 rfl (fun c58 => ?_) (fun c58 => ?_)
        · refine aw_aload_n dX11_house_80 rfl ?_
          refine aw_iconst (v := 5) dX11_house_81 rfl ?_
          refine aw_cV dX11_house_82 kX11_186 mX11_refuse (sX11_refuse hM) (Nat.le_of_ble_eq_true rfl) hM.k ⟨by decide, rfl⟩ hM.b rfl rfl (Nat.le_of_ble_eq_true rfl) ⟨Nat.le_refl _, Nat.le_refl _⟩ ?_
          refine aw_iret q rfl dX11_house_85 ⟨Nat.le_refl _, Nat.le_refl _⟩ ?_
          refine Tl.no ?_
          simp [aHouse, fo, f32, ep, c44, c58]
        · refine aw_aload_n dX11_house_61 rfl ?_
          refine aw_aload_n dX11_house_62 rfl ?_
          refine aw_iload_n dX11_house_63 rfl ?_
          refine aw_bipush (v := 12) dX11_house_64 rfl ?_
          refine aw_iload_n dX11_house_66 rfl ?_
          refine aw_iadd dX11_house_67 ?_
          refine aw_bipush (v := 20) dX11_house_68 rfl ?_
          refine aw_isub dX11_house_70 ?_
          refine aw_cV dX11_house_71 kX11_205 mX11_of (sX11_of (p := p) (w := 12 + (v - 20)) hM rfl (by rw [show (12 : Int32) + nI v = nI (12 + v) from gadd rfl rfl, show (20 : Int32) = nI 20 from rfl, pk_sub (by omega)]; congr 1; omega) (by omega)) (Nat.le_of_ble_eq_true rfl) hM.k ⟨by decide, rfl⟩ hM.b rfl rfl (Nat.le_of_ble_eq_true rfl) ⟨Nat.le_refl _, Nat.le_refl _⟩ ?_
          refine aw_cV dX11_house_74 kX11_199 mX11_gives (sX11_gives hM) (Nat.le_of_ble_eq_true rfl) hM.k ⟨by decide, rfl⟩ hM.b rfl rfl (Nat.le_of_ble_eq_true rfl) ⟨Nat.le_refl _, Nat.le_refl _⟩ ?_
          refine aw_goto (tgt := 85) dX11_house_77 rfl ?_
          refine aw_iret q rfl dX11_house_85 ⟨Nat.le_refl _, Nat.le_refl _⟩ ?_
          refine Tl.ok ?_
          simp [aHouse, fo, f32, ep, c44, c58, nI_clamp (show v < 2 ^ 31 by omega)]
    · refine aw_aload_n dX11_house_35 rfl ?_
      refine aw_iconst (v := 2) dX11_house_36 rfl ?_
      refine aw_cV dX11_house_37 kX11_186 mX11_refuse (sX11_refuse hM) (Nat.le_of_ble_eq_true rfl) hM.k ⟨by decide, rfl⟩ hM.b rfl rfl (Nat.le_of_ble_eq_true rfl) ⟨Nat.le_refl _, Nat.le_refl _⟩ ?_
      refine aw_iret q rfl dX11_house_40 ⟨Nat.le_refl _, Nat.le_refl _⟩ ?_
      refine Tl.no ?_
      simp [aHouse, fo, bI0.mp c32]
  · refine aw_iload_n dX11_house_10 rfl ?_
    refine aw_bipush (v := 20) dX11_house_11 rfl ?_
    refine aw_bipush (v := 25) dX11_house_13 rfl ?_
    refine aw_cS dX11_house_15 kX11_71 mX11_isFrom (sX11_isFrom hM) (Nat.le_of_ble_eq_true rfl) rfl rfl (Nat.le_of_ble_eq_true rfl) ⟨Nat.le_refl _, Nat.le_refl _⟩ ?_
    refine aw_if_ne (tgt := 27) dX11_house_18 rfl (fun c18 => ?_) (fun c18 => ?_)
    · have fo : (mFrom w 0 11 || mFrom w 20 25) = true := by simp [bI1.mp c18]
      refine aw_aload_n dX11_house_27 rfl ?_
      refine aw_iload_n dX11_house_28 rfl ?_
      refine aw_cV dX11_house_29 kX11_244 mX11_isHouse (sX11_isHouse hM) (Nat.le_of_ble_eq_true rfl) hM.k ⟨by decide, rfl⟩ hM.b rfl rfl (Nat.le_of_ble_eq_true rfl) ⟨Nat.le_refl _, Nat.le_refl _⟩ ?_
      refine aw_if_ne (tgt := 41) dX11_house_32 rfl (fun c32 => ?_) (fun c32 => ?_)
      · have f32 := bI1.mp c32
        obtain ⟨p, hpn, rfl⟩ := from_ix hN.p (by have := hN.p8; omega) f32
        have hp8 : p < 8 := by have := hN.p8; omega
        have ep := nI_clamp (show p < 2 ^ 31 by omega)
        refine aw_iload_n dX11_house_41 rfl ?_
        refine aw_bipush (v := 20) dX11_house_42 rfl ?_
        refine aw_icmp_lt (tgt := 86) dX11_house_44 rfl (fun c44 => ?_) (fun c44 => ?_)
        · refine aw_iload_n dX11_house_86 rfl ?_
          rcases swx w 11 (by decide) with ⟨j87, hj87, rfl⟩ | ho87
          · match j87, hj87 with
            | 0, _ =>
              refine aw_tableIn (off := 57) (tgt := 144) dX11_house_87 (by decide) (by decide) (by decide) rfl ?_
              refine aw_aload_n dX11_house_144 rfl ?_
              refine aw_aload_n dX11_house_145 rfl ?_
              refine aw_iload_n dX11_house_146 rfl ?_
              refine aw_iconst (v := 0) dX11_house_147 rfl ?_
              refine aw_cV dX11_house_148 kX11_205 mX11_of (sX11_of (p := p) (w := 0) hM rfl rfl (by omega)) (Nat.le_of_ble_eq_true rfl) hM.k ⟨by decide, rfl⟩ hM.b rfl rfl (Nat.le_of_ble_eq_true rfl) ⟨Nat.le_refl _, Nat.le_refl _⟩ ?_
              refine aw_cV dX11_house_151 kX11_199 mX11_gives (sX11_gives hM) (Nat.le_of_ble_eq_true rfl) hM.k ⟨by decide, rfl⟩ hM.b rfl rfl (Nat.le_of_ble_eq_true rfl) ⟨Nat.le_refl _, Nat.le_refl _⟩ ?_
              refine aw_iret q rfl dX11_house_154 ⟨Nat.le_refl _, Nat.le_refl _⟩ ?_
              have fo2 : (mFrom (0 : Int32) 0 11 || mFrom (0 : Int32) 20 25) = true := fo
              refine Tl.ok ?_
              show aHouse _ _ (0 : Int32) = _
              simp [aHouse, fo2, f32, ep]
            | 1, _ =>
              refine aw_tableIn (off := 68) (tgt := 155) dX11_house_87 (by decide) (by decide) (by decide) rfl ?_
              refine aw_aload_n dX11_house_155 rfl ?_
              refine aw_aload_n dX11_house_156 rfl ?_
              refine aw_iload_n dX11_house_157 rfl ?_
              refine aw_cV dX11_house_158 kX11_247 mX11_bandNow (sX11_bandNow (p := p) hM rfl hp8 hN.age) (Nat.le_of_ble_eq_true rfl) hM.k ⟨by decide, rfl⟩ hM.b rfl rfl (Nat.le_of_ble_eq_true rfl) ⟨Nat.le_refl _, Nat.le_refl _⟩ ?_
              refine aw_cV dX11_house_161 kX11_199 mX11_gives (sX11_gives hM) (Nat.le_of_ble_eq_true rfl) hM.k ⟨by decide, rfl⟩ hM.b rfl rfl (Nat.le_of_ble_eq_true rfl) ⟨Nat.le_refl _, Nat.le_refl _⟩ ?_
              refine aw_iret q rfl dX11_house_164 ⟨Nat.le_refl _, Nat.le_refl _⟩ ?_
              have fo2 : (mFrom (1 : Int32) 0 11 || mFrom (1 : Int32) 20 25) = true := fo
              refine Tl.ok ?_
              show aHouse _ _ (1 : Int32) = _
              simp [aHouse, fo2, f32, ep]
            | 2, _ =>
              refine aw_tableIn (off := 78) (tgt := 165) dX11_house_87 (by decide) (by decide) (by decide) rfl ?_
              refine aw_aload_n dX11_house_165 rfl ?_
              refine aw_aload_n dX11_house_166 rfl ?_
              refine aw_iload_n dX11_house_167 rfl ?_
              refine aw_iconst (v := 1) dX11_house_168 rfl ?_
              refine aw_cV dX11_house_169 kX11_205 mX11_of (sX11_of (p := p) (w := 1) hM rfl rfl (by omega)) (Nat.le_of_ble_eq_true rfl) hM.k ⟨by decide, rfl⟩ hM.b rfl rfl (Nat.le_of_ble_eq_true rfl) ⟨Nat.le_refl _, Nat.le_refl _⟩ ?_
              refine aw_cV dX11_house_172 kX11_199 mX11_gives (sX11_gives hM) (Nat.le_of_ble_eq_true rfl) hM.k ⟨by decide, rfl⟩ hM.b rfl rfl (Nat.le_of_ble_eq_true rfl) ⟨Nat.le_refl _, Nat.le_refl _⟩ ?_
              refine aw_iret q rfl dX11_house_175 ⟨Nat.le_refl _, Nat.le_refl _⟩ ?_
              have fo2 : (mFrom (2 : Int32) 0 11 || mFrom (2 : Int32) 20 25) = true := fo
              refine Tl.ok ?_
              show aHouse _ _ (2 : Int32) = _
              simp [aHouse, fo2, f32, ep]
            | 3, _ =>
              refine aw_tableIn (off := 89) (tgt := 176) dX11_house_87 (by decide) (by decide) (by decide) rfl ?_
              refine aw_aload_n dX11_house_176 rfl ?_
              refine aw_aload_n dX11_house_177 rfl ?_
              refine aw_iload_n dX11_house_178 rfl ?_
              refine aw_iconst (v := 2) dX11_house_179 rfl ?_
              refine aw_cV dX11_house_180 kX11_205 mX11_of (sX11_of (p := p) (w := 2) hM rfl rfl (by omega)) (Nat.le_of_ble_eq_true rfl) hM.k ⟨by decide, rfl⟩ hM.b rfl rfl (Nat.le_of_ble_eq_true rfl) ⟨Nat.le_refl _, Nat.le_refl _⟩ ?_
              refine aw_cV dX11_house_183 kX11_199 mX11_gives (sX11_gives hM) (Nat.le_of_ble_eq_true rfl) hM.k ⟨by decide, rfl⟩ hM.b rfl rfl (Nat.le_of_ble_eq_true rfl) ⟨Nat.le_refl _, Nat.le_refl _⟩ ?_
              refine aw_iret q rfl dX11_house_186 ⟨Nat.le_refl _, Nat.le_refl _⟩ ?_
              have fo2 : (mFrom (3 : Int32) 0 11 || mFrom (3 : Int32) 20 25) = true := fo
              refine Tl.ok ?_
              show aHouse _ _ (3 : Int32) = _
              simp [aHouse, fo2, f32, ep]
            | 4, _ =>
              refine aw_tableIn (off := 100) (tgt := 187) dX11_house_87 (by decide) (by decide) (by decide) rfl ?_
              refine aw_aload_n dX11_house_187 rfl ?_
              refine aw_aload_n dX11_house_188 rfl ?_
              refine aw_iload_n dX11_house_189 rfl ?_
              refine aw_iconst (v := 3) dX11_house_190 rfl ?_
              refine aw_cV dX11_house_191 kX11_205 mX11_of (sX11_of (p := p) (w := 3) hM rfl rfl (by omega)) (Nat.le_of_ble_eq_true rfl) hM.k ⟨by decide, rfl⟩ hM.b rfl rfl (Nat.le_of_ble_eq_true rfl) ⟨Nat.le_refl _, Nat.le_refl _⟩ ?_
              refine aw_cV dX11_house_194 kX11_199 mX11_gives (sX11_gives hM) (Nat.le_of_ble_eq_true rfl) hM.k ⟨by decide, rfl⟩ hM.b rfl rfl (Nat.le_of_ble_eq_true rfl) ⟨Nat.le_refl _, Nat.le_refl _⟩ ?_
              refine aw_iret q rfl dX11_house_197 ⟨Nat.le_refl _, Nat.le_refl _⟩ ?_
              have fo2 : (mFrom (4 : Int32) 0 11 || mFrom (4 : Int32) 20 25) = true := fo
              refine Tl.ok ?_
              show aHouse _ _ (4 : Int32) = _
              simp [aHouse, fo2, f32, ep]
            | 5, _ =>
              refine aw_tableIn (off := 111) (tgt := 198) dX11_house_87 (by decide) (by decide) (by decide) rfl ?_
              refine aw_aload_n dX11_house_198 rfl ?_
              refine aw_iload_n dX11_house_199 rfl ?_
              refine aw_iconst (v := 4) dX11_house_200 rfl ?_
              refine aw_cV dX11_house_201 kX11_205 mX11_of (sX11_of (p := p) (w := 4) hM rfl rfl (by omega)) (Nat.le_of_ble_eq_true rfl) hM.k ⟨by decide, rfl⟩ hM.b rfl rfl (Nat.le_of_ble_eq_true rfl) ⟨Nat.le_refl _, Nat.le_refl _⟩ ?_
              refine aw_iconst (v := (-1)) dX11_house_204 rfl ?_
              refine aw_icmp_ne (tgt := 216) dX11_house_205 rfl (fun c205 => ?_) (fun c205 => ?_)
              · refine aw_aload_n dX11_house_216 rfl ?_
                refine aw_aload_n dX11_house_217 rfl ?_
                refine aw_iload_n dX11_house_218 rfl ?_
                refine aw_iconst (v := 4) dX11_house_219 rfl ?_
                refine aw_cV dX11_house_220 kX11_205 mX11_of (sX11_of (p := p) (w := 4) hM rfl rfl (by omega)) (Nat.le_of_ble_eq_true rfl) hM.k ⟨by decide, rfl⟩ hM.b rfl rfl (Nat.le_of_ble_eq_true rfl) ⟨Nat.le_refl _, Nat.le_refl _⟩ ?_
                refine aw_cV dX11_house_223 kX11_199 mX11_gives (sX11_gives hM) (Nat.le_of_ble_eq_true rfl) hM.k ⟨by decide, rfl⟩ hM.b rfl rfl (Nat.le_of_ble_eq_true rfl) ⟨Nat.le_refl _, Nat.le_refl _⟩ ?_
                refine aw_iret q rfl dX11_house_226 ⟨Nat.le_refl _, Nat.le_refl _⟩ ?_
                have fo2 : (mFrom (5 : Int32) 0 11 || mFrom (5 : Int32) 20 25) = true := fo
                first | refine Tl.no ?_ | refine Tl.ok ?_
                show aHouse _ _ (5 : Int32) = _
                simp [aHouse, fo2, f32, ep, c205]
              · refine aw_aload_n dX11_house_208 rfl ?_
                refine aw_iconst (v := 5) dX11_house_209 rfl ?_
                refine aw_cV dX11_house_210 kX11_186 mX11_refuse (sX11_refuse hM) (Nat.le_of_ble_eq_true rfl) hM.k ⟨by decide, rfl⟩ hM.b rfl rfl (Nat.le_of_ble_eq_true rfl) ⟨Nat.le_refl _, Nat.le_refl _⟩ ?_
                refine aw_goto (tgt := 226) dX11_house_213 rfl ?_
                refine aw_iret q rfl dX11_house_226 ⟨Nat.le_refl _, Nat.le_refl _⟩ ?_
                have fo2 : (mFrom (5 : Int32) 0 11 || mFrom (5 : Int32) 20 25) = true := fo
                first | refine Tl.no ?_ | refine Tl.ok ?_
                show aHouse _ _ (5 : Int32) = _
                simp [aHouse, fo2, f32, ep, c205]
            | 6, _ =>
              refine aw_tableIn (off := 140) (tgt := 227) dX11_house_87 (by decide) (by decide) (by decide) rfl ?_
              refine aw_aload_n dX11_house_227 rfl ?_
              refine aw_aload_n dX11_house_228 rfl ?_
              refine aw_iload_n dX11_house_229 rfl ?_
              refine aw_iconst (v := 5) dX11_house_230 rfl ?_
              refine aw_cV dX11_house_231 kX11_205 mX11_of (sX11_of (p := p) (w := 5) hM rfl rfl (by omega)) (Nat.le_of_ble_eq_true rfl) hM.k ⟨by decide, rfl⟩ hM.b rfl rfl (Nat.le_of_ble_eq_true rfl) ⟨Nat.le_refl _, Nat.le_refl _⟩ ?_
              refine aw_cV dX11_house_234 kX11_199 mX11_gives (sX11_gives hM) (Nat.le_of_ble_eq_true rfl) hM.k ⟨by decide, rfl⟩ hM.b rfl rfl (Nat.le_of_ble_eq_true rfl) ⟨Nat.le_refl _, Nat.le_refl _⟩ ?_
              refine aw_iret q rfl dX11_house_237 ⟨Nat.le_refl _, Nat.le_refl _⟩ ?_
              have fo2 : (mFrom (6 : Int32) 0 11 || mFrom (6 : Int32) 20 25) = true := fo
              refine Tl.ok ?_
              show aHouse _ _ (6 : Int32) = _
              simp [aHouse, fo2, f32, ep]
            | 7, _ =>
              refine aw_tableIn (off := 151) (tgt := 238) dX11_house_87 (by decide) (by decide) (by decide) rfl ?_
              refine aw_aload_n dX11_house_238 rfl ?_
              refine aw_aload_n dX11_house_239 rfl ?_
              refine aw_iload_n dX11_house_240 rfl ?_
              refine aw_bipush (v := 6) dX11_house_241 rfl ?_
              refine aw_cV dX11_house_243 kX11_205 mX11_of (sX11_of (p := p) (w := 6) hM rfl rfl (by omega)) (Nat.le_of_ble_eq_true rfl) hM.k ⟨by decide, rfl⟩ hM.b rfl rfl (Nat.le_of_ble_eq_true rfl) ⟨Nat.le_refl _, Nat.le_refl _⟩ ?_
              refine aw_cV dX11_house_246 kX11_199 mX11_gives (sX11_gives hM) (Nat.le_of_ble_eq_true rfl) hM.k ⟨by decide, rfl⟩ hM.b rfl rfl (Nat.le_of_ble_eq_true rfl) ⟨Nat.le_refl _, Nat.le_refl _⟩ ?_
              refine aw_iret q rfl dX11_house_249 ⟨Nat.le_refl _, Nat.le_refl _⟩ ?_
              have fo2 : (mFrom (7 : Int32) 0 11 || mFrom (7 : Int32) 20 25) = true := fo
              refine Tl.ok ?_
              show aHouse _ _ (7 : Int32) = _
              simp [aHouse, fo2, f32, ep]
            | 8, _ =>
              refine aw_tableIn (off := 163) (tgt := 250) dX11_house_87 (by decide) (by decide) (by decide) rfl ?_
              refine aw_aload_n dX11_house_250 rfl ?_
              refine aw_aload_n dX11_house_251 rfl ?_
              refine aw_iload_n dX11_house_252 rfl ?_
              refine aw_bipush (v := 8) dX11_house_253 rfl ?_
              refine aw_cV dX11_house_255 kX11_205 mX11_of (sX11_of (p := p) (w := 8) hM rfl rfl (by omega)) (Nat.le_of_ble_eq_true rfl) hM.k ⟨by decide, rfl⟩ hM.b rfl rfl (Nat.le_of_ble_eq_true rfl) ⟨Nat.le_refl _, Nat.le_refl _⟩ ?_
              refine aw_cV dX11_house_258 kX11_199 mX11_gives (sX11_gives hM) (Nat.le_of_ble_eq_true rfl) hM.k ⟨by decide, rfl⟩ hM.b rfl rfl (Nat.le_of_ble_eq_true rfl) ⟨Nat.le_refl _, Nat.le_refl _⟩ ?_
              refine aw_iret q rfl dX11_house_261 ⟨Nat.le_refl _, Nat.le_refl _⟩ ?_
              have fo2 : (mFrom (8 : Int32) 0 11 || mFrom (8 : Int32) 20 25) = true := fo
              refine Tl.ok ?_
              show aHouse _ _ (8 : Int32) = _
              simp [aHouse, fo2, f32, ep]
            | 9, _ =>
              refine aw_tableIn (off := 175) (tgt := 262) dX11_house_87 (by decide) (by decide) (by decide) rfl ?_
              refine aw_aload_n dX11_house_262 rfl ?_
              refine aw_aload_n dX11_house_263 rfl ?_
              refine aw_iload_n dX11_house_264 rfl ?_
              refine aw_bipush (v := 10) dX11_house_265 rfl ?_
              refine aw_cV dX11_house_267 kX11_205 mX11_of (sX11_of (p := p) (w := 10) hM rfl rfl (by omega)) (Nat.le_of_ble_eq_true rfl) hM.k ⟨by decide, rfl⟩ hM.b rfl rfl (Nat.le_of_ble_eq_true rfl) ⟨Nat.le_refl _, Nat.le_refl _⟩ ?_
              refine aw_cS dX11_house_270 kX11_222 mX11_bits (sX11_bits (v := nBi (I (m + 1)) p) (hN.bi hp8) (hN.bi10 hp8)) (Nat.le_of_ble_eq_true rfl) rfl rfl (Nat.le_of_ble_eq_true rfl) ⟨Nat.le_refl _, Nat.le_refl _⟩ ?_
              refine aw_cV dX11_house_273 kX11_199 mX11_gives (sX11_gives hM) (Nat.le_of_ble_eq_true rfl) hM.k ⟨by decide, rfl⟩ hM.b rfl rfl (Nat.le_of_ble_eq_true rfl) ⟨Nat.le_refl _, Nat.le_refl _⟩ ?_
              refine aw_iret q rfl dX11_house_276 ⟨Nat.le_refl _, Nat.le_refl _⟩ ?_
              have fo2 : (mFrom (9 : Int32) 0 11 || mFrom (9 : Int32) 20 25) = true := fo
              refine Tl.ok ?_
              show aHouse _ _ (9 : Int32) = _
              simp [aHouse, fo2, f32, ep]
            | 10, _ =>
              refine aw_tableIn (off := 190) (tgt := 277) dX11_house_87 (by decide) (by decide) (by decide) rfl ?_
              refine aw_aload_n dX11_house_277 rfl ?_
              refine aw_aload_n dX11_house_278 rfl ?_
              refine aw_iload_n dX11_house_279 rfl ?_
              refine aw_bipush (v := 11) dX11_house_280 rfl ?_
              refine aw_cV dX11_house_282 kX11_205 mX11_of (sX11_of (p := p) (w := 11) hM rfl rfl (by omega)) (Nat.le_of_ble_eq_true rfl) hM.k ⟨by decide, rfl⟩ hM.b rfl rfl (Nat.le_of_ble_eq_true rfl) ⟨Nat.le_refl _, Nat.le_refl _⟩ ?_
              refine aw_cV dX11_house_285 kX11_199 mX11_gives (sX11_gives hM) (Nat.le_of_ble_eq_true rfl) hM.k ⟨by decide, rfl⟩ hM.b rfl rfl (Nat.le_of_ble_eq_true rfl) ⟨Nat.le_refl _, Nat.le_refl _⟩ ?_
              refine aw_iret q rfl dX11_house_288 ⟨Nat.le_refl _, Nat.le_refl _⟩ ?_
              have fo2 : (mFrom (10 : Int32) 0 11 || mFrom (10 : Int32) 20 25) = true := fo
              refine Tl.ok ?_
              show aHouse _ _ (10 : Int32) = _
              simp [aHouse, fo2, f32, ep]
          · refine aw_tableOut (tgt := 289) dX11_house_87 (by omega) rfl ?_
            refine aw_aload_n dX11_house_289 rfl ?_
            refine aw_aload_n dX11_house_290 rfl ?_
            refine aw_iload_n dX11_house_291 rfl ?_
            refine aw_bipush (v := 9) dX11_house_292 rfl ?_
            refine aw_cV dX11_house_294 kX11_205 mX11_of (sX11_of (p := p) (w := 9) hM rfl rfl (by omega)) (Nat.le_of_ble_eq_true rfl) hM.k ⟨by decide, rfl⟩ hM.b rfl rfl (Nat.le_of_ble_eq_true rfl) ⟨Nat.le_refl _, Nat.le_refl _⟩ ?_
            refine aw_cV dX11_house_297 kX11_199 mX11_gives (sX11_gives hM) (Nat.le_of_ble_eq_true rfl) hM.k ⟨by decide, rfl⟩ hM.b rfl rfl (Nat.le_of_ble_eq_true rfl) ⟨Nat.le_refl _, Nat.le_refl _⟩ ?_
            refine aw_iret q rfl dX11_house_300 ⟨Nat.le_refl _, Nat.le_refl _⟩ ?_
            have e0 : ¬ w = (0 : Int32) := out_ne ho87 (j := 0) (by decide) (by decide)
            have e1 : ¬ w = (1 : Int32) := out_ne ho87 (j := 1) (by decide) (by decide)
            have e2 : ¬ w = (2 : Int32) := out_ne ho87 (j := 2) (by decide) (by decide)
            have e3 : ¬ w = (3 : Int32) := out_ne ho87 (j := 3) (by decide) (by decide)
            have e4 : ¬ w = (4 : Int32) := out_ne ho87 (j := 4) (by decide) (by decide)
            have e5 : ¬ w = (5 : Int32) := out_ne ho87 (j := 5) (by decide) (by decide)
            have e6 : ¬ w = (6 : Int32) := out_ne ho87 (j := 6) (by decide) (by decide)
            have e7 : ¬ w = (7 : Int32) := out_ne ho87 (j := 7) (by decide) (by decide)
            have e8 : ¬ w = (8 : Int32) := out_ne ho87 (j := 8) (by decide) (by decide)
            have e9 : ¬ w = (9 : Int32) := out_ne ho87 (j := 9) (by decide) (by decide)
            have e10 : ¬ w = (10 : Int32) := out_ne ho87 (j := 10) (by decide) (by decide)
            refine Tl.ok ?_
            simp [aHouse, fo, f32, ep, c44, e0, e1, e2, e3, e4, e5, e6, e7, e8, e9, e10]
        · obtain ⟨v, hv1, hv2, rfl⟩ := house20 fo c44
          refine aw_iload_n dX11_house_47 rfl ?_
          refine aw_bipush (v := 20) dX11_house_48 rfl ?_
          refine aw_isub dX11_house_50 ?_
          refine aw_aload_n dX11_house_51 rfl ?_
          refine aw_iload_n dX11_house_52 rfl ?_
          refine aw_bipush (v := 11) dX11_house_53 rfl ?_
          refine aw_cV dX11_house_55 kX11_205 mX11_of (sX11_of (p := p) (w := 11) hM rfl rfl (by omega)) (Nat.le_of_ble_eq_true rfl) hM.k ⟨by decide, rfl⟩ hM.b rfl rfl (Nat.le_of_ble_eq_true rfl) ⟨Nat.le_refl _, Nat.le_refl _⟩ ?_
          refine aw_icmp_ge (tgt := 80) dX11_house_58 rfl (fun c58 => ?_) (fun c58 => ?_)
          · refine aw_aload_n dX11_house_80 rfl ?_
            refine aw_iconst (v := 5) dX11_house_81 rfl ?_
            refine aw_cV dX11_house_82 kX11_186 mX11_refuse (sX11_refuse hM) (Nat.le_of_ble_eq_true rfl) hM.k ⟨by decide, rfl⟩ hM.b rfl rfl (Nat.le_of_ble_eq_true rfl) ⟨Nat.le_refl _, Nat.le_refl _⟩ ?_
            refine aw_iret q rfl dX11_house_85 ⟨Nat.le_refl _, Nat.le_refl _⟩ ?_
            refine Tl.no ?_
            simp [aHouse, fo, f32, ep, c44, c58]
          · refine aw_aload_n dX11_house_61 rfl ?_
            refine aw_aload_n dX11_house_62 rfl ?_
            refine aw_iload_n dX11_house_63 rfl ?_
            refine aw_bipush (v := 12) dX11_house_64 rfl ?_
            refine aw_iload_n dX11_house_66 rfl ?_
            refine aw_iadd dX11_house_67 ?_
            refine aw_bipush (v := 20) dX11_house_68 rfl ?_
            refine aw_isub dX11_house_70 ?_
            refine aw_cV dX11_house_71 kX11_205 mX11_of (sX11_of (p := p) (w := 12 + (v - 20)) hM rfl (by rw [show (12 : Int32) + nI v = nI (12 + v) from gadd rfl rfl, show (20 : Int32) = nI 20 from rfl, pk_sub (by omega)]; congr 1; omega) (by omega)) (Nat.le_of_ble_eq_true rfl) hM.k ⟨by decide, rfl⟩ hM.b rfl rfl (Nat.le_of_ble_eq_true rfl) ⟨Nat.le_refl _, Nat.le_refl _⟩ ?_
            refine aw_cV dX11_house_74 kX11_199 mX11_gives (sX11_gives hM) (Nat.le_of_ble_eq_true rfl) hM.k ⟨by decide, rfl⟩ hM.b rfl rfl (Nat.le_of_ble_eq_true rfl) ⟨Nat.le_refl _, Nat.le_refl _⟩ ?_
            refine aw_goto (tgt := 85) dX11_house_77 rfl ?_
            refine aw_iret q rfl dX11_house_85 ⟨Nat.le_refl _, Nat.le_refl _⟩ ?_
            refine Tl.ok ?_
            simp [aHouse, fo, f32, ep, c44, c58, nI_clamp (show v < 2 ^ 31 by omega)]
      · refine aw_aload_n dX11_house_35 rfl ?_
        refine aw_iconst (v := 2) dX11_house_36 rfl ?_
        refine aw_cV dX11_house_37 kX11_186 mX11_refuse (sX11_refuse hM) (Nat.le_of_ble_eq_true rfl) hM.k ⟨by decide, rfl⟩ hM.b rfl rfl (Nat.le_of_ble_eq_true rfl) ⟨Nat.le_refl _, Nat.le_refl _⟩ ?_
        refine aw_iret q rfl dX11_house_40 ⟨Nat.le_refl _, Nat.le_refl _⟩ ?_
        refine Tl.no ?_
        simp [aHouse, fo, bI0.mp c32]
    · refine aw_aload_n dX11_house_21 rfl ?_
      refine aw_iconst (v := 1) dX11_house_22 rfl ?_
      refine aw_cV dX11_house_23 kX11_186 mX11_refuse (sX11_refuse hM) (Nat.le_of_ble_eq_true rfl) hM.k ⟨by decide, rfl⟩ hM.b rfl rfl (Nat.le_of_ble_eq_true rfl) ⟨Nat.le_refl _, Nat.le_refl _⟩ ?_
      refine aw_iret q rfl dX11_house_26 ⟨Nat.le_refl _, Nat.le_refl _⟩ ?_
      refine Tl.no ?_
      simp [aHouse, bI0.mp c7, bI0.mp c18]
theorem rX11_house (hM : IsM n sh m) {N : Nat → Int32} (hI : I (m + 1) = N) (hN : Cn N) {x w : Int32} : CM yX11_house cX11_house 3 (Option.some .int) 4 0 0 [.ref m, .int x, .int w] z n sh I L (Tl (aHouse (N) x w) z n sh I L m) := by
  subst hI
  apply sX11_house <;> assumption
end RefS
