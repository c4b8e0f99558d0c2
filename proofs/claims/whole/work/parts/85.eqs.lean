/-! what the class finds in its own way is what the reference finds -/
/-! wards -/
theorem want_n {N : Nat → Int32} (hN : Cn N) (x : Int32) : ∃ k, k < 19 ∧ mWant N x = nI k - nI 10 := by
  have h8 := hN.p8
  have h10 := hN.h10
  have e : ∀ (a : Nat) (P : Nat → Bool) (n : Nat), idn (nI a) (fun h => bB (P h)) n = nI a - nI (fa_cnt P n) := by
    intro a P n
    induction n with
    | zero => exact (Int32.sub_zero _).symm
    | succ n ih =>
      rw [idn_step, ih]
      cases hp : P n with
      | true =>
        rw [fa_cnt_yes hp, ← nI_add]
        show nI a - nI (fa_cnt P n) - nI 1 = _
        rw [Int32.sub_sub]
      | false =>
        rw [fa_cnt_no hp]
        exact Int32.sub_zero _
  unfold mWant wantP wantH
  rw [isB_cnt, e]
  have a1 := fa_cnt_le (fun p => mIn N p && decide (N (80 + 18 * p + 2) = x)) (nPo N)
  have a2 := fa_cnt_le (fun h => mFree N h && decide (N (8 * h + 1) = x)) (nHo N)
  generalize fa_cnt (fun p => mIn N p && decide (N (80 + 18 * p + 2) = x)) (nPo N) = a at a1 ⊢
  generalize fa_cnt (fun h => mFree N h && decide (N (8 * h + 1) = x)) (nHo N) = c at a2 ⊢
  refine ⟨a + (10 - c), by omega, ?_⟩
  apply Int32.toInt_inj.mp
  rw [pk_sub_toInt (by omega) (by omega), pk_sub_toInt (by omega) (by omega)]
  omega
theorem want_cmp : ∀ k, k < 19 → ∀ l, l < 19 → (0 < (nI k - nI 10) - (nI l - nI 10) ↔ nI l - nI 10 < nI k - nI 10) ∧ ((nI k - nI 10) - (nI l - nI 10) = 0 ↔ nI k - nI 10 = nI l - nI 10) := by decide +kernel
theorem ward_eq {N : Nat → Int32} (hN : Cn N) : ∀ i, wdL N i = wardL N i
  | 0 => rfl
  | i + 1 => by
    rw [wdL, wardL, ward_eq hN i]
    unfold wardB
    obtain ⟨k, hk, ek⟩ := want_n hN (N (8 * i + 1))
    obtain ⟨l, hl, el⟩ := want_n hN (wardL N i)
    rw [ek, el]
    obtain ⟨c1, c2⟩ := want_cmp k hk l hl
    rw [show decide (0 < nI k - nI 10 - (nI l - nI 10)) = decide (nI l - nI 10 < nI k - nI 10) from Bool.eq_iff_iff.mpr (by simp only [decide_eq_true_eq]; exact c1), show decide (nI k - nI 10 - (nI l - nI 10) = 0) = decide (nI k - nI 10 = nI l - nI 10) from Bool.eq_iff_iff.mpr (by simp only [decide_eq_true_eq]; exact c2)]
/-! tips -/
theorem cAh_7 {N : Nat → Int32} (hN : Cn N) {p h : Nat} (hp : p < nPo N) {band x : Int32} : cAh N p h band x < 8 := by
  have := fa_cnt_lt (P := fun q => !decide (q = p) && bt x q && decide (cRk N q h (mLocal N h) (mQuota N) (mBand N q) < cRk N p h (mLocal N h) (mQuota N) band)) (p := p) (by simp) hp
  have := hN.p8
  unfold cAh
  omega
theorem tip_eq {N : Nat → Int32} (hN : Cn N) (hR : Rg N) (hBd : BdO N) (hW : WiO N) {p : Nat} (hp : p < nPo N) : ∀ k, k ≤ nLikes N p → (tpL N p k).1 = (tipL N p k).1 ∧ ((tipL N p k).1 = -1 → (tpL N p k).2 = 8) ∧ (¬ (tipL N p k).1 = -1 → (tipL N p k).2 = nI (tpL N p k).2)
  | 0, _ => ⟨rfl, fun _ => rfl, fun q => absurd rfl q⟩
  | k + 1, hk => by
    have h10 := hN.h10
    obtain ⟨i1, i2, i3⟩ := tip_eq hN hR hBd hW hp k (by omega)
    have hl := likes_lt hN hW hp (show k < nLikes N p by omega)
    have ea := ahead_eq hR hN.p8 hp (h := mLikes N p k) (x := mBidders N (mLikes N p k))
    have e7 := cAh_7 hN hp (h := mLikes N p k) (band := mBand N p) (x := mBidders N (mLikes N p k))
    have t8 := tpL_8 hN (p := p) k
    rw [tpL, tipL, bidders_eq hBd]
    unfold tipP
    rw [← ea]
    have hne : ¬ nI (mLikes N p k) = -1 := nI_ne_m1 (by omega)
    cases hc : (mBid N p (nI (mLikes N p k)) || decide (mWhy N p (mLikes N p k) = 0)) with
    | false =>
      simp only [Bool.false_and, Bool.false_eq_true, if_false]
      exact ⟨i1, i2, i3⟩
    | true =>
      simp only [Bool.true_and]
      by_cases hb : (tipL N p k).1 = -1
      · rw [i2 hb, decide_eq_true e7, decide_eq_true hb]
        simp only [Bool.true_or, if_true]
        refine ⟨?_, fun q => absurd q hne, fun _ => ?_⟩ <;> first | rfl | trivial
      · rw [i3 hb, decide_eq_false hb, Bool.false_or]
        by_cases hlt : cAh N p (mLikes N p k) (mBand N p) (mBidders N (mLikes N p k)) < (tpL N p k).2
        · rw [decide_eq_true hlt, decide_eq_true ((nI_ltI (by omega) (by omega)).mpr hlt)]
          simp only [if_true]
          refine ⟨?_, fun q => absurd q hne, fun _ => ?_⟩ <;> first | rfl | trivial
        · rw [decide_eq_false hlt, decide_eq_false (fun q => hlt ((nI_ltI (by omega) (by omega)).mp q))]
          simp only [Bool.false_eq_true, if_false]
          exact ⟨i1, i2, i3⟩
/-! order -/
section OrdE
variable {N : Nat → Int32} {h : Nat}
theorem kDr_some {w : Nat → Int32} {n : Nat} {s : Int32} {p : Nat} (e : fst w (bt s) n = some p) : kDr w n s = iDrop s (nI p) := by unfold kDr; rw [e]
theorem ord_itr (hR : Rg N) (h8 : nPo N ≤ 8) : ∀ (k v : Nat), v < 2 ^ nPo N → k < pcn v →
    itr (kDr (fun p => cRk N p h (mLocal N h) (mQuota N) (mBand N p)) (nPo N)) k (nI v) = itr (fun s => iDrop s (oN (mFirst N h s))) k (nI v) ∧ ∃ p, mFirst N h (itr (fun s => iDrop s (oN (mFirst N h s))) k (nI v)) = some p
  | 0, v, hv, hk => by
    have h0 : ¬ v = 0 := fun q => by rw [q] at hk; exact absurd hk (by decide)
    obtain ⟨p, e, -, -⟩ := first_some (h := h) hv h8 h0
    exact ⟨rfl, p, e⟩
  | k + 1, v, hv, hk => by
    have h0 : ¬ v = 0 := fun q => by
      have z : pcn 0 = 0 := by decide
      rw [q, z] at hk
      omega
    obtain ⟨p, e, hp, ht⟩ := first_some (h := h) hv h8 h0
    have hv8 := p2_8 hv h8
    obtain ⟨d1, d2, -⟩ := (bit_all v (by omega) p (by omega)).2.2 ht
    have ih := ord_itr hR h8 k (v - 2 ^ p) (drop_lt hv) (by omega)
    have e1 : kDr (fun p => cRk N p h (mLocal N h) (mQuota N) (mBand N p)) (nPo N) (nI v) = nI (v - 2 ^ p) := by
      rw [kDr_some (by rw [← mFirst_rk hR h8]; exact e), d1]
    have e2 : iDrop (nI v) (oN (mFirst N h (nI v))) = nI (v - 2 ^ p) := by rw [e, ← d1]; rfl
    rw [itr, itr, e1, e2]
    exact ih
theorem ord_none (hR : Rg N) (h8 : nPo N ≤ 8) : ∀ (k v : Nat), v < 2 ^ nPo N → pcn v ≤ k → fst (fun p => cRk N p h (mLocal N h) (mQuota N) (mBand N p)) (bt (itr (kDr (fun p => cRk N p h (mLocal N h) (mQuota N) (mBand N p)) (nPo N)) k (nI v))) (nPo N) = none
  | k, v, hv, hk => by
    have hv8 := p2_8 hv h8
    by_cases h0 : v = 0
    · have en : fst (fun p => cRk N p h (mLocal N h) (mQuota N) (mBand N p)) (bt (nI v)) (nPo N) = none := by
        subst h0
        cases hz : fst (fun p => cRk N p h (mLocal N h) (mQuota N) (mBand N p)) (bt (nI 0)) (nPo N) with
        | none => rfl
        | some p =>
          have h2 := (fst_lt hz).2
          rw [(bit_all 0 (by decide) p (by have := (fst_lt hz).1; omega)).1] at h2
          simp at h2
      rw [kDr_none en, en]
    · obtain ⟨p, e, hp, ht⟩ := first_some (h := h) hv h8 h0
      obtain ⟨d1, d2, -⟩ := (bit_all v (by omega) p (by omega)).2.2 ht
      have e1 : kDr (fun p => cRk N p h (mLocal N h) (mQuota N) (mBand N p)) (nPo N) (nI v) = nI (v - 2 ^ p) := by
        rw [kDr_some (by rw [← mFirst_rk hR h8]; exact e), d1]
      cases k with
      | zero => omega
      | succ k =>
        rw [itr, e1]
        exact ord_none hR h8 k (v - 2 ^ p) (drop_lt hv) (by omega)
theorem order_eq (hR : Rg N) (h8 : nPo N ≤ 8) {k : Nat} (hk : k < 2 ^ 31) : aNum (kO (fun p => cRk N p h (mLocal N h) (mQuota N) (mBand N p)) (nPo N) (mBidders N h) k) = if nI (pcn (nset (fun p => mBid N p (nI h)) (nPo N))) ≤ nI k then no 5 else ok (oN (mFirst N h (itr (fun s => iDrop s (oN (mFirst N h s))) k (mBidders N h)))) := by
  have hv := nset_lt (fun p => mBid N p (nI h)) (nPo N)
  have hc : pcn (nset (fun p => mBid N p (nI h)) (nPo N)) ≤ nPo N := by rw [pcn_nset (by omega)]; exact fa_cnt_le _ _
  have eb : mBidders N h = nI (nset (fun p => mBid N p (nI h)) (nPo N)) := iset_n _ _ (by omega)
  rw [eb]
  unfold kO
  by_cases hp : pcn (nset (fun p => mBid N p (nI h)) (nPo N)) ≤ k
  · rw [if_pos ((nI_leI (by omega) hk).mpr hp)]
    split
    · rw [ord_none hR h8 k _ hv hp]
      rfl
    · rfl
  · rw [if_neg (fun q => hp ((nI_leI (by omega) hk).mp q)), if_pos (by omega)]
    obtain ⟨e, p, ep⟩ := ord_itr (h := h) hR h8 k _ hv (by omega)
    rw [e, ← mFirst_rk hR h8, ep]
    rfl
end OrdE
/-! the plain queue -/
theorem cnt_pos {P : Nat → Bool} {n k : Nat} (hk : k < n) (h : P k = true) : 0 < fa_cnt P n := by
  induction n with
  | zero => omega
  | succ n ih =>
    by_cases e : k = n
    · subst e
      rw [fa_cnt_yes h]
      omega
    · have := ih (by omega)
      rw [fa_cnt]
      omega
theorem plain_eq {N : Nat → Int32} : (fun p => cRk N p 0 false false (mBand N p)) = mPlW N := by
  funext p
  unfold cRk mPlW
  rw [Bool.false_and, Bool.false_and, show (bB false * 2 + bB false : Int32) * 8 = 0 by decide, Int32.zero_add, Int32.mul_comm (mBand N p) 1000]
theorem queue_itr {N : Nat → Int32} (hR : Rg N) (h8 : nPo N ≤ 8) : ∀ j, j ≤ fa_cnt (mIn N) (nPo N) → ∃ v, v < 2 ^ nPo N ∧ itr (kDr (mPlW N) (nPo N)) j (iset (mIn N) (nPo N)) = nI v ∧ ∀ q, q < nPo N → v.testBit q = qS N (qL N j) q
  | 0, _ => by
    refine ⟨nset (mIn N) (nPo N), nset_lt _ _, iset_n _ _ (by omega), fun q hq => ?_⟩
    rw [nset_bit _ _ (by omega) q (by omega), decide_eq_true hq, Bool.true_and]
    unfold qS
    rw [show qL N 0 = -1 from rfl, decide_eq_true (mPlW_pos hR h8 hq), Bool.and_true]
  | j + 1, hj => by
    obtain ⟨v, hv, ev, hb⟩ := queue_itr hR h8 j (by omega)
    have hc := q_cnt hR h8 j (by omega)
    obtain ⟨p, hp⟩ := fst_has (w := mPlW N) (S := qS N (qL N j)) (n := nPo N) (by omega)
    have hlt := fst_lt hp
    have hv8 := p2_8 hv h8
    have hbp : v.testBit p = true := (hb p hlt.1).trans hlt.2
    have e0 : fst (mPlW N) (bt (nI v)) (nPo N) = some p := by rw [fst_bits h8 hv8 hb]; exact hp
    obtain ⟨d1, d2, -⟩ := (bit_all v (by omega) p (by omega)).2.2 hbp
    refine ⟨v - 2 ^ p, drop_lt hv, ?_, fun q hq => ?_⟩
    · rw [itr_succ, ev, kDr_some e0, d1]
    · rw [sub_bit v hv8 p (by omega) hbp q (by omega), hb q hq, qL_s hp]
      unfold qS
      cases hi : mIn N q with
      | false => simp
      | true =>
        simp only [Bool.true_and]
        by_cases e : q = p
        · subst e
          rw [decide_eq_false (show ¬ mPlW N q < mPlW N q from Int32.lt_irrefl)]
          simp
        · rw [decide_eq_false e]
          simp only [Bool.not_false, Bool.and_true]
          refine Bool.eq_iff_iff.mpr ?_
          simp only [decide_eq_true_eq]
          have hl : qL N j < mPlW N p := by
            have := hlt.2
            unfold qS at this
            exact of_decide_eq_true (andT this).2
          constructor
          · intro z
            have := fst_min hp q hq (by unfold qS; rw [hi, decide_eq_true z]; rfl)
            exact fa_le_ne this (fun y => e (mPlW_inj hR h8 hq hlt.1 y.symm))
          · intro z
            exact Int32.lt_trans hl z
theorem queue_eq {N : Nat → Int32} (hR : Rg N) (h8 : nPo N ≤ 8) {k : Nat} (hk : k < 2 ^ 31) : aNum (kO (fun p => cRk N p 0 false false (mBand N p)) (nPo N) (iset (mIn N) (nPo N)) k) = if nI (fa_cnt (mIn N) (nPo N)) ≤ nI k then no 5 else ok (oN (qNx N (qL N k))) := by
  have hcn := fa_cnt_le (mIn N) (nPo N)
  rw [plain_eq]
  unfold kO
  by_cases hp : fa_cnt (mIn N) (nPo N) ≤ k
  · rw [if_pos ((nI_leI (by omega) hk).mpr hp)]
    split
    · obtain ⟨v, hv, ev, hb⟩ := queue_itr hR h8 _ (Nat.le_refl (fa_cnt (mIn N) (nPo N)))
      have hc := q_cnt hR h8 _ (Nat.le_refl (fa_cnt (mIn N) (nPo N)))
      have e0 : fst (mPlW N) (bt (nI v)) (nPo N) = none := by
        rw [fst_bits h8 (p2_8 hv h8) hb]
        cases hz : fst (mPlW N) (qS N (qL N (fa_cnt (mIn N) (nPo N)))) (nPo N) with
        | none => rfl
        | some p =>
          have h2 := fst_lt hz
          have h3 : 0 < fa_cnt (qS N (qL N (fa_cnt (mIn N) (nPo N)))) (nPo N) := cnt_pos h2.1 h2.2
          omega
      show aNum (fst (mPlW N) (bt (itr (kDr (mPlW N) (nPo N)) k (iset (mIn N) (nPo N)))) (nPo N)) = _
      rw [show k = fa_cnt (mIn N) (nPo N) + (k - fa_cnt (mIn N) (nPo N)) by omega, itr_add, ev, kDr_none e0, e0]
      rfl
    · rfl
  · rw [if_neg (fun q => hp ((nI_leI (by omega) hk).mp q)), if_pos (by omega)]
    obtain ⟨v, hv, ev, hb⟩ := queue_itr hR h8 k (by omega)
    have hc := q_cnt hR h8 k (by omega)
    obtain ⟨p, e⟩ := fst_has (w := mPlW N) (S := qS N (qL N k)) (n := nPo N) (by omega)
    show aNum (fst (mPlW N) (bt (itr (kDr (mPlW N) (nPo N)) k (iset (mIn N) (nPo N)))) (nPo N)) = _
    rw [ev, fst_bits h8 (p2_8 hv h8) hb, e, show qNx N (qL N k) = some p from e]
    rfl
/-! how many bands to be first -/
theorem cnt0_iff {P : Nat → Bool} : ∀ n, fa_cnt P n = 0 ↔ ∀ q, q < n → P q = false
  | 0 => ⟨fun _ q h => absurd h (Nat.not_lt_zero q), fun _ => rfl⟩
  | n + 1 => by
    constructor
    · intro h q hq
      cases hp : P q with
      | false => rfl
      | true => have := cnt_pos hq hp; omega
    · intro h
      rw [fa_cnt_no (h n (by omega))]
      exact (cnt0_iff n).mpr (fun q hq => h q (by omega))
theorem ff_cong {P R : Nat → Bool} : ∀ {n : Nat}, (∀ k, k < n → P k = R k) → fa_first P n = fa_first R n
  | 0, _ => rfl
  | n + 1, h => by rw [fa_first, fa_first, ff_cong (fun k hk => h k (by omega)), h n (by omega)]
theorem bt_drop : ∀ v, v < 256 → ∀ p, p < 8 → ∀ q, q < 8 → bt (iDrop (nI v) (nI p)) q = (v.testBit q && !decide (q = p)) := by decide +kernel
theorem gap_eq {N : Nat → Int32} (hR : Rg N) (h8 : nPo N ≤ 8) {p h : Nat} (hp : p < nPo N) {l : Nat} (hl : l < (mBand N p).toNatClampNeg) : decide (cAh N p h (mBand N p - nI l) (mBidders N h) = 0) = gapP N p h (mFirst N h (iDrop (mBidders N h) (nI p))) l := by
  obtain ⟨B, eB, B1, B4⟩ := mBand_rg hR hp
  rw [eB, nI_clamp (by omega)] at hl
  have hv := nset_lt (fun p => mBid N p (nI h)) (nPo N)
  have hv8 := p2_8 hv h8
  have eb : mBidders N h = nI (nset (fun p => mBid N p (nI h)) (nPo N)) := iset_n _ _ (by omega)
  generalize nset (fun p => mBid N p (nI h)) (nPo N) = v at hv hv8 eb
  rw [eb]
  have e0 : mBand N p - nI l = nI (B - l) := by rw [eB]; exact pk_sub (by omega)
  have hbt : ∀ q, q < nPo N → bt (nI v) q = v.testBit q := fun q hq => (bit_all v (by omega) q (by omega)).1
  have hd : ∀ q, q < nPo N → bt (iDrop (nI v) (nI p)) q = (v.testBit q && !decide (q = p)) := fun q hq => bt_drop v hv8 p (by omega) q (by omega)
  refine Bool.eq_iff_iff.mpr ?_
  rw [decide_eq_true_eq]
  unfold cAh gapP
  rw [cnt0_iff, e0]
  cases hf : mFirst N h (iDrop (nI v) (nI p)) with
  | none =>
    rw [mFirst_rk hR h8] at hf
    refine ⟨fun _ => rfl, fun _ q hq => ?_⟩
    have := fst_none hf q hq
    rw [hd q hq] at this
    rw [hbt q hq, Bool.and_comm (!decide (q = p)), this, Bool.false_and]
  | some b =>
    rw [mFirst_rk hR h8] at hf
    have hb := fst_lt hf
    have hbb := hb.2
    rw [hd b hb.1] at hbb
    obtain ⟨b1, b2⟩ := andT hbb
    have hbp : b ≠ p := by simpa using b2
    obtain ⟨c, ec, c1, c4⟩ := mBand_rg hR hb.1
    have w1 := wgt_lt (h := h) hR h8 hp hb.1 (c := B - l) (e := c) ⟨by omega, by omega⟩ ⟨c1, c4⟩
    have ne := rk_ne (h := h) (lo := mLocal N h) (qu := mQuota N) hR h8 hb.1 hp (c := c) (e := B - l) c4 (by omega) hbp
    simp only [Option.isNone_some, Bool.false_or, Option.getD_some, decide_eq_true_eq]
    unfold mW
    rw [ec, w1, ← ec]
    rw [← ec] at ne
    constructor
    · intro z
      have := z b hb.1
      rw [hbt b hb.1, b1, decide_eq_false hbp] at this
      simp only [Bool.not_false, Bool.true_and, decide_eq_false_iff_not] at this
      exact fa_le_ne (Int32.not_lt.mp this) (fun y => ne y.symm)
    · intro z q hq
      by_cases hs : (!decide (q = p) && bt (nI v) q) = true
      · have hm := fst_min hf q hq (by rw [hd q hq, Bool.and_comm, ← hbt q hq]; exact hs)
        rw [hs, Bool.true_and, decide_eq_false]
        exact fun y => Int32.lt_irrefl (Int32.lt_trans (Int32.lt_of_lt_of_le z hm) y)
      · rw [Bool.eq_false_iff.mpr hs, Bool.false_and]
/-! envy -/
theorem ff_keep {P : Nat → Bool} {n : Nat} (h : fa_first P n < n) : fa_first P (n + 1) = fa_first P n := by rw [fa_first, if_pos h]
theorem ff_full {P : Nat → Bool} {n : Nat} (h : ¬ fa_first P n < n) : fa_first P n = n := by have := fa_first_le P n; omega
theorem nz0 {a : Nat} (h : ¬ a = 0) (ha : a < 2 ^ 31) : ¬ nI a = (0 : Int32) := fun q => h ((nI_eq (b := 0) ha (by decide)).mp q)
section EnvE
variable {N : Nat → Int32}
def pvQ (N : Nat → Int32) (p q : Nat) : Bool := decide (p < q) && envP N p q
theorem cCI_cnt {p : Nat} : ∀ q, cCI N p q = fa_cnt (pvQ N p) q
  | 0 => rfl
  | q + 1 => by
    rw [cCI, cCI_cnt q]
    cases h : pvQ N p q with
    | true =>
      have hh := andT h
      rw [fa_cnt_yes h, if_pos ⟨of_decide_eq_true hh.1, hh.2⟩]
    | false =>
      rw [fa_cnt_no h, if_neg, Nat.add_zero]
      rintro ⟨a, b⟩
      unfold pvQ at h
      rw [decide_eq_true a, b] at h
      cases h
theorem cCI_f {p q : Nat} : cCI N p q = 0 ↔ ¬ fa_first (pvQ N p) q < q := by
  rw [cCI_cnt, cnt0_iff]
  constructor
  · intro h z
    have := fa_first_yes _ _ z
    rw [h _ z] at this
    cases this
  · intro h k hk
    exact fa_first_no _ q k (by rw [ff_full h]; exact hk)
theorem envI_eq {p c : Nat} {s : Int32 × Int32} (hp8 : p < 8) (hs : s.1 = nI c) (hc : c ≤ 64) : ∀ d, d ≤ 8 → (envI N p s d).1 = nI (c + cCI N p (p + 1 + d)) ∧ (envI N p s d).2 = if c = 0 ∧ fa_first (pvQ N p) (p + 1 + d) < p + 1 + d then nI (8 * p + fa_first (pvQ N p) (p + 1 + d)) else s.2
  | 0, _ => by
    refine ⟨by rw [Nat.add_zero, cCI_0 _ (Nat.le_refl _)]; exact hs, ?_⟩
    rw [if_neg]
    · rfl
    · rintro ⟨-, q⟩
      exact cCI_f.mp (cCI_0 (N := N) (p := p) (p + 1 + 0) (Nat.le_refl _)) q
  | d + 1, hd => by
    obtain ⟨i1, i2⟩ := envI_eq hp8 hs hc d (by omega)
    have hp : pvQ N p (p + 1 + d) = envP N p (p + 1 + d) := by
      unfold pvQ
      rw [decide_eq_true (by omega), Bool.true_and]
    have hcl := cCI_le (N := N) (p := p) (p + 1 + d)
    have es : p + 1 + (d + 1) = (p + 1 + d) + 1 := by omega
    rw [envI, es]
    by_cases e : envP N p (p + 1 + d) = true
    · have ec : cCI N p (p + 1 + d + 1) = cCI N p (p + 1 + d) + 1 := by rw [cCI_cnt, cCI_cnt, fa_cnt_yes (by rw [hp]; exact e)]
      rw [if_pos e, ec]
      refine ⟨by show (envI N p s d).1 + 1 = _; rw [i1, nI_1, Nat.add_assoc], ?_⟩
      show (if (envI N p s d).1 = 0 then nI (8 * p + (p + 1 + d)) else (envI N p s d).2) = _
      rw [i1]
      by_cases hz : c + cCI N p (p + 1 + d) = 0
      · have hf : ¬ fa_first (pvQ N p) (p + 1 + d) < p + 1 + d := cCI_f.mp (by omega)
        have hff := ff_full hf
        have hn : fa_first (pvQ N p) (p + 1 + d + 1) = p + 1 + d := by rw [fa_first, if_neg hf, if_pos (by rw [hp]; exact e)]
        rw [hz, if_pos (show nI 0 = (0 : Int32) from rfl), hn, if_pos ⟨by omega, by omega⟩]
      · rw [if_neg (nz0 hz (by omega)), i2]
        by_cases h0 : c = 0
        · have hf : fa_first (pvQ N p) (p + 1 + d) < p + 1 + d := by
            rcases Nat.lt_or_ge (fa_first (pvQ N p) (p + 1 + d)) (p + 1 + d) with q | q
            · exact q
            · exact absurd (cCI_f.mpr (Nat.not_lt.mpr q)) (by omega)
          rw [ff_keep hf, if_pos ⟨h0, hf⟩, if_pos ⟨h0, by omega⟩]
        · rw [if_neg (fun q => h0 q.1), if_neg (fun q => h0 q.1)]
    · have ef : pvQ N p (p + 1 + d) = false := by rw [hp]; simpa using e
      have ec : cCI N p (p + 1 + d + 1) = cCI N p (p + 1 + d) := by rw [cCI_cnt, cCI_cnt, fa_cnt_no ef]
      rw [if_neg e, ec]
      refine ⟨i1, ?_⟩
      rw [i2]
      by_cases hf : fa_first (pvQ N p) (p + 1 + d) < p + 1 + d
      · rw [ff_keep hf]
        by_cases h0 : c = 0
        · rw [if_pos ⟨h0, hf⟩, if_pos ⟨h0, by omega⟩]
        · rw [if_neg (fun q => h0 q.1), if_neg (fun q => h0 q.1)]
      · have hn : fa_first (pvQ N p) (p + 1 + d + 1) = p + 1 + d + 1 := by rw [fa_first, if_neg hf, ef]; rfl
        rw [hn, if_neg (fun q => hf q.2), if_neg (fun q => Nat.lt_irrefl _ q.2)]
def hasP (N : Nat → Int32) (p : Nat) : Bool := (cPar N p).isSome
theorem hasP_iff {p : Nat} : hasP N p = true ↔ fa_first (pvQ N p) (nPo N) < nPo N := by
  unfold hasP cPar
  show (if fa_first (pvQ N p) (nPo N) < nPo N then some (fa_first (pvQ N p) (nPo N)) else none).isSome = true ↔ _
  by_cases h : fa_first (pvQ N p) (nPo N) < nPo N
  · rw [if_pos h]
    exact ⟨fun _ => h, fun _ => rfl⟩
  · rw [if_neg h]
    exact ⟨fun q => (by cases q), fun q => absurd q h⟩
theorem envO_eq (h8 : nPo N ≤ 8) : ∀ i, i ≤ nPo N → (envO N i).1 = nI (cCO N i) ∧ cCO N i ≤ 8 * i ∧ (cCO N i = 0 ↔ ¬ fa_first (hasP N) i < i) ∧ (envO N i).2 = if fa_first (hasP N) i < i then nI (8 * fa_first (hasP N) i + fa_first (pvQ N (fa_first (hasP N) i)) (nPo N)) else -1
  | 0, _ => ⟨rfl, Nat.le_refl 0, ⟨fun _ => Nat.lt_irrefl 0, fun _ => rfl⟩, rfl⟩
  | i + 1, hi => by
    obtain ⟨a1, a2, a3, a4⟩ := envO_eq h8 i (by omega)
    obtain ⟨b1, b2⟩ := envI_eq (N := N) (p := i) (s := envO N i) (by omega) a1 (by omega) (nPo N - (i + 1)) (by omega)
    rw [show i + 1 + (nPo N - (i + 1)) = nPo N by omega] at b1 b2
    have hcl := cCI_le (N := N) (p := i) (nPo N)
    have hcf := cCI_f (N := N) (p := i) (q := nPo N)
    refine ⟨b1, by rw [cCO]; omega, ?_, ?_⟩
    · rw [cCO]
      by_cases hf : fa_first (hasP N) i < i
      · rw [ff_keep hf]
        constructor
        · intro q
          exact absurd hf (a3.mp (by omega))
        · intro q
          omega
      · have hz := a3.mpr hf
        cases hh : hasP N i with
        | true =>
          have hn : fa_first (hasP N) (i + 1) = i := by rw [fa_first, if_neg hf, if_pos hh]
          rw [hn]
          constructor
          · intro q
            exact absurd (hasP_iff.mp hh) (hcf.mp (by omega))
          · intro q
            omega
        | false =>
          have hn : fa_first (hasP N) (i + 1) = i + 1 := by rw [fa_first, if_neg hf, hh]; rfl
          rw [hn]
          constructor
          · intro q
            omega
          · intro q
            have := hcf.mpr (fun z => by rw [hasP_iff.mpr z] at hh; cases hh)
            omega
    · show (envI N i (envO N i) (nPo N - (i + 1))).2 = _
      rw [b2, a4]
      by_cases hf : fa_first (hasP N) i < i
      · rw [ff_keep hf, if_neg (fun q => a3.mp q.1 hf), if_pos hf, if_pos (by omega)]
      · have hz := a3.mpr hf
        cases hh : hasP N i with
        | true =>
          have hn : fa_first (hasP N) (i + 1) = i := by rw [fa_first, if_neg hf, if_pos hh]
          rw [hn, if_pos ⟨hz, hasP_iff.mp hh⟩, if_pos (by omega)]
        | false =>
          have hn : fa_first (hasP N) (i + 1) = i + 1 := by rw [fa_first, if_neg hf, hh]; rfl
          rw [hn, if_neg (fun q => by rw [hasP_iff.mpr q.2] at hh; cases hh), if_neg hf, if_neg (Nat.lt_irrefl _)]
theorem envy_eq (h8 : nPo N ≤ 8) : (mEnvy N).1 = nI (cCO N (nPo N)) ∧ aNum (cEnv N) = (if (mEnvy N).1 = 0 then no 5 else ok ((mEnvy N).2 / 8)) ∧ aNum (cPE N) = (if (mEnvy N).1 = 0 then no 5 else ok (irem (mEnvy N).2 8)) := by
  obtain ⟨a1, a2, a3, a4⟩ := envO_eq h8 (nPo N) (Nat.le_refl _)
  unfold mEnvy
  refine ⟨a1, ?_⟩
  rw [a1, a4]
  have ec : cEnv N = if fa_first (hasP N) (nPo N) < nPo N then some (fa_first (hasP N) (nPo N)) else none := rfl
  by_cases hf : fa_first (hasP N) (nPo N) < nPo N
  · have hq := hasP_iff.mp (fa_first_yes _ _ hf)
    rw [if_pos hf] at ec
    rw [if_neg (nz0 (fun q => a3.mp q hf) (by omega)), if_neg (nz0 (fun q => a3.mp q hf) (by omega)), if_pos hf]
    have ep : cPE N = some (fa_first (pvQ N (fa_first (hasP N) (nPo N))) (nPo N)) := by
      unfold cPE
      rw [ec]
      show cPar N _ = _
      unfold cPar
      exact if_pos hq
    rw [ec, ep]
    constructor
    · show ok _ = ok _
      rw [show (8 : Int32) = nI 8 from rfl, pk_div (by omega) (by decide) (by decide)]
      congr 2
      omega
    · show ok _ = ok _
      unfold irem
      rw [show (8 : Int32) = nI 8 from rfl, pk_rem (by omega) (by decide) (by decide)]
      congr 2
      omega
  · rw [if_neg hf] at ec
    have ep : cPE N = none := by unfold cPE; rw [ec]
    have hz := a3.mpr hf
    rw [ec, ep, hz, if_pos (show nI 0 = (0 : Int32) from rfl), if_pos (show nI 0 = (0 : Int32) from rfl)]
    exact ⟨rfl, rfl⟩
end EnvE
