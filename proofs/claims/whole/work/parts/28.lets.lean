/-! offers of one home, one after another -/
theorem bit_all : ∀ v, v < 1024 → ∀ p, p < 10 → bt (nI v) p = v.testBit p ∧ (((nI v >>> (nI p &&& 31)) &&& 1 = 0) ↔ v.testBit p = false) ∧ (v.testBit p = true → iDrop (nI v) (nI p) = nI (v - 2 ^ p) ∧ pcn (v - 2 ^ p) + 1 = pcn v ∧ 2 ^ p ≤ v) := by decide +kernel
theorem bit_drop : ∀ v, v < 256 → ∀ p, p < 8 → v.testBit p = true → ∀ q, q < 8 → (v - 2 ^ p).testBit q = (v.testBit q && !decide (q = p)) := by decide +kernel
theorem bit_zero : ∀ v, v < 1024 → (∀ p, p < 10 → v.testBit p = false) → v = 0 := by decide +kernel
theorem nset_bit (S : Nat → Bool) : ∀ n, n ≤ 10 → ∀ p, p < 10 → (nset S n).testBit p = (decide (p < n) && S p)
  | 0, _, p, _ => by simp [nset]
  | n + 1, hn, p, hp => by
    have ih := nset_bit S n (by omega)
    have hlt := nset_lt S n
    rw [nset]
    by_cases hs : S n = true
    · have e1 := Nat.two_pow_add_eq_or_of_lt hlt 1
      rw [Nat.mul_one] at e1
      rw [if_pos hs, Nat.add_comm, e1, Nat.testBit_or, ih p hp, Nat.testBit_two_pow]
      by_cases e : n = p
      · subst e
        simp [hs]
      · by_cases hl : p < n
        · simp [hl, e, show p < n + 1 by omega]
        · simp [hl, e, show ¬ p < n + 1 by omega]
    · rw [if_neg hs, Nat.add_zero, ih p hp]
      have hs : S n = false := by simpa using hs
      by_cases e : p = n
      · subst e
        simp [hs]
      · by_cases hl : p < n
        · simp [hl, show p < n + 1 by omega]
        · simp [hl, show ¬ p < n + 1 by omega]
theorem fst_none {w : Nat → Int32} {S : Nat → Bool} : ∀ {n : Nat}, fst w S n = none → ∀ i, i < n → S i = false
  | 0, _, i, hi => by omega
  | n + 1, h, i, hi => by
    cases hS : S n with
    | false =>
      rw [fst_no hS] at h
      by_cases e : i = n
      · rw [e]; exact hS
      · exact fst_none h i (by omega)
    | true =>
      exfalso
      cases e : fst w S n with
      | none => rw [fst_new hS e] at h; cases h
      | some c =>
        by_cases hw : w n < w c
        · rw [fst_less hS e hw] at h; cases h
        · rw [fst_ge hS e hw] at h; cases h
/-- offers: v is who is left, k how many offers there were -/
def letsL (h : Nat) : Nat → (Nat → Int32) → Nat → Nat → Nat → Int32
  | 0, N, _, _ => N
  | f + 1, N, v, k => if v = 0 ∨ 3 ≤ k then N else match mFirst N h (nI v) with
    | none => N
    | some p => if mHope N p then (if mTake N p (nI h) then mTakes (mOffered N p h true) p h (nI (k + 1)) else letsL h f (mRefuses (mOffered N p h false) p) (v - 2 ^ p) (k + 1)) else letsL h f N (v - 2 ^ p) k
section LetsSteps
variable {h f v k p : Nat} {N : Nat → Int32}
theorem letsL_stop (h0 : v = 0 ∨ 3 ≤ k) : letsL h (f + 1) N v k = N := by rw [letsL, if_pos h0]
theorem letsL_take (h0 : ¬ (v = 0 ∨ 3 ≤ k)) (e : mFirst N h (nI v) = some p) (hm : mHope N p = true) (ht : mTake N p (nI h) = true) : letsL h (f + 1) N v k = mTakes (mOffered N p h true) p h (nI (k + 1)) := by
  rw [letsL, if_neg h0, e]
  show (if mHope N p then _ else _) = _
  rw [if_pos hm, if_pos ht]
theorem letsL_ref (h0 : ¬ (v = 0 ∨ 3 ≤ k)) (e : mFirst N h (nI v) = some p) (hm : mHope N p = true) (ht : ¬ mTake N p (nI h) = true) : letsL h (f + 1) N v k = letsL h f (mRefuses (mOffered N p h false) p) (v - 2 ^ p) (k + 1) := by
  rw [letsL, if_neg h0, e]
  show (if mHope N p then _ else _) = _
  rw [if_pos hm, if_neg ht]
theorem letsL_skip (h0 : ¬ (v = 0 ∨ 3 ≤ k)) (e : mFirst N h (nI v) = some p) (hm : ¬ mHope N p = true) : letsL h (f + 1) N v k = letsL h f N (v - 2 ^ p) k := by
  rw [letsL, if_neg h0, e]
  show (if mHope N p then _ else _) = _
  rw [if_neg hm]
end LetsSteps
def mLets (N : Nat → Int32) (h : Nat) : Nat → Int32 := letsL h 8 N (nset (fun p => mBid N p (nI h)) (nPo N)) 0
theorem first_some {N : Nat → Int32} {h v : Nat} (hv : v < 2 ^ nPo N) (h8 : nPo N ≤ 8) (h0 : ¬ v = 0) : ∃ p, mFirst N h (nI v) = some p ∧ p < nPo N ∧ v.testBit p = true := by
  have hv2 : v < 1024 := Nat.lt_of_lt_of_le hv (Nat.le_trans (Nat.pow_le_pow_right (by decide) h8) (by decide))
  cases e : mFirst N h (nI v) with
  | some p =>
    have := fst_lt e
    refine ⟨p, rfl, this.1, ?_⟩
    rw [← (bit_all v hv2 p (by omega)).1]
    exact this.2
  | none =>
    exfalso
    apply h0
    refine bit_zero v hv2 fun p hp => ?_
    by_cases hl : p < nPo N
    · rw [← (bit_all v hv2 p hp).1]
      exact fst_none e p hl
    · exact Nat.testBit_lt_two_pow (Nat.lt_of_lt_of_le hv (Nat.pow_le_pow_right (by decide) (by omega)))
theorem drop_lt {v p n : Nat} (hv : v < 2 ^ n) : v - 2 ^ p < 2 ^ n := Nat.lt_of_le_of_lt (Nat.sub_le _ _) hv
theorem pcn_0 {v : Nat} (hv : v < 1024) (h : pcn v = 0) : v = 0 := by
  refine bit_zero v hv fun p hp => ?_
  cases e : v.testBit p with
  | false => rfl
  | true =>
    have := (bit_all v hv p hp).2.2 e
    omega
/-- what stays of a row when a home is offered: the counts, and who is in but for the one who takes -/
theorem letsL_Wk (h : Nat) (hh : h < 10) : ∀ (f : Nat) (N : Nat → Int32) (v k b : Nat), Wk N b → v < 2 ^ nPo N → b + (3 - k) ≤ 30 → Wk (letsL h f N v k) (b + (3 - k)) ∧ letsL h f N v k 230 = N 230 ∧ letsL h f N v k 231 = N 231
  | 0, N, v, k, b, w, hv, hb => by
    rw [letsL]
    exact ⟨⟨w.1, w.2.1, by have := w.2.2; omega⟩, rfl, rfl⟩
  | f + 1, N, v, k, b, w, hv, hb => by
    have h8 := w.1.p8
    by_cases h0 : v = 0 ∨ 3 ≤ k
    · rw [letsL_stop h0]
      exact ⟨⟨w.1, w.2.1, by have := w.2.2; omega⟩, rfl, rfl⟩
    · obtain ⟨p, e, hp, ht⟩ := first_some (h := h) hv h8 (fun q => h0 (Or.inl q))
      have hb30 : b < 30 := by omega
      have e230 : ∀ t, mOffered N p h t 230 = N 230 := fun t => off_rd (by omega)
      have e231 : ∀ t, mOffered N p h t 231 = N 231 := fun t => off_rd (by omega)
      by_cases hm : mHope N p = true
      · have hi : mIn N p = true := by unfold mHope at hm; rw [Bool.and_eq_true] at hm; exact hm.1
        by_cases htk : mTake N p (nI h) = true
        · rw [letsL_take h0 e hm htk]
          have w1 := off_Wk (p := p) (h := h) (t := true) w hb30
          have eP : nPo (mOffered N p h true) = nPo N := by unfold nPo; rw [e231]
          have hi2 : mIn (mOffered N p h true) p = true := by unfold mIn; rw [off_rd (by omega)]; exact hi
          have w2 := takes_Wk (o := nI (k + 1)) w1 (by rw [eP]; exact hp) hh hi2
          have hl := lo_lt w1.1 w1.2.1 (by rw [eP]; exact hp) hi2
          refine ⟨⟨w2.1, w2.2.1, by have := w2.2.2; omega⟩, ?_, ?_⟩
          · rw [takes_rd w1.1 (by omega) hh hl (by omega), tkA_rd w1.1 hh (by omega) (fun q hq => by omega) (by omega) (by omega) (by omega) (by omega) (by omega), e230]
          · rw [takes_rd w1.1 (by omega) hh hl (by omega), tkA_rd w1.1 hh (by omega) (fun q hq => by omega) (by omega) (by omega) (by omega) (by omega) (by omega), e231]
        · rw [letsL_ref h0 e hm htk]
          have w1 := ref_Wk (off_Wk (p := p) (h := h) (t := false) w hb30) (show p < 8 by omega)
          have eP : nPo (mRefuses (mOffered N p h false) p) = nPo N := by unfold nPo; rw [ref_rd (by omega) (by omega) (by omega) (by omega), e231]
          obtain ⟨g1, g2, g3⟩ := letsL_Wk h hh f (mRefuses (mOffered N p h false) p) (v - 2 ^ p) (k + 1) (b + 1) w1 (by rw [eP]; exact drop_lt hv) (by omega)
          refine ⟨⟨g1.1, g1.2.1, by have := g1.2.2; omega⟩, ?_, ?_⟩
          · rw [g2, ref_rd (by omega) (by omega) (by omega) (by omega), e230]
          · rw [g3, ref_rd (by omega) (by omega) (by omega) (by omega), e231]
      · rw [letsL_skip h0 e hm]
        exact letsL_Wk h hh f N (v - 2 ^ p) k b w (drop_lt hv) hb
theorem lets_Wk {N : Nat → Int32} {h b : Nat} (hh : h < 10) (w : Wk N b) (hb : b + 3 ≤ 30) : Wk (mLets N h) (b + 3) ∧ mLets N h 230 = N 230 ∧ mLets N h 231 = N 231 :=
  letsL_Wk h hh 8 N _ 0 b w (nset_lt _ _) (by omega)
