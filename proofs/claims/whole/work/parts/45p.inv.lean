/-! what a row that is read keeps to -/
def HmO (R : Nat → Int32) (b h : Nat) : Prop := (∃ v, R (8 * h) = nI v ∧ 1 ≤ v ∧ v ≤ 4) ∧ (∃ v, R (8 * h + 1) = nI v ∧ v ≤ 7) ∧ (R (8 * h + 2) = -1 ∨ ∃ q, q < b ∧ R (8 * h + 2) = nI q ∧ R (80 + 18 * q + 4) = nI h) ∧ ∀ j, 3 ≤ j → j < 8 → R (8 * h + j) = 0
def HsO (R : Nat → Int32) (a q : Nat) : Prop := (∃ v, R (80 + 18 * q) = nI v ∧ 1 ≤ v ∧ v ≤ 4) ∧ (∃ v, R (80 + 18 * q + 1) = nI v ∧ 1 ≤ v ∧ v ≤ 4) ∧ (∃ v, R (80 + 18 * q + 2) = nI v ∧ v ≤ 7) ∧ (∃ v, R (80 + 18 * q + 3) = nI v ∧ v ≤ 999) ∧ (R (80 + 18 * q + 4) = -1 ∨ ∃ h, h < a ∧ R (80 + 18 * q + 4) = nI h ∧ R (8 * h + 2) = nI q) ∧ (∀ j, 5 ≤ j → j ≤ 10 → R (80 + 18 * q + j) = 0) ∧ ∃ w, w ≤ 6 ∧ R (80 + 18 * q + 11) = nI w ∧ (∀ k, k < w → ∃ h, h < a ∧ R (80 + 18 * q + (12 + k)) = nI h) ∧ ∀ k j, k < j → j < w → R (80 + 18 * q + (12 + k)) ≠ R (80 + 18 * q + (12 + j))
def PG (R : Nat → Int32) (a b : Nat) : Prop := (a ≤ 10 ∧ b ≤ 8) ∧ (∀ h, h < a → HmO R b h) ∧ (∀ q, q < b → HsO R a q) ∧ (∀ k, 8 * a ≤ k → k < 80 → R k = 0) ∧ (∀ k, 80 + 18 * b ≤ k → k < 224 → R k = 0) ∧ (∀ k, 232 ≤ k → k < 390 → R k = 0) ∧ ∀ r, r < 6 → rLeast r ≤ R (224 + r) ∧ R (224 + r) ≤ rMost r
theorem PG.cnt {R R' : Nat → Int32} {a b : Nat} (h : PG R a b) (hg : ∀ k, k ≠ 230 → k ≠ 231 → R' k = R k) : PG R' a b := by
  obtain ⟨⟨ha, hb⟩, h1, h2, h3, h4, h5, h6⟩ := h
  refine ⟨⟨ha, hb⟩, fun x hx => ?_, fun x hx => ?_, fun k k1 k2 => ?_, fun k k1 k2 => ?_, fun k k1 k2 => ?_, fun r hr => ?_⟩
  · obtain ⟨q1, q2, q3, q4⟩ := h1 x hx
    refine ⟨by rw [hg _ (by omega) (by omega)]; exact q1, by rw [hg _ (by omega) (by omega)]; exact q2, ?_, fun j j1 j2 => by rw [hg _ (by omega) (by omega)]; exact q4 j j1 j2⟩
    rw [hg _ (by omega) (by omega)]
    rcases q3 with q3 | ⟨y, y1, y2, y3⟩
    · exact Or.inl q3
    · exact Or.inr ⟨y, y1, y2, by rw [hg _ (by omega) (by omega)]; exact y3⟩
  · obtain ⟨q1, q2, q3, q4, q5, q6, w, w1, w2, w3, w4⟩ := h2 x hx
    refine ⟨by rw [hg _ (by omega) (by omega)]; exact q1, by rw [hg _ (by omega) (by omega)]; exact q2, by rw [hg _ (by omega) (by omega)]; exact q3, by rw [hg _ (by omega) (by omega)]; exact q4, ?_, fun j j1 j2 => by rw [hg _ (by omega) (by omega)]; exact q6 j j1 j2, w, w1, by rw [hg _ (by omega) (by omega)]; exact w2, fun k hk => by rw [hg _ (by omega) (by omega)]; exact w3 k hk, fun k j hk hj => by rw [hg _ (by omega) (by omega), hg (80 + 18 * x + (12 + j)) (by omega) (by omega)]; exact w4 k j hk hj⟩
    rw [hg _ (by omega) (by omega)]
    rcases q5 with q5 | ⟨y, y1, y2, y3⟩
    · exact Or.inl q5
    · exact Or.inr ⟨y, y1, y2, by rw [hg _ (by omega) (by omega)]; exact y3⟩
  · rw [hg _ (by omega) (by omega)]; exact h3 k k1 k2
  · rw [hg _ (by omega) (by omega)]; exact h4 k k1 k2
  · rw [hg _ (by omega) (by omega)]; exact h5 k k1 k2
  · rw [hg _ (by omega) (by omega)]; exact h6 r hr
theorem PG.home {R R' : Nat → Int32} {a b : Nat} (h : PG R a b) (ha : a < 10) (hg : ∀ k, (k < 8 * a ∨ 8 * a + 3 ≤ k) → k ≠ 230 → R' k = R k) (n0 : ∃ v, R' (8 * a) = nI v ∧ 1 ≤ v ∧ v ≤ 4) (n1 : ∃ v, R' (8 * a + 1) = nI v ∧ v ≤ 7) (n2 : R' (8 * a + 2) = -1) : PG R' (a + 1) b := by
  obtain ⟨⟨-, hb⟩, h1, h2, h3, h4, h5, h6⟩ := h
  refine ⟨⟨ha, hb⟩, fun x hx => ?_, fun x hx => ?_, fun k k1 k2 => ?_, fun k k1 k2 => ?_, fun k k1 k2 => ?_, fun r hr => ?_⟩
  · by_cases hxa : x = a
    · subst hxa
      exact ⟨n0, n1, Or.inl n2, fun j j1 j2 => by rw [hg _ (by omega) (by omega)]; exact h3 _ (by omega) (by omega)⟩
    · obtain ⟨q1, q2, q3, q4⟩ := h1 x (by omega)
      refine ⟨by rw [hg _ (by omega) (by omega)]; exact q1, by rw [hg _ (by omega) (by omega)]; exact q2, ?_, fun j j1 j2 => by rw [hg _ (by omega) (by omega)]; exact q4 j j1 j2⟩
      rw [hg _ (by omega) (by omega)]
      rcases q3 with q3 | ⟨y, y1, y2, y3⟩
      · exact Or.inl q3
      · exact Or.inr ⟨y, y1, y2, by rw [hg _ (by omega) (by omega)]; exact y3⟩
  · obtain ⟨q1, q2, q3, q4, q5, q6, w, w1, w2, w3, w4⟩ := h2 x hx
    refine ⟨by rw [hg _ (by omega) (by omega)]; exact q1, by rw [hg _ (by omega) (by omega)]; exact q2, by rw [hg _ (by omega) (by omega)]; exact q3, by rw [hg _ (by omega) (by omega)]; exact q4, ?_, fun j j1 j2 => by rw [hg _ (by omega) (by omega)]; exact q6 j j1 j2, w, w1, by rw [hg _ (by omega) (by omega)]; exact w2, fun k hk => ?_, fun k j hk hj => by rw [hg _ (by omega) (by omega), hg (80 + 18 * x + (12 + j)) (by omega) (by omega)]; exact w4 k j hk hj⟩
    · rw [hg _ (by omega) (by omega)]
      rcases q5 with q5 | ⟨y, y1, y2, y3⟩
      · exact Or.inl q5
      · exact Or.inr ⟨y, by omega, y2, by rw [hg _ (by omega) (by omega)]; exact y3⟩
    · obtain ⟨y, y1, y2⟩ := w3 k hk
      exact ⟨y, by omega, by rw [hg _ (by omega) (by omega)]; exact y2⟩
  · rw [hg _ (by omega) (by omega)]; exact h3 k (by omega) k2
  · rw [hg _ (by omega) (by omega)]; exact h4 k k1 k2
  · rw [hg _ (by omega) (by omega)]; exact h5 k k1 k2
  · rw [hg _ (by omega) (by omega)]; exact h6 r hr
theorem PG.house {R R' : Nat → Int32} {a b : Nat} (h : PG R a b) (hb : b < 8) (hg : ∀ k, (k < 80 + 18 * b ∨ 80 + 18 * b + 5 ≤ k) → R' k = R k) (n0 : ∃ v, R' (80 + 18 * b) = nI v ∧ 1 ≤ v ∧ v ≤ 4) (n1 : ∃ v, R' (80 + 18 * b + 1) = nI v ∧ 1 ≤ v ∧ v ≤ 4) (n2 : ∃ v, R' (80 + 18 * b + 2) = nI v ∧ v ≤ 7) (n3 : ∃ v, R' (80 + 18 * b + 3) = nI v ∧ v ≤ 999) (n4 : R' (80 + 18 * b + 4) = -1) : PG R' a (b + 1) := by
  obtain ⟨⟨ha, -⟩, h1, h2, h3, h4, h5, h6⟩ := h
  refine ⟨⟨ha, hb⟩, fun x hx => ?_, fun x hx => ?_, fun k k1 k2 => ?_, fun k k1 k2 => ?_, fun k k1 k2 => ?_, fun r hr => ?_⟩
  · obtain ⟨q1, q2, q3, q4⟩ := h1 x hx
    refine ⟨by rw [hg _ (by omega)]; exact q1, by rw [hg _ (by omega)]; exact q2, ?_, fun j j1 j2 => by rw [hg _ (by omega)]; exact q4 j j1 j2⟩
    rw [hg _ (by omega)]
    rcases q3 with q3 | ⟨y, y1, y2, y3⟩
    · exact Or.inl q3
    · exact Or.inr ⟨y, by omega, y2, by rw [hg _ (by omega)]; exact y3⟩
  · by_cases hxb : x = b
    · subst hxb
      refine ⟨n0, n1, n2, n3, Or.inl n4, fun j j1 j2 => by rw [hg _ (by omega)]; exact h4 _ (by omega) (by omega), 0, by omega, ?_, fun k hk => absurd hk (Nat.not_lt_zero k), fun k j hk hj => absurd hj (Nat.not_lt_zero j)⟩
      rw [hg _ (by omega)]
      exact h4 _ (by omega) (by omega)
    · obtain ⟨q1, q2, q3, q4, q5, q6, w, w1, w2, w3, w4⟩ := h2 x (by omega)
      refine ⟨by rw [hg _ (by omega)]; exact q1, by rw [hg _ (by omega)]; exact q2, by rw [hg _ (by omega)]; exact q3, by rw [hg _ (by omega)]; exact q4, ?_, fun j j1 j2 => by rw [hg _ (by omega)]; exact q6 j j1 j2, w, w1, by rw [hg _ (by omega)]; exact w2, fun k hk => by rw [hg _ (by omega)]; exact w3 k hk, fun k j hk hj => by rw [hg _ (by omega), hg (80 + 18 * x + (12 + j)) (by omega)]; exact w4 k j hk hj⟩
      rw [hg _ (by omega)]
      rcases q5 with q5 | ⟨y, y1, y2, y3⟩
      · exact Or.inl q5
      · exact Or.inr ⟨y, y1, y2, by rw [hg _ (by omega)]; exact y3⟩
  · rw [hg _ (by omega)]; exact h3 k k1 k2
  · rw [hg _ (by omega)]; exact h4 k (by omega) k2
  · rw [hg _ (by omega)]; exact h5 k k1 k2
  · rw [hg _ (by omega)]; exact h6 r hr
theorem PG.live {R R' : Nat → Int32} {a b h0 : Nat} (h : PG R a (b + 1)) (hh : h0 < a) (hf : R (8 * h0 + 2) = -1) (hb : R (80 + 18 * b + 4) = -1) (hg : ∀ k, k ≠ 80 + 18 * b + 4 → k ≠ 8 * h0 + 2 → R' k = R k) (n1 : R' (80 + 18 * b + 4) = nI h0) (n2 : R' (8 * h0 + 2) = nI b) : PG R' a (b + 1) := by
  obtain ⟨⟨ha, hb8⟩, h1, h2, h3, h4, h5, h6⟩ := h
  have neg : ∀ y : Nat, y < 10 → ¬ nI y = (-1 : Int32) := by decide
  refine ⟨⟨ha, hb8⟩, fun x hx => ?_, fun x hx => ?_, fun k k1 k2 => ?_, fun k k1 k2 => ?_, fun k k1 k2 => ?_, fun r hr => ?_⟩
  · obtain ⟨q1, q2, q3, q4⟩ := h1 x hx
    refine ⟨by rw [hg _ (by omega) (by omega)]; exact q1, by rw [hg _ (by omega) (by omega)]; exact q2, ?_, fun j j1 j2 => by rw [hg _ (by omega) (by omega)]; exact q4 j j1 j2⟩
    by_cases hx0 : x = h0
    · subst hx0
      exact Or.inr ⟨b, by omega, n2, n1⟩
    · rw [hg _ (by omega) (by omega)]
      rcases q3 with q3 | ⟨y, y1, y2, y3⟩
      · exact Or.inl q3
      · by_cases hy : y = b
        · subst hy
          rw [hb] at y3
          exact absurd y3.symm (neg x (by omega))
        · exact Or.inr ⟨y, y1, y2, by rw [hg _ (by omega) (by omega)]; exact y3⟩
  · obtain ⟨q1, q2, q3, q4, q5, q6, w, w1, w2, w3, w4⟩ := h2 x hx
    refine ⟨by rw [hg _ (by omega) (by omega)]; exact q1, by rw [hg _ (by omega) (by omega)]; exact q2, by rw [hg _ (by omega) (by omega)]; exact q3, by rw [hg _ (by omega) (by omega)]; exact q4, ?_, fun j j1 j2 => by rw [hg _ (by omega) (by omega)]; exact q6 j j1 j2, w, w1, by rw [hg _ (by omega) (by omega)]; exact w2, fun k hk => by rw [hg _ (by omega) (by omega)]; exact w3 k hk, fun k j hk hj => by rw [hg _ (by omega) (by omega), hg (80 + 18 * x + (12 + j)) (by omega) (by omega)]; exact w4 k j hk hj⟩
    by_cases hxb : x = b
    · subst hxb
      exact Or.inr ⟨h0, hh, n1, n2⟩
    · rw [hg _ (by omega) (by omega)]
      rcases q5 with q5 | ⟨y, y1, y2, y3⟩
      · exact Or.inl q5
      · by_cases hy : y = h0
        · subst hy
          rw [hf] at y3
          exact absurd y3.symm (neg x (by omega))
        · exact Or.inr ⟨y, y1, y2, by rw [hg _ (by omega) (by omega)]; exact y3⟩
  · rw [hg _ (by omega) (by omega)]; exact h3 k k1 k2
  · rw [hg _ (by omega) (by omega)]; exact h4 k k1 k2
  · rw [hg _ (by omega) (by omega)]; exact h5 k k1 k2
  · rw [hg _ (by omega) (by omega)]; exact h6 r hr
theorem PG.wish {R R' : Nat → Int32} {a b h0 w0 : Nat} (h : PG R a (b + 1)) (hh : h0 < a) (hw : R (80 + 18 * b + 11) = nI w0) (hw6 : w0 < 6) (hn : ∀ k, k < w0 → ¬ R (80 + 18 * b + (12 + k)) = nI h0) (hg : ∀ k, k ≠ 80 + 18 * b + 11 → k ≠ 80 + 18 * b + (12 + w0) → R' k = R k) (n1 : R' (80 + 18 * b + (12 + w0)) = nI h0) (n2 : R' (80 + 18 * b + 11) = nI (w0 + 1)) : PG R' a (b + 1) := by
  obtain ⟨⟨ha, hb8⟩, h1, h2, h3, h4, h5, h6⟩ := h
  refine ⟨⟨ha, hb8⟩, fun x hx => ?_, fun x hx => ?_, fun k k1 k2 => ?_, fun k k1 k2 => ?_, fun k k1 k2 => ?_, fun r hr => ?_⟩
  · obtain ⟨q1, q2, q3, q4⟩ := h1 x hx
    refine ⟨by rw [hg _ (by omega) (by omega)]; exact q1, by rw [hg _ (by omega) (by omega)]; exact q2, ?_, fun j j1 j2 => by rw [hg _ (by omega) (by omega)]; exact q4 j j1 j2⟩
    rw [hg _ (by omega) (by omega)]
    rcases q3 with q3 | ⟨y, y1, y2, y3⟩
    · exact Or.inl q3
    · exact Or.inr ⟨y, by omega, y2, by rw [hg _ (by omega) (by omega)]; exact y3⟩
  · obtain ⟨q1, q2, q3, q4, q5, q6, w, w1, w2, w3, w4⟩ := h2 x hx
    have q5' : R' (80 + 18 * x + 4) = -1 ∨ ∃ h, h < a ∧ R' (80 + 18 * x + 4) = nI h ∧ R' (8 * h + 2) = nI x := by
      rw [hg _ (by omega) (by omega)]
      rcases q5 with q5 | ⟨y, y1, y2, y3⟩
      · exact Or.inl q5
      · exact Or.inr ⟨y, y1, y2, by rw [hg _ (by omega) (by omega)]; exact y3⟩
    by_cases hxb : x = b
    · subst hxb
      have e : w = w0 := (nI_eq (by omega) (by omega)).mp (w2.symm.trans hw)
      subst e
      refine ⟨by rw [hg _ (by omega) (by omega)]; exact q1, by rw [hg _ (by omega) (by omega)]; exact q2, by rw [hg _ (by omega) (by omega)]; exact q3, by rw [hg _ (by omega) (by omega)]; exact q4, q5', fun j j1 j2 => by rw [hg _ (by omega) (by omega)]; exact q6 j j1 j2, w + 1, by omega, n2, fun k hk => ?_, fun k j hk hj => ?_⟩
      · by_cases hkw : k = w
        · subst hkw
          exact ⟨h0, hh, n1⟩
        · rw [hg _ (by omega) (by omega)]
          exact w3 k (by omega)
      · by_cases hjw : j = w
        · subst hjw
          rw [hg (80 + 18 * x + (12 + k)) (by omega) (by omega), n1]
          exact hn k hk
        · rw [hg (80 + 18 * x + (12 + k)) (by omega) (by omega), hg (80 + 18 * x + (12 + j)) (by omega) (by omega)]
          exact w4 k j hk (by omega)
    · exact ⟨by rw [hg _ (by omega) (by omega)]; exact q1, by rw [hg _ (by omega) (by omega)]; exact q2, by rw [hg _ (by omega) (by omega)]; exact q3, by rw [hg _ (by omega) (by omega)]; exact q4, q5', fun j j1 j2 => by rw [hg _ (by omega) (by omega)]; exact q6 j j1 j2, w, w1, by rw [hg _ (by omega) (by omega)]; exact w2, fun k hk => by rw [hg _ (by omega) (by omega)]; exact w3 k hk, fun k j hk hj => by rw [hg _ (by omega) (by omega), hg (80 + 18 * x + (12 + j)) (by omega) (by omega)]; exact w4 k j hk hj⟩
  · rw [hg _ (by omega) (by omega)]; exact h3 k k1 k2
  · rw [hg _ (by omega) (by omega)]; exact h4 k k1 k2
  · rw [hg _ (by omega) (by omega)]; exact h5 k k1 k2
  · rw [hg _ (by omega) (by omega)]; exact h6 r hr
theorem PG.rule {R R' : Nat → Int32} {a b r0 : Nat} (h : PG R a b) (hr0 : r0 < 6) (hg : ∀ k, k ≠ 224 + r0 → R' k = R k) (n : rLeast r0 ≤ R' (224 + r0) ∧ R' (224 + r0) ≤ rMost r0) : PG R' a b := by
  obtain ⟨⟨ha, hb⟩, h1, h2, h3, h4, h5, h6⟩ := h
  refine ⟨⟨ha, hb⟩, fun x hx => ?_, fun x hx => ?_, fun k k1 k2 => ?_, fun k k1 k2 => ?_, fun k k1 k2 => ?_, fun r hr => ?_⟩
  · obtain ⟨q1, q2, q3, q4⟩ := h1 x hx
    refine ⟨by rw [hg _ (by omega)]; exact q1, by rw [hg _ (by omega)]; exact q2, ?_, fun j j1 j2 => by rw [hg _ (by omega)]; exact q4 j j1 j2⟩
    rw [hg _ (by omega)]
    rcases q3 with q3 | ⟨y, y1, y2, y3⟩
    · exact Or.inl q3
    · exact Or.inr ⟨y, y1, y2, by rw [hg _ (by omega)]; exact y3⟩
  · obtain ⟨q1, q2, q3, q4, q5, q6, w, w1, w2, w3, w4⟩ := h2 x hx
    refine ⟨by rw [hg _ (by omega)]; exact q1, by rw [hg _ (by omega)]; exact q2, by rw [hg _ (by omega)]; exact q3, by rw [hg _ (by omega)]; exact q4, ?_, fun j j1 j2 => by rw [hg _ (by omega)]; exact q6 j j1 j2, w, w1, by rw [hg _ (by omega)]; exact w2, fun k hk => by rw [hg _ (by omega)]; exact w3 k hk, fun k j hk hj => by rw [hg _ (by omega), hg (80 + 18 * x + (12 + j)) (by omega)]; exact w4 k j hk hj⟩
    rw [hg _ (by omega)]
    rcases q5 with q5 | ⟨y, y1, y2, y3⟩
    · exact Or.inl q5
    · exact Or.inr ⟨y, y1, y2, by rw [hg _ (by omega)]; exact y3⟩
  · rw [hg _ (by omega)]; exact h3 k k1 k2
  · rw [hg _ (by omega)]; exact h4 k k1 k2
  · rw [hg _ (by omega)]; exact h5 k k1 k2
  · by_cases e : r = r0
    · subst e
      exact n
    · rw [hg _ (by omega)]
      exact h6 r hr
theorem rng {v : Int32} {x y : Nat} (hy : y < 2 ^ 31) (h1 : nI x ≤ v) (h2 : v ≤ nI y) (hx : x < 2 ^ 31) : ∃ k, v = nI k ∧ x ≤ k ∧ k ≤ y := by
  have h0 : ¬ v < 0 := by
    intro h
    have h3 : (nI x).toInt ≤ v.toInt := (fa_le _ _).mp h1
    have h4 : v.toInt < 0 := (fa_lt _ _).mp h
    rw [nI_toInt hx] at h3
    omega
  obtain ⟨j, j1, j2⟩ := nI_of h0
  subst j2
  exact ⟨j, rfl, (nI_leI hx j1).mp h1, (nI_leI j1 hy).mp h2⟩
