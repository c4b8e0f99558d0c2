/-! the class: a cleared state, in words of the row -/
section ClC
variable {I : MI} {b : Nat}
theorem clM_n {x : Nat} (h0 : x ≠ b) (h1 : x ≠ b + 29) (h2 : x ≠ b + 30) (h3 : x ≠ b + 32) : clM I b x = I x := by
  unfold clM
  rw [upI_row2 h0, upI_row2 h0, upI_row2 h0, upI_row2 h0, upI_row2 h3, upI_row2 h2]
  exact if_neg h1
theorem clM_r : clM I b (b + 29) = cpA ruleUntold (I (b + 29)) 6 := by
  unfold clM
  rw [upI_row2 (by omega), upI_row2 (by omega), upI_row2 (by omega), upI_row2 (by omega), upI_row2 (by omega), upI_row2 (by omega)]
  exact if_pos rfl
theorem clM_t {k : Nat} : clM I b (b + 30) k = if k = 2 then 0 else I (b + 30) k := by
  unfold clM
  rw [upI_row2 (by omega), upI_row2 (by omega), upI_row2 (by omega), upI_row2 (by omega), upI_row2 (by omega)]
  by_cases e : k = 2
  · rw [e, upI_s, if_pos rfl]
  · rw [upI_n (Or.inr e), if_neg e]
    exact congrFun (if_neg (by omega)) k
theorem clM_o {k : Nat} : clM I b (b + 32) k = if k = 2 then 0 else I (b + 32) k := by
  unfold clM
  rw [upI_row2 (by omega), upI_row2 (by omega), upI_row2 (by omega), upI_row2 (by omega)]
  by_cases e : k = 2
  · rw [e, upI_s, if_pos rfl]
  · rw [upI_n (Or.inr e), if_neg e, upI_row2 (by omega)]
    exact congrFun (if_neg (by omega)) k
theorem clM_b : clM I b b 5 = 0 ∧ clM I b b 6 = 0 ∧ clM I b b 7 = 0 ∧ clM I b b 8 = 0 := by
  unfold clM
  refine ⟨?_, ?_, ?_, upI_s⟩
  · rw [upI_n (Or.inr (by decide)), upI_n (Or.inr (by decide)), upI_n (Or.inr (by decide)), upI_s]
  · rw [upI_n (Or.inr (by decide)), upI_n (Or.inr (by decide)), upI_s]
  · rw [upI_n (Or.inr (by decide)), upI_s]
theorem clM_ct {L : ML} {R : Nat → Int32} {Q : Nat → Int64} (hF : FxS I b) : CtS (clM I b) L b (mPlain R) Q := by
  obtain ⟨r0, r1, r4, r5⟩ := mPlain_r (f := R)
  have hz : ∀ k, k < 390 → k ≠ 224 → k ≠ 225 → k ≠ 228 → k ≠ 229 → mPlain R k = 0 := fun k h h1 h2 h3 h4 => mPlain_0 h h1 h2 h3 h4
  have n0 : nHo (mPlain R) = 0 := by unfold nHo; rw [hz 230 (by decide) (by decide) (by decide) (by decide) (by decide)]; rfl
  have n1 : nPo (mPlain R) = 0 := by unfold nPo; rw [hz 231 (by decide) (by decide) (by decide) (by decide) (by decide)]; rfl
  have n2 : nLe (mPlain R) = 0 := by unfold nLe; rw [hz 233 (by decide) (by decide) (by decide) (by decide) (by decide)]; rfl
  have n3 : nOf (mPlain R) = 0 := by unfold nOf; rw [hz 299 (by decide) (by decide) (by decide) (by decide) (by decide)]; rfl
  obtain ⟨b5, b6, b7, b8⟩ := clM_b (I := I) (b := b)
  refine ⟨⟨fun i hi => ?_, fun i hi => ?_, ?_, ?_⟩, fun j hj => ?_, fun p hp => ?_, fun k hk => ?_, fun h hh => ?_, fun p hp => ?_⟩
  · rw [clM_n (by omega) (by omega) (by omega) (by omega)]
    exact hF.1 i hi
  · rw [clM_n (by omega) (by omega) (by omega) (by omega)]
    exact hF.2.1 i hi
  · rw [clM_t, if_neg (by decide)]
    exact hF.2.2.1
  · rw [clM_o, if_neg (by decide)]
    exact hF.2.2.2
  · have hc : j = 224 ∨ j = 225 ∨ j = 226 ∨ j = 227 ∨ j = 228 ∨ j = 229 ∨ j = 230 ∨ j = 231 ∨ j = 232 ∨ j = 233 ∨ j = 298 ∨ j = 299 := by
      unfold lvj at hj
      rw [n0, n1, n3] at hj
      omega
    rcases hc with e | e | e | e | e | e | e | e | e | e | e | e
    · subst e
      rw [r0]
      exact (congrFun (clM_r (I := I) (b := b)) 0)
    · subst e
      rw [r1]
      exact (congrFun (clM_r (I := I) (b := b)) 1)
    · subst e
      rw [hz 226 (by decide) (by decide) (by decide) (by decide) (by decide)]
      exact (congrFun (clM_r (I := I) (b := b)) 2)
    · subst e
      rw [hz 227 (by decide) (by decide) (by decide) (by decide) (by decide)]
      exact (congrFun (clM_r (I := I) (b := b)) 3)
    · subst e
      rw [r4]
      exact (congrFun (clM_r (I := I) (b := b)) 4)
    · subst e
      rw [r5]
      exact (congrFun (clM_r (I := I) (b := b)) 5)
    · subst e
      rw [hz 230 (by decide) (by decide) (by decide) (by decide) (by decide)]
      exact b5
    · subst e
      rw [hz 231 (by decide) (by decide) (by decide) (by decide) (by decide)]
      exact b6
    · subst e
      rw [hz 232 (by decide) (by decide) (by decide) (by decide) (by decide)]
      exact b7
    · subst e
      rw [hz 233 (by decide) (by decide) (by decide) (by decide) (by decide)]
      exact clM_t (k := 2)
    · subst e
      rw [hz 298 (by decide) (by decide) (by decide) (by decide) (by decide)]
      exact b8
    · subst e
      rw [hz 299 (by decide) (by decide) (by decide) (by decide) (by decide)]
      exact clM_o (k := 2)
  · rw [n1] at hp
    exact absurd hp (Nat.not_lt_zero p)
  · rw [n2] at hk
    exact absurd hk (Nat.not_lt_zero k)
  · rw [n0] at hh
    exact absurd hh (Nat.not_lt_zero h)
  · rw [n1] at hp
    exact absurd hp (Nat.not_lt_zero p)
end ClC
