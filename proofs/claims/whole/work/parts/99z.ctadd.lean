/-! the class: a state with a home more, in words of the row -/
theorem ct_home {I J : MI} {L M : ML} {b c : Nat} {R R2 : Nat → Int32} {Q Q2 : Nat → Int64} (hC : CtS I L b R Q) (hN : Cn R) (hc : nHo R = c) (hc9 : c < 10) (hL : nLe R = 0)
    (e0 : R2 230 = nI (c + 1)) (e1 : ∀ j, j ≠ 230 → (j < 8 * c ∨ 8 * c + 8 ≤ j) → R2 j = R j) (q1 : ∀ i, i ≠ c → Q2 i = Q i) (q2 : M (b + 2 + c) 2 = Q2 c)
    (j1 : ∀ x, x ≠ b → x ≠ b + 2 + c → J x = I x) (j2 : ∀ f, f ≠ 5 → J b f = I b f) (j3 : J b 5 = nI (c + 1)) (j4 : ∀ w, w < 8 → J (b + 2 + c) (hK w) = R2 (8 * c + w)) (j5 : J (b + 2 + c) 0 = I (b + 2 + c) 0 ∧ J (b + 2 + c) 1 = I (b + 2 + c) 1 ∧ z01 (J (b + 2 + c) 6) ∧ z01 (J (b + 2 + c) 7)) (m1 : ∀ x, x ≠ b + 2 + c → M x = L x) : CtS J M b R2 Q2 := by
  have h8 := hN.p8
  have n0 : nHo R2 = c + 1 := by unfold nHo; rw [e0]; exact nI_clamp (by omega)
  have n1 : nPo R2 = nPo R := by unfold nPo; rw [e1 231 (by decide) (by omega)]
  have n2 : nLe R2 = 0 := by rw [← hL]; unfold nLe; rw [e1 233 (by decide) (by omega)]
  have n3 : nOf R2 = nOf R := by unfold nOf; rw [e1 299 (by decide) (by omega)]
  have n4 : ∀ p, nWi R2 p = nWi R p := fun p => by unfold nWi; rw [e1 _ (by omega) (by omega)]
  obtain ⟨⟨f1, f2, f3, f4⟩, g1, g2, g3, g4, g5⟩ := hC
  refine ⟨⟨fun i hi => ?_, fun i hi => ?_, ?_, ?_⟩, fun j hj => ?_, fun p hp => ?_, fun k hk => ?_, fun h hh => ?_, fun p hp => ?_⟩
  · by_cases e : i = c
    · subst e
      obtain ⟨a1, a2, a3, a4⟩ := f1 i hi
      obtain ⟨c1, c2, c3, c4⟩ := j5
      exact ⟨c1.trans a1, c2.trans a2, c3, c4⟩
    · rw [j1 _ (by omega) (by omega)]
      exact f1 i hi
  · rw [j1 _ (by omega) (by omega)]
    exact f2 i hi
  · rw [j1 _ (by omega) (by omega)]
    exact f3
  · rw [j1 _ (by omega) (by omega)]
    exact f4
  · by_cases e : 8 * c ≤ j ∧ j < 8 * c + 8
    · have ej : j = 8 * c + (j - 8 * c) := by omega
      have hw : j - 8 * c < 8 := by omega
      generalize j - 8 * c = w at ej hw
      subst ej
      rw [oA_h hc9 hw, oK_h hc9 hw, ← Nat.add_assoc]
      exact j4 w hw
    · have hlv : j ≠ 230 → lvj R j := fun h230 => by
        unfold lvj at hj ⊢
        rw [n0, n1, n3, n4] at hj
        rw [hc]
        omega
      by_cases h230 : j = 230
      · subst h230
        rw [e0]
        exact j3
      · rw [e1 j h230 (by omega), ← g1 j (hlv h230)]
        by_cases hb : oA j = 0
        · rw [hb]
          refine j2 _ (fun z => ?_)
          have := hlv h230
          unfold lvj at this
          unfold oA at hb
          unfold oK at z
          have hj8 : ¬ j < 80 := fun w => by rw [if_pos w] at hb; omega
          rw [if_neg hj8] at hb z
          have hj9 : ¬ j < 224 := fun w => by rw [if_pos w] at hb; split at hb <;> omega
          rw [if_neg hj9] at hb z
          have hj10 : ¬ j < 230 := fun w => by rw [if_pos w] at hb; omega
          rw [if_neg hj10] at hb z
          rw [if_neg h230] at z
          have hj11 : ¬ 300 ≤ j := fun w => by
            rw [if_neg (by omega), if_neg (by omega), if_pos w] at hb
            omega
          rw [if_neg hj11] at z
          split at z
          · omega
          · split at z
            · omega
            · split at z <;> omega
        · refine congrFun (j1 _ (by omega) (fun z => ?_)) _
          have hoc : oA j = 2 + c := by omega
          have := hlv h230
          unfold lvj at this
          unfold oA at hoc
          by_cases w1 : j < 80
          · rw [if_pos w1] at hoc
            omega
          · rw [if_neg w1] at hoc
            by_cases w2 : j < 224
            · rw [if_pos w2] at hoc
              split at hoc <;> omega
            · rw [if_neg w2] at hoc
              split at hoc
              · omega
              · split at hoc
                · omega
                · split at hoc
                  · omega
                  · split at hoc <;> omega
  · rw [n1] at hp
    rw [j1 _ (by omega) (by omega), e1 _ (by omega) (by omega), e1 _ (by omega) (by omega)]
    exact g2 p hp
  · rw [n2] at hk
    exact absurd hk (Nat.not_lt_zero k)
  · rw [n0] at hh
    by_cases e : h = c
    · rw [e]; exact q2
    · rw [m1 _ (by omega), q1 h e]
      exact g4 h (by omega)
  · rw [n1] at hp
    rw [m1 _ (by omega), q1 _ (by omega)]
    exact g5 p hp
