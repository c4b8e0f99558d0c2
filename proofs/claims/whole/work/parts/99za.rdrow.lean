/-! the class's reader: rows that are read, and what they keep to -/
theorem PG.cn {R : Nat → Int32} (hc : PcO R) (h : PG R (cH R) (cP R)) : Cn R := by
  obtain ⟨⟨ha, hb⟩, h1, h2, h3, h4, h5, h6⟩ := h
  have e233 := h5 233 (by decide) (by decide)
  have e299 := h5 299 (by decide) (by decide)
  have l0 : nLe R = 0 := by unfold nLe; rw [e233]; rfl
  have o0 : nOf R = 0 := by unfold nOf; rw [e299]; rfl
  refine ⟨⟨hc.1, ha⟩, ⟨hc.2.2.1, hb⟩, ⟨by rw [l0]; exact e233, by omega⟩, ⟨by rw [o0]; exact e299, by omega⟩, fun e => ?_, fun p hp => ?_, fun i hi => ?_, fun k hk => by omega⟩
  · have q : rLeast 4 ≤ R 228 := (h6 4 (by decide)).1
    rw [e] at q
    exact absurd q (by decide)
  · by_cases hpb : p < cP R
    · obtain ⟨q1, q2, q3, q4, q5, q6, w, w1, w2, w3, w4⟩ := h2 p hpb
      have ew : nWi R p = w := by unfold nWi; rw [w2]; exact nI_clamp (by omega)
      have eb : nBi R p = 0 := by unfold nBi; rw [q6 10 (by decide) (by decide)]; rfl
      refine ⟨⟨by rw [ew]; exact w2, by omega⟩, ⟨by rw [eb]; exact q6 10 (by decide) (by decide), by omega⟩, ?_, fun k hk => ?_⟩
      · rcases q5 with q | ⟨y, y1, y2, y3⟩
        · exact Or.inl q
        · exact Or.inr ⟨y, by omega, y2⟩
      · obtain ⟨y, y1, y2⟩ := w3 k (by omega)
        exact ⟨y, by omega, y2⟩
    · have z : ∀ j, j < 18 → R (80 + 18 * p + j) = 0 := fun j hj => h4 _ (by omega) (by omega)
      have ew : nWi R p = 0 := by unfold nWi; rw [z 11 (by decide)]; rfl
      have eb : nBi R p = 0 := by unfold nBi; rw [z 10 (by decide)]; rfl
      exact ⟨⟨by rw [ew]; exact z 11 (by decide), by omega⟩, ⟨by rw [eb]; exact z 10 (by decide), by omega⟩, Or.inr ⟨0, by decide, z 4 (by decide)⟩, fun k hk => by omega⟩
  · by_cases hh : i < cH R
    · rcases (h1 i hh).2.2.1 with q | ⟨y, y1, y2, y3⟩
      · exact Or.inl q
      · exact Or.inr ⟨y, by omega, y2⟩
    · exact Or.inr ⟨0, by decide, h3 _ (by omega) (by omega)⟩
theorem PG.iv {R : Nat → Int32} (hc : PcO R) (h : PG R (cH R) (cP R)) : Iv R := by
  have hN := PG.cn hc h
  obtain ⟨⟨ha, hb⟩, h1, h2, h3, h4, h5, h6⟩ := h
  have e233 := h5 233 (by decide) (by decide)
  have l0 : nLe R = 0 := by unfold nLe; rw [e233]; rfl
  refine ⟨hN, by unfold Lo; rw [l0]; exact Nat.zero_le _, ⟨fun p hp => ?_, fun i hi => ?_, ⟨0, h5 232 (by decide) (by decide), by decide, by decide⟩, h6⟩, fun p hp => ?_, fun k hk => by omega, ⟨fun p hp => ?_, fun i hi => ?_, fun p hp k hk => ?_⟩⟩
  · obtain ⟨q1, q2, q3, q4, -⟩ := h2 p hp
    obtain ⟨v3, a3, b3⟩ := q3
    obtain ⟨v4, a4, b4⟩ := q4
    exact ⟨q1, q2, ⟨v3, a3, Nat.zero_le _, b3⟩, ⟨v4, a4, Nat.zero_le _, b4⟩⟩
  · obtain ⟨q1, ⟨v3, a3, b3⟩, -⟩ := h1 i hi
    exact ⟨q1, ⟨v3, a3, Nat.zero_le _, b3⟩⟩
  · obtain ⟨-, -, -, -, -, q6, -⟩ := h2 p hp
    exact ⟨0, 0, by decide, by decide, q6 6 (by decide) (by decide), q6 7 (by decide) (by decide), fun z => absurd z (by decide)⟩
  · exact (h2 p hp).2.2.2.2.1
  · exact (h1 i hi).2.2.1
  · obtain ⟨-, -, -, -, -, -, w, w1, w2, w3, w4⟩ := h2 p hp
    have ew : nWi R p = w := by unfold nWi; rw [w2]; exact nI_clamp (by omega)
    exact w3 k (by omega)
/-- what else holds of a row that was read -/
theorem PG.more {R : Nat → Int32} (h : PG R (cH R) (cP R)) : BdO R ∧ NwO R ∧ BsO R ∧ BhO R ∧ OuL R := by
  obtain ⟨⟨ha, hb⟩, h1, h2, h3, h4, h5, h6⟩ := h
  have e233 := h5 233 (by decide) (by decide)
  have l0 : nLe R = 0 := by unfold nLe; rw [e233]; rfl
  have z : ∀ p, p < nPo R → ∀ j, 5 ≤ j → j ≤ 10 → R (80 + 18 * p + j) = 0 := fun p hp => (h2 p hp).2.2.2.2.2.1
  have eb : ∀ p, p < nPo R → nBi R p = 0 := fun p hp => by unfold nBi; rw [z p hp 10 (by decide) (by decide)]; rfl
  refine ⟨fun p hp _ => z p hp 10 (by decide) (by decide), fun p hp => z p hp 7 (by decide) (by decide), fun p hp i hi _ => ?_, fun p hp => ?_, fun r hr => by omega⟩
  · rw [eb p hp]
    exact Nat.zero_testBit i
  · rw [eb p hp]
    exact Nat.two_pow_pos _
section Cs0
variable {I : MI} {L : ML} {b j : Nat} {N : Nat → Int32} {Q : Nat → Int64} {v : Int32}
/-- a number put where nothing is let yet -/
theorem CtS.put0 (c : CtS I L b N Q) (hN : Cn N) (hL : nLe N = 0) (j0 : j < 224) (j1 : lvs j = true) (j8 : ∀ p, p < 8 → j ≠ 80 + 18 * p + 6 ∧ j ≠ 80 + 18 * p + 7 ∧ j ≠ 80 + 18 * p + 11) (hz : blj j = true → z01 v) : CtS (upI I (b + oA j) (oK j) v) L b (upd N j v) Q := by
  obtain ⟨f1, f2, f3, f4, f5, f6, f7, f8, f9, f10⟩ := oF j (by omega) j1
  have h8 := hN.p8
  have eH : nHo (upd N j v) = nHo N := by unfold nHo; rw [upd_ne (by omega)]
  have eP : nPo (upd N j v) = nPo N := by unfold nPo; rw [upd_ne (by omega)]
  have eL : nLe (upd N j v) = nLe N := by unfold nLe; rw [upd_ne (by omega)]
  refine ⟨c.1.put (by omega) j1 hz, fun i hi => ?_, fun p hp => ?_, fun k hk => ?_, fun h hh => ?_, fun p hp => ?_⟩
  · have hi := lvj_cong (N := N) (upd_ne (by omega)) (upd_ne (by omega)) (upd_ne (by omega)) (fun p hp => upd_ne (by have := (j8 p hp).2.2; omega)) hi
    by_cases e : i = j
    · subst e
      rw [upI_s, upd_eq]
    · rw [upd_ne e, upI_n, c.2.1 i hi]
      by_cases ea : oA i = oA j
      · refine Or.inr (fun ek => e ?_)
        have := lvj_s hN hi
        exact oA_inj this.1 (by omega) this.2 j1 ea ek
      · exact Or.inl (by omega)
  · rw [eP] at hp
    obtain ⟨q6, q7, -⟩ := j8 p (by omega)
    rw [upd_ne (by omega), upd_ne (by omega), upI_n, c.br hp]
    by_cases ea : oA j = 13 + 2 * p
    · exact Or.inr (by have := (f2 (by omega) (by omega) (by omega)).2; omega)
    · exact Or.inl (by omega)
  · rw [eL, hL] at hk
    exact absurd hk (Nat.not_lt_zero k)
  · rw [eH] at hh
    exact c.qh hh
  · rw [eP] at hp
    exact c.qp hp
theorem lvs_h : ∀ h, h < 10 → ∀ w, w < 8 → lvs (8 * h + w) = true := by decide +kernel
theorem lvs_p : ∀ p, p < 8 → ∀ w, w < 12 → w ≠ 6 → w ≠ 7 → lvs (80 + 18 * p + w) = true := by decide +kernel
theorem blj_h : ∀ h, h < 10 → ∀ w, w < 3 → blj (8 * h + w) = false := by decide +kernel
theorem blj_p : ∀ p, p < 8 → ∀ w, w < 5 → blj (80 + 18 * p + w) = false := by decide +kernel
theorem CtS.put0h (c : CtS I L b N Q) (hN : Cn N) (hL : nLe N = 0) {h w : Nat} (hh : h < 10) (hw : w < 3) : CtS (upI I (b + 2 + h) (hK w) v) L b (upd N (8 * h + w) v) Q := by
  have := c.put0 (v := v) hN hL (j := 8 * h + w) (by omega) (lvs_h h hh w (by omega)) (fun p hp => ⟨by omega, by omega, by omega⟩) (fun z => by rw [blj_h h hh w hw] at z; cases z)
  rw [oA_h hh (by omega), oK_h hh (by omega), ← Nat.add_assoc] at this
  exact this
theorem CtS.put0p (c : CtS I L b N Q) (hN : Cn N) (hL : nLe N = 0) {p w : Nat} (hp : p < 8) (hw : w < 5) : CtS (upI I (b + 13 + 2 * p) (sK w) v) L b (upd N (80 + 18 * p + w) v) Q := by
  have := c.put0 (v := v) hN hL (j := 80 + 18 * p + w) (by omega) (lvs_p p hp w (by omega) (by omega) (by omega)) (fun p hp => ⟨by omega, by omega, by omega⟩) (fun z => by rw [blj_p p hp w hw] at z; cases z)
  rw [oA_p hp (by omega), oK_p hp (by omega), ← Nat.add_assoc] at this
  exact this
end Cs0
/-- a house more -/
theorem ct_house {I J : MI} {L M : ML} {b c : Nat} {R R2 : Nat → Int32} {Q Q2 : Nat → Int64} (hC : CtS I L b R Q) (hN : Cn R) (hc : nPo R = c) (hc8 : c < 8) (hL : nLe R = 0)
    (e0 : R2 231 = nI (c + 1)) (e1 : ∀ j, j ≠ 231 → (j < 80 + 18 * c ∨ 80 + 18 * c + 18 ≤ j) → R2 j = R j) (e2 : R2 (80 + 18 * c + 11) = 0) (e3 : R2 (80 + 18 * c + 6) = 0 ∧ R2 (80 + 18 * c + 7) = 0) (q1 : ∀ i, i ≠ 10 + c → Q2 i = Q i) (q2 : M (b + 13 + 2 * c) 4 = Q2 (10 + c))
    (j1 : ∀ x, x ≠ b → x ≠ b + 13 + 2 * c → J x = I x) (j2 : ∀ f, f ≠ 6 → J b f = I b f) (j3 : J b 6 = nI (c + 1)) (j4 : ∀ w, w < 12 → w ≠ 6 → w ≠ 7 → J (b + 13 + 2 * c) (sK w) = R2 (80 + 18 * c + w)) (j6 : J (b + 13 + 2 * c) 11 = 0) (j5 : J (b + 13 + 2 * c) 0 = I (b + 13 + 2 * c) 0 ∧ J (b + 13 + 2 * c) 1 = I (b + 13 + 2 * c) 1 ∧ z01 (J (b + 13 + 2 * c) 12)) (m1 : ∀ x, x ≠ b + 13 + 2 * c → M x = L x) : CtS J M b R2 Q2 := by
  have h10 := hN.h10
  have n0 : nPo R2 = c + 1 := by unfold nPo; rw [e0]; exact nI_clamp (by omega)
  have n1 : nHo R2 = nHo R := by unfold nHo; rw [e1 230 (by decide) (by omega)]
  have n2 : nLe R2 = 0 := by rw [← hL]; unfold nLe; rw [e1 233 (by decide) (by omega)]
  have n3 : nOf R2 = nOf R := by unfold nOf; rw [e1 299 (by decide) (by omega)]
  have n4 : ∀ p, p < c → nWi R2 p = nWi R p := fun p hp => by unfold nWi; rw [e1 _ (by omega) (by omega)]
  have n5 : nWi R2 c = 0 := by unfold nWi; rw [e2]; rfl
  obtain ⟨⟨f1, f2, f3, f4⟩, g1, g2, g3, g4, g5⟩ := hC
  refine ⟨⟨fun i hi => ?_, fun i hi => ?_, ?_, ?_⟩, fun j hj => ?_, fun p hp => ?_, fun k hk => ?_, fun h hh => ?_, fun p hp => ?_⟩
  · rw [j1 _ (by omega) (by omega)]
    exact f1 i hi
  · by_cases e : i = c
    · subst e
      obtain ⟨a1, a2, a3⟩ := f2 i hi
      obtain ⟨c1, c2, c3⟩ := j5
      exact ⟨c1.trans a1, c2.trans a2, c3⟩
    · rw [j1 _ (by omega) (by omega)]
      exact f2 i hi
  · rw [j1 _ (by omega) (by omega)]
    exact f3
  · rw [j1 _ (by omega) (by omega)]
    exact f4
  · by_cases e : 80 + 18 * c ≤ j ∧ j < 80 + 18 * c + 18
    · have ej : j = 80 + 18 * c + (j - (80 + 18 * c)) := by omega
      have hw : j - (80 + 18 * c) < 18 := by omega
      generalize j - (80 + 18 * c) = w at ej hw
      subst ej
      have hd : (80 + 18 * c + w - 80) / 18 = c := by omega
      have hm : (80 + 18 * c + w - 80) % 18 = w := by omega
      have hw3 : w ≠ 6 ∧ w ≠ 7 ∧ w < 12 := by
        unfold lvj at hj
        rw [hd, hm, n5] at hj
        omega
      rw [oA_p hc8 hw3.2.2, oK_p hc8 hw3.2.2, ← Nat.add_assoc]
      exact j4 w hw3.2.2 hw3.1 hw3.2.1
    · by_cases h231 : j = 231
      · subst h231
        rw [e0]
        exact j3
      · have hlv : lvj R j := by
          unfold lvj at hj ⊢
          rw [n0, n1, n3] at hj
          rw [hc]
          rcases hj with hj | ⟨t1, t2, t3, t4, t5, t6⟩ | hj
          · exact Or.inl hj
          · have tq : (j - 80) / 18 < c := by omega
            rw [n4 _ tq] at t6
            exact Or.inr (Or.inl ⟨t1, t2, tq, t4, t5, t6⟩)
          · exact Or.inr (Or.inr hj)
        rw [e1 j h231 (by omega), ← g1 j hlv]
        have hlv2 := hlv
        unfold lvj at hlv2
        by_cases hb : oA j = 0
        · rw [hb]
          refine j2 _ (fun z => ?_)
          unfold oA at hb
          unfold oK at z
          have hj8 : ¬ j < 80 := fun w => by rw [if_pos w] at hb; omega
          rw [if_neg hj8] at hb z
          have hj9 : ¬ j < 224 := fun w => by rw [if_pos w] at hb; split at hb <;> omega
          rw [if_neg hj9] at hb z
          have hj10 : ¬ j < 230 := fun w => by rw [if_pos w] at hb; omega
          rw [if_neg hj10] at hb z
          rw [if_neg h231] at z
          have hj11 : ¬ 300 ≤ j := fun w => by
            rw [if_neg (by omega), if_neg (by omega), if_pos w] at hb
            omega
          rw [if_neg hj11] at z
          split at z
          · omega
          · split at z
            · omega
            · split at z <;> omega
        · refine congrFun (j1 _ (by omega) (fun z => ?_)) _
          have hoc : oA j = 13 + 2 * c := by omega
          unfold oA at hoc
          by_cases w1 : j < 80
          · rw [if_pos w1] at hoc
            omega
          · rw [if_neg w1] at hoc
            by_cases w2 : j < 224
            · rw [if_pos w2] at hoc
              split at hoc <;> omega
            · rw [if_neg w2] at hoc
              split at hoc
              · omega
              · split at hoc
                · omega
                · split at hoc
                  · omega
                  · split at hoc <;> omega
  · rw [n0] at hp
    by_cases e : p = c
    · subst e
      rw [j6, e3.1, e3.2]
      rfl
    · rw [j1 _ (by omega) (by omega), e1 _ (by omega) (by omega), e1 _ (by omega) (by omega)]
      exact g2 p (by omega)
  · rw [n2] at hk
    exact absurd hk (Nat.not_lt_zero k)
  · rw [n1] at hh
    rw [m1 _ (by omega), q1 h (by omega)]
    exact g4 h hh
  · rw [n0] at hp
    by_cases e : p = c
    · rw [e]; exact q2
    · rw [m1 _ (by omega), q1 _ (by omega)]
      exact g5 p (by omega)
