/-! the class: what a write does to the picture of a state -/
theorem upI_rd {I : MI} {a k c j : Nat} {v : Int32} : upI I a k v c j = if c = a ∧ j = k then v else I c j := by
  unfold upI
  by_cases h : c = a
  · subst h
    rw [if_pos rfl]
    unfold upd
    by_cases h2 : j = k
    · rw [if_pos h2, if_pos ⟨rfl, h2⟩]
    · rw [if_neg h2, if_neg (fun q => h2 q.2)]
  · rw [if_neg h, if_neg (fun q => h q.1)]
theorem upI_n {I : MI} {a k c j : Nat} {v : Int32} (h : c ≠ a ∨ j ≠ k) : upI I a k v c j = I c j := by
  rw [upI_rd, if_neg (fun q => by rcases h with h | h; exact h q.1; exact h q.2)]
theorem upI_s {I : MI} {a k : Nat} {v : Int32} : upI I a k v a k = v := by
  rw [upI_rd, if_pos ⟨rfl, rfl⟩]
def Fr (b : Nat) (I J : MI) : Prop := ∀ a, (a < b ∨ b + 34 ≤ a) → J a = I a
theorem Fr.rf {b : Nat} {I : MI} : Fr b I I := fun _ _ => rfl
theorem Fr.put {b a k : Nat} {I J : MI} {v : Int32} (h : Fr b I J) (ha : b ≤ a ∧ a < b + 34) : Fr b I (upI J a k v) := fun c hc => (if_neg (by omega)).trans (h c hc)
theorem Fr.tr {b : Nat} {I J K : MI} (h : Fr b I J) (h2 : Fr b J K) : Fr b I K := fun c hc => (h2 c hc).trans (h c hc)
def Mut (r : Option Value) (b : Nat) (N : Nat → Int32) (Q : Nat → Int64) (z n : Nat) (sh : Shp) (I : MI) (L : ML) : PoT := fun v z' n' sh' J M => v = r ∧ z' = z ∧ n' = n ∧ sh' = sh ∧ M = L ∧ Fr b I J ∧ CtS J L b N Q
/-- places that stand by themselves -/
def lvs (j : Nat) : Bool := decide (j < 80) || (decide (80 ≤ j) && decide (j < 224) && !decide ((j - 80) % 18 = 6) && !decide ((j - 80) % 18 = 7)) || (decide (224 ≤ j) && decide (j < 234)) || (decide (298 ≤ j) && decide (j < 390))
def hI (k : Nat) : Nat := match k with
  | 3 => 0
  | 4 => 1
  | 5 => 2
  | 6 => 3
  | 8 => 4
  | 10 => 5
  | 7 => 6
  | _ => 7
def sI (k : Nat) : Nat := match k with
  | 5 => 0
  | 6 => 1
  | 7 => 2
  | 8 => 3
  | 9 => 4
  | 10 => 5
  | 12 => 8
  | 14 => 9
  | 13 => 10
  | _ => 11
def ivJ (a k : Nat) : Nat := if a = 0 then (if k = 8 then 298 else 225 + k) else if a < 13 then 8 * (a - 2) + hI k else if a < 29 then (if a % 2 = 1 then 80 + 18 * ((a - 13) / 2) + sI k else 80 + 18 * ((a - 14) / 2) + 12 + k) else if a = 29 then 224 + k else if a = 30 then 233 else if a = 32 then 299 else 300 + k
theorem ivJ_ok : ∀ j, j < 390 → lvs j = true → ivJ (oA j) (oK j) = j := by decide +kernel
theorem oA_inj {i j : Nat} (hi : i < 390) (hj : j < 390) (li : lvs i = true) (lj : lvs j = true) (ha : oA i = oA j) (hk : oK i = oK j) : i = j := by
  rw [← ivJ_ok i hi li, ← ivJ_ok j hj lj, ha, hk]
/-- fields that are either 0 or 1 -/
def blj (j : Nat) : Bool := (decide (j < 80) && (decide (j % 8 = 3) || decide (j % 8 = 6))) || (decide (80 ≤ j) && decide (j < 224) && decide ((j - 80) % 18 = 8))
theorem oF1 : ∀ j, j < 390 → lvs j = true → (2 ≤ oA j ∧ oA j < 12 → 3 ≤ oK j) ∧ (13 ≤ oA j ∧ oA j < 29 ∧ oA j % 2 = 1 → 3 ≤ oK j ∧ oK j ≠ 11) ∧ (oA j = 30 → oK j = 2) ∧ (oA j = 32 → oK j = 2) := by decide +kernel
theorem oF2 : ∀ j, j < 390 → lvs j = true → oA j ≠ 31 ∧ oA j ≠ 1 ∧ oA j ≠ 12 ∧ oA j < 34 := by decide +kernel
theorem oF3 : ∀ j, j < 390 → lvs j = true → (2 ≤ oA j ∧ oA j < 12 ∧ (oK j = 6 ∨ oK j = 7) → blj j = true) ∧ (13 ≤ oA j ∧ oA j < 29 ∧ oA j % 2 = 1 ∧ oK j = 12 → blj j = true) := by decide +kernel
theorem oF (j : Nat) (hj : j < 390) (lj : lvs j = true) : (2 ≤ oA j → oA j < 12 → 3 ≤ oK j) ∧ (13 ≤ oA j → oA j < 29 → oA j % 2 = 1 → 3 ≤ oK j ∧ oK j ≠ 11) ∧ (oA j = 30 → oK j = 2) ∧ (oA j = 32 → oK j = 2) ∧ oA j ≠ 31 ∧ oA j ≠ 1 ∧ oA j ≠ 12 ∧ oA j < 34 ∧
    (2 ≤ oA j → oA j < 12 → (oK j = 6 ∨ oK j = 7) → blj j = true) ∧ (13 ≤ oA j → oA j < 29 → oA j % 2 = 1 → oK j = 12 → blj j = true) := by
  obtain ⟨a1, a2, a3, a4⟩ := oF1 j hj lj
  obtain ⟨b1, b2, b3, b4⟩ := oF2 j hj lj
  obtain ⟨c1, c2⟩ := oF3 j hj lj
  exact ⟨fun x y => a1 ⟨x, y⟩, fun x y z => a2 ⟨x, y, z⟩, a3, a4, b1, b2, b3, b4, fun x y z => c1 ⟨x, y, z⟩, fun x y z w => c2 ⟨x, y, z, w⟩⟩
theorem lvj_s {N : Nat → Int32} (hN : Cn N) {j : Nat} (h : lvj N j) : j < 390 ∧ lvs j = true := by
  have h1 := hN.h10
  have h2 := hN.p8
  have h3 := hN.o30
  unfold lvs
  rcases h with h | h | h | h | h | h
  · refine ⟨by omega, ?_⟩
    simp [h.1]
  · refine ⟨by omega, ?_⟩
    simp [h.1, h.2.1, h.2.2.2.1, h.2.2.2.2.1]
  · refine ⟨by omega, ?_⟩
    simp [h.1, h.2]
  · subst h
    exact ⟨by omega, by decide⟩
  · subst h
    exact ⟨by omega, by decide⟩
  · refine ⟨by omega, ?_⟩
    have : 298 ≤ j := by omega
    have h4 : j < 390 := by omega
    simp [this, h4]
theorem FxS.put {I : MI} {b j : Nat} {v : Int32} (h : FxS I b) (hj : j < 390) (lj : lvs j = true) (hz : blj j = true → z01 v) : FxS (upI I (b + oA j) (oK j) v) b := by
  obtain ⟨f1, f2, f3, f4, f5, f6, f7, f8, f9, f10⟩ := oF j hj lj
  refine ⟨fun i hi => ?_, fun i hi => ?_, ?_, ?_⟩
  · obtain ⟨a1, a2, a3, a4⟩ := h.1 i hi
    refine ⟨?_, ?_, ?_, ?_⟩
    · rw [upI_n (by by_cases e : oA j = 2 + i; exact Or.inr (by have := f1 (by omega) (by omega); omega); exact Or.inl (by omega))]; exact a1
    · rw [upI_n (by by_cases e : oA j = 2 + i; exact Or.inr (by have := f1 (by omega) (by omega); omega); exact Or.inl (by omega))]; exact a2
    · rw [upI_rd]
      split
      · rename_i e
        exact hz (f9 (by omega) (by omega) (by omega))
      · exact a3
    · rw [upI_rd]
      split
      · rename_i e
        exact hz (f9 (by omega) (by omega) (by omega))
      · exact a4
  · obtain ⟨a1, a2, a3⟩ := h.2.1 i hi
    refine ⟨?_, ?_, ?_⟩
    · rw [upI_n (by by_cases e : oA j = 13 + 2 * i; exact Or.inr (by have := f2 (by omega) (by omega) (by omega); omega); exact Or.inl (by omega))]; exact a1
    · rw [upI_n (by by_cases e : oA j = 13 + 2 * i; exact Or.inr (by have := f2 (by omega) (by omega) (by omega); omega); exact Or.inl (by omega))]; exact a2
    · rw [upI_rd]
      split
      · rename_i e
        exact hz (f10 (by omega) (by omega) (by omega) (by omega))
      · exact a3
  · rw [upI_n (by by_cases e : oA j = 30; exact Or.inr (by have := f3 e; omega); exact Or.inl (by omega))]; exact h.2.2.1
  · rw [upI_n (by by_cases e : oA j = 32; exact Or.inr (by have := f4 e; omega); exact Or.inl (by omega))]; exact h.2.2.2
/-- a place that nothing else hangs on -/
def plj (j : Nat) : Bool := (decide (j < 80) && !decide (j % 8 = 1)) || (decide (80 ≤ j) && decide (j < 224) && !decide ((j - 80) % 18 = 2) && !decide ((j - 80) % 18 = 6) && !decide ((j - 80) % 18 = 7) && !decide ((j - 80) % 18 = 11)) || (decide (224 ≤ j) && decide (j < 230)) || decide (j = 232) || decide (j = 298) || (decide (300 ≤ j) && decide (j < 390))
theorem plj_ok {j : Nat} (h : plj j = true) : j < 390 ∧ lvs j = true ∧ j ≠ 230 ∧ j ≠ 231 ∧ j ≠ 233 ∧ j ≠ 299 ∧ (j < 234 ∨ 298 ≤ j) ∧ (∀ i, i < 10 → j ≠ 8 * i + 1) ∧ ∀ p, p < 8 → j ≠ 80 + 18 * p + 2 ∧ j ≠ 80 + 18 * p + 6 ∧ j ≠ 80 + 18 * p + 7 ∧ j ≠ 80 + 18 * p + 11 := by
  unfold plj at h
  simp only [Bool.or_eq_true, Bool.and_eq_true, decide_eq_true_eq, Bool.not_eq_true', decide_eq_false_iff_not] at h
  refine ⟨by omega, ?_, by omega, by omega, by omega, by omega, by omega, fun i hi => by omega, fun p hp => ⟨by omega, by omega, by omega, by omega⟩⟩
  unfold lvs
  simp only [Bool.or_eq_true, Bool.and_eq_true, decide_eq_true_eq, Bool.not_eq_true', decide_eq_false_iff_not]
  omega
theorem lvj_cong {N M : Nat → Int32} (h0 : M 230 = N 230) (h1 : M 231 = N 231) (h2 : M 299 = N 299) (hw : ∀ p, p < 8 → M (80 + 18 * p + 11) = N (80 + 18 * p + 11)) {j : Nat} (h : lvj M j) : lvj N j := by
  have eH : nHo M = nHo N := by unfold nHo; rw [h0]
  have eP : nPo M = nPo N := by unfold nPo; rw [h1]
  have eO : nOf M = nOf N := by unfold nOf; rw [h2]
  unfold lvj at h ⊢
  rw [eH, eP, eO] at h
  rcases h with h | h | h | h | h | h
  · exact Or.inl h
  · refine Or.inr (Or.inl ⟨h.1, h.2.1, h.2.2.1, h.2.2.2.1, h.2.2.2.2.1, ?_⟩)
    have e : nWi M ((j - 80) / 18) = nWi N ((j - 80) / 18) := by unfold nWi; rw [hw _ (by omega)]
    rw [← e]
    exact h.2.2.2.2.2
  · exact Or.inr (Or.inr (Or.inl h))
  · exact Or.inr (Or.inr (Or.inr (Or.inl h)))
  · exact Or.inr (Or.inr (Or.inr (Or.inr (Or.inl h))))
  · exact Or.inr (Or.inr (Or.inr (Or.inr (Or.inr h))))
theorem LtO.cong {I J : MI} {b : Nat} {N M : Nat → Int32} {k : Nat} (h : LtO I b N k) (hJ : J (b + 31) = I (b + 31)) (hw : ∀ w, w < 8 → M (234 + 8 * k + w) = N (234 + 8 * k + w)) (ht : M (80 + 18 * lPo N k + 2) = N (80 + 18 * lPo N k + 2)) (hd : M (8 * lHo N k + 1) = N (8 * lHo N k + 1)) : LtO J b M k := by
  have eP : lPo M k = lPo N k := by unfold lPo; rw [hw 0 (by decide)]
  have eH : lHo M k = lHo N k := by unfold lHo; rw [hw 1 (by decide)]
  obtain ⟨a1, a2, a3, a4, a5⟩ := h
  refine ⟨fun w hw8 h5 => by rw [hJ, hw w hw8]; exact a1 w hw8 h5, by rw [hJ, hw 5 (by decide)]; exact a2, by rw [hJ, hw 5 (by decide)]; exact a3, by rw [hJ, eP, eH, ht, hd]; exact a4, by rw [hJ, eH, hd]; exact a5⟩
theorem lPo_lt {N : Nat → Int32} (hN : Cn N) {k : Nat} (hk : k < nLe N) : lPo N k < 8 := by
  obtain ⟨j, hj, e⟩ := hN.lp hk
  unfold lPo
  rw [e, nI_clamp (by omega)]
  exact hj
theorem lHo_lt {N : Nat → Int32} (hN : Cn N) {k : Nat} (hk : k < nLe N) : lHo N k < 10 := by
  obtain ⟨j, hj, e⟩ := hN.lh hk
  unfold lHo
  rw [e, nI_clamp (by omega)]
  exact hj
/-- one place written, in the class's state and in the row -/
theorem CtS.put {I : MI} {L : ML} {b j : Nat} {N : Nat → Int32} {Q : Nat → Int64} {v : Int32} (c : CtS I L b N Q) (hN : Cn N) (hj : plj j = true) (hz : blj j = true → z01 v) : CtS (upI I (b + oA j) (oK j) v) L b (upd N j v) Q := by
  obtain ⟨j0, j1, j2, j3, j4, j5, j6, j7, j8⟩ := plj_ok hj
  obtain ⟨f1, f2, f3, f4, f5, f6, f7, f8, f9, f10⟩ := oF j j0 j1
  have h8 := hN.p8
  have hl := hN.l8
  have eH : nHo (upd N j v) = nHo N := by unfold nHo; rw [upd_ne (by omega)]
  have eP : nPo (upd N j v) = nPo N := by unfold nPo; rw [upd_ne (by omega)]
  have eL : nLe (upd N j v) = nLe N := by unfold nLe; rw [upd_ne (by omega)]
  refine ⟨c.1.put j0 j1 hz, fun i hi => ?_, fun p hp => ?_, fun k hk => ?_, fun h hh => ?_, fun p hp => ?_⟩
  · have hi := lvj_cong (N := N) (upd_ne (by omega)) (upd_ne (by omega)) (upd_ne (by omega)) (fun p hp => upd_ne (by have := (j8 p hp).2.2.2; omega)) hi
    by_cases e : i = j
    · subst e
      rw [upI_s, upd_eq]
    · rw [upd_ne e, upI_n, c.2.1 i hi]
      by_cases ea : oA i = oA j
      · refine Or.inr (fun ek => e ?_)
        have := lvj_s hN hi
        exact oA_inj this.1 j0 this.2 j1 ea ek
      · exact Or.inl (by omega)
  · rw [eP] at hp
    obtain ⟨-, q6, q7, -⟩ := j8 p (by omega)
    rw [upd_ne (by omega), upd_ne (by omega), upI_n, c.br hp]
    by_cases ea : oA j = 13 + 2 * p
    · exact Or.inr (by have := (f2 (by omega) (by omega) (by omega)).2; omega)
    · exact Or.inl (by omega)
  · rw [eL] at hk
    have hp9 := lPo_lt hN hk
    have hh9 := lHo_lt hN hk
    exact (c.lt hk).cong (if_neg (by omega)) (fun w hw => upd_ne (by omega)) (upd_ne (by have := (j8 _ hp9).1; omega)) (upd_ne (by have := j7 _ hh9; omega))
  · rw [eH] at hh
    exact c.qh hh
  · rw [eP] at hp
    exact c.qp hp
section Puts
variable {I : MI} {L : ML} {b : Nat} {N : Nat → Int32} {Q : Nat → Int64} {v : Int32}
theorem CtS.putH (c : CtS I L b N Q) (hN : Cn N) {h w : Nat} (hh : h < 10) (hw : w < 8) (h1 : w ≠ 1) (hz : w = 3 ∨ w = 6 → z01 v) : CtS (upI I (b + 2 + h) (hK w) v) L b (mPutsH N h w v) Q := by
  have := c.put (j := 8 * h + w) (v := v) hN (by unfold plj; simp only [Bool.or_eq_true, Bool.and_eq_true, decide_eq_true_eq, Bool.not_eq_true', decide_eq_false_iff_not]; omega) (fun q => hz (by
    unfold blj at q
    simp only [Bool.or_eq_true, Bool.and_eq_true, decide_eq_true_eq] at q
    omega))
  rw [oA_h hh hw, oK_h hh hw, ← Nat.add_assoc] at this
  exact this
theorem CtS.putP (c : CtS I L b N Q) (hN : Cn N) {p w : Nat} (hp : p < 8) (hw : w < 12) (h2 : w ≠ 2) (h6 : w ≠ 6) (h7 : w ≠ 7) (h11 : w ≠ 11) (hz : w = 8 → z01 v) : CtS (upI I (b + 13 + 2 * p) (sK w) v) L b (mPuts N p w v) Q := by
  have := c.put (j := 80 + 18 * p + w) (v := v) hN (by unfold plj; simp only [Bool.or_eq_true, Bool.and_eq_true, decide_eq_true_eq, Bool.not_eq_true', decide_eq_false_iff_not]; omega) (fun q => hz (by
    unfold blj at q
    simp only [Bool.or_eq_true, Bool.and_eq_true, decide_eq_true_eq] at q
    omega))
  rw [oA_p hp hw, oK_p hp hw, ← Nat.add_assoc] at this
  exact this
theorem CtS.putWi (c : CtS I L b N Q) (hN : Cn N) {p k : Nat} (hp : p < 8) (hk : k < 6) : CtS (upI I (b + 14 + 2 * p) k v) L b (mPuts N p (12 + k) v) Q := by
  have := c.put (j := 80 + 18 * p + (12 + k)) (v := v) hN (by unfold plj; simp only [Bool.or_eq_true, Bool.and_eq_true, decide_eq_true_eq, Bool.not_eq_true', decide_eq_false_iff_not]; omega) (fun q => by
    unfold blj at q
    simp only [Bool.or_eq_true, Bool.and_eq_true, decide_eq_true_eq] at q
    omega)
  rw [oA_w hp hk, oK_w hp hk, ← Nat.add_assoc] at this
  exact this
theorem CtS.putU (c : CtS I L b N Q) (hN : Cn N) {r : Nat} (hr : r < 6) : CtS (upI I (b + 29) r v) L b (upd N (224 + r) v) Q := by
  have := c.put (j := 224 + r) (v := v) hN (by unfold plj; simp only [Bool.or_eq_true, Bool.and_eq_true, decide_eq_true_eq, Bool.not_eq_true', decide_eq_false_iff_not]; omega) (fun q => by
    unfold blj at q
    simp only [Bool.or_eq_true, Bool.and_eq_true, decide_eq_true_eq] at q
    omega)
  rw [oA_u hr, oK_u hr] at this
  exact this
theorem CtS.put7 (c : CtS I L b N Q) (hN : Cn N) : CtS (upI I b 7 v) L b (upd N 232 v) Q := c.put (j := 232) hN (by decide) (fun q => absurd q (by decide))
theorem CtS.put8 (c : CtS I L b N Q) (hN : Cn N) : CtS (upI I b 8 v) L b (upd N 298 v) Q := c.put (j := 298) hN (by decide) (fun q => absurd q (by decide))
theorem CtS.cong {M : Nat → Int32} (c : CtS I L b N Q) (h : N = M) : CtS I L b M Q := h ▸ c
/-- who is barred, written -/
theorem CtS.putB (c : CtS I L b N Q) (hN : Cn N) {p : Nat} {x y : Int32} (hp : p < 8) (hv : v = x + y) : CtS (upI I (b + 13 + 2 * p) 11 v) L b (mPuts (mPuts N p 6 x) p 7 y) Q := by
  have h8 := hN.p8
  have hl := hN.l8
  have u : ∀ i, i ≠ 80 + 18 * p + 6 → i ≠ 80 + 18 * p + 7 → mPuts (mPuts N p 6 x) p 7 y i = N i := fun i h1 h2 => by
    unfold mPuts
    rw [upd_ne h2, upd_ne h1]
  have eH : nHo (mPuts (mPuts N p 6 x) p 7 y) = nHo N := by unfold nHo; rw [u _ (by omega) (by omega)]
  have eP : nPo (mPuts (mPuts N p 6 x) p 7 y) = nPo N := by unfold nPo; rw [u _ (by omega) (by omega)]
  have eL : nLe (mPuts (mPuts N p 6 x) p 7 y) = nLe N := by unfold nLe; rw [u _ (by omega) (by omega)]
  refine ⟨?_, fun i hi => ?_, fun r hr => ?_, fun k hk => ?_, fun h hh => ?_, fun p hp => ?_⟩
  · refine ⟨fun i hi => ?_, fun i hi => ?_, ?_, ?_⟩
    · rw [upI_n (Or.inl (by omega)), upI_n (Or.inl (by omega)), upI_n (Or.inl (by omega)), upI_n (Or.inl (by omega))]
      exact c.1.1 i hi
    · rw [upI_n (Or.inr (by omega)), upI_n (Or.inr (by omega)), upI_n (Or.inr (by omega))]
      exact c.1.2.1 i hi
    · rw [upI_n (Or.inl (by omega))]
      exact c.tw
    · rw [upI_n (Or.inl (by omega))]
      exact c.ow
  · have hi := lvj_cong (N := N) (u _ (by omega) (by omega)) (u _ (by omega) (by omega)) (u _ (by omega) (by omega)) (fun q hq => u _ (by omega) (by omega)) hi
    obtain ⟨s1, s2⟩ := lvj_s hN hi
    have hne : i ≠ 80 + 18 * p + 6 ∧ i ≠ 80 + 18 * p + 7 := by
      unfold lvs at s2
      simp only [Bool.or_eq_true, Bool.and_eq_true, decide_eq_true_eq, Bool.not_eq_true', decide_eq_false_iff_not] at s2
      omega
    rw [u i hne.1 hne.2, upI_n, c.2.1 i hi]
    by_cases ea : oA i = 13 + 2 * p
    · exact Or.inr (((oF i s1 s2).2.1 (by omega) (by omega) (by omega)).2)
    · exact Or.inl (by omega)
  · rw [eP] at hr
    by_cases e : r = p
    · subst e
      rw [upI_s, hv]
      unfold mPuts
      rw [upd_ne (by omega), upd_eq, upd_eq]
    · rw [upI_n (Or.inl (by omega)), u _ (by omega) (by omega), u _ (by omega) (by omega)]
      exact c.br hr
  · rw [eL] at hk
    have hp9 := lPo_lt hN hk
    have hh9 := lHo_lt hN hk
    exact (c.lt hk).cong (if_neg (by omega)) (fun w hw => u _ (by omega) (by omega)) (u _ (by omega) (by omega)) (u _ (by omega) (by omega))
  · rw [eH] at hh
    exact c.qh hh
  · rw [eP] at hp
    exact c.qp hp
end Puts
