/-! what a row keeps to, and that the week's steps keep it -/
def Rst (N : Nat → Int32) : Prop := Rg N ∧ BrO N ∧ LeO N ∧ Co N
def Iv (N : Nat → Int32) : Prop := Cn N ∧ Lo N ∧ Rst N
theorem Iv.ok {N : Nat → Int32} (h : Iv N) : Ok N := ⟨h.1, h.2.2.1, h.2.2.2.1, h.2.2.2.2.1⟩
theorem Co.wi {N : Nat → Int32} (h : Co N) : WiO N := h.2.2
theorem Co.ho {N : Nat → Int32} (h : Co N) : HoO N := fun p hp => by
  rcases h.1 p hp with q | ⟨a, b, c, _⟩
  · exact Or.inl q
  · exact Or.inr ⟨a, b, c⟩
theorem Iv.co {N : Nat → Int32} (h : Iv N) : Co N := h.2.2.2.2.2
section Ivs
variable {N M : Nat → Int32}
theorem Rg.cong (h : Rg N) (hN : Cn N) (e0 : M 230 = N 230) (e1 : M 231 = N 231) (hp : ∀ p w, p < 8 → w < 4 → M (80 + 18 * p + w) = N (80 + 18 * p + w)) (hh : ∀ i w, i < 10 → w < 2 → M (8 * i + w) = N (8 * i + w)) (hw : M 232 = N 232) (hu : ∀ r, r < 6 → M (224 + r) = N (224 + r)) : Rg M := by
  have h8 := hN.p8
  have h10 := hN.h10
  have eP : nPo M = nPo N := by unfold nPo; rw [e1]
  have eH : nHo M = nHo N := by unfold nHo; rw [e0]
  refine ⟨fun p q => ?_, fun i q => ?_, by rw [hw]; exact h.2.2.1, fun r hr => by rw [hu r hr]; exact h.2.2.2 r hr⟩
  · rw [eP] at q
    rw [hp p 0 (by omega) (by decide), hp p 1 (by omega) (by decide), hp p 2 (by omega) (by decide), hp p 3 (by omega) (by decide)]
    exact h.1 p q
  · rw [eH] at q
    rw [hh i 0 (by omega) (by decide), hh i 1 (by omega) (by decide)]
    exact h.2.1 i q
theorem BrO.cong (h : BrO N) (hN : Cn N) (e1 : M 231 = N 231) (hp : ∀ p, p < 8 → M (80 + 18 * p + 6) = N (80 + 18 * p + 6) ∧ M (80 + 18 * p + 7) = N (80 + 18 * p + 7)) : BrO M := by
  have h8 := hN.p8
  have eP : nPo M = nPo N := by unfold nPo; rw [e1]
  intro p q
  rw [eP] at q
  obtain ⟨a, b⟩ := hp p (by omega)
  rw [a, b]
  exact h p q
theorem LeO.cong (h : LeO N) (hN : Cn N) (e3 : M 233 = N 233) (hk : ∀ k, k < 8 → M (234 + 8 * k + 5) = N (234 + 8 * k + 5)) : LeO M := by
  have h8 := hN.l8
  have eL : nLe M = nLe N := by unfold nLe; rw [e3]
  intro k q
  rw [eL] at q
  rw [hk k (by omega)]
  exact h k q
theorem Co.cong (h : Co N) (hN : Cn N) (e0 : M 230 = N 230) (e1 : M 231 = N 231) (hp : ∀ p, p < 8 → M (80 + 18 * p + 4) = N (80 + 18 * p + 4)) (hh : ∀ i, i < 10 → M (8 * i + 2) = N (8 * i + 2)) (hw : ∀ p w, p < 8 → 11 ≤ w → w < 18 → M (80 + 18 * p + w) = N (80 + 18 * p + w)) : Co M := by
  have h8 := hN.p8
  have h10 := hN.h10
  have eP : nPo M = nPo N := by unfold nPo; rw [e1]
  have eH : nHo M = nHo N := by unfold nHo; rw [e0]
  refine ⟨fun p q => ?_, fun i q => ?_, fun p q k hk => ?_⟩
  · rw [eP] at q
    rw [hp p (by omega), eH]
    rcases h.1 p q with q2 | ⟨i, a, b, c⟩
    · exact Or.inl q2
    · exact Or.inr ⟨i, a, b, by rw [hh i (by omega)]; exact c⟩
  · rw [eH] at q
    rw [hh i (by omega), eP]
    rcases h.2.1 i q with q2 | ⟨p, a, b, c⟩
    · exact Or.inl q2
    · exact Or.inr ⟨p, a, b, by rw [hp p (by omega)]; exact c⟩
  · rw [eP] at q
    have eW : nWi M p = nWi N p := by unfold nWi; rw [hw p 11 (by omega) (by decide) (by decide)]
    rw [eW] at hk
    have h6 := hN.w6 (show p < 8 by omega)
    obtain ⟨i, a, b⟩ := h.2.2 p q k hk
    exact ⟨i, by rw [eH]; exact a, by rw [hw p (12 + k) (by omega) (by omega) (by omega)]; exact b⟩
/-- places that none of these read -/
def irj (j : Nat) : Prop := (j < 80 ∧ 3 ≤ j % 8) ∨ (80 ≤ j ∧ j < 224 ∧ ((j - 80) % 18 = 5 ∨ (j - 80) % 18 = 8 ∨ (j - 80) % 18 = 9 ∨ (j - 80) % 18 = 10)) ∨ 298 ≤ j
theorem Rst.cong (h : Rst N) (hN : Cn N) (e : ∀ j, j < 298 → ¬ irj j → M j = N j) : Rst M := by
  have g : ∀ j, j < 298 → ¬ irj j → M j = N j := e
  refine ⟨h.1.cong hN (g _ (by omega) (by unfold irj; omega)) (g _ (by omega) (by unfold irj; omega)) (fun p w hp hw => g _ (by omega) (by unfold irj; omega)) (fun i w hi hw => g _ (by omega) (by unfold irj; omega)) (g _ (by omega) (by unfold irj; omega)) (fun r hr => g _ (by omega) (by unfold irj; omega)),
    h.2.1.cong hN (g _ (by omega) (by unfold irj; omega)) (fun p hp => ⟨g _ (by omega) (by unfold irj; omega), g _ (by omega) (by unfold irj; omega)⟩),
    h.2.2.1.cong hN (g _ (by omega) (by unfold irj; omega)) (fun k hk => g _ (by omega) (by unfold irj; omega)),
    h.2.2.2.cong hN (g _ (by omega) (by unfold irj; omega)) (g _ (by omega) (by unfold irj; omega)) (fun p hp => g _ (by omega) (by unfold irj; omega)) (fun i hi => g _ (by omega) (by unfold irj; omega)) (fun p w hp h1 h2 => g _ (by omega) (by unfold irj; omega))⟩
theorem Rst.upd {j : Nat} {v : Int32} (h : Rst N) (hN : Cn N) (hj : irj j) : Rst (upd N j v) := h.cong hN (fun i _ q => upd_ne (fun e => q (e ▸ hj)))
theorem off_Rst {p h : Nat} {t : Bool} (r : Rst N) (hN : Cn N) : Rst (mOffered N p h t) := r.cong hN (fun j hj _ => off_rd (by omega))
theorem bar_rg (r : Rg N) : rg (N 225) 1 52 := by
  have q := r.2.2.2 1 (by decide)
  obtain ⟨k, k1, k2, k3⟩ := rng (x := 1) (y := 52) (v := N (224 + 1)) (by decide) q.1 q.2 (by decide)
  exact ⟨k, k1, k2, k3⟩
theorem ref_Rst {p : Nat} (r : Rst N) (hN : Cn N) (hp : p < 8) : Rst (mRefuses N p) := by
  have h8 := hN.p8
  have e : ∀ j, j ≠ 80 + 18 * p + 6 → j ≠ 80 + 18 * p + 7 → j < 298 → ¬ irj j → mRefuses N p j = N j := fun j h6 h7 hj hi => ref_rd (fun q => hi (by unfold irj; omega)) h6 h7 (by omega)
  refine ⟨r.1.cong hN (e _ (by omega) (by omega) (by omega) (by unfold irj; omega)) (e _ (by omega) (by omega) (by omega) (by unfold irj; omega)) (fun q w hq hw => e _ (by omega) (by omega) (by omega) (by unfold irj; omega)) (fun i w hi hw => e _ (by omega) (by omega) (by omega) (by unfold irj; omega)) (e _ (by omega) (by omega) (by omega) (by unfold irj; omega)) (fun u hu => e _ (by omega) (by omega) (by omega) (by unfold irj; omega)), ?_,
    r.2.2.1.cong hN (e _ (by omega) (by omega) (by omega) (by unfold irj; omega)) (fun k hk => e _ (by omega) (by omega) (by omega) (by unfold irj; omega)),
    r.2.2.2.cong hN (e _ (by omega) (by omega) (by omega) (by unfold irj; omega)) (e _ (by omega) (by omega) (by omega) (by unfold irj; omega)) (fun q hq => e _ (by omega) (by omega) (by omega) (by unfold irj; omega)) (fun i hi => e _ (by omega) (by omega) (by omega) (by unfold irj; omega)) (fun q w hq h1 h2 => e _ (by omega) (by omega) (by omega) (by unfold irj; omega))⟩
  intro q hq
  have eP : nPo (mRefuses N p) = nPo N := by unfold nPo; rw [e _ (by omega) (by omega) (by omega) (by unfold irj; omega)]
  rw [eP] at hq
  by_cases ep : q = p
  · subst ep
    unfold mRefuses
    split
    · unfold mRef1 mPuts
      rw [upd_ne (by omega), upd_ne (by omega), upd_ne (by omega), upd_ne (by omega)]
      exact r.2.1 q hq
    · unfold mPuts
      rw [upd_ne (by omega), upd_eq, upd_eq]
      obtain ⟨v, v1, v2, v3⟩ := bar_rg r.1
      exact ⟨v, 1, v3, Nat.le_refl 1, v1, rfl, fun _ => v2⟩
  · rw [ref_rd (by omega) (by omega) (by omega) (by omega), ref_rd (by omega) (by omega) (by omega) (by omega)]
    exact r.2.1 q hq
theorem Iv.upd {j : Nat} {v : Int32} (h : Iv N) (hj : irj j) (c : Cn (upd N j v)) (l : Lo (upd N j v)) : Iv (upd N j v) := ⟨c, l, h.2.2.upd h.1 hj⟩
end Ivs
