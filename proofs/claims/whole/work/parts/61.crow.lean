/-! rows for the class's own arrays of homes and houses; who is barred; bits -/
section CRow
variable {X : Cx} {g : Gd} {own : String} {cc : ByteArray} {nL : Nat} {Bd : Nat × Nat × Nat} {E : En} {I : MI} {L : ML} {pc : Nat} {Lc : List (Option Value)} {st : List Value}
theorem AW.topL {x y : Int64} (h : x = y) (k : AW X g own cc nL Bd E I L pc Lc (.long y :: st)) : AW X g own cc nL Bd E I L pc Lc (.long x :: st) := h ▸ k
theorem aw_homes {b h : Nat} {i : Int32} (hS : IsS E.2.1 E.2.2.1 b) (hi : i = nI h) (hh : h < 10) (d : decode cc pc = .ok (.aaload, 1)) (kk : AW X g own cc nL Bd E I L (pc + 1) Lc (.ref (b + 2 + h) :: st)) : AW X g own cc nL Bd E I L pc Lc (.int i :: .ref (b + 1) :: st) := by
  subst hi
  exact aw_aald d hS.hk (by decide) rfl (hS.lt (k := 1) (by decide)) (by rw [hS.hl]; exact vp_in_nI hh (by decide)) (by rw [nI_clamp (by omega)]; exact hS.hr hh) kk
theorem aw_houses {b p : Nat} {i : Int32} (hS : IsS E.2.1 E.2.2.1 b) (hi : i = nI p) (hp : p < 8) (d : decode cc pc = .ok (.aaload, 1)) (kk : AW X g own cc nL Bd E I L (pc + 1) Lc (.ref (b + 13 + 2 * p) :: st)) : AW X g own cc nL Bd E I L pc Lc (.int i :: .ref (b + 12) :: st) := by
  subst hi
  exact aw_aald d hS.pk (by decide) rfl (hS.lt (k := 12) (by decide)) (by rw [hS.pl]; exact vp_in_nI hp (by decide)) (by rw [nI_clamp (by omega)]; exact hS.pr hp) kk
end CRow
/-- who is barred: for weeks, and newly -/
def BrO (N : Nat → Int32) : Prop := ∀ p, p < nPo N → ∃ v u, v ≤ 52 ∧ u ≤ 1 ∧ N (80 + 18 * p + 6) = nI v ∧ N (80 + 18 * p + 7) = nI u ∧ (u = 1 → 1 ≤ v)
theorem BrO.zero {N : Nat → Int32} (h : BrO N) {p : Nat} (hp : p < nPo N) : N (80 + 18 * p + 6) + N (80 + 18 * p + 7) = 0 ↔ N (80 + 18 * p + 6) = 0 := by
  obtain ⟨v, u, h1, h2, e1, e2, h3⟩ := h p hp
  rw [e1, e2, nI_add]
  have a := nI_eq (a := v + u) (b := 0) (by omega) (by omega)
  have c := nI_eq (a := v) (b := 0) (by omega) (by omega)
  constructor
  · intro q
    have := a.mp q
    exact c.mpr (by omega)
  · intro q
    have := c.mp q
    exact a.mpr (by omega)
theorem BrO.pos {N : Nat → Int32} (h : BrO N) {p : Nat} (hp : p < nPo N) : N (80 + 18 * p + 6) + N (80 + 18 * p + 7) ≤ 0 ↔ N (80 + 18 * p + 6) ≤ 0 := by
  obtain ⟨v, u, h1, h2, e1, e2, h3⟩ := h p hp
  rw [e1, e2, nI_add]
  have a := nI_leI (a := v + u) (b := 0) (by omega) (by omega)
  have c := nI_leI (a := v) (b := 0) (by omega) (by omega)
  constructor
  · intro q
    have := a.mp q
    exact c.mpr (by omega)
  · intro q
    have := c.mp q
    exact a.mpr (by omega)
theorem and_bit : ∀ v, v < 1024 → ∀ i, i < 10 → (nI v &&& nI (2 ^ i) = 0 ↔ ¬ (nI v >>> (nI i &&& 31)) &&& 1 = 1) := by decide +kernel
theorem shl_bit : ∀ i, i < 10 → (1 : Int32) <<< (nI i &&& 31) = nI (2 ^ i) := by decide +kernel
theorem fit_iff {x y : Int32} (hx : rg x 1 4) (hy : rg y 1 4) : mFrom (x - y) 0 1 = true ↔ x = y ∨ x = y + 1 := by
  obtain ⟨a, rfl, a1, a2⟩ := hx
  obtain ⟨c, rfl, c1, c2⟩ := hy
  have e : ∀ a, a < 5 → ∀ c, c < 5 → (mFrom (nI a - nI c) 0 1 = true ↔ nI a = nI c ∨ nI a = nI c + 1) := by decide +kernel
  exact e a (by omega) c (by omega)
theorem fit_bool {N : Nat → Int32} {p h : Nat} (r : Rg N) (hp : p < nPo N) (hh : h < nHo N) : mFit N p h = (decide (N (8 * h + 0) = N (80 + 18 * p + 1)) || decide (N (8 * h + 0) = N (80 + 18 * p + 1) + 1)) := by
  have e := fit_iff (r.2.1 h hh).1 (r.1 p hp).2.1
  unfold mFit
  rw [Bool.eq_iff_iff, e]
  simp
