/-! gifts: the most that could be housed at once -/
/-- the best of the first i homes for one house: others behind it get f -/
def gvB (C : Nat → Bool) (f : Nat → Nat) (g : Nat) : Nat → Nat
  | 0 => f g
  | h + 1 => if !g.testBit h && C h then max (gvB C f g h) (1 + f (g + 2 ^ h)) else gvB C f g h
/-- d houses are left, n in all -/
def gvD (C : Nat → Nat → Bool) (H n : Nat) : Nat → Nat → Nat
  | 0, _ => 0
  | d + 1, g => gvB (C (n - (d + 1))) (gvD C H n d) g H
def mGv (N : Nat → Int32) (p g : Nat) : Nat := gvD (mCan N) (nHo N) (nPo N) (nPo N - p) g
theorem mGv_end {N : Nat → Int32} {g : Nat} : mGv N (nPo N) g = 0 := by
  unfold mGv
  rw [Nat.sub_self]
  rfl
theorem mGv_step {N : Nat → Int32} {p g : Nat} (hp : p < nPo N) : mGv N p g = gvB (mCan N p) (mGv N (p + 1)) g (nHo N) := by
  unfold mGv
  have e : nPo N - p = (nPo N - (p + 1)) + 1 := by omega
  rw [e]
  show gvB (mCan N (nPo N - ((nPo N - (p + 1)) + 1))) (gvD (mCan N) (nHo N) (nPo N) (nPo N - (p + 1))) g (nHo N) = _
  have e2 : nPo N - ((nPo N - (p + 1)) + 1) = p := by omega
  rw [e2]
theorem gvB_le {C : Nat → Bool} {f : Nat → Nat} {g B : Nat} (h : ∀ g, f g ≤ B) : ∀ H, gvB C f g H ≤ B + 1
  | 0 => Nat.le_succ_of_le (h g)
  | H + 1 => by
    have := gvB_le (C := C) (g := g) h H
    have := h (g + 2 ^ H)
    show (if _ then _ else _) ≤ _
    split
    · exact Nat.max_le.mpr ⟨by omega, by omega⟩
    · omega
theorem gvD_le {C : Nat → Nat → Bool} {H n : Nat} : ∀ d g, gvD C H n d g ≤ d
  | 0, _ => Nat.le_refl 0
  | d + 1, g => gvB_le (gvD_le d) H
theorem mGv_le {N : Nat → Int32} {p g : Nat} : mGv N p g ≤ nPo N - p := gvD_le _ _
theorem gv_or : ∀ g, g < 1024 → ∀ h, h < 10 → g.testBit h = false → nI g ||| ((1 : Int32) <<< (nI h &&& 31)) = nI (g + 2 ^ h) ∧ g + 2 ^ h < 1024 := by decide +kernel
def gfI (N : Nat → Int32) (p g : Nat) : Nat → Option Nat
  | 0 => none
  | h + 1 => match gfI N p g h with
    | some k => some k
    | none => if !g.testBit h && mCan N p h && decide (1 + mGv N (p + 1) (g + 2 ^ h) = mGv N p g) then some h else none
def gfO (N : Nat → Int32) (p g : Nat) : Option Nat := gfI N p g (nHo N)
def gfG (N : Nat → Int32) : Nat → Nat
  | 0 => 0
  | p + 1 => match gfO N p (gfG N p) with
    | some h => gfG N p + 2 ^ h
    | none => gfG N p
def aMost (N : Nat → Int32) : An := ok (nI (mGv N 0 0))
def aGift (N : Nat → Int32) (x : Int32) : An := if !mFrom x 0 (N 231 - 1) then no 2 else match gfO N x.toNatClampNeg (gfG N x.toNatClampNeg) with
  | some h => ok (nI h)
  | none => no 5
theorem gfI_some {N : Nat → Int32} {p g : Nat} : ∀ {n h : Nat}, gfI N p g n = some h → h < n ∧ g.testBit h = false ∧ mCan N p h = true ∧ 1 + mGv N (p + 1) (g + 2 ^ h) = mGv N p g
  | 0, h, e => by cases e
  | n + 1, h, e => by
    have e : (match gfI N p g n with
      | some k => some k
      | none => if !g.testBit n && mCan N p n && decide (1 + mGv N (p + 1) (g + 2 ^ n) = mGv N p g) then some n else none) = some h := e
    cases q : gfI N p g n with
    | some k =>
      rw [q] at e
      cases e
      have := gfI_some q
      exact ⟨Nat.lt_succ_of_lt this.1, this.2⟩
    | none =>
      rw [q] at e
      by_cases c : (!g.testBit n && mCan N p n && decide (1 + mGv N (p + 1) (g + 2 ^ n) = mGv N p g)) = true
      · have e : (if !g.testBit n && mCan N p n && decide (1 + mGv N (p + 1) (g + 2 ^ n) = mGv N p g) then some n else none) = some h := e
        rw [if_pos c] at e
        cases e
        simp at c
        exact ⟨Nat.lt_succ_self _, c.1.1, c.1.2, c.2⟩
      · have e : (if !g.testBit n && mCan N p n && decide (1 + mGv N (p + 1) (g + 2 ^ n) = mGv N p g) then some n else none) = some h := e
        rw [if_neg c] at e
        cases e
theorem gfI_keep {N : Nat → Int32} {p g n k : Nat} (h : gfI N p g n = some k) : ∀ d, gfI N p g (n + d) = some k
  | 0 => h
  | d + 1 => by
    show (match gfI N p g (n + d) with
      | some k => some k
      | none => _) = _
    rw [gfI_keep h d]
theorem gfI_new {N : Nat → Int32} {p g n : Nat} (h : gfI N p g n = none) (c : (!g.testBit n && mCan N p n && decide (1 + mGv N (p + 1) (g + 2 ^ n) = mGv N p g)) = true) : gfI N p g (n + 1) = some n := by
  show (match gfI N p g n with
      | some k => some k
      | none => if !g.testBit n && mCan N p n && decide (1 + mGv N (p + 1) (g + 2 ^ n) = mGv N p g) then some n else none) = _
  rw [h]
  exact if_pos c
theorem gfI_not {N : Nat → Int32} {p g n : Nat} (h : gfI N p g n = none) (c : (!g.testBit n && mCan N p n && decide (1 + mGv N (p + 1) (g + 2 ^ n) = mGv N p g)) = false) : gfI N p g (n + 1) = none := by
  show (match gfI N p g n with
      | some k => some k
      | none => if !g.testBit n && mCan N p n && decide (1 + mGv N (p + 1) (g + 2 ^ n) = mGv N p g) then some n else none) = _
  rw [h]
  exact if_neg (by rw [c]; exact Bool.false_ne_true)
theorem gfG_lt {N : Nat → Int32} (h10 : nHo N ≤ 10) : ∀ p, gfG N p < 1024
  | 0 => show 0 < 1024 by decide
  | p + 1 => by
    have ih := gfG_lt h10 p
    show (match gfO N p (gfG N p) with
      | some h => gfG N p + 2 ^ h
      | none => gfG N p) < 1024
    cases e : gfO N p (gfG N p) with
    | none => exact ih
    | some h =>
      have := gfI_some e
      exact (gv_or _ ih h (by omega) this.2.1).2
theorem gfG_some {N : Nat → Int32} {p h : Nat} (e : gfO N p (gfG N p) = some h) : gfG N (p + 1) = gfG N p + 2 ^ h := by
  show (match gfO N p (gfG N p) with
      | some h => gfG N p + 2 ^ h
      | none => gfG N p) = _
  rw [e]
theorem gfG_none {N : Nat → Int32} {p : Nat} (e : gfO N p (gfG N p) = none) : gfG N (p + 1) = gfG N p := by
  show (match gfO N p (gfG N p) with
      | some h => gfG N p + 2 ^ h
      | none => gfG N p) = _
  rw [e]
/-- the table from one house on -/
def GvT (N : Nat → Int32) (T : Nat → Int32) (p : Nat) : Prop := ∀ q g, p ≤ q → q ≤ nPo N → g < 1024 → T (1024 * q + g) = nI (mGv N q g)
