/-! counts and places in range: what keeps every index of the reference within its rows -/
def nBi (N : Nat → Int32) (p : Nat) : Nat := (N (80 + 18 * p + 10)).toNatClampNeg
def nOf (N : Nat → Int32) : Nat := (N 299).toNatClampNeg
/-- none (-1), or a number below the bound -/
def oI (x : Int32) (B : Nat) : Prop := x = -1 ∨ ∃ j, j < B ∧ x = nI j
def Cn (N : Nat → Int32) : Prop :=
  (N 230 = nI (nHo N) ∧ nHo N ≤ 10) ∧ (N 231 = nI (nPo N) ∧ nPo N ≤ 8) ∧ (N 233 = nI (nLe N) ∧ nLe N ≤ 8) ∧ (N 299 = nI (nOf N) ∧ nOf N ≤ 30) ∧ ¬ N 228 = 0 ∧
  (∀ p, p < 8 → (N (80 + 18 * p + 11) = nI (nWi N p) ∧ nWi N p ≤ 6) ∧ (N (80 + 18 * p + 10) = nI (nBi N p) ∧ nBi N p < 1024) ∧ oI (N (80 + 18 * p + 4)) 10 ∧ ∀ k, k < nWi N p → ∃ j, j < 10 ∧ N (80 + 18 * p + (12 + k)) = nI j) ∧
  (∀ h, h < 10 → oI (N (8 * h + 2)) 8) ∧
  ∀ k, k < nLe N → (∃ j, j < 8 ∧ N (234 + 8 * k + 0) = nI j) ∧ ∃ j, j < 10 ∧ N (234 + 8 * k + 1) = nI j
section Cns
variable {N : Nat → Int32}
theorem Cn.h (c : Cn N) : N 230 = nI (nHo N) := c.1.1
theorem Cn.h10 (c : Cn N) : nHo N ≤ 10 := c.1.2
theorem Cn.p (c : Cn N) : N 231 = nI (nPo N) := c.2.1.1
theorem Cn.p8 (c : Cn N) : nPo N ≤ 8 := c.2.1.2
theorem Cn.l (c : Cn N) : N 233 = nI (nLe N) := c.2.2.1.1
theorem Cn.l8 (c : Cn N) : nLe N ≤ 8 := c.2.2.1.2
theorem Cn.o (c : Cn N) : N 299 = nI (nOf N) := c.2.2.2.1.1
theorem Cn.o30 (c : Cn N) : nOf N ≤ 30 := c.2.2.2.1.2
theorem Cn.age (c : Cn N) : ¬ N 228 = 0 := c.2.2.2.2.1
theorem Cn.w (c : Cn N) {p : Nat} (hp : p < 8) : N (80 + 18 * p + 11) = nI (nWi N p) := (c.2.2.2.2.2.1 p hp).1.1
theorem Cn.w6 (c : Cn N) {p : Nat} (hp : p < 8) : nWi N p ≤ 6 := (c.2.2.2.2.2.1 p hp).1.2
theorem Cn.bi (c : Cn N) {p : Nat} (hp : p < 8) : N (80 + 18 * p + 10) = nI (nBi N p) := (c.2.2.2.2.2.1 p hp).2.1.1
theorem Cn.bi10 (c : Cn N) {p : Nat} (hp : p < 8) : nBi N p < 1024 := (c.2.2.2.2.2.1 p hp).2.1.2
theorem Cn.ho (c : Cn N) {p : Nat} (hp : p < 8) : oI (N (80 + 18 * p + 4)) 10 := (c.2.2.2.2.2.1 p hp).2.2.1
theorem Cn.wi (c : Cn N) {p k : Nat} (hp : p < 8) (hk : k < nWi N p) : ∃ j, j < 10 ∧ N (80 + 18 * p + (12 + k)) = nI j := (c.2.2.2.2.2.1 p hp).2.2.2 k hk
theorem Cn.who (c : Cn N) {h : Nat} (hh : h < 10) : oI (N (8 * h + 2)) 8 := c.2.2.2.2.2.2.1 h hh
theorem Cn.lp (c : Cn N) {k : Nat} (hk : k < nLe N) : ∃ j, j < 8 ∧ N (234 + 8 * k + 0) = nI j := (c.2.2.2.2.2.2.2 k hk).1
theorem Cn.lh (c : Cn N) {k : Nat} (hk : k < nLe N) : ∃ j, j < 10 ∧ N (234 + 8 * k + 1) = nI j := (c.2.2.2.2.2.2.2 k hk).2
end Cns
theorem ge_t {y : Int32} {i B : Nat} (hy : y = nI B) (hB : B < 2 ^ 31) (hi : i ≤ B) (c : y ≤ nI i) : i = B := by
  rw [hy] at c
  have := (nI_leI (by omega) (by omega)).mp c
  omega
theorem ge_f {y : Int32} {i B : Nat} (hy : y = nI B) (hB : B < 2 ^ 31) (hi : i ≤ B) (c : ¬ y ≤ nI i) : i < B := by
  rw [hy] at c
  have := mt (nI_leI (by omega) (by omega)).mpr c
  omega
theorem isum_cong {f g : Nat → Int32} : ∀ {n : Nat}, (∀ k, k < n → f k = g k) → isum f n = isum g n
  | 0, _ => rfl
  | n + 1, h => by rw [isum, isum, isum_cong (fun k hk => h k (by omega)), h n (by omega)]
/-- a number of a range, as an index -/
theorem from_ix {x y : Int32} {B : Nat} (hy : y = nI B) (hB : B < 2 ^ 30) (h : mFrom x 0 (y - 1) = true) : ∃ j, j < B ∧ x = nI j := by
  unfold mFrom at h
  simp only [Bool.and_eq_true, decide_eq_true_eq] at h
  obtain ⟨h1, h2⟩ := h
  cases B with
  | zero =>
    rw [hy] at h2
    have h3 := Int32.le_iff_toInt_le.mp h1
    have h4 := Int32.le_iff_toInt_le.mp h2
    rw [show (nI 0 - 1 : Int32) = -1 from by decide] at h4
    have h5 : (0 : Int32).toInt = 0 := by decide
    have h6 : (-1 : Int32).toInt = -1 := by decide
    omega
  | succ B =>
    rw [hy, nI_pred] at h2
    obtain ⟨j, hj, e⟩ := nI_of (x := x) (by rw [Int32.not_lt]; exact h1)
    rw [e] at h2
    have := (nI_leI hj (by omega)).mp h2
    exact ⟨j, by omega, e⟩
theorem from_of {j B : Nat} {y : Int32} (hy : y = nI B) (hB : B < 2 ^ 30) (hj : j < B) : mFrom (nI j) 0 (y - 1) = true := by
  unfold mFrom
  cases B with
  | zero => omega
  | succ B =>
    rw [hy, nI_pred]
    simp only [Bool.and_eq_true, decide_eq_true_eq]
    exact ⟨nI_pos' (by omega), nI_le (by omega) (by omega)⟩
