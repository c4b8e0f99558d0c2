/-! the class: rows of moves -/
theorem add_lt2 : ∀ n, n ≤ 8 → ∀ S, S < 2 ^ n → ∀ p, p < n → S.testBit p = false → S + 2 ^ p < 2 ^ n := by decide +kernel
theorem nI_prod (a b : Nat) : nI a * nI b = nI (a * b) := (Int32.ofNat_mul a b).symm
theorem shl_10 : ∀ i, i < 10 → (1 : Int32) <<< (nI i &&& 31) = nI (2 ^ i) := by decide +kernel
theorem p2_256 {n S : Nat} (h8 : n ≤ 8) (h : S < 2 ^ n) : S < 256 := Nat.lt_of_lt_of_le h (Nat.pow_le_pow_right (n := 2) (by decide) h8)
theorem iset_no {P : Nat → Bool} : ∀ {n : Nat}, n ≤ 10 → (∀ k, k < n → P k = false) → iset P n = 0
  | 0, _, _ => rfl
  | n + 1, hn, h => by rw [iset_or (by omega), h n (by omega)]; exact iset_no (by omega) (fun k hk => h k (by omega))
theorem or_8 {S p : Nat} (hS : S < 256) (hp : p < 8) (hb : S.testBit p = false) : nI S ||| nI (2 ^ p) = nI (S + 2 ^ p) := by
  rw [← shl_8 p hp]
  exact (gv_or S (by omega) p (by omega) hb).1
/-- what is looked up -/
def ChA (N : Nat → Int32) (J : MI) : Prop := J 487 5 = nI (nPo N) ∧ ∀ p, p < nPo N → J 488 p = iset (fun h => mCould N p h) (nHo N) ∧ J 489 p = N (80 + 18 * p + 4)
theorem ChA.cg {N : Nat → Int32} {I J : MI} (h : ChA N I) (h1 : J 487 5 = I 487 5) (h2 : J 488 = I 488) (h3 : J 489 = I 489) : ChA N J := ⟨h1.trans h.1, fun p hp => by rw [h2, h3]; exact h.2 p hp⟩
def FoA (N : Nat → Int32) (J : MI) (S : Nat) : Prop := ∀ T, S < T → T < 2 ^ nPo N → ∀ p, p < nPo N → T.testBit p = true → J 490 (T * 8 + p) = nI (lgF N (8 - pcn T) T (N (80 + 18 * p + 4))).length
theorem FoA.cg {N : Nat → Int32} {I J : MI} {S : Nat} (h : FoA N I S) (h1 : J 490 = I 490) : FoA N J S := fun T a b p c d => by rw [h1]; exact h T a b p c d
theorem FoA.up {N : Nat → Int32} {I : MI} {S T : Nat} (h : FoA N I S) (hT : S ≤ T) : FoA N I T := fun U a b p c d => h U (by omega) b p c d
theorem lf1_in {N : Nat → Int32} {S h p : Nat} (hS : S < 256) (hp : p < 8) (hb : S.testBit p = false) (hc : mCould N p h = true) : lf1 N (8 - pcn S) S h p = (p, h) :: lgF N (8 - pcn (S + 2 ^ p)) (S + 2 ^ p) (N (80 + 18 * p + 4)) := by
  have h1 := pcn_add hS hp hb
  have h2 := pcn_le8 (bit_add S hS p hp hb).1
  rw [show 8 - pcn S = (8 - pcn (S + 2 ^ p)) + 1 by omega]
  exact if_neg (by rw [hb, hc]; decide)
theorem couldBit {N : Nat → Int32} (hN : Cn N) {p h : Nat} (hh : h < nHo N) : iset (fun h => mCould N p h) (nHo N) &&& nI (2 ^ h) = 0 ↔ mCould N p h = false := by
  have h10 := hN.h10
  have hlt : nset (fun h => mCould N p h) (nHo N) < 1024 := Nat.lt_of_lt_of_le (nset_lt _ _) (Nat.pow_le_pow_right (n := 2) (by decide) h10)
  rw [iset_n _ _ (by omega), bt_and rfl hlt (by omega), (bit_all _ hlt h (by omega)).1, nset_bit _ _ (by omega) h (by omega), decide_eq_true hh, Bool.true_and]
theorem pk2_len (f : Nat → Mvs) (n : Nat) : (pk2 f (n + 1)).length = max (pk2 f n).length (f n).length := by
  rw [pk2]
  split
  · exact (Nat.max_eq_right (by omega)).symm
  · exact (Nat.max_eq_left (by omega)).symm
theorem lf1_len8 {N : Nat → Int32} {S h : Nat} (p : Nat) : (lf1 N (8 - pcn S) S h p).length ≤ 8 := by
  have h1 : ∀ d, (lf1 N d S h p).length ≤ d := fun d => by
    cases d with
    | zero => exact Nat.le_refl 0
    | succ d =>
      show (if _ then _ else _ : Mvs).length ≤ _
      by_cases b : (S.testBit p || !mCould N p h) = true
      · rw [if_pos b]; exact Nat.zero_le _
      · rw [if_neg b]; exact Nat.succ_le_succ (lgF_len d _ _)
  have := h1 (8 - pcn S)
  omega
theorem pk2_len8 {N : Nat → Int32} {S h : Nat} (n : Nat) : (pk2 (lf1 N (8 - pcn S) S h) n).length ≤ 8 := pk2_le (fun p _ => lf1_len8 p)
