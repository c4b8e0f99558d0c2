/-! the longest row of moves -/
abbrev Mvs : Type := List (Nat × Nat)
/-- the first of the longest -/
def pk2 (f : Nat → Mvs) : Nat → Mvs
  | 0 => []
  | n + 1 => if (pk2 f n).length < (f n).length then f n else pk2 f n
theorem pk2_cong {f g : Nat → Mvs} : ∀ {n : Nat}, (∀ p, p < n → f p = g p) → pk2 f n = pk2 g n
  | 0, _ => rfl
  | n + 1, h => by rw [pk2, pk2, pk2_cong (fun p hp => h p (by omega)), h n (by omega)]
theorem pk2_skip {f : Nat → Mvs} {n : Nat} (h : f n = []) : pk2 f (n + 1) = pk2 f n := by
  rw [pk2, h]
  exact if_neg (Nat.not_lt_zero _)
theorem pk2_none {f : Nat → Mvs} : ∀ {n : Nat}, (∀ p, p < n → f p = []) → pk2 f n = []
  | 0, _ => rfl
  | n + 1, h => by rw [pk2_skip (h n (by omega)), pk2_none (fun p hp => h p (by omega))]
theorem pk2_ge {f : Nat → Mvs} : ∀ {n p : Nat}, p < n → (f p).length ≤ (pk2 f n).length
  | n + 1, p, hp => by
    rw [pk2]
    by_cases e : p = n
    · subst e
      split <;> omega
    · have := pk2_ge (f := f) (n := n) (p := p) (by omega)
      split <;> omega
theorem pk2_le {f : Nat → Mvs} {B : Nat} : ∀ {n : Nat}, (∀ p, p < n → (f p).length ≤ B) → (pk2 f n).length ≤ B
  | 0, _ => Nat.zero_le _
  | n + 1, h => by
    have h1 := pk2_le (f := f) (B := B) (n := n) (fun p hp => h p (by omega))
    have h2 := h n (by omega)
    rw [pk2]
    split <;> assumption
/-- whose the first of the longest is -/
theorem pk2_who {f : Nat → Mvs} : ∀ {n : Nat}, pk2 f n ≠ [] → ∃ p, p < n ∧ pk2 f n = f p ∧ ∀ r, r < p → (f r).length < (f p).length
  | 0, h => absurd rfl h
  | n + 1, h => by
    by_cases e : (pk2 f n).length < (f n).length
    · refine ⟨n, by omega, by rw [pk2, if_pos e], fun r hr => ?_⟩
      have := pk2_ge (f := f) hr
      omega
    · have e2 : pk2 f (n + 1) = pk2 f n := by rw [pk2, if_neg e]
      rw [e2] at h ⊢
      obtain ⟨p, h1, h2, h3⟩ := pk2_who h
      exact ⟨p, by omega, h2, h3⟩
def bt2 (B c : Mvs) : Mvs := if B.length < c.length then c else B
theorem bt2_no {B c : Mvs} (h : c.length ≤ B.length) : bt2 B c = B := if_neg (by omega)
theorem bt2_yes {B c : Mvs} (h : B.length < c.length) : bt2 B c = c := if_pos h
theorem bt2_len {B c : Mvs} {k : Nat} (h1 : B.length ≤ k) (h2 : c.length ≤ k) : (bt2 B c).length ≤ k := by
  unfold bt2
  split <;> assumption
theorem bt2_ge {B c : Mvs} : B.length ≤ (bt2 B c).length ∧ c.length ≤ (bt2 B c).length := by
  unfold bt2
  split <;> omega
theorem bt2_step {B P M R : Mvs} {x : Nat × Nat} (h : P.length ≤ B.length) : bt2 (bt2 (bt2 B (P ++ M)) (P ++ [x])) ((P ++ [x]) ++ R) = bt2 B (P ++ (if M.length < (x :: R).length then x :: R else M)) := by
  have l1 : (P ++ M).length = P.length + M.length := List.length_append
  have l2 : (P ++ [x]).length = P.length + 1 := List.length_append
  have l3 : ((P ++ [x]) ++ R).length = P.length + 1 + R.length := by rw [List.length_append, l2]
  have l4 : (x :: R).length = R.length + 1 := rfl
  have l5 : (P ++ x :: R).length = P.length + (R.length + 1) := List.length_append
  have l6 : (P ++ [x]) ++ R = P ++ x :: R := by rw [List.append_assoc]; rfl
  by_cases h1 : B.length < P.length + M.length
  · rw [bt2_yes (B := B) (c := P ++ M) (by omega), bt2_no (B := P ++ M) (c := P ++ [x]) (by omega)]
    by_cases h2 : M.length < R.length + 1
    · rw [if_pos (by omega), bt2_yes (by omega), bt2_yes (by omega), l6]
    · rw [if_neg (by omega), bt2_no (by omega), bt2_yes (by omega)]
  · rw [bt2_no (B := B) (c := P ++ M) (by omega)]
    by_cases h3 : B.length < P.length + 1
    · rw [bt2_yes (B := B) (c := P ++ [x]) (by omega), if_pos (by omega), bt2_yes (c := P ++ x :: R) (by omega)]
      by_cases h4 : R.length = 0
      · have : R = [] := List.eq_nil_of_length_eq_zero h4
        subst this
        rw [bt2_no (by omega)]
      · rw [bt2_yes (by omega), l6]
    · rw [bt2_no (B := B) (c := P ++ [x]) (by omega)]
      by_cases h2 : M.length < R.length + 1
      · rw [if_pos (by omega), l6]
      · rw [if_neg (by omega), bt2_no (by omega), bt2_no (by omega)]
/-- with so many left, these gone, this home to give -/
def lgF (N : Nat → Int32) : Nat → Nat → Int32 → Mvs
  | 0, _, _ => []
  | d + 1, S, h => if h = -1 then [] else pk2 (fun p => if S.testBit p || !mCould N p h.toNatClampNeg then [] else (p, h.toNatClampNeg) :: lgF N d (S + 2 ^ p) (N (80 + 18 * p + 4))) (nPo N)
def lf1 (N : Nat → Int32) (d S h p : Nat) : Mvs := match d with
  | 0 => []
  | d + 1 => if S.testBit p || !mCould N p h then [] else (p, h) :: lgF N d (S + 2 ^ p) (N (80 + 18 * p + 4))
theorem lgF_none {N : Nat → Int32} {S : Nat} : ∀ d, lgF N d S (-1) = []
  | 0 => rfl
  | d + 1 => if_pos rfl
theorem lgF_eq {N : Nat → Int32} {S h : Nat} (hh : h < 2 ^ 31) : ∀ d, lgF N d S (nI h) = pk2 (lf1 N d S h) (nPo N)
  | 0 => (pk2_none (fun _ _ => rfl)).symm
  | d + 1 => by
    rw [lgF, if_neg (nI_ne_m1 hh), nI_clamp hh]
    rfl
theorem lgF_len {N : Nat → Int32} : ∀ d S x, (lgF N d S x).length ≤ d
  | 0, _, _ => Nat.le_refl 0
  | d + 1, S, x => by
    rw [lgF]
    by_cases e : x = -1
    · rw [if_pos e]; exact Nat.zero_le _
    · rw [if_neg e]
      refine pk2_le (fun p _ => ?_)
      by_cases b : (S.testBit p || !mCould N p x.toNatClampNeg) = true
      · rw [if_pos b]; exact Nat.zero_le _
      · rw [if_neg b]
        exact Nat.succ_le_succ (lgF_len d _ _)
/-- the longest of all -/
def lAll (N : Nat → Int32) : Mvs := pk2 (fun h => if mFree N h then lgF N 8 0 (nI h) else []) (nHo N)
def aLongest (N : Nat → Int32) (k t : Int32) : An := if k < -1 then no 1 else if k = -1 then ok (nI (lAll N).length) else if k < nI (lAll N).length then ok (nI (if t = 0 then ((lAll N).getD k.toNatClampNeg (0, 0)).1 else ((lAll N).getD k.toNatClampNeg (0, 0)).2)) else no 5
/-- a row of moves as it lies -/
def Rw (J : MI) (a b : Nat) (l : Mvs) : Prop := ∀ k, k < l.length → J a k = nI (l.getD k (0, 0)).1 ∧ J b k = nI (l.getD k (0, 0)).2
theorem Rw.cg {I J : MI} {a b : Nat} {l : Mvs} (h : Rw I a b l) (h1 : J a = I a) (h2 : J b = I b) : Rw J a b l := fun k hk => by rw [h1, h2]; exact h k hk
theorem Rw.nil {J : MI} {a b : Nat} : Rw J a b [] := fun k hk => absurd hk (Nat.not_lt_zero k)
theorem gd_l {l r : Mvs} {k : Nat} (h : k < l.length) : (l ++ r).getD k (0, 0) = l.getD k (0, 0) := by
  rw [List.getD_eq_getElem?_getD, List.getD_eq_getElem?_getD, List.getElem?_append_left h]
theorem gd_r {l : Mvs} {x : Nat × Nat} : (l ++ [x]).getD l.length (0, 0) = x := by
  rw [List.getD_eq_getElem?_getD, List.getElem?_append_right (Nat.le_refl _), Nat.sub_self]
  rfl
theorem Rw.snoc {I : MI} {a b p h : Nat} {l : Mvs} (hr : Rw I a b l) (hab : a ≠ b) : Rw (upI (upI I a l.length (nI p)) b l.length (nI h)) a b (l ++ [(p, h)]) := by
  intro k hk
  rw [List.length_append] at hk
  have hk : k < l.length + 1 := hk
  by_cases e : k = l.length
  · subst e
    rw [gd_r]
    exact ⟨(upI_n (Or.inl hab)).trans upI_s, upI_s⟩
  · rw [gd_l (by omega), upI_n (Or.inl hab), upI_n (Or.inr e), upI_n (Or.inr e), upI_n (Or.inl hab.symm)]
    exact hr k (by omega)
def MvF (m : Nat) (I J : MI) : Prop := (∀ x, x ≠ m → x ≠ m + 10 → x ≠ m + 11 → x ≠ m + 12 → x ≠ m + 13 → J x = I x) ∧ ∀ f, f ≠ 30 → J m f = I m f
theorem MvF.rf {m : Nat} {I : MI} : MvF m I I := ⟨fun _ _ _ _ _ _ => rfl, fun _ _ => rfl⟩
theorem MvF.put {m : Nat} {I J : MI} {a k : Nat} {v : Int32} (h : MvF m I J) (ha : (a = m ∧ k = 30) ∨ a = m + 10 ∨ a = m + 11 ∨ a = m + 12 ∨ a = m + 13) : MvF m I (upI J a k v) := ⟨fun x h1 h2 h3 h4 h5 => (if_neg (by omega)).trans (h.1 x h1 h2 h3 h4 h5), fun f hf => (upI_n (by omega)).trans (h.2 f hf)⟩
theorem MvF.tr {m : Nat} {I J K : MI} (h : MvF m I J) (h2 : MvF m J K) : MvF m I K := ⟨fun x a b c d e => (h2.1 x a b c d e).trans (h.1 x a b c d e), fun f hf => (h2.2 f hf).trans (h.2 f hf)⟩
def Bst (m : Nat) (J : MI) (B : Mvs) : Prop := J m 30 = nI B.length ∧ Rw J (m + 12) (m + 13) B
