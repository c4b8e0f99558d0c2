/-! reading a text: bytes, tokens -/
def tb (T : Nat → Int32) (s k : Nat) : Int32 := if k < s then T k else -1
def runF (P : Int32 → Bool) (T : Nat → Int32) (s : Nat) : Nat → Nat → Nat
  | 0, t => t
  | d + 1, t => if P (tb T s t) then runF P T s d (t + 1) else t
def runT (P : Int32 → Bool) (T : Nat → Int32) (s t : Nat) : Nat := runF P T s (s - t) t
theorem tb_lt {P : Int32 → Bool} {T : Nat → Int32} {s t : Nat} (h : P (tb T s t) = true) (h1 : P (-1) = false) : t < s := by
  by_cases ht : t < s
  · exact ht
  · unfold tb at h
    rw [if_neg ht, h1] at h
    cases h
theorem runT_t {P : Int32 → Bool} {T : Nat → Int32} {s t : Nat} (h : P (tb T s t) = true) (h1 : P (-1) = false) : runT P T s t = runT P T s (t + 1) := by
  have ht := tb_lt h h1
  unfold runT
  have e : s - t = (s - (t + 1)) + 1 := by omega
  rw [e]
  show (if P (tb T s t) then _ else _) = _
  rw [if_pos h]
theorem runT_f {P : Int32 → Bool} {T : Nat → Int32} {s t : Nat} (h : P (tb T s t) = false) : runT P T s t = t := by
  unfold runT
  cases hd : s - t with
  | zero => rfl
  | succ d =>
    show (if P (tb T s t) then _ else _) = _
    rw [h]
    rfl
theorem runF_ge {P : Int32 → Bool} {T : Nat → Int32} {s : Nat} : ∀ d t, t ≤ runF P T s d t ∧ runF P T s d t ≤ t + d := by
  intro d
  induction d with
  | zero => intro t; exact ⟨Nat.le_refl _, Nat.le_refl _⟩
  | succ d ih =>
    intro t
    show t ≤ (if P (tb T s t) then _ else _) ∧ (if P (tb T s t) then _ else _) ≤ _
    split
    · have := ih (t + 1)
      omega
    · omega
theorem runT_ge {P : Int32 → Bool} {T : Nat → Int32} {s t : Nat} : t ≤ runT P T s t := (runF_ge _ _).1
theorem runT_le {P : Int32 → Bool} {T : Nat → Int32} {s t : Nat} (h : t ≤ s) : runT P T s t ≤ s := by
  have := (runF_ge (P := P) (T := T) (s := s) (s - t) t).2
  unfold runT
  omega
theorem runT_gt {P : Int32 → Bool} {T : Nat → Int32} {s t : Nat} (h : P (tb T s t) = true) (h1 : P (-1) = false) : t < runT P T s t := by
  rw [runT_t h h1]
  exact runT_ge
def isSpc (c : Int32) : Bool := decide (c = 32) || decide (c = 10)
def wrd (T : Nat → Int32) (s f : Nat) : Nat → Int64
  | 0 => 0
  | i + 1 => jnd (wrd T s f i) (tb T s (f + i))
def nmb (T : Nat → Int32) (s f : Nat) : Nat → Int32
  | 0 => 0
  | i + 1 => 10 * nmb T s f i + tb T s (f + i) - 48
/-- from, to, kind (0 end, 1 none, 2 word, 3 number, 4 semicolon), word, number -/
abbrev Tk : Type := Nat × Nat × Nat × Int64 × Int32
def tokE (f : Nat) : Tk := (f, f, 0, 0, 0)
def tokW (T : Nat → Int32) (s f : Nat) : Tk := (f, runT isLet T s f, if 8 < runT isLet T s f - f then 1 else 2, wrd T s f (min 8 (runT isLet T s f - f)), 0)
def tokN (T : Nat → Int32) (s f : Nat) : Tk := (f, runT isDig T s f, if 3 < runT isDig T s f - f then 1 else 3, 0, nmb T s f (min 3 (runT isDig T s f - f)))
def tokX (T : Nat → Int32) (s f : Nat) : Tk := (f, f + 1, if tb T s f = 59 then 4 else 1, 0, 0)
def tokAt (T : Nat → Int32) (s f : Nat) : Tk := if tb T s f = -1 then tokE f else if isLet (tb T s f) then tokW T s f else if isDig (tb T s f) then tokN T s f else tokX T s f
def tok (T : Nat → Int32) (s t : Nat) : Tk := tokAt T s (runT isSpc T s t)
theorem tok_le {T : Nat → Int32} {s t : Nat} (h : t ≤ s) : t ≤ (tok T s t).1 ∧ (tok T s t).1 ≤ (tok T s t).2.1 ∧ (tok T s t).2.1 ≤ s ∧ ((tok T s t).2.2.1 ≠ 0 → (tok T s t).1 < (tok T s t).2.1) ∧ (tok T s t).2.2.1 ≤ 4 := by
  have h1 : t ≤ runT isSpc T s t := runT_ge
  have h2 : runT isSpc T s t ≤ s := runT_le h
  unfold tok tokAt
  generalize runT isSpc T s t = f at h1 h2
  by_cases c1 : tb T s f = -1
  · rw [if_pos c1]
    exact ⟨h1, Nat.le_refl _, h2, fun q => absurd rfl q, Nat.zero_le _⟩
  · rw [if_neg c1]
    have h3 : f < s := by
      by_cases q : f < s
      · exact q
      · exact absurd (if_neg q) c1
    by_cases c2 : isLet (tb T s f) = true
    · rw [if_pos c2]
      refine ⟨h1, runT_ge, runT_le h2, fun _ => runT_gt c2 rfl, ?_⟩
      show (if 8 < runT isLet T s f - f then 1 else 2) ≤ 4
      split <;> decide
    · rw [if_neg c2]
      by_cases c3 : isDig (tb T s f) = true
      · rw [if_pos c3]
        refine ⟨h1, runT_ge, runT_le h2, fun _ => runT_gt c3 rfl, ?_⟩
        show (if 3 < runT isDig T s f - f then 1 else 3) ≤ 4
        split <;> decide
      · rw [if_neg c3]
        refine ⟨h1, Nat.le_succ _, h3, fun _ => Nat.lt_succ_self _, ?_⟩
        show (if tb T s f = 59 then 4 else 1) ≤ 4
        split <;> decide
theorem tok_end {T : Nat → Int32} {s t f : Nat} (hf : f = runT isSpc T s t) (h : tb T s f = -1) : tok T s t = tokE f := by
  subst hf
  exact if_pos h
theorem tok_w {T : Nat → Int32} {s t f : Nat} (hf : f = runT isSpc T s t) (h : ¬ tb T s f = -1) (h2 : isLet (tb T s f) = true) : tok T s t = tokW T s f := by
  subst hf
  exact (if_neg h).trans (if_pos h2)
theorem tok_n {T : Nat → Int32} {s t f : Nat} (hf : f = runT isSpc T s t) (h : ¬ tb T s f = -1) (h2 : isLet (tb T s f) = false) (h3 : isDig (tb T s f) = true) : tok T s t = tokN T s f := by
  subst hf
  exact (if_neg h).trans ((if_neg (by rw [h2]; exact Bool.false_ne_true)).trans (if_pos h3))
theorem tok_x {T : Nat → Int32} {s t f : Nat} (hf : f = runT isSpc T s t) (h : ¬ tb T s f = -1) (h2 : isLet (tb T s f) = false) (h3 : isDig (tb T s f) = false) : tok T s t = tokX T s f := by
  subst hf
  exact (if_neg h).trans ((if_neg (by rw [h2]; exact Bool.false_ne_true)).trans (if_neg (by rw [h3]; exact Bool.false_ne_true)))
theorem fI_s {I : MI} {a k : Nat} {v : Int32} : upI I a k v a k = v := by
  rw [upI_row rfl]
  exact pk_us
theorem fI_n {I : MI} {a k j : Nat} {v x : Int32} (h : j ≠ k) (hx : I a j = x) : upI I a k v a j = x := by
  rw [upI_row rfl, pk_un h]
  exact hx
theorem fL_s {L : ML} {a k : Nat} {v : Int64} : upL L a k v a k = v := by
  unfold upL
  rw [if_pos rfl]
  exact pk_uLs
/-- what a token's reading leaves as it was -/
def GoF (m : Nat) (I J : MI) (L M : ML) : Prop := (∀ a, a ≠ m → J a = I a) ∧ (∀ k, k ≠ 14 → k ≠ 15 → k ≠ 16 → k ≠ 17 → J m k = I m k) ∧ ∀ a, a ≠ m → M a = L a
theorem GoF.rf {m : Nat} {I : MI} {L : ML} : GoF m I I L L := ⟨fun _ _ => rfl, fun _ _ _ _ _ => rfl, fun _ _ => rfl⟩
theorem GoF.put {m k : Nat} {I J : MI} {L M : ML} {v : Int32} (h : GoF m I J L M) (hk : k = 14 ∨ k = 15 ∨ k = 16 ∨ k = 17) : GoF m I (upI J m k v) L M := by
  refine ⟨fun a ha => (if_neg ha).trans (h.1 a ha), fun j h1 h2 h3 h4 => ?_, h.2.2⟩
  exact fI_n (by omega) (h.2.1 j h1 h2 h3 h4)
theorem GoF.putL {m k : Nat} {I J : MI} {L M : ML} {v : Int64} (h : GoF m I J L M) : GoF m I J L (upL M m k v) := ⟨h.1, h.2.1, fun a ha => (if_neg ha).trans (h.2.2 a ha)⟩
def At (I : MI) (L : ML) (m : Nat) (T : Nat → Int32) (s : Nat) (k : Tk) : Prop := I (m + 5) = T ∧ I m 13 = nI s ∧ I m 14 = nI k.1 ∧ I m 15 = nI k.2.1 ∧ I m 16 = nI k.2.2.1 ∧ (k.2.2.1 = 2 → L m 21 = k.2.2.2.1) ∧ (k.2.2.1 = 3 → I m 17 = k.2.2.2.2)
def GoP (z n : Nat) (sh : Shp) (I : MI) (L : ML) (m : Nat) (T : Nat → Int32) (s t : Nat) : PoT := fun v z' n' sh' J M => v = none ∧ z' = z ∧ n' = n ∧ sh' = sh ∧ GoF m I J L M ∧ At J M m T s (tok T s t)
theorem isSpc_t {c : Int32} (h : c = 32 ∨ c = 10) : isSpc c = true := by
  unfold isSpc
  rcases h with h | h <;> simp [h]
theorem isSpc_f {c : Int32} (h : ¬ c = 32) (h2 : ¬ c = 10) : isSpc c = false := by
  unfold isSpc
  simp [h, h2]
theorem wrd_go {T : Nat → Int32} {s f t : Nat} (h : f ≤ t) (h8 : t - f < 8) : jnd (wrd T s f (min 8 (t - f))) (tb T s t) = wrd T s f (min 8 (t + 1 - f)) := by
  have e1 : min 8 (t - f) = t - f := by omega
  have e2 : min 8 (t + 1 - f) = (t - f) + 1 := by omega
  have e3 : f + (t - f) = t := by omega
  rw [e1, e2]
  show _ = jnd (wrd T s f (t - f)) (tb T s (f + (t - f)))
  rw [e3]
theorem wrd_st {T : Nat → Int32} {s f t : Nat} (h8 : 8 ≤ t - f) : wrd T s f (min 8 (t - f)) = wrd T s f (min 8 (t + 1 - f)) := by
  have e1 : min 8 (t - f) = 8 := by omega
  have e2 : min 8 (t + 1 - f) = 8 := by omega
  rw [e1, e2]
theorem nmb_go {T : Nat → Int32} {s f t : Nat} (h : f ≤ t) (h8 : t - f < 3) : 10 * nmb T s f (min 3 (t - f)) + (tb T s t) - 48 = nmb T s f (min 3 (t + 1 - f)) := by
  have e1 : min 3 (t - f) = t - f := by omega
  have e2 : min 3 (t + 1 - f) = (t - f) + 1 := by omega
  have e3 : f + (t - f) = t := by omega
  rw [e1, e2]
  show _ = 10 * nmb T s f (t - f) + tb T s (f + (t - f)) - 48
  rw [e3]
theorem nmb_st {T : Nat → Int32} {s f t : Nat} (h8 : 3 ≤ t - f) : nmb T s f (min 3 (t - f)) = nmb T s f (min 3 (t + 1 - f)) := by
  have e1 : min 3 (t - f) = 3 := by omega
  have e2 : min 3 (t + 1 - f) = 3 := by omega
  rw [e1, e2]
