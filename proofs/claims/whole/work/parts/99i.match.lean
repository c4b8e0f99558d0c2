/-! matchings: the most, and when one more can't be placed -/
theorem cnt_del {R : Nat → Bool} {y : Nat} (hy : R y = true) : ∀ {m : Nat}, y < m → fa_cnt R m = fa_cnt (fun w => R w && !decide (w = y)) m + 1
  | m + 1, h => by
    by_cases e : m = y
    · subst e
      rw [fa_cnt_yes hy, fa_cnt_no (p := fun w => R w && !decide (w = m)) (by simp)]
      refine congrArg (· + 1) (fa_cnt_cong (fun k hk => ?_))
      rw [decide_eq_false (show ¬ k = m by omega), Bool.not_false, Bool.and_true]
    · have ih := cnt_del hy (m := m) (by omega)
      have e2 : (R m && !decide (m = y)) = R m := by rw [decide_eq_false e, Bool.not_false, Bool.and_true]
      cases b : R m with
      | true =>
        rw [fa_cnt_yes b, fa_cnt_yes (p := fun w => R w && !decide (w = y)) (e2.trans b), ih]
      | false =>
        rw [fa_cnt_no b, fa_cnt_no (p := fun w => R w && !decide (w = y)) (e2.trans b), ih]
theorem cnt_inj {P : Nat → Bool} {f : Nat → Nat} {m : Nat} : ∀ {n : Nat} {R : Nat → Bool}, (∀ x, x < n → P x = true → f x < m ∧ R (f x) = true) → (∀ x y, x < n → y < n → P x = true → P y = true → f x = f y → x = y) → fa_cnt P n ≤ fa_cnt R m
  | 0, _, _, _ => Nat.zero_le _
  | n + 1, R, h, hi => by
    cases b : P n with
    | false =>
      rw [fa_cnt_no b]
      exact cnt_inj (fun x hx => h x (by omega)) (fun x y hx hy => hi x y (by omega) (by omega))
    | true =>
      obtain ⟨h1, h2⟩ := h n (by omega) b
      rw [fa_cnt_yes b, cnt_del h2 h1]
      refine Nat.succ_le_succ (cnt_inj (fun x hx hp => ⟨(h x (by omega) hp).1, ?_⟩) (fun x y hx hy => hi x y (by omega) (by omega)))
      show (R (f x) && !decide (f x = f n)) = true
      rw [(h x (by omega) hp).2, decide_eq_false (fun e => ?_)]
      · rfl
      · have := hi x n (by omega) (by omega) hp b e
        omega
def MtC (C : Nat → Nat → Bool) (a b g : Nat) (f : Nat → Nat) : Prop := ∀ s, a ≤ s → s < b → f s < 10 → C s (f s) = true ∧ g.testBit (f s) = false ∧ ∀ r, a ≤ r → r < b → f r = f s → r = s
def sz (a : Nat) (f : Nat → Nat) (b : Nat) : Nat := fa_cnt (fun s => decide (a ≤ s) && decide (f s < 10)) b
def IsMx (C : Nat → Nat → Bool) (a b g k : Nat) : Prop := (∃ f, MtC C a b g f ∧ sz a f b = k) ∧ ∀ f, MtC C a b g f → sz a f b ≤ k
theorem IsMx.un {C : Nat → Nat → Bool} {a b g k l : Nat} (h : IsMx C a b g k) (h2 : IsMx C a b g l) : k = l := by
  obtain ⟨⟨f, f1, f2⟩, f3⟩ := h
  obtain ⟨⟨e, e1, e2⟩, e3⟩ := h2
  have := f3 e e1
  have := e3 f f1
  omega
theorem sz_0 {a : Nat} {f : Nat → Nat} {b : Nat} (h : b ≤ a) : sz a f b = 0 := (cnt0_iff b).mpr (fun s hs => by rw [decide_eq_false (by omega), Bool.false_and])
theorem sz_step {p : Nat} {f : Nat → Nat} : ∀ {n : Nat}, p < n → sz p f n = (if f p < 10 then 1 else 0) + sz (p + 1) f n
  | n + 1, h => by
    by_cases e : p = n
    · subst e
      rw [sz_0 (a := p + 1) (Nat.le_refl _)]
      have h0 := sz_0 (a := p) (f := f) (b := p) (Nat.le_refl _)
      unfold sz at h0 ⊢
      by_cases q : f p < 10
      · rw [fa_cnt_yes (by rw [decide_eq_true (Nat.le_refl p), decide_eq_true q]; rfl), h0, if_pos q]
      · rw [fa_cnt_no (by rw [decide_eq_false q, Bool.and_false]), h0, if_neg q]
    · have ih := sz_step (p := p) (f := f) (n := n) (by omega)
      unfold sz at ih ⊢
      have e1 : decide (p ≤ n) = true := decide_eq_true (by omega)
      have e2 : decide (p + 1 ≤ n) = true := decide_eq_true (by omega)
      by_cases q : f n < 10
      · rw [fa_cnt_yes (by rw [e1, decide_eq_true q]; rfl), fa_cnt_yes (p := fun s => decide (p + 1 ≤ s) && decide (f s < 10)) (by rw [e2, decide_eq_true q]; rfl), ih]
        omega
      · rw [fa_cnt_no (by rw [decide_eq_false q, Bool.and_false]), fa_cnt_no (p := fun s => decide (p + 1 ≤ s) && decide (f s < 10)) (by rw [decide_eq_false q, Bool.and_false]), ih]
theorem sz_cong {a : Nat} {f e : Nat → Nat} {b : Nat} (h : ∀ s, a ≤ s → s < b → (f s < 10 ↔ e s < 10)) : sz a f b = sz a e b := by
  refine fa_cnt_cong (fun s hs => ?_)
  by_cases h1 : a ≤ s
  · by_cases h2 : f s < 10
    · rw [decide_eq_true h2, decide_eq_true ((h s h1 hs).mp h2)]
    · rw [decide_eq_false h2, decide_eq_false (fun z => h2 ((h s h1 hs).mpr z))]
  · rw [decide_eq_false h1, Bool.false_and, Bool.false_and]
theorem bit_add10 : ∀ c, c < 1024 → ∀ p, p < 10 → c.testBit p = false → c + 2 ^ p < 1024 ∧ ∀ i, i < 10 → (c + 2 ^ p).testBit i = (c.testBit i || decide (i = p)) := by decide +kernel
theorem gvB_f {C : Nat → Bool} {f : Nat → Nat} {g : Nat} : ∀ H, f g ≤ gvB C f g H
  | 0 => Nat.le_refl _
  | H + 1 => by
    have := gvB_f (C := C) (f := f) (g := g) H
    show _ ≤ (if _ then _ else _)
    split
    · exact Nat.le_trans this (Nat.le_max_left _ _)
    · exact this
theorem gvB_h {C : Nat → Bool} {f : Nat → Nat} {g h : Nat} (hg : g.testBit h = false) (hc : C h = true) : ∀ {H}, h < H → 1 + f (g + 2 ^ h) ≤ gvB C f g H
  | H + 1, hh => by
    show _ ≤ (if _ then _ else _)
    by_cases e : h = H
    · subst e
      rw [if_pos (by rw [hg, hc]; rfl)]
      exact Nat.le_max_right _ _
    · have := gvB_h (f := f) hg hc (H := H) (by omega)
      split
      · exact Nat.le_trans this (Nat.le_max_left _ _)
      · exact this
theorem gvB_is {C : Nat → Bool} {f : Nat → Nat} {g : Nat} : ∀ H, gvB C f g H = f g ∨ ∃ h, h < H ∧ g.testBit h = false ∧ C h = true ∧ gvB C f g H = 1 + f (g + 2 ^ h)
  | 0 => Or.inl rfl
  | H + 1 => by
    have ih := gvB_is (C := C) (f := f) (g := g) H
    have e : gvB C f g (H + 1) = if (!g.testBit H && C H) = true then max (gvB C f g H) (1 + f (g + 2 ^ H)) else gvB C f g H := rfl
    by_cases b : (!g.testBit H && C H) = true
    · rw [if_pos b] at e
      rcases Nat.le_total (gvB C f g H) (1 + f (g + 2 ^ H)) with q | q
      · have hb := andT b
        refine Or.inr ⟨H, by omega, ?_, hb.2, by rw [e, Nat.max_eq_right q]⟩
        cases w : g.testBit H with
        | false => rfl
        | true => rw [w] at hb; exact absurd hb.1 (by decide)
      · rw [Nat.max_eq_left q] at e
        rw [e]
        rcases ih with w | ⟨h, w1, w2, w3, w4⟩
        · exact Or.inl w
        · exact Or.inr ⟨h, by omega, w2, w3, w4⟩
    · rw [if_neg b] at e
      rw [e]
      rcases ih with w | ⟨h, w1, w2, w3, w4⟩
      · exact Or.inl w
      · exact Or.inr ⟨h, by omega, w2, w3, w4⟩
/-- who could be given what -/
def mEd (N : Nat → Int32) (p h : Nat) : Bool := decide (h < nHo N) && mCan N p h
def pt (p v : Nat) (f : Nat → Nat) (s : Nat) : Nat := if s = p then v else f s
theorem pt_y {p v s : Nat} {f : Nat → Nat} (h : s = p) : pt p v f s = v := if_pos h
theorem pt_n {p v s : Nat} {f : Nat → Nat} (h : ¬ s = p) : pt p v f s = f s := if_neg h
theorem mGv_mx {N : Nat → Int32} (h10 : nHo N ≤ 10) : ∀ d p g, p + d = nPo N → g < 1024 → IsMx (mEd N) p (nPo N) g (mGv N p g)
  | 0, p, g, hp, hg => by
    have : p = nPo N := by omega
    subst this
    rw [mGv_end]
    exact ⟨⟨fun _ => 10, fun s _ _ h => absurd h (Nat.lt_irrefl 10), sz_0 (Nat.le_refl _)⟩, fun f _ => by rw [sz_0 (Nat.le_refl _)]; exact Nat.le_refl 0⟩
  | d + 1, p, g, hp, hg => by
    have ih := mGv_mx (N := N) h10 d (p + 1)
    have hpl : p < nPo N := by omega
    rw [mGv_step hpl]
    constructor
    · rcases gvB_is (C := mCan N p) (f := mGv N (p + 1)) (g := g) (nHo N) with e | ⟨h, h1, h2, h3, e⟩
      · obtain ⟨⟨f, f1, f2⟩, -⟩ := ih g (by omega) hg
        refine ⟨pt p 10 f, fun s s1 s2 s3 => ?_, ?_⟩
        · by_cases w : s = p
          · rw [pt_y w] at s3
            exact absurd s3 (Nat.lt_irrefl 10)
          · rw [pt_n w] at s3 ⊢
            obtain ⟨a1, a2, a3⟩ := f1 s (by omega) s2 s3
            refine ⟨a1, a2, fun r r1 r2 r3 => ?_⟩
            by_cases w2 : r = p
            · rw [pt_y w2] at r3
              omega
            · rw [pt_n w2] at r3
              exact a3 r (by omega) r2 r3
        · rw [sz_step hpl, pt_y rfl, if_neg (Nat.lt_irrefl 10), e, ← f2, Nat.zero_add]
          exact sz_cong (fun s s1 s2 => by rw [pt_n (by omega)])
      · obtain ⟨b1, b2⟩ := bit_add10 g hg h (by omega) h2
        obtain ⟨⟨f, f1, f2⟩, -⟩ := ih (g + 2 ^ h) (by omega) b1
        refine ⟨pt p h f, fun s s1 s2 s3 => ?_, ?_⟩
        · by_cases w : s = p
          · rw [pt_y w]
            rw [w]
            refine ⟨by unfold mEd; rw [decide_eq_true h1, h3]; rfl, h2, fun r r1 r2 r3 => ?_⟩
            by_cases w2 : r = p
            · exact w2
            · rw [pt_n w2] at r3
              obtain ⟨-, a2, -⟩ := f1 r (by omega) r2 (by omega)
              rw [r3, b2 h (by omega)] at a2
              simp at a2
          · rw [pt_n w] at s3 ⊢
            obtain ⟨a1, a2, a3⟩ := f1 s (by omega) s2 s3
            rw [b2 _ s3, Bool.or_eq_false_iff] at a2
            refine ⟨a1, a2.1, fun r r1 r2 r3 => ?_⟩
            by_cases w2 : r = p
            · rw [pt_y w2] at r3
              exact absurd r3.symm (of_decide_eq_false a2.2)
            · rw [pt_n w2] at r3
              exact a3 r (by omega) r2 r3
        · rw [sz_step hpl, pt_y rfl, if_pos (by omega), e, ← f2]
          exact congrArg (1 + ·) (sz_cong (fun s s1 s2 => by rw [pt_n (by omega)]))
    · intro f hf
      rw [sz_step hpl]
      by_cases w : f p < 10
      · obtain ⟨a1, a2, a3⟩ := hf p (Nat.le_refl p) hpl w
        unfold mEd at a1
        obtain ⟨a4, a5⟩ := andT a1
        have a4 := of_decide_eq_true a4
        obtain ⟨b1, b2⟩ := bit_add10 g hg (f p) w a2
        obtain ⟨-, hm⟩ := ih (g + 2 ^ f p) (by omega) b1
        rw [if_pos w]
        refine Nat.le_trans (Nat.add_le_add_left (hm f (fun s s1 s2 s3 => ?_)) 1) (gvB_h (f := mGv N (p + 1)) a2 a5 a4)
        obtain ⟨c1, c2, c3⟩ := hf s (by omega) s2 s3
        refine ⟨c1, ?_, fun r r1 r2 r3 => c3 r (by omega) r2 r3⟩
        rw [b2 _ s3, c2, Bool.false_or]
        refine decide_eq_false (fun e => ?_)
        have := a3 s (by omega) s2 e
        omega
      · obtain ⟨-, hm⟩ := ih g (by omega) hg
        rw [if_neg w, Nat.zero_add]
        refine Nat.le_trans (hm f (fun s s1 s2 s3 => ?_)) (gvB_f (nHo N))
        obtain ⟨c1, c2, c3⟩ := hf s (by omega) s2 s3
        exact ⟨c1, c2, fun r r1 r2 r3 => c3 r (by omega) r2 r3⟩
