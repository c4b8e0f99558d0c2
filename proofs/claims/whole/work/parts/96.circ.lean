/-! circles of trades: who is in one; how many move -/
theorem pigeon {g : Nat → Nat} (hg : ∀ i, i ≤ 8 → g i < 8) : ∃ a b, a < b ∧ b ≤ 8 ∧ g a = g b := by
  refine Classical.byContradiction (fun hno => ?_)
  have hd : ∀ a b, a < b → b ≤ 8 → g a ≠ g b := fun a b h1 h2 e => hno ⟨a, b, h1, h2, e⟩
  have key : ∀ k, k ≤ 9 → ∃ c, c < 256 ∧ pcn c = k ∧ ∀ i, i < 8 → (c.testBit i = true ↔ ∃ a, a < k ∧ g a = i) := by
    intro k
    induction k with
    | zero => exact fun _ => ⟨0, by decide, by decide, fun i hi => ⟨fun q => by simp at q, fun ⟨a, ha, _⟩ => absurd ha (Nat.not_lt_zero a)⟩⟩
    | succ k ih =>
      intro hk
      obtain ⟨c, hc, hp, hb⟩ := ih (by omega)
      have hgk := hg k (by omega)
      have hf : c.testBit (g k) = false := by
        cases hq : c.testBit (g k) with
        | false => rfl
        | true =>
          obtain ⟨a, ha, ea⟩ := (hb _ hgk).mp hq
          exact absurd ea (hd a k ha (by omega))
      obtain ⟨b1, b2⟩ := bit_add c hc (g k) hgk hf
      have hs : (c + 2 ^ g k).testBit (g k) = true := by rw [b2 _ hgk]; simp
      have hd2 := ((bit_all (c + 2 ^ g k) (by omega) (g k) (by omega)).2.2 hs).2.1
      rw [Nat.add_sub_cancel] at hd2
      refine ⟨c + 2 ^ g k, b1, by omega, fun i hi => ?_⟩
      rw [b2 i hi, Bool.or_eq_true, hb i hi, decide_eq_true_eq]
      constructor
      · rintro (⟨a, ha, ea⟩ | e)
        · exact ⟨a, by omega, ea⟩
        · exact ⟨k, by omega, e.symm⟩
      · rintro ⟨a, ha, ea⟩
        by_cases e : a = k
        · subst e
          exact Or.inr ea.symm
        · exact Or.inl ⟨a, by omega, ea⟩
  obtain ⟨c, hc, hp, -⟩ := key 9 (Nat.le_refl 9)
  have := pcn_8 c hc
  omega
section Fix
variable {f : Nat → Nat} {v : Nat}
theorem itr_fix {p : Nat} (h : f p = p) : ∀ k, itr f k p = p
  | 0 => rfl
  | k + 1 => by rw [itr, h]; exact itr_fix h k
theorem fix_8 (hf : ∀ p, p < 8 → v.testBit p = true → f p < 8 ∧ v.testBit (f p) = true) {s p m : Nat} (hs : s < 8) (hv : v.testBit s = true) (hm : itr f m s = p) (hp : f p = p) : itr f 8 s = p := by
  have hin : ∀ k, itr f k s < 8 ∧ v.testBit (itr f k s) = true := by
    intro k
    induction k with
    | zero => exact ⟨hs, hv⟩
    | succ k ih => rw [itr_succ]; exact hf _ ih.1 ih.2
  obtain ⟨a, b, hab, hb8, e⟩ := pigeon (g := fun i => itr f i s) (fun i _ => (hin i).1)
  have e : itr f a s = itr f b s := e
  have per : ∀ n, ∃ j, a ≤ j ∧ j < b ∧ itr f (a + n) s = itr f j s := by
    intro n
    induction n with
    | zero => exact ⟨a, Nat.le_refl _, hab, rfl⟩
    | succ n ih =>
      obtain ⟨j, j1, j2, ej⟩ := ih
      rw [show a + (n + 1) = (a + n) + 1 from rfl, itr_succ, ej, ← itr_succ f j s]
      by_cases hj : j + 1 = b
      · exact ⟨a, Nat.le_refl _, hab, by rw [hj, e]⟩
      · exact ⟨j + 1, by omega, by omega, rfl⟩
  have reach : ∀ j, j ≤ 8 → itr f j s = p → itr f 8 s = p := fun j hj ej => by
    rw [show 8 = j + (8 - j) by omega, itr_add, ej]
    exact itr_fix hp _
  rcases Nat.lt_or_ge m a with h1 | h1
  · exact reach m (by omega) hm
  · obtain ⟨j, -, j2, ej⟩ := per (m - a)
    rw [show a + (m - a) = m by omega, hm] at ej
    exact reach j (by omega) ej.symm
end Fix
section Cir
variable {N : Nat → Int32} {v : Nat}
/-- all in a circle are reached from its first -/
theorem cir_itr : ∀ (d c p i : Nat), (cir N v d c p).testBit i = true → i < 8 → p < 8 → c < 256 → (∀ k, itr (tnx N v) k p < 8) → c.testBit i = true ∨ ∃ k, itr (tnx N v) k p = i
  | 0, c, p, i, h, _, _, _, _ => Or.inl h
  | d + 1, c, p, i, h, hi, hp, hc, hk => by
    rw [cir] at h
    cases hb : c.testBit p with
    | true => rw [hb, if_pos rfl] at h; exact Or.inl h
    | false =>
      rw [hb, if_neg (by decide)] at h
      obtain ⟨b1, b2⟩ := bit_add c hc p hp hb
      rcases cir_itr d (c + 2 ^ p) (tnx N v p) i h hi (hk 1) b1 (fun k => hk (k + 1)) with q | ⟨k, ek⟩
      · rw [b2 i hi, Bool.or_eq_true, decide_eq_true_eq] at q
        rcases q with q | q
        · exact Or.inl q
        · exact Or.inr ⟨0, q.symm⟩
      · exact Or.inr ⟨k + 1, ek⟩
theorem pcn_two {p : Nat} (hp : p < 8) : pcn (0 + 2 ^ p) = 1 := by
  have : ∀ p, p < 8 → pcn (0 + 2 ^ p) = 1 := by decide +kernel
  exact this p hp
theorem cir_fix {p : Nat} (hp : p < 8) (h : tnx N v p = p) : cir N v 9 0 p = 0 + 2 ^ p := by
  rw [cir, if_neg (by simp), h]
  show cir N v 8 (0 + 2 ^ p) p = _
  rw [cir, if_pos]
  have : ∀ p, p < 8 → (0 + 2 ^ p).testBit p = true := by decide +kernel
  exact this p hp
theorem pcn_bit {c p : Nat} (hc : c < 256) (hp : p < 8) (h : c.testBit p = true) : pcn (c - 2 ^ p) + 1 = pcn c := ((bit_all c (by omega) p (by omega)).2.2 h).2.1
theorem pcn_add {c p : Nat} (hc : c < 256) (hp : p < 8) (h : c.testBit p = false) : pcn (c + 2 ^ p) = pcn c + 1 := by
  obtain ⟨b1, b2⟩ := bit_add c hc p hp h
  have hs : (c + 2 ^ p).testBit p = true := by rw [b2 _ hp]; simp
  have := pcn_bit b1 hp hs
  rw [Nat.add_sub_cancel] at this
  omega
theorem two_bits {c p q : Nat} (hc : c < 256) (hp : p < 8) (hq : q < 8) (h1 : c.testBit p = true) (h2 : c.testBit q = true) (hne : q ≠ p) : 1 < pcn c := by
  have a := pcn_bit hc hp h1
  have b : (c - 2 ^ p).testBit q = true := by rw [sub_bit c hc p hp h1 q hq, h2]; simp [hne]
  have := pcn_bit (Nat.lt_of_le_of_lt (Nat.sub_le _ _) hc) hq b
  omega
theorem cir_closed (hin : ∀ p, p < 8 → v.testBit p = true → tnx N v p < 8 ∧ v.testBit (tnx N v p) = true) : ∀ (d c p : Nat), d + pcn c = 9 → c < 256 → p < 8 → v.testBit p = true → (∀ i, i < 8 → c.testBit i = true → v.testBit i = true ∧ (c.testBit (tnx N v i) = true ∨ tnx N v i = p)) → ∀ i, i < 8 → (cir N v d c p).testBit i = true → (cir N v d c p).testBit (tnx N v i) = true
  | 0, c, p, hd, hc, _, _, _ => by have := pcn_8 c hc; omega
  | d + 1, c, p, hd, hc, hp, hv, hcl => by
    intro i hi
    rw [cir]
    cases hb : c.testBit p with
    | true =>
      rw [if_pos rfl]
      intro h
      rcases (hcl i hi h).2 with q | q
      · exact q
      · rw [q]; exact hb
    | false =>
      rw [if_neg (by decide)]
      obtain ⟨b1, b2⟩ := bit_add c hc p hp hb
      obtain ⟨n1, n2⟩ := hin p hp hv
      refine cir_closed hin d (c + 2 ^ p) (tnx N v p) (by rw [pcn_add hc hp hb]; omega) b1 n1 n2 (fun j hj hjb => ?_) i hi
      rw [b2 j hj, Bool.or_eq_true, decide_eq_true_eq] at hjb
      rcases hjb with q | q
      · obtain ⟨a1, a2⟩ := hcl j hj q
        refine ⟨a1, Or.inl ?_⟩
        obtain ⟨m1, -⟩ := hin j hj a1
        rw [b2 _ m1]
        rcases a2 with a2 | a2
        · rw [a2]; rfl
        · rw [a2]; simp
      · subst q
        exact ⟨hv, Or.inr rfl⟩
/-- where one looks at its own home -/
theorem own_iff (hC : Co N) (hN : Cn N) (hL : Liv N v) {p : Nat} (hp : p < 8) (hv : v.testBit p = true) : tnx N v p = p ↔ nI (lkH N v p) = N (80 + 18 * p + 4) := by
  obtain ⟨l1, l2, l3, l4⟩ := lkH_ok hC hN hL hp hv
  obtain ⟨hpo, hho⟩ := hL.2 p hp hv
  have h8 := hN.p8
  have h10 := hN.h10
  constructor
  · intro e
    rw [e] at l4
    rcases hC.2.1 _ l1 with w | ⟨q, q1, q2, q3⟩
    · rw [w] at l4
      exact absurd l4.symm (nI_ne_m1 (by omega))
    · rw [q2] at l4
      have := (nI_eq (by omega) (by omega)).mp l4
      subst this
      exact q3.symm
  · intro e
    rcases hC.1 p hpo with w | ⟨h, h1, h2, h3⟩
    · exact absurd w hho
    · rw [h2] at e
      have := (nI_eq (by omega) (by omega)).mp e
      unfold tnx
      rw [this, h3]
      exact nI_clamp (by omega)
theorem circ_own (hC : Co N) (hN : Cn N) (hL : Liv N v) (h0 : ¬ v = 0) {p : Nat} (hp : p < 8) (hb : (tcir N v).testBit p = true) : (nI (lkH N v p) = N (80 + 18 * p + 4)) ↔ ¬ 1 < pcn (tcir N v) := by
  have hv8 := hL.1
  obtain ⟨c1, c2, -⟩ := ctz_all v hv8 h0
  have hf : ∀ p, p < 8 → v.testBit p = true → tnx N v p < 8 ∧ v.testBit (tnx N v p) = true := fun p hp hv => by
    obtain ⟨-, l2, l3, -⟩ := lkH_ok hC hN hL hp hv
    exact ⟨l2, l3⟩
  have hk8 := itr_in hC hN hL
  obtain ⟨x1, x2⟩ := hk8 8 (ctz v) c1 c2
  obtain ⟨⟨t1, t2⟩, -⟩ := tcir_ok hC hN hL h0
  have hvp := t2 p hp hb
  rw [← own_iff hC hN hL hp hvp]
  constructor
  · intro e hgt
    have hr := cir_itr 9 0 (itr (tnx N v) 8 (ctz v)) p hb hp x1 (by decide) (fun k => (hk8 k _ x1 x2).1)
    rcases hr with q | ⟨k, ek⟩
    · simp at q
    · have e8 := fix_8 hf c1 c2 (m := 8 + k) (p := p) (by rw [itr_add]; exact ek) e
      unfold tcir at hgt
      rw [e8, cir_fix hp e, pcn_two hp] at hgt
      omega
  · intro hle
    have hcl := cir_closed hf 9 0 (itr (tnx N v) 8 (ctz v)) (by decide) (by decide) x1 x2 (fun i _ q => by simp at q) p hp hb
    refine Classical.byContradiction (fun hne => hle ?_)
    exact two_bits t1 hp (hf p hp hvp).1 hb hcl hne
def mvC (N : Nat → Int32) (v0 : Nat) (t : TSt) : Nat := fa_cnt (fun p => v0.testBit p && !t.1.testBit p && !decide (nI (t.2.1 p) = N (80 + 18 * p + 4))) 8
theorem pcn_c8 : ∀ c, c < 256 → pcn c = fa_cnt (fun j => c.testBit j) 8 := by decide +kernel
theorem cnt_two {P R : Nat → Bool} : ∀ n, (∀ i, i < n → ¬ (P i = true ∧ R i = true)) → fa_cnt (fun i => P i || R i) n = fa_cnt P n + fa_cnt R n
  | 0, _ => rfl
  | n + 1, h => by
    have ih := cnt_two n (fun i hi => h i (by omega))
    have hn := h n (by omega)
    cases hp : P n with
    | true =>
      have hr : R n = false := by
        cases hr : R n with
        | false => rfl
        | true => exact absurd ⟨hp, hr⟩ hn
      rw [fa_cnt_yes hp, fa_cnt_no hr, fa_cnt_yes (p := fun i => P i || R i) (by simp [hp]), ih]
      omega
    | false =>
      cases hr : R n with
      | true =>
        rw [fa_cnt_no hp, fa_cnt_yes hr, fa_cnt_yes (p := fun i => P i || R i) (by simp [hr]), ih]
        omega
      | false => rw [fa_cnt_no hp, fa_cnt_no hr, fa_cnt_no (p := fun i => P i || R i) (by simp [hp, hr]), ih]
theorem mv_step (hC : Co N) (hN : Cn N) {v0 : Nat} {t : TSt} (hL : Liv N t.1) (hs : ∀ i, i < 8 → t.1.testBit i = true → v0.testBit i = true) (h0 : ¬ t.1 = 0) : mvC N v0 (tRound N t) = mvC N v0 t + (if 1 < pcn (tcir N t.1) then pcn (tcir N t.1) else 0) := by
  obtain ⟨⟨t1, t2⟩, -⟩ := tcir_ok hC hN hL h0
  have e1 : ∀ p, p < 8 → (v0.testBit p && !(tRound N t).1.testBit p && !decide (nI ((tRound N t).2.1 p) = N (80 + 18 * p + 4))) = ((v0.testBit p && !t.1.testBit p && !decide (nI (t.2.1 p) = N (80 + 18 * p + 4))) || ((tcir N t.1).testBit p && decide (1 < pcn (tcir N t.1)))) := fun p hp => by
    show (v0.testBit p && !(sdiff t.1 (tcir N t.1)).testBit p && !decide (nI (if (tcir N t.1).testBit p then lkH N t.1 p else t.2.1 p) = N (80 + 18 * p + 4))) = _
    rw [sdiff_bit (by omega)]
    cases hb : (tcir N t.1).testBit p with
    | true =>
      have h1 := t2 p hp hb
      have h2 := hs p hp h1
      have ho := circ_own hC hN hL h0 hp hb
      rw [h1, h2]
      simp only [if_true, Bool.not_true, Bool.and_false, Bool.not_false, Bool.and_true, Bool.true_and, Bool.false_and, Bool.false_or]
      by_cases hg : 1 < pcn (tcir N t.1)
      · rw [decide_eq_false (fun z => (ho.mp z) hg), decide_eq_true hg]
        rfl
      · rw [decide_eq_true (ho.mpr hg), decide_eq_false hg]
        rfl
    | false => simp
  have e2 : ∀ p, p < 8 → ¬ ((v0.testBit p && !t.1.testBit p && !decide (nI (t.2.1 p) = N (80 + 18 * p + 4))) = true ∧ ((tcir N t.1).testBit p && decide (1 < pcn (tcir N t.1))) = true) := fun p hp z => by
    have h1 := t2 p hp (andT z.2).1
    have z1 := z.1
    rw [h1] at z1
    simp at z1
  have e3 : fa_cnt (fun p => (tcir N t.1).testBit p && decide (1 < pcn (tcir N t.1))) 8 = if 1 < pcn (tcir N t.1) then pcn (tcir N t.1) else 0 := by
    by_cases hb : 1 < pcn (tcir N t.1)
    · rw [if_pos hb]
      refine Eq.trans ?_ (pcn_c8 _ t1).symm
      exact fa_cnt_cong (fun p hp => by rw [decide_eq_true hb, Bool.and_true])
    · rw [if_neg hb]
      exact (cnt0_iff 8).mpr (fun p hp => by rw [decide_eq_false hb, Bool.and_false])
  unfold mvC
  rw [fa_cnt_cong e1, cnt_two 8 e2, e3]
end Cir
