/-! matchings: when one more can't be placed; holders -/
theorem cnt_mono {P R : Nat → Bool} {n : Nat} (h : ∀ x, x < n → P x = true → R x = true) : fa_cnt P n ≤ fa_cnt R n := cnt_inj (f := fun x => x) (fun x hx hp => ⟨hx, h x hx hp⟩) (fun x y _ _ _ _ e => e)
theorem cnt_compl (P : Nat → Bool) : ∀ n, fa_cnt P n + fa_cnt (fun x => !P x) n = n
  | 0 => rfl
  | n + 1 => by
    have ih := cnt_compl P n
    cases b : P n with
    | true => rw [fa_cnt_yes b, fa_cnt_no (p := fun x => !P x) (by rw [b]; rfl)]; omega
    | false => rw [fa_cnt_no b, fa_cnt_yes (p := fun x => !P x) (by rw [b]; rfl)]; omega
def exF (J f : Nat → Nat) (Z : Nat → Bool) (s : Nat) : Nat := if J s < 10 then J s else if f s < 10 ∧ Z (f s) = true then 10 else f s
theorem exF_1 {J f : Nat → Nat} {Z : Nat → Bool} {s : Nat} (h : J s < 10) : exF J f Z s = J s := if_pos h
theorem exF_2 {J f : Nat → Nat} {Z : Nat → Bool} {s : Nat} (h : ¬ J s < 10) (h2 : f s < 10 ∧ Z (f s) = true) : exF J f Z s = 10 := (if_neg h).trans (if_pos h2)
theorem exF_3 {J f : Nat → Nat} {Z : Nat → Bool} {s : Nat} (h : ¬ J s < 10) (h2 : ¬ (f s < 10 ∧ Z (f s) = true)) : exF J f Z s = f s := (if_neg h).trans (if_neg h2)
theorem no_more {C : Nat → Nat → Bool} {a i g k : Nat} (hmx : IsMx C a i g k) {Z : Nat → Bool} {hd : Nat → Nat}
    (hZ : ∀ h, h < 10 → Z h = true → a ≤ hd h ∧ hd h < i ∧ C (hd h) h = true ∧ g.testBit h = false)
    (hinj : ∀ h l, h < 10 → l < 10 → Z h = true → Z l = true → hd h = hd l → h = l)
    (hcl : ∀ h, h < 10 → g.testBit h = false → (C i h = true ∨ ∃ l, l < 10 ∧ Z l = true ∧ C (hd l) h = true) → Z h = true) (ha : a ≤ i) :
    ∀ f, MtC C a (i + 1) g f → sz a f (i + 1) ≤ k := by
  intro f hf
  obtain ⟨J, hJ1, hJ2⟩ : ∃ J : Nat → Nat, (∀ s, J s < 10 → Z (J s) = true ∧ hd (J s) = s) ∧ (∀ l, l < 10 → Z l = true → J (hd l) < 10) := by
    refine ⟨fun s => fa_first (fun h => Z h && decide (hd h = s)) 10, fun s hs => ?_, fun l h1 h2 => ?_⟩
    · have := andT (fa_first_yes (fun h => Z h && decide (hd h = s)) 10 hs)
      exact ⟨this.1, of_decide_eq_true this.2⟩
    · exact ff_lt h1 (by rw [h2, decide_eq_true rfl]; rfl)
  have e2 : ∀ s, a ≤ s → s < i → f s < 10 → Z (f s) = false → ¬ J s < 10 := fun s s1 s2 s3 s4 z => by
    obtain ⟨j1, j2⟩ := hJ1 s z
    obtain ⟨c1, c2, -⟩ := hf s s1 (by omega) s3
    rw [hcl (f s) s3 c2 (Or.inr ⟨J s, z, j1, by rw [j2]; exact c1⟩)] at s4
    cases s4
  have hm : MtC C a i g (exF J f Z) := by
    intro s s1 s2 s3
    by_cases w : J s < 10
    · rw [exF_1 w]
      obtain ⟨j1, j2⟩ := hJ1 s w
      obtain ⟨z1, z2, z3, z4⟩ := hZ (J s) w j1
      rw [j2] at z3
      refine ⟨z3, z4, fun r r1 r2 r3 => ?_⟩
      by_cases v : J r < 10
      · rw [exF_1 v] at r3
        rw [← (hJ1 r v).2, r3, j2]
      · by_cases u : f r < 10 ∧ Z (f r) = true
        · rw [exF_2 v u] at r3
          omega
        · rw [exF_3 v u] at r3
          exact absurd ⟨by omega, by rw [r3]; exact j1⟩ u
    · by_cases u : f s < 10 ∧ Z (f s) = true
      · rw [exF_2 w u] at s3
        exact absurd s3 (Nat.lt_irrefl 10)
      · rw [exF_3 w u] at s3 ⊢
        obtain ⟨c1, c2, c3⟩ := hf s s1 (by omega) s3
        refine ⟨c1, c2, fun r r1 r2 r3 => ?_⟩
        by_cases v : J r < 10
        · rw [exF_1 v] at r3
          exact absurd ⟨s3, by rw [← r3]; exact (hJ1 r v).1⟩ u
        · by_cases u2 : f r < 10 ∧ Z (f r) = true
          · rw [exF_2 v u2] at r3
            omega
          · rw [exF_3 v u2] at r3
            exact c3 r r1 (by omega) r3
  refine Nat.le_trans ?_ (hmx.2 _ hm)
  have hs1 : sz a f (i + 1) = fa_cnt (fun s => (decide (a ≤ s) && decide (f s < 10) && Z (f s)) || (decide (a ≤ s) && decide (f s < 10) && !Z (f s))) (i + 1) := fa_cnt_cong (fun s _ => by cases (decide (a ≤ s) && decide (f s < 10)) <;> cases Z (f s) <;> rfl)
  rw [hs1, cnt_two (P := fun s => decide (a ≤ s) && decide (f s < 10) && Z (f s)) (R := fun s => decide (a ≤ s) && decide (f s < 10) && !Z (f s)) (i + 1) (fun s _ => by cases Z (f s) <;> simp)]
  have hA : fa_cnt (fun s => decide (a ≤ s) && decide (f s < 10) && Z (f s)) (i + 1) ≤ fa_cnt Z 10 := by
    refine cnt_inj (f := f) (fun s s1 s2 => ?_) (fun s r s1 r1 s2 r2 e => ?_)
    · obtain ⟨q1, q2⟩ := andT s2
      exact ⟨of_decide_eq_true (andT q1).2, q2⟩
    · obtain ⟨q1, -⟩ := andT s2
      obtain ⟨q2, -⟩ := andT r2
      exact (hf r (of_decide_eq_true (andT q2).1) r1 (of_decide_eq_true (andT q2).2)).2.2 s (of_decide_eq_true (andT q1).1) s1 e
  have hB : fa_cnt (fun s => decide (a ≤ s) && decide (f s < 10) && !Z (f s)) (i + 1) = fa_cnt (fun s => decide (a ≤ s) && decide (f s < 10) && !Z (f s)) i := by
    refine fa_cnt_no (p := fun s => decide (a ≤ s) && decide (f s < 10) && !Z (f s)) ?_
    by_cases w : f i < 10
    · obtain ⟨c1, c2, -⟩ := hf i ha (by omega) w
      rw [hcl (f i) w c2 (Or.inl c1), Bool.not_true, Bool.and_false]
    · rw [decide_eq_false w, Bool.and_false, Bool.false_and]
  have hD : fa_cnt Z 10 ≤ fa_cnt (fun s => decide (a ≤ s) && decide (J s < 10)) i := by
    refine cnt_inj (f := hd) (fun h h1 h2 => ?_) (fun h l h1 l1 h2 l2 e => hinj h l h1 l1 h2 l2 e)
    obtain ⟨z1, z2, -⟩ := hZ h h1 h2
    exact ⟨z2, by rw [decide_eq_true z1, decide_eq_true (hJ2 h h1 h2)]; rfl⟩
  have hE : fa_cnt (fun s => (decide (a ≤ s) && decide (J s < 10)) || (decide (a ≤ s) && decide (f s < 10) && !Z (f s))) i ≤ sz a (exF J f Z) i := by
    refine cnt_mono (fun s s1 s2 => ?_)
    rw [Bool.or_eq_true] at s2
    rcases s2 with q | q
    · obtain ⟨q1, q2⟩ := andT q
      have q2 := of_decide_eq_true q2
      rw [q1, exF_1 q2, decide_eq_true q2]
      rfl
    · obtain ⟨q1, q3⟩ := andT q
      obtain ⟨q1, q2⟩ := andT q1
      have q2 := of_decide_eq_true q2
      have q4 : Z (f s) = false := by
        cases b : Z (f s) with
        | false => rfl
        | true => rw [b] at q3; cases q3
      rw [q1, exF_3 (e2 s (of_decide_eq_true q1) s1 q2 q4) (fun z => by rw [q4] at z; exact Bool.noConfusion z.2), decide_eq_true q2]
      rfl
  rw [cnt_two (P := fun s => decide (a ≤ s) && decide (J s < 10)) (R := fun s => decide (a ≤ s) && decide (f s < 10) && !Z (f s)) i (fun s s1 z => by
    obtain ⟨q1, q2⟩ := andT z.1
    obtain ⟨q3, q4⟩ := andT z.2
    have q5 : Z (f s) = false := by
      cases b : Z (f s) with
      | false => rfl
      | true => rw [b] at q4; cases q4
    exact e2 s (of_decide_eq_true q1) s1 (of_decide_eq_true (andT q3).2) q5 (of_decide_eq_true q2))] at hE
  omega
theorem sz_one {a : Nat} {f : Nat → Nat} {i : Nat} : sz a f (i + 1) ≤ sz a f i + 1 := by
  unfold sz
  cases b : (decide (a ≤ i) && decide (f i < 10)) with
  | true => rw [fa_cnt_yes (p := fun s => decide (a ≤ s) && decide (f s < 10)) b]; exact Nat.le_refl _
  | false => rw [fa_cnt_no (p := fun s => decide (a ≤ s) && decide (f s < 10)) b]; omega
theorem MtC.cut {C : Nat → Nat → Bool} {a i g : Nat} {f : Nat → Nat} (h : MtC C a (i + 1) g f) : MtC C a i g f := fun s s1 s2 s3 => by
  obtain ⟨c1, c2, c3⟩ := h s s1 (by omega) s3
  exact ⟨c1, c2, fun r r1 r2 r3 => c3 r r1 (by omega) r3⟩
theorem IsMx.more {C : Nat → Nat → Bool} {a i g k : Nat} (h : IsMx C a i g k) (h2 : ∃ f, MtC C a (i + 1) g f ∧ sz a f (i + 1) = k + 1) : IsMx C a (i + 1) g (k + 1) := ⟨h2, fun f hf => Nat.le_trans sz_one (Nat.succ_le_succ (h.2 f hf.cut))⟩
theorem IsMx.same {C : Nat → Nat → Bool} {a i g k : Nat} (h : IsMx C a i g k) (h2 : ∃ f, MtC C a (i + 1) g f ∧ sz a f (i + 1) = k) (h3 : ∀ f, MtC C a (i + 1) g f → sz a f (i + 1) ≤ k) : IsMx C a (i + 1) g k := ⟨h2, h3⟩
/-- how many homes one holds -/
def hdN (hd : Nat → Int32) (r : Int32) : Nat := fa_cnt (fun h => decide (hd h = r)) 10
theorem hdN_inj {hd : Nat → Int32} {r : Int32} (h1 : hdN hd r ≤ 1) {h l : Nat} (hh : h < 10) (hl : l < 10) (e1 : hd h = r) (e2 : hd l = r) : h = l := by
  refine Classical.byContradiction (fun hne => ?_)
  unfold hdN at h1
  rw [cnt_del (R := fun h => decide (hd h = r)) (decide_eq_true e1) hh, cnt_del (R := fun w => decide (hd w = r) && !decide (w = h)) (y := l) (by rw [decide_eq_true e2, decide_eq_false (fun z => hne z.symm)]; rfl) hl] at h1
  omega
def HdO (C : Nat → Nat → Bool) (a i g : Nat) (hd : Nat → Int32) : Prop := (∀ h, h < 10 → hd h = -1 ∨ ∃ w, a ≤ w ∧ w < i ∧ hd h = nI w ∧ C w h = true ∧ g.testBit h = false) ∧ ∀ r, ¬ r = -1 → hdN hd r ≤ 1
theorem HdO.mt {C : Nat → Nat → Bool} {a i g : Nat} {hd : Nat → Int32} (h : HdO C a i g hd) (hi : i ≤ 8) : ∃ f, MtC C a i g f ∧ sz a f i + hdN hd (-1) = 10 := by
  have hy : ∀ s, fa_first (fun h => decide (hd h = nI s)) 10 < 10 → hd (fa_first (fun h => decide (hd h = nI s)) 10) = nI s := fun s hs => of_decide_eq_true (fa_first_yes (fun h => decide (hd h = nI s)) 10 hs)
  refine ⟨fun s => fa_first (fun h => decide (hd h = nI s)) 10, fun s s1 s2 s3 => ?_, ?_⟩
  · have e := hy s s3
    rcases h.1 _ s3 with w | ⟨w, w1, w2, w3, w4, w5⟩
    · have w : hd (fa_first (fun h => decide (hd h = nI s)) 10) = -1 := w
      rw [e] at w
      exact absurd w (nI_ne_m1 (by omega))
    · have w3 : hd (fa_first (fun h => decide (hd h = nI s)) 10) = nI w := w3
      rw [e] at w3
      have := (nI_eq (by omega) (by omega)).mp w3
      subst this
      refine ⟨w4, w5, fun r r1 r2 r3 => ?_⟩
      have r3 : fa_first (fun h => decide (hd h = nI r)) 10 = fa_first (fun h => decide (hd h = nI s)) 10 := r3
      have er := hy r (by rw [r3]; exact s3)
      rw [r3, e] at er
      exact ((nI_eq (by omega) (by omega)).mp er).symm
  · have hc := cnt_compl (fun h => decide (hd h = -1)) 10
    have h1 : sz a (fun s => fa_first (fun h => decide (hd h = nI s)) 10) i ≤ fa_cnt (fun h => !decide (hd h = -1)) 10 := by
      refine cnt_inj (f := fun s => fa_first (fun h => decide (hd h = nI s)) 10) (fun s s1 s2 => ?_) (fun s r s1 r1 s2 r2 e => ?_)
      · have q := of_decide_eq_true (andT s2).2
        refine ⟨q, ?_⟩
        have := hy s q
        show (!decide (hd (fa_first (fun h => decide (hd h = nI s)) 10) = -1)) = true
        rw [this, decide_eq_false (nI_ne_m1 (by omega))]
        rfl
      · have q := hy s (of_decide_eq_true (andT s2).2)
        have q2 := hy r (of_decide_eq_true (andT r2).2)
        have e : fa_first (fun h => decide (hd h = nI s)) 10 = fa_first (fun h => decide (hd h = nI r)) 10 := e
        rw [e, q2] at q
        exact ((nI_eq (by omega) (by omega)).mp q).symm
    have h2 : fa_cnt (fun h => !decide (hd h = -1)) 10 ≤ sz a (fun s => fa_first (fun h => decide (hd h = nI s)) 10) i := by
      have hn : ∀ x, x < 10 → (!decide (hd x = -1)) = true → ∃ w, a ≤ w ∧ w < i ∧ hd x = nI w ∧ (hd x).toNatClampNeg = w := fun x x1 x2 => by
        rcases h.1 x x1 with w | ⟨w, w1, w2, w3, -⟩
        · rw [w] at x2
          exact absurd x2 (by decide)
        · exact ⟨w, w1, w2, w3, by rw [w3]; exact nI_clamp (by omega)⟩
      refine cnt_inj (f := fun x => (hd x).toNatClampNeg) (fun x x1 x2 => ?_) (fun x y x1 y1 x2 y2 e => ?_)
      · obtain ⟨w, w1, w2, w3, w4⟩ := hn x x1 x2
        show (hd x).toNatClampNeg < i ∧ (decide (a ≤ (hd x).toNatClampNeg) && decide (fa_first (fun h => decide (hd h = nI (hd x).toNatClampNeg)) 10 < 10)) = true
        rw [w4, decide_eq_true w1, decide_eq_true (ff_lt (k := x) x1 (decide_eq_true w3))]
        exact ⟨w2, rfl⟩
      · obtain ⟨w, w1, w2, w3, w4⟩ := hn x x1 x2
        obtain ⟨v, v1, v2, v3, v4⟩ := hn y y1 y2
        have e : (hd x).toNatClampNeg = (hd y).toNatClampNeg := e
        rw [w4, v4] at e
        subst e
        exact hdN_inj (h.2 (nI w) (nI_ne_m1 (by omega))) x1 y1 w3 v3
    unfold hdN
    omega
