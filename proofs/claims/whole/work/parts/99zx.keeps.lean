/-! what else a row keeps to, through every act: no bids of those out or barred, none on a shut home, none beyond; no new bar between weeks; who was let a home is out -/
def Ex (N : Nat → Int32) : Prop := BdO N ∧ NwO N ∧ BsO N ∧ BhO N ∧ OuL N
section Ex9
variable {N M : Nat → Int32} {p h : Nat}
theorem Ex.gen (x : Ex N) (c : Cn N) (e0 : M 230 = N 230) (e1 : M 231 = N 231) (e3 : M 233 = N 233) (er : ∀ r, r < 8 → M (234 + 8 * r + 0) = N (234 + 8 * r + 0)) (e6 : ∀ p, p < 8 → M (80 + 18 * p + 6) = N (80 + 18 * p + 6) ∧ M (80 + 18 * p + 7) = N (80 + 18 * p + 7))
    (e8 : ∀ p, p < 8 → M (80 + 18 * p + 8) = N (80 + 18 * p + 8) ∨ (mIn M p = false ∧ M (80 + 18 * p + 10) = 0))
    (hb : ∀ p, p < nPo N → ∃ a, a < 1024 ∧ M (80 + 18 * p + 10) = nI a ∧ ∀ q, q < 10 → a.testBit q = true → ((nBi N p).testBit q = true ∨ (q < nHo N ∧ mHope N p = true)) ∧ ¬ M (8 * q + 6) = 1) : Ex M := by
  obtain ⟨x1, x2, x3, x4, x5⟩ := x
  have h8 := c.p8
  have h10 := c.h10
  have l8 := c.l8
  have eH : nHo M = nHo N := by unfold nHo; rw [e0]
  have eP : nPo M = nPo N := by unfold nPo; rw [e1]
  have eL : nLe M = nLe N := by unfold nLe; rw [e3]
  have out : ∀ p, p < 8 → mIn N p = false → mIn M p = false := fun p hp q => by
    rcases e8 p hp with e | e
    · unfold mIn at q ⊢
      rw [e]; exact q
    · exact e.1
  have bi : ∀ p, p < nPo N → ∀ a, a < 1024 → M (80 + 18 * p + 10) = nI a → nBi M p = a := fun p hp a ha e => by
    unfold nBi
    rw [e]; exact nI_clamp (by omega)
  refine ⟨fun p hp hm => ?_, fun p hp => ?_, fun p hp i hi hs => ?_, fun p hp => ?_, fun r hr => ?_⟩
  · rw [eP] at hp
    rcases e8 p (by omega) with e | e
    · have hm2 : mHope N p = false := by
        unfold mHope mIn at hm ⊢
        rw [e, (e6 p (by omega)).1] at hm
        exact hm
      obtain ⟨a, ha, ea, hq⟩ := hb p hp
      have z : nBi N p = 0 := by unfold nBi; rw [x1 p hp hm2]; rfl
      have : a = 0 := bit_zero a ha (fun q hq9 => by
        cases ht : a.testBit q with
        | false => rfl
        | true =>
          rcases (hq q hq9 ht).1 with w | w
          · rw [z, Nat.zero_testBit] at w
            cases w
          · rw [hm2] at w
            cases w.2)
      rw [ea, this]; rfl
    · exact e.2
  · rw [eP] at hp
    rw [(e6 p (by omega)).2]
    exact x2 p hp
  · rw [eP] at hp
    rw [eH] at hi
    obtain ⟨a, ha, ea, hq⟩ := hb p hp
    rw [bi p hp a ha ea]
    cases ht : a.testBit i with
    | false => rfl
    | true => exact absurd hs (hq i (by omega) ht).2
  · rw [eP] at hp
    rw [eH]
    obtain ⟨a, ha, ea, hq⟩ := hb p hp
    rw [bi p hp a ha ea]
    refine Nat.lt_pow_two_of_testBit a (fun i hi => ?_)
    cases ht : a.testBit i with
    | false => rfl
    | true =>
      have i10 : i < 10 := by
        apply Nat.lt_of_not_le
        intro z
        rw [Nat.testBit_lt_two_pow (Nat.lt_of_lt_of_le ha (show 1024 ≤ 2 ^ i from Nat.pow_le_pow_right (n := 2) (by decide) z))] at ht
        cases ht
      rcases (hq i i10 ht).1 with w | w
      · rw [Nat.testBit_lt_two_pow (Nat.lt_of_lt_of_le (x4 p hp) (Nat.pow_le_pow_right (by decide) hi))] at w
        cases w
      · omega
  · rw [eL] at hr
    have e : lPo M r = lPo N r := by unfold lPo; rw [er r (by omega)]
    rw [e]
    exact out _ (lPo_lt c hr) (x5 r hr)
theorem Ex.same (x : Ex N) (c : Cn N) (e : ∀ j, (80 ≤ j → j < 224 → (j - 80) % 18 = 6 ∨ (j - 80) % 18 = 7 ∨ (j - 80) % 18 = 8 ∨ (j - 80) % 18 = 10) → (224 ≤ j → 230 ≤ j) → j < 298 → M j = N j) : Ex M := by
  have h8 := c.p8
  refine x.gen c (e _ (by omega) (by omega) (by omega)) (e _ (by omega) (by omega) (by omega)) (e _ (by omega) (by omega) (by omega)) (fun r hr => e _ (by omega) (by omega) (by omega)) (fun p hp => ⟨e _ (by omega) (by omega) (by omega), e _ (by omega) (by omega) (by omega)⟩) (fun p hp => Or.inl (e _ (by omega) (by omega) (by omega))) (fun p hp => ⟨nBi N p, c.bi10 (by omega), (e _ (by omega) (by omega) (by omega)).trans (c.bi (by omega)), fun q hq ht => ⟨Or.inl ht, fun z => ?_⟩⟩)
  have i : q < nHo N := by
    apply Nat.lt_of_not_le
    intro w
    rw [Nat.testBit_lt_two_pow (Nat.lt_of_lt_of_le (x.2.2.2.1 p hp) (Nat.pow_le_pow_right (by decide) w))] at ht
    cases ht
  rw [e _ (by omega) (by omega) (by omega)] at z
  rw [x.2.2.1 p hp q i z] at ht
  cases ht
/-- bids of one house put anew -/
theorem Ex.bits (x : Ex N) (c : Cn N) (hp : p < nPo N) {a : Nat} {v : Int32} (ha : a < 1024) (hv : v = nI a) (hq : ∀ q, q < 10 → a.testBit q = true → (nBi N p).testBit q = true ∨ (q < nHo N ∧ mHope N p = true ∧ ¬ N (8 * q + 6) = 1)) : Ex (mPuts N p 10 v) := by
  have h8 := c.p8
  have u : ∀ j, j ≠ 80 + 18 * p + 10 → mPuts N p 10 v j = N j := fun j hj => upd_ne hj
  have lt : ∀ p, p < nPo N → ∀ q, (nBi N p).testBit q = true → q < nHo N := fun p hp q ht => by
    apply Nat.lt_of_not_le
    intro w
    rw [Nat.testBit_lt_two_pow (Nat.lt_of_lt_of_le (x.2.2.2.1 p hp) (Nat.pow_le_pow_right (by decide) w))] at ht
    cases ht
  have ns : ∀ p, p < nPo N → ∀ q, (nBi N p).testBit q = true → ¬ N (8 * q + 6) = 1 := fun p hp q ht z => by
    rw [x.2.2.1 p hp q (lt p hp q ht) z] at ht
    cases ht
  refine x.gen c (u _ (by omega)) (u _ (by omega)) (u _ (by omega)) (fun r hr => u _ (by omega)) (fun q hq => ⟨u _ (by omega), u _ (by omega)⟩) (fun q hq => Or.inl (u _ (by omega))) (fun q9 hq9 => ?_)
  by_cases e : q9 = p
  · subst e
    refine ⟨a, ha, by unfold mPuts; rw [upd_eq]; exact hv, fun q hq1 ht => ?_⟩
    rw [u _ (by omega)]
    rcases hq q hq1 ht with w | w
    · exact ⟨Or.inl w, ns _ hp q w⟩
    · exact ⟨Or.inr ⟨w.1, w.2.1⟩, w.2.2⟩
  · refine ⟨nBi N q9, c.bi10 (by omega), (u _ (by omega)).trans (c.bi (by omega)), fun q hq1 ht => ?_⟩
    rw [u _ (by omega)]
    exact ⟨Or.inl ht, ns _ hq9 q ht⟩
theorem drop_sub : ∀ v, v < 1024 → ∀ i, i < 10 → ∃ a, a < 1024 ∧ iDrop (nI v) (nI i) = nI a ∧ ∀ q, q < 10 → a.testBit q = (v.testBit q && !decide (q = i)) := fun v hv i hi => ⟨v &&& (1023 ^^^ 2 ^ i), Nat.lt_of_le_of_lt Nat.and_le_left hv, drop_and v hv i hi, fun q hq => by rw [Nat.testBit_and, msk_bit i hi q hq]⟩
theorem dropB_Ex (x : Ex N) (c : Cn N) (hp : p < nPo N) (hh : h < 10) : Ex (mDropB N p h) := by
  have h8 := c.p8
  obtain ⟨a, ha, ea, hq⟩ := drop_sub (nBi N p) (c.bi10 (by omega)) h hh
  refine x.bits c hp ha (by rw [c.bi (by omega)]; exact ea) (fun q hq1 ht => Or.inl ?_)
  rw [hq q hq1, Bool.and_eq_true] at ht
  exact ht.1
theorem why_yes (hB : BrO N) (hp : p < nPo N) (hw : mWhy N p h = 0) : mHope N p = true ∧ ¬ N (8 * h + 6) = 1 := by
  constructor
  · cases e : mHope N p with
    | true => rfl
    | false => exact absurd hw (why_no hB hp e)
  · intro z
    have hf : mFree N h = false := by
      unfold mFree
      rw [z]
      simp
    unfold mWhy at hw
    rw [hf] at hw
    revert hw
    cases mIn N p with
    | false => simp
    | true =>
      by_cases h6 : N (80 + 18 * p + 6) ≤ 0
      · simp [h6]
      · simp [h6]
theorem bid_Ex (x : Ex N) (c : Cn N) (hB : BrO N) (hp : p < nPo N) (hh : h < nHo N) (hw : mWhy N p h = 0) : Ex (bidN N p h) := by
  have h8 := c.p8
  have h10 := c.h10
  have hor := or_bits (c.bi10 (show p < 8 by omega)) (show h < 10 by omega)
  have y := why_yes hB hp hw
  refine x.bits c hp hor.2 (by rw [c.bi (by omega)]; exact hor.1) (fun q hq1 ht => ?_)
  rw [Nat.testBit_or, Bool.or_eq_true] at ht
  rcases ht with t | t
  · exact Or.inl t
  · rw [Nat.testBit_two_pow, decide_eq_true_eq] at t
    subst t
    exact Or.inr ⟨hh, y.1, y.2⟩
theorem bidsL_Ex (iv : Iv N) (x : Ex N) (hp : p < nPo N) : ∀ k, k ≤ nLikes N p → Ex (mBidsL N p k).1
  | 0, _ => x
  | k + 1, hk => by
    have h8 := iv.1.p8
    have ih := bidsL_Ex iv x hp k (by omega)
    have iv2 := bidsL_Iv iv (show p < 8 by omega) (show k ≤ nLikes N p by omega)
    obtain ⟨-, r, -⟩ := bidsL_inv (b := 30) ⟨iv.1, iv.2.1, iv.1.o30⟩ (show p < 8 by omega) k (by omega)
    have eP : nPo (mBidsL N p k).1 = nPo N := by unfold nPo; rw [r _ (by omega)]
    have eH : nHo (mBidsL N p k).1 = nHo N := by unfold nHo; rw [r _ (by omega)]
    rw [mBidsL]
    split
    · rename_i hw
      exact bid_Ex ih iv2.1 iv2.2.2.2.1 (by rw [eP]; exact hp) (by rw [eH]; exact likes_lt iv.1 iv.co.2.2 hp (by omega)) hw
    · exact ih
theorem allL_Ex (iv : Iv N) (x : Ex N) : ∀ i, i ≤ nPo N → Ex (mAllL N i).1
  | 0, _ => x
  | i + 1, hi => by
    have h8 := iv.1.p8
    have iv2 := allL_Iv iv i (by omega)
    have r := (allL_inv (b := 30) ⟨iv.1, iv.2.1, iv.1.o30⟩ i (by omega)).2
    have eP : nPo (mAllL N i).1 = nPo N := by unfold nPo; rw [r _ (fun q hq => by omega)]
    exact bidsL_Ex iv2 (allL_Ex iv x i (by omega)) (by rw [eP]; omega) _ (Nat.le_refl _)
theorem allBid_Ex (iv : Iv N) (x : Ex N) : Ex (mAllBid N).1 := allL_Ex iv x _ (Nat.le_refl _)
theorem wkP_z {R : Nat → Int32} {q : Nat} (hq : q < 8) : ∀ i, i ≤ 8 → q < i → wkP R i (80 + 18 * q + 10) = 0 ∧ wkP R i (80 + 18 * q + 7) = 0
  | 0, _, h => absurd h (by omega)
  | i + 1, hi, h => by
    rw [wkP]
    by_cases e : q = i
    · subst e
      constructor
      · unfold wkS wkS1 mPuts
        rw [upd_ne (by omega)]
        split
        · rw [upd_ne (by omega), upd_eq]
        · rw [upd_eq]
      · unfold wkS mPuts
        exact upd_eq
    · rw [wkS_rd (by omega) (by omega) (by omega), wkS_rd (by omega) (by omega) (by omega)]
      exact wkP_z hq i (by omega) (by omega)
theorem week_Ex (iv : Iv N) (x : Ex N) : Ex (mWeek N) := by
  have h8 := iv.1.p8
  have eP : nPo (mWeek N) = nPo N := (week_WR iv).2.2.2.2.2
  have z : ∀ p, p < nPo N → mWeek N (80 + 18 * p + 10) = 0 ∧ mWeek N (80 + 18 * p + 7) = 0 := fun p hp => by
    unfold mWeek wkE
    rw [upd_ne (by omega), upd_ne (by omega)]
    exact wkP_z (by omega) _ h8 hp
  have b0 : ∀ p, p < nPo N → nBi (mWeek N) p = 0 := fun p hp => by unfold nBi; rw [(z p hp).1]; rfl
  refine ⟨fun p hp _ => ?_, fun p hp => ?_, fun p hp i _ _ => ?_, fun p hp => ?_, (week_WR iv).ou iv.1 x.2.2.2.2⟩
  · rw [eP] at hp
    exact (z p hp).1
  · rw [eP] at hp
    exact (z p hp).2
  · rw [eP] at hp
    rw [b0 p hp]
    exact Nat.zero_testBit i
  · rw [eP] at hp
    rw [b0 p hp]
    exact Nat.two_pow_pos _
theorem rule_Ex (x : Ex N) (c : Cn N) {r : Nat} {v : Int32} (hr : r < 6) : Ex (upd N (224 + r) v) := x.same c (fun j _ h2 _ => upd_ne (by omega))
theorem wish_Ex (x : Ex N) (c : Cn N) (hp : p < 8) (hr : ∀ j, (j < 80 + 18 * p + 11 ∨ 80 + 18 * p + 18 ≤ j) → M j = N j) : Ex M := x.same c (fun j h1 _ _ => hr j (by omega))
theorem lea_Ex (iv : Iv N) (x : Ex N) (hp : p < nPo N) : Ex (leaN N p) := by
  have h8 := iv.1.p8
  have h10 := iv.1.h10
  obtain ⟨-, -, rd⟩ := leaN_who iv hp
  have r6 : ∀ i, i < 10 → leaN N p (8 * i + 6) = N (8 * i + 6) := fun i hi => by
    unfold leaN
    split
    · unfold leaN1 mPuts
      rw [upd_ne (by omega), upd_ne (by omega), upd_ne (by omega)]
    · rename_i hne
      rcases iv.co.1 p hp with w | ⟨u, hu, w, -⟩
      · exact absurd w hne
      · rw [w, nI_clamp (by omega)]
        unfold mPuts
        rw [upd_ne (by omega), leaves_rd (by omega) (by omega) (by omega)]
        unfold leaN1 mPuts
        rw [upd_ne (by omega), upd_ne (by omega)]
  have own : leaN N p (80 + 18 * p + 8) = 1 ∧ leaN N p (80 + 18 * p + 10) = 0 := by
    unfold leaN
    split
    · unfold leaN1 mPuts
      rw [upd_ne (by omega), upd_eq, upd_ne (by omega), upd_ne (by omega), upd_eq]
      exact ⟨rfl, rfl⟩
    · rename_i hne
      rcases iv.co.1 p hp with w | ⟨u, hu, w, -⟩
      · exact absurd w hne
      · rw [w, nI_clamp (by omega)]
        unfold mPuts
        rw [upd_ne (by omega), leaves_rd (by omega) (by omega) (by omega), upd_ne (by omega), leaves_rd (by omega) (by omega) (by omega)]
        unfold leaN1 mPuts
        rw [upd_eq, upd_ne (by omega), upd_eq]
        exact ⟨rfl, rfl⟩
  have u : ∀ j, 80 ≤ j → j ≠ 80 + 18 * p + 4 → j ≠ 80 + 18 * p + 8 → j ≠ 80 + 18 * p + 10 → leaN N p j = N j := fun j hj => rd j (Or.inl hj)
  refine x.gen iv.1 (u _ (by omega) (by omega) (by omega) (by omega)) (u _ (by omega) (by omega) (by omega) (by omega)) (u _ (by omega) (by omega) (by omega) (by omega)) (fun r hr => u _ (by omega) (by omega) (by omega) (by omega)) (fun q hq => ⟨u _ (by omega) (by omega) (by omega) (by omega), u _ (by omega) (by omega) (by omega) (by omega)⟩) (fun q hq => ?_) (fun q hq => ?_)
  · by_cases e : q = p
    · subst e
      refine Or.inr ⟨?_, own.2⟩
      unfold mIn
      rw [own.1]
      rfl
    · exact Or.inl (u _ (by omega) (by omega) (by omega) (by omega))
  · by_cases e : q = p
    · subst e
      exact ⟨0, by decide, own.2, fun i hi ht => by rw [Nat.zero_testBit] at ht; cases ht⟩
    · refine ⟨nBi N q, iv.1.bi10 (by omega), (u _ (by omega) (by omega) (by omega) (by omega)).trans (iv.1.bi (by omega)), fun i hi ht => ⟨Or.inl ht, fun z => ?_⟩⟩
      rw [r6 i hi] at z
      have il : i < nHo N := by
        apply Nat.lt_of_not_le
        intro w
        rw [Nat.testBit_lt_two_pow (Nat.lt_of_lt_of_le (x.2.2.2.1 q hq) (Nat.pow_le_pow_right (by decide) w))] at ht
        cases ht
      rw [x.2.2.1 q hq i il z] at ht
      cases ht
theorem shuL_bits (c : Cn N) (hh : h < 10) : ∀ i, i ≤ nPo N → (∀ j, (∀ q, q < i → j ≠ 80 + 18 * q + 10) → shuL N h i j = N j) ∧ ∀ q, q < i → ∃ a, a < 1024 ∧ shuL N h i (80 + 18 * q + 10) = nI a ∧ ∀ k, k < 10 → a.testBit k = ((nBi N q).testBit k && !decide (k = h))
  | 0, _ => ⟨fun _ _ => rfl, fun q hq => absurd hq (by omega)⟩
  | i + 1, hi => by
    have h8 := c.p8
    obtain ⟨r, b⟩ := shuL_bits c hh i (by omega)
    refine ⟨fun j hj => ?_, fun q hq => ?_⟩
    · rw [shuL]
      unfold mDropB mPuts
      rw [upd_ne (hj i (by omega))]
      exact r j (fun q hq => hj q (by omega))
    · rw [shuL]
      unfold mDropB mPuts
      by_cases e : q = i
      · subst e
        rw [upd_eq, r _ (fun k hk => by omega), c.bi (by omega)]
        exact drop_sub (nBi N q) (c.bi10 (by omega)) h hh
      · rw [upd_ne (by omega)]
        exact b q (by omega)
theorem shu_Ex (iv : Iv N) (x : Ex N) (hh : h < 10) {t : Int32} : Ex (shuN N h t) := by
  have h8 := iv.1.p8
  have h10 := iv.1.h10
  have iv2 := iv.putH (w := 6) (v := if t = 0 then 0 else 1) hh (by decide) (by decide)
  have eP : nPo (mPutsH N h 6 (if t = 0 then 0 else 1)) = nPo N := by unfold nPo mPutsH; rw [upd_ne (by omega)]
  have u : ∀ j, j ≠ 8 * h + 6 → mPutsH N h 6 (if t = 0 then 0 else 1) j = N j := fun j hj => upd_ne hj
  obtain ⟨r, b⟩ := shuL_bits iv2.1 hh (nPo N) (by rw [eP]; exact Nat.le_refl _)
  have v : ∀ j, (∀ q, q < nPo N → j ≠ 80 + 18 * q + 10) → j ≠ 8 * h + 6 → shuN N h t j = N j := fun j a1 a2 => (r j a1).trans (u j a2)
  refine x.gen iv.1 (v _ (fun q hq => by omega) (by omega)) (v _ (fun q hq => by omega) (by omega)) (v _ (fun q hq => by omega) (by omega)) (fun k hk => v _ (fun q hq => by omega) (by omega)) (fun p hp => ⟨v _ (fun q hq => by omega) (by omega), v _ (fun q hq => by omega) (by omega)⟩) (fun p hp => Or.inl (v _ (fun q hq => by omega) (by omega))) (fun p hp => ?_)
  obtain ⟨a, ha, ea, hq⟩ := b p hp
  refine ⟨a, ha, ea, fun q hq1 ht => ?_⟩
  rw [hq q hq1, Bool.and_eq_true] at ht
  have eb : nBi (mPutsH N h 6 (if t = 0 then 0 else 1)) p = nBi N p := by unfold nBi; rw [u _ (by omega)]
  rw [eb] at ht
  have ne : q ≠ h := by simpa using ht.2
  refine ⟨Or.inl ht.1, fun z => ?_⟩
  rw [v _ (fun k hk => by omega) (by omega)] at z
  have il : q < nHo N := by
    apply Nat.lt_of_not_le
    intro w
    have t1 := ht.1
    rw [Nat.testBit_lt_two_pow (Nat.lt_of_lt_of_le (x.2.2.2.1 p hp) (Nat.pow_le_pow_right (by decide) w))] at t1
    cases t1
  have t1 := ht.1
  rw [x.2.2.1 p hp q il z] at t1
  cases t1
theorem nee_Ex (iv : Iv N) (x : Ex N) (hp : p < nPo N) {v : Int32} (hv : rg v 1 4) : Ex (neeN N p v) := by
  have h8 := iv.1.p8
  have h10 := iv.1.h10
  have iv2 := need_Iv iv hp hv
  have x2 : Ex (mPuts N p 1 v) := x.same iv.1 (fun j h1 _ _ => upd_ne (by omega))
  have eP : nPo (mPuts N p 1 v) = nPo N := by unfold nPo mPuts; rw [upd_ne (by omega)]
  obtain ⟨a, ha, e, hq⟩ := neeL_bits (N := mPuts N p 1 v) iv2.1 (show p < 8 by omega) (nHo N) h10
  unfold neeN
  rw [e]
  refine x2.bits iv2.1 (by rw [eP]; exact hp) ha rfl (fun q hq1 ht => Or.inl ?_)
  rw [hq q hq1, Bool.and_eq_true] at ht
  exact ht.1
end Ex9
