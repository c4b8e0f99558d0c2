/-! the law's begin: what was made says the same on both sides -/
section BEG
variable {n n' : Nat} {sh G : Shp}
theorem IsS.up {b : Nat} (h : IsS n sh b) (hn : n ≤ n') (e : ∀ a, b ≤ a → a < b + 34 → G a = sh a) : IsS n' G b := by
  obtain ⟨a0, a1, a2, ⟨a3, a4, a5⟩, ⟨a6, a7, a8⟩, a9, a10, a11⟩ := h
  unfold IsS
  rw [e b (by omega) (by omega), e (b + 1) (by omega) (by omega), e (b + 12) (by omega) (by omega), e (b + 29) (by omega) (by omega), e (b + 30) (by omega) (by omega), e (b + 31) (by omega) (by omega), e (b + 32) (by omega) (by omega), e (b + 33) (by omega) (by omega)]
  refine ⟨by omega, a1, a2, ⟨a3, a4, fun i hi => ?_⟩, ⟨a6, a7, fun i hi => ?_⟩, a9, a10, a11⟩
  · rw [e (b + 2 + i) (by omega) (by omega)]
    exact a5 i hi
  · rw [e (b + 13 + 2 * i) (by omega) (by omega), e (b + 14 + 2 * i) (by omega) (by omega)]
    exact a8 i hi
theorem IsX.up (h : IsX n sh) (hn : n ≤ n') (e : ∀ a, a < 496 → G a = sh a) : IsX n' G := by
  obtain ⟨a0, a1, a2, a3, a4, a5, a6, a7, a8, a9, a10⟩ := h
  have h5 : IsH n' G 69 := by
    obtain ⟨b0, b1, b2, b3, b4, b5⟩ := a5
    unfold IsH
    rw [e 69 (by decide), e (69 + 1) (by decide)]
    exact ⟨by omega, b1, b2, b3, b4, fun i hi => ⟨(b5 i hi).1, (b5 i hi).2.up hn (fun a h1 h2 => e a (by omega))⟩⟩
  have h6 : IsR G := by
    unfold IsR
    rw [e 479 (by decide), e 480 (by decide), e 481 (by decide)]
    exact a6
  have h7 : IsPp G := by
    unfold IsPp
    rw [e 482 (by decide), e 483 (by decide)]
    exact a7
  have h8 : IsMt G := by
    unfold IsMt
    rw [e 484 (by decide), e 485 (by decide), e 486 (by decide)]
    exact a8
  have h9 : IsCh G := by
    unfold IsCh
    rw [e 487 (by decide), e 488 (by decide), e 489 (by decide), e 490 (by decide), e 491 (by decide), e 492 (by decide)]
    exact a9
  have h10 : IsTd G := by
    unfold IsTd
    rw [e 493 (by decide), e 494 (by decide), e 495 (by decide)]
    exact a10
  refine ⟨by omega, by rw [e 0 (by decide)]; exact a1, by rw [e 0 (by decide)]; exact a2, a3.up hn (fun a h1 h2 => e a (by omega)), a4.up hn (fun a h1 h2 => e a (by omega)), h5, h6, h7, h8, h9, h10⟩
theorem IsM.up {m : Nat} (h : IsM n sh m) (hn : n ≤ n') (e : ∀ a, m ≤ a → a < m + 15 → G a = sh a) : IsM n' G m := by
  obtain ⟨a0, a1, a2⟩ := h
  refine ⟨by omega, by rw [e m (by omega) (by omega)]; exact a1, fun j hj => ?_⟩
  rw [e m (by omega) (by omega), e (m + 1 + j) (by omega) (by omega)]
  exact a2 j hj
theorem plain_all {f : Nat → Int32} : Iv (mPlain f) ∧ Ex (mPlain f) ∧ nHo (mPlain f) = 0 ∧ nPo (mPlain f) = 0 := by
  have p := PI.plain (T := fun _ => 0) (f := f) (s := 0) (Q := fun _ => 0)
  obtain ⟨-, hO, hG, -, -⟩ := p
  refine ⟨PG.iv hO hG, PG.more hG, ?_, ?_⟩
  · unfold nHo
    rw [mPlain_0 (by decide) (by decide) (by decide) (by decide) (by decide)]
    rfl
  · unfold nPo
    rw [mPlain_0 (by decide) (by decide) (by decide) (by decide) (by decide)]
    rfl
theorem Good.begin {v w : Option Value} {z0 z1 n0 n1 : Nat} {s0 s1 s2 : Shp} {J J' : MI} {M M' : ML} (q : InXP v z0 n0 s0 J M) (r : InMP s1 J M w z1 n1 s2 J' M') : Good J' M' := by
  obtain ⟨-, -, -, -, c1, c2, c3, c4, c5, c6, c7, c8, c9, c10⟩ := q
  obtain ⟨-, -, -, rfl, -, r1, r2, r3, r4⟩ := r
  obtain ⟨i1, i2, i3, i4⟩ := plain_all (f := fun _ => 0)
  have e : ∀ a, a < 496 → J' a = J a := fun a ha => (r1 a ha).2
  refine ⟨mPlain (fun _ => 0), 0, ⟨M' 502, fun _ => 0, 0, 0, 0, fun _ => 0, [], -1, -1, ⟨(c1 _ _).fr i1.1 (fun a ha => e _ (by omega)) (fun _ _ => rfl), c2.fr (fun a ha => e _ (by omega)), fun i hi => (c3 i hi).fr (fun a ha => e _ (by omega)), ⟨?_, ?_⟩, fun i hi => absurd hi (by omega), ⟨?_, ?_, ?_⟩, ?_, c7, ?_, fun i hi => absurd hi (Nat.not_lt_zero i)⟩, ⟨r2, rfl, r4 500 (by decide), r3.2.2 12 (by decide) (by decide), r3.2.2 8 (by decide) (by decide), r3.1, r3.2.1, r4 501 (by decide), r3.2.2 32 (by decide) (by decide), fun i hi => absurd hi (Nat.not_lt_zero i)⟩, ⟨i1, i2, ⟨fun h hh => absurd hh (by omega), fun p hp => absurd hp (by omega)⟩, ⟨by decide, by decide, by decide, by decide⟩, fun i hi => absurd hi (by omega)⟩, ?_⟩, r3.2.2 9 (by decide) (by decide)⟩
  · rw [e 69 (by decide)]
    exact c4.1
  · rw [e 69 (by decide)]
    exact c4.2
  · rw [e 479 (by decide)]
    exact c5.1
  · rw [e 479 (by decide)]
    exact c5.2.1
  · rw [e 479 (by decide)]
    exact c5.2.2
  · rw [e 480 (by decide)]
    exact c6
  · rw [e 482 (by decide)]
    exact c8
  · rw [e 0 (by decide)]
    exact c9
end BEG
