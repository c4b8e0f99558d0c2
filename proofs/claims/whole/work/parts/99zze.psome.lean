/-! the other calls in pairs: status, feed, fault, many, undo, print, load -/
section PRC
variable {z n : Nat} {sh : Shp} {I : MI} {L : ML}
theorem pr_status (hX : IsX n sh) (hM : IsM n sh 496) (G : Good I L) : Pair yX10_status cX10_status 1 1 yX11_status cX11_status 1 1 [] z n sh I L := by
  obtain ⟨N, s, h, hs⟩ := G
  have h0 : I 0 8 = s := by obtain ⟨Q, K, t, c, k, T, B, f1, f2, -, -, -, h0⟩ := h; exact h0
  refine ⟨_, I 0 8, sX10_status hX, fun v z' n' sh' J M q => ?_⟩
  obtain ⟨q1, q2, q3, q4, q5, q6⟩ := q
  subst q5; subst q6
  refine ⟨q1, q2, q3, q4, _, sX11_status hM, fun v z' n' sh' J' M' q => ?_⟩
  obtain ⟨q1, q2, q3, q4, q5, q6⟩ := q
  subst q5; subst q6
  refine ⟨by rw [q1, hs, h0], q2, q3, q4, N, s, h.ref (fun x hx => if_neg (by omega)) (fun _ _ => rfl) (fun k hk => upI_n (Or.inr (by omega))), ?_⟩
  rw [upI_n (Or.inr (by decide))]
  exact hs
theorem pr_fault (hX : IsX n sh) (hM : IsM n sh 496) (G : Good I L) {x : Int32} : Pair yX10_fault cX10_fault 2 1 yX11_fault cX11_fault 2 1 [.int x] z n sh I L := by
  obtain ⟨N, s, h, hs⟩ := G
  have e : I 496 10 = I 479 3 ∧ I 496 11 = I 479 4 := by
    obtain ⟨Q, K, t, c, k, T, B, f1, f2, h1, h2, -, -⟩ := h
    exact ⟨h2.2.2.2.2.2.1.trans h1.2.2.2.2.2.1.2.1.symm, h2.2.2.2.2.2.2.1.trans h1.2.2.2.2.2.1.2.2.symm⟩
  refine ⟨_, if x = 0 then I 479 3 else if x = 1 then I 479 4 else -1, sX10_fault hX, fun v z' n' sh' J M q => ?_⟩
  obtain ⟨q1, q2, q3, q4, q5, q6⟩ := q
  subst q5; subst q6
  refine ⟨q1, q2, q3, q4, _, sX11_fault hM, fun v z' n' sh' J' M' q => ?_⟩
  obtain ⟨q1, q2, q3, q4, q5, q6⟩ := q
  subst q5; subst q6
  refine ⟨by rw [q1, e.1, e.2], q2, q3, q4, N, s, h.ref (fun x hx => if_neg (by omega)) (fun _ _ => rfl) (fun k hk => upI_n (Or.inr (by omega))), ?_⟩
  rw [upI_n (Or.inr (by decide))]
  exact hs
theorem pr_many (hX : IsX n sh) (hM : IsM n sh 496) (G : Good I L) {x : Int32} : Pair yX10_many cX10_many 2 4 yX11_many cX11_many 2 5 [.int x] z n sh I L := by
  obtain ⟨N, s, h, -⟩ := G
  obtain ⟨Q, hC⟩ := h.ct
  obtain ⟨hIv, hEx⟩ := h.iv
  have e : I 496 12 = I 69 2 := by
    obtain ⟨Q, K, t, c, k, T, B, f1, f2, h1, h2, -, -⟩ := h
    exact h2.2.2.2.1.trans h1.2.2.2.1.2.symm
  refine ⟨_, (aMany N (I 69 2) x).1, sX10_many hX hC hIv, fun v z' n' sh' J M q => ?_⟩
  have e2 : J 496 12 = I 69 2 := by
    have := q.2.2.2.2.1
    rw [this]
    exact (congrFun (if_neg (by decide)) 12).trans e
  obtain ⟨q1, q2, q3, q4, h2⟩ := h.Ct q
  exact ⟨q1, q2, q3, q4, _, rX11_many hM h2.row hIv.1, fun v z' n' sh' J' M' q => by rw [e2] at q; exact h2.Tl q⟩
theorem pr_feed (hX : IsX n sh) (hM : IsM n sh 496) (G : Good I L) {a b c d e : Int32} : Pair yX10_feed cX10_feed 6 2 yX11_feed cX11_feed 6 2 [.int a, .int b, .int c, .int d, .int e] z n sh I L := by
  obtain ⟨N, s, ⟨Q, K, t, c9, k, T, B, f1, f2, h, r, u, h0⟩, hs⟩ := G
  have hk9 := u.2.2.2.1.2.2.1
  have H : Half N s I L := ⟨Q, K, t, c9, k, T, B, f1, f2, h, r, u, h0⟩
  by_cases hk : k + 20 ≤ 900
  · refine ⟨_, nI (k + 20), sX10_feed hX h.2.2.2.2.2.2.1 h.2.2.2.2.2.1.1 hk9, fun v z' n' sh' J M q => ?_⟩
    rw [if_pos hk] at q
    obtain ⟨q1, q2, q3, q4, q5, q6⟩ := q
    subst q5; subst q6
    have eo : ∀ x, x ≠ 479 → x ≠ 480 → tcM I (tp5 T k a b c d e) (k + 20) x = I x := fun x a1 a2 => (if_neg a1).trans (if_neg a2)
    refine ⟨q1, q2, q3, q4, _, rX11_feed hM (T := T) (k := k) ((eo _ (by decide) (by decide)).trans r.2.2.2.2.2.2.2.1) ((congrFun (eo 496 (by decide) (by decide)) 8).trans r.2.2.2.2.1) hk9, fun v z' n' sh' J' M' q => ?_⟩
    rw [if_pos hk] at q
    obtain ⟨q1, q2, q3, q4, q5, q6⟩ := q
    subst q6
    have eJ : ∀ x, x ≠ 479 → x ≠ 480 → x ≠ 496 → x ≠ 501 → J' x = I x := fun x a1 a2 a3 a4 => by
      rw [q5]
      exact (if_neg a3).trans ((if_neg a4).trans ((if_neg a3).trans (eo x a1 a2)))
    have e6 : ∀ j, j ≠ 0 → j ≠ 8 → J' 496 j = I 496 j := fun j a1 a2 => by
      rw [q5]
      unfold tpM
      rw [upI_n (Or.inr a2)]
      show upI (tcM I (tp5 T k a b c d e) (k + 20)) 496 0 0 496 j = _
      rw [upI_n (Or.inr a1)]
      exact congrFun (eo 496 (by decide) (by decide)) j
    have e480 : J' 480 = tp5 T k a b c d e := by
      rw [q5]
      rfl
    have e501 : J' 501 = tp5 T k a b c d e := by
      rw [q5]
      rfl
    have e479 : ∀ j, J' 479 j = tcM I (tp5 T k a b c d e) (k + 20) 479 j := fun j => by
      rw [q5]
      rfl
    obtain ⟨u1, u2, u3, ⟨u4, u5, u6, u7⟩, u8⟩ := u
    obtain ⟨a1, a2, a3, a4, a5, a6, a7, a8, a9⟩ := h
    obtain ⟨b1, b2, b3, b4, b5, b6, b7, b8, b9⟩ := r
    refine ⟨q1, q2, q3, q4, N, s, ⟨Q, K, t, c9, k + 20, tp5 T k a b c d e, B, f1, f2, ⟨a1.fr u1.1 (fun x hx => eJ _ (by omega) (by omega) (by omega) (by omega)) (fun _ _ => rfl), a2.fr (fun x hx => eJ _ (by omega) (by omega) (by omega) (by omega)), fun i hi => (a3 i hi).fr (fun x hx => eJ _ (by omega) (by omega) (by omega) (by omega)), by rw [eJ 69 (by decide) (by decide) (by decide) (by decide)]; exact a4, fun i hi => ?_, ⟨?_, ?_, ?_⟩, e480, a8, ?_⟩, ⟨?_, b2, ?_, ?_, ?_, ?_, ?_, e501, ?_⟩, ⟨u1, u2, u3, ⟨u4, u5, hk, u7⟩, u8⟩, ?_⟩, ?_⟩
    · have q := a5 i hi
      obtain ⟨j, hj, ej⟩ := hB_lt (t := t) (c := c9) (k := i)
      rw [ej] at q ⊢
      exact q.fr (u8 i hi).1.1 (fun x hx => eJ _ (by omega) (by omega) (by omega) (by omega)) (fun _ _ => rfl)
    · rw [e479]
      exact upI_s
    · rw [e479]
      exact (upI_n (Or.inr (by decide))).trans a6.2.1
    · rw [e479]
      exact (upI_n (Or.inr (by decide))).trans a6.2.2
    · unfold Prc at a9 ⊢
      rw [eJ 482 (by decide) (by decide) (by decide) (by decide), eJ 483 (by decide) (by decide) (by decide) (by decide)]
      exact a9
    · rw [eJ 497 (by decide) (by decide) (by decide) (by decide)]
      exact b1
    · rw [eJ 500 (by decide) (by decide) (by decide) (by decide)]
      exact b3
    · rw [e6 12 (by decide) (by decide)]
      exact b4
    · rw [q5]
      exact upI_s
    · rw [e6 10 (by decide) (by decide)]
      exact b6
    · rw [e6 11 (by decide) (by decide)]
      exact b7
    · unfold Prt at b9 ⊢
      rw [e6 32 (by decide) (by decide), eJ (496 + 14) (by decide) (by decide) (by decide) (by decide)]
      exact b9
    · rw [eJ 0 (by decide) (by decide) (by decide) (by decide)]
      exact h0
    · rw [e6 9 (by decide) (by decide)]
      exact hs
  · refine ⟨_, -1, sX10_feed hX h.2.2.2.2.2.2.1 h.2.2.2.2.2.1.1 hk9, fun v z' n' sh' J M q => ?_⟩
    rw [if_neg hk] at q
    obtain ⟨q1, q2, q3, q4, q5, q6⟩ := q
    subst q5; subst q6
    refine ⟨q1, q2, q3, q4, _, rX11_feed hM (T := T) (k := k) r.2.2.2.2.2.2.2.1 r.2.2.2.2.1 hk9, fun v z' n' sh' J' M' q => ?_⟩
    rw [if_neg hk] at q
    obtain ⟨q1, q2, q3, q4, q5, q6⟩ := q
    subst q5; subst q6
    refine ⟨q1, q2, q3, q4, N, s, H.ref (fun x hx => if_neg (by omega)) (fun _ _ => rfl) (fun k hk => upI_n (Or.inr (by omega))), ?_⟩
    rw [upI_n (Or.inr (by decide))]
    exact hs
end PRC
