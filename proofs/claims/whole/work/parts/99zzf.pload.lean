/-! undo, print, load in pairs -/
section PRD
variable {z n : Nat} {sh : Shp} {I : MI} {L : ML}
theorem pr_undo (hX : IsX n sh) (hM : IsM n sh 496) (G : Good I L) : Pair yX10_undo cX10_undo 1 5 yX11_undo cX11_undo 2 2 [] z n sh I L := by
  obtain ⟨N, s, ⟨Q, K, t, c, k, T, B, f1, f2, h, r, u, h0⟩, hs⟩ := G
  have H : Half N s I L := ⟨Q, K, t, c, k, T, B, f1, f2, h, r, u, h0⟩
  by_cases hc : c = 0
  · refine ⟨_, -1, sX10_undoN (t := t) hX h.1 h.2.2.2.1.2 hc, fun v z' n' sh' J M q => ?_⟩
    obtain ⟨q1, q2, q3, q4, h2⟩ := H.Ct (a := (-1, 5)) q
    have m1 := h2.row
    obtain ⟨Q2, K2, t2, c2, k2, T2, B2, g1, g2, h3, r3, u3, h03⟩ := id h2
    have e12 : J 496 12 = nI c := by
      have := q.2.2.2.2.1
      rw [this]
      exact (congrFun (if_neg (by decide)) 12).trans r.2.2.2.1
    refine ⟨q1, q2, q3, q4, _, rX11_undo hM m1 e12 u.2.2.2.1.2.1, fun v z' n' sh' J' M' q => ?_⟩
    rw [if_pos hc] at q
    exact h2.Tl (a := (-1, 5)) q
  · obtain ⟨a1, a2, a3, a4, a5, a6, a7, a8, a9⟩ := h
    obtain ⟨b1, b2, b3, b4, b5, b6, b7, b8, b9⟩ := r
    obtain ⟨u1, u2, u3, ⟨u4, u5, u6, u7⟩, u8⟩ := u
    have hk := a5 (c - 1) (by omega)
    rw [show hB t c (c - 1) = 69 + 2 + 34 * ((t + 11) % 12) by show 69 + 2 + 34 * ((t + 12 - c + (c - 1)) % 12) = _; rw [show t + 12 - c + (c - 1) = t + 11 by omega]] at hk
    have hv := u8 (c - 1) (by omega)
    refine ⟨_, nI (c - 1), sX10_undo hX a1 a4.2 (by omega) u4 a4.1 hk hv.1.1, fun v z' n' sh' J' M q => ?_⟩
    obtain ⟨q1, q2, q3, q4, J, rfl, g1, g2, g3, g4, g5⟩ := q
    have eJ : ∀ x, x ≠ 69 → 35 ≤ x → upI J 0 8 0 x = I x := fun x h1 h2 => (if_neg (by omega)).trans (g1 x h1 (Or.inr h2))
    have e0 : ∀ x, 1 ≤ x → upI J 0 8 0 x = J x := fun x hx => if_neg (by omega)
    refine ⟨q1, q2, q3, q4, _, rX11_undo hM ((eJ _ (by decide) (by decide)).trans b1) ((congrFun (eJ 496 (by decide) (by decide)) 12).trans b4) u5, fun v z' n' sh' J' M' q => ?_⟩
    rw [if_neg hc] at q
    obtain ⟨q1, q2, q3, q4, q5, q6⟩ := q
    subst q6
    have eR : ∀ x, x ≠ 496 → x ≠ 497 → J' x = upI J 0 8 0 x := fun x d1 d2 => by
      rw [q5]
      exact (if_neg d1).trans ((if_neg d1).trans ((if_neg d2).trans (if_neg d1)))
    have e6 : ∀ j, j ≠ 0 → j ≠ 9 → j ≠ 12 → J' 496 j = I 496 j := fun j d1 d2 d3 => by
      rw [q5]
      unfold stt
      rw [upI_n (Or.inr d2), upI_n (Or.inr d1)]
      show upI (upI J 0 8 0) 496 12 (nI (c - 1)) 496 j = _
      rw [upI_n (Or.inr d3)]
      exact congrFun (eJ 496 (by decide) (by decide)) j
    have eA : ∀ x, x ≠ 69 → 35 ≤ x → x ≠ 496 → x ≠ 497 → J' x = I x := fun x d1 d2 d3 d4 => (eR x d3 d4).trans (eJ x d1 d2)
    have e9 : E9 (kR K (c - 1)) (mCopy (kR K (c - 1)) N) := copy_E9
    refine ⟨q1, q2, q3, q4, mCopy (kR K (c - 1)) N, 0, ⟨Q, K, (t + 11) % 12, c - 1, k, T, B, f1, f2, ⟨?_, a2.fr (fun x hx => eA _ (by omega) (by omega) (by omega) (by omega)), fun i hi => (a3 i hi).fr (fun x hx => eA _ (by omega) (by omega) (by omega) (by omega)), ⟨?_, ?_⟩, fun i hi => ?_, ?_, ?_, fun i hi => ?_, ?_⟩, ⟨?_, ?_, ?_, ?_, ?_, ?_, ?_, ?_, ?_⟩, ⟨e9.iv hv.1, e9.ex hv.1.1 hv.2.1, hv.2.2.eq (e9 _ (by omega)) (e9 _ (by omega)) hv.1.1 (fun _ _ => rfl), ⟨by omega, by omega, u6, u7⟩, fun i hi => u8 i (by omega)⟩, ?_⟩, ?_⟩
    · exact (g3.fr hv.1.1 (fun x hx => (eR _ (by omega) (by omega)).trans (e0 _ (by omega))) (fun _ _ => rfl)).eq9 hv.1.1 e9 (fun _ _ => rfl)
    · rw [eR 69 (by decide) (by decide), e0 69 (by decide)]
      exact g4
    · rw [eR 69 (by decide) (by decide), e0 69 (by decide)]
      exact g5
    · have q := a5 i (by omega)
      rw [show hB ((t + 11) % 12) (c - 1) i = hB t c i by show 69 + 2 + 34 * (((t + 11) % 12 + 12 - (c - 1) + i) % 12) = 69 + 2 + 34 * ((t + 12 - c + i) % 12); rw [show ((t + 11) % 12 + 12 - (c - 1) + i) % 12 = (t + 12 - c + i) % 12 by omega]]
      obtain ⟨j, hj, ej⟩ := hB_lt (t := t) (c := c) (k := i)
      rw [ej] at q ⊢
      exact q.fr (u8 i (by omega)).1.1 (fun x hx => eA _ (by omega) (by omega) (by omega) (by omega)) (fun x hx => g2 _ (Or.inr (by omega)))
    · rw [eA 479 (by decide) (by decide) (by decide) (by decide)]
      exact a6
    · rw [eA 480 (by decide) (by decide) (by decide) (by decide)]
      exact a7
    · rw [g2 481 (by decide)]
      exact a8 i hi
    · unfold Prc at a9 ⊢
      rw [eA 482 (by decide) (by decide) (by decide) (by decide), eA 483 (by decide) (by decide) (by decide) (by decide)]
      exact a9
    · rw [q5]
      show mCopy (fun k => upI J 0 8 0 (496 + 4) (390 * (c - 1) + k)) N = _
      rw [eJ (496 + 4) (by decide) (by decide), show I (496 + 4) = K from b3]
      rfl
    · rw [g2 502 (by decide)]
      exact b2
    · rw [eA 500 (by decide) (by decide) (by decide) (by decide)]
      exact b3
    · rw [q5]
      unfold stt
      rw [upI_n (Or.inr (by decide)), upI_n (Or.inr (by decide))]
      show upI (upI J 0 8 0) 496 12 (nI (c - 1)) 496 12 = _
      exact upI_s
    · rw [e6 8 (by decide) (by decide) (by decide)]
      exact b5
    · rw [e6 10 (by decide) (by decide) (by decide)]
      exact b6
    · rw [e6 11 (by decide) (by decide) (by decide)]
      exact b7
    · rw [eA 501 (by decide) (by decide) (by decide) (by decide)]
      exact b8
    · unfold Prt at b9 ⊢
      rw [e6 32 (by decide) (by decide) (by decide), eA (496 + 14) (by decide) (by decide) (by decide) (by decide)]
      exact b9
    · rw [eR 0 (by decide) (by decide)]
      exact upI_s
    · rw [q5]
      exact upI_s
theorem pr_print (hX : IsX n sh) (hM : IsM n sh 496) (G : Good I L) : Pair yX10_print cX10_print 1 9 yX11_print cX11_print 2 6 [] z n sh I L := by
  obtain ⟨N, s, ⟨Q, K, t, c, k, T, B, f1, f2, h, r, u, h0⟩, hs⟩ := G
  refine ⟨_, nI (txAll N Q).length, sX10_print hX h.1 u.1 u.2.2.1, fun v z' n' sh' J' M q => ?_⟩
  obtain ⟨q1, q2, q3, q4, rfl, J, rfl, g1, g2⟩ := q
  have eJ : ∀ x, 1 ≤ x → x ≠ 482 → x ≠ 483 → upI J 0 8 0 x = I x := fun x d1 d2 d3 => (if_neg (by omega)).trans (g1 x d2 d3)
  refine ⟨q1, q2, q3, q4, _, rX11_print hM ((eJ _ (by decide) (by decide) (by decide)).trans r.1) u.1.1 u.1.2.2.1 r.2.1, fun v z' n' sh' I' M' q => ?_⟩
  obtain ⟨q1, q2, q3, q4, rfl, J2, p1, p2, rfl⟩ := q
  have eR : ∀ x, x ≠ 496 → x ≠ 510 → stt J2 496 0 x = upI J 0 8 0 x := fun x d1 d2 => (if_neg d1).trans ((if_neg d1).trans (p1.1 x d1 (by omega)))
  have eA : ∀ x, 1 ≤ x → x ≠ 482 → x ≠ 483 → x ≠ 496 → x ≠ 510 → stt J2 496 0 x = I x := fun x d1 d2 d3 d4 d5 => (eR x d4 d5).trans (eJ x d1 d2 d3)
  have e6 : ∀ j, j ≠ 0 → j ≠ 9 → j ≠ 32 → stt J2 496 0 496 j = I 496 j := fun j d1 d2 d3 => by
    unfold stt
    rw [upI_n (Or.inr d2), upI_n (Or.inr d1), p1.2 j d3]
    exact congrFun (eJ 496 (by decide) (by decide) (by decide)) j
  obtain ⟨a1, a2, a3, a4, a5, a6, a7, a8, a9⟩ := h
  obtain ⟨b1, b2, b3, b4, b5, b6, b7, b8, b9⟩ := r
  obtain ⟨u1, u2, u3, ⟨u4, u5, u6, u7⟩, u8⟩ := u
  have hl := txAll_le u1 u3
  refine ⟨q1, q2, q3, q4, N, 0, ⟨Q, K, t, c, k, T, txAll N Q, f1, f2, ⟨a1.fr u1.1 (fun x hx => eA _ (by omega) (by omega) (by omega) (by omega) (by omega)) (fun _ _ => rfl), a2.fr (fun x hx => eA _ (by omega) (by omega) (by omega) (by omega) (by omega)), fun i hi => (a3 i hi).fr (fun x hx => eA _ (by omega) (by omega) (by omega) (by omega) (by omega)), ?_, fun i hi => ?_, ?_, ?_, a8, ?_⟩, ⟨?_, b2, ?_, ?_, ?_, ?_, ?_, ?_, ?_⟩, ⟨u1, u2, u3, ⟨u4, u5, u6, by omega⟩, u8⟩, ?_⟩, ?_⟩
  · rw [eA 69 (by decide) (by decide) (by decide) (by decide) (by decide)]
    exact a4
  · have q := a5 i hi
    obtain ⟨j, hj, ej⟩ := hB_lt (t := t) (c := c) (k := i)
    rw [ej] at q ⊢
    exact q.fr (u8 i hi).1.1 (fun x hx => eA _ (by omega) (by omega) (by omega) (by omega) (by omega)) (fun _ _ => rfl)
  · rw [eA 479 (by decide) (by decide) (by decide) (by decide) (by decide)]
    exact a6
  · rw [eA 480 (by decide) (by decide) (by decide) (by decide) (by decide)]
    exact a7
  · have w : ∀ x, x = 482 ∨ x = 483 → stt J2 496 0 x = J x := fun x hx => (eR x (by omega) (by omega)).trans (if_neg (by omega))
    unfold Prc at g2 ⊢
    rw [w 482 (by omega), w 483 (by omega)]
    exact g2
  · rw [eA 497 (by decide) (by decide) (by decide) (by decide) (by decide)]
    exact b1
  · rw [eA 500 (by decide) (by decide) (by decide) (by decide) (by decide)]
    exact b3
  · rw [e6 12 (by decide) (by decide) (by decide)]
    exact b4
  · rw [e6 8 (by decide) (by decide) (by decide)]
    exact b5
  · rw [e6 10 (by decide) (by decide) (by decide)]
    exact b6
  · rw [e6 11 (by decide) (by decide) (by decide)]
    exact b7
  · rw [eA 501 (by decide) (by decide) (by decide) (by decide) (by decide)]
    exact b8
  · unfold Prt at p2 ⊢
    have w : stt J2 496 0 496 32 = J2 496 32 := (upI_n (Or.inr (by decide))).trans (upI_n (Or.inr (by decide)))
    rw [w, show stt J2 496 0 (496 + 14) = J2 (496 + 14) from rfl]
    exact p2
  · rw [eR 0 (by decide) (by decide)]
    exact upI_s
  · exact upI_s
end PRD
