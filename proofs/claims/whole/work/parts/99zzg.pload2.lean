/-! load in pairs -/
section PRE
variable {z n : Nat} {sh : Shp} {I : MI} {L : ML}
theorem pr_load (hX : IsX n sh) (hM : IsM n sh 496) (G : Good I L) {x : Int32} : Pair yX10_load cX10_load 3 8 yX11_load cX11_load 4 9 [.int x] z n sh I L := by
  obtain ⟨N, s, ⟨Q, K, t, c, k, T, B, f1, f2, h, r, u, h0⟩, hs⟩ := G
  have H : Half N s I L := ⟨Q, K, t, c, k, T, B, f1, f2, h, r, u, h0⟩
  have hk9 := u.2.2.2.1.2.2.1
  have CL := sX10_load (z := z) (I := I) (L := L) hX hk9 h.2.2.2.2.2.1.1 h.2.2.2.2.2.2.1 h.2.1 h.1.1 h.2.2.2.2.2.2.2.1 (R := I 498) (Q := L 503) (x := x)
  obtain ⟨a1, a2, a3, a4, a5, a6, a7, a8, a9⟩ := h
  obtain ⟨b1, b2, b3, b4, b5, b6, b7, b8, b9⟩ := r
  obtain ⟨u1, u2, u3, ⟨u4, u5, u6, u7⟩, u8⟩ := u
  by_cases hx : 0 ≤ x ∧ x ≤ nI k
  · obtain ⟨s0, hs0, rfl⟩ := nI_of (x := x) (by rw [Int32.not_lt]; exact hx.1)
    have sk : s0 ≤ k := (nI_leI hs0 (by omega)).mp hx.2
    -- what both know behind a text that was read
    have fin : ∀ (J J' : MI) (M M' : ML), LcF I J L M → J 479 2 = 0 → FxS J 35 → LdF 496 J J' M M' → J' 496 8 = 0 →
        (∀ y, y ≠ 69 → y ≠ 479 → 69 ≤ y → y ≠ 496 → y ≠ 497 → y ≠ 498 → J' y = I y) ∧ (∀ y, y < 496 → J' y = J y) ∧ (∀ y, 69 ≤ y → y ≠ 479 → y ≠ 496 → y ≠ 502 → y ≠ 503 → M' y = L y) ∧ (∀ y, y < 496 → M' y = M y) ∧ (∀ j, 19 < j → J' 496 j = I 496 j) := by
      intro J J' M M' l1 _ _ d1 _
      refine ⟨fun y y1 y2 y3 y4 y5 y6 => (d1.1 y y4 (by omega) (by omega)).trans (l1.1 y y1 y2 y3), fun y hy => d1.1 y (by omega) (by omega) (by omega), fun y y1 y2 y3 y4 y5 => (d1.2.2 y y3 (by omega) (by omega)).trans (l1.2.1 y y2 (Or.inr y1)), fun y hy => d1.2.2 y (by omega) (by omega) (by omega), fun j hj => (d1.2.1 j hj).trans (congrFun (l1.1 496 (by decide) (by decide) (by decide)) j)⟩
    cases hp : pText T s0 901 (tok T s0 0, mPlain (I 498), L 503) with
    | inl e =>
      refine ⟨_, -1, CL, fun v z' n' sh' J M q => ?_⟩
      obtain ⟨q2, q3, q4, q5 | ⟨s2, ex, s2k, l1, l2, l3, q5⟩⟩ := q
      · exact absurd hx q5.1
      · have es : s2 = s0 := ((nI_eq hs0 (by omega)).mp ex).symm
        subst es
        rcases q5 with ⟨e2, he, q1, p1, p2, p3, p4, p5⟩ | ⟨p, he, -⟩
        · have ee : e2 = e := Sum.inl.inj (he.symm.trans hp)
          subst ee
          have lk : ∀ y, y ≠ 69 → y ≠ 479 → 69 ≤ y → J y = I y := l1.1
          refine ⟨q1, q2, q3, q4, _, rX11_load hM ((lk _ (by decide) (by decide) (by decide)).trans b8) ((congrFun (lk 496 (by decide) (by decide) (by decide)) 8).trans b5) hk9, fun v z' n' sh' J' M' q => ?_⟩
          obtain ⟨q2, q3, q4, q5 | ⟨s3, ex3, s3k, d1, d2, d3, q5⟩⟩ := q
          · exact absurd hx q5.1
          · have es : s3 = s2 := ((nI_eq hs0 (by omega)).mp ex3).symm
            subst es
            rw [lk (496 + 2) (by decide) (by decide) (by decide), l1.2.1 (496 + 7) (by decide) (by decide)] at q5
            rcases q5 with ⟨e3, he3, q1, m1, m2, m3, m4, m5, m6⟩ | ⟨p, he3, -⟩
            · have ee : e3 = e2 := Sum.inl.inj (he3.symm.trans hp)
              subst ee
              obtain ⟨w1, w2, w3, w4, w5⟩ := fin J J' M M' l1 l2 l3 d1 d3
              have now : ∀ y, 1 ≤ y → y < 35 → J' y = I y ∧ M' y = L y := fun y y1 y2 => ⟨(w2 y (by omega)).trans (p5 y y1 y2).1, (w4 y (by omega)).trans (p5 y y1 y2).2⟩
              refine ⟨q1, q2, q3, q4, N, 9, ⟨Q, K, t, c, 0, T, B, nI e3.1, nI e3.2, ⟨a1.fr u1.1 (fun y hy => (now _ (by omega) (by omega)).1) (fun y hy => (now _ (by omega) (by omega)).2), l3.fr (fun y hy => w2 _ (by omega)), fun i hi => (a3 i hi).fr (fun y hy => w1 _ (by omega) (by omega) (by omega) (by omega) (by omega) (by omega)), ⟨?_, ?_⟩, fun i hi => ?_, ⟨?_, ?_, ?_⟩, ?_, fun i hi => ?_, ?_⟩, ⟨?_, ?_, ?_, ?_, ?_, m2, m3, ?_, ?_⟩, ⟨u1, u2, u3, ⟨u4, u5, by omega, u7⟩, u8⟩, ?_⟩, m1⟩
              · rw [w2 69 (by decide), l1.2.2]
                exact a4.1
              · rw [w2 69 (by decide), p4]
                exact a4.2
              · have q := a5 i hi
                obtain ⟨j, hj, ej⟩ := hB_lt (t := t) (c := c) (k := i)
                rw [ej] at q ⊢
                exact q.fr (u8 i hi).1.1 (fun y hy => w1 _ (by omega) (by omega) (by omega) (by omega) (by omega) (by omega)) (fun y hy => w3 _ (by omega) (by omega) (by omega) (by omega) (by omega))
              · rw [w2 479 (by decide)]
                exact l2
              · rw [w2 479 (by decide)]
                exact p2
              · rw [w2 479 (by decide)]
                exact p3
              · rw [w1 480 (by decide) (by decide) (by decide) (by decide) (by decide) (by decide)]
                exact a7
              · rw [w3 481 (by decide) (by decide) (by decide) (by decide) (by decide)]
                exact a8 i hi
              · unfold Prc at a9 ⊢
                rw [w1 482 (by decide) (by decide) (by decide) (by decide) (by decide) (by decide), w1 483 (by decide) (by decide) (by decide) (by decide) (by decide) (by decide)]
                exact a9
              · rw [show J' 497 = J 497 from m5, lk 497 (by decide) (by decide) (by decide)]
                exact b1
              · rw [show M' 502 = M 502 from m6, l1.2.1 502 (by decide) (by decide)]
                exact b2
              · rw [w1 500 (by decide) (by decide) (by decide) (by decide) (by decide) (by decide)]
                exact b3
              · rw [m4, lk 496 (by decide) (by decide) (by decide)]
                exact b4
              · exact d3
              · rw [w1 501 (by decide) (by decide) (by decide) (by decide) (by decide) (by decide)]
                exact b8
              · unfold Prt at b9 ⊢
                rw [w5 32 (by decide), w1 (496 + 14) (by decide) (by decide) (by decide) (by decide) (by decide) (by decide)]
                exact b9
              · rw [w2 0 (by decide)]
                exact p1
            · rw [show (496 + 2) = 498 from rfl, show (496 + 7) = 503 from rfl, hp] at he3
              cases he3
        · rw [hp] at he
          cases he
    | inr p =>
      refine ⟨_, p.2.1 231, CL, fun v z' n' sh' J M q => ?_⟩
      obtain ⟨q2, q3, q4, q5 | ⟨s2, ex, s2k, l1, l2, l3, q5⟩⟩ := q
      · exact absurd hx q5.1
      · have es : s2 = s0 := ((nI_eq hs0 (by omega)).mp ex).symm
        subst es
        rcases q5 with ⟨e, he, -⟩ | ⟨p2, he, q1, g1, g2, g3, g4, g5, g6⟩
        · rw [hp] at he
          cases he
        · have ee : p2 = p := Sum.inr.inj (he.symm.trans hp)
          subst ee
          have lk : ∀ y, y ≠ 69 → y ≠ 479 → 69 ≤ y → J y = I y := l1.1
          refine ⟨q1, q2, q3, q4, _, rX11_load hM ((lk _ (by decide) (by decide) (by decide)).trans b8) ((congrFun (lk 496 (by decide) (by decide) (by decide)) 8).trans b5) hk9, fun v z' n' sh' J' M' q => ?_⟩
          obtain ⟨q2, q3, q4, q5 | ⟨s3, ex3, s3k, d1, d2, d3, q5⟩⟩ := q
          · exact absurd hx q5.1
          · have es : s3 = s2 := ((nI_eq hs0 (by omega)).mp ex3).symm
            subst es
            rw [lk (496 + 2) (by decide) (by decide) (by decide), l1.2.1 (496 + 7) (by decide) (by decide)] at q5
            rcases q5 with ⟨e3, he3, -⟩ | ⟨p3, he3, hPI, r1, m1, m2, m3, m4, m5, m6⟩
            · rw [show (496 + 2) = 498 from rfl, show (496 + 7) = 503 from rfl, hp] at he3
              cases he3
            · have ee : p3 = p2 := Sum.inr.inj (he3.symm.trans hp)
              subst ee
              obtain ⟨w1, w2, w3, w4, w5⟩ := fin J J' M M' l1 l2 l3 d1 d3
              obtain ⟨-, hO, hG, hn1, hn2⟩ := hPI
              have iv := PG.iv hO hG
              have ex := PG.more hG
              have e9 : E9 p3.2.1 (mCopy p3.2.1 (J (496 + 1))) := copy_E9
              have nm : NmA p3.2.1 p3.2.2 := ⟨hn1, hn2⟩
              refine ⟨r1, q2, q3, q4, mCopy p3.2.1 (J (496 + 1)), 0, ⟨M' 502, K, t, 0, 0, T, B, 0, -1, ⟨?_, l3.fr (fun y hy => w2 _ (by omega)), fun i hi => (a3 i hi).fr (fun y hy => w1 _ (by omega) (by omega) (by omega) (by omega) (by omega) (by omega)), ⟨?_, ?_⟩, fun i hi => absurd hi (by omega), ⟨?_, ?_, ?_⟩, ?_, fun i hi => ?_, ?_⟩, ⟨m5, rfl, ?_, m4, d3, m2, m3, ?_, ?_⟩, ⟨e9.iv iv, e9.ex iv.1 ex, nm.eq (e9 _ (by omega)) (e9 _ (by omega)) iv.1 m6, ⟨u4, by omega, by omega, u7⟩, fun i hi => absurd hi (by omega)⟩, ?_⟩, m1⟩
              · exact (g5.fr iv.1 (fun y hy => w2 _ (by omega)) (fun y hy => w4 _ (by omega))).eq9 iv.1 e9 m6
              · rw [w2 69 (by decide), l1.2.2]
                exact a4.1
              · rw [w2 69 (by decide)]
                exact g4
              · rw [w2 479 (by decide)]
                exact l2
              · rw [w2 479 (by decide)]
                exact g2
              · rw [w2 479 (by decide)]
                exact g3
              · rw [w1 480 (by decide) (by decide) (by decide) (by decide) (by decide) (by decide)]
                exact a7
              · rw [w3 481 (by decide) (by decide) (by decide) (by decide) (by decide)]
                exact a8 i hi
              · unfold Prc at a9 ⊢
                rw [w1 482 (by decide) (by decide) (by decide) (by decide) (by decide) (by decide), w1 483 (by decide) (by decide) (by decide) (by decide) (by decide) (by decide)]
                exact a9
              · rw [w1 500 (by decide) (by decide) (by decide) (by decide) (by decide) (by decide)]
                exact b3
              · rw [w1 501 (by decide) (by decide) (by decide) (by decide) (by decide) (by decide)]
                exact b8
              · unfold Prt at b9 ⊢
                rw [w5 32 (by decide), w1 (496 + 14) (by decide) (by decide) (by decide) (by decide) (by decide) (by decide)]
                exact b9
              · rw [w2 0 (by decide)]
                exact g1
  · refine ⟨_, -1, CL, fun v z' n' sh' J M q => ?_⟩
    obtain ⟨q2, q3, q4, ⟨-, q1, rfl, rfl⟩ | ⟨s2, rfl, s2k, -⟩⟩ := q
    · have H2 : Half N 1 (upI I 0 8 1) M := H.cls (H.fx.fr (fun y hy => if_neg (by omega))) (fun y hy => if_neg (by unfold rdX at hy; omega)) (fun _ _ => rfl) upI_s
      refine ⟨q1, q2, q3, q4, _, rX11_load hM (T := T) (tp := k) (show upI I 0 8 1 501 = T from b8) (show upI I 0 8 1 496 8 = nI k from b5) hk9, fun v z' n' sh' J' M' q => ?_⟩
      obtain ⟨q2, q3, q4, ⟨-, q1, rfl, rfl⟩ | ⟨s3, rfl, s3k, -⟩⟩ := q
      · exact ⟨q1, q2, q3, q4, H2.stt⟩
      · exact absurd ⟨Int32.not_lt.mp (nI_pos (by omega)), (nI_leI (by omega) (by omega)).mpr s3k⟩ hx
    · exact absurd ⟨Int32.not_lt.mp (nI_pos (by omega)), (nI_leI (by omega) (by omega)).mpr s2k⟩ hx
end PRE
