/-! the acts: both answer alike, and keep alike -/
def aA (a : Act) : Int32 := match a with
  | .inl _ => -1
  | .inr w => w.1
section PRA
variable {N : Nat → Int32} {Q : Nat → Int64} {K : Nat → Int32} {t c k : Nat} {T : Nat → Int32} {B : List Int32} {f1 f2 s : Int32} {I J : MI} {L M : ML} {z n z' n' : Nat} {sh sh' : Shp} {v : Option Value} {a : Act}
/-- rows kept: what is true of the old ones and of the one that is put is true of the new ones -/
theorem keep_all {P : Nat → (Nat → Int32) → Prop} (hc : c ≤ 12) (ht : t < 12) (he : ∀ b X Y, Cn X → E9 X Y → P b X → P b Y) (hn : Cn N) (h0 : P t N) (hi : ∀ i, i < c → (t + 12 - c + i) % 12 ≠ t → Cn (kR K i) ∧ P ((t + 12 - c + i) % 12) (kR K i)) :
    ∀ i, i < min (c + 1) 12 → P (((t + 1) % 12 + 12 - min (c + 1) 12 + i) % 12) (kR (mKeepK K N c) i) := by
  intro i hl
  by_cases h12 : c = 12
  · subst h12
    have em : mKeepK K N 12 = kPut (kShift K) N 11 390 := if_pos rfl
    rw [em]
    by_cases e : i = 11
    · subst e
      rw [show ((t + 1) % 12 + 12 - min (12 + 1) 12 + 11) % 12 = t by omega]
      exact he _ _ _ hn kR_own h0
    · have q := hi (i + 1) (by omega) (by omega)
      rw [show ((t + 1) % 12 + 12 - min (12 + 1) 12 + i) % 12 = (t + 12 - 12 + (i + 1)) % 12 by omega]
      have e1 : E9 (kR K (i + 1)) (kR (kShift K) i) := kR_shift (by omega)
      exact he _ _ _ (e1.cn q.1) (kR_put (by omega)) (he _ _ _ q.1 e1 q.2)
  · have em : mKeepK K N c = kPut K N c 390 := if_neg h12
    rw [em]
    by_cases e : i = c
    · subst e
      rw [show ((t + 1) % 12 + 12 - min (i + 1) 12 + i) % 12 = t by omega]
      exact he _ _ _ hn kR_own h0
    · have q := hi i (by omega) (by omega)
      rw [show ((t + 1) % 12 + 12 - min (c + 1) 12 + i) % 12 = (t + 12 - c + i) % 12 by omega]
      exact he _ _ _ q.1 (kR_put (by omega)) q.2
theorem PU.keep {w : Nat → Int32} (u : PU N Q K t c k B) (hw : Iv w ∧ Ex w ∧ w 230 = N 230 ∧ w 231 = N 231) : PU w Q (mKeepK K N c) ((t + 1) % 12) (min (c + 1) 12) k B := by
  obtain ⟨u1, u2, u3, ⟨u4, u5, u6, u7⟩, u8⟩ := u
  refine ⟨hw.1, hw.2.1, u3.eq hw.2.2.1 hw.2.2.2 u1.1 (fun _ _ => rfl), ⟨by omega, by omega, u6, u7⟩, ?_⟩
  exact keep_all (P := fun _ X => Iv X ∧ Ex X ∧ NmA X Q) u5 u4 (fun _ X Y c e p => ⟨e.iv p.1, e.ex c p.2.1, p.2.2.eq (e _ (by omega)) (e _ (by omega)) c (fun _ _ => rfl)⟩) u1.1 ⟨u1, u2, u3⟩ (fun i hi _ => ⟨(u8 i hi).1.1, u8 i hi⟩)
theorem CX.keep {w : Nat → Int32} (h : CX N Q K t c k T B f1 f2 I L) (u : PU N Q K t c k B) (hw : Cn w) (g : KF t c N w Q I L J M) : CX w Q (mKeepK K N c) ((t + 1) % 12) (min (c + 1) 12) k T B f1 f2 (upI J 0 8 0) M := by
  obtain ⟨a1, a2, a3, a4, a5, a6, a7, a8, a9⟩ := h
  obtain ⟨g1, g2, g3, g4, g5, g6, g7⟩ := g
  obtain ⟨u1, u2, u3, ⟨u4, u5, u6, u7⟩, u8⟩ := u
  have e0 : ∀ x, 1 ≤ x → upI J 0 8 0 x = J x := fun x hx => if_neg (by omega)
  have eJ : ∀ x, 70 ≤ x → (x < 69 + 2 + 34 * t ∨ 69 + 2 + 34 * t + 34 ≤ x) → upI J 0 8 0 x = I x := fun x h1 h2 => (e0 x (by omega)).trans (g1 x (Or.inr h1) h2)
  refine ⟨g3.fr hw (fun a ha => e0 _ (by omega)) (fun _ _ => rfl), g7.fr (fun a ha => e0 _ (by omega)), fun i hi => ?_, ⟨by rw [e0 69 (by omega)]; exact g5, by rw [e0 69 (by omega)]; exact g6⟩, ?_, ?_, ?_, fun i hi => ?_, ?_⟩
  · by_cases e : i = t
    · subst e
      exact g4.1.fr (fun a ha => e0 _ (by omega))
    · exact (a3 i hi).fr (fun a ha => eJ _ (by omega) (by omega))
  · refine keep_all (P := fun b X => CtS (upI J 0 8 0) M (69 + 2 + 34 * b) X Q) u5 u4 (fun _ X Y c e p => p.eq9 c e (fun _ _ => rfl)) u1.1 (g4.fr u1.1 (fun a ha => e0 _ (by omega)) (fun _ _ => rfl)) (fun i hi hne => ⟨(u8 i hi).1.1, ?_⟩)
    have q := a5 i hi
    have hj : (t + 12 - c + i) % 12 < 12 := Nat.mod_lt _ (by decide)
    show CtS (upI J 0 8 0) M (69 + 2 + 34 * ((t + 12 - c + i) % 12)) (kR K i) Q
    have q2 : CtS I L (69 + 2 + 34 * ((t + 12 - c + i) % 12)) (kR K i) Q := q
    generalize (t + 12 - c + i) % 12 = j at q2 hne hj
    exact q2.fr (u8 i hi).1.1 (fun a ha => eJ _ (by omega) (by omega)) (fun a ha => g2 _ (by omega) (by omega))
  · rw [eJ 479 (by omega) (by omega)]
    exact a6
  · rw [eJ 480 (by omega) (by omega)]
    exact a7
  · rw [g2 481 (by omega) (by omega)]
    exact a8 i hi
  · unfold Prc at a9 ⊢
    rw [eJ 482 (by omega) (by omega), eJ 483 (by omega) (by omega)]
    exact a9
/-- behind the class's act -/
def Mid (a : Act) (N : Nat → Int32) (J : MI) (M : ML) : Prop := match a with
  | .inl s => Half N s J M
  | .inr w => ∃ Q K t c k T B f1 f2, CX w.2 Q (mKeepK K N c) ((t + 1) % 12) (min (c + 1) 12) k T B f1 f2 J M ∧ RM N Q K c k T B f1 f2 J M ∧ PU w.2 Q (mKeepK K N c) ((t + 1) % 12) (min (c + 1) 12) k B ∧ J 0 8 = 0 ∧ c ≤ 12
theorem Mid.of (h : CX N Q K t c k T B f1 f2 I L) (r : RM N Q K c k T B f1 f2 I L) (u : PU N Q K t c k B) (h0 : I 0 8 = s) (ak : AK N a) (q : CA a t c N Q z n sh I L v z' n' sh' J M) : v = some (.int (aA a)) ∧ z' = z ∧ n' = n ∧ sh' = sh ∧ Mid a N J M := by
  obtain ⟨q1, q2, q3, J0, q4⟩ := q
  cases a with
  | inl s2 =>
    obtain ⟨rfl, rfl, g1, g2, g3⟩ := q4
    have H : Half N s I L := ⟨Q, K, t, c, k, T, B, f1, f2, h, r, u, h0⟩
    exact ⟨rfl, q1, q2, q3, H.cls (g3.fr (fun x hx => if_neg (by omega))) (fun x hx => (if_neg (by unfold rdX at hx; omega)).trans (g1 x (by unfold rdX at hx; omega))) (fun x hx => g2 x (by unfold rdX at hx; omega)) upI_s⟩
  | inr w =>
    obtain ⟨rfl, rfl, g⟩ := q4
    have hw := ak w rfl
    have ht := u.2.2.2.1.1
    refine ⟨rfl, q1, q2, q3, Q, K, t, c, k, T, B, f1, f2, h.keep u hw.1.1 g, ?_, u.keep hw, upI_s, u.2.2.2.1.2.1⟩
    have e : ∀ x, 496 ≤ x → upI J0 0 8 0 x = I x := fun x hx => (if_neg (by omega)).trans (g.1 x (by omega) (by omega))
    exact r.fr (fun x hx => e x (by omega)) (g.2.1 502 (by omega) (by omega)) (fun k _ => by rw [e 496 (by omega)])
theorem Mid.row (h : Mid a N J M) : J (496 + 1) = N ∧ ∃ c, J 496 12 = nI c ∧ c ≤ 12 := by
  cases a with
  | inl s =>
    obtain ⟨Q, K, t, c, k, T, B, f1, f2, h1, h2, h3, -⟩ := h
    exact ⟨h2.1, c, h2.2.2.2.1, h3.2.2.2.1.2.1⟩
  | inr w =>
    obtain ⟨Q, K, t, c, k, T, B, f1, f2, h1, h2, h3, -, hc⟩ := h
    exact ⟨h2.1, c, h2.2.2.2.1, hc⟩
theorem keepA_min (hc : c ≤ 12) : mKeepA c = min (c + 1) 12 := by
  unfold mKeepA
  split <;> omega
theorem Mid.end {ac : Nat} {I' : MI} {M' : ML} (h : Mid a N J M) (ha : J 496 12 = nI ac) (hac : ac ≤ 12) (q : AcS a z n sh J M 496 N ac v z' n' sh' I' M') : v = some (.int (aA a)) ∧ z' = z ∧ n' = n ∧ sh' = sh ∧ Good I' M' := by
  obtain ⟨q1, q2, q3, rfl, J0, hr, q4⟩ := q
  cases a with
  | inl s =>
    obtain ⟨rfl, rfl⟩ := q4
    exact ⟨rfl, q1, q2, q3, (Half.rsc h hr).stt⟩
  | inr w =>
    obtain ⟨rfl, rfl⟩ := q4
    obtain ⟨Q, K, t, c, k, T, B, f1, f2, h1, h2, h3, h4, hc⟩ := h
    have ec : ac = c := (nI_eq (by omega) (by omega)).mp (ha.symm.trans h2.2.2.2.1)
    subst ec
    have eL : ∀ x, x ≠ 496 → x ≠ 497 → x ≠ 500 → stt (upA (Kp J0 496 N ac) (496 + 1) w.2) 496 0 x = J0 x := fun x a1 a2 a3 => by
      unfold stt
      refine (if_neg a1).trans ((if_neg a1).trans ((if_neg a2).trans ((if_neg a1).trans (if_neg a3))))
    have e6 : ∀ k, k ≠ 0 → k ≠ 9 → k ≠ 12 → stt (upA (Kp J0 496 N ac) (496 + 1) w.2) 496 0 496 k = J0 496 k := fun k a1 a2 a3 => by
      unfold stt
      rw [upI_n (Or.inr a2), upI_n (Or.inr a1)]
      show Kp J0 496 N ac 496 k = _
      unfold Kp
      rw [upI_n (Or.inr a3)]
      rfl
    have rA : ∀ x, x ≠ 496 → x ≠ 499 → (x < 504 ∨ 509 < x) → J0 x = J x := fun x a1 a2 a3 => hr.1 x a1 a2 (by omega)
    refine ⟨rfl, q1, q2, q3, w.2, 0, ⟨Q, mKeepK K N ac, (t + 1) % 12, min (ac + 1) 12, k, T, B, f1, f2, ?_, ?_, h3, ?_⟩, ?_⟩
    · exact h1.fr h3 (h1.2.1.fr (fun x hx => (eL _ (by omega) (by omega) (by omega)).trans (rA _ (by omega) (by omega) (by omega)))) (fun x hx => (eL _ (by unfold rdX at hx; omega) (by unfold rdX at hx; omega) (by unfold rdX at hx; omega)).trans (rA _ (by unfold rdX at hx; omega) (by unfold rdX at hx; omega) (by unfold rdX at hx; omega))) (fun _ _ => rfl)
    · obtain ⟨b1, b2, b3, b4, b5, b6, b7, b8, b9⟩ := h2
      refine ⟨?_, b2, ?_, ?_, ?_, ?_, ?_, ?_, ?_⟩
      · rfl
      · show mKeepK (J0 (496 + 4)) N ac = _
        rw [rA (496 + 4) (by omega) (by omega) (by omega), show J (496 + 4) = K from b3]
      · unfold stt
        rw [upI_n (Or.inr (by decide)), upI_n (Or.inr (by decide))]
        show Kp J0 496 N ac 496 12 = _
        unfold Kp
        rw [upI_s, keepA_min hc]
      · rw [e6 8 (by decide) (by decide) (by decide), hr.2 8 (by decide) (by decide) (by decide)]
        exact b5
      · rw [e6 10 (by decide) (by decide) (by decide), hr.2 10 (by decide) (by decide) (by decide)]
        exact b6
      · rw [e6 11 (by decide) (by decide) (by decide), hr.2 11 (by decide) (by decide) (by decide)]
        exact b7
      · rw [eL 501 (by decide) (by decide) (by decide), rA 501 (by decide) (by decide) (by decide)]
        exact b8
      · unfold Prt at b9 ⊢
        rw [e6 32 (by decide) (by decide) (by decide), hr.2 32 (by decide) (by decide) (by decide), eL (496 + 14) (by decide) (by decide) (by decide), rA (496 + 14) (by decide) (by decide) (by decide)]
        exact b9
    · rw [eL 0 (by decide) (by decide) (by decide), rA 0 (by decide) (by decide) (by decide)]
      exact h4
    · exact upI_s
end PRA
