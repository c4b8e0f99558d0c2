/-! between two calls: the class's store and the reference's say the same -/
abbrev hB (t c i : Nat) : Nat := 69 + 2 + 34 * ((t + 12 - c + i) % 12)
/-- the class: state, history, reader, paper -/
def CX (N : Nat → Int32) (Q : Nat → Int64) (K : Nat → Int32) (t c k : Nat) (T : Nat → Int32) (B : List Int32) (f1 f2 : Int32) (I : MI) (L : ML) : Prop :=
  CtS I L 1 N Q ∧ FxS I 35 ∧ (∀ i, i < 12 → FxS I (69 + 2 + 34 * i)) ∧ (I 69 1 = nI t ∧ I 69 2 = nI c) ∧ (∀ i, i < c → CtS I L (hB t c i) (kR K i) Q) ∧ (I 479 2 = nI k ∧ I 479 3 = f1 ∧ I 479 4 = f2) ∧ I 480 = T ∧ KwO L ∧ Prc I B
/-- the reference -/
def RM (N : Nat → Int32) (Q : Nat → Int64) (K : Nat → Int32) (c k : Nat) (T : Nat → Int32) (B : List Int32) (f1 f2 : Int32) (I : MI) (L : ML) : Prop :=
  I 497 = N ∧ L 502 = Q ∧ I 500 = K ∧ I 496 12 = nI c ∧ I 496 8 = nI k ∧ I 496 10 = f1 ∧ I 496 11 = f2 ∧ I 501 = T ∧ Prt I 496 B
def PU (N : Nat → Int32) (Q : Nat → Int64) (K : Nat → Int32) (t c k : Nat) (B : List Int32) : Prop :=
  Iv N ∧ Ex N ∧ NmA N Q ∧ (t < 12 ∧ c ≤ 12 ∧ k ≤ 900 ∧ B.length ≤ 1024) ∧ ∀ i, i < c → Iv (kR K i) ∧ Ex (kR K i) ∧ NmA (kR K i) Q
def Half (N : Nat → Int32) (s : Int32) (I : MI) (L : ML) : Prop := ∃ Q K t c k T B f1 f2, CX N Q K t c k T B f1 f2 I L ∧ RM N Q K c k T B f1 f2 I L ∧ PU N Q K t c k B ∧ I 0 8 = s
def Good (I : MI) (L : ML) : Prop := ∃ N s, Half N s I L ∧ I 496 9 = s
/-- rows of the class that are read between calls, but the spare state -/
def rdX (a : Nat) : Prop := 1 ≤ a ∧ (a < 35 ∨ 69 ≤ a) ∧ a < 484
section BT
variable {N : Nat → Int32} {Q : Nat → Int64} {K : Nat → Int32} {t c k : Nat} {T : Nat → Int32} {B : List Int32} {f1 f2 s s' : Int32} {I J : MI} {L M : ML}
theorem hB_lt : ∃ j, j < 12 ∧ hB t c k = 69 + 2 + 34 * j := ⟨_, Nat.mod_lt _ (by decide), rfl⟩
theorem CX.fr (h : CX N Q K t c k T B f1 f2 I L) (u : PU N Q K t c k B) (f : FxS J 35) (e : ∀ a, rdX a → J a = I a) (eM : ∀ a, rdX a → M a = L a) : CX N Q K t c k T B f1 f2 J M := by
  obtain ⟨a1, a2, a3, a4, a5, a6, a7, a8, a9⟩ := h
  refine ⟨a1.fr u.1.1 (fun a ha => e _ (by unfold rdX; omega)) (fun a ha => eM _ (by unfold rdX; omega)), f, fun i hi => (a3 i hi).fr (fun a ha => e _ (by unfold rdX; omega)), ?_, fun i hi => ?_, ?_, ?_, ?_, ?_⟩
  · rw [e 69 (by unfold rdX; omega)]
    exact a4
  · have q := a5 i hi
    obtain ⟨j, hj, ej⟩ := hB_lt (t := t) (c := c) (k := i)
    rw [ej] at q ⊢
    exact q.fr (u.2.2.2.2 i hi).1.1 (fun a ha => e _ (by unfold rdX; omega)) (fun a ha => eM _ (by unfold rdX; omega))
  · rw [e 479 (by unfold rdX; omega)]
    exact a6
  · rw [e 480 (by unfold rdX; omega)]
    exact a7
  · intro i hi
    rw [eM 481 (by unfold rdX; omega)]
    exact a8 i hi
  · unfold Prc at a9 ⊢
    rw [e 482 (by unfold rdX; omega), e 483 (by unfold rdX; omega)]
    exact a9
theorem RM.fr (h : RM N Q K c k T B f1 f2 I L) (e : ∀ a, a = 497 ∨ a = 500 ∨ a = 501 ∨ a = 510 → J a = I a) (eM : M 502 = L 502) (e6 : ∀ k, k = 8 ∨ k = 10 ∨ k = 11 ∨ k = 12 ∨ k = 32 → J 496 k = I 496 k) : RM N Q K c k T B f1 f2 J M := by
  obtain ⟨a1, a2, a3, a4, a5, a6, a7, a8, a9⟩ := h
  refine ⟨by rw [e 497 (by omega)]; exact a1, by rw [eM]; exact a2, by rw [e 500 (by omega)]; exact a3, by rw [e6 12 (by omega)]; exact a4, by rw [e6 8 (by omega)]; exact a5, by rw [e6 10 (by omega)]; exact a6, by rw [e6 11 (by omega)]; exact a7, by rw [e 501 (by omega)]; exact a8, ?_⟩
  unfold Prt at a9 ⊢
  rw [e6 32 (by omega), show J (496 + 14) = I (496 + 14) from e 510 (by omega)]
  exact a9
/-- the class changed nothing that is read but the status and, maybe, the spare state -/
theorem Half.cls (h : Half N s I L) (f : FxS J 35) (e : ∀ a, rdX a ∨ 496 ≤ a → J a = I a) (eM : ∀ a, rdX a ∨ 496 ≤ a → M a = L a) (e0 : J 0 8 = s') : Half N s' J M := by
  obtain ⟨Q, K, t, c, k, T, B, f1, f2, h1, h2, h3, -⟩ := h
  exact ⟨Q, K, t, c, k, T, B, f1, f2, h1.fr h3 f (fun a ha => e a (Or.inl ha)) (fun a ha => eM a (Or.inl ha)), h2.fr (fun a ha => e a (Or.inr (by omega))) (eM _ (Or.inr (by omega))) (fun k _ => by rw [e 496 (Or.inr (by omega))]), h3, e0⟩
theorem Half.ref (h : Half N s I L) (e : ∀ a, a < 496 ∨ a = 497 ∨ a = 500 ∨ a = 501 ∨ a = 510 → J a = I a) (eM : ∀ a, a < 496 ∨ a = 502 → M a = L a) (e6 : ∀ k, k = 8 ∨ k = 10 ∨ k = 11 ∨ k = 12 ∨ k = 32 → J 496 k = I 496 k) : Half N s J M := by
  obtain ⟨Q, K, t, c, k, T, B, f1, f2, h1, h2, h3, h4⟩ := h
  exact ⟨Q, K, t, c, k, T, B, f1, f2, h1.fr h3 (h1.2.1.fr (fun a ha => e _ (Or.inl (by omega)))) (fun a ha => e a (Or.inl (by unfold rdX at ha; omega))) (fun a ha => eM a (Or.inl (by unfold rdX at ha; omega))), h2.fr (fun a ha => e a (Or.inr ha)) (eM _ (Or.inr rfl)) e6, h3, by rw [e 0 (Or.inl (by omega))]; exact h4⟩
theorem Half.fx (h : Half N s I L) : FxS I 35 := by
  obtain ⟨Q, K, t, c, k, T, B, f1, f2, h1, -⟩ := h
  exact h1.2.1
theorem Half.ct (h : Half N s I L) : ∃ Q, CtS I L 1 N Q := by
  obtain ⟨Q, K, t, c, k, T, B, f1, f2, h1, -⟩ := h
  exact ⟨Q, h1.1⟩
theorem Half.iv (h : Half N s I L) : Iv N ∧ Ex N := by
  obtain ⟨Q, K, t, c, k, T, B, f1, f2, -, -, h3, -⟩ := h
  exact ⟨h3.1, h3.2.1⟩
theorem Half.row (h : Half N s I L) : I (496 + 1) = N := by
  obtain ⟨Q, K, t, c, k, T, B, f1, f2, -, h2, -⟩ := h
  exact h2.1
variable {z n z' n' : Nat} {sh sh' : Shp} {v : Option Value} {a : An}
theorem Half.Ct (h : Half N s I L) (q : Ct a z n sh I L v z' n' sh' J M) : v = some (.int a.1) ∧ z' = z ∧ n' = n ∧ sh' = sh ∧ Half N a.2 J M := by
  obtain ⟨q1, q2, q3, q4, q5, q6⟩ := q
  subst q5; subst q6
  exact ⟨q1, q2, q3, q4, h.cls (h.fx.fr (fun x hx => if_neg (by omega))) (fun x hx => if_neg (by unfold rdX at hx; omega)) (fun _ _ => rfl) upI_s⟩
theorem Half.Cs (h : Half N s I L) (q : Cs a z n sh I L v z' n' sh' J M) : v = some (.int a.1) ∧ z' = z ∧ n' = n ∧ sh' = sh ∧ Half N a.2 J M := by
  obtain ⟨q1, q2, q3, q4, J0, rfl, g1, g2, g3⟩ := q
  exact ⟨q1, q2, q3, q4, h.cls (g3.fr (fun x hx => if_neg (by omega))) (fun x hx => (if_neg (by unfold rdX at hx; omega)).trans (g1 x (by unfold rdX at hx; omega))) (fun x hx => g2 x (by unfold rdX at hx; omega)) upI_s⟩
theorem Half.Cw {lo hi : Nat} (h : Half N s I L) (hl : 484 ≤ lo ∧ hi ≤ 496) (q : Cw lo hi a z n sh I L v z' n' sh' J M) : v = some (.int a.1) ∧ z' = z ∧ n' = n ∧ sh' = sh ∧ Half N a.2 J M := by
  obtain ⟨q1, q2, q3, q4, rfl, J0, rfl, g1⟩ := q
  exact ⟨q1, q2, q3, q4, h.cls (h.fx.fr (fun x hx => (if_neg (by omega)).trans (g1 _ (by omega)))) (fun x hx => (if_neg (by unfold rdX at hx; omega)).trans (g1 x (by unfold rdX at hx; omega))) (fun x hx => rfl) upI_s⟩
theorem Half.stt (h : Half N s I L) : Good (stt I 496 s) L := by
  refine ⟨N, s, h.ref (fun x hx => ?_) (fun _ _ => rfl) (fun k hk => ?_), ?_⟩
  · exact (if_neg (by omega)).trans (if_neg (by omega))
  · exact (upI_n (Or.inr (by omega))).trans (upI_n (Or.inr (by omega)))
  · exact upI_s
theorem Half.rsc (h : Half N s I L) (q : RSc 496 I J) : Half N s J L := h.ref (fun x hx => q.1 x (by omega) (by omega) (by omega)) (fun _ _ => rfl) (fun k hk => q.2 k (by omega) (by omega) (by omega))
theorem Half.Tl (h : Half N a.2 I L) (q : Tl a z n sh I L 496 v z' n' sh' J M) : v = some (.int a.1) ∧ z' = z ∧ n' = n ∧ sh' = sh ∧ Good J M := by
  obtain ⟨q1, q2, q3, q4, q5, q6⟩ := q
  subst q5; subst q6
  exact ⟨q1, q2, q3, q4, h.stt⟩
theorem Half.TlS (h : Half N a.2 I L) (q : TlS a z n sh I L 496 v z' n' sh' J M) : v = some (.int a.1) ∧ z' = z ∧ n' = n ∧ sh' = sh ∧ Good J M := by
  obtain ⟨q1, q2, q3, q4, rfl, J0, g1, rfl⟩ := q
  exact ⟨q1, q2, q3, q4, (h.rsc g1).stt⟩
end BT
/-- one call of both: the same answer, and what holds between calls holds again -/
def Pair (y1 : MethodName) (c1 : ByteArray) (n1 d1 : Nat) (y2 : MethodName) (c2 : ByteArray) (n2 d2 : Nat) (As : List Value) (z n : Nat) (sh : Shp) (I : MI) (L : ML) : Prop :=
  ∃ (Po1 : PoT) (a : Int32), CM y1 c1 n1 (some .int) d1 0 0 (.ref 0 :: As) z n sh I L Po1 ∧ ∀ v z' n' sh' J M, Po1 v z' n' sh' J M → v = some (.int a) ∧ z' = z ∧ n' = n ∧ sh' = sh ∧
    ∃ Po2, CM y2 c2 n2 (some .int) d2 0 0 (.ref 496 :: As) z n sh J M Po2 ∧ ∀ v z' n' sh' J' M', Po2 v z' n' sh' J' M' → v = some (.int a) ∧ z' = z ∧ n' = n ∧ sh' = sh ∧ Good J' M'
