/-! constructors: a state -/
section ANC
variable {X : Cx} {g : Gd} {own : String} {cc : ByteArray} {nL : Nat} {Bd : Nat × Nat × Nat} {I : MI} {L : ML} {pc : Nat} {Lc : List (Option Value)} {st : List Value} {z n c s : Nat} {sh : Shp}
theorem an_c {idx b d mc ms np z' n' : Nat} {sh' : Shp} {I' : MI} {L' : ML} {y : MethodName} {cc2 : ByteArray} {nL2 : Nat} {As st0 : List Value} (dg : decode cc pc = .ok (.invokespecial idx, 3)) (hl : Cond.methodLink own idx y ∈ tblG) (hm : mI y cc2 nL2 np) (hM : CM y cc2 nL2 none d mc ms (.ref b :: As) z n sh I L (Pst none z' n' sh' I' L'))
    (hd : d + 1 ≤ Bd.1) (hb : b < n) (hst : st0 = As.reverse ++ .ref b :: st) (hn : As.length = np) (hw : (st.map fun v => v.category).sum ≤ 8) (hf : c + mc ≤ Bd.2.1 ∧ s + ms ≤ Bd.2.2)
    (kk : AW X g own cc nL Bd (z', n', sh', c + mc, s + ms) I' L' (pc + 3) Lc st) : AW X g own cc nL Bd (z, n, sh, c, s) I L pc Lc st0 :=
  aw_callI (ci := 0) dg hl hm hM hd hb hst hn hw hf (fun v z n sh I3 L3 q => by obtain ⟨rfl, rfl, rfl, rfl, rfl, rfl⟩ := q; exact kk)
theorem an_pR {idx ci k a b : Nat} (d : decode cc pc = .ok (.putfield idx, 3)) (f : fL own idx ci k) (hk : (sh a).1 = ci) (ha : a < n) (hb : b < n) (ht : ftc (tyK ci k) = 2) (h1n : ∀ q : Nat, narrow (tyK ci k) (.ref q) = .ref q) (h1f : ∀ q : Nat, fits (tyK ci k) (.ref q) = true) (hf : (clT ci k).2.2.2 = true) (hn : (xT X).name = "<init>") (hdecl : (clT ci k).1 = own)
    (kk : AW X g own cc nL Bd (z, n, upR sh a k (some b), c, s) I L (pc + 3) Lc st) : AW X g own cc nL Bd (z, n, sh, c, s) I L pc Lc (.ref b :: .ref a :: st) := aw_putFR d f hk ha hb ht h1n h1f hf hn hdecl kk
theorem an_a {a v k ci i : Nat} {x : Int32} (d : decode cc pc = .ok (.aastore, 1)) (hk : (sh a).1 = k) (hc : 103 ≤ k) (hci : ci < 12) (hy : ∀ g : Gd, (tysK g)[k - 100]? = some (g.2.2.2 k, .object (clR ci))) (ha : a < n) (hv : v < n) (hkv : (sh v).1 = ci) (hx : x = nI i) (hi : i < (sh a).2.1) (h31 : (sh a).2.1 < 2 ^ 31)
    (kk : AW X g own cc nL Bd (z, n, upR sh a i (some v), c, s) I L (pc + 1) Lc st) : AW X g own cc nL Bd (z, n, sh, c, s) I L pc Lc (.ref v :: .int x :: .ref a :: st) := aw_aast d hk hc hci hy ha hv hkv hx hi h31 kk
/-- the same counts, told otherwise -/
theorem AW.en {z' n' c' s' : Nat} (hz : z = z') (hn : n = n') (hc : c = c') (hs : s = s') (k : AW X g own cc nL Bd (z', n', sh, c', s') I L pc Lc st) : AW X g own cc nL Bd (z, n, sh, c, s) I L pc Lc st := by
  subst hz hn hc hs
  exact k
end ANC
theorem aoHome : ∀ (g : Gd) (U : State) (H : Heap), StK g U H → va_AO "HomesQueue$Home" U := fun _ _ _ h => h.2.2.2.2.2.2.1.2.1
theorem aoHouse : ∀ (g : Gd) (U : State) (H : Heap), StK g U H → va_AO "HomesQueue$House" U := fun _ _ _ h => h.2.2.2.2.2.2.1.2.2
theorem aoState : ∀ (g : Gd) (U : State) (H : Heap), StK g U H → va_AO "HomesQueue$State" U := fun _ _ _ h => h.2.2.2.2.2.2.1.1
def Ih1 (b i : Nat) (sh0 sh : Shp) (I0 I : MI) : Prop := (∀ a, a < b → sh a = sh0 a ∧ I a = I0 a) ∧ ((sh b).1 = 7 ∧ (sh b).2.2 0 = some (b + 1)) ∧ ((sh (b + 1)).1 = 104 ∧ (sh (b + 1)).2.1 = 10) ∧
  (∀ j, j < i → (sh (b + 1)).2.2 j = some (b + 2 + j) ∧ (sh (b + 2 + j)).1 = 2 ∧ I (b + 2 + j) 0 = nI j ∧ I (b + 2 + j) 1 = nI (2 ^ j) ∧ I (b + 2 + j) 6 = 0 ∧ I (b + 2 + j) 7 = 0) ∧ ∀ a, b + 2 + i ≤ a → I a = fun _ => 0
def Ih2 (b i : Nat) (sh0 sh : Shp) (I0 I : MI) : Prop := (∀ a, a < b → sh a = sh0 a ∧ I a = I0 a) ∧ ((sh b).1 = 7 ∧ (sh b).2.2 0 = some (b + 1) ∧ (sh b).2.2 1 = some (b + 12)) ∧ ((sh (b + 1)).1 = 104 ∧ (sh (b + 1)).2.1 = 10) ∧ ((sh (b + 12)).1 = 105 ∧ (sh (b + 12)).2.1 = 8) ∧
  (∀ j, j < 10 → (sh (b + 1)).2.2 j = some (b + 2 + j) ∧ (sh (b + 2 + j)).1 = 2 ∧ I (b + 2 + j) 0 = nI j ∧ I (b + 2 + j) 1 = nI (2 ^ j) ∧ I (b + 2 + j) 6 = 0 ∧ I (b + 2 + j) 7 = 0) ∧
  (∀ j, j < i → (sh (b + 12)).2.2 j = some (b + 13 + 2 * j) ∧ (sh (b + 13 + 2 * j)).1 = 3 ∧ (sh (b + 13 + 2 * j)).2.2 2 = some (b + 14 + 2 * j) ∧ (sh (b + 14 + 2 * j)).1 = 100 ∧ (sh (b + 14 + 2 * j)).2.1 = 6 ∧ I (b + 13 + 2 * j) 0 = nI j ∧ I (b + 13 + 2 * j) 1 = nI (2 ^ j) ∧ I (b + 13 + 2 * j) 12 = 0) ∧ ∀ a, b + 13 + 2 * i ≤ a → I a = fun _ => 0
theorem Ih1.next {b i : Nat} {sh0 sh : Shp} {I0 I : MI} (h : Ih1 b i sh0 sh I0 I) (hi : i < 10) : Ih1 b (i + 1) sh0 (upR (upS sh (b + 2 + i) (2, 0, fun _ => none)) (b + 1) i (some (b + 2 + i))) I0 (upI (upI (upI I (b + 2 + i) 0 (nI i)) (b + 2 + i) 1 (nI (2 ^ i))) (b + 2 + i) 5 (-1)) := by
  obtain ⟨h1, ⟨h2, h3⟩, ⟨h4, h5⟩, h6, h7⟩ := h
  have e : ∀ x, x ≠ b + 2 + i → x ≠ b + 1 → upR (upS sh (b + 2 + i) (2, 0, fun _ => none)) (b + 1) i (some (b + 2 + i)) x = sh x := fun x x1 x2 => (upR_n x2).trans (upS_n x1)
  have eI : ∀ x, x ≠ b + 2 + i → upI (upI (upI I (b + 2 + i) 0 (nI i)) (b + 2 + i) 1 (nI (2 ^ i))) (b + 2 + i) 5 (-1) x = I x := fun x x1 => (upI_row2 x1).trans ((upI_row2 x1).trans (upI_row2 x1))
  refine ⟨fun a ha => ?_, ?_, ?_, fun j hj => ?_, fun a ha => ?_⟩
  · rw [e a (by omega) (by omega), eI a (by omega)]
    exact h1 a ha
  · rw [e b (by omega) (by omega)]
    exact ⟨h2, h3⟩
  · rw [upR_1, upR_2, upS_n (by omega)]
    exact ⟨h4, h5⟩
  · by_cases q : j = i
    · subst q
      refine ⟨upR_r, ?_, ?_, ?_, ?_, ?_⟩
      · rw [upR_1, upS_s]
      · rw [upI_n (Or.inr (by decide)), upI_n (Or.inr (by decide)), upI_s]
      · rw [upI_n (Or.inr (by decide)), upI_s]
      · rw [upI_n (Or.inr (by decide)), upI_n (Or.inr (by decide)), upI_n (Or.inr (by decide)), h7 _ (Nat.le_refl _)]
      · rw [upI_n (Or.inr (by decide)), upI_n (Or.inr (by decide)), upI_n (Or.inr (by decide)), h7 _ (Nat.le_refl _)]
    · rw [e (b + 2 + j) (by omega) (by omega), eI (b + 2 + j) (by omega), upR_o (Or.inr q), upS_n (by omega)]
      exact h6 j (by omega)
  · rw [eI a (by omega)]
    exact h7 a (by omega)
theorem Ih2.next {b i : Nat} {sh0 sh : Shp} {I0 I : MI} (h : Ih2 b i sh0 sh I0 I) (hi : i < 8) : Ih2 b (i + 1) sh0 (upR (upR (upS (upS sh (b + 13 + 2 * i) (3, 0, fun _ => none)) (b + 13 + 2 * i + 1) (100, 6, fun _ => none)) (b + 13 + 2 * i) 2 (some (b + 13 + 2 * i + 1))) (b + 12) i (some (b + 13 + 2 * i))) I0 (upI (upI (upI I (b + 13 + 2 * i) 0 (nI i)) (b + 13 + 2 * i) 1 (nI (2 ^ i))) (b + 13 + 2 * i) 9 (-1)) := by
  obtain ⟨h1, ⟨h2, h3, h4⟩, ⟨h5, h6⟩, ⟨h7, h8⟩, h9, h10, h11⟩ := h
  have e : ∀ x, x ≠ b + 13 + 2 * i → x ≠ b + 13 + 2 * i + 1 → x ≠ b + 12 → upR (upR (upS (upS sh (b + 13 + 2 * i) (3, 0, fun _ => none)) (b + 13 + 2 * i + 1) (100, 6, fun _ => none)) (b + 13 + 2 * i) 2 (some (b + 13 + 2 * i + 1))) (b + 12) i (some (b + 13 + 2 * i)) x = sh x := fun x x1 x2 x3 => (upR_n x3).trans ((upR_n x1).trans ((upS_n x2).trans (upS_n x1)))
  have eI : ∀ x, x ≠ b + 13 + 2 * i → upI (upI (upI I (b + 13 + 2 * i) 0 (nI i)) (b + 13 + 2 * i) 1 (nI (2 ^ i))) (b + 13 + 2 * i) 9 (-1) x = I x := fun x x1 => (upI_row2 x1).trans ((upI_row2 x1).trans (upI_row2 x1))
  refine ⟨fun a ha => ?_, ?_, ?_, ?_, fun j hj => ?_, fun j hj => ?_, fun a ha => ?_⟩
  · rw [e a (by omega) (by omega) (by omega), eI a (by omega)]
    exact h1 a ha
  · rw [e b (by omega) (by omega) (by omega)]
    exact ⟨h2, h3, h4⟩
  · rw [e (b + 1) (by omega) (by omega) (by omega)]
    exact ⟨h5, h6⟩
  · rw [upR_1, upR_2, upR_1, upR_2, upS_n (by omega), upS_n (by omega)]
    exact ⟨h7, h8⟩
  · rw [e (b + 1) (by omega) (by omega) (by omega), e (b + 2 + j) (by omega) (by omega) (by omega), eI (b + 2 + j) (by omega)]
    exact h9 j hj
  · by_cases q : j = i
    · subst q
      refine ⟨upR_r, ?_, ?_, ?_, ?_, ?_, ?_, ?_⟩
      · rw [upR_1, upR_1, upS_n (by omega), upS_s]
      · rw [upR_o (Or.inl (by omega)), upR_r, show b + 13 + 2 * j + 1 = b + 14 + 2 * j by omega]
      · rw [show b + 14 + 2 * j = b + 13 + 2 * j + 1 by omega, upR_1, upR_1, upS_s]
      · rw [show b + 14 + 2 * j = b + 13 + 2 * j + 1 by omega, upR_2, upR_2, upS_s]
      · rw [upI_n (Or.inr (by decide)), upI_n (Or.inr (by decide)), upI_s]
      · rw [upI_n (Or.inr (by decide)), upI_s]
      · rw [upI_n (Or.inr (by decide)), upI_n (Or.inr (by decide)), upI_n (Or.inr (by decide)), h11 _ (Nat.le_refl _)]
    · rw [e (b + 13 + 2 * j) (by omega) (by omega) (by omega), e (b + 14 + 2 * j) (by omega) (by omega) (by omega), eI (b + 13 + 2 * j) (by omega), upR_o (Or.inr q), upR_n (by omega), upS_n (by omega), upS_n (by omega)]
      exact h10 j (by omega)
  · rw [eI a (by omega)]
    exact h11 a (by omega)
def InS (b : Nat) (sh0 sh : Shp) (I0 I : MI) : Prop := (∀ a, a < b → sh a = sh0 a ∧ I a = I0 a) ∧ IsS (b + 34) sh b ∧ (∃ I2, FxS I2 b ∧ I = clM I2 b) ∧ ∀ a, b + 34 ≤ a → I a = fun _ => 0
def InSP (b : Nat) (sh0 : Shp) (I0 : MI) (L0 : ML) : PoT := fun v z' n' sh' J M => v = none ∧ z' = b + 34 ∧ n' = b + 34 ∧ M = L0 ∧ InS b sh0 sh' I0 J
/-- the end of it: rules, lets, offers -/
def tlS (b : Nat) (sh : Shp) : Shp := upR (upR (upS (upS (upR (upR (upS (upS (upR (upS sh (b + 29) (100, 6, fun _ => none)) b 2 (some (b + 29))) (b + 30) (8, 0, fun _ => none)) (b + 31) (100, 8 * 11, fun _ => none)) (b + 30) 1 (some (b + 31))) b 3 (some (b + 30))) (b + 32) (8, 0, fun _ => none)) (b + 33) (100, 30 * 3, fun _ => none)) (b + 32) 1 (some (b + 33))) b 4 (some (b + 32))
def tlI (b : Nat) (I : MI) : MI := upI (upI (upI (upI I (b + 30) 0 (nI 11)) (b + 30) 2 0) (b + 32) 0 (nI 3)) (b + 32) 2 0
theorem tlS_n {b x : Nat} {sh : Shp} (h0 : x ≠ b) (h : x < b + 29 ∨ b + 34 ≤ x) : tlS b sh x = sh x := by
  unfold tlS
  rw [upR_n h0, upR_n (by omega), upS_n (by omega), upS_n (by omega), upR_n h0, upR_n (by omega), upS_n (by omega), upS_n (by omega), upR_n h0, upS_n (by omega)]
theorem tlI_n {b x : Nat} {I : MI} (h : x ≠ b + 30) (h2 : x ≠ b + 32) : tlI b I x = I x := by
  unfold tlI
  rw [upI_row2 h2, upI_row2 h2, upI_row2 h, upI_row2 h]
theorem Ih2.isS {b : Nat} {sh0 sh : Shp} {I0 I : MI} (h : Ih2 b 8 sh0 sh I0 I) : IsS (b + 34) (tlS b sh) b := by
  obtain ⟨h1, ⟨h2, h3, h4⟩, ⟨h5, h6⟩, ⟨h7, h8⟩, h9, h10, h11⟩ := h
  refine ⟨Nat.le_refl _, ?_, ⟨?_, ?_, ?_, ?_, ?_⟩, ⟨?_, ?_, fun i hi => ?_⟩, ⟨?_, ?_, fun i hi => ?_⟩, ⟨?_, ?_⟩, ⟨?_, ?_, ?_, ?_⟩, ⟨?_, ?_, ?_, ?_⟩⟩
  · unfold tlS
    rw [upR_1, upR_1, upS_n (by omega), upS_n (by omega), upR_1, upR_1, upS_n (by omega), upS_n (by omega), upR_1, upS_n (by omega)]
    exact h2
  · unfold tlS
    rw [upR_o (Or.inr (by decide)), upR_o (Or.inl (by omega)), upS_n (by omega), upS_n (by omega), upR_o (Or.inr (by decide)), upR_o (Or.inl (by omega)), upS_n (by omega), upS_n (by omega), upR_o (Or.inr (by decide)), upS_n (by omega)]
    exact h3
  · unfold tlS
    rw [upR_o (Or.inr (by decide)), upR_o (Or.inl (by omega)), upS_n (by omega), upS_n (by omega), upR_o (Or.inr (by decide)), upR_o (Or.inl (by omega)), upS_n (by omega), upS_n (by omega), upR_o (Or.inr (by decide)), upS_n (by omega)]
    exact h4
  · unfold tlS
    rw [upR_o (Or.inr (by decide)), upR_o (Or.inl (by omega)), upS_n (by omega), upS_n (by omega), upR_o (Or.inr (by decide)), upR_o (Or.inl (by omega)), upS_n (by omega), upS_n (by omega), upR_r]
  · unfold tlS
    rw [upR_o (Or.inr (by decide)), upR_o (Or.inl (by omega)), upS_n (by omega), upS_n (by omega), upR_r]
  · unfold tlS
    rw [upR_r]
  · rw [tlS_n (by omega) (by omega)]
    exact h5
  · rw [tlS_n (by omega) (by omega)]
    exact h6
  · rw [tlS_n (by omega) (by omega), tlS_n (by omega) (by omega)]
    exact ⟨(h9 i hi).1, (h9 i hi).2.1⟩
  · rw [tlS_n (by omega) (by omega)]
    exact h7
  · rw [tlS_n (by omega) (by omega)]
    exact h8
  · rw [tlS_n (by omega) (by omega), tlS_n (by omega) (by omega), tlS_n (by omega) (by omega)]
    obtain ⟨q1, q2, q3, q4, q5, -⟩ := h10 i hi
    exact ⟨q1, q2, q3, q4, q5⟩
  · unfold tlS
    rw [upR_n (by omega), upR_n (by omega), upS_n (by omega), upS_n (by omega), upR_n (by omega), upR_n (by omega), upS_n (by omega), upS_n (by omega), upR_n (by omega), upS_s]
  · unfold tlS
    rw [upR_n (by omega), upR_n (by omega), upS_n (by omega), upS_n (by omega), upR_n (by omega), upR_n (by omega), upS_n (by omega), upS_n (by omega), upR_n (by omega), upS_s]
  · unfold tlS
    rw [upR_n (by omega), upR_n (by omega), upS_n (by omega), upS_n (by omega), upR_n (by omega), upR_1, upS_n (by omega), upS_s]
  · unfold tlS
    rw [upR_n (by omega), upR_n (by omega), upS_n (by omega), upS_n (by omega), upR_n (by omega), upR_r]
  · unfold tlS
    rw [upR_n (by omega), upR_n (by omega), upS_n (by omega), upS_n (by omega), upR_n (by omega), upR_n (by omega), upS_s]
  · unfold tlS
    rw [upR_n (by omega), upR_n (by omega), upS_n (by omega), upS_n (by omega), upR_n (by omega), upR_n (by omega), upS_s]
  · unfold tlS
    rw [upR_n (by omega), upR_1, upS_n (by omega), upS_s]
  · unfold tlS
    rw [upR_n (by omega), upR_r]
  · unfold tlS
    rw [upR_n (by omega), upR_n (by omega), upS_s]
  · unfold tlS
    rw [upR_n (by omega), upR_n (by omega), upS_s]
theorem Ih2.inS {b : Nat} {sh0 sh : Shp} {I0 I : MI} (h : Ih2 b 8 sh0 sh I0 I) : InS b sh0 (tlS b sh) I0 (clM (tlI b I) b) := by
  have hS := h.isS
  obtain ⟨h1, ⟨h2, h3, h4⟩, ⟨h5, h6⟩, ⟨h7, h8⟩, h9, h10, h11⟩ := h
  refine ⟨fun a ha => ?_, hS, ⟨tlI b I, ⟨fun i hi => ?_, fun i hi => ?_, ?_, ?_⟩, rfl⟩, fun a ha => ?_⟩
  · rw [tlS_n (by omega) (by omega), clM_n (by omega) (by omega) (by omega) (by omega), tlI_n (by omega) (by omega)]
    exact h1 a ha
  · rw [tlI_n (by omega) (by omega)]
    obtain ⟨-, -, q1, q2, q3, q4⟩ := h9 i hi
    exact ⟨q1, q2, Or.inl q3, Or.inl q4⟩
  · rw [tlI_n (by omega) (by omega)]
    obtain ⟨-, -, -, -, -, q1, q2, q3⟩ := h10 i hi
    exact ⟨q1, q2, Or.inl q3⟩
  · unfold tlI
    rw [upI_row2 (by omega), upI_row2 (by omega), upI_n (Or.inr (by decide)), upI_s]
    rfl
  · unfold tlI
    rw [upI_n (Or.inr (by decide)), upI_s]
    rfl
  · rw [clM_n (by omega) (by omega) (by omega) (by omega), tlI_n (by omega) (by omega)]
    exact h11 a (by omega)
section IniS
variable {b : Nat} {sh : Shp} {I : MI} {L : ML}
set_option maxHeartbeats 4000000 in
set_option maxRecDepth 100000 in
theorem sX7_init (hk : (sh b).1 = 7) (hb : b + 34 ≤ 900000) (hF : Fz (b + 1) I L) : CM yX7_init cX7_init 2 (Option.none : Option FieldType) 2 33 486 [.ref b] (b + 1) (b + 1) sh I L (InSP b sh I L) := by
  refine CM.goI [some (.ref b), none] rfl rfl (Nat.le_of_ble_eq_true rfl) (fun X g q hin => ?_)
  have loop2 : ∀ i, i ≤ 8 → ∀ (s2 : Shp) (J : MI), Ih2 b i sh s2 I J → AW X g RX7 cX7_init 2 (2, 33, 486) (b + 13 + 2 * i, b + 13 + 2 * i, s2, 12 + 2 * i, 128 + 21 * i) J L 52 [some (.ref b), some (.int (nI i))] [] := by
    refine up_loop (fun i hi ih s2 J hJ => ?_)
    have hJ0 := hJ
    obtain ⟨h1, ⟨h2, h3, h4⟩, ⟨h5, h6⟩, ⟨h7, h8⟩, h9, h10, h11⟩ := hJ
    refine aw_iload_n dX7_init_52 rfl ?_
    refine aw_bipush (v := 8) dX7_init_53 rfl ?_
    refine aw_icmp_ge (tgt := 78) dX7_init_55 rfl (fun c55 => ?_) (fun c55 => ?_)
    · have e := ge_t (B := 8) rfl (by decide) hi c55
      subst e
      refine AW.en (z' := b + 29) (n' := b + 29) (c' := 28) (s' := 296) (by omega) (by omega) (by omega) (by omega) ?_
      refine aw_aload_n dX7_init_78 rfl ?_
      refine aw_bipush (v := 6) dX7_init_79 rfl ?_
      refine an_I (N := 6) dX7_init_81 rfl (Nat.le_of_ble_eq_true rfl) (by omega) (h11 _ (by omega)) ⟨(Nat.le_of_ble_eq_true rfl), (Nat.le_of_ble_eq_true rfl)⟩ ?_
      refine an_pR dX7_init_83 fX7_27 (a := b) (b := b + 29) ((congrArg Prod.fst (upS_n (by omega))).trans h2) (show b < b + 29 + 1 by omega) (show b + 29 < b + 29 + 1 by omega) rfl (fun _ => rfl) (fun _ => rfl) rfl hin rfl ?_
      refine aw_aload_n dX7_init_86 rfl ?_
      refine AW.en (z' := b + 30) (n' := b + 30) rfl rfl rfl rfl ?_
      refine an_o (ci := 8) (by decide) dX7_init_87 lX7_31 iX8 (by omega) (h11 _ (by omega)) (hF _ (by omega)).2 ⟨(Nat.le_of_ble_eq_true rfl), (Nat.le_of_ble_eq_true rfl)⟩ ?_
      refine aw_dup dX7_init_90 rfl ?_
      refine aw_bipush (v := 8) dX7_init_91 rfl ?_
      refine aw_bipush (v := 11) dX7_init_93 rfl ?_
      refine an_c (b := b + 30) (As := [.int (nI 8), .int (nI 11)]) dX7_init_95 kX7_33 mX8_init (sX8_init (n := b + 30 + 1) (a := b + 30) (r := 8) (w := 11) (Nat.le_of_ble_eq_true rfl) (congrArg Prod.fst upS_s) (by omega) (by omega) ?_) (Nat.le_of_ble_eq_true rfl) (by omega) rfl rfl (Nat.le_of_ble_eq_true rfl) ⟨(Nat.le_of_ble_eq_true rfl), (Nat.le_of_ble_eq_true rfl)⟩ ?_
      · intro a ha
        exact ⟨h11 a (by omega), (hF a (by omega)).2⟩
      refine an_pR dX7_init_98 fX7_36 (a := b) (b := b + 30) (upR_1.trans ((congrArg Prod.fst (upS_n (by omega))).trans ((congrArg Prod.fst (upS_n (by omega))).trans (upR_1.trans ((congrArg Prod.fst (upS_n (by omega))).trans h2))))) (show b < b + 30 + 2 by omega) (show b + 30 < b + 30 + 2 by omega) rfl (fun _ => rfl) (fun _ => rfl) rfl hin rfl ?_
      refine aw_aload_n dX7_init_101 rfl ?_
      refine AW.en (z' := b + 32) (n' := b + 32) rfl rfl rfl rfl ?_
      refine an_o (ci := 8) (by decide) dX7_init_102 lX7_31 iX8 (by omega) ((upI_row2 (by omega)).trans ((upI_row2 (by omega)).trans (h11 _ (by omega)))) (hF _ (by omega)).2 ⟨(Nat.le_of_ble_eq_true rfl), (Nat.le_of_ble_eq_true rfl)⟩ ?_
      refine aw_dup dX7_init_105 rfl ?_
      refine aw_bipush (v := 30) dX7_init_106 rfl ?_
      refine aw_iconst (v := 3) dX7_init_108 rfl ?_
      refine an_c (b := b + 32) (As := [.int (nI 30), .int (nI 3)]) dX7_init_109 kX7_33 mX8_init (sX8_init (n := b + 32 + 1) (a := b + 32) (r := 30) (w := 3) (Nat.le_of_ble_eq_true rfl) (congrArg Prod.fst upS_s) (by omega) (by omega) ?_) (Nat.le_of_ble_eq_true rfl) (by omega) rfl rfl (Nat.le_of_ble_eq_true rfl) ⟨(Nat.le_of_ble_eq_true rfl), (Nat.le_of_ble_eq_true rfl)⟩ ?_
      · intro a ha
        exact ⟨(upI_row2 (by omega)).trans ((upI_row2 (by omega)).trans (h11 a (by omega))), (hF a (by omega)).2⟩
      refine an_pR dX7_init_112 fX7_40 (a := b) (b := b + 32) (upR_1.trans ((congrArg Prod.fst (upS_n (by omega))).trans ((congrArg Prod.fst (upS_n (by omega))).trans (upR_1.trans (upR_1.trans ((congrArg Prod.fst (upS_n (by omega))).trans ((congrArg Prod.fst (upS_n (by omega))).trans (upR_1.trans ((congrArg Prod.fst (upS_n (by omega))).trans h2))))))))) (show b < b + 32 + 2 by omega) (show b + 32 < b + 32 + 2 by omega) rfl (fun _ => rfl) (fun _ => rfl) rfl hin rfl ?_
      refine aw_aload_n dX7_init_115 rfl ?_
      refine AW.en (z' := b + 34) (n' := b + 34) rfl rfl rfl rfl ?_
      have hS := hJ0.isS
      refine aw_cV dX7_init_116 kX7_43 mX7_clear (sX7_clear hS) (Nat.le_of_ble_eq_true rfl) hS.k ⟨by decide, rfl⟩ hS.b0 rfl rfl (Nat.le_of_ble_eq_true rfl) ⟨(Nat.le_of_ble_eq_true rfl), (Nat.le_of_ble_eq_true rfl)⟩ ?_
      exact aw_vret q rfl dX7_init_119 ⟨(Nat.le_of_ble_eq_true rfl), (Nat.le_of_ble_eq_true rfl)⟩ ⟨rfl, rfl, rfl, rfl, hJ0.inS⟩
    · have hlt := ge_f (B := 8) rfl (by decide) hi c55
      refine aw_aload_n dX7_init_58 rfl ?_
      refine aw_getR (b := b + 12) dX7_init_59 fX7_22 h2 (show b < b + 13 + 2 * i by omega) rfl h4 ?_
      refine aw_iload_n dX7_init_62 rfl ?_
      refine an_o (ci := 3) (by decide) dX7_init_63 lX7_20 iX3 (by omega) (h11 _ (by omega)) (hF _ (by omega)).2 ⟨show 12 + 2 * i + 1 ≤ 33 by omega, show 128 + 21 * i + 15 ≤ 486 by omega⟩ ?_
      refine aw_dup dX7_init_66 rfl ?_
      refine aw_iload_n dX7_init_67 rfl ?_
      refine an_c (b := b + 13 + 2 * i) (As := [.int (nI i)]) dX7_init_68 kX7_26 mX3_init (sX3_init (n := b + 13 + 2 * i + 1) (a := b + 13 + 2 * i) (k := i) (by omega) (congrArg Prod.fst upS_s) (by omega) (by omega) ?_) (Nat.le_of_ble_eq_true rfl) (by omega) rfl rfl (Nat.le_of_ble_eq_true rfl) ⟨show 12 + 2 * i + 1 + 1 ≤ 33 by omega, show 128 + 21 * i + 15 + 6 ≤ 486 by omega⟩ ?_
      · intro a ha
        exact ⟨h11 a (by omega), (hF a (by omega)).2⟩
      refine an_a (a := b + 12) (v := b + 13 + 2 * i) (k := 105) (ci := 3) (i := i) dX7_init_71 (upR_1.trans ((congrArg Prod.fst (upS_n (by omega))).trans ((congrArg Prod.fst (upS_n (by omega))).trans h7))) (by decide) (by decide) (fun _ => rfl) (show b + 12 < b + 13 + 2 * i + 1 + 1 by omega) (show b + 13 + 2 * i < b + 13 + 2 * i + 1 + 1 by omega) (upR_1.trans ((congrArg Prod.fst (upS_n (by omega))).trans (congrArg Prod.fst upS_s))) rfl ?_ ?_ ?_
      · show i < (upR _ _ _ _ (b + 12)).2.1
        rw [upR_2, upS_n (by omega), upS_n (by omega), h8]
        exact hlt
      · show (upR _ _ _ _ (b + 12)).2.1 < _
        rw [upR_2, upS_n (by omega), upS_n (by omega), h8]
        decide
      refine aw_iinc dX7_init_72 rfl (ginc rfl) (by decide) rfl ?_
      refine aw_goto (tgt := 52) dX7_init_75 rfl ?_
      refine AW.en (z' := b + 13 + 2 * (i + 1)) (n' := b + 13 + 2 * (i + 1)) (c' := 12 + 2 * (i + 1)) (s' := 128 + 21 * (i + 1)) (by omega) (by omega) (by omega) (by show 128 + 21 * i + 15 + 6 = _; omega) ?_
      exact ih hlt _ _ (hJ0.next hlt)
  have loop1 : ∀ i, i ≤ 10 → ∀ (s2 : Shp) (J : MI), Ih1 b i sh s2 I J → AW X g RX7 cX7_init 2 (2, 33, 486) (b + 2 + i, b + 2 + i, s2, 1 + i, 10 + 11 * i) J L 15 [some (.ref b), some (.int (nI i))] [] := by
    refine up_loop (fun i hi ih s2 J hJ => ?_)
    have hJ0 := hJ
    obtain ⟨h1, ⟨h2, h3⟩, ⟨h4, h5⟩, h6, h7⟩ := hJ
    refine aw_iload_n dX7_init_15 rfl ?_
    refine aw_bipush (v := 10) dX7_init_16 rfl ?_
    refine aw_icmp_ge (tgt := 41) dX7_init_18 rfl (fun c18 => ?_) (fun c18 => ?_)
    · have e := ge_t (B := 10) rfl (by decide) hi c18
      subst e
      refine AW.en (z' := b + 12) (n' := b + 12) (c' := 11) (s' := 120) (by omega) (by omega) (by omega) (by omega) ?_
      refine aw_aload_n dX7_init_41 rfl ?_
      refine aw_bipush (v := 8) dX7_init_42 rfl ?_
      refine an_R (k := 105) (N := 8) (C := "HomesQueue$House") dX7_init_44 lX7_20 (by decide) (fun _ => rfl) aoHouse rfl (Nat.le_of_ble_eq_true rfl) (by omega) ⟨(Nat.le_of_ble_eq_true rfl), (Nat.le_of_ble_eq_true rfl)⟩ ?_
      refine an_pR dX7_init_47 fX7_22 (a := b) (b := b + 12) ((congrArg Prod.fst (upS_n (by omega))).trans h2) (show b < b + 12 + 1 by omega) (show b + 12 < b + 12 + 1 by omega) rfl (fun _ => rfl) (fun _ => rfl) rfl hin rfl ?_
      refine aw_iconst (v := 0) dX7_init_50 rfl ?_
      refine aw_istore_n dX7_init_51 (by decide) rfl ?_
      refine AW.en (z' := b + 13 + 2 * 0) (n' := b + 13 + 2 * 0) (c' := 12 + 2 * 0) (s' := 128 + 21 * 0) rfl rfl rfl rfl ?_
      refine loop2 0 (Nat.zero_le _) _ J ⟨fun a ha => ?_, ⟨?_, ?_, upR_r⟩, ?_, ⟨?_, ?_⟩, fun j hj => ?_, fun j hj => absurd hj (Nat.not_lt_zero j), fun a ha => h7 a (by omega)⟩
      · rw [upR_n (by omega), upS_n (by omega)]
        exact h1 a ha
      · rw [upR_1, upS_n (by omega)]
        exact h2
      · rw [upR_o (Or.inr (by decide)), upS_n (by omega)]
        exact h3
      · rw [upR_n (by omega), upS_n (by omega)]
        exact ⟨h4, h5⟩
      · rw [upR_n (by omega), upS_s]
      · rw [upR_n (by omega), upS_s]
      · rw [upR_n (by omega), upS_n (by omega), upR_n (by omega), upS_n (by omega)]
        exact h6 j hj
    · have hlt := ge_f (B := 10) rfl (by decide) hi c18
      refine aw_aload_n dX7_init_21 rfl ?_
      refine aw_getR (b := b + 1) dX7_init_22 fX7_11 h2 (show b < b + 2 + i by omega) rfl h3 ?_
      refine aw_iload_n dX7_init_25 rfl ?_
      refine an_o (ci := 2) (by decide) dX7_init_26 lX7_9 iX2 (by omega) (h7 _ (by omega)) (hF _ (by omega)).2 ⟨show 1 + i + 1 ≤ 33 by omega, show 10 + 11 * i + 11 ≤ 486 by omega⟩ ?_
      refine aw_dup dX7_init_29 rfl ?_
      refine aw_iload_n dX7_init_30 rfl ?_
      refine an_c (b := b + 2 + i) (As := [.int (nI i)]) dX7_init_31 kX7_17 mX2_init (sX2_init (n := b + 2 + i + 1) (a := b + 2 + i) (k := i) (by omega) (congrArg Prod.fst upS_s) (by omega) (by omega) ?_) (Nat.le_of_ble_eq_true rfl) (by omega) rfl rfl (Nat.le_of_ble_eq_true rfl) ⟨show 1 + i + 1 + 0 ≤ 33 by omega, show 10 + 11 * i + 11 + 0 ≤ 486 by omega⟩ ?_
      · intro a ha
        exact ⟨h7 a (by omega), (hF a (by omega)).2⟩
      refine an_a (a := b + 1) (v := b + 2 + i) (k := 104) (ci := 2) (i := i) dX7_init_34 ((congrArg Prod.fst (upS_n (by omega))).trans h4) (by decide) (by decide) (fun _ => rfl) (show b + 1 < b + 2 + i + 1 by omega) (show b + 2 + i < b + 2 + i + 1 by omega) (congrArg Prod.fst upS_s) rfl ?_ ?_ ?_
      · show i < (upS _ _ _ (b + 1)).2.1
        rw [upS_n (by omega), h5]
        exact hlt
      · show (upS _ _ _ (b + 1)).2.1 < _
        rw [upS_n (by omega), h5]
        decide
      refine aw_iinc dX7_init_35 rfl (ginc rfl) (by decide) rfl ?_
      refine aw_goto (tgt := 15) dX7_init_38 rfl ?_
      refine AW.en (z' := b + 2 + (i + 1)) (n' := b + 2 + (i + 1)) (c' := 1 + (i + 1)) (s' := 10 + 11 * (i + 1)) (by omega) (by omega) (by omega) (by show 10 + 11 * i + 11 + 0 = _; omega) ?_
      exact ih hlt _ _ (hJ0.next hlt)
  refine aw_aload_n dX7_init_0 rfl ?_
  refine aw_obj dX7_init_1 oX7_3 (Nat.le_of_ble_eq_true rfl) (Nat.le_of_ble_eq_true rfl) ?_
  refine aw_aload_n dX7_init_4 rfl ?_
  refine aw_bipush (v := 10) dX7_init_5 rfl ?_
  refine an_R (k := 104) (N := 10) (C := "HomesQueue$Home") dX7_init_7 lX7_9 (by decide) (fun _ => rfl) aoHome rfl (Nat.le_of_ble_eq_true rfl) (by omega) ⟨(Nat.le_of_ble_eq_true rfl), (Nat.le_of_ble_eq_true rfl)⟩ ?_
  refine an_pR dX7_init_10 fX7_11 (a := b) (b := b + 1) ((congrArg Prod.fst (upS_n (by omega))).trans hk) (show b < b + 1 + 1 by omega) (show b + 1 < b + 1 + 1 by omega) rfl (fun _ => rfl) (fun _ => rfl) rfl hin rfl ?_
  refine aw_iconst (v := 0) dX7_init_13 rfl ?_
  refine aw_istore_n dX7_init_14 (by decide) rfl ?_
  refine AW.en (z' := b + 2 + 0) (n' := b + 2 + 0) (c' := 1 + 0) (s' := 10 + 11 * 0) rfl rfl rfl rfl ?_
  refine loop1 0 (Nat.zero_le _) _ I ⟨fun a ha => ⟨?_, rfl⟩, ⟨?_, upR_r⟩, ⟨?_, ?_⟩, fun j hj => absurd hj (Nat.not_lt_zero j), fun a ha => (hF a (by omega)).1⟩
  · rw [upR_n (by omega), upS_n (by omega)]
  · rw [upR_1, upS_n (by omega)]
    exact hk
  · rw [upR_n (by omega), upS_s]
  · rw [upR_n (by omega), upS_s]
end IniS
