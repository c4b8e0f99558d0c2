/-! the reference: where its rows lie; its small methods -/
theorem vl {x N : Nat} {i : Int32} (h : x = N) (hi : vp_in i N) : vp_in i x := h ▸ hi
theorem CM.go {y : MethodName} {cc : ByteArray} {nL : Nat} {ret : Option FieldType} {d mc ms : Nat} {vs : List Value} {z n : Nat} {sh : Shp} {I : MI} {L : ML} {Po : PoT} (Lc : List (Option Value)) (hL : ent nL vs = Lc)
    (hy : plainName y.cls = true) (hl : (entL vs).length ≤ nL)
    (body : ∀ (X : Cx) (g : Gd), XQ X g ret (d, mc, ms) Po → AW X g y.cls cc nL (d, mc, ms) (z, n, sh, 0, 0) I L 0 Lc []) : CM y cc nL ret d mc ms vs z n sh I L Po := by
  subst hL
  exact CM.intro hy hl body
/-- counting up to a bound -/
theorem up_loop {N : Nat} {G : Nat → Prop} (h : ∀ i, i ≤ N → (i < N → G (i + 1)) → G i) : ∀ i, i ≤ N → G i := by
  intro i hi
  induction hk : N - i generalizing i with
  | zero => exact h i hi (fun q => absurd q (by omega))
  | succ k ih => exact h i hi (fun q => ih (i + 1) q (by omega))
section AWN
variable {X : Cx} {g : Gd} {own : String} {cc : ByteArray} {nL : Nat} {Bd : Nat × Nat × Nat} {E : En} {I : MI} {L : ML} {pc : Nat} {Lc : List (Option Value)} {st : List Value}
theorem aw_ialdN {a k N : Nat} {i : Int32} (d : decode cc pc = .ok (.iaload, 1)) (hk : (E.2.2.1 a).1 = 100) (ha : a < E.2.1) (hl : (E.2.2.1 a).2.1 = N) (hi : i = nI k) (hkN : k < N) (hN : N < 2 ^ 31)
    (kk : AW X g own cc nL Bd E I L (pc + 1) Lc (.int (I a k) :: st)) : AW X g own cc nL Bd E I L pc Lc (.int i :: .ref a :: st) := by
  subst hi
  refine aw_iald d hk ha (by rw [hl]; exact vp_in_nI hkN hN) ?_
  rw [nI_clamp (by omega)]
  exact kk
theorem aw_baldN {a k N : Nat} {i : Int32} (d : decode cc pc = .ok (.baload, 1)) (hk : (E.2.2.1 a).1 = 102) (ha : a < E.2.1) (hl : (E.2.2.1 a).2.1 = N) (hi : i = nI k) (hkN : k < N) (hN : N < 2 ^ 31)
    (kk : AW X g own cc nL Bd E I L (pc + 1) Lc (.int (I a k) :: st)) : AW X g own cc nL Bd E I L pc Lc (.int i :: .ref a :: st) := by
  subst hi
  refine aw_bald d hk ha (by rw [hl]; exact vp_in_nI hkN hN) ?_
  rw [nI_clamp (by omega)]
  exact kk
theorem aw_laldN {a k N : Nat} {i : Int32} (d : decode cc pc = .ok (.laload, 1)) (hk : (E.2.2.1 a).1 = 101) (ha : a < E.2.1) (hl : (E.2.2.1 a).2.1 = N) (hi : i = nI k) (hkN : k < N) (hN : N < 2 ^ 31)
    (kk : AW X g own cc nL Bd E I L (pc + 1) Lc (.long (L a k) :: st)) : AW X g own cc nL Bd E I L pc Lc (.int i :: .ref a :: st) := by
  subst hi
  refine aw_lald d hk ha (by rw [hl]; exact vp_in_nI hkN hN) ?_
  rw [nI_clamp (by omega)]
  exact kk
theorem aw_iastN {a k N : Nat} {i x : Int32} (d : decode cc pc = .ok (.iastore, 1)) (hk : (E.2.2.1 a).1 = 100) (ha : a < E.2.1) (hl : (E.2.2.1 a).2.1 = N) (hi : i = nI k) (hkN : k < N) (hN : N < 2 ^ 31)
    (kk : AW X g own cc nL Bd E (upI I a k x) L (pc + 1) Lc st) : AW X g own cc nL Bd E I L pc Lc (.int x :: .int i :: .ref a :: st) := by
  subst hi
  refine aw_iast d hk ha (by rw [hl]; exact vp_in_nI hkN hN) ?_
  rw [nI_clamp (by omega)]
  exact kk
theorem aw_bastN {a k N : Nat} {i x : Int32} (d : decode cc pc = .ok (.bastore, 1)) (hk : (E.2.2.1 a).1 = 102) (ha : a < E.2.1) (hl : (E.2.2.1 a).2.1 = N) (hi : i = nI k) (hkN : k < N) (hN : N < 2 ^ 31)
    (kk : AW X g own cc nL Bd E (upI I a k (vp_nar .byte x)) L (pc + 1) Lc st) : AW X g own cc nL Bd E I L pc Lc (.int x :: .int i :: .ref a :: st) := by
  subst hi
  refine aw_bast d hk ha (by rw [hl]; exact vp_in_nI hkN hN) ?_
  rw [nI_clamp (by omega)]
  exact kk
theorem aw_lastN {a k N : Nat} {i : Int32} {x : Int64} (d : decode cc pc = .ok (.lastore, 1)) (hk : (E.2.2.1 a).1 = 101) (ha : a < E.2.1) (hl : (E.2.2.1 a).2.1 = N) (hi : i = nI k) (hkN : k < N) (hN : N < 2 ^ 31)
    (kk : AW X g own cc nL Bd E I (upL L a k x) (pc + 1) Lc st) : AW X g own cc nL Bd E I L pc Lc (.long x :: .int i :: .ref a :: st) := by
  subst hi
  refine aw_last d hk ha (by rw [hl]; exact vp_in_nI hkN hN) ?_
  rw [nI_clamp (by omega)]
  exact kk
end AWN
def bI (b : Bool) : Int32 := if b then 1 else 0
theorem bI01 (b : Bool) : bI b = 0 ∨ bI b = 1 := by cases b <;> simp [bI]
theorem bI0 {b : Bool} : bI b = 0 ↔ b = false := by cases b <;> simp [bI]
theorem bI1 {b : Bool} : ¬ bI b = 0 ↔ b = true := by cases b <;> simp [bI]
theorem nIc {i : Int32} {k : Nat} (h : i = nI k) (hk : k < 2 ^ 31) : i.toNatClampNeg = k := by rw [h]; exact nI_clamp hk
theorem gadd {x y : Int32} {a b : Nat} (hx : x = nI a) (hy : y = nI b) : x + y = nI (a + b) := by rw [hx, hy, nI_add]
theorem gmul {x y : Int32} {a b : Nat} (hx : x = nI a) (hy : y = nI b) : x * y = nI (a * b) := by rw [hx, hy, pk_mul]
theorem ginc {x : Int32} {a : Nat} (hx : x = nI a) : x + Int32.ofInt 1 = nI (a + 1) := by rw [hx]; exact nI_1 a
theorem vpn {i : Int32} {k N : Nat} (h : i = nI k) (hk : k < N) (hN : N < 2 ^ 31) : vp_in i N := by rw [h]; exact vp_in_nI hk hN
def mF : List Nat := [1, 2, 3, 4, 5, 6, 7, 22, 23, 26, 27, 28, 29, 31]
def mK : List Nat := [100, 100, 100, 100, 100, 101, 101, 100, 100, 100, 100, 100, 100, 102]
def mN : List Nat := [390, 390, 390, 4680, 900, 18, 18, 9216, 8, 8, 8, 8, 8, 1800]
def IsM (n : Nat) (sh : Shp) (m : Nat) : Prop := m + 15 ≤ n ∧ (sh m).1 = 11 ∧ ∀ j, j < 14 → (sh m).2.2 (mF.getD j 0) = some (m + 1 + j) ∧ (sh (m + 1 + j)).1 = mK.getD j 0 ∧ (sh (m + 1 + j)).2.1 = mN.getD j 0
section IsMs
variable {n m : Nat} {sh : Shp}
theorem IsM.k (h : IsM n sh m) : (sh m).1 = 11 := h.2.1
theorem IsM.b (h : IsM n sh m) : m < n := by have := h.1; omega
theorem IsM.r0 (h : IsM n sh m) : (sh m).2.2 1 = some (m + 1) := (h.2.2 0 (by decide)).1
theorem IsM.k0 (h : IsM n sh m) : (sh (m + 1)).1 = 100 := (h.2.2 0 (by decide)).2.1
theorem IsM.l0 (h : IsM n sh m) : (sh (m + 1)).2.1 = 390 := (h.2.2 0 (by decide)).2.2
theorem IsM.b0 (h : IsM n sh m) : m + 1 < n := by have := h.1; omega
theorem IsM.r1 (h : IsM n sh m) : (sh m).2.2 2 = some (m + 2) := (h.2.2 1 (by decide)).1
theorem IsM.k1 (h : IsM n sh m) : (sh (m + 2)).1 = 100 := (h.2.2 1 (by decide)).2.1
theorem IsM.l1 (h : IsM n sh m) : (sh (m + 2)).2.1 = 390 := (h.2.2 1 (by decide)).2.2
theorem IsM.b1 (h : IsM n sh m) : m + 2 < n := by have := h.1; omega
theorem IsM.r2 (h : IsM n sh m) : (sh m).2.2 3 = some (m + 3) := (h.2.2 2 (by decide)).1
theorem IsM.k2 (h : IsM n sh m) : (sh (m + 3)).1 = 100 := (h.2.2 2 (by decide)).2.1
theorem IsM.l2 (h : IsM n sh m) : (sh (m + 3)).2.1 = 390 := (h.2.2 2 (by decide)).2.2
theorem IsM.b2 (h : IsM n sh m) : m + 3 < n := by have := h.1; omega
theorem IsM.r3 (h : IsM n sh m) : (sh m).2.2 4 = some (m + 4) := (h.2.2 3 (by decide)).1
theorem IsM.k3 (h : IsM n sh m) : (sh (m + 4)).1 = 100 := (h.2.2 3 (by decide)).2.1
theorem IsM.l3 (h : IsM n sh m) : (sh (m + 4)).2.1 = 4680 := (h.2.2 3 (by decide)).2.2
theorem IsM.b3 (h : IsM n sh m) : m + 4 < n := by have := h.1; omega
theorem IsM.r4 (h : IsM n sh m) : (sh m).2.2 5 = some (m + 5) := (h.2.2 4 (by decide)).1
theorem IsM.k4 (h : IsM n sh m) : (sh (m + 5)).1 = 100 := (h.2.2 4 (by decide)).2.1
theorem IsM.l4 (h : IsM n sh m) : (sh (m + 5)).2.1 = 900 := (h.2.2 4 (by decide)).2.2
theorem IsM.b4 (h : IsM n sh m) : m + 5 < n := by have := h.1; omega
theorem IsM.r5 (h : IsM n sh m) : (sh m).2.2 6 = some (m + 6) := (h.2.2 5 (by decide)).1
theorem IsM.k5 (h : IsM n sh m) : (sh (m + 6)).1 = 101 := (h.2.2 5 (by decide)).2.1
theorem IsM.l5 (h : IsM n sh m) : (sh (m + 6)).2.1 = 18 := (h.2.2 5 (by decide)).2.2
theorem IsM.b5 (h : IsM n sh m) : m + 6 < n := by have := h.1; omega
theorem IsM.r6 (h : IsM n sh m) : (sh m).2.2 7 = some (m + 7) := (h.2.2 6 (by decide)).1
theorem IsM.k6 (h : IsM n sh m) : (sh (m + 7)).1 = 101 := (h.2.2 6 (by decide)).2.1
theorem IsM.l6 (h : IsM n sh m) : (sh (m + 7)).2.1 = 18 := (h.2.2 6 (by decide)).2.2
theorem IsM.b6 (h : IsM n sh m) : m + 7 < n := by have := h.1; omega
theorem IsM.r7 (h : IsM n sh m) : (sh m).2.2 22 = some (m + 8) := (h.2.2 7 (by decide)).1
theorem IsM.k7 (h : IsM n sh m) : (sh (m + 8)).1 = 100 := (h.2.2 7 (by decide)).2.1
theorem IsM.l7 (h : IsM n sh m) : (sh (m + 8)).2.1 = 9216 := (h.2.2 7 (by decide)).2.2
theorem IsM.b7 (h : IsM n sh m) : m + 8 < n := by have := h.1; omega
theorem IsM.r8 (h : IsM n sh m) : (sh m).2.2 23 = some (m + 9) := (h.2.2 8 (by decide)).1
theorem IsM.k8 (h : IsM n sh m) : (sh (m + 9)).1 = 100 := (h.2.2 8 (by decide)).2.1
theorem IsM.l8 (h : IsM n sh m) : (sh (m + 9)).2.1 = 8 := (h.2.2 8 (by decide)).2.2
theorem IsM.b8 (h : IsM n sh m) : m + 9 < n := by have := h.1; omega
theorem IsM.r9 (h : IsM n sh m) : (sh m).2.2 26 = some (m + 10) := (h.2.2 9 (by decide)).1
theorem IsM.k9 (h : IsM n sh m) : (sh (m + 10)).1 = 100 := (h.2.2 9 (by decide)).2.1
theorem IsM.l9 (h : IsM n sh m) : (sh (m + 10)).2.1 = 8 := (h.2.2 9 (by decide)).2.2
theorem IsM.b9 (h : IsM n sh m) : m + 10 < n := by have := h.1; omega
theorem IsM.r10 (h : IsM n sh m) : (sh m).2.2 27 = some (m + 11) := (h.2.2 10 (by decide)).1
theorem IsM.k10 (h : IsM n sh m) : (sh (m + 11)).1 = 100 := (h.2.2 10 (by decide)).2.1
theorem IsM.l10 (h : IsM n sh m) : (sh (m + 11)).2.1 = 8 := (h.2.2 10 (by decide)).2.2
theorem IsM.b10 (h : IsM n sh m) : m + 11 < n := by have := h.1; omega
theorem IsM.r11 (h : IsM n sh m) : (sh m).2.2 28 = some (m + 12) := (h.2.2 11 (by decide)).1
theorem IsM.k11 (h : IsM n sh m) : (sh (m + 12)).1 = 100 := (h.2.2 11 (by decide)).2.1
theorem IsM.l11 (h : IsM n sh m) : (sh (m + 12)).2.1 = 8 := (h.2.2 11 (by decide)).2.2
theorem IsM.b11 (h : IsM n sh m) : m + 12 < n := by have := h.1; omega
theorem IsM.r12 (h : IsM n sh m) : (sh m).2.2 29 = some (m + 13) := (h.2.2 12 (by decide)).1
theorem IsM.k12 (h : IsM n sh m) : (sh (m + 13)).1 = 100 := (h.2.2 12 (by decide)).2.1
theorem IsM.l12 (h : IsM n sh m) : (sh (m + 13)).2.1 = 8 := (h.2.2 12 (by decide)).2.2
theorem IsM.b12 (h : IsM n sh m) : m + 13 < n := by have := h.1; omega
theorem IsM.r13 (h : IsM n sh m) : (sh m).2.2 31 = some (m + 14) := (h.2.2 13 (by decide)).1
theorem IsM.k13 (h : IsM n sh m) : (sh (m + 14)).1 = 102 := (h.2.2 13 (by decide)).2.1
theorem IsM.l13 (h : IsM n sh m) : (sh (m + 14)).2.1 = 1800 := (h.2.2 13 (by decide)).2.2
theorem IsM.b13 (h : IsM n sh m) : m + 14 < n := by have := h.1; omega
end IsMs
section RefS
variable {z n m : Nat} {sh : Shp} {I : MI} {L : ML}
set_option maxHeartbeats 4000000 in
set_option maxRecDepth 100000 in
theorem sX11_home0 (hM : IsM n sh m) {x y : Int32} {h w : Nat} (hx : x = nI h) (hy : y = nI w) (hb : 8 * h + w < 390) : CM yX11_home0 cX11_home0 3 (Option.some .int) 1 0 0 [.ref m, .int x, .int y] z n sh I L (Pst (some (.int (I (m + 1) (8 * h + w)))) z n sh I L) := by
  refine CM.go [some (.ref m), some (.int x), some (.int y)] rfl rfl (Nat.le_of_ble_eq_true rfl) (fun X g q => ?_)
  refine aw_aload_n dX11_home0_0 rfl ?_
  refine aw_getR (b := m + 1) dX11_home0_1 fX11_7 hM.k hM.b rfl hM.r0 ?_
  refine aw_bipush (v := 8) dX11_home0_4 rfl ?_
  refine aw_iload_n dX11_home0_6 rfl ?_
  refine aw_imul dX11_home0_7 ?_
  refine aw_iload_n dX11_home0_8 rfl ?_
  refine aw_iadd dX11_home0_9 ?_
  refine aw_ialdN (k := ((8 * h) + w)) dX11_home0_10 hM.k0 hM.b0 hM.l0 (gadd (gmul rfl hx) hy) (by omega) (by decide) ?_
  refine aw_iret q rfl dX11_home0_11 ⟨Nat.le_refl _, Nat.le_refl _⟩ ?_
  exact Pst.rf
theorem rX11_home0 (hM : IsM n sh m) {N : Nat → Int32} (hI : I (m + 1) = N) {x y : Int32} {h w : Nat} (hx : x = nI h) (hy : y = nI w) (hb : 8 * h + w < 390) : CM yX11_home0 cX11_home0 3 (Option.some .int) 1 0 0 [.ref m, .int x, .int y] z n sh I L (Pst (some (.int (N (8 * h + w)))) z n sh I L) := by
  subst hI
  apply sX11_home0 <;> assumption
set_option maxHeartbeats 4000000 in
set_option maxRecDepth 100000 in
theorem sX11_at (hM : IsM n sh m) {x y : Int32} {p w : Nat} (hx : x = nI p) (hy : y = nI w) : CM yX11_at cX11_at 2 (Option.some .int) 1 0 0 [.int x, .int y] z n sh I L (Pst (some (.int (nI (80 + 18 * p + w)))) z n sh I L) := by
  refine CM.go [some (.int x), some (.int y)] rfl rfl (Nat.le_of_ble_eq_true rfl) (fun X g q => ?_)
  refine aw_bipush (v := 80) dX11_at_0 rfl ?_
  refine aw_bipush (v := 18) dX11_at_2 rfl ?_
  refine aw_iload_n dX11_at_4 rfl ?_
  refine aw_imul dX11_at_5 ?_
  refine aw_iadd dX11_at_6 ?_
  refine aw_iload_n dX11_at_7 rfl ?_
  refine aw_iadd dX11_at_8 ?_
  refine aw_iret q rfl dX11_at_9 ⟨Nat.le_refl _, Nat.le_refl _⟩ ?_
  rw [gadd (gadd (rfl : (80 : Int32) = nI 80) (gmul (rfl : (18 : Int32) = nI 18) hx)) hy]
  exact Pst.rf
set_option maxHeartbeats 4000000 in
set_option maxRecDepth 100000 in
theorem sX11_of (hM : IsM n sh m) {x y : Int32} {p w : Nat} (hx : x = nI p) (hy : y = nI w) (hb : 80 + 18 * p + w < 390) : CM yX11_of cX11_of 3 (Option.some .int) 2 0 0 [.ref m, .int x, .int y] z n sh I L (Pst (some (.int (I (m + 1) (80 + 18 * p + w)))) z n sh I L) := by
  refine CM.go [some (.ref m), some (.int x), some (.int y)] rfl rfl (Nat.le_of_ble_eq_true rfl) (fun X g q => ?_)
  refine aw_aload_n dX11_of_0 rfl ?_
  refine aw_getR (b := m + 1) dX11_of_1 fX11_7 hM.k hM.b rfl hM.r0 ?_
  refine aw_iload_n dX11_of_4 rfl ?_
  refine aw_iload_n dX11_of_5 rfl ?_
  refine aw_cS dX11_of_6 kX11_75 mX11_at (sX11_at (p := p) (w := w) hM hx hy) (Nat.le_of_ble_eq_true rfl) rfl rfl (Nat.le_of_ble_eq_true rfl) ⟨Nat.le_refl _, Nat.le_refl _⟩ ?_
  refine aw_ialdN (k := (80 + 18 * p + w)) dX11_of_9 hM.k0 hM.b0 hM.l0 rfl (by omega) (by decide) ?_
  refine aw_iret q rfl dX11_of_10 ⟨Nat.le_refl _, Nat.le_refl _⟩ ?_
  exact Pst.rf
theorem rX11_of (hM : IsM n sh m) {N : Nat → Int32} (hI : I (m + 1) = N) {x y : Int32} {p w : Nat} (hx : x = nI p) (hy : y = nI w) (hb : 80 + 18 * p + w < 390) : CM yX11_of cX11_of 3 (Option.some .int) 2 0 0 [.ref m, .int x, .int y] z n sh I L (Pst (some (.int (N (80 + 18 * p + w)))) z n sh I L) := by
  subst hI
  apply sX11_of <;> assumption
set_option maxHeartbeats 4000000 in
set_option maxRecDepth 100000 in
theorem sX11_let0 (hM : IsM n sh m) {x y : Int32} {k w : Nat} (hx : x = nI k) (hy : y = nI w) (hb : 234 + 8 * k + w < 390) : CM yX11_let0 cX11_let0 3 (Option.some .int) 1 0 0 [.ref m, .int x, .int y] z n sh I L (Pst (some (.int (I (m + 1) (234 + 8 * k + w)))) z n sh I L) := by
  refine CM.go [some (.ref m), some (.int x), some (.int y)] rfl rfl (Nat.le_of_ble_eq_true rfl) (fun X g q => ?_)
  refine aw_aload_n dX11_let0_0 rfl ?_
  refine aw_getR (b := m + 1) dX11_let0_1 fX11_7 hM.k hM.b rfl hM.r0 ?_
  refine aw_sipush (v := 234) dX11_let0_4 rfl ?_
  refine aw_bipush (v := 8) dX11_let0_7 rfl ?_
  refine aw_iload_n dX11_let0_9 rfl ?_
  refine aw_imul dX11_let0_10 ?_
  refine aw_iadd dX11_let0_11 ?_
  refine aw_iload_n dX11_let0_12 rfl ?_
  refine aw_iadd dX11_let0_13 ?_
  refine aw_ialdN (k := ((234 + (8 * k)) + w)) dX11_let0_14 hM.k0 hM.b0 hM.l0 (gadd (gadd rfl (gmul rfl hx)) hy) (by omega) (by decide) ?_
  refine aw_iret q rfl dX11_let0_15 ⟨Nat.le_refl _, Nat.le_refl _⟩ ?_
  exact Pst.rf
theorem rX11_let0 (hM : IsM n sh m) {N : Nat → Int32} (hI : I (m + 1) = N) {x y : Int32} {k w : Nat} (hx : x = nI k) (hy : y = nI w) (hb : 234 + 8 * k + w < 390) : CM yX11_let0 cX11_let0 3 (Option.some .int) 1 0 0 [.ref m, .int x, .int y] z n sh I L (Pst (some (.int (N (234 + 8 * k + w)))) z n sh I L) := by
  subst hI
  apply sX11_let0 <;> assumption
end RefS
