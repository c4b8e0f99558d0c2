/-! the class: a state copied -/
def CP {α : Type} (b c : Nat) (I J : Nat → Nat → α) (D : Nat → Nat → Prop) : Prop := (∀ x, (x < b ∨ b + 34 ≤ x) → J x = I x) ∧ (∀ a k, a < 34 → D a k → J (b + a) k = I (c + a) k) ∧ ∀ a k, a < 34 → ¬ D a k → J (b + a) k = I (b + a) k
section CPs
variable {α : Type} {b c : Nat} {I J : Nat → Nat → α} {D : Nat → Nat → Prop}
theorem CP.begin : CP b c I I (fun a _ => a < 0) := ⟨fun _ _ => rfl, fun _ _ _ h => absurd h (Nat.not_lt_zero _), fun _ _ _ _ => rfl⟩
theorem CP.yes (h : CP b c I J D) {x y a k : Nat} (hx : x = b + a) (hy : y = c + a) (ha : a < 34) (hD : D a k) : J x k = I y k := by subst hx hy; exact h.2.1 a k ha hD
theorem CP.no (h : CP b c I J D) {x a k : Nat} (hx : x = b + a) (ha : a < 34) (hD : ¬ D a k) : J x k = I x k := by subst hx; exact h.2.2 a k ha hD
theorem CP.cong (h : CP b c I J D) {D' : Nat → Nat → Prop} (hD : ∀ a k, a < 34 → (D a k ↔ D' a k)) : CP b c I J D' := ⟨h.1, fun a k ha q => h.2.1 a k ha ((hD a k ha).mpr q), fun a k ha q => h.2.2 a k ha (fun r => q ((hD a k ha).mp r))⟩
theorem CP.step (h : CP b c I J D) {J' : Nat → Nat → α} {P : Nat → Prop} {a0 x0 : Nat} (hx : x0 = b + a0) (ha0 : a0 < 34) (h1 : ∀ x, x ≠ x0 → J' x = J x) (h2 : ∀ k, P k → J' x0 k = I (c + a0) k) (h3 : ∀ k, ¬ P k → J' x0 k = J x0 k) : CP b c I J' (fun a k => D a k ∨ (a = a0 ∧ P k)) := by
  subst hx
  refine ⟨fun x hx => (h1 x (by omega)).trans (h.1 x hx), fun a k ha q => ?_, fun a k ha q => ?_⟩
  · by_cases e : a = a0
    · subst e
      by_cases p : P k
      · exact h2 k p
      · rw [h3 k p]
        exact h.2.1 a k ha (q.resolve_right (fun r => p r.2))
    · rw [h1 _ (by omega)]
      exact h.2.1 a k ha (q.resolve_right (fun r => e r.1))
  · by_cases e : a = a0
    · subst e
      rw [h3 k (fun p => q (Or.inr ⟨rfl, p⟩))]
      exact h.2.2 a k ha (fun r => q (Or.inl r))
    · rw [h1 _ (by omega)]
      exact h.2.2 a k ha (fun r => q (Or.inl r))
end CPs
def D1 (i : Nat) (a k : Nat) : Prop := (a = 0 ∧ k = 5) ∨ (2 ≤ a ∧ a < 2 + i ∧ 3 ≤ k ∧ k < 11)
def D2 (h p : Nat) (a k : Nat) : Prop := D1 h a k ∨ (a = 0 ∧ k = 6) ∨ (13 ≤ a ∧ a < 13 + 2 * p ∧ ((a % 2 = 1 ∧ 3 ≤ k ∧ k < 15 ∧ k ≠ 4) ∨ (a % 2 = 0 ∧ k < 6)))
def D3 (h p l w : Nat) (a k : Nat) : Prop := ((((((D2 h p a k ∨ (a = 29 ∧ k < 6)) ∨ (a = 31 ∧ k < l * 11)) ∨ (a = 30 ∧ k = 2)) ∨ (a = 33 ∧ k < w * 3)) ∨ (a = 32 ∧ k = 2)) ∨ (a = 0 ∧ k = 7)) ∨ (a = 0 ∧ k = 8)
def DL (h p : Nat) (a k : Nat) : Prop := (2 ≤ a ∧ a < 2 + h ∧ k = 2) ∨ (13 ≤ a ∧ a < 13 + 2 * p ∧ a % 2 = 1 ∧ k = 4)
theorem D1_0 {a k : Nat} : (a < 0 ∨ (a = 0 ∧ k = 5)) ↔ D1 0 a k := by unfold D1; omega
theorem DL_0 {a k : Nat} : a < 0 ↔ DL 0 0 a k := by unfold DL; omega
theorem D2_0 {h a k : Nat} : (D1 h a k ∨ (a = 0 ∧ k = 6)) ↔ D2 h 0 a k := by
  unfold D2
  constructor
  · rintro (q | q)
    · exact Or.inl q
    · exact Or.inr (Or.inl q)
  · rintro (q | q | q)
    · exact Or.inl q
    · exact Or.inr q
    · omega
theorem contH (k : Nat) : ([10, 9, 8, 7, 6, 5, 4, 3] : List Nat).contains k = true ↔ 3 ≤ k ∧ k < 11 := by
  by_cases hk : k < 16
  · have : ∀ k, k < 16 → (([10, 9, 8, 7, 6, 5, 4, 3] : List Nat).contains k = true ↔ 3 ≤ k ∧ k < 11) := by decide
    exact this k hk
  · constructor
    · intro h
      simp [List.contains_cons] at h
      omega
    · intro h
      omega
theorem contP (k : Nat) : ([14, 13, 12, 11, 10, 9, 8, 7, 6, 5, 3] : List Nat).contains k = true ↔ 3 ≤ k ∧ k < 15 ∧ k ≠ 4 := by
  by_cases hk : k < 16
  · have : ∀ k, k < 16 → (([14, 13, 12, 11, 10, 9, 8, 7, 6, 5, 3] : List Nat).contains k = true ↔ 3 ≤ k ∧ k < 15 ∧ k ≠ 4) := by decide
    exact this k hk
  · constructor
    · intro h
      simp [List.contains_cons] at h
      omega
    · intro h
      omega
theorem hK_rg : ∀ w, w < 8 → 3 ≤ hK w ∧ hK w < 11 := by decide
theorem sK_rg : ∀ w, w < 12 → 3 ≤ sK w ∧ sK w < 15 ∧ sK w ≠ 4 := by decide
theorem lvj_D3 {N : Nat → Int32} (hN : Cn N) {j : Nat} (h : lvj N j) : oA j < 34 ∧ D3 (nHo N) (nPo N) (nLe N) (nOf N) (oA j) (oK j) := by
  have h10 := hN.h10
  have h8 := hN.p8
  have ho := hN.o30
  obtain ⟨s1, s2⟩ := lvj_s hN h
  refine ⟨(oF2 j s1 s2).2.2.2, ?_⟩
  rcases h with h | h | h | h | h | h
  · have e : j = 8 * (j / 8) + j % 8 := by omega
    have := hK_rg (j % 8) (by omega)
    rw [e, oA_h (by omega) (by omega), oK_h (by omega) (by omega)]
    exact Or.inl (Or.inl (Or.inl (Or.inl (Or.inl (Or.inl (Or.inl (Or.inl (Or.inr ⟨by omega, by omega, by omega, by omega⟩))))))))
  · have e : j = 80 + 18 * ((j - 80) / 18) + (j - 80) % 18 := by omega
    by_cases hw : (j - 80) % 18 < 12
    · have := sK_rg ((j - 80) % 18) hw
      rw [e, oA_p (by omega) hw, oK_p (by omega) hw]
      exact Or.inl (Or.inl (Or.inl (Or.inl (Or.inl (Or.inl (Or.inl (Or.inr (Or.inr ⟨by omega, by omega, Or.inl ⟨by omega, by omega, by omega, by omega⟩⟩))))))))
    · have e2 : j = 80 + 18 * ((j - 80) / 18) + (12 + ((j - 80) % 18 - 12)) := by omega
      rw [e2, oA_w (by omega) (by omega), oK_w (by omega) (by omega)]
      exact Or.inl (Or.inl (Or.inl (Or.inl (Or.inl (Or.inl (Or.inl (Or.inr (Or.inr ⟨by omega, by omega, Or.inr ⟨by omega, by omega⟩⟩))))))))
  · by_cases h6 : j < 230
    · have e : j = 224 + (j - 224) := by omega
      rw [e, oA_u (by omega), oK_u (by omega)]
      exact Or.inl (Or.inl (Or.inl (Or.inl (Or.inl (Or.inl (Or.inr ⟨rfl, by omega⟩))))))
    · have : j = 230 ∨ j = 231 ∨ j = 232 ∨ j = 233 := by omega
      rcases this with e | e | e | e <;> subst e
      · exact Or.inl (Or.inl (Or.inl (Or.inl (Or.inl (Or.inl (Or.inl (Or.inl (Or.inl ⟨rfl, rfl⟩))))))))
      · exact Or.inl (Or.inl (Or.inl (Or.inl (Or.inl (Or.inl (Or.inl (Or.inr (Or.inl ⟨rfl, rfl⟩))))))))
      · exact Or.inl (Or.inr ⟨rfl, rfl⟩)
      · exact Or.inl (Or.inl (Or.inl (Or.inl (Or.inr ⟨rfl, rfl⟩))))
  · subst h
    exact Or.inr ⟨rfl, rfl⟩
  · subst h
    exact Or.inl (Or.inl (Or.inr ⟨rfl, rfl⟩))
  · have e : j = 300 + (j - 300) := by omega
    rw [e, oA_o, oK_o]
    exact Or.inl (Or.inl (Or.inl (Or.inr ⟨rfl, by omega⟩)))
theorem CP.ctS {b c : Nat} {I J : MI} {L M : ML} {N : Nat → Int32} {Q : Nat → Int64} (h : CP b c I J (D3 (nHo N) (nPo N) (nLe N) (nOf N))) (hl : CP b c L M (DL (nHo N) (nPo N))) (hC : CtS I L c N Q) (hF : FxS I b) (hN : Cn N) : CtS J M b N Q := by
  have h10 := hN.h10
  have h8 := hN.p8
  have l8 := hN.l8
  have zz : ∀ a k, a < 34 → z01 (I (b + a) k) → z01 (I (c + a) k) → z01 (J (b + a) k) := fun a k ha z1 z2 => by
    by_cases q : D3 (nHo N) (nPo N) (nLe N) (nOf N) a k
    · rw [h.2.1 a k ha q]; exact z2
    · rw [h.2.2 a k ha q]; exact z1
  refine ⟨⟨fun i hi => ?_, fun i hi => ?_, ?_, ?_⟩, fun j hj => ?_, fun p hp => ?_, fun k hk => ?_, fun i hi => ?_, fun p hp => ?_⟩
  · obtain ⟨a1, a2, a3, a4⟩ := hF.1 i hi
    obtain ⟨-, -, c3, c4⟩ := hC.1.1 i hi
    have z6 := zz (2 + i) 6 (by omega) (by rw [← Nat.add_assoc]; exact a3) (by rw [← Nat.add_assoc]; exact c3)
    have z7 := zz (2 + i) 7 (by omega) (by rw [← Nat.add_assoc]; exact a4) (by rw [← Nat.add_assoc]; exact c4)
    rw [← Nat.add_assoc] at z6 z7
    refine ⟨?_, ?_, z6, z7⟩
    · rw [h.no (a := 2 + i) (by omega) (by omega) (by unfold D3 D2 D1; omega)]; exact a1
    · rw [h.no (a := 2 + i) (by omega) (by omega) (by unfold D3 D2 D1; omega)]; exact a2
  · obtain ⟨a1, a2, a3⟩ := hF.2.1 i hi
    obtain ⟨-, -, c3⟩ := hC.1.2.1 i hi
    have z6 := zz (13 + 2 * i) 12 (by omega) (by rw [← Nat.add_assoc]; exact a3) (by rw [← Nat.add_assoc]; exact c3)
    rw [← Nat.add_assoc] at z6
    refine ⟨?_, ?_, z6⟩
    · rw [h.no (a := 13 + 2 * i) (by omega) (by omega) (by unfold D3 D2 D1; omega)]; exact a1
    · rw [h.no (a := 13 + 2 * i) (by omega) (by omega) (by unfold D3 D2 D1; omega)]; exact a2
  · rw [h.no (a := 30) rfl (by omega) (by unfold D3 D2 D1; omega)]; exact hF.2.2.1
  · rw [h.no (a := 32) rfl (by omega) (by unfold D3 D2 D1; omega)]; exact hF.2.2.2
  · obtain ⟨g1, g2⟩ := lvj_D3 hN hj
    rw [h.2.1 _ _ g1 g2]
    exact hC.2.1 j hj
  · rw [h.yes (y := c + 13 + 2 * p) (a := 13 + 2 * p) (by omega) (by omega) (by omega) (by unfold D3 D2 D1; omega)]
    exact hC.br hp
  · obtain ⟨b1, b2, b3, b4, b5⟩ := hC.lt hk
    have e : ∀ w, w < 11 → J (b + 31) (11 * k + w) = I (c + 31) (11 * k + w) := fun w hw => h.2.1 31 _ (by omega) (by unfold D3 D2 D1; omega)
    exact ⟨fun w hw h5 => (e w (by omega)).trans (b1 w hw h5), (e 5 (by decide)).trans b2, (e 8 (by decide)).trans b3, (e 9 (by decide)).trans b4, (e 10 (by decide)).trans b5⟩
  · rw [hl.yes (y := c + 2 + i) (a := 2 + i) (by omega) (by omega) (by omega) (by unfold DL; omega)]
    exact hC.qh hi
  · rw [hl.yes (y := c + 13 + 2 * p) (a := 13 + 2 * p) (by omega) (by omega) (by omega) (by unfold DL; omega)]
    exact hC.qp hp
/-- behind a copy -/
def CpP (b : Nat) (N : Nat → Int32) (Q : Nat → Int64) (z n : Nat) (sh : Shp) (I : MI) (L : ML) : PoT := fun v z' n' sh' J M => v = none ∧ z' = z ∧ n' = n ∧ sh' = sh ∧ Fr b I J ∧ FrL b L M ∧ CtS J M b N Q
theorem IsS.tbL {n b : Nat} {sh : Shp} (h : IsS n sh b) : TbS n sh (b + 30) 88 := ⟨h.tk, h.lt (k := 31) (by decide), h.tr, h.tc, h.tl⟩
theorem IsS.tbO {n b : Nat} {sh : Shp} (h : IsS n sh b) : TbS n sh (b + 32) 90 := ⟨h.ok, h.lt (k := 33) (by decide), h.or, h.oc, h.ol⟩
section ClsS
variable {z n b c : Nat} {sh : Shp} {I : MI} {L : ML} {N : Nat → Int32} {Q : Nat → Int64}
set_option maxHeartbeats 4000000 in
set_option maxRecDepth 100000 in
theorem sX7_copy (hS : IsS n sh b) (hS2 : IsS n sh c) (hd : b + 34 ≤ c ∨ c + 34 ≤ b) (hFx : FxS I b) (hC : CtS I L c N Q) (hN : Cn N) : CM yX7_copy cX7_copy 3 (Option.none : Option FieldType) 3 0 0 [.ref b, .ref c] z n sh I L (CpP b N Q z n sh I L) := by
  refine CM.go [some (.ref b), some (.ref c), none] rfl rfl (Nat.le_of_ble_eq_true rfl) (fun X g q => ?_)
  have h8 := hN.p8
  have h10 := hN.h10
  have l8 := hN.l8
  have o30 := hN.o30
  have loop1 : (∀ (J : MI) (M : ML), CP b c I J (D1 (nHo N)) → CP b c L M (DL (nHo N) 0) → AW X g RX7 cX7_copy 3 (3, 0, 0) (z, n, sh, 0, 0) (J) (M) 39 [some (.ref b), some (.ref c), some (.int (nI (nHo N)))] []) → ∀ i, i ≤ nHo N → ∀ (J : MI) (M : ML), CP b c I J (D1 i) → CP b c L M (DL i 0) → AW X g RX7 cX7_copy 3 (3, 0, 0) (z, n, sh, 0, 0) (J) (M) 10 [some (.ref b), some (.ref c), some (.int (nI i))] [] := by
    intro kk
    refine up_loop (fun i hi ih J M hJ hM => ?_)
    refine aw_iload_n dX7_copy_10 rfl ?_
    refine aw_aload_n dX7_copy_11 rfl ?_
    refine aw_getI dX7_copy_12 fX7_59 hS.k hS.b0 rfl ?_
    refine AW.top ((hJ.yes (y := c) (a := 0) rfl rfl (by omega) (by unfold D1; omega)).trans (hC.nh.trans hN.h)) ?_
    refine aw_icmp_ge (tgt := 39) dX7_copy_15 rfl (fun c15 => ?_) (fun c15 => ?_)
    · have e := ge_t rfl (by omega) hi c15
      subst e
      exact kk J M hJ hM
    · have hlt := ge_f rfl (by omega) hi c15
      refine aw_aload_n dX7_copy_18 rfl ?_
      refine aw_getR (b := b + 1) dX7_copy_19 fX7_11 hS.k hS.b0 rfl hS.r0 ?_
      refine aw_iload_n dX7_copy_22 rfl ?_
      refine aw_homes (h := i) hS rfl (by omega) dX7_copy_23 ?_
      refine aw_aload_n dX7_copy_24 rfl ?_
      refine aw_getR (b := c + 1) dX7_copy_25 fX7_11 hS2.k hS2.b0 rfl hS2.r0 ?_
      refine aw_iload_n dX7_copy_28 rfl ?_
      refine aw_homes (h := i) hS2 rfl (by omega) dX7_copy_29 ?_
      refine aw_cV dX7_copy_30 kX7_71 mX2_copy (sX2_copy (hS.ho (by omega)) (hS.hb (by omega)) (hS2.ho (by omega)) (hS2.hb (by omega)) (by omega) (by rw [hJ.1 _ (by omega)]; exact (hC.1.1 i (by omega)).2.2.1) (by rw [hJ.1 _ (by omega)]; exact (hC.1.1 i (by omega)).2.2.2)) (Nat.le_of_ble_eq_true rfl) (hS.ho (by omega)) ⟨by decide, rfl⟩ (hS.hb (by omega)) rfl rfl (Nat.le_of_ble_eq_true rfl) ⟨Nat.le_refl _, Nat.le_refl _⟩ ?_
      refine aw_iinc dX7_copy_33 rfl (ginc rfl) (by decide) rfl ?_
      refine aw_goto (tgt := 10) dX7_copy_36 rfl ?_
      refine ih hlt _ _ ?_ ?_
      · refine CP.cong (CP.step (P := fun k => ([10, 9, 8, 7, 6, 5, 4, 3] : List Nat).contains k = true) hJ (a0 := 2 + i) (by omega) (by omega) (fun x hx => cpS_off hx) (fun k hk => ?_) (fun k hk => cpS_out (by simpa using hk))) (fun a k ha => ?_)
        · rw [cpS_in hk, hJ.1 _ (by omega), ← Nat.add_assoc]
        · rw [contH]
          unfold D1
          omega
      · refine CP.cong (CP.step (P := fun k => k = 2) hM (a0 := 2 + i) (by omega) (by omega) (fun x hx => upL_n hx) (fun k hk => ?_) (fun k hk => ?_)) (fun a k ha => ?_)
        · subst hk
          rw [upL_s, hM.1 _ (by omega), ← Nat.add_assoc]
        · unfold upL vp_updL
          rw [if_pos rfl, if_neg hk]
        · unfold DL
          omega
  have loop2 : (∀ (J : MI) (M : ML), CP b c I J (D2 (nHo N) (nPo N)) → CP b c L M (DL (nHo N) (nPo N)) → AW X g RX7 cX7_copy 3 (3, 0, 0) (z, n, sh, 0, 0) (J) (M) 78 [some (.ref b), some (.ref c), some (.int (nI (nPo N)))] []) → ∀ i, i ≤ nPo N → ∀ (J : MI) (M : ML), CP b c I J (D2 (nHo N) i) → CP b c L M (DL (nHo N) i) → AW X g RX7 cX7_copy 3 (3, 0, 0) (z, n, sh, 0, 0) (J) (M) 49 [some (.ref b), some (.ref c), some (.int (nI i))] [] := by
    intro kk
    refine up_loop (fun i hi ih J M hJ hM => ?_)
    refine aw_iload_n dX7_copy_49 rfl ?_
    refine aw_aload_n dX7_copy_50 rfl ?_
    refine aw_getI dX7_copy_51 fX7_62 hS.k hS.b0 rfl ?_
    refine AW.top ((hJ.yes (y := c) (a := 0) rfl rfl (by omega) (by unfold D2 D1; omega)).trans (hC.np.trans hN.p)) ?_
    refine aw_icmp_ge (tgt := 78) dX7_copy_54 rfl (fun c54 => ?_) (fun c54 => ?_)
    · have e := ge_t rfl (by omega) hi c54
      subst e
      exact kk J M hJ hM
    · have hlt := ge_f rfl (by omega) hi c54
      refine aw_aload_n dX7_copy_57 rfl ?_
      refine aw_getR (b := b + 12) dX7_copy_58 fX7_22 hS.k hS.b0 rfl hS.r1 ?_
      refine aw_iload_n dX7_copy_61 rfl ?_
      refine aw_houses (p := i) hS rfl (by omega) dX7_copy_62 ?_
      refine aw_aload_n dX7_copy_63 rfl ?_
      refine aw_getR (b := c + 12) dX7_copy_64 fX7_22 hS2.k hS2.b0 rfl hS2.r1 ?_
      refine aw_iload_n dX7_copy_67 rfl ?_
      refine aw_houses (p := i) hS2 rfl (by omega) dX7_copy_68 ?_
      refine aw_cV dX7_copy_69 kX7_75 mX3_copy (sX3_copy (hS.po (by omega)) (hS.pb (by omega)) (hS2.po (by omega)) (hS2.pb (by omega)) (show (sh (b + 13 + 2 * i)).2.2 2 = some (b + 13 + 2 * i + 1) by rw [show b + 13 + 2 * i + 1 = b + 14 + 2 * i by omega]; exact hS.pw (by omega)) (show (sh (c + 13 + 2 * i)).2.2 2 = some (c + 13 + 2 * i + 1) by rw [show c + 13 + 2 * i + 1 = c + 14 + 2 * i by omega]; exact hS2.pw (by omega)) (show (sh (b + 13 + 2 * i + 1)).1 = 100 by rw [show b + 13 + 2 * i + 1 = b + 14 + 2 * i by omega]; exact hS.wk (by omega)) (show b + 13 + 2 * i + 1 < n by have := hS.1; omega) (show (sh (b + 13 + 2 * i + 1)).2.1 = 6 by rw [show b + 13 + 2 * i + 1 = b + 14 + 2 * i by omega]; exact hS.wl (by omega)) (show (sh (c + 13 + 2 * i + 1)).1 = 100 by rw [show c + 13 + 2 * i + 1 = c + 14 + 2 * i by omega]; exact hS2.wk (by omega)) (show c + 13 + 2 * i + 1 < n by have := hS2.1; omega) (show (sh (c + 13 + 2 * i + 1)).2.1 = 6 by rw [show c + 13 + 2 * i + 1 = c + 14 + 2 * i by omega]; exact hS2.wl (by omega)) (by omega) (by omega) (by rw [hJ.1 _ (by omega)]; exact (hC.1.2.1 i (by omega)).2.2)) (Nat.le_of_ble_eq_true rfl) (hS.po (by omega)) ⟨by decide, rfl⟩ (hS.pb (by omega)) rfl rfl (Nat.le_of_ble_eq_true rfl) ⟨Nat.le_refl _, Nat.le_refl _⟩ ?_
      refine aw_iinc dX7_copy_72 rfl (ginc rfl) (by decide) rfl ?_
      refine aw_goto (tgt := 49) dX7_copy_75 rfl ?_
      refine ih hlt _ _ ?_ ?_
      · refine CP.cong (CP.step (P := fun k => ([14, 13, 12, 11, 10, 9, 8, 7, 6, 5, 3] : List Nat).contains k = true) (CP.step (P := fun k => k < 6) hJ (J' := upA J (b + 13 + 2 * i + 1) (cpA (J (c + 13 + 2 * i + 1)) (J (b + 13 + 2 * i + 1)) 6)) (a0 := 14 + 2 * i) (x0 := b + 13 + 2 * i + 1) (by omega) (by omega) (fun x hx => upA_ne hx) (fun k hk => ?_) (fun k hk => ?_)) (a0 := 13 + 2 * i) (by omega) (by omega) (fun x hx => cpS_off hx) (fun k hk => ?_) (fun k hk => cpS_out (by simpa using hk))) (fun a k ha => ?_)
        · rw [upA_self]
          unfold cpA
          rw [if_pos hk, hJ.1 _ (by omega), show c + 13 + 2 * i + 1 = c + (14 + 2 * i) by omega]
        · rw [upA_self]
          unfold cpA
          rw [if_neg hk]
        · rw [cpS_in hk, upA_ne (by omega), hJ.1 _ (by omega), show c + 13 + 2 * i = c + (13 + 2 * i) by omega]
        · rw [contP]
          unfold D2 D1
          omega
      · refine CP.cong (CP.step (P := fun k => k = 4) hM (a0 := 13 + 2 * i) (by omega) (by omega) (fun x hx => upL_n hx) (fun k hk => ?_) (fun k hk => ?_)) (fun a k ha => ?_)
        · subst hk
          rw [upL_s, hM.1 _ (by omega), show c + 13 + 2 * i = c + (13 + 2 * i) by omega]
        · unfold upL vp_updL
          rw [if_pos rfl, if_neg hk]
        · unfold DL
          omega
  refine aw_aload_n dX7_copy_0 rfl ?_
  refine aw_aload_n dX7_copy_1 rfl ?_
  refine aw_getI dX7_copy_2 fX7_59 hS2.k hS2.b0 rfl ?_
  refine AW.top hC.nh ?_
  refine aw_putI dX7_copy_5 fX7_59 hS.k hS.b0 rfl rfl ?_
  refine AW.gen (fun K => CP b c I K (D1 0)) (CP.cong (CP.step (P := fun k => k = 5) CP.begin (a0 := 0) (x0 := b) rfl (by omega) (fun x hx => funext fun k => upI_n (Or.inl hx)) (fun k hk => by subst hk; rw [upI_s]; exact hC.nh.symm) (fun k hk => upI_n (Or.inr hk))) (fun a k ha => D1_0)) (fun J hJ => ?_)
  refine aw_iconst (v := 0) dX7_copy_8 rfl ?_
  refine aw_istore_n dX7_copy_9 (by decide) rfl ?_
  refine loop1 (fun J M hJ hM => ?_) 0 (Nat.zero_le _) J L hJ (CP.cong CP.begin (fun a k ha => DL_0))
  refine aw_aload_n dX7_copy_39 rfl ?_
  refine aw_aload_n dX7_copy_40 rfl ?_
  refine aw_getI dX7_copy_41 fX7_62 hS2.k hS2.b0 rfl ?_
  refine AW.top ((congrFun (hJ.1 _ (by omega)) 6).trans hC.np) ?_
  refine aw_putI dX7_copy_44 fX7_62 hS.k hS.b0 rfl rfl ?_
  refine AW.gen (fun K => CP b c I K (D2 (nHo N) 0)) (CP.cong (CP.step (P := fun k => k = 6) hJ (a0 := 0) (x0 := b) rfl (by omega) (fun x hx => funext fun k => upI_n (Or.inl hx)) (fun k hk => by subst hk; rw [upI_s]; exact hC.np.symm) (fun k hk => upI_n (Or.inr hk))) (fun a k ha => D2_0)) (fun J hJ => ?_)
  refine aw_iconst (v := 0) dX7_copy_47 rfl ?_
  refine aw_istore_n dX7_copy_48 (by decide) rfl ?_
  refine loop2 (fun J M hJ hM => ?_) 0 (Nat.zero_le _) J M hJ hM
  refine aw_aload_n dX7_copy_78 rfl ?_
  refine aw_getR (b := c + 29) dX7_copy_79 fX7_27 hS2.k hS2.b0 rfl hS2.r2 ?_
  refine aw_iconst (v := 0) dX7_copy_82 rfl ?_
  refine aw_aload_n dX7_copy_83 rfl ?_
  refine aw_getR (b := b + 29) dX7_copy_84 fX7_27 hS.k hS.b0 rfl hS.r2 ?_
  refine aw_iconst (v := 0) dX7_copy_87 rfl ?_
  refine aw_bipush (v := 6) dX7_copy_88 rfl ?_
  refine aw_acopy (len := 6) dX7_copy_90 acp_X7 rfl hS2.uk (hS2.lt (k := 29) (by decide)) hS.uk (hS.lt (k := 29) (by decide)) (by rw [hS2.ul]; decide) (by rw [hS.ul]; decide) (by decide) (Nat.le_of_ble_eq_true rfl) (Nat.le_of_ble_eq_true rfl) ?_
  refine AW.gen (fun K => CP b c I K (fun a k => D2 (nHo N) (nPo N) a k ∨ (a = 29 ∧ k < 6))) (CP.step (P := fun k => k < 6) hJ (a0 := 29) (x0 := b + 29) rfl (by omega) (fun x hx => upA_ne hx) (fun k hk => by rw [upA_self]; unfold cpA; rw [if_pos hk, hJ.1 _ (by omega)]) (fun k hk => by rw [upA_self]; unfold cpA; rw [if_neg hk])) (fun J hJ => ?_)
  refine aw_aload_n dX7_copy_93 rfl ?_
  refine aw_getR (b := b + 30) dX7_copy_94 fX7_36 hS.k hS.b0 rfl hS.r3 ?_
  refine aw_aload_n dX7_copy_97 rfl ?_
  refine aw_getR (b := c + 30) dX7_copy_98 fX7_36 hS2.k hS2.b0 rfl hS2.r3 ?_
  refine aw_cV dX7_copy_101 kX7_78 mX8_copy (sX8_copy (show TbO n sh J (c + 30) 88 11 (nLe N) by have t9 := hC.tbL hS2 hN; unfold TbO at t9 ⊢; rw [hJ.1 _ (by omega)]; exact t9) hS.tbL (by omega)) (Nat.le_of_ble_eq_true rfl) hS.tk ⟨by decide, rfl⟩ (hS.lt (k := 30) (by decide)) rfl rfl (Nat.le_of_ble_eq_true rfl) ⟨Nat.le_refl _, Nat.le_refl _⟩ ?_
  refine AW.gen (fun K => CP b c I K (fun a k => ((D2 (nHo N) (nPo N) a k ∨ (a = 29 ∧ k < 6)) ∨ (a = 31 ∧ k < nLe N * 11)) ∨ (a = 30 ∧ k = 2))) (CP.step (P := fun k => k = 2) (CP.step (P := fun k => k < nLe N * 11) hJ (J' := upA J (b + 30 + 1) (cpA (J (c + 30 + 1)) (J (b + 30 + 1)) (nLe N * 11))) (a0 := 31) (x0 := b + 30 + 1) rfl (by omega) (fun x hx => upA_ne hx) (fun k hk => by rw [upA_self]; unfold cpA; rw [if_pos hk, hJ.1 _ (by omega)]) (fun k hk => by rw [upA_self]; unfold cpA; rw [if_neg hk])) (a0 := 30) (x0 := b + 30) rfl (by omega) (fun x hx => funext fun k => upI_n (Or.inl hx)) (fun k hk => by subst hk; rw [upI_s]; exact (hC.nl.trans hN.l).symm) (fun k hk => upI_n (Or.inr hk))) (fun J hJ => ?_)
  refine aw_aload_n dX7_copy_104 rfl ?_
  refine aw_getR (b := b + 32) dX7_copy_105 fX7_40 hS.k hS.b0 rfl hS.r4 ?_
  refine aw_aload_n dX7_copy_108 rfl ?_
  refine aw_getR (b := c + 32) dX7_copy_109 fX7_40 hS2.k hS2.b0 rfl hS2.r4 ?_
  refine aw_cV dX7_copy_112 kX7_78 mX8_copy (sX8_copy (show TbO n sh J (c + 32) 90 3 (nOf N) by have t9 := hC.tbO hS2 hN; unfold TbO at t9 ⊢; rw [hJ.1 _ (by omega)]; exact t9) hS.tbO (by omega)) (Nat.le_of_ble_eq_true rfl) hS.ok ⟨by decide, rfl⟩ (hS.lt (k := 32) (by decide)) rfl rfl (Nat.le_of_ble_eq_true rfl) ⟨Nat.le_refl _, Nat.le_refl _⟩ ?_
  refine AW.gen (fun K => CP b c I K (fun a k => ((((D2 (nHo N) (nPo N) a k ∨ (a = 29 ∧ k < 6)) ∨ (a = 31 ∧ k < nLe N * 11)) ∨ (a = 30 ∧ k = 2)) ∨ (a = 33 ∧ k < nOf N * 3)) ∨ (a = 32 ∧ k = 2))) (CP.step (P := fun k => k = 2) (CP.step (P := fun k => k < nOf N * 3) hJ (J' := upA J (b + 32 + 1) (cpA (J (c + 32 + 1)) (J (b + 32 + 1)) (nOf N * 3))) (a0 := 33) (x0 := b + 32 + 1) rfl (by omega) (fun x hx => upA_ne hx) (fun k hk => by rw [upA_self]; unfold cpA; rw [if_pos hk, hJ.1 _ (by omega)]) (fun k hk => by rw [upA_self]; unfold cpA; rw [if_neg hk])) (a0 := 32) (x0 := b + 32) rfl (by omega) (fun x hx => funext fun k => upI_n (Or.inl hx)) (fun k hk => by subst hk; rw [upI_s]; exact (hC.no.trans hN.o).symm) (fun k hk => upI_n (Or.inr hk))) (fun J hJ => ?_)
  refine aw_aload_n dX7_copy_115 rfl ?_
  refine aw_aload_n dX7_copy_116 rfl ?_
  refine aw_getI dX7_copy_117 fX7_65 hS2.k hS2.b0 rfl ?_
  refine AW.top ((congrFun (hJ.1 _ (by omega)) 7).trans hC.wk) ?_
  refine aw_putI dX7_copy_120 fX7_65 hS.k hS.b0 rfl rfl ?_
  refine AW.gen (fun K => CP b c I K (fun a k => (((((D2 (nHo N) (nPo N) a k ∨ (a = 29 ∧ k < 6)) ∨ (a = 31 ∧ k < nLe N * 11)) ∨ (a = 30 ∧ k = 2)) ∨ (a = 33 ∧ k < nOf N * 3)) ∨ (a = 32 ∧ k = 2)) ∨ (a = 0 ∧ k = 7))) (CP.step (P := fun k => k = 7) hJ (a0 := 0) (x0 := b) rfl (by omega) (fun x hx => funext fun k => upI_n (Or.inl hx)) (fun k hk => by subst hk; rw [upI_s]; exact hC.wk.symm) (fun k hk => upI_n (Or.inr hk))) (fun J hJ => ?_)
  refine aw_aload_n dX7_copy_123 rfl ?_
  refine aw_aload_n dX7_copy_124 rfl ?_
  refine aw_getI dX7_copy_125 fX7_68 hS2.k hS2.b0 rfl ?_
  refine AW.top ((congrFun (hJ.1 _ (by omega)) 8).trans hC.rf) ?_
  refine aw_putI dX7_copy_128 fX7_68 hS.k hS.b0 rfl rfl ?_
  refine AW.gen (fun K => CP b c I K (D3 (nHo N) (nPo N) (nLe N) (nOf N))) (CP.step (P := fun k => k = 8) hJ (a0 := 0) (x0 := b) rfl (by omega) (fun x hx => funext fun k => upI_n (Or.inl hx)) (fun k hk => by subst hk; rw [upI_s]; exact hC.rf.symm) (fun k hk => upI_n (Or.inr hk))) (fun J hJ9 => ?_)
  refine aw_vret q rfl dX7_copy_131 ⟨Nat.le_refl _, Nat.le_refl _⟩ ?_
  exact ⟨rfl, rfl, rfl, rfl, fun x hx => hJ9.1 x hx, fun x hx => hM.1 x hx, hJ9.ctS hM hC hFx hN⟩
end ClsS
