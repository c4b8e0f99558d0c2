/-! rows on what lies there from the start; states kept, called -/
theorem rl_1 : Cond.fieldLink RX10 411 "HomesQueue" "RULE_LEAST" "[I" ∈ tblG := t3 (i := 190) rfl rfl
theorem rl_2 : Cond.fieldLink RX10 415 "HomesQueue" "RULE_MOST" "[I" ∈ tblG := t3 (i := 192) rfl rfl
section AStat
variable {X : Cx} {g : Gd} {cc : ByteArray} {nL : Nat} {Bd : Nat × Nat × Nat} {E : En} {I : MI} {L : ML} {pc : Nat} {Lc : List (Option Value)} {st : List Value}
theorem aw_sLeast (d : decode cc pc = .ok (.getstatic 411, 3)) (kk : AW X g RX10 cc nL Bd E I L (pc + 3) Lc (.ref 1000000 :: st)) : AW X g RX10 cc nL Bd E I L pc Lc st := by
  intro F H locs ls h1 h2 h3 h4 h5
  have K := kk F H locs ls h1 h2 h3 h4 h5
  rw [List.map_cons] at K
  exact va_gets (C := "HomesQueue") (n := "RULE_LEAST") (d := "[I") F.1 F.2.1 F.2.2.2.2.2.2.1.1.1 h4 F.2.2.2.1 (F.2.2.2.2.1 _ rl_1) (fun _ h => h) d K
theorem aw_sMost (d : decode cc pc = .ok (.getstatic 415, 3)) (kk : AW X g RX10 cc nL Bd E I L (pc + 3) Lc (.ref 1000001 :: st)) : AW X g RX10 cc nL Bd E I L pc Lc st := by
  intro F H locs ls h1 h2 h3 h4 h5
  have K := kk F H locs ls h1 h2 h3 h4 h5
  rw [List.map_cons] at K
  exact va_gets (C := "HomesQueue") (n := "RULE_MOST") (d := "[I") F.1 F.2.1 F.2.2.2.2.2.2.1.2.1.1 h4 F.2.2.2.1 (F.2.2.2.2.1 _ rl_2) (fun _ h => h) d K
theorem aw_sUntold (d : decode cc pc = .ok (.getstatic 46, 3)) (kk : AW X g RX7 cc nL Bd E I L (pc + 3) Lc (.ref 1000002 :: st)) : AW X g RX7 cc nL Bd E I L pc Lc st := by
  intro F H locs ls h1 h2 h3 h4 h5
  have K := kk F H locs ls h1 h2 h3 h4 h5
  rw [List.map_cons] at K
  exact va_getsN (C := "HomesQueue") (n := "RULE_UNTOLD") (d := "[I") F.1 F.2.1 F.2.2.2.2.2.2.1.2.2.1.1 h4 F.2.2.2.1 (va_Nw.use rfl F.2.2.2.2.2.2.1.2.2.2.2.2.1.1) (fun _ h => h) d K
theorem aw_ldLeast {own : String} {k : Nat} {i : Int32} (hi : i = nI k) (hk : k < 6) (d : decode cc pc = .ok (.iaload, 1)) (kk : AW X g own cc nL Bd E I L (pc + 1) Lc (.int (ruleLeast k) :: st)) : AW X g own cc nL Bd E I L pc Lc (.int i :: .ref 1000000 :: st) := by
  subst hi
  intro F H locs ls h1 h2 h3 h4 h5
  have K := kk F H locs ls h1 h2 h3 h4 h5
  rw [List.map_cons] at K
  exact va_ti F.1 F.2.1 F.2.2.2.2.2.2.1.1.2 h4 (vp_in_nI hk (by decide)) (by rw [nI_clamp (by omega)]; rfl) d K
theorem aw_ldMost {own : String} {k : Nat} {i : Int32} (hi : i = nI k) (hk : k < 6) (d : decode cc pc = .ok (.iaload, 1)) (kk : AW X g own cc nL Bd E I L (pc + 1) Lc (.int (ruleMost k) :: st)) : AW X g own cc nL Bd E I L pc Lc (.int i :: .ref 1000001 :: st) := by
  subst hi
  intro F H locs ls h1 h2 h3 h4 h5
  have K := kk F H locs ls h1 h2 h3 h4 h5
  rw [List.map_cons] at K
  exact va_ti F.1 F.2.1 F.2.2.2.2.2.2.1.2.1.2 h4 (vp_in_nI hk (by decide)) (by rw [nI_clamp (by omega)]; rfl) d K
/-- the untold rules, copied -/
theorem aw_acopyU {own : String} {idx a1 : Nat} (dg : decode cc pc = .ok (.invokestatic idx, 3)) (hl : Cond.methodLink own idx arraycopyName ∈ tblG) (k1 : (E.2.2.1 a1).1 = 100) (b1 : a1 < E.2.1) (n1 : 6 ≤ (E.2.2.1 a1).2.1) (hd : 1 ≤ Bd.1) (hw : (st.map fun v => v.category).sum ≤ 8)
    (kk : AW X g own cc nL Bd E (upA I a1 (cpA ruleUntold (I a1) 6)) L (pc + 3) Lc st) : AW X g own cc nL Bd E I L pc Lc (.int (nI 6) :: .int 0 :: .ref a1 :: .int 0 :: .ref 1000002 :: st) := by
  intro F H locs ls h1 h2 h3 h4 h5
  rw [List.map_cons, List.map_cons, List.map_cons, List.map_cons, List.map_cons, cv_ref b1 h2.2]
  obtain ⟨cell, c1, c2, c3, c4, c5, c6, c7⟩ := F.2.2.2.2.2.2.1.2.2.1.2
  exact acp_W dg hl k1 b1 (n0 := 6) (Nat.le_refl 6) n1 (by decide) hd hw kk F h1 h2 h3 h4 h5 ((h4.2.1 _ (Array.getElem?_eq_some_iff.mp c1).1 c7).trans c1) c2 c3 c4 c6
/-- a call that keeps a state -/
def KpH (y t c : Nat) (N : Nat → Int32) (Q : Nat → Int64) (I : MI) (L : ML) (J : MI) (M : ML) : Prop := (∀ x, x ≠ y → (x < y + 2 + 34 * t ∨ y + 2 + 34 * t + 34 ≤ x) → J x = I x) ∧ FrL (y + 2 + 34 * t) L M ∧ CtS J M (y + 2 + 34 * t) N Q ∧ J y 1 = nI ((t + 1) % 12) ∧ J y 2 = nI (min (c + 1) 12)
theorem aw_kV {own : String} {idx ci b u t c : Nat} {y : MethodName} {cc2 : ByteArray} {nL2 : Nat} {ret2 : Option FieldType} {np d : Nat} {As : List Value} {st0 : List Value} {M : Nat → Int32} {Q : Nat → Int64} (dg : decode cc pc = .ok (.invokevirtual idx, 3)) (hl : Cond.methodLink own idx y ∈ tblG) (hm : mV y cc2 nL2 ret2 np) (hM : CM y cc2 nL2 ret2 d 0 0 (.ref b :: As) E.1 E.2.1 E.2.2.1 I L (KpP u t c M Q E.1 E.2.1 E.2.2.1 I L))
    (hd : d + 1 ≤ Bd.1) (hk : (E.2.2.1 b).1 = ci) (hci : ci < 12 ∧ clR ci = y.cls) (hb : b < E.2.1) (hst : st0 = As.reverse ++ .ref b :: st) (hn : As.length = np) (hw : (st.map fun v => v.category).sum ≤ 8) (hf : E.2.2.2.1 ≤ Bd.2.1 ∧ E.2.2.2.2 ≤ Bd.2.2)
    (k : ∀ J P, KpH u t c M Q I L J P → AW X g own cc nL Bd E J P (pc + 3) Lc st) : AW X g own cc nL Bd E I L pc Lc st0 :=
  aw_callV dg hl hm hM hd hk hci hb hst hn hw hf (fun v z n sh I3 L3 q => by
    obtain ⟨h1, h2, h3, h4, h5⟩ := q
    subst h1 h2 h3 h4
    exact k _ _ h5)
end AStat
