/-! constructors: the history, the reader -/
section ANS
variable {X : Cx} {g : Gd} {own : String} {cc : ByteArray} {nL : Nat} {Bd : Nat × Nat × Nat} {I : MI} {L : ML} {pc : Nat} {Lc : List (Option Value)} {st : List Value} {z n c s : Nat} {sh : Shp}
/-- a constructor called: what is told of its end -/
theorem an_k {idx b d mc ms np : Nat} {y : MethodName} {cc2 : ByteArray} {nL2 : Nat} {As st0 : List Value} {Po : PoT} {P : Nat → Shp → MI → ML → Prop} (dg : decode cc pc = .ok (.invokespecial idx, 3)) (hl : Cond.methodLink own idx y ∈ tblG) (hm : mI y cc2 nL2 np) (hM : CM y cc2 nL2 none d mc ms (.ref b :: As) z n sh I L Po)
    (hp : ∀ v z' n' sh' J M, Po v z' n' sh' J M → v = none ∧ z' = n' ∧ P n' sh' J M)
    (hd : d + 1 ≤ Bd.1) (hb : b < n) (hst : st0 = As.reverse ++ .ref b :: st) (hn : As.length = np) (hw : (st.map fun v => v.category).sum ≤ 8) (hf : c + mc ≤ Bd.2.1 ∧ s + ms ≤ Bd.2.2)
    (kk : ∀ n' sh' J M, P n' sh' J M → AW X g own cc nL Bd (n', n', sh', c + mc, s + ms) J M (pc + 3) Lc st) : AW X g own cc nL Bd (z, n, sh, c, s) I L pc Lc st0 :=
  aw_callI (ci := 0) dg hl hm hM hd hb hst hn hw hf (fun v z n sh I3 L3 q => by
    obtain ⟨h1, h2, h3⟩ := hp _ _ _ _ _ _ q
    subst h1 h2
    exact kk _ _ _ _ h3)
end ANS
theorem InSP.to {b : Nat} {sh0 : Shp} {I0 : MI} {L0 : ML} : ∀ v z' n' sh' J M, InSP b sh0 I0 L0 v z' n' sh' J M → v = none ∧ z' = n' ∧ n' = b + 34 ∧ M = L0 ∧ InS b sh0 sh' I0 J := fun v z' n' sh' J M h => ⟨h.1, h.2.1.trans h.2.2.1.symm, h.2.2.1, h.2.2.2.1, h.2.2.2.2⟩
theorem IsS.fr {n n' b : Nat} {sh sh' : Shp} (h : IsS n sh b) (hn : n ≤ n') (e : ∀ a, b ≤ a → a < b + 34 → sh' a = sh a) : IsS n' sh' b := by
  obtain ⟨h0, h1, h2, ⟨h3, h4, h5⟩, ⟨h6, h7, h8⟩, h9, h10, h11⟩ := h
  refine ⟨by omega, ?_, ?_, ⟨?_, ?_, fun i hi => ?_⟩, ⟨?_, ?_, fun i hi => ?_⟩, ?_, ?_, ?_⟩
  · rw [e b (by omega) (by omega)]; exact h1
  · rw [e b (by omega) (by omega)]; exact h2
  · rw [e (b + 1) (by omega) (by omega)]; exact h3
  · rw [e (b + 1) (by omega) (by omega)]; exact h4
  · rw [e (b + 1) (by omega) (by omega), e (b + 2 + i) (by omega) (by omega)]; exact h5 i hi
  · rw [e (b + 12) (by omega) (by omega)]; exact h6
  · rw [e (b + 12) (by omega) (by omega)]; exact h7
  · rw [e (b + 12) (by omega) (by omega), e (b + 13 + 2 * i) (by omega) (by omega), e (b + 14 + 2 * i) (by omega) (by omega)]; exact h8 i hi
  · rw [e (b + 29) (by omega) (by omega)]; exact h9
  · rw [e (b + 30) (by omega) (by omega), e (b + 31) (by omega) (by omega)]; exact h10
  · rw [e (b + 32) (by omega) (by omega), e (b + 33) (by omega) (by omega)]; exact h11
theorem InS.fx {b : Nat} {sh0 sh : Shp} {I0 I : MI} (h : InS b sh0 sh I0 I) : FxS I b := by
  obtain ⟨I2, h1, h2⟩ := h.2.2.1
  rw [h2]
  exact (clM_ct (L := fun _ _ => 0) (R := fun _ => 0) (Q := fun _ => 0) h1).1
def Jh (y i : Nat) (sh0 sh : Shp) (I0 I : MI) : Prop := (∀ a, a < y → sh a = sh0 a ∧ I a = I0 a) ∧ ((sh y).1 = 1 ∧ (sh y).2.2 0 = some (y + 1)) ∧ ((sh (y + 1)).1 = 103 ∧ (sh (y + 1)).2.1 = 12) ∧
  (∀ j, j < i → (sh (y + 1)).2.2 j = some (y + 2 + 34 * j) ∧ IsS (y + 2 + 34 * i) sh (y + 2 + 34 * j) ∧ FxS I (y + 2 + 34 * j)) ∧ ∀ a, y + 2 + 34 * i ≤ a → I a = fun _ => 0
theorem Jh.next {y i : Nat} {sh0 sh s2 : Shp} {I0 I J : MI} (h : Jh y i sh0 sh I0 I) (hi : i < 12) (hs : InS (y + 2 + 34 * i) (upS sh (y + 2 + 34 * i) (7, 0, fun _ => none)) s2 I J) : Jh y (i + 1) sh0 (upR s2 (y + 1) i (some (y + 2 + 34 * i))) I0 J := by
  obtain ⟨h1, ⟨h2, h3⟩, ⟨h4, h5⟩, h6, h7⟩ := h
  have hfx := hs.fx
  obtain ⟨g1, g2, g3, g4⟩ := hs
  have e : ∀ x, x < y + 2 + 34 * i → s2 x = sh x ∧ J x = I x := fun x hx => ⟨((g1 x hx).1).trans (upS_n (by omega)), (g1 x hx).2⟩
  refine ⟨fun a ha => ?_, ?_, ?_, fun j hj => ?_, fun a ha => ?_⟩
  · rw [upR_n (by omega), (e a (by omega)).1, (e a (by omega)).2]
    exact h1 a ha
  · rw [upR_n (by omega), (e y (by omega)).1]
    exact ⟨h2, h3⟩
  · rw [upR_1, upR_2, (e (y + 1) (by omega)).1]
    exact ⟨h4, h5⟩
  · by_cases q : j = i
    · subst q
      exact ⟨upR_r, g2.fr (by omega) (fun a a1 a2 => upR_n (by omega)), hfx⟩
    · obtain ⟨k1, k2, k3⟩ := h6 j (by omega)
      refine ⟨?_, k2.fr (by omega) (fun a a1 a2 => ?_), k3.fr (fun a ha => (e _ (by omega)).2)⟩
      · rw [upR_o (Or.inr q), (e (y + 1) (by omega)).1]
        exact k1
      · rw [upR_n (by omega), (e a (by omega)).1]
  · exact g4 a (by omega)
def InH (y : Nat) (sh0 sh : Shp) (I0 I : MI) : Prop := (∀ a, a < y → sh a = sh0 a ∧ I a = I0 a) ∧ IsH (y + 410) sh y ∧ (∀ i, i < 12 → FxS I (y + 2 + 34 * i)) ∧ (I y 1 = 0 ∧ I y 2 = 0) ∧ ∀ a, y + 410 ≤ a → I a = fun _ => 0
def InHP (y : Nat) (sh0 : Shp) (I0 : MI) (L0 : ML) : PoT := fun v z' n' sh' J M => v = none ∧ z' = n' ∧ n' = y + 410 ∧ M = L0 ∧ InH y sh0 sh' I0 J
/-- the letters of a keyword, packed -/
def pkW (i : Nat) : Nat → Int64
  | 0 => 0
  | j + 1 => pkL (pkW i j) (strC i j)
theorem pkW_eq : ∀ i, i < 10 → pkW i (strLen.getD i 0) = wdK9 (kwM i) := by decide +kernel
def InRP (n a : Nat) (sh : Shp) (I : MI) (L : ML) : PoT := fun v z' n' sh' J M => v = none ∧ z' = n' ∧ n' = n + 2 ∧ sh' = upR (upS (upR (upS sh n (100, 900, fun _ => none)) a 0 (some n)) (n + 1) (101, 10, fun _ => none)) a 1 (some (n + 1)) ∧ J = upI (upI I a 3 (-1)) a 4 (-1) ∧ (∀ x, x ≠ n + 1 → M x = L x) ∧ ∀ i, i < 10 → M (n + 1) i = wdK9 (kwM i)
section IniS
variable {y n a : Nat} {sh : Shp} {I : MI} {L : ML}
set_option maxHeartbeats 4000000 in
set_option maxRecDepth 100000 in
theorem sX1_init (hk : (sh y).1 = 1) (hy : y + 410 ≤ 900000) (hF : Fz (y + 1) I L) : CM yX1_init cX1_init 2 (Option.none : Option FieldType) 3 409 5952 [.ref y] (y + 1) (y + 1) sh I L (InHP y sh I L) := by
  refine CM.goI [some (.ref y), none] rfl rfl (Nat.le_of_ble_eq_true rfl) (fun X g q hin => ?_)
  have loop : ∀ i, i ≤ 12 → ∀ (s2 : Shp) (J : MI), Jh y i sh s2 I J → AW X g RX1 cX1_init 2 (3, 409, 5952) (y + 2 + 34 * i, y + 2 + 34 * i, s2, 1 + 34 * i, 12 + 495 * i) J L 15 [some (.ref y), some (.int (nI i))] [] := by
    refine up_loop (fun i hi ih s2 J hJ => ?_)
    have hJ0 := hJ
    obtain ⟨h1, ⟨h2, h3⟩, ⟨h4, h5⟩, h6, h7⟩ := hJ
    refine aw_iload_n dX1_init_15 rfl ?_
    refine aw_bipush (v := 12) dX1_init_16 rfl ?_
    refine aw_icmp_ge (tgt := 40) dX1_init_18 rfl (fun c18 => ?_) (fun c18 => ?_)
    · have e := ge_t (B := 12) rfl (by decide) hi c18
      subst e
      refine aw_aload_n dX1_init_40 rfl ?_
      refine aw_iconst (v := 0) dX1_init_41 rfl ?_
      refine aw_putI dX1_init_42 fX1_18 (a := y) h2 (show y < y + 2 + 34 * 12 by omega) rfl rfl ?_
      refine aw_aload_n dX1_init_45 rfl ?_
      refine aw_iconst (v := 0) dX1_init_46 rfl ?_
      refine aw_putI dX1_init_47 fX1_22 (a := y) h2 (show y < y + 2 + 34 * 12 by omega) rfl rfl ?_
      refine aw_vret q rfl dX1_init_50 ⟨(Nat.le_of_ble_eq_true rfl), (Nat.le_of_ble_eq_true rfl)⟩ ⟨rfl, rfl, rfl, rfl, fun a ha => ⟨(h1 a ha).1, ?_⟩, ⟨Nat.le_refl _, h2, h3, h4, h5, fun i hi => ⟨(h6 i hi).1, (h6 i hi).2.1⟩⟩, fun i hi => (h6 i hi).2.2.fr (fun a ha => ?_), ⟨?_, upI_s⟩, fun a ha => ?_⟩
      · exact (upI_row2 (by omega)).trans ((upI_row2 (by omega)).trans (h1 a ha).2)
      · exact (upI_row2 (by omega)).trans (upI_row2 (by omega))
      · exact (upI_n (Or.inr (by decide))).trans upI_s
      · exact (upI_row2 (by omega)).trans ((upI_row2 (by omega)).trans (h7 a (by omega)))
    · have hlt := ge_f (B := 12) rfl (by decide) hi c18
      refine aw_aload_n dX1_init_21 rfl ?_
      refine aw_getR (b := y + 1) dX1_init_22 fX1_11 h2 (show y < y + 2 + 34 * i by omega) rfl h3 ?_
      refine aw_iload_n dX1_init_25 rfl ?_
      refine an_o (ci := 7) (by decide) dX1_init_26 lX1_9 iX7 (by omega) (h7 _ (by omega)) (hF _ (by omega)).2 ⟨show 1 + 34 * i + 1 ≤ 409 by omega, show 12 + 495 * i + 9 ≤ 5952 by omega⟩ ?_
      refine aw_dup dX1_init_29 rfl ?_
      refine an_k (b := y + 2 + 34 * i) (As := []) dX1_init_30 kX1_17 mX7_init (sX7_init (b := y + 2 + 34 * i) (congrArg Prod.fst upS_s) (by omega) ?_) InSP.to (Nat.le_of_ble_eq_true rfl) (by omega) rfl rfl (Nat.le_of_ble_eq_true rfl) ⟨show 1 + 34 * i + 1 + 33 ≤ 409 by omega, show 12 + 495 * i + 9 + 486 ≤ 5952 by omega⟩ (fun n2 s3 J2 M2 hq => ?_)
      · intro a ha
        exact ⟨h7 a (by omega), (hF a (by omega)).2⟩
      obtain ⟨rfl, rfl, hs⟩ := hq
      refine an_a (a := y + 1) (v := y + 2 + 34 * i) (k := 103) (ci := 7) (i := i) dX1_init_33 ?_ (by decide) (by decide) (fun _ => rfl) (by omega) (by omega) hs.2.1.k rfl ?_ ?_ ?_
      · rw [(hs.1 _ (by omega)).1, upS_n (by omega)]
        exact h4
      · rw [(hs.1 _ (by omega)).1, upS_n (by omega), h5]
        exact hlt
      · rw [(hs.1 _ (by omega)).1, upS_n (by omega), h5]
        decide
      refine aw_iinc dX1_init_34 rfl (ginc rfl) (by decide) rfl ?_
      refine aw_goto (tgt := 15) dX1_init_37 rfl ?_
      refine AW.en (z' := y + 2 + 34 * (i + 1)) (n' := y + 2 + 34 * (i + 1)) (c' := 1 + 34 * (i + 1)) (s' := 12 + 495 * (i + 1)) (by omega) (by omega) (by omega) (by show 12 + 495 * i + 9 + 486 = _; omega) ?_
      exact ih hlt _ _ (hJ0.next hlt hs)
  refine aw_aload_n dX1_init_0 rfl ?_
  refine aw_obj dX1_init_1 oX1_3 (Nat.le_of_ble_eq_true rfl) (Nat.le_of_ble_eq_true rfl) ?_
  refine aw_aload_n dX1_init_4 rfl ?_
  refine aw_bipush (v := 12) dX1_init_5 rfl ?_
  refine an_R (k := 103) (N := 12) (C := "HomesQueue$State") dX1_init_7 lX1_9 (by decide) (fun _ => rfl) aoState rfl (Nat.le_of_ble_eq_true rfl) (by omega) ⟨(Nat.le_of_ble_eq_true rfl), (Nat.le_of_ble_eq_true rfl)⟩ ?_
  refine an_pR dX1_init_10 fX1_11 (a := y) (b := y + 1) ((congrArg Prod.fst (upS_n (by omega))).trans hk) (by omega) (by omega) rfl (fun _ => rfl) (fun _ => rfl) rfl hin rfl ?_
  refine aw_iconst (v := 0) dX1_init_13 rfl ?_
  refine aw_istore_n dX1_init_14 (by decide) rfl ?_
  refine AW.en (z' := y + 2 + 34 * 0) (n' := y + 2 + 34 * 0) (c' := 1 + 34 * 0) (s' := 12 + 495 * 0) rfl rfl rfl rfl ?_
  refine loop 0 (Nat.zero_le _) _ I ⟨fun a ha => ⟨?_, rfl⟩, ⟨?_, upR_r⟩, ⟨?_, ?_⟩, fun j hj => absurd hj (Nat.not_lt_zero j), fun a ha => (hF a (by omega)).1⟩
  · rw [upR_n (by omega), upS_n (by omega)]
  · rw [upR_1, upS_n (by omega)]
    exact hk
  · rw [upR_n (by omega), upS_s]
  · rw [upR_n (by omega), upS_s]
set_option maxHeartbeats 4000000 in
set_option maxRecDepth 100000 in
theorem sX6_init (hk : (sh a).1 = 6) (ha : a < n) (hn : n + 2 ≤ 900000) (hF : Fz n I L) : CM yX6_init cX6_init 6 (Option.none : Option FieldType) 6 2 910 [.ref a] n n sh I L (InRP n a sh I L) := by
  refine CM.goI [some (.ref a), none, none, none, none, none] rfl rfl (Nat.le_of_ble_eq_true rfl) (fun X g q hin => ?_)
  have ka : ((upR (upS (upR (upS sh n (100, 900, fun _ => none)) a 0 (some n)) (n + 1) (101, 10, fun _ => none)) a 1 (some (n + 1))) a).1 = 6 := upR_1.trans ((congrArg Prod.fst (upS_n (by omega))).trans (upR_1.trans ((congrArg Prod.fst (upS_n (by omega))).trans hk)))
  have kr : ((upR (upS (upR (upS sh n (100, 900, fun _ => none)) a 0 (some n)) (n + 1) (101, 10, fun _ => none)) a 1 (some (n + 1))) a).2.2 1 = some (n + 1) := upR_r
  have kk1 : ((upR (upS (upR (upS sh n (100, 900, fun _ => none)) a 0 (some n)) (n + 1) (101, 10, fun _ => none)) a 1 (some (n + 1))) (n + 1)).1 = 101 := upR_1.trans (congrArg Prod.fst upS_s)
  have kk2 : ((upR (upS (upR (upS sh n (100, 900, fun _ => none)) a 0 (some n)) (n + 1) (101, 10, fun _ => none)) a 1 (some (n + 1))) (n + 1)).2.1 = 10 := upR_2.trans (congrArg (fun q => q.2.1) upS_s)
  have loop1 : ∀ i, i ≤ 10 → ∀ (u2 u3 u4 u5 : Option Value) (M : ML), isL u2 = false → isL u4 = false → (∀ x, x ≠ n + 1 → M x = L x) → (∀ j, j < i → M (n + 1) j = wdK9 (kwM j)) → AW X g RX6 cX6_init 6 (6, 2, 910) (n + 2, n + 2, (upR (upS (upR (upS sh n (100, 900, fun _ => none)) a 0 (some n)) (n + 1) (101, 10, fun _ => none)) a 1 (some (n + 1))), 2, 910) I M 23 [some (.ref a), some (.int (nI i)), u2, u3, u4, u5] [] := by
    refine up_loop (fun i hi ih u2 u3 u4 u5 M hu2 hu4 hM1 hM2 => ?_)
    refine aw_iload_n dX6_init_23 rfl ?_
    refine aw_bipush (v := 10) dX6_init_24 rfl ?_
    refine aw_icmp_ge (tgt := 78) dX6_init_26 rfl (fun c26 => ?_) (fun c26 => ?_)
    · have e := ge_t (B := 10) rfl (by decide) hi c26
      subst e
      refine aw_aload_n dX6_init_78 rfl ?_
      refine aw_iconst (v := (-1)) dX6_init_79 rfl ?_
      refine aw_putI dX6_init_80 fX6_37 (a := a) ka (show a < n + 2 by omega) rfl rfl ?_
      refine aw_aload_n dX6_init_83 rfl ?_
      refine aw_iconst (v := (-1)) dX6_init_84 rfl ?_
      refine aw_putI dX6_init_85 fX6_41 (a := a) ka (show a < n + 2 by omega) rfl rfl ?_
      exact aw_vret q rfl dX6_init_88 ⟨(Nat.le_of_ble_eq_true rfl), (Nat.le_of_ble_eq_true rfl)⟩ ⟨rfl, rfl, rfl, rfl, rfl, hM1, hM2⟩
    · have hlt := ge_f (B := 10) rfl (by decide) hi c26
      have hi12 : i < 12 := by omega
      have hL := strL_eq i hi12
      have loop2 : ∀ j, j ≤ strLen.getD i 0 → ∀ (u4 : Option Value), isL u4 = false → AW X g RX6 cX6_init 6 (6, 2, 910) (n + 2, n + 2, (upR (upS (upR (upS sh n (100, 900, fun _ => none)) a 0 (some n)) (n + 1) (101, 10, fun _ => none)) a 1 (some (n + 1))), 2, 910) I M 39 [some (.ref a), some (.int (nI i)), some (.ref (1000100 + i)), some (.long (pkW i j)), u4, some (.int (nI j))] [] := by
        refine up_loop (fun j hj ih2 u4 hu4 => ?_)
        refine aw_iload dX6_init_39 rfl ?_
        refine aw_aload_n dX6_init_41 rfl ?_
        refine aw_cT dX6_init_42 kX6_23 mJ0_length_8abf5 rfl (sJ0_length hi12) (Nat.le_of_ble_eq_true rfl) hi12 rfl rfl (Nat.le_of_ble_eq_true rfl) ⟨(Nat.le_of_ble_eq_true rfl), (Nat.le_of_ble_eq_true rfl)⟩ ?_
        refine aw_icmp_ge (tgt := 65) dX6_init_45 rfl (fun c45 => ?_) (fun c45 => ?_)
        · have e := ge_t rfl (by omega) hj c45
          subst e
          refine aw_aload_n dX6_init_65 rfl ?_
          refine aw_getR (b := n + 1) dX6_init_66 fX6_15 ka (show a < n + 2 by omega) rfl kr ?_
          refine aw_iload_n dX6_init_69 rfl ?_
          refine aw_lload_n dX6_init_70 rfl ?_
          refine aw_lastN (k := i) dX6_init_71 kk1 (show n + 1 < n + 2 by omega) kk2 rfl hlt (by decide) ?_
          refine aw_iinc dX6_init_72 rfl (ginc rfl) (by decide) rfl ?_
          refine aw_goto (tgt := 23) dX6_init_75 rfl ?_
          refine ih hlt _ _ _ _ _ rfl hu4 (fun x hx => (upL_n hx).trans (hM1 x hx)) (fun k hk2 => ?_)
          by_cases e : k = i
          · subst e
            rw [upL_s]
            exact pkW_eq k hlt
          · rw [show upL M (n + 1) i (pkW i (strLen.getD i 0)) (n + 1) k = M (n + 1) k from by unfold upL; rw [if_pos rfl]; exact if_neg e]
            exact hM2 k (by omega)
        · have hlt2 := ge_f rfl (by omega) hj c45
          refine aw_lload_n dX6_init_48 rfl ?_
          refine aw_aload_n dX6_init_49 rfl ?_
          refine aw_iload dX6_init_50 rfl ?_
          refine aw_cT (As := [.int (nI j)]) dX6_init_52 kX6_29 mJ0_charAt_5068e rfl (sJ0_charAt hi12 hlt2) (Nat.le_of_ble_eq_true rfl) hi12 rfl rfl (Nat.le_of_ble_eq_true rfl) ⟨(Nat.le_of_ble_eq_true rfl), (Nat.le_of_ble_eq_true rfl)⟩ ?_
          refine aw_cS (As := [.long (pkW i j), .int (strC i j)]) dX6_init_55 kX6_33 mX6_packLetter sX6_packLetter (Nat.le_of_ble_eq_true rfl) rfl rfl (Nat.le_of_ble_eq_true rfl) ⟨(Nat.le_of_ble_eq_true rfl), (Nat.le_of_ble_eq_true rfl)⟩ ?_
          refine aw_lstore_n dX6_init_58 (by decide) rfl ?_
          refine aw_iinc dX6_init_59 rfl (ginc rfl) (by decide) rfl ?_
          refine aw_goto (tgt := 39) dX6_init_62 rfl ?_
          exact ih2 hlt2 _ rfl
      refine aw_iload_n dX6_init_29 rfl ?_
      refine aw_cSN (As := [.int (nI i)]) dX6_init_30 nkKwR mX10_keyword (sX10_keyword (k := i) hlt) (Nat.le_of_ble_eq_true rfl) rfl rfl (Nat.le_of_ble_eq_true rfl) ⟨(Nat.le_of_ble_eq_true rfl), (Nat.le_of_ble_eq_true rfl)⟩ ?_
      refine aw_astore_n dX6_init_33 (by decide) rfl ?_
      refine aw_lconst (v := 0) dX6_init_34 rfl ?_
      refine aw_lstore_n dX6_init_35 (by decide) rfl ?_
      refine aw_iconst (v := 0) dX6_init_36 rfl ?_
      refine aw_istore dX6_init_37 (by decide) rfl ?_
      exact loop2 0 (Nat.zero_le _) none rfl
  refine aw_aload_n dX6_init_0 rfl ?_
  refine aw_obj dX6_init_1 oX6_3 (Nat.le_of_ble_eq_true rfl) (Nat.le_of_ble_eq_true rfl) ?_
  refine aw_aload_n dX6_init_4 rfl ?_
  refine aw_sipush (v := 900) dX6_init_5 rfl ?_
  refine an_I (N := 900) dX6_init_8 rfl (Nat.le_of_ble_eq_true rfl) (show n < 900000 by omega) (hF _ (by omega)).1 ⟨(Nat.le_of_ble_eq_true rfl), (Nat.le_of_ble_eq_true rfl)⟩ ?_
  refine an_pR dX6_init_10 fX6_9 ((congrArg Prod.fst (upS_n (by omega))).trans hk) (show a < n + 1 by omega) (show n < n + 1 by omega) rfl (fun _ => rfl) (fun _ => rfl) rfl hin rfl ?_
  refine aw_aload_n dX6_init_13 rfl ?_
  refine aw_bipush (v := 10) dX6_init_14 rfl ?_
  refine an_L (N := 10) dX6_init_16 rfl (Nat.le_of_ble_eq_true rfl) (show n + 1 < 900000 by omega) (hF _ (by omega)).2 ⟨(Nat.le_of_ble_eq_true rfl), (Nat.le_of_ble_eq_true rfl)⟩ ?_
  refine an_pR dX6_init_18 fX6_15 ((congrArg Prod.fst (upS_n (by omega))).trans (upR_1.trans ((congrArg Prod.fst (upS_n (by omega))).trans hk))) (show a < n + 2 by omega) (show n + 1 < n + 2 by omega) rfl (fun _ => rfl) (fun _ => rfl) rfl hin rfl ?_
  refine aw_iconst (v := 0) dX6_init_21 rfl ?_
  refine aw_istore_n dX6_init_22 (by decide) rfl ?_
  exact loop1 0 (Nat.zero_le _) none none none none L rfl rfl (fun _ _ => rfl) (fun j hj => absurd hj (Nat.not_lt_zero j))
end IniS
