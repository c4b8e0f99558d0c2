/-! the class: states kept -/
theorem CtS.fr {J K : MI} {M P : ML} {s : Nat} {N : Nat → Int32} {Q : Nat → Int64} (h : CtS J M s N Q) (hN : Cn N) (hj : ∀ a, a < 34 → K (s + a) = J (s + a)) (hm : ∀ a, a < 34 → P (s + a) = M (s + a)) : CtS K P s N Q := by
  have h10 := hN.h10
  have h8 := hN.p8
  have e : ∀ x a, x = s + a → a < 34 → K x = J x := fun x a hx ha => by subst hx; exact hj a ha
  have em : ∀ x a, x = s + a → a < 34 → P x = M x := fun x a hx ha => by subst hx; exact hm a ha
  refine ⟨⟨fun i hi => ?_, fun i hi => ?_, ?_, ?_⟩, fun j hj2 => ?_, fun p hp => ?_, fun k hk => ?_, fun i hi => ?_, fun p hp => ?_⟩
  · rw [e (s + 2 + i) (2 + i) (by omega) (by omega)]
    exact h.1.1 i hi
  · rw [e (s + 13 + 2 * i) (13 + 2 * i) (by omega) (by omega)]
    exact h.1.2.1 i hi
  · rw [e (s + 30) 30 rfl (by omega)]
    exact h.1.2.2.1
  · rw [e (s + 32) 32 rfl (by omega)]
    exact h.1.2.2.2
  · rw [hj _ (lvj_D3 hN hj2).1]
    exact h.2.1 j hj2
  · rw [e (s + 13 + 2 * p) (13 + 2 * p) (by omega) (by omega)]
    exact h.br hp
  · have := h.lt hk
    unfold LtO at this ⊢
    rw [e (s + 31) 31 rfl (by omega)]
    exact this
  · rw [em (s + 2 + i) (2 + i) (by omega) (by omega)]
    exact h.qh hi
  · rw [em (s + 13 + 2 * p) (13 + 2 * p) (by omega) (by omega)]
    exact h.qp hp
theorem FxS.fr {J K : MI} {s : Nat} (h : FxS J s) (hj : ∀ a, a < 34 → K (s + a) = J (s + a)) : FxS K s := by
  have e : ∀ x a, x = s + a → a < 34 → K x = J x := fun x a hx ha => by subst hx; exact hj a ha
  refine ⟨fun i hi => ?_, fun i hi => ?_, ?_, ?_⟩
  · rw [e (s + 2 + i) (2 + i) (by omega) (by omega)]
    exact h.1 i hi
  · rw [e (s + 13 + 2 * i) (13 + 2 * i) (by omega) (by omega)]
    exact h.2.1 i hi
  · rw [e (s + 30) 30 rfl (by omega)]
    exact h.2.2.1
  · rw [e (s + 32) 32 rfl (by omega)]
    exact h.2.2.2
def IsH (n : Nat) (sh : Shp) (y : Nat) : Prop := y + 410 ≤ n ∧ (sh y).1 = 1 ∧ (sh y).2.2 0 = some (y + 1) ∧ (sh (y + 1)).1 = 103 ∧ (sh (y + 1)).2.1 = 12 ∧ ∀ i, i < 12 → (sh (y + 1)).2.2 i = some (y + 2 + 34 * i) ∧ IsS n sh (y + 2 + 34 * i)
theorem IsH.b0 {n y : Nat} {sh : Shp} (h : IsH n sh y) : y < n := by have := h.1; omega
theorem IsH.b1 {n y : Nat} {sh : Shp} (h : IsH n sh y) : y + 1 < n := by have := h.1; omega
def KpP (y t c : Nat) (N : Nat → Int32) (Q : Nat → Int64) (z n : Nat) (sh : Shp) (I : MI) (L : ML) : PoT := fun v z' n' sh' J M => v = none ∧ z' = z ∧ n' = n ∧ sh' = sh ∧ (∀ x, x ≠ y → (x < y + 2 + 34 * t ∨ y + 2 + 34 * t + 34 ≤ x) → J x = I x) ∧ FrL (y + 2 + 34 * t) L M ∧ CtS J M (y + 2 + 34 * t) N Q ∧ J y 1 = nI ((t + 1) % 12) ∧ J y 2 = nI (min (c + 1) 12)
def GbP (y b t c : Nat) (N : Nat → Int32) (Q : Nat → Int64) (z n : Nat) (sh : Shp) (I : MI) (L : ML) : PoT := fun v z' n' sh' J M => v = none ∧ z' = z ∧ n' = n ∧ sh' = sh ∧ (∀ x, x ≠ y → (x < b ∨ b + 34 ≤ x) → J x = I x) ∧ FrL b L M ∧ CtS J M b N Q ∧ J y 1 = nI ((t + 11) % 12) ∧ J y 2 = nI (c - 1)
theorem imin_12 : ∀ c, c ≤ 12 → imin (nI (c + 1)) 12 = nI (min (c + 1) 12) := by decide +kernel
section APut
variable {X : Cx} {g : Gd} {own : String} {cc : ByteArray} {nL : Nat} {Bd : Nat × Nat × Nat} {E : En} {I : MI} {L : ML} {pc : Nat} {Lc : List (Option Value)} {st : List Value}
/-- a call that copies into a state -/
theorem aw_pV {idx ci b s : Nat} {y : MethodName} {cc2 : ByteArray} {nL2 : Nat} {ret2 : Option FieldType} {np d : Nat} {As : List Value} {st0 : List Value} {M : Nat → Int32} {Q : Nat → Int64} (dg : decode cc pc = .ok (.invokevirtual idx, 3)) (hl : Cond.methodLink own idx y ∈ tblG) (hm : mV y cc2 nL2 ret2 np) (hM : CM y cc2 nL2 ret2 d 0 0 (.ref b :: As) E.1 E.2.1 E.2.2.1 I L (CpP s M Q E.1 E.2.1 E.2.2.1 I L))
    (hd : d + 1 ≤ Bd.1) (hk : (E.2.2.1 b).1 = ci) (hci : ci < 12 ∧ clR ci = y.cls) (hb : b < E.2.1) (hst : st0 = As.reverse ++ .ref b :: st) (hn : As.length = np) (hw : (st.map fun v => v.category).sum ≤ 8) (hf : E.2.2.2.1 ≤ Bd.2.1 ∧ E.2.2.2.2 ≤ Bd.2.2)
    (k : ∀ J P, Fr s I J → FrL s L P → CtS J P s M Q → AW X g own cc nL Bd E J P (pc + 3) Lc st) : AW X g own cc nL Bd E I L pc Lc st0 :=
  aw_callV dg hl hm hM hd hk hci hb hst hn hw hf (fun v z n sh I3 L3 q => by
    obtain ⟨h1, h2, h3, h4, h5, h6, h7⟩ := q
    subst h1 h2 h3 h4
    exact k _ _ h5 h6 h7)
theorem aw_kept {y t : Nat} {i : Int32} (hH : IsH E.2.1 E.2.2.1 y) (hi : i = nI t) (ht : t < 12) (d : decode cc pc = .ok (.aaload, 1)) (kk : AW X g own cc nL Bd E I L (pc + 1) Lc (.ref (y + 2 + 34 * t) :: st)) : AW X g own cc nL Bd E I L pc Lc (.int i :: .ref (y + 1) :: st) := by
  subst hi
  exact aw_aald d hH.2.2.2.1 (by decide) rfl hH.b1 (by rw [hH.2.2.2.2.1]; exact vp_in_nI ht (by decide)) (by rw [nI_clamp (by omega)]; exact (hH.2.2.2.2.2 t ht).1) kk
end APut
section ClsS
variable {z n b y t c : Nat} {sh : Shp} {I : MI} {L : ML} {N : Nat → Int32} {Q : Nat → Int64}
set_option maxHeartbeats 4000000 in
set_option maxRecDepth 100000 in
theorem sX1_keep (hH : IsH n sh y) (hS : IsS n sh b) (hd : b + 34 ≤ y ∨ y + 410 ≤ b) (ht : t < 12) (e1 : I y 1 = nI t) (e2 : I y 2 = nI c) (hc : c ≤ 12) (hFx : FxS I (y + 2 + 34 * t)) (hC : CtS I L b N Q) (hN : Cn N)  : CM yX1_keep cX1_keep 2 (Option.none : Option FieldType) 4 0 0 [.ref y, .ref b] z n sh I L (KpP y t c N Q z n sh I L) := by
  refine CM.go [some (.ref y), some (.ref b)] rfl rfl (Nat.le_of_ble_eq_true rfl) (fun X g q => ?_)
  have hHn := hH.1
  refine aw_aload_n dX1_keep_0 rfl ?_
  refine aw_getR (b := y + 1) dX1_keep_1 fX1_11 hH.2.1 hH.b0 rfl hH.2.2.1 ?_
  refine aw_aload_n dX1_keep_4 rfl ?_
  refine aw_getI dX1_keep_5 fX1_18 hH.2.1 hH.b0 rfl ?_
  refine AW.top e1 ?_
  refine aw_kept (t := t) hH rfl (by omega) dX1_keep_8 ?_
  refine aw_aload_n dX1_keep_9 rfl ?_
  refine aw_pV dX1_keep_10 kX1_25 mX7_copy (sX7_copy (hH.2.2.2.2.2 t ht).2 hS (by omega) hFx hC hN) (Nat.le_of_ble_eq_true rfl) (hH.2.2.2.2.2 t (by omega)).2.k ⟨by decide, rfl⟩ (hH.2.2.2.2.2 t (by omega)).2.b0 rfl rfl (Nat.le_of_ble_eq_true rfl) ⟨Nat.le_refl _, Nat.le_refl _⟩ (fun J1 M1 hF1 hG1 hJ1 => ?_)
  
  refine aw_aload_n dX1_keep_13 rfl ?_
  refine aw_aload_n dX1_keep_14 rfl ?_
  refine aw_getI dX1_keep_15 fX1_18 hH.2.1 hH.b0 rfl ?_
  refine AW.top ((congrFun (hF1 _ (by omega)) 1).trans e1) ?_
  refine aw_iconst (v := 1) dX1_keep_18 rfl ?_
  refine aw_iadd dX1_keep_19 ?_
  refine AW.top (y := nI (t + 1)) (nI_1 t) ?_
  refine aw_bipush (v := 12) dX1_keep_20 rfl ?_
  refine aw_icmp_ge (tgt := 34) dX1_keep_22 rfl (fun c22 => ?_) (fun c22 => ?_)
  · have q8 := (nI_leI (a := 12) (b := t + 1) (by decide) (by omega)).mp c22
    refine aw_iconst (v := 0) dX1_keep_34 rfl ?_
    refine AW.top (y := nI ((t + 1) % 12)) (congrArg nI (show 0 = (t + 1) % 12 by omega)) ?_
    refine aw_putI dX1_keep_35 fX1_18 hH.2.1 hH.b0 rfl rfl ?_
    refine aw_aload_n dX1_keep_38 rfl ?_
    refine aw_aload_n dX1_keep_39 rfl ?_
    refine aw_getI dX1_keep_40 fX1_22 hH.2.1 hH.b0 rfl ?_
    refine AW.top ((upI_n (Or.inr (by decide))).trans ((congrFun (hF1 _ (by omega)) 2).trans e2)) ?_
    refine aw_iconst (v := 1) dX1_keep_43 rfl ?_
    refine aw_iadd dX1_keep_44 ?_
    refine AW.top (nI_1 c) ?_
    refine aw_bipush (v := 12) dX1_keep_45 rfl ?_
    refine aw_mmin dX1_keep_47 kX1_29 (Nat.le_of_ble_eq_true rfl) (Nat.le_of_ble_eq_true rfl) ⟨Nat.le_refl _, Nat.le_refl _⟩ ?_
    refine aw_putI dX1_keep_50 fX1_22 hH.2.1 hH.b0 rfl rfl ?_
    refine aw_vret q rfl dX1_keep_53 ⟨Nat.le_refl _, Nat.le_refl _⟩ ?_
    refine ⟨rfl, rfl, rfl, rfl, fun x h1 h2 => ?_, hG1, ?_, ?_, upI_s.trans (imin_12 c hc)⟩
    · exact ((if_neg h1).trans (if_neg h1)).trans (hF1 x h2)
    · exact hJ1.fr hN (fun a ha => (if_neg (by omega)).trans (if_neg (by omega))) (fun a ha => rfl)
    · rw [upI_n (Or.inr (by decide)), upI_s]
  · have q8 := mt (nI_leI (a := 12) (b := t + 1) (by decide) (by omega)).mpr c22
    refine aw_aload_n dX1_keep_25 rfl ?_
    refine aw_getI dX1_keep_26 fX1_18 hH.2.1 hH.b0 rfl ?_
    refine AW.top ((congrFun (hF1 _ (by omega)) 1).trans e1) ?_
    refine aw_iconst (v := 1) dX1_keep_29 rfl ?_
    refine aw_iadd dX1_keep_30 ?_
    refine AW.top (y := nI ((t + 1) % 12)) ((nI_1 t).trans (congrArg nI (by omega))) ?_
    refine aw_goto (tgt := 35) dX1_keep_31 rfl ?_
    refine aw_putI dX1_keep_35 fX1_18 hH.2.1 hH.b0 rfl rfl ?_
    refine aw_aload_n dX1_keep_38 rfl ?_
    refine aw_aload_n dX1_keep_39 rfl ?_
    refine aw_getI dX1_keep_40 fX1_22 hH.2.1 hH.b0 rfl ?_
    refine AW.top ((upI_n (Or.inr (by decide))).trans ((congrFun (hF1 _ (by omega)) 2).trans e2)) ?_
    refine aw_iconst (v := 1) dX1_keep_43 rfl ?_
    refine aw_iadd dX1_keep_44 ?_
    refine AW.top (nI_1 c) ?_
    refine aw_bipush (v := 12) dX1_keep_45 rfl ?_
    refine aw_mmin dX1_keep_47 kX1_29 (Nat.le_of_ble_eq_true rfl) (Nat.le_of_ble_eq_true rfl) ⟨Nat.le_refl _, Nat.le_refl _⟩ ?_
    refine aw_putI dX1_keep_50 fX1_22 hH.2.1 hH.b0 rfl rfl ?_
    refine aw_vret q rfl dX1_keep_53 ⟨Nat.le_refl _, Nat.le_refl _⟩ ?_
    refine ⟨rfl, rfl, rfl, rfl, fun x h1 h2 => ?_, hG1, ?_, ?_, upI_s.trans (imin_12 c hc)⟩
    · exact ((if_neg h1).trans (if_neg h1)).trans (hF1 x h2)
    · exact hJ1.fr hN (fun a ha => (if_neg (by omega)).trans (if_neg (by omega))) (fun a ha => rfl)
    · rw [upI_n (Or.inr (by decide)), upI_s]
set_option maxHeartbeats 4000000 in
set_option maxRecDepth 100000 in
theorem sX1_goBack (hH : IsH n sh y) (hS : IsS n sh b) (hd : b + 34 ≤ y ∨ y + 410 ≤ b) (ht : t < 12) (e1 : I y 1 = nI t) (e2 : I y 2 = nI c) (hc : 1 ≤ c ∧ c ≤ 12) (hFx : FxS I b) (hC : CtS I L (y + 2 + 34 * ((t + 11) % 12)) N Q) (hN : Cn N)  : CM yX1_goBack cX1_goBack 2 (Option.none : Option FieldType) 4 0 0 [.ref y, .ref b] z n sh I L (GbP y b t c N Q z n sh I L) := by
  refine CM.go [some (.ref y), some (.ref b)] rfl rfl (Nat.le_of_ble_eq_true rfl) (fun X g q => ?_)
  have hHn := hH.1
  refine aw_aload_n dX1_goBack_0 rfl ?_
  refine aw_getI dX1_goBack_1 fX1_22 hH.2.1 hH.b0 rfl ?_
  refine AW.top e2 ?_
  refine aw_if_le (tgt := 52) dX1_goBack_4 rfl (fun c4 => ?_) (fun c4 => ?_)
  · exact absurd ((nI_leI (a := c) (b := 0) (by omega) (by decide)).mp c4) (by omega)
  · skip
    refine aw_aload_n dX1_goBack_7 rfl ?_
    refine aw_aload_n dX1_goBack_8 rfl ?_
    refine aw_getI dX1_goBack_9 fX1_18 hH.2.1 hH.b0 rfl ?_
    refine AW.top e1 ?_
    refine aw_if_le (tgt := 24) dX1_goBack_12 rfl (fun c12 => ?_) (fun c12 => ?_)
    · have q8 := (nI_leI (a := t) (b := 0) (by omega) (by decide)).mp c12
      refine aw_bipush (v := 11) dX1_goBack_24 rfl ?_
      refine AW.top (y := nI ((t + 11) % 12)) (congrArg nI (show 11 = (t + 11) % 12 by omega)) ?_
      refine aw_putI dX1_goBack_26 fX1_18 hH.2.1 hH.b0 rfl rfl ?_
      refine aw_aload_n dX1_goBack_29 rfl ?_
      refine aw_dup dX1_goBack_30 rfl ?_
      refine aw_getI dX1_goBack_31 fX1_22 hH.2.1 hH.b0 rfl ?_
      refine AW.top ((upI_n (Or.inr (by decide))).trans e2) ?_
      refine aw_iconst (v := 1) dX1_goBack_34 rfl ?_
      refine aw_isub dX1_goBack_35 ?_
      refine AW.top (y := nI (c - 1)) (by rw [show c = (c - 1) + 1 by omega]; exact (nI_pred (c - 1)).trans (congrArg nI (by omega))) ?_
      refine aw_putI dX1_goBack_36 fX1_22 hH.2.1 hH.b0 rfl rfl ?_
      refine aw_aload_n dX1_goBack_39 rfl ?_
      refine aw_aload_n dX1_goBack_40 rfl ?_
      refine aw_getR (b := y + 1) dX1_goBack_41 fX1_11 hH.2.1 hH.b0 rfl hH.2.2.1 ?_
      refine aw_aload_n dX1_goBack_44 rfl ?_
      refine aw_getI dX1_goBack_45 fX1_18 hH.2.1 hH.b0 rfl ?_
      refine AW.top ((upI_n (Or.inr (by decide))).trans upI_s) ?_
      refine aw_kept (t := ((t + 11) % 12)) hH rfl (by omega) dX1_goBack_48 ?_
      refine aw_pV dX1_goBack_49 kX1_25 mX7_copy (sX7_copy hS (hH.2.2.2.2.2 ((t + 11) % 12) (by omega)).2 (by omega) (hFx.fr (fun a ha => (if_neg (by omega)).trans (if_neg (by omega)))) (hC.fr hN (fun a ha => (if_neg (by omega)).trans (if_neg (by omega))) (fun a ha => rfl)) hN) (Nat.le_of_ble_eq_true rfl) hS.k ⟨by decide, rfl⟩ hS.b0 rfl rfl (Nat.le_of_ble_eq_true rfl) ⟨Nat.le_refl _, Nat.le_refl _⟩ (fun J1 M1 hF1 hG1 hJ1 => ?_)
      
      refine aw_vret q rfl dX1_goBack_52 ⟨Nat.le_refl _, Nat.le_refl _⟩ ?_
      refine ⟨rfl, rfl, rfl, rfl, fun x h1 h2 => ?_, hG1, hJ1, ?_, ?_⟩
      · exact (hF1 x h2).trans ((if_neg h1).trans (if_neg h1))
      · rw [congrFun (hF1 y (by omega)) 1, upI_n (Or.inr (by decide)), upI_s]
      · rw [congrFun (hF1 y (by omega)) 2, upI_s]
    · have q8 := mt (nI_leI (a := t) (b := 0) (by omega) (by decide)).mpr c12
      refine aw_aload_n dX1_goBack_15 rfl ?_
      refine aw_getI dX1_goBack_16 fX1_18 hH.2.1 hH.b0 rfl ?_
      refine AW.top e1 ?_
      refine aw_iconst (v := 1) dX1_goBack_19 rfl ?_
      refine aw_isub dX1_goBack_20 ?_
      refine AW.top (y := nI ((t + 11) % 12)) (by rw [show t = (t - 1) + 1 by omega]; exact (nI_pred (t - 1)).trans (congrArg nI (by omega))) ?_
      refine aw_goto (tgt := 26) dX1_goBack_21 rfl ?_
      refine aw_putI dX1_goBack_26 fX1_18 hH.2.1 hH.b0 rfl rfl ?_
      refine aw_aload_n dX1_goBack_29 rfl ?_
      refine aw_dup dX1_goBack_30 rfl ?_
      refine aw_getI dX1_goBack_31 fX1_22 hH.2.1 hH.b0 rfl ?_
      refine AW.top ((upI_n (Or.inr (by decide))).trans e2) ?_
      refine aw_iconst (v := 1) dX1_goBack_34 rfl ?_
      refine aw_isub dX1_goBack_35 ?_
      refine AW.top (y := nI (c - 1)) (by rw [show c = (c - 1) + 1 by omega]; exact (nI_pred (c - 1)).trans (congrArg nI (by omega))) ?_
      refine aw_putI dX1_goBack_36 fX1_22 hH.2.1 hH.b0 rfl rfl ?_
      refine aw_aload_n dX1_goBack_39 rfl ?_
      refine aw_aload_n dX1_goBack_40 rfl ?_
      refine aw_getR (b := y + 1) dX1_goBack_41 fX1_11 hH.2.1 hH.b0 rfl hH.2.2.1 ?_
      refine aw_aload_n dX1_goBack_44 rfl ?_
      refine aw_getI dX1_goBack_45 fX1_18 hH.2.1 hH.b0 rfl ?_
      refine AW.top ((upI_n (Or.inr (by decide))).trans upI_s) ?_
      refine aw_kept (t := ((t + 11) % 12)) hH rfl (by omega) dX1_goBack_48 ?_
      refine aw_pV dX1_goBack_49 kX1_25 mX7_copy (sX7_copy hS (hH.2.2.2.2.2 ((t + 11) % 12) (by omega)).2 (by omega) (hFx.fr (fun a ha => (if_neg (by omega)).trans (if_neg (by omega)))) (hC.fr hN (fun a ha => (if_neg (by omega)).trans (if_neg (by omega))) (fun a ha => rfl)) hN) (Nat.le_of_ble_eq_true rfl) hS.k ⟨by decide, rfl⟩ hS.b0 rfl rfl (Nat.le_of_ble_eq_true rfl) ⟨Nat.le_refl _, Nat.le_refl _⟩ (fun J1 M1 hF1 hG1 hJ1 => ?_)
      
      refine aw_vret q rfl dX1_goBack_52 ⟨Nat.le_refl _, Nat.le_refl _⟩ ?_
      refine ⟨rfl, rfl, rfl, rfl, fun x h1 h2 => ?_, hG1, hJ1, ?_, ?_⟩
      · exact (hF1 x h2).trans ((if_neg h1).trans (if_neg h1))
      · rw [congrFun (hF1 y (by omega)) 1, upI_n (Or.inr (by decide)), upI_s]
      · rw [congrFun (hF1 y (by omega)) 2, upI_s]
end ClsS
