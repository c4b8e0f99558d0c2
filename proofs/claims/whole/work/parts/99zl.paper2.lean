/-! the class: OUT, homes and houses -/
def NmA (N : Nat → Int32) (Q : Nat → Int64) : Prop := (∀ h, h < nHo N → NmO (Q h)) ∧ ∀ p, p < nPo N → NmO (Q (10 + p))
theorem CtS.pap {I J : MI} {L : ML} {N : Nat → Int32} {Q : Nat → Int64} (h : CtS I L 1 N Q) (hN : Cn N) (hF : PcF I J) : CtS J L 1 N Q := h.fr hN (fun a ha => hF _ (by omega) (by omega)) (fun _ _ => rfl)
theorem nm_len {w : Int64} (hw : NmO w) : (nmt w).length ≤ 9 := by
  have h0 : ∀ i, (lcat (wpc w) (i + 1)).length ≤ i := by
    intro i
    induction i with
    | zero =>
      show (lcat (wpc w) 0 ++ wpc w 0).length ≤ 0
      rw [nm_top hw]
      exact Nat.le_refl _
    | succ i ih2 =>
      show (lcat (wpc w) (i + 1) ++ wpc w (i + 1)).length ≤ _
      have := wpc_len w (i + 1)
      rw [List.length_append]
      omega
  have h9 : (lcat (wpc w) 9).length ≤ 8 := h0 8
  unfold nmt wtx
  rw [List.length_append]
  show 1 + _ ≤ _
  omega
theorem nt_len {v : Nat} (hv : v ≤ 9) : (ntx (nI v)).length ≤ 2 := by
  unfold ntx
  rw [if_neg (fun q => by have := (nI_ltI (a := 99) (b := v) (by decide) (by omega)).mp q; omega), if_neg (fun q => by have := (nI_ltI (a := 9) (b := v) (by decide) (by omega)).mp q; omega)]
  exact Nat.le_refl _
theorem strl0 : (strT 0).length = 4 := rfl
theorem strl1 : (strT 1).length = 5 := rfl
theorem strl2 : (strT 2).length = 4 := rfl
theorem strl3 : (strT 3).length = 2 := rfl
theorem strlk : ∀ k, k < 6 → (strT (4 + k)).length ≤ 6 := by decide
section ClsS
variable {z n : Nat} {sh : Shp} {I : MI} {L : ML} {N : Nat → Int32} {Q : Nat → Int64}
set_option maxHeartbeats 4000000 in
set_option maxRecDepth 100000 in
theorem sX5_isTold (hX : IsX n sh) (hC : CtS I L 1 N Q) (hIv : Iv N) {h : Nat} (hh : h < nHo N)  : CM yX5_isTold cX5_isTold 3 (Option.some .boolean) 2 0 0 [.ref 1, .ref (1 + 2 + h)] z n sh I L (Pst (some (.int (bI (mTold N h)))) z n sh I L) := by
  refine CM.go [some (.ref 1), some (.ref (1 + 2 + h)), none] rfl rfl (Nat.le_of_ble_eq_true rfl) (fun X g q => ?_)
  have hO := hIv.ok
  have hN := hO.1
  have h8 := hN.p8
  have h10 := hN.h10
  have hS := hX.now
  rcases hIv.co.2.1 h hh with t9 | ⟨p, hp, t9, -⟩
  · refine aw_aload_n dX5_isTold_0 rfl ?_
    refine aw_aload_n dX5_isTold_1 rfl ?_
    refine aw_getI dX5_isTold_2 fX5_123 (hS.ho (by omega)) (hS.hb (by omega)) rfl ?_
    refine AW.top (hC.hf h10 (h := h) (w := 2) (by omega) (by decide)) ?_
    refine AW.top t9 ?_
    refine aw_cV dX5_isTold_5 kX5_126 mX7_houseAt (sX7_houseAtN hS hC hO from_m1) (Nat.le_of_ble_eq_true rfl) hS.k ⟨by decide, rfl⟩ hS.b0 rfl rfl (Nat.le_of_ble_eq_true rfl) ⟨Nat.le_refl _, Nat.le_refl _⟩ ?_
    refine aw_astore_nN dX5_isTold_8 (by decide) rfl ?_
    refine aw_aload_n dX5_isTold_9 rfl ?_
    refine aw_getI dX5_isTold_10 fX5_130 (hS.ho (by omega)) (hS.hb (by omega)) rfl ?_
    refine AW.top (hC.hf h10 (h := h) (w := 6) (by omega) (by decide)) ?_
    refine aw_if_ne (tgt := 31) dX5_isTold_13 rfl (fun c13 => ?_) (fun c13 => ?_)
    · have c13 : ¬ N (8 * h + 6) = 0 := c13
      refine aw_iconst (v := 0) dX5_isTold_31 rfl ?_
      refine aw_zret q rfl (Or.inl rfl) dX5_isTold_32 ⟨Nat.le_refl _, Nat.le_refl _⟩ ?_
      refine Pst.iv ?_
      have e : mTold N h = false := by
        unfold mTold
        simp [mIn, c13, t9]
      rw [e]
      rfl
    · have c13 : N (8 * h + 6) = 0 := c13
      refine aw_aload_nN dX5_isTold_16 rfl ?_
      refine aw_ifnullN (tgt := 27) dX5_isTold_17 rfl ?_
      refine aw_iconst (v := 1) dX5_isTold_27 rfl ?_
      refine aw_goto (tgt := 32) dX5_isTold_28 rfl ?_
      refine aw_zret q rfl (Or.inr rfl) dX5_isTold_32 ⟨Nat.le_refl _, Nat.le_refl _⟩ ?_
      refine Pst.iv ?_
      have e : mTold N h = true := by
        unfold mTold
        simp [mIn, c13, t9]
      rw [e]
      rfl
  · have e9 : (nI p).toNatClampNeg = p := nI_clamp (by omega)
    have n9 : ¬ nI p = -1 := nI_ne_m1 (by omega)
    refine aw_aload_n dX5_isTold_0 rfl ?_
    refine aw_aload_n dX5_isTold_1 rfl ?_
    refine aw_getI dX5_isTold_2 fX5_123 (hS.ho (by omega)) (hS.hb (by omega)) rfl ?_
    refine AW.top (hC.hf h10 (h := h) (w := 2) (by omega) (by decide)) ?_
    refine AW.top t9 ?_
    refine aw_cV dX5_isTold_5 kX5_126 mX7_houseAt (sX7_houseAt (p := p) hS hC hO rfl hp) (Nat.le_of_ble_eq_true rfl) hS.k ⟨by decide, rfl⟩ hS.b0 rfl rfl (Nat.le_of_ble_eq_true rfl) ⟨Nat.le_refl _, Nat.le_refl _⟩ ?_
    refine aw_astore_n dX5_isTold_8 (by decide) rfl ?_
    refine aw_aload_n dX5_isTold_9 rfl ?_
    refine aw_getI dX5_isTold_10 fX5_130 (hS.ho (by omega)) (hS.hb (by omega)) rfl ?_
    refine AW.top (hC.hf h10 (h := h) (w := 6) (by omega) (by decide)) ?_
    refine aw_if_ne (tgt := 31) dX5_isTold_13 rfl (fun c13 => ?_) (fun c13 => ?_)
    · have c13 : ¬ N (8 * h + 6) = 0 := c13
      refine aw_iconst (v := 0) dX5_isTold_31 rfl ?_
      refine aw_zret q rfl (Or.inl rfl) dX5_isTold_32 ⟨Nat.le_refl _, Nat.le_refl _⟩ ?_
      refine Pst.iv ?_
      have e : mTold N h = false := by
        unfold mTold
        simp [mIn, c13, t9, e9, n9]
      rw [e]
      rfl
    · have c13 : N (8 * h + 6) = 0 := c13
      refine aw_aload_n dX5_isTold_16 rfl ?_
      refine aw_ifnull dX5_isTold_17 ?_
      refine aw_aload_n dX5_isTold_20 rfl ?_
      refine aw_getI dX5_isTold_21 fX5_66 (hS.po (by omega)) (hS.pb (by omega)) rfl ?_
      refine AW.top (hC.pf h8 (p := p) (w := 8) (by omega) (by decide) (by decide) (by decide)) ?_
      refine aw_if_ne (tgt := 31) dX5_isTold_24 rfl (fun c24 => ?_) (fun c24 => ?_)
      · refine aw_iconst (v := 0) dX5_isTold_31 rfl ?_
        refine aw_zret q rfl (Or.inl rfl) dX5_isTold_32 ⟨Nat.le_refl _, Nat.le_refl _⟩ ?_
        refine Pst.iv ?_
        have e : mTold N h = false := by
          unfold mTold
          simp [mIn, c13, t9, e9, n9, c24]
        rw [e]
        rfl
      · refine aw_iconst (v := 1) dX5_isTold_27 rfl ?_
        refine aw_goto (tgt := 32) dX5_isTold_28 rfl ?_
        refine aw_zret q rfl (Or.inr rfl) dX5_isTold_32 ⟨Nat.le_refl _, Nat.le_refl _⟩ ?_
        refine Pst.iv ?_
        have e : mTold N h = true := by
          unfold mTold
          simp [mIn, c13, t9, e9, n9, c24]
        rw [e]
        rfl
set_option maxHeartbeats 4000000 in
set_option maxRecDepth 100000 in
theorem sX5_writeHome (hX : IsX n sh) {B : List Int32} (hB : Prc I B) (hC : CtS I L 1 N Q) (hIv : Iv N) (hQ : NmA N Q) {h : Nat} (hh : h < nHo N) (hl : B.length + 30 ≤ 1024)  : CM yX5_writeHome cX5_writeHome 2 (Option.none : Option FieldType) 7 0 0 [.ref 482, .ref (1 + 2 + h)] z n sh I L (Ef none (fun J => PcF I J ∧ Prc J (B ++ txHome N Q h)) z n sh L) := by
  refine CM.go [some (.ref 482), some (.ref (1 + 2 + h))] rfl rfl (Nat.le_of_ble_eq_true rfl) (fun X g q => ?_)
  have hO := hIv.ok
  have hN := hO.1
  have h8 := hN.p8
  have h10 := hN.h10
  have hS := hX.now
  obtain ⟨⟨v0, e0, a0, b0⟩, ⟨v1, e1, a1, b1⟩⟩ := hO.2.1.2.1 h hh
  have hn := hQ.1 h hh
  have ln := nm_len hn
  have l0 := nt_len (v := v0) (by omega)
  have l1 := nt_len (v := v1) (by omega)
  refine aw_aload_n dX5_writeHome_0 rfl ?_
  refine aw_ldcS (i := 0) (tx := "home") (List.mem_of_getElem? (i := 14) rfl) dX5_writeHome_1 ?_
  refine aw_eV dX5_writeHome_3 kX5_21 mX5_putText (sX5_putText (i := 0) hX hB (by decide) (by omega)) (Nat.le_of_ble_eq_true rfl) hX.pap.1 ⟨by decide, rfl⟩ (hX.lt (by decide)) rfl rfl (Nat.le_of_ble_eq_true rfl) ⟨Nat.le_refl _, Nat.le_refl _⟩ (fun J1 hq1 => ?_)
  have hC1 := hC.pap hN hq1.1
  refine aw_aload_n dX5_writeHome_6 rfl ?_
  refine aw_aload_n dX5_writeHome_7 rfl ?_
  refine aw_getL dX5_writeHome_8 fX5_78 (hS.ho (by omega)) (hS.hb (by omega)) rfl ?_
  refine AW.topL (hC1.qh (by omega)) ?_
  refine aw_eV dX5_writeHome_11 kX5_84 mX5_putName (sX5_putName hX hq1.2 hn (by simp only [List.length_append, List.length_singleton, strl0]; omega)) (Nat.le_of_ble_eq_true rfl) hX.pap.1 ⟨by decide, rfl⟩ (hX.lt (by decide)) rfl rfl (Nat.le_of_ble_eq_true rfl) ⟨Nat.le_refl _, Nat.le_refl _⟩ (fun J2 hq2 => ?_)
  have hC2 := hC1.pap hN hq2.1
  refine aw_aload_n dX5_writeHome_14 rfl ?_
  refine aw_aload_n dX5_writeHome_15 rfl ?_
  refine aw_getI dX5_writeHome_16 fX5_88 (hS.ho (by omega)) (hS.hb (by omega)) rfl ?_
  refine AW.top (hC2.hf h10 (h := h) (w := 0) (by omega) (by decide)) ?_
  refine AW.top e0 ?_
  refine aw_eV dX5_writeHome_19 kX5_41 mX5_putNumber (sX5_putNumber (v := v0) hX hq2.2 (by omega) (by simp only [List.length_append, List.length_singleton, strl0]; omega)) (Nat.le_of_ble_eq_true rfl) hX.pap.1 ⟨by decide, rfl⟩ (hX.lt (by decide)) rfl rfl (Nat.le_of_ble_eq_true rfl) ⟨Nat.le_refl _, Nat.le_refl _⟩ (fun J3 hq3 => ?_)
  have hC3 := hC2.pap hN hq3.1
  refine aw_aload_n dX5_writeHome_22 rfl ?_
  refine aw_aload_n dX5_writeHome_23 rfl ?_
  refine aw_getI dX5_writeHome_24 fX5_91 (hS.ho (by omega)) (hS.hb (by omega)) rfl ?_
  refine AW.top (hC3.hf h10 (h := h) (w := 1) (by omega) (by decide)) ?_
  refine AW.top e1 ?_
  refine aw_eV dX5_writeHome_27 kX5_41 mX5_putNumber (sX5_putNumber (v := v1) hX hq3.2 (by omega) (by simp only [List.length_append, List.length_singleton, strl0]; omega)) (Nat.le_of_ble_eq_true rfl) hX.pap.1 ⟨by decide, rfl⟩ (hX.lt (by decide)) rfl rfl (Nat.le_of_ble_eq_true rfl) ⟨Nat.le_refl _, Nat.le_refl _⟩ (fun J4 hq4 => ?_)
  have hC4 := hC3.pap hN hq4.1
  refine aw_aload_n dX5_writeHome_30 rfl ?_
  refine aw_bipush (v := 59) dX5_writeHome_31 rfl ?_
  refine aw_eV dX5_writeHome_33 kX5_25 mX5_put (sX5_put hX hq4.2 (by simp only [List.length_append, List.length_singleton, strl0]; omega)) (Nat.le_of_ble_eq_true rfl) hX.pap.1 ⟨by decide, rfl⟩ (hX.lt (by decide)) rfl rfl (Nat.le_of_ble_eq_true rfl) ⟨Nat.le_refl _, Nat.le_refl _⟩ (fun J5 hq5 => ?_)
  have hC5 := hC4.pap hN hq5.1
  refine aw_vret q rfl dX5_writeHome_36 ⟨Nat.le_refl _, Nat.le_refl _⟩ ?_
  refine ⟨rfl, rfl, rfl, rfl, rfl, (((hq1.1.tr hq2.1).tr hq3.1).tr hq4.1).tr hq5.1, ?_⟩
  have e : B ++ txHome N Q h = B ++ strT 0 ++ nmt (Q h) ++ ntx (nI v0) ++ ntx (nI v1) ++ [59] := by
    unfold txHome
    rw [e0, e1, show wtx (wdK9 6) = strT 0 from (str_kw 0 (by decide)).symm]
    simp only [List.append_assoc]
  rw [e]
  exact hq5.2
set_option maxHeartbeats 4000000 in
set_option maxRecDepth 100000 in
theorem sX5_writeHouse (hX : IsX n sh) {B : List Int32} (hB : Prc I B) (hC : CtS I L 1 N Q) (hIv : Iv N) (hQ : NmA N Q) {p : Nat} (hp : p < nPo N) (hl : B.length + 91 ≤ 1024) : CM yX5_writeHouse cX5_writeHouse 6 (Option.none : Option FieldType) 7 0 0 [.ref 482, .ref 1, .ref (1 + 13 + 2 * p)] z n sh I L (Ef none (fun J => PcF I J ∧ Prc J (B ++ txHouse N Q p)) z n sh L) := by
  refine CM.go [some (.ref 482), some (.ref 1), some (.ref (1 + 13 + 2 * p)), none, none, none] rfl rfl (Nat.le_of_ble_eq_true rfl) (fun X g q => ?_)
  have hO := hIv.ok
  have hN := hO.1
  have h8 := hN.p8
  have h10 := hN.h10
  have hS := hX.now
  obtain ⟨⟨v0, e0, a0, b0⟩, ⟨v1, e1, a1, b1⟩, ⟨v2, e2, a2, b2⟩, ⟨v3, e3, a3, b3⟩⟩ := hO.2.1.1 p hp
  have hn := hQ.2 p hp
  have ln := nm_len hn
  have l0 := nt_len (v := v0) (by omega)
  have l1 := nt_len (v := v1) (by omega)
  have l2 := nt_len (v := v2) (by omega)
  have l3 := ntx_len (nI v3)
  have w6 := hN.w6 (show p < 8 by omega)
  obtain ⟨B4, hB4⟩ : ∃ B4, B4 = B ++ strT 1 ++ nmt (Q (10 + p)) ++ ntx (nI v0) ++ ntx (nI v1) ++ ntx (nI v2) ++ ntx (nI v3) := ⟨_, rfl⟩
  have l4 : B4.length ≤ B.length + 24 := by
    rw [hB4]
    simp only [List.length_append, strl1]
    omega
  obtain ⟨A, hA⟩ : ∃ A, A = (if mLives N p then [32] ++ wtx (wdK9 9) ++ nmt (Q (nHm N p)) else []) := ⟨_, rfl⟩
  obtain ⟨P, hPP⟩ : ∃ P : Nat → List Int32, P = fun k => if mTold N (wiN N p k) then nmt (Q (wiN N p k)) else [] := ⟨_, rfl⟩
  have hPl : ∀ k, k ≤ nWi N p → (lcat P k).length ≤ 9 * k := by
    intro k
    induction k with
    | zero => intro _; exact Nat.le_refl _
    | succ k ih =>
      intro hk
      have h1 := ih (by omega)
      obtain ⟨h, hh, t9⟩ := hIv.co.2.2 p hp k (by omega)
      have e9 : wiN N p k = h := by
        unfold wiN
        rw [t9]
        exact nI_clamp (by omega)
      have h2 : (P k).length ≤ 9 := by
        rw [hPP]
        show (if mTold N (wiN N p k) then nmt (Q (wiN N p k)) else []).length ≤ 9
        split
        · rw [e9]
          exact nm_len (hQ.1 h hh)
        · exact Nat.zero_le _
      show (lcat P k ++ P k).length ≤ _
      rw [List.length_append]
      omega
  have hAll : B ++ txHouse N Q p = B4 ++ A ++ lcat P (nWi N p) ++ [59] := by
    unfold txHouse
    rw [hB4, hA, hPP, show wtx (wdK9 7) = strT 1 from (str_kw 1 (by decide)).symm]
    have e4 : lcat (fun k => ntx (N (80 + 18 * p + k))) 4 = ntx (nI v0) ++ ntx (nI v1) ++ ntx (nI v2) ++ ntx (nI v3) := by
      rw [← e0, ← e1, ← e2, ← e3]
      rfl
    rw [e4]
    simp only [List.append_assoc]
  have loop : ∀ k, k ≤ nWi N p → ∀ (u3 u5 : Option Value) (J : MI), isL u3 = false → A.length ≤ 12 → PcF I J → Prc J (B4 ++ A ++ lcat P k) → AW X g RX5 cX5_writeHouse 6 (7, 0, 0) (z, n, sh, 0, 0) (J) (L) 90 [some (.ref 482), some (.ref 1), some (.ref (1 + 13 + 2 * p)), u3, some (.int (nI k)), u5] [] := by
    refine up_loop (fun k hk ih u3 u5 J hu3 hAl hF hBk => ?_)
    have hCk := hC.pap hN hF
    have hPk := hPl k hk
    refine aw_iload dX5_writeHouse_90 rfl ?_
    refine aw_aload_n dX5_writeHouse_92 rfl ?_
    refine aw_getI dX5_writeHouse_93 fX5_117 (hS.po (by omega)) (hS.pb (by omega)) rfl ?_
    refine AW.top ((hCk.pf h8 (p := p) (w := 11) (by omega) (by decide) (by decide) (by decide)).trans (hN.w (by omega))) ?_
    refine aw_icmp_ge (tgt := 140) dX5_writeHouse_96 rfl (fun c96 => ?_) (fun c96 => ?_)
    · have e := ge_t rfl (by omega) hk c96
      subst e
      refine aw_aload_n dX5_writeHouse_140 rfl ?_
      refine aw_bipush (v := 59) dX5_writeHouse_141 rfl ?_
      refine aw_eV dX5_writeHouse_143 kX5_25 mX5_put (sX5_put hX hBk (by simp only [List.length_append]; omega)) (Nat.le_of_ble_eq_true rfl) hX.pap.1 ⟨by decide, rfl⟩ (hX.lt (by decide)) rfl rfl (Nat.le_of_ble_eq_true rfl) ⟨Nat.le_refl _, Nat.le_refl _⟩ (fun J3 hq3 => ?_)
      refine aw_vret q rfl dX5_writeHouse_146 ⟨Nat.le_refl _, Nat.le_refl _⟩ ?_
      refine ⟨rfl, rfl, rfl, rfl, rfl, hF.tr hq3.1, ?_⟩
      rw [hAll]
      exact hq3.2
    · have hlt := ge_f rfl (by omega) hk c96
      obtain ⟨h, hh, t9⟩ := hIv.co.2.2 p hp k hlt
      have e9 : wiN N p k = h := by
        unfold wiN
        rw [t9]
        exact nI_clamp (by omega)
      have ePk : P k = if mTold N h then nmt (Q h) else [] := by
        rw [hPP, ← e9]
      have hPk1 : lcat P (k + 1) = lcat P k ++ P k := rfl
      refine aw_aload_n dX5_writeHouse_99 rfl ?_
      refine aw_aload_n dX5_writeHouse_100 rfl ?_
      refine aw_iload dX5_writeHouse_101 rfl ?_
      refine aw_cV dX5_writeHouse_103 kX5_120 mX3_wishAt (sX3_wishAt (k := k) hS hCk hN hp rfl hlt) (Nat.le_of_ble_eq_true rfl) (hS.po (by omega)) ⟨by decide, rfl⟩ (hS.pb (by omega)) rfl rfl (Nat.le_of_ble_eq_true rfl) ⟨Nat.le_refl _, Nat.le_refl _⟩ ?_
      refine AW.top t9 ?_
      refine aw_cV dX5_writeHouse_106 kX5_111 mX7_homeAt (sX7_homeAt (h := h) hS hCk hO rfl hh) (Nat.le_of_ble_eq_true rfl) hS.k ⟨by decide, rfl⟩ hS.b0 rfl rfl (Nat.le_of_ble_eq_true rfl) ⟨Nat.le_refl _, Nat.le_refl _⟩ ?_
      refine aw_astore dX5_writeHouse_109 (by decide) rfl ?_
      refine aw_aload dX5_writeHouse_111 rfl ?_
      refine aw_ifnull dX5_writeHouse_113 ?_
      refine aw_aload_n dX5_writeHouse_116 rfl ?_
      refine aw_aload dX5_writeHouse_117 rfl ?_
      refine aw_cS dX5_writeHouse_119 kX5_51 mX5_isTold (sX5_isTold hX hCk hIv hh) (Nat.le_of_ble_eq_true rfl) rfl rfl (Nat.le_of_ble_eq_true rfl) ⟨Nat.le_refl _, Nat.le_refl _⟩ ?_
      refine aw_if_eq (tgt := 134) dX5_writeHouse_122 rfl (fun c122 => ?_) (fun c122 => ?_)
      · have f9 := bI0.mp c122
        refine aw_iinc dX5_writeHouse_134 rfl (ginc rfl) (by decide) (by show (!isL u3) = true; rw [hu3]; rfl) ?_
        refine aw_goto (tgt := 90) dX5_writeHouse_137 rfl ?_
        refine ih hlt _ _ J hu3 hAl hF ?_
        rw [hPk1, ePk, f9]
        exact (List.append_nil (lcat P k)).symm ▸ hBk
      · have f9 := bI1.mp c122
        have lq := nm_len (hQ.1 h hh)
        refine aw_aload_n dX5_writeHouse_125 rfl ?_
        refine aw_aload dX5_writeHouse_126 rfl ?_
        refine aw_getL dX5_writeHouse_128 fX5_78 (hS.ho (by omega)) (hS.hb (by omega)) rfl ?_
        refine AW.topL (hCk.qh (by omega)) ?_
        refine aw_eV dX5_writeHouse_131 kX5_84 mX5_putName (sX5_putName hX hBk (hQ.1 h hh) (by simp only [List.length_append]; omega)) (Nat.le_of_ble_eq_true rfl) hX.pap.1 ⟨by decide, rfl⟩ (hX.lt (by decide)) rfl rfl (Nat.le_of_ble_eq_true rfl) ⟨Nat.le_refl _, Nat.le_refl _⟩ (fun J2 hq2 => ?_)
        refine aw_iinc dX5_writeHouse_134 rfl (ginc rfl) (by decide) (by show (!isL u3) = true; rw [hu3]; rfl) ?_
        refine aw_goto (tgt := 90) dX5_writeHouse_137 rfl ?_
        refine ih hlt _ _ J2 hu3 hAl (hF.tr hq2.1) ?_
        rw [hPk1, ePk, f9, ← List.append_assoc]
        exact hq2.2
  have tail : ∀ (u3 : Option Value) (J : MI), isL u3 = false → A.length ≤ 12 → PcF I J → Prc J (B4 ++ A) → AW X g RX5 cX5_writeHouse 6 (7, 0, 0) (z, n, sh, 0, 0) (J) (L) 87 [some (.ref 482), some (.ref 1), some (.ref (1 + 13 + 2 * p)), u3, none, none] [] := by
    intro u3 J hu3 hAl hF hBA
    refine aw_iconst (v := 0) dX5_writeHouse_87 rfl ?_
    refine aw_istore dX5_writeHouse_88 (by decide) (by show (!isL u3) = true; rw [hu3]; rfl) ?_
    refine loop 0 (Nat.zero_le _) _ _ J hu3 hAl hF ?_
    exact (List.append_nil (B4 ++ A)).symm ▸ hBA
  refine aw_aload_n dX5_writeHouse_0 rfl ?_
  refine aw_ldcS (i := 1) (tx := "house") (List.mem_of_getElem? (i := 15) rfl) dX5_writeHouse_1 ?_
  refine aw_eV dX5_writeHouse_3 kX5_21 mX5_putText (sX5_putText (i := 1) hX hB (by decide) (by omega)) (Nat.le_of_ble_eq_true rfl) hX.pap.1 ⟨by decide, rfl⟩ (hX.lt (by decide)) rfl rfl (Nat.le_of_ble_eq_true rfl) ⟨Nat.le_refl _, Nat.le_refl _⟩ (fun J1 hq1 => ?_)
  have hC1 := hC.pap hN hq1.1
  refine aw_aload_n dX5_writeHouse_6 rfl ?_
  refine aw_aload_n dX5_writeHouse_7 rfl ?_
  refine aw_getL dX5_writeHouse_8 fX5_96 (hS.po (by omega)) (hS.pb (by omega)) rfl ?_
  refine AW.topL (hC1.qp (by omega)) ?_
  refine aw_eV dX5_writeHouse_11 kX5_84 mX5_putName (sX5_putName hX hq1.2 hn (by simp only [List.length_append, List.length_singleton, strl1]; omega)) (Nat.le_of_ble_eq_true rfl) hX.pap.1 ⟨by decide, rfl⟩ (hX.lt (by decide)) rfl rfl (Nat.le_of_ble_eq_true rfl) ⟨Nat.le_refl _, Nat.le_refl _⟩ (fun J2 hq2 => ?_)
  have hC2 := hC1.pap hN hq2.1
  refine aw_aload_n dX5_writeHouse_14 rfl ?_
  refine aw_aload_n dX5_writeHouse_15 rfl ?_
  refine aw_getI dX5_writeHouse_16 fX5_97 (hS.po (by omega)) (hS.pb (by omega)) rfl ?_
  refine AW.top (hC2.pf h8 (p := p) (w := 0) (by omega) (by decide) (by decide) (by decide)) ?_
  refine AW.top e0 ?_
  refine aw_eV dX5_writeHouse_19 kX5_41 mX5_putNumber (sX5_putNumber (v := v0) hX hq2.2 (by omega) (by simp only [List.length_append, List.length_singleton, strl1]; omega)) (Nat.le_of_ble_eq_true rfl) hX.pap.1 ⟨by decide, rfl⟩ (hX.lt (by decide)) rfl rfl (Nat.le_of_ble_eq_true rfl) ⟨Nat.le_refl _, Nat.le_refl _⟩ (fun J3 hq3 => ?_)
  have hC3 := hC2.pap hN hq3.1
  refine aw_aload_n dX5_writeHouse_22 rfl ?_
  refine aw_aload_n dX5_writeHouse_23 rfl ?_
  refine aw_getI dX5_writeHouse_24 fX5_100 (hS.po (by omega)) (hS.pb (by omega)) rfl ?_
  refine AW.top (hC3.pf h8 (p := p) (w := 1) (by omega) (by decide) (by decide) (by decide)) ?_
  refine AW.top e1 ?_
  refine aw_eV dX5_writeHouse_27 kX5_41 mX5_putNumber (sX5_putNumber (v := v1) hX hq3.2 (by omega) (by simp only [List.length_append, List.length_singleton, strl1]; omega)) (Nat.le_of_ble_eq_true rfl) hX.pap.1 ⟨by decide, rfl⟩ (hX.lt (by decide)) rfl rfl (Nat.le_of_ble_eq_true rfl) ⟨Nat.le_refl _, Nat.le_refl _⟩ (fun J4 hq4 => ?_)
  have hC4 := hC3.pap hN hq4.1
  refine aw_aload_n dX5_writeHouse_30 rfl ?_
  refine aw_aload_n dX5_writeHouse_31 rfl ?_
  refine aw_getI dX5_writeHouse_32 fX5_103 (hS.po (by omega)) (hS.pb (by omega)) rfl ?_
  refine AW.top (hC4.pf h8 (p := p) (w := 2) (by omega) (by decide) (by decide) (by decide)) ?_
  refine AW.top e2 ?_
  refine aw_eV dX5_writeHouse_35 kX5_41 mX5_putNumber (sX5_putNumber (v := v2) hX hq4.2 (by omega) (by simp only [List.length_append, List.length_singleton, strl1]; omega)) (Nat.le_of_ble_eq_true rfl) hX.pap.1 ⟨by decide, rfl⟩ (hX.lt (by decide)) rfl rfl (Nat.le_of_ble_eq_true rfl) ⟨Nat.le_refl _, Nat.le_refl _⟩ (fun J5 hq5 => ?_)
  have hC5 := hC4.pap hN hq5.1
  refine aw_aload_n dX5_writeHouse_38 rfl ?_
  refine aw_aload_n dX5_writeHouse_39 rfl ?_
  refine aw_getI dX5_writeHouse_40 fX5_106 (hS.po (by omega)) (hS.pb (by omega)) rfl ?_
  refine AW.top (hC5.pf h8 (p := p) (w := 3) (by omega) (by decide) (by decide) (by decide)) ?_
  refine AW.top e3 ?_
  refine aw_eV dX5_writeHouse_43 kX5_41 mX5_putNumber (sX5_putNumber (v := v3) hX hq5.2 (by omega) (by simp only [List.length_append, List.length_singleton, strl1]; omega)) (Nat.le_of_ble_eq_true rfl) hX.pap.1 ⟨by decide, rfl⟩ (hX.lt (by decide)) rfl rfl (Nat.le_of_ble_eq_true rfl) ⟨Nat.le_refl _, Nat.le_refl _⟩ (fun J6 hq6 => ?_)
  have hC6 := hC5.pap hN hq6.1
  have hF6 := ((((hq1.1.tr hq2.1).tr hq3.1).tr hq4.1).tr hq5.1).tr hq6.1
  have hB6 : Prc J6 B4 := by rw [hB4]; exact hq6.2
  rcases hIv.co.1 p hp with t9 | ⟨h, hh, t9, -⟩
  · refine aw_aload_n dX5_writeHouse_46 rfl ?_
    refine aw_aload_n dX5_writeHouse_47 rfl ?_
    refine aw_getI dX5_writeHouse_48 fX5_109 (hS.po (by omega)) (hS.pb (by omega)) rfl ?_
    refine AW.top (hC6.pf h8 (p := p) (w := 4) (by omega) (by decide) (by decide) (by decide)) ?_
    refine AW.top t9 ?_
    refine aw_cV dX5_writeHouse_51 kX5_111 mX7_homeAt (sX7_homeAtN hS hC6 hO from_m1) (Nat.le_of_ble_eq_true rfl) hS.k ⟨by decide, rfl⟩ hS.b0 rfl rfl (Nat.le_of_ble_eq_true rfl) ⟨Nat.le_refl _, Nat.le_refl _⟩ ?_
    refine aw_astore_nN dX5_writeHouse_54 (by decide) rfl ?_
    refine aw_aload_nN dX5_writeHouse_55 rfl ?_
    refine aw_ifnullN (tgt := 87) dX5_writeHouse_56 rfl ?_
    have lv : mLives N p = false := by
      unfold mLives
      rw [t9]
      rfl
    have hA0 : A = [] := by
      rw [hA]
      exact if_neg (by rw [lv]; decide)
    refine tail _ J6 rfl (by rw [hA0]; decide) hF6 ?_
    rw [hA0, List.append_nil]
    exact hB6
  · have e9 : nHm N p = h := by
      unfold nHm
      rw [t9]
      exact nI_clamp (by omega)
    refine aw_aload_n dX5_writeHouse_46 rfl ?_
    refine aw_aload_n dX5_writeHouse_47 rfl ?_
    refine aw_getI dX5_writeHouse_48 fX5_109 (hS.po (by omega)) (hS.pb (by omega)) rfl ?_
    refine AW.top (hC6.pf h8 (p := p) (w := 4) (by omega) (by decide) (by decide) (by decide)) ?_
    refine AW.top t9 ?_
    refine aw_cV dX5_writeHouse_51 kX5_111 mX7_homeAt (sX7_homeAt (h := h) hS hC6 hO rfl hh) (Nat.le_of_ble_eq_true rfl) hS.k ⟨by decide, rfl⟩ hS.b0 rfl rfl (Nat.le_of_ble_eq_true rfl) ⟨Nat.le_refl _, Nat.le_refl _⟩ ?_
    refine aw_astore_n dX5_writeHouse_54 (by decide) rfl ?_
    refine aw_aload_n dX5_writeHouse_55 rfl ?_
    refine aw_ifnull dX5_writeHouse_56 ?_
    refine aw_aload_n dX5_writeHouse_59 rfl ?_
    refine aw_aload_n dX5_writeHouse_60 rfl ?_
    refine aw_cS dX5_writeHouse_61 kX5_51 mX5_isTold (sX5_isTold hX hC6 hIv hh) (Nat.le_of_ble_eq_true rfl) rfl rfl (Nat.le_of_ble_eq_true rfl) ⟨Nat.le_refl _, Nat.le_refl _⟩ ?_
    refine aw_if_eq (tgt := 87) dX5_writeHouse_64 rfl (fun c64 => ?_) (fun c64 => ?_)
    · have f9 := bI0.mp c64
      have lv : mLives N p = mTold N h := by
        unfold mLives
        rw [e9, t9, decide_eq_false (nI_ne_m1 (by omega))]
        rfl
      have hA0 : A = [] := by
        rw [hA]
        exact if_neg (by rw [lv, f9]; decide)
      refine tail _ J6 rfl (by rw [hA0]; decide) hF6 ?_
      rw [hA0, List.append_nil]
      exact hB6
    · have f9 := bI1.mp c64
      have lq := nm_len (hQ.1 h hh)
      refine aw_aload_n dX5_writeHouse_67 rfl ?_
      refine aw_bipush (v := 32) dX5_writeHouse_68 rfl ?_
      refine aw_eV dX5_writeHouse_70 kX5_25 mX5_put (sX5_put hX hB6 (by omega)) (Nat.le_of_ble_eq_true rfl) hX.pap.1 ⟨by decide, rfl⟩ (hX.lt (by decide)) rfl rfl (Nat.le_of_ble_eq_true rfl) ⟨Nat.le_refl _, Nat.le_refl _⟩ (fun J7 hq7 => ?_)
      refine aw_aload_n dX5_writeHouse_73 rfl ?_
      refine aw_ldcS (i := 3) (tx := "in") (List.mem_of_getElem? (i := 12) rfl) dX5_writeHouse_74 ?_
      refine aw_eV dX5_writeHouse_76 kX5_21 mX5_putText (sX5_putText (i := 3) hX hq7.2 (by decide) (by simp only [List.length_append, List.length_singleton]; omega)) (Nat.le_of_ble_eq_true rfl) hX.pap.1 ⟨by decide, rfl⟩ (hX.lt (by decide)) rfl rfl (Nat.le_of_ble_eq_true rfl) ⟨Nat.le_refl _, Nat.le_refl _⟩ (fun J8 hq8 => ?_)
      refine aw_aload_n dX5_writeHouse_79 rfl ?_
      refine aw_aload_n dX5_writeHouse_80 rfl ?_
      refine aw_getL dX5_writeHouse_81 fX5_78 (hS.ho (by omega)) (hS.hb (by omega)) rfl ?_
      refine AW.topL (hC6.qh (by omega)) ?_
      refine aw_eV dX5_writeHouse_84 kX5_84 mX5_putName (sX5_putName hX hq8.2 (hQ.1 h hh) (by simp only [List.length_append, List.length_singleton, strl3]; omega)) (Nat.le_of_ble_eq_true rfl) hX.pap.1 ⟨by decide, rfl⟩ (hX.lt (by decide)) rfl rfl (Nat.le_of_ble_eq_true rfl) ⟨Nat.le_refl _, Nat.le_refl _⟩ (fun J9 hq9 => ?_)
      have lv : mLives N p = mTold N h := by
        unfold mLives
        rw [e9, t9, decide_eq_false (nI_ne_m1 (by omega))]
        rfl
      have hA1 : A = [32] ++ strT 3 ++ nmt (Q h) := by
        rw [hA, if_pos (by rw [lv, f9]), e9, show wtx (wdK9 9) = strT 3 from (str_kw 3 (by decide)).symm]
      refine tail _ J9 rfl (by rw [hA1]; simp only [List.length_append, List.length_singleton, strl3]; omega) (((hF6.tr hq7.1).tr hq8.1).tr hq9.1) ?_
      rw [hA1]
      have hq := hq9.2
      simp only [List.append_assoc] at hq ⊢
      exact hq
end ClsS
