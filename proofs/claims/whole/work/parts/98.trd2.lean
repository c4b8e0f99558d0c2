/-! the class: circles traded -/
theorem bits8 : ∀ v, v < 256 → nset (fun q => v.testBit q) 8 = v := by decide +kernel
theorem bits8_ext {v u : Nat} (hv : v < 256) (hu : u < 256) (h : ∀ q, q < 8 → v.testBit q = u.testBit q) : v = u := by
  rw [← bits8 v hv, ← bits8 u hu]
  exact nset_cong h
theorem p2_bit : ∀ y, y < 8 → ∀ q, q < 8 → (2 ^ y).testBit q = decide (q = y) := by decide +kernel
theorem sdiff_one {v c y : Nat} (hv : v < 256) (hc : c < 256) (hy : y < 8) (hb : c.testBit y = false) : sdiff (sdiff v c) (2 ^ y) = sdiff v (c + 2 ^ y) := by
  refine bits8_ext (sdiff_lt (sdiff_lt hv)) (sdiff_lt hv) (fun q hq => ?_)
  rw [sdiff_bit (by omega), sdiff_bit (by omega), sdiff_bit (by omega), p2_bit y hy q hq, (bit_add c hc y hy hb).2 q hq]
  cases v.testBit q <;> cases c.testBit q <;> simp
theorem full_8 : ∀ c, c < 256 → pcn c = 8 → ∀ y, y < 8 → c.testBit y = true := by decide +kernel
/-- what a circle leaves -/
def CirP (N : Nat → Int32) (v C : Nat) (I J : MI) : Prop := TdF I J ∧ J 493 2 = nI (sdiff v C) ∧ (∀ q, q < 8 → J 495 q = if C.testBit q then nI (lkH N v q) else I 495 q) ∧ J 493 3 = I 493 3 + (if 1 < pcn C then nI (pcn C) else 0) ∧ J 493 4 = I 493 4 + (if 1 < pcn C then 1 else 0) ∧ J 493 5 = imax (I 493 5) (nI (pcn C))
def CiI (N : Nat → Int32) (v c : Nat) (I J : MI) : Prop := TdF I J ∧ J 494 = I 494 ∧ J 493 2 = nI (sdiff v c) ∧ (∀ q, q < 8 → J 495 q = if c.testBit q then nI (lkH N v q) else I 495 q) ∧ J 493 3 = I 493 3 ∧ J 493 4 = I 493 4 ∧ J 493 5 = I 493 5
theorem CiI.step {N : Nat → Int32} {v c y : Nat} {I J : MI} (h : CiI N v c I J) (hv : v < 256) (hc : c < 256) (hy : y < 8) (hb : c.testBit y = false) : CiI N v (c + 2 ^ y) I (upI (upI J 495 y (nI (lkH N v y))) 493 2 (nI (sdiff v (c + 2 ^ y)))) := by
  obtain ⟨h1, h2, h3, h4, h5, h6, h7⟩ := h
  refine ⟨(h1.put (by omega)).put (by omega), ((if_neg (by decide)).trans (if_neg (by decide))).trans h2, upI_s, fun q hq => ?_, ?_, ?_, ?_⟩
  · rw [upI_n (Or.inl (by decide)), (bit_add c hc y hy hb).2 q hq]
    by_cases e : q = y
    · subst e
      rw [upI_s, if_pos (by simp)]
    · rw [upI_n (Or.inr e), h4 q hq]
      simp [e]
  · rw [upI_n (Or.inr (by decide)), upI_n (Or.inl (by decide))]; exact h5
  · rw [upI_n (Or.inr (by decide)), upI_n (Or.inl (by decide))]; exact h6
  · rw [upI_n (Or.inr (by decide)), upI_n (Or.inl (by decide))]; exact h7
theorem lk_home {N : Nat → Int32} {v y : Nat} (hC : Co N) (hN : Cn N) (hL : Liv N v) (hy : y < 8) (hv : v.testBit y = true) : N (80 + 18 * tnx N v y + 4) = nI (lkH N v y) := by
  obtain ⟨l1, l2, l3, l4⟩ := lkH_ok hC hN hL hy hv
  have h8 := hN.p8
  rcases hC.2.1 _ l1 with w | ⟨q, q1, q2, q3⟩
  · rw [w] at l4
    exact absurd l4.symm (nI_ne_m1 (by omega))
  · rw [q2] at l4
    have := (nI_eq (by omega) (by omega)).mp l4
    rw [← this]
    exact q3
section ClsS
variable {z n : Nat} {sh : Shp} {I : MI} {L : ML} {N : Nat → Int32} {Q : Nat → Int64}
theorem sdiff_zero {v : Nat} (hv : v < 256) : sdiff v 0 = v := bits8_ext (sdiff_lt hv) hv (fun q hq => by rw [sdiff_bit (by omega)]; simp)
set_option maxHeartbeats 4000000 in
set_option maxRecDepth 100000 in
theorem sX9_tradeCircle (hX : IsX n sh) (hC : CtS I L 1 N Q) (hIv : Iv N) {v : Nat} (hv : I 493 2 = nI v) (hL : Liv N v) {x : Int32} {x0 : Nat} (hx : x = nI x0) (hx0 : x0 < 8) (hvx : v.testBit x0 = true) (hlk : LkA N v I)  : CM yX9_tradeCircle cX9_tradeCircle 7 (Option.none : Option FieldType) 2 0 0 [.ref 493, .ref 1, .int x] z n sh I L (Ef none (CirP N v (cir N v 9 0 x0) I) z n sh L) := by
  refine CM.go [some (.ref 493), some (.ref 1), some (.int x), none, none, none, none] rfl rfl (Nat.le_of_ble_eq_true rfl) (fun X g q => ?_)
  have hO := hIv.ok
  have hN := hO.1
  have hR := hO.2.1
  have hB := hO.2.2.1
  have hE := hO.2.2.2
  have h8 := hN.p8
  have h10 := hN.h10
  have hS := hX.now
  have hCo := hIv.co
  have hv8 := hL.1
  subst hx
  have loop : ∀ i, i ≤ 8 → ∀ a6 (c y : Nat) (J : MI), pcn c = i → c < 256 → (∀ q, q < 8 → c.testBit q = true → v.testBit q = true) → y < 8 → v.testBit y = true → cir N v (9 - i) c y = cir N v 9 0 x0 → CiI N v c I J → AW X g RX9 cX9_tradeCircle 7 (2, 0, 0) (z, n, sh, 0, 0) (J) (L) 8 [some (.ref 493), some (.ref 1), some (.int (nI x0)), some (.int (nI i)), some (.int (nI y)), some (.int (nI i)), a6] [] := by
    refine up_loop (fun i hi ih a6 c y J hpc hc hcv hy hy2 hK hI2 => ?_)
    have hJ : CtS J L 1 N Q := hI2.1.ct hC hN
    obtain ⟨l1, l2, l3, l4⟩ := lkH_ok hCo hN hL hy hy2
    have htn := (hL.2 _ l2 l3).1
    refine aw_iload dX9_tradeCircle_8 rfl ?_
    refine aw_bipush (v := 8) dX9_tradeCircle_10 rfl ?_
    refine aw_icmp_ge (tgt := 85) dX9_tradeCircle_12 rfl (fun c12 => ?_) (fun c12 => ?_)
    · have hi7 : 8 ≤ i := (nI_leI (a := 8) (b := i) (by decide) (by omega)).mp c12
      have hi8 : i = 8 := by omega
      have hcy : c.testBit y = true := full_8 c hc (by omega) y hy
      have eC : cir N v 9 0 x0 = c := by
        rw [← hK, show 9 - i = (8 - i) + 1 by omega, cir, if_pos hcy]
      refine aw_aload_n dX9_tradeCircle_85 rfl ?_
      refine aw_aload_n dX9_tradeCircle_86 rfl ?_
      refine aw_getI dX9_tradeCircle_87 fX9_28 hX.trd.1 (hX.lt (by decide)) rfl ?_
      refine AW.top hI2.2.2.2.2.2.2 ?_
      refine aw_iload_n dX9_tradeCircle_90 rfl ?_
      refine aw_mmax dX9_tradeCircle_91 kX9_100 (Nat.le_of_ble_eq_true rfl) (Nat.le_of_ble_eq_true rfl) ⟨Nat.le_refl _, Nat.le_refl _⟩ ?_
      refine aw_putI dX9_tradeCircle_94 fX9_28 hX.trd.1 (hX.lt (by decide)) rfl rfl ?_
      refine aw_iload_n dX9_tradeCircle_97 rfl ?_
      refine aw_iconst (v := 1) dX9_tradeCircle_98 rfl ?_
      refine aw_icmp_le (tgt := 122) dX9_tradeCircle_99 rfl (fun c99 => ?_) (fun c99 => ?_)
      · refine aw_vret q rfl dX9_tradeCircle_122 ⟨Nat.le_refl _, Nat.le_refl _⟩ ?_
        rw [eC]
        obtain ⟨h1, h2, h3, h4, h5, h6, h7⟩ := hI2
        have hgt : ¬ 1 < pcn c := by
          have := (nI_leI (a := i) (b := 1) (by omega) (by decide)).mp c99
          omega
        refine ⟨rfl, rfl, rfl, rfl, rfl, h1.put (by omega), ?_, fun q hq => ?_, ?_, ?_, ?_⟩
        · rw [upI_n (Or.inr (by decide))]; exact h3
        · rw [upI_n (Or.inl (by decide))]; exact h4 q hq
        · rw [upI_n (Or.inr (by decide)), if_neg hgt, Int32.add_zero]; exact h5
        · rw [upI_n (Or.inr (by decide)), if_neg hgt, Int32.add_zero]; exact h6
        · rw [upI_s, hpc]
      · refine aw_aload_n dX9_tradeCircle_102 rfl ?_
        refine aw_dup dX9_tradeCircle_103 rfl ?_
        refine aw_getI dX9_tradeCircle_104 fX9_25 hX.trd.1 (hX.lt (by decide)) rfl ?_
        refine AW.top ((upI_n (Or.inr (by decide))).trans hI2.2.2.2.2.2.1) ?_
        refine aw_iconst (v := 1) dX9_tradeCircle_107 rfl ?_
        refine aw_iadd dX9_tradeCircle_108 ?_
        refine aw_putI dX9_tradeCircle_109 fX9_25 hX.trd.1 (hX.lt (by decide)) rfl rfl ?_
        refine aw_aload_n dX9_tradeCircle_112 rfl ?_
        refine aw_dup dX9_tradeCircle_113 rfl ?_
        refine aw_getI dX9_tradeCircle_114 fX9_22 hX.trd.1 (hX.lt (by decide)) rfl ?_
        refine AW.top ((upI_n (Or.inr (by decide))).trans ((upI_n (Or.inr (by decide))).trans hI2.2.2.2.2.1)) ?_
        refine aw_iload_n dX9_tradeCircle_117 rfl ?_
        refine aw_iadd dX9_tradeCircle_118 ?_
        refine aw_putI dX9_tradeCircle_119 fX9_22 hX.trd.1 (hX.lt (by decide)) rfl rfl ?_
        refine aw_vret q rfl dX9_tradeCircle_122 ⟨Nat.le_refl _, Nat.le_refl _⟩ ?_
        rw [eC]
        obtain ⟨h1, h2, h3, h4, h5, h6, h7⟩ := hI2
        have hgt : 1 < pcn c := by
          have := mt (nI_leI (a := i) (b := 1) (by omega) (by decide)).mpr c99
          omega
        refine ⟨rfl, rfl, rfl, rfl, rfl, ((h1.put (by omega)).put (by omega)).put (by omega), ?_, fun q hq => ?_, ?_, ?_, ?_⟩
        · rw [upI_n (Or.inr (by decide)), upI_n (Or.inr (by decide)), upI_n (Or.inr (by decide))]; exact h3
        · rw [upI_n (Or.inl (by decide)), upI_n (Or.inl (by decide)), upI_n (Or.inl (by decide))]; exact h4 q hq
        · rw [upI_s, if_pos hgt, hpc]
        · rw [upI_n (Or.inr (by decide)), upI_s, if_pos hgt]
        · rw [upI_n (Or.inr (by decide)), upI_n (Or.inr (by decide)), upI_s, hpc]
    · have hlt : i < 8 := by
        have := mt (nI_leI (a := 8) (b := i) (by decide) (by omega)).mpr c12
        omega
      refine aw_aload_n dX9_tradeCircle_15 rfl ?_
      refine aw_iload dX9_tradeCircle_16 rfl ?_
      refine aw_cV dX9_tradeCircle_18 kX9_57 mX9_isIn (sX9_isIn hX hI2.2.2.1 (sdiff_lt hv8) rfl hy) (Nat.le_of_ble_eq_true rfl) hX.trd.1 ⟨by decide, rfl⟩ (hX.lt (by decide)) rfl rfl (Nat.le_of_ble_eq_true rfl) ⟨Nat.le_refl _, Nat.le_refl _⟩ ?_
      refine aw_if_eq (tgt := 85) dX9_tradeCircle_21 rfl (fun c21 => ?_) (fun c21 => ?_)
      · have hcy : c.testBit y = true := by
          have := bI0.mp c21
          rw [sdiff_bit (by omega), hy2, Bool.true_and] at this
          simpa using this
        have eC : cir N v 9 0 x0 = c := by
          rw [← hK, show 9 - i = (8 - i) + 1 by omega, cir, if_pos hcy]
        refine aw_aload_n dX9_tradeCircle_85 rfl ?_
        refine aw_aload_n dX9_tradeCircle_86 rfl ?_
        refine aw_getI dX9_tradeCircle_87 fX9_28 hX.trd.1 (hX.lt (by decide)) rfl ?_
        refine AW.top hI2.2.2.2.2.2.2 ?_
        refine aw_iload_n dX9_tradeCircle_90 rfl ?_
        refine aw_mmax dX9_tradeCircle_91 kX9_100 (Nat.le_of_ble_eq_true rfl) (Nat.le_of_ble_eq_true rfl) ⟨Nat.le_refl _, Nat.le_refl _⟩ ?_
        refine aw_putI dX9_tradeCircle_94 fX9_28 hX.trd.1 (hX.lt (by decide)) rfl rfl ?_
        refine aw_iload_n dX9_tradeCircle_97 rfl ?_
        refine aw_iconst (v := 1) dX9_tradeCircle_98 rfl ?_
        refine aw_icmp_le (tgt := 122) dX9_tradeCircle_99 rfl (fun c99 => ?_) (fun c99 => ?_)
        · refine aw_vret q rfl dX9_tradeCircle_122 ⟨Nat.le_refl _, Nat.le_refl _⟩ ?_
          rw [eC]
          obtain ⟨h1, h2, h3, h4, h5, h6, h7⟩ := hI2
          have hgt : ¬ 1 < pcn c := by
            have := (nI_leI (a := i) (b := 1) (by omega) (by decide)).mp c99
            omega
          refine ⟨rfl, rfl, rfl, rfl, rfl, h1.put (by omega), ?_, fun q hq => ?_, ?_, ?_, ?_⟩
          · rw [upI_n (Or.inr (by decide))]; exact h3
          · rw [upI_n (Or.inl (by decide))]; exact h4 q hq
          · rw [upI_n (Or.inr (by decide)), if_neg hgt, Int32.add_zero]; exact h5
          · rw [upI_n (Or.inr (by decide)), if_neg hgt, Int32.add_zero]; exact h6
          · rw [upI_s, hpc]
        · refine aw_aload_n dX9_tradeCircle_102 rfl ?_
          refine aw_dup dX9_tradeCircle_103 rfl ?_
          refine aw_getI dX9_tradeCircle_104 fX9_25 hX.trd.1 (hX.lt (by decide)) rfl ?_
          refine AW.top ((upI_n (Or.inr (by decide))).trans hI2.2.2.2.2.2.1) ?_
          refine aw_iconst (v := 1) dX9_tradeCircle_107 rfl ?_
          refine aw_iadd dX9_tradeCircle_108 ?_
          refine aw_putI dX9_tradeCircle_109 fX9_25 hX.trd.1 (hX.lt (by decide)) rfl rfl ?_
          refine aw_aload_n dX9_tradeCircle_112 rfl ?_
          refine aw_dup dX9_tradeCircle_113 rfl ?_
          refine aw_getI dX9_tradeCircle_114 fX9_22 hX.trd.1 (hX.lt (by decide)) rfl ?_
          refine AW.top ((upI_n (Or.inr (by decide))).trans ((upI_n (Or.inr (by decide))).trans hI2.2.2.2.2.1)) ?_
          refine aw_iload_n dX9_tradeCircle_117 rfl ?_
          refine aw_iadd dX9_tradeCircle_118 ?_
          refine aw_putI dX9_tradeCircle_119 fX9_22 hX.trd.1 (hX.lt (by decide)) rfl rfl ?_
          refine aw_vret q rfl dX9_tradeCircle_122 ⟨Nat.le_refl _, Nat.le_refl _⟩ ?_
          rw [eC]
          obtain ⟨h1, h2, h3, h4, h5, h6, h7⟩ := hI2
          have hgt : 1 < pcn c := by
            have := mt (nI_leI (a := i) (b := 1) (by omega) (by decide)).mpr c99
            omega
          refine ⟨rfl, rfl, rfl, rfl, rfl, ((h1.put (by omega)).put (by omega)).put (by omega), ?_, fun q hq => ?_, ?_, ?_, ?_⟩
          · rw [upI_n (Or.inr (by decide)), upI_n (Or.inr (by decide)), upI_n (Or.inr (by decide))]; exact h3
          · rw [upI_n (Or.inl (by decide)), upI_n (Or.inl (by decide)), upI_n (Or.inl (by decide))]; exact h4 q hq
          · rw [upI_s, if_pos hgt, hpc]
          · rw [upI_n (Or.inr (by decide)), upI_s, if_pos hgt]
          · rw [upI_n (Or.inr (by decide)), upI_n (Or.inr (by decide)), upI_s, hpc]
      · refine aw_aload_n dX9_tradeCircle_24 rfl ?_
        refine aw_aload_n dX9_tradeCircle_25 rfl ?_
        refine aw_iload dX9_tradeCircle_26 rfl ?_
        refine aw_cV dX9_tradeCircle_28 kX9_93 mX9_lookOf (sX9_lookOf hX rfl hy) (Nat.le_of_ble_eq_true rfl) hX.trd.1 ⟨by decide, rfl⟩ (hX.lt (by decide)) rfl rfl (Nat.le_of_ble_eq_true rfl) ⟨Nat.le_refl _, Nat.le_refl _⟩ ?_
        refine AW.top ((congrFun hI2.2.1 y).trans (hlk y hy hy2)) ?_
        refine aw_cV dX9_tradeCircle_31 kX9_96 mX7_houseAt (sX7_houseAt hS hJ hO rfl htn) (Nat.le_of_ble_eq_true rfl) hS.k ⟨by decide, rfl⟩ hS.b0 rfl rfl (Nat.le_of_ble_eq_true rfl) ⟨Nat.le_refl _, Nat.le_refl _⟩ ?_
        refine aw_astore dX9_tradeCircle_34 (by decide) rfl ?_
        refine aw_aload dX9_tradeCircle_36 rfl ?_
        refine aw_ifnonnull (tgt := 42) dX9_tradeCircle_38 rfl ?_
        refine aw_aload_n dX9_tradeCircle_42 rfl ?_
        refine aw_getR (b := 495) dX9_tradeCircle_43 fX9_15 hX.trd.1 (hX.lt (by decide)) rfl hX.trd.2.2.1 ?_
        refine aw_iload dX9_tradeCircle_46 rfl ?_
        refine aw_aload dX9_tradeCircle_48 rfl ?_
        refine aw_getI dX9_tradeCircle_50 fX9_40 (hS.po (by omega)) (hS.pb (by omega)) rfl ?_
        refine AW.top ((hJ.pf h8 (p := tnx N v y) (w := 4) htn (by decide) (by decide) (by decide)).trans (lk_home hCo hN hL hy hy2)) ?_
        refine aw_iastN (k := y) dX9_tradeCircle_53 hX.trd.2.2.2.2.1 (hX.lt (by decide)) hX.trd.2.2.2.2.2 rfl (by omega) (by decide) ?_
        refine aw_aload_n dX9_tradeCircle_54 rfl ?_
        refine aw_dup dX9_tradeCircle_55 rfl ?_
        refine aw_getI dX9_tradeCircle_56 fX9_18 hX.trd.1 (hX.lt (by decide)) rfl ?_
        refine AW.top ((upI_n (Or.inl (by decide))).trans hI2.2.2.1) ?_
        refine aw_iconst (v := 1) dX9_tradeCircle_59 rfl ?_
        refine aw_iload dX9_tradeCircle_60 rfl ?_
        refine aw_ishl dX9_tradeCircle_62 ?_
        refine AW.top (shl_8 y hy) ?_
        refine aw_iconst (v := (-1)) dX9_tradeCircle_63 rfl ?_
        refine aw_ixor dX9_tradeCircle_64 ?_
        refine aw_iand dX9_tradeCircle_65 ?_
        refine AW.top (y := nI (sdiff v (c + 2 ^ y))) ((sdiff_n _ _).trans (congrArg nI (sdiff_one hv8 hc hy (by
          have := bI1.mp c21
          rw [sdiff_bit (by omega), hy2, Bool.true_and] at this
          simpa using this)))) ?_
        refine aw_putI dX9_tradeCircle_66 fX9_18 hX.trd.1 (hX.lt (by decide)) rfl rfl ?_
        refine aw_iinc dX9_tradeCircle_69 rfl (ginc rfl) (by decide) rfl ?_
        refine aw_aload dX9_tradeCircle_72 rfl ?_
        refine aw_getI dX9_tradeCircle_74 fX9_85 (hS.po (by omega)) (hS.pb (by omega)) rfl ?_
        refine AW.top ((upI_n (Or.inl (by omega))).trans ((upI_n (Or.inl (by omega))).trans (hJ.pn (p := tnx N v y) (by omega)))) ?_
        refine aw_istore dX9_tradeCircle_77 (by decide) rfl ?_
        refine aw_iinc dX9_tradeCircle_79 rfl (ginc rfl) (by decide) rfl ?_
        refine aw_goto (tgt := 8) dX9_tradeCircle_82 rfl ?_
        have hbt : c.testBit y = false := by
          have := bI1.mp c21
          rw [sdiff_bit (by omega), hy2, Bool.true_and] at this
          simpa using this
        obtain ⟨b1, b2⟩ := bit_add c hc y hy hbt
        have e9 : cir N v (9 - (i + 1)) (c + 2 ^ y) (tnx N v y) = cir N v 9 0 x0 := by
          rw [← hK, show 9 - i = (9 - (i + 1)) + 1 by omega, cir, if_neg (by rw [hbt]; decide)]
        refine ih hlt _ (c + 2 ^ y) (tnx N v y) _ (by rw [pcn_add hc hy hbt, hpc]) b1 (fun q hq z => ?_) l2 l3 e9 (hI2.step hv8 hc hy hbt)
        rw [b2 q hq, Bool.or_eq_true, decide_eq_true_eq] at z
        rcases z with z | z
        · exact hcv q hq z
        · rw [z]; exact hy2
  refine aw_iconst (v := 0) dX9_tradeCircle_0 rfl ?_
  refine aw_istore_n dX9_tradeCircle_1 (by decide) rfl ?_
  refine aw_iload_n dX9_tradeCircle_2 rfl ?_
  refine aw_istore dX9_tradeCircle_3 (by decide) rfl ?_
  refine aw_iconst (v := 0) dX9_tradeCircle_5 rfl ?_
  refine aw_istore dX9_tradeCircle_6 (by decide) rfl ?_
  exact loop 0 (Nat.zero_le _) none 0 x0 I (by decide) (by decide) (fun q _ z => by simp at z) hx0 hvx rfl ⟨TdF.rf, rfl, by rw [hv]; congr 1; exact (sdiff_zero hv8).symm, fun q hq => by simp, rfl, rfl, rfl⟩
end ClsS
