/-! the class whole: wishes, rules, homes shut, needs, leaving, undone -/
def BsO (N : Nat → Int32) : Prop := ∀ p, p < nPo N → ∀ h, h < nHo N → N (8 * h + 6) = 1 → (nBi N p).testBit h = false
def BhO (N : Nat → Int32) : Prop := ∀ p, p < nPo N → nBi N p < 2 ^ nHo N
theorem drop_no : ∀ v, v < 1024 → ∀ h, h < 10 → v.testBit h = false → iDrop (nI v) (nI h) = nI v := by decide +kernel
theorem drop_and : ∀ v, v < 1024 → ∀ h, h < 10 → iDrop (nI v) (nI h) = nI (v &&& (1023 ^^^ 2 ^ h)) := by decide +kernel
theorem msk_bit : ∀ h, h < 10 → ∀ q, q < 10 → (1023 ^^^ 2 ^ h).testBit q = !decide (q = h) := by decide +kernel
theorem bits_self : ∀ v, v < 1024 → nset (fun q => v.testBit q) 10 = v := by decide +kernel
theorem bits_ext {v u : Nat} (hv : v < 1024) (hu : u < 1024) (h : ∀ q, q < 10 → v.testBit q = u.testBit q) : v = u := by
  rw [← bits_self v hv, ← bits_self u hu]
  exact nset_cong h
theorem upd_me (N : Nat → Int32) (j : Nat) : upd N j (N j) = N := by
  funext i
  by_cases e : i = j
  · subst e
    exact upd_eq
  · exact upd_ne e
theorem shuL_no {N : Nat → Int32} {h : Nat} (hN : Cn N) (hh : h < 10) (hb : ∀ p, p < nPo N → (nBi N p).testBit h = false) : ∀ i, i ≤ nPo N → shuL N h i = N
  | 0, _ => rfl
  | i + 1, hi => by
    have h8 := hN.p8
    rw [shuL, shuL_no hN hh hb i (by omega)]
    unfold mDropB mPuts
    have e : iDrop (N (80 + 18 * i + 10)) (nI h) = N (80 + 18 * i + 10) := by
      rw [hN.bi (show i < 8 by omega)]
      exact drop_no _ (hN.bi10 (by omega)) h hh (hb i (by omega))
    rw [e]
    exact upd_me N _
theorem neeL_bits {N : Nat → Int32} {p : Nat} (hN : Cn N) (hp : p < 8) : ∀ i, i ≤ 10 → ∃ a, a < 1024 ∧ neeL N p i = mPuts N p 10 (nI a) ∧ ∀ q, q < 10 → a.testBit q = ((nBi N p).testBit q && (decide (i ≤ q) || mFit N p q))
  | 0, _ => by
    refine ⟨nBi N p, hN.bi10 hp, ?_, fun q hq => by simp⟩
    unfold mPuts
    rw [← hN.bi hp]
    exact (upd_me N _).symm
  | i + 1, hi => by
    obtain ⟨a, ha, e, hb⟩ := neeL_bits hN hp i (by omega)
    rw [neeL]
    by_cases hf : mFit N p i = true
    · rw [if_pos hf]
      refine ⟨a, ha, e, fun q hq => ?_⟩
      rw [hb q hq]
      by_cases eq : q = i
      · subst eq
        rw [hf]
        simp
      · rw [show decide (i + 1 ≤ q) = decide (i ≤ q) from decide_eq_decide.mpr (by omega)]
    · rw [if_neg hf, e]
      refine ⟨a &&& (1023 ^^^ 2 ^ i), Nat.lt_of_le_of_lt Nat.and_le_left ha, ?_, fun q hq => ?_⟩
      · unfold mDropB mPuts
        rw [upd_eq, fa_upd_twice, drop_and a ha i (by omega)]
      · rw [Nat.testBit_and, hb q hq, msk_bit i (by omega) q hq]
        by_cases eq : q = i
        · subst eq
          have : mFit N p q = false := by simpa using hf
          rw [this]
          simp
        · rw [show decide (i + 1 ≤ q) = decide (i ≤ q) from decide_eq_decide.mpr (by omega)]
          simp [eq]
theorem need_eq {N : Nat → Int32} {p : Nat} (hN : Cn N) (hp : p < 8) (hb : nBi N p < 2 ^ nHo N) : neeL N p (nHo N) = mPuts N p 10 (N (80 + 18 * p + 10) &&& iset (fun h => mFit N p h) (nHo N)) := by
  have h10 := hN.h10
  obtain ⟨a, ha, e, hbt⟩ := neeL_bits hN hp (nHo N) h10
  have hs := nset_lt (fun h => mFit N p h) (nHo N)
  have h2 : 2 ^ nHo N ≤ 2 ^ 10 := Nat.pow_le_pow_right (by decide) h10
  rw [e, iset_n _ _ (by omega), hN.bi hp, fa_and]
  congr 2
  refine bits_ext ha (Nat.lt_of_le_of_lt Nat.and_le_left (hN.bi10 hp)) (fun q hq => ?_)
  rw [hbt q hq, Nat.testBit_and, nset_bit _ _ h10 q hq]
  by_cases hl : q < nHo N
  · rw [decide_eq_false (show ¬ nHo N ≤ q by omega), decide_eq_true hl]
    simp
  · have hz : (nBi N p).testBit q = false := by
      have h9 := bits_self (nBi N p) (hN.bi10 hp)
      cases hz : (nBi N p).testBit q with
      | false => rfl
      | true =>
        have := Nat.ge_two_pow_of_testBit hz
        have : 2 ^ nHo N ≤ 2 ^ q := Nat.pow_le_pow_right (by decide) (by omega)
        omega
    rw [hz]
    simp
section ClsS
variable {z n b : Nat} {sh : Shp} {I : MI} {L : ML} {N : Nat → Int32} {Q : Nat → Int64}
set_option maxHeartbeats 4000000 in
set_option maxRecDepth 100000 in
theorem sX3_dropWish (hS : IsS n sh b) (hC : CtS I L b N Q) (hN : Cn N) (hIv : Iv N) {p : Nat} (hp : p < nPo N) {x : Int32} {a : Nat} (hx : x = nI a) (ha : a < nWi N p)  : CM yX3_dropWish cX3_dropWish 3 (Option.none : Option FieldType) 1 0 0 [.ref (b + 13 + 2 * p), .int x] z n sh I L (Mut none b (unwN N p a) Q z n sh I L) := by
  refine CM.go [some (.ref (b + 13 + 2 * p)), some (.int x), none] rfl rfl (Nat.le_of_ble_eq_true rfl) (fun X g q => ?_)
  have h8 := hN.p8
  have h10 := hN.h10
  have h6 := hN.w6 (show p < 8 by omega)
  have loop : ∀ i, i ≤ nWi N p - 1 → ∀ (J : MI), a ≤ i → Fr b I J → CtS J L b (unwL N p a (i - a)) Q → AW X g RX3 cX3_dropWish 3 (1, 0, 0) (z, n, sh, 0, 0) (J) (L) 15 [some (.ref (b + 13 + 2 * p)), some (.int x), some (.int (nI i))] [] := by
    refine up_loop (fun i hi ih J hai hF hJ => ?_)
    have cU := unwL_Cn hIv (a := a) hp (i - a) (by omega)
    have eP : nPo (unwL N p a (i - a)) = nPo N := by unfold nPo; rw [unwL_rd _ (by omega)]
    have g8 := cU.1.p8
    have e11 : unwL N p a (i - a) (80 + 18 * p + 11) = nI (nWi N p) := (unwL_rd _ (by omega)).trans (hN.w (by omega))
    have wc : J (b + 13 + 2 * p) 3 = nI (nWi N p) := (hJ.pf g8 (p := p) (w := 11) (by omega) (by decide) (by decide) (by decide)).trans e11
    refine aw_iload_n dX3_dropWish_15 rfl ?_
    refine aw_iconst (v := 1) dX3_dropWish_16 rfl ?_
    refine aw_iadd dX3_dropWish_17 ?_
    refine AW.top (nI_1 i) ?_
    refine aw_aload_n dX3_dropWish_18 rfl ?_
    refine aw_getI dX3_dropWish_19 fX3_50 (hS.po (by omega)) (hS.pb (by omega)) rfl ?_
    refine AW.top wc ?_
    refine aw_icmp_ge (tgt := 53) dX3_dropWish_22 rfl (fun c22 => ?_) (fun c22 => ?_)
    · have z9 := (nI_leI (a := nWi N p) (b := i + 1) (by omega) (by omega)).mp c22
      have e : i = nWi N p - 1 := by omega
      subst e
      refine aw_aload_n dX3_dropWish_53 rfl ?_
      refine aw_dup dX3_dropWish_54 rfl ?_
      refine aw_getI dX3_dropWish_55 fX3_50 (hS.po (by omega)) (hS.pb (by omega)) rfl ?_
      refine AW.top wc ?_
      refine aw_iconst (v := 1) dX3_dropWish_58 rfl ?_
      refine aw_isub dX3_dropWish_59 ?_
      refine AW.top (y := nI (nWi N p - 1)) (by rw [show (1 : Int32) = nI 1 from rfl]; exact pk_sub (by omega)) ?_
      refine aw_putI dX3_dropWish_60 fX3_50 (hS.po (by omega)) (hS.pb (by omega)) rfl rfl ?_
      refine aw_vret q rfl dX3_dropWish_63 ⟨Nat.le_refl _, Nat.le_refl _⟩ ?_
      refine ⟨rfl, rfl, rfl, rfl, rfl, hF.put (by omega), ?_⟩
      unfold unwN
      exact hJ.putWc cU.1 (by omega) (by omega) (fun k hk => hJ.wf g8 (by omega) (by rw [cU.2]; omega) (by omega))
    · have z9 := mt (nI_leI (a := nWi N p) (b := i + 1) (by omega) (by omega)).mpr c22
      have hlt : i < nWi N p - 1 := by omega
      refine aw_iload_n dX3_dropWish_25 rfl ?_
      refine aw_iconst (v := 1) dX3_dropWish_26 rfl ?_
      refine aw_iadd dX3_dropWish_27 ?_
      refine AW.top (nI_1 i) ?_
      refine aw_bipush (v := 6) dX3_dropWish_28 rfl ?_
      refine aw_icmp_ge (tgt := 53) dX3_dropWish_30 rfl (fun c30 => ?_) (fun c30 => ?_)
      · exact absurd ((nI_leI (a := 6) (b := i + 1) (by decide) (by omega)).mp c30) (by omega)
      · skip
        refine aw_aload_n dX3_dropWish_33 rfl ?_
        refine aw_getR (b := b + 14 + 2 * p) dX3_dropWish_34 fX3_18 (hS.po (by omega)) (hS.pb (by omega)) rfl (hS.pw (by omega)) ?_
        refine aw_iload_n dX3_dropWish_37 rfl ?_
        refine aw_aload_n dX3_dropWish_38 rfl ?_
        refine aw_getR (b := b + 14 + 2 * p) dX3_dropWish_39 fX3_18 (hS.po (by omega)) (hS.pb (by omega)) rfl (hS.pw (by omega)) ?_
        refine aw_iload_n dX3_dropWish_42 rfl ?_
        refine aw_iconst (v := 1) dX3_dropWish_43 rfl ?_
        refine aw_iadd dX3_dropWish_44 ?_
        refine AW.top (nI_1 i) ?_
        refine aw_ialdN (k := (i + 1)) dX3_dropWish_45 (hS.wk (by omega)) (hS.wb (by omega)) (hS.wl (by omega)) rfl (by omega) (by decide) ?_
        refine AW.top ((hJ.wf g8 (p := p) (k := i + 1) (by omega) (by rw [cU.2]; omega) (by omega)).trans (by rw [unwL_at, if_neg (by omega)])) ?_
        refine aw_iastN (k := i) dX3_dropWish_46 (hS.wk (by omega)) (hS.wb (by omega)) (hS.wl (by omega)) rfl (by omega) (by decide) ?_
        refine aw_iinc dX3_dropWish_47 rfl (ginc rfl) (by decide) rfl ?_
        refine aw_goto (tgt := 15) dX3_dropWish_50 rfl ?_
        refine ih hlt _ (by omega) (hF.put (by omega)) ?_
        rw [show i + 1 - a = (i - a) + 1 by omega, unwL, show a + (i - a) = i by omega]
        exact hJ.putWi cU.1 (p := p) (k := i) (by omega) (by omega)
  refine aw_iload_n dX3_dropWish_0 rfl ?_
  refine aw_if_lt (tgt := 12) dX3_dropWish_1 rfl (fun c1 => ?_) (fun c1 => ?_)
  · rw [hx] at c1
    exact absurd c1 (nI_pos (by omega))
  · skip
    refine aw_iload_n dX3_dropWish_4 rfl ?_
    refine aw_aload_n dX3_dropWish_5 rfl ?_
    refine aw_getI dX3_dropWish_6 fX3_50 (hS.po (by omega)) (hS.pb (by omega)) rfl ?_
    refine AW.top ((hC.pf h8 (p := p) (w := 11) hp (by decide) (by decide) (by decide)).trans (hN.w (by omega))) ?_
    refine aw_icmp_lt (tgt := 13) dX3_dropWish_9 rfl (fun c9 => ?_) (fun c9 => ?_)
    · skip
      refine aw_iload_n dX3_dropWish_13 rfl ?_
      refine aw_istore_n dX3_dropWish_14 (by decide) rfl ?_
      subst hx
      exact loop a (by omega) I (Nat.le_refl _) Fr.rf (by rw [Nat.sub_self]; exact hC)
    · exact absurd ((nI_ltI (a := a) (b := nWi N p) (by omega) (by omega)).mpr ha) (by rw [← hx]; exact c9)
end ClsS
section ClsS
variable {z n : Nat} {sh : Shp} {I : MI} {L : ML} {N : Nat → Int32} {Q : Nat → Int64}
set_option maxHeartbeats 4000000 in
set_option maxRecDepth 100000 in
theorem sX10_wish (hX : IsX n sh) (hC : CtS I L 1 N Q) (hIv : Iv N) {t c : Nat} (ht : t < 12) (hc : c ≤ 12) (e1 : I 69 1 = nI t) (e2 : I 69 2 = nI c) (hFk : FxS I (69 + 2 + 34 * t)) (hFs : FxS I 35) {x y : Int32} : CM yX10_wish cX10_wish 5 (Option.some .int) 5 0 0 [.ref 0, .int x, .int y] z n sh I L (CA (aWish N x y) t c N Q z n sh I L) := by
  refine CM.go [some (.ref 0), some (.int x), some (.int y), none, none] rfl rfl (Nat.le_of_ble_eq_true rfl) (fun X g q => ?_)
  have hO := hIv.ok
  have hN := hO.1
  have hR := hO.2.1
  have hB := hO.2.2.1
  have hE := hO.2.2.2
  have h8 := hN.p8
  have h10 := hN.h10
  have hS := hX.now
  cases h9x : mFrom x 0 (N 231 - 1) with
  | false =>
    cases h9y : mFrom y 0 (N 230 - 1) with
    | false =>
      refine aw_aload_n dX10_wish_0 rfl ?_
      refine aw_getR (b := 1) dX10_wish_1 fX10_10 hX.k hX.b rfl hX.r0 ?_
      refine aw_iload_n dX10_wish_4 rfl ?_
      refine aw_cV dX10_wish_5 kX10_176 mX7_houseAt (sX7_houseAtN hS hC hO h9x) (Nat.le_of_ble_eq_true rfl) hS.k ⟨by decide, rfl⟩ hS.b0 rfl rfl (Nat.le_of_ble_eq_true rfl) ⟨Nat.le_refl _, Nat.le_refl _⟩ ?_
      refine aw_astore_nN dX10_wish_8 (by decide) rfl ?_
      refine aw_aload_n dX10_wish_9 rfl ?_
      refine aw_getR (b := 1) dX10_wish_10 fX10_10 hX.k hX.b rfl hX.r0 ?_
      refine aw_iload_n dX10_wish_13 rfl ?_
      refine aw_cV dX10_wish_14 kX10_132 mX7_homeAt (sX7_homeAtN hS hC hO h9y) (Nat.le_of_ble_eq_true rfl) hS.k ⟨by decide, rfl⟩ hS.b0 rfl rfl (Nat.le_of_ble_eq_true rfl) ⟨Nat.le_refl _, Nat.le_refl _⟩ ?_
      refine aw_astoreN dX10_wish_17 (by decide) rfl ?_
      refine aw_aload_nN dX10_wish_19 rfl ?_
      refine aw_ifnullN (tgt := 28) dX10_wish_20 rfl ?_
      refine aw_aload_n dX10_wish_28 rfl ?_
      refine aw_iconst (v := 2) dX10_wish_29 rfl ?_
      refine aw_cV dX10_wish_30 kX10_76 mX10_fail (sX10_fail hX) (Nat.le_of_ble_eq_true rfl) hX.k ⟨by decide, rfl⟩ hX.b rfl rfl (Nat.le_of_ble_eq_true rfl) ⟨Nat.le_refl _, Nat.le_refl _⟩ ?_
      refine aw_iret q rfl dX10_wish_33 ⟨Nat.le_refl _, Nat.le_refl _⟩ ?_
      refine CA.no (s := 2) ?_ (SpF.rf hFs)
      unfold aWish mOnes
      rw [h9x, h9y]
      rfl
    | true =>
      obtain ⟨h, hh, rfl⟩ := from_ix hN.h (by omega) h9y
      have e9h : (nI h).toNatClampNeg = h := nI_clamp (by omega)
      refine aw_aload_n dX10_wish_0 rfl ?_
      refine aw_getR (b := 1) dX10_wish_1 fX10_10 hX.k hX.b rfl hX.r0 ?_
      refine aw_iload_n dX10_wish_4 rfl ?_
      refine aw_cV dX10_wish_5 kX10_176 mX7_houseAt (sX7_houseAtN hS hC hO h9x) (Nat.le_of_ble_eq_true rfl) hS.k ⟨by decide, rfl⟩ hS.b0 rfl rfl (Nat.le_of_ble_eq_true rfl) ⟨Nat.le_refl _, Nat.le_refl _⟩ ?_
      refine aw_astore_nN dX10_wish_8 (by decide) rfl ?_
      refine aw_aload_n dX10_wish_9 rfl ?_
      refine aw_getR (b := 1) dX10_wish_10 fX10_10 hX.k hX.b rfl hX.r0 ?_
      refine aw_iload_n dX10_wish_13 rfl ?_
      refine aw_cV dX10_wish_14 kX10_132 mX7_homeAt (sX7_homeAt hS hC hO rfl hh) (Nat.le_of_ble_eq_true rfl) hS.k ⟨by decide, rfl⟩ hS.b0 rfl rfl (Nat.le_of_ble_eq_true rfl) ⟨Nat.le_refl _, Nat.le_refl _⟩ ?_
      refine aw_astore dX10_wish_17 (by decide) rfl ?_
      refine aw_aload_nN dX10_wish_19 rfl ?_
      refine aw_ifnullN (tgt := 28) dX10_wish_20 rfl ?_
      refine aw_aload_n dX10_wish_28 rfl ?_
      refine aw_iconst (v := 2) dX10_wish_29 rfl ?_
      refine aw_cV dX10_wish_30 kX10_76 mX10_fail (sX10_fail hX) (Nat.le_of_ble_eq_true rfl) hX.k ⟨by decide, rfl⟩ hX.b rfl rfl (Nat.le_of_ble_eq_true rfl) ⟨Nat.le_refl _, Nat.le_refl _⟩ ?_
      refine aw_iret q rfl dX10_wish_33 ⟨Nat.le_refl _, Nat.le_refl _⟩ ?_
      refine CA.no (s := 2) ?_ (SpF.rf hFs)
      unfold aWish mOnes
      rw [h9x, h9y]
      rfl
  | true =>
    obtain ⟨p, hp, rfl⟩ := from_ix hN.p (by omega) h9x
    have e9p : (nI p).toNatClampNeg = p := nI_clamp (by omega)
    cases h9y : mFrom y 0 (N 230 - 1) with
    | false =>
      refine aw_aload_n dX10_wish_0 rfl ?_
      refine aw_getR (b := 1) dX10_wish_1 fX10_10 hX.k hX.b rfl hX.r0 ?_
      refine aw_iload_n dX10_wish_4 rfl ?_
      refine aw_cV dX10_wish_5 kX10_176 mX7_houseAt (sX7_houseAt hS hC hO rfl hp) (Nat.le_of_ble_eq_true rfl) hS.k ⟨by decide, rfl⟩ hS.b0 rfl rfl (Nat.le_of_ble_eq_true rfl) ⟨Nat.le_refl _, Nat.le_refl _⟩ ?_
      refine aw_astore_n dX10_wish_8 (by decide) rfl ?_
      refine aw_aload_n dX10_wish_9 rfl ?_
      refine aw_getR (b := 1) dX10_wish_10 fX10_10 hX.k hX.b rfl hX.r0 ?_
      refine aw_iload_n dX10_wish_13 rfl ?_
      refine aw_cV dX10_wish_14 kX10_132 mX7_homeAt (sX7_homeAtN hS hC hO h9y) (Nat.le_of_ble_eq_true rfl) hS.k ⟨by decide, rfl⟩ hS.b0 rfl rfl (Nat.le_of_ble_eq_true rfl) ⟨Nat.le_refl _, Nat.le_refl _⟩ ?_
      refine aw_astoreN dX10_wish_17 (by decide) rfl ?_
      refine aw_aload_n dX10_wish_19 rfl ?_
      refine aw_ifnull dX10_wish_20 ?_
      refine aw_aloadN dX10_wish_23 rfl ?_
      refine aw_ifnonnullN dX10_wish_25 ?_
      refine aw_aload_n dX10_wish_28 rfl ?_
      refine aw_iconst (v := 2) dX10_wish_29 rfl ?_
      refine aw_cV dX10_wish_30 kX10_76 mX10_fail (sX10_fail hX) (Nat.le_of_ble_eq_true rfl) hX.k ⟨by decide, rfl⟩ hX.b rfl rfl (Nat.le_of_ble_eq_true rfl) ⟨Nat.le_refl _, Nat.le_refl _⟩ ?_
      refine aw_iret q rfl dX10_wish_33 ⟨Nat.le_refl _, Nat.le_refl _⟩ ?_
      refine CA.no (s := 2) ?_ (SpF.rf hFs)
      unfold aWish mOnes
      rw [h9x, h9y]
      rfl
    | true =>
      obtain ⟨h, hh, rfl⟩ := from_ix hN.h (by omega) h9y
      have e9h : (nI h).toNatClampNeg = h := nI_clamp (by omega)
      refine aw_aload_n dX10_wish_0 rfl ?_
      refine aw_getR (b := 1) dX10_wish_1 fX10_10 hX.k hX.b rfl hX.r0 ?_
      refine aw_iload_n dX10_wish_4 rfl ?_
      refine aw_cV dX10_wish_5 kX10_176 mX7_houseAt (sX7_houseAt hS hC hO rfl hp) (Nat.le_of_ble_eq_true rfl) hS.k ⟨by decide, rfl⟩ hS.b0 rfl rfl (Nat.le_of_ble_eq_true rfl) ⟨Nat.le_refl _, Nat.le_refl _⟩ ?_
      refine aw_astore_n dX10_wish_8 (by decide) rfl ?_
      refine aw_aload_n dX10_wish_9 rfl ?_
      refine aw_getR (b := 1) dX10_wish_10 fX10_10 hX.k hX.b rfl hX.r0 ?_
      refine aw_iload_n dX10_wish_13 rfl ?_
      refine aw_cV dX10_wish_14 kX10_132 mX7_homeAt (sX7_homeAt hS hC hO rfl hh) (Nat.le_of_ble_eq_true rfl) hS.k ⟨by decide, rfl⟩ hS.b0 rfl rfl (Nat.le_of_ble_eq_true rfl) ⟨Nat.le_refl _, Nat.le_refl _⟩ ?_
      refine aw_astore dX10_wish_17 (by decide) rfl ?_
      refine aw_aload_n dX10_wish_19 rfl ?_
      refine aw_ifnull dX10_wish_20 ?_
      refine aw_aload dX10_wish_23 rfl ?_
      refine aw_ifnonnull (tgt := 34) dX10_wish_25 rfl ?_
      refine aw_aload_n dX10_wish_34 rfl ?_
      refine aw_iload_n dX10_wish_35 rfl ?_
      refine aw_cV dX10_wish_36 kX10_370 mX3_rankOfWish (sX3_rankOfWish hS hC hN hp) (Nat.le_of_ble_eq_true rfl) (hS.po (by omega)) ⟨by decide, rfl⟩ (hS.pb (by omega)) rfl rfl (Nat.le_of_ble_eq_true rfl) ⟨Nat.le_refl _, Nat.le_refl _⟩ ?_
      refine aw_iconst (v := (-1)) dX10_wish_39 rfl ?_
      refine aw_icmp_eq (tgt := 49) dX10_wish_40 rfl (fun c40 => ?_) (fun c40 => ?_)
      · refine aw_aload_n dX10_wish_49 rfl ?_
        refine aw_getI dX10_wish_50 fX10_209 (hS.po (by omega)) (hS.pb (by omega)) rfl ?_
        refine AW.top ((hC.pf h8 (p := p) (w := 11) (by omega) (by decide) (by decide) (by decide)).trans (hN.w (by omega))) ?_
        have w6 := hN.w6 (show p < 8 by omega)
        refine aw_bipush (v := 6) dX10_wish_53 rfl ?_
        refine aw_icmp_lt (tgt := 64) dX10_wish_55 rfl (fun c55 => ?_) (fun c55 => ?_)
        · have l6 := (nI_ltI (a := nWi N p) (b := 6) (by omega) (by decide)).mp c55
          refine aw_aload_n dX10_wish_64 rfl ?_
          refine aw_getR (b := 69) dX10_wish_65 fX10_22 hX.k hX.b rfl hX.r2 ?_
          refine aw_aload_n dX10_wish_68 rfl ?_
          refine aw_getR (b := 1) dX10_wish_69 fX10_10 hX.k hX.b rfl hX.r0 ?_
          refine aw_kV dX10_wish_72 kX10_358 mX1_keep (sX1_keep hX.his hX.now (Or.inl (by decide)) ht e1 e2 hc hFk hC hN) (Nat.le_of_ble_eq_true rfl) hX.his.2.1 ⟨by decide, rfl⟩ hX.his.b0 rfl rfl (Nat.le_of_ble_eq_true rfl) ⟨Nat.le_refl _, Nat.le_refl _⟩ (fun J1 M1 hK1 => ?_)
          have hC1 := hK1.now hN hC
          refine aw_aload_n dX10_wish_75 rfl ?_
          refine aw_iload_n dX10_wish_76 rfl ?_
          refine aw_mV dX10_wish_77 kX10_373 mX3_addWish (sX3_addWish hS hC1 hN hp (h := h) rfl l6) (Nat.le_of_ble_eq_true rfl) (hS.po (by omega)) ⟨by decide, rfl⟩ (hS.pb (by omega)) rfl rfl (Nat.le_of_ble_eq_true rfl) ⟨Nat.le_refl _, Nat.le_refl _⟩ (fun J2 hF2 hJ2 => ?_)
          
          refine aw_aload_n dX10_wish_80 rfl ?_
          refine aw_aload_n dX10_wish_81 rfl ?_
          refine aw_getI dX10_wish_82 fX10_209 (hS.po (by omega)) (hS.pb (by omega)) rfl ?_
          have iW := wishN_Iv hIv hp hh l6
          have e11 : wishN N p h (80 + 18 * p + 11) = nI (nWi N p + 1) := upd_eq
          have eP2 : nPo (wishN N p h) = nPo N := by unfold nPo wishN mPuts; rw [upd_ne (by omega), upd_ne (by omega)]
          refine AW.top ((hJ2.pf iW.1.p8 (p := p) (w := 11) (by omega) (by decide) (by decide) (by decide)).trans e11) ?_
          refine aw_cV dX10_wish_85 kX10_94 mX10_answer (sX10_answer hX) (Nat.le_of_ble_eq_true rfl) hX.k ⟨by decide, rfl⟩ hX.b rfl rfl (Nat.le_of_ble_eq_true rfl) ⟨Nat.le_refl _, Nat.le_refl _⟩ ?_
          refine aw_iret q rfl dX10_wish_88 ⟨Nat.le_refl _, Nat.le_refl _⟩ ?_
          refine CA.ok ?_ (hK1.kf ht hN hFs hF2 hJ2)
          unfold aWish mOnes
          rw [h9x, h9y, e9p, e9h]
          exact (if_neg (show ¬ ¬ mWish N p (nI h) = -1 from fun q => q c40)).trans (if_neg (by rw [hN.w (by omega)]; exact fun q => by have := (nI_eq (b := 6) (by omega) (by decide)).mp q; omega))
        · skip
          refine aw_aload_n dX10_wish_58 rfl ?_
          refine aw_iconst (v := 3) dX10_wish_59 rfl ?_
          refine aw_cV dX10_wish_60 kX10_76 mX10_fail (sX10_fail hX) (Nat.le_of_ble_eq_true rfl) hX.k ⟨by decide, rfl⟩ hX.b rfl rfl (Nat.le_of_ble_eq_true rfl) ⟨Nat.le_refl _, Nat.le_refl _⟩ ?_
          refine aw_iret q rfl dX10_wish_63 ⟨Nat.le_refl _, Nat.le_refl _⟩ ?_
          have e6 : N (80 + 18 * p + 11) = 6 := by
            have z9 := mt (nI_ltI (a := nWi N p) (b := 6) (by omega) (by decide)).mpr c55
            rw [hN.w (by omega), show nWi N p = 6 by omega]
            rfl
          refine CA.no (s := 3) ?_ (SpF.rf hFs)
          unfold aWish mOnes
          rw [h9x, h9y, e9p]
          exact (if_neg (show ¬ ¬ mWish N p (nI h) = -1 from fun q => q c40)).trans (if_pos e6)
      · refine aw_aload_n dX10_wish_43 rfl ?_
        refine aw_iconst (v := 4) dX10_wish_44 rfl ?_
        refine aw_cV dX10_wish_45 kX10_76 mX10_fail (sX10_fail hX) (Nat.le_of_ble_eq_true rfl) hX.k ⟨by decide, rfl⟩ hX.b rfl rfl (Nat.le_of_ble_eq_true rfl) ⟨Nat.le_refl _, Nat.le_refl _⟩ ?_
        refine aw_iret q rfl dX10_wish_48 ⟨Nat.le_refl _, Nat.le_refl _⟩ ?_
        refine CA.no (s := 4) ?_ (SpF.rf hFs)
        unfold aWish mOnes
        rw [h9x, h9y, e9p]
        exact if_pos c40
set_option maxHeartbeats 4000000 in
set_option maxRecDepth 100000 in
theorem sX10_unwish (hX : IsX n sh) (hC : CtS I L 1 N Q) (hIv : Iv N) {t c : Nat} (ht : t < 12) (hc : c ≤ 12) (e1 : I 69 1 = nI t) (e2 : I 69 2 = nI c) (hFk : FxS I (69 + 2 + 34 * t)) (hFs : FxS I 35) {x y : Int32} : CM yX10_unwish cX10_unwish 6 (Option.some .int) 5 0 0 [.ref 0, .int x, .int y] z n sh I L (CA (aUnwish N x y) t c N Q z n sh I L) := by
  refine CM.go [some (.ref 0), some (.int x), some (.int y), none, none, none] rfl rfl (Nat.le_of_ble_eq_true rfl) (fun X g q => ?_)
  have hO := hIv.ok
  have hN := hO.1
  have hR := hO.2.1
  have hB := hO.2.2.1
  have hE := hO.2.2.2
  have h8 := hN.p8
  have h10 := hN.h10
  have hS := hX.now
  cases h9x : mFrom x 0 (N 231 - 1) with
  | false =>
    cases h9y : mFrom y 0 (N 230 - 1) with
    | false =>
      refine aw_aload_n dX10_unwish_0 rfl ?_
      refine aw_getR (b := 1) dX10_unwish_1 fX10_10 hX.k hX.b rfl hX.r0 ?_
      refine aw_iload_n dX10_unwish_4 rfl ?_
      refine aw_cV dX10_unwish_5 kX10_176 mX7_houseAt (sX7_houseAtN hS hC hO h9x) (Nat.le_of_ble_eq_true rfl) hS.k ⟨by decide, rfl⟩ hS.b0 rfl rfl (Nat.le_of_ble_eq_true rfl) ⟨Nat.le_refl _, Nat.le_refl _⟩ ?_
      refine aw_astore_nN dX10_unwish_8 (by decide) rfl ?_
      refine aw_aload_n dX10_unwish_9 rfl ?_
      refine aw_getR (b := 1) dX10_unwish_10 fX10_10 hX.k hX.b rfl hX.r0 ?_
      refine aw_iload_n dX10_unwish_13 rfl ?_
      refine aw_cV dX10_unwish_14 kX10_132 mX7_homeAt (sX7_homeAtN hS hC hO h9y) (Nat.le_of_ble_eq_true rfl) hS.k ⟨by decide, rfl⟩ hS.b0 rfl rfl (Nat.le_of_ble_eq_true rfl) ⟨Nat.le_refl _, Nat.le_refl _⟩ ?_
      refine aw_astoreN dX10_unwish_17 (by decide) rfl ?_
      refine aw_aload_nN dX10_unwish_19 rfl ?_
      refine aw_ifnullN (tgt := 28) dX10_unwish_20 rfl ?_
      refine aw_aload_n dX10_unwish_28 rfl ?_
      refine aw_iconst (v := 2) dX10_unwish_29 rfl ?_
      refine aw_cV dX10_unwish_30 kX10_76 mX10_fail (sX10_fail hX) (Nat.le_of_ble_eq_true rfl) hX.k ⟨by decide, rfl⟩ hX.b rfl rfl (Nat.le_of_ble_eq_true rfl) ⟨Nat.le_refl _, Nat.le_refl _⟩ ?_
      refine aw_iret q rfl dX10_unwish_33 ⟨Nat.le_refl _, Nat.le_refl _⟩ ?_
      refine CA.no (s := 2) ?_ (SpF.rf hFs)
      unfold aUnwish mOnes
      rw [h9x, h9y]
      rfl
    | true =>
      obtain ⟨h, hh, rfl⟩ := from_ix hN.h (by omega) h9y
      have e9h : (nI h).toNatClampNeg = h := nI_clamp (by omega)
      refine aw_aload_n dX10_unwish_0 rfl ?_
      refine aw_getR (b := 1) dX10_unwish_1 fX10_10 hX.k hX.b rfl hX.r0 ?_
      refine aw_iload_n dX10_unwish_4 rfl ?_
      refine aw_cV dX10_unwish_5 kX10_176 mX7_houseAt (sX7_houseAtN hS hC hO h9x) (Nat.le_of_ble_eq_true rfl) hS.k ⟨by decide, rfl⟩ hS.b0 rfl rfl (Nat.le_of_ble_eq_true rfl) ⟨Nat.le_refl _, Nat.le_refl _⟩ ?_
      refine aw_astore_nN dX10_unwish_8 (by decide) rfl ?_
      refine aw_aload_n dX10_unwish_9 rfl ?_
      refine aw_getR (b := 1) dX10_unwish_10 fX10_10 hX.k hX.b rfl hX.r0 ?_
      refine aw_iload_n dX10_unwish_13 rfl ?_
      refine aw_cV dX10_unwish_14 kX10_132 mX7_homeAt (sX7_homeAt hS hC hO rfl hh) (Nat.le_of_ble_eq_true rfl) hS.k ⟨by decide, rfl⟩ hS.b0 rfl rfl (Nat.le_of_ble_eq_true rfl) ⟨Nat.le_refl _, Nat.le_refl _⟩ ?_
      refine aw_astore dX10_unwish_17 (by decide) rfl ?_
      refine aw_aload_nN dX10_unwish_19 rfl ?_
      refine aw_ifnullN (tgt := 28) dX10_unwish_20 rfl ?_
      refine aw_aload_n dX10_unwish_28 rfl ?_
      refine aw_iconst (v := 2) dX10_unwish_29 rfl ?_
      refine aw_cV dX10_unwish_30 kX10_76 mX10_fail (sX10_fail hX) (Nat.le_of_ble_eq_true rfl) hX.k ⟨by decide, rfl⟩ hX.b rfl rfl (Nat.le_of_ble_eq_true rfl) ⟨Nat.le_refl _, Nat.le_refl _⟩ ?_
      refine aw_iret q rfl dX10_unwish_33 ⟨Nat.le_refl _, Nat.le_refl _⟩ ?_
      refine CA.no (s := 2) ?_ (SpF.rf hFs)
      unfold aUnwish mOnes
      rw [h9x, h9y]
      rfl
  | true =>
    obtain ⟨p, hp, rfl⟩ := from_ix hN.p (by omega) h9x
    have e9p : (nI p).toNatClampNeg = p := nI_clamp (by omega)
    cases h9y : mFrom y 0 (N 230 - 1) with
    | false =>
      refine aw_aload_n dX10_unwish_0 rfl ?_
      refine aw_getR (b := 1) dX10_unwish_1 fX10_10 hX.k hX.b rfl hX.r0 ?_
      refine aw_iload_n dX10_unwish_4 rfl ?_
      refine aw_cV dX10_unwish_5 kX10_176 mX7_houseAt (sX7_houseAt hS hC hO rfl hp) (Nat.le_of_ble_eq_true rfl) hS.k ⟨by decide, rfl⟩ hS.b0 rfl rfl (Nat.le_of_ble_eq_true rfl) ⟨Nat.le_refl _, Nat.le_refl _⟩ ?_
      refine aw_astore_n dX10_unwish_8 (by decide) rfl ?_
      refine aw_aload_n dX10_unwish_9 rfl ?_
      refine aw_getR (b := 1) dX10_unwish_10 fX10_10 hX.k hX.b rfl hX.r0 ?_
      refine aw_iload_n dX10_unwish_13 rfl ?_
      refine aw_cV dX10_unwish_14 kX10_132 mX7_homeAt (sX7_homeAtN hS hC hO h9y) (Nat.le_of_ble_eq_true rfl) hS.k ⟨by decide, rfl⟩ hS.b0 rfl rfl (Nat.le_of_ble_eq_true rfl) ⟨Nat.le_refl _, Nat.le_refl _⟩ ?_
      refine aw_astoreN dX10_unwish_17 (by decide) rfl ?_
      refine aw_aload_n dX10_unwish_19 rfl ?_
      refine aw_ifnull dX10_unwish_20 ?_
      refine aw_aloadN dX10_unwish_23 rfl ?_
      refine aw_ifnonnullN dX10_unwish_25 ?_
      refine aw_aload_n dX10_unwish_28 rfl ?_
      refine aw_iconst (v := 2) dX10_unwish_29 rfl ?_
      refine aw_cV dX10_unwish_30 kX10_76 mX10_fail (sX10_fail hX) (Nat.le_of_ble_eq_true rfl) hX.k ⟨by decide, rfl⟩ hX.b rfl rfl (Nat.le_of_ble_eq_true rfl) ⟨Nat.le_refl _, Nat.le_refl _⟩ ?_
      refine aw_iret q rfl dX10_unwish_33 ⟨Nat.le_refl _, Nat.le_refl _⟩ ?_
      refine CA.no (s := 2) ?_ (SpF.rf hFs)
      unfold aUnwish mOnes
      rw [h9x, h9y]
      rfl
    | true =>
      obtain ⟨h, hh, rfl⟩ := from_ix hN.h (by omega) h9y
      have e9h : (nI h).toNatClampNeg = h := nI_clamp (by omega)
      refine aw_aload_n dX10_unwish_0 rfl ?_
      refine aw_getR (b := 1) dX10_unwish_1 fX10_10 hX.k hX.b rfl hX.r0 ?_
      refine aw_iload_n dX10_unwish_4 rfl ?_
      refine aw_cV dX10_unwish_5 kX10_176 mX7_houseAt (sX7_houseAt hS hC hO rfl hp) (Nat.le_of_ble_eq_true rfl) hS.k ⟨by decide, rfl⟩ hS.b0 rfl rfl (Nat.le_of_ble_eq_true rfl) ⟨Nat.le_refl _, Nat.le_refl _⟩ ?_
      refine aw_astore_n dX10_unwish_8 (by decide) rfl ?_
      refine aw_aload_n dX10_unwish_9 rfl ?_
      refine aw_getR (b := 1) dX10_unwish_10 fX10_10 hX.k hX.b rfl hX.r0 ?_
      refine aw_iload_n dX10_unwish_13 rfl ?_
      refine aw_cV dX10_unwish_14 kX10_132 mX7_homeAt (sX7_homeAt hS hC hO rfl hh) (Nat.le_of_ble_eq_true rfl) hS.k ⟨by decide, rfl⟩ hS.b0 rfl rfl (Nat.le_of_ble_eq_true rfl) ⟨Nat.le_refl _, Nat.le_refl _⟩ ?_
      refine aw_astore dX10_unwish_17 (by decide) rfl ?_
      refine aw_aload_n dX10_unwish_19 rfl ?_
      refine aw_ifnull dX10_unwish_20 ?_
      refine aw_aload dX10_unwish_23 rfl ?_
      refine aw_ifnonnull (tgt := 34) dX10_unwish_25 rfl ?_
      refine aw_aload_n dX10_unwish_34 rfl ?_
      refine aw_iload_n dX10_unwish_35 rfl ?_
      refine aw_cV dX10_unwish_36 kX10_370 mX3_rankOfWish (sX3_rankOfWish hS hC hN hp) (Nat.le_of_ble_eq_true rfl) (hS.po (by omega)) ⟨by decide, rfl⟩ (hS.pb (by omega)) rfl rfl (Nat.le_of_ble_eq_true rfl) ⟨Nat.le_refl _, Nat.le_refl _⟩ ?_
      refine aw_istore dX10_unwish_39 (by decide) rfl ?_
      refine aw_iload dX10_unwish_41 rfl ?_
      refine aw_iconst (v := (-1)) dX10_unwish_43 rfl ?_
      refine aw_icmp_ne (tgt := 53) dX10_unwish_44 rfl (fun c44 => ?_) (fun c44 => ?_)
      · have w6 := hN.w6 (show p < 8 by omega)
        obtain ⟨a, ha, ea⟩ : ∃ a, a < nWi N p ∧ mWish N p (nI h) = nI a := by
          unfold mWish iFirst at c44 ⊢
          split at c44
          · rename_i z9
            exact ⟨_, z9, if_pos z9⟩
          · exact absurd rfl c44
        refine aw_aload_n dX10_unwish_53 rfl ?_
        refine aw_getR (b := 69) dX10_unwish_54 fX10_22 hX.k hX.b rfl hX.r2 ?_
        refine aw_aload_n dX10_unwish_57 rfl ?_
        refine aw_getR (b := 1) dX10_unwish_58 fX10_10 hX.k hX.b rfl hX.r0 ?_
        refine aw_kV dX10_unwish_61 kX10_358 mX1_keep (sX1_keep hX.his hX.now (Or.inl (by decide)) ht e1 e2 hc hFk hC hN) (Nat.le_of_ble_eq_true rfl) hX.his.2.1 ⟨by decide, rfl⟩ hX.his.b0 rfl rfl (Nat.le_of_ble_eq_true rfl) ⟨Nat.le_refl _, Nat.le_refl _⟩ (fun J1 M1 hK1 => ?_)
        have hC1 := hK1.now hN hC
        refine aw_aload_n dX10_unwish_64 rfl ?_
        refine aw_iload dX10_unwish_65 rfl ?_
        refine aw_mV dX10_unwish_67 kX10_376 mX3_dropWish (sX3_dropWish hS hC1 hN hIv hp ea ha) (Nat.le_of_ble_eq_true rfl) (hS.po (by omega)) ⟨by decide, rfl⟩ (hS.pb (by omega)) rfl rfl (Nat.le_of_ble_eq_true rfl) ⟨Nat.le_refl _, Nat.le_refl _⟩ (fun J2 hF2 hJ2 => ?_)
        
        refine aw_aload_n dX10_unwish_70 rfl ?_
        refine aw_aload_n dX10_unwish_71 rfl ?_
        refine aw_getI dX10_unwish_72 fX10_209 (hS.po (by omega)) (hS.pb (by omega)) rfl ?_
        have iW := unwN_Iv hIv hp ha
        have e11 : unwN N p a (80 + 18 * p + 11) = nI (nWi N p - 1) := upd_eq
        have eP2 : nPo (unwN N p a) = nPo N := by
          show (unwN N p a 231).toNatClampNeg = _
          unfold unwN
          rw [show mPuts (unwL N p a (nWi N p - 1 - a)) p 11 (nI (nWi N p - 1)) 231 = unwL N p a (nWi N p - 1 - a) 231 from upd_ne (by omega), unwL_rd _ (by omega)]
          rfl
        refine AW.top ((hJ2.pf iW.1.p8 (p := p) (w := 11) (by omega) (by decide) (by decide) (by decide)).trans e11) ?_
        refine aw_cV dX10_unwish_75 kX10_94 mX10_answer (sX10_answer hX) (Nat.le_of_ble_eq_true rfl) hX.k ⟨by decide, rfl⟩ hX.b rfl rfl (Nat.le_of_ble_eq_true rfl) ⟨Nat.le_refl _, Nat.le_refl _⟩ ?_
        refine aw_iret q rfl dX10_unwish_78 ⟨Nat.le_refl _, Nat.le_refl _⟩ ?_
        refine CA.ok ?_ (hK1.kf ht hN hFs hF2 hJ2)
        unfold aUnwish mOnes
        rw [h9x, h9y, e9p, ea, nI_clamp (by omega)]
        exact if_neg (nI_ne_m1 (by omega))
      · skip
        refine aw_aload_n dX10_unwish_47 rfl ?_
        refine aw_iconst (v := 5) dX10_unwish_48 rfl ?_
        refine aw_cV dX10_unwish_49 kX10_76 mX10_fail (sX10_fail hX) (Nat.le_of_ble_eq_true rfl) hX.k ⟨by decide, rfl⟩ hX.b rfl rfl (Nat.le_of_ble_eq_true rfl) ⟨Nat.le_refl _, Nat.le_refl _⟩ ?_
        refine aw_iret q rfl dX10_unwish_52 ⟨Nat.le_refl _, Nat.le_refl _⟩ ?_
        refine CA.no (s := 5) ?_ (SpF.rf hFs)
        unfold aUnwish mOnes
        rw [h9x, h9y, e9p]
        exact if_pos c44
end ClsS
