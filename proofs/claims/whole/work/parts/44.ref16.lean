/-! the reference: a text is read -/
def hN (i a : Nat) : Int32 := if i < a then nI i else -1
def PcO (R : Nat → Int32) : Prop := R 230 = nI (cH R) ∧ cH R ≤ 10 ∧ R 231 = nI (cP R) ∧ cP R ≤ 8
theorem pNum_row {T : Nat → Int32} {s i : Nat} {lo mo : Int32} {p p' : PSt} (h : pNum T s i lo mo p = .inr p') : p' = (nx T s p.1, upd p.2.1 i p.1.2.2.2.2, p.2.2) ∧ lo ≤ p.1.2.2.2.2 ∧ p.1.2.2.2.2 ≤ mo ∧ p.1.2.2.1 = 3 := by
  unfold pNum at h
  split at h
  · split at h
    · rename_i h1 h2
      exact ⟨(Sum.inr.inj h).symm, h2.1, h2.2, h1⟩
    · cases h
  · cases h
theorem pName_row {T : Nat → Int32} {s i : Nat} {p p' : PSt} (h : pName T s i p = .inr p') : p' = (nx T s p.1, p.2.1, vp_updL p.2.2 i p.1.2.2.2.1) ∧ tNm p.1 = true ∧ pTaken p.2.2 p.1.2.2.2.1 (cH p.2.1) (cP p.2.1) = false := by
  unfold pName at h
  split at h
  · rename_i h1
    split at h
    · cases h
    · rename_i h2
      exact ⟨(Sum.inr.inj h).symm, h1, by simpa using h2⟩
  · cases h
theorem tNm2 {k : Tk} (h : tNm k = true) : k.2.2.1 = 2 := by
  unfold tNm at h
  simp at h
  exact h.1
theorem upd_c {R : Nat → Int32} {i k : Nat} {v x : Int32} (h : k ≠ i) (hx : R k = x) : upd R i v k = x := (pk_un h).trans hx
theorem PcO.up {R : Nat → Int32} (h : PcO R) {i : Nat} {v : Int32} (h1 : i ≠ 230) (h2 : i ≠ 231) : PcO (upd R i v) ∧ cH (upd R i v) = cH R ∧ cP (upd R i v) = cP R := by
  have e1 : cH (upd R i v) = cH R := by
    unfold cH
    rw [pk_un (Ne.symm h1)]
  have e2 : cP (upd R i v) = cP R := by
    unfold cP
    rw [pk_un (Ne.symm h2)]
  refine ⟨?_, e1, e2⟩
  unfold PcO
  rw [e1, e2, pk_un (Ne.symm h1), pk_un (Ne.symm h2)]
  exact h
theorem pIn_row {T : Nat → Int32} {s h0 : Nat} {p p' : PSt} (h : pIn T s h0 p = .inr p') : ∃ h, h < cH p.2.1 ∧ p.2.1 (8 * h + 2) = -1 ∧ p' = (nx T s (nx T s p.1), upd (upd p.2.1 (80 + 18 * h0 + 4) (nI h)) (8 * h + 2) (nI h0), p.2.2) := by
  unfold pIn at h
  split at h
  · split at h
    · rename_i h1 h2
      exact ⟨_, h2.1, h2.2, (Sum.inr.inj h).symm⟩
    · cases h
  · cases h
theorem pWish_row {T : Nat → Int32} {s h0 : Nat} {p p' : PSt} (h : pWish T s h0 p = .inr p') : ∃ h, h < cH p.2.1 ∧ (∀ k, k < cW p.2.1 h0 → ¬ p.2.1 (80 + 18 * h0 + (12 + k)) = nI h) ∧ cW p.2.1 h0 ≠ 6 ∧ p' = (nx T s p.1, upd (upd p.2.1 (80 + 18 * h0 + (12 + cW p.2.1 h0)) (nI h)) (80 + 18 * h0 + 11) (nI (cW p.2.1 h0 + 1)), p.2.2) := by
  unfold pWish at h
  split at h
  · rename_i h1
    split at h
    · cases h
    · rename_i h2
      split at h
      · cases h
      · rename_i h3
        refine ⟨_, h1, fun k hk => ?_, h3, (Sum.inr.inj h).symm⟩
        have hle := fa_first_le (fun k => decide (p.2.1 (80 + 18 * h0 + (12 + k)) = nI (pHere p.2.2 p.1.2.2.2.1 (cH p.2.1)))) (cW p.2.1 h0)
        have := fa_first_no (fun k => decide (p.2.1 (80 + 18 * h0 + (12 + k)) = nI (pHere p.2.2 p.1.2.2.2.1 (cH p.2.1)))) (cW p.2.1 h0) k (by omega)
        simpa using this
  · cases h
section RefS
variable {z n m : Nat} {sh : Shp} {I : MI} {L : ML}
theorem rX11_isWord (hM : IsM n sh m) {T : Nat → Int32} {s : Nat} {k : Tk} (hA : At I L m T s k) (hO : TkO s k) {x : Int32} {i : Nat} (hx : x = nI i) (hi : i < 10) : CM yX11_isWord cX11_isWord 2 (Option.some .boolean) 4 0 0 [.ref m, .int x] z n sh I L (Pst (some (.int (bI (tWd k i)))) z n sh I L) := by
  have h := sX11_isWord (z := z) (n := n) (sh := sh) (I := I) (L := L) hM hx hi
  rw [isWd_tk hA hO] at h
  exact h
set_option maxHeartbeats 4000000 in
set_option maxRecDepth 100000 in
theorem sX11_isName (hM : IsM n sh m) {T : Nat → Int32} {s : Nat} {k : Tk} (hA : At I L m T s k) (hO : TkO s k) : CM yX11_isName cX11_isName 2 (Option.some .boolean) 5 0 0 [.ref m] z n sh I L (Pst (some (.int (bI (tNm k)))) z n sh I L) := by
  refine CM.go [some (.ref m), none] rfl rfl (Nat.le_of_ble_eq_true rfl) (fun X g q => ?_)
  have loop : ∀ i, i ≤ 10 → fa_first (tWd k) i = i → AW X g RX11 cX11_isName 2 (5, 0, 0) (z, n, sh, 0, 0) (I) (L) 2 [some (.ref m), some (.int (nI i))] [] := by
    refine up_loop (fun i hi ih hfi => ?_)
    refine aw_iload_n dX11_isName_2 rfl ?_
    refine aw_bipush (v := 9) dX11_isName_3 rfl ?_
    refine aw_icmp_gt (tgt := 24) dX11_isName_5 rfl (fun c5 => ?_) (fun c5 => ?_)
    · have e : i = 10 := by
        have := (nI_ltI (a := 9) (by decide) (by omega)).mp c5
        omega
      subst e
      refine aw_aload_n dX11_isName_24 rfl ?_
      refine aw_getI dX11_isName_25 fX11_99 hM.k hM.b rfl ?_
      refine aw_iconst (v := 2) dX11_isName_28 rfl ?_
      refine aw_icmp_ne (tgt := 36) dX11_isName_29 rfl (fun c29 => ?_) (fun c29 => ?_)
      · refine aw_iconst (v := 0) dX11_isName_36 rfl ?_
        refine aw_zret q rfl (by decide) dX11_isName_37 ⟨Nat.le_refl _, Nat.le_refl _⟩ ?_
        refine Pst.iv ?_
        rw [hA.2.2.2.2.1] at c29
        have c9 := mt (kind_eq hO (j := 2) (by decide)).mpr c29
        have e9 : tNm k = false := by
          unfold tNm
          simp [c9]
        rw [e9]
        rfl
      · refine aw_iconst (v := 1) dX11_isName_32 rfl ?_
        refine aw_goto (tgt := 37) dX11_isName_33 rfl ?_
        refine aw_zret q rfl (by decide) dX11_isName_37 ⟨Nat.le_refl _, Nat.le_refl _⟩ ?_
        refine Pst.iv ?_
        rw [hA.2.2.2.2.1] at c29
        have c9 := (kind_eq hO (j := 2) (by decide)).mp c29
        have e9 : tNm k = true := by
          unfold tNm
          rw [hfi, c9]
          rfl
        rw [e9]
        rfl
    · have hlt : i < 10 := by
        have := mt (nI_ltI (a := 9) (by decide) (by omega)).mpr c5
        omega
      refine aw_aload_n dX11_isName_8 rfl ?_
      refine aw_iload_n dX11_isName_9 rfl ?_
      refine aw_cV dX11_isName_10 kX11_130 mX11_isWord (rX11_isWord (i := i) hM hA hO rfl hlt) (Nat.le_of_ble_eq_true rfl) hM.k ⟨by decide, rfl⟩ hM.b rfl rfl (Nat.le_of_ble_eq_true rfl) ⟨Nat.le_refl _, Nat.le_refl _⟩ ?_
      refine aw_if_eq (tgt := 18) dX11_isName_13 rfl (fun c13 => ?_) (fun c13 => ?_)
      · refine aw_iinc dX11_isName_18 rfl (ginc rfl) (by decide) rfl ?_
        refine aw_goto (tgt := 2) dX11_isName_21 rfl ?_
        exact ih hlt (fa_first_no1 hfi (by rw [bI0.mp c13]; exact Bool.false_ne_true))
      · refine aw_iconst (v := 0) dX11_isName_16 rfl ?_
        refine aw_zret q rfl (by decide) dX11_isName_17 ⟨Nat.le_refl _, Nat.le_refl _⟩ ?_
        refine Pst.iv ?_
        have e9 : tNm k = false := by
          unfold tNm
          rw [fa_first_yes1 hfi (bI1.mp c13) hlt]
          have : ¬ i = 10 := by omega
          simp [this]
        rw [e9]
        rfl
  refine aw_iconst (v := 0) dX11_isName_0 rfl ?_
  refine aw_istore_n dX11_isName_1 (by decide) rfl ?_
  exact loop 0 (Nat.zero_le _) rfl
set_option maxHeartbeats 4000000 in
set_option maxRecDepth 100000 in
theorem rX11_bad (hM : IsM n sh m) {T : Nat → Int32} {s : Nat} {k : Tk} (hA : At I L m T s k) (hO : TkO s k) {x : Int32} {c : Nat} (hx : x = nI c) : CM yX11_bad cX11_bad 2 (Option.some .boolean) 1 0 0 [.ref m, .int x] z n sh I L (PrP z n sh I L m T s (pBad k c)) := by
  refine CM.go [some (.ref m), some (.int x)] rfl rfl (Nat.le_of_ble_eq_true rfl) (fun X g q => ?_)
  refine aw_aload_n dX11_bad_0 rfl ?_
  refine aw_aload_n dX11_bad_1 rfl ?_
  refine aw_getI dX11_bad_2 fX11_99 hM.k hM.b rfl ?_
  refine aw_iconst (v := 1) dX11_bad_5 rfl ?_
  refine aw_icmp_ne (tgt := 13) dX11_bad_6 rfl (fun c6 => ?_) (fun c6 => ?_)
  · refine aw_iload_n dX11_bad_13 rfl ?_
    refine aw_putI dX11_bad_14 fX11_133 hM.k hM.b rfl rfl ?_
    refine aw_aload_n dX11_bad_17 rfl ?_
    refine aw_aload_n dX11_bad_18 rfl ?_
    refine aw_getI dX11_bad_19 fX11_96 hM.k hM.b rfl ?_
    refine aw_putI dX11_bad_22 fX11_136 hM.k hM.b rfl rfl ?_
    refine aw_iconst (v := 0) dX11_bad_25 rfl ?_
    refine aw_zret q rfl (by decide) dX11_bad_26 ⟨Nat.le_refl _, Nat.le_refl _⟩ ?_
    rw [hA.2.2.2.2.1] at c6
    have c9 := mt (kind_eq hO (j := 1) (by decide)).mpr c6
    refine PrP.fail ((RdF.put (by decide)).tr (RdF.put (by decide))) rfl (fI_n (by decide) (fI_s.trans ?_)) (fI_s.trans (fI_n (by decide) hA.2.2.1))
    rw [if_neg c9]
    exact hx
  · refine aw_iconst (v := 1) dX11_bad_9 rfl ?_
    refine aw_goto (tgt := 14) dX11_bad_10 rfl ?_
    refine aw_putI dX11_bad_14 fX11_133 hM.k hM.b rfl rfl ?_
    refine aw_aload_n dX11_bad_17 rfl ?_
    refine aw_aload_n dX11_bad_18 rfl ?_
    refine aw_getI dX11_bad_19 fX11_96 hM.k hM.b rfl ?_
    refine aw_putI dX11_bad_22 fX11_136 hM.k hM.b rfl rfl ?_
    refine aw_iconst (v := 0) dX11_bad_25 rfl ?_
    refine aw_zret q rfl (by decide) dX11_bad_26 ⟨Nat.le_refl _, Nat.le_refl _⟩ ?_
    rw [hA.2.2.2.2.1] at c6
    have c9 := (kind_eq hO (j := 1) (by decide)).mp c6
    refine PrP.fail ((RdF.put (by decide)).tr (RdF.put (by decide))) rfl (fI_n (by decide) (fI_s.trans ?_)) (fI_s.trans (fI_n (by decide) hA.2.2.1))
    rw [if_pos c9]
    rfl
set_option maxHeartbeats 4000000 in
set_option maxRecDepth 100000 in
theorem rX11_readEnd (hM : IsM n sh m) {T : Nat → Int32} {s : Nat} (hs9 : s ≤ 900) {p : PSt} (hP : Ps I L m T s p)  : CM yX11_readEnd cX11_readEnd 1 (Option.some .boolean) 3 0 0 [.ref m] z n sh I L (PrP z n sh I L m T s (pEnd T s p)) := by
  refine CM.go [some (.ref m)] rfl rfl (Nat.le_of_ble_eq_true rfl) (fun X g q => ?_)
  refine aw_aload_n dX11_readEnd_0 rfl ?_
  refine aw_getI dX11_readEnd_1 fX11_99 hM.k hM.b rfl ?_
  refine aw_iconst (v := 4) dX11_readEnd_4 rfl ?_
  refine aw_icmp_eq (tgt := 14) dX11_readEnd_5 rfl (fun c5 => ?_) (fun c5 => ?_)
  · rw [hP.1.2.2.2.2.1] at c5
    have c9 := (kind_eq hP.2.1 (j := 4) (by decide)).mp c5
    refine aw_aload_n dX11_readEnd_14 rfl ?_
    refine aw_callV dX11_readEnd_15 kX11_142 mX11_go (rX11_go hM hP.1.1 hP.1.2.1 hP.1.2.2.2.1 hs9 hP.2.1.2.1) (Nat.le_of_ble_eq_true rfl) hM.k ⟨by decide, rfl⟩ hM.b rfl rfl (Nat.le_of_ble_eq_true rfl) ⟨Nat.le_refl _, Nat.le_refl _⟩ (fun v2 z2 n2 sh2 J2 M2 hp2 => ?_)
    obtain ⟨rfl, rfl, rfl, rfl, hG2, hA2⟩ := hp2
    have hP2 := Ps.go hP hG2 hA2
    refine aw_iconst (v := 1) dX11_readEnd_18 rfl ?_
    refine aw_zret q rfl (by decide) dX11_readEnd_19 ⟨Nat.le_refl _, Nat.le_refl _⟩ ?_
    exact PrP.good (RdF.go hG2) (if_pos c9) hG2.f18.1 hG2.f18.2 hP2
  · rw [hP.1.2.2.2.2.1] at c5
    have c9 := mt (kind_eq hP.2.1 (j := 4) (by decide)).mpr c5
    refine aw_aload_n dX11_readEnd_8 rfl ?_
    refine aw_iconst (v := 2) dX11_readEnd_9 rfl ?_
    refine aw_callV dX11_readEnd_10 kX11_139 mX11_bad (rX11_bad (c := 2) hM hP.1 hP.2.1 rfl) (Nat.le_of_ble_eq_true rfl) hM.k ⟨by decide, rfl⟩ hM.b rfl rfl (Nat.le_of_ble_eq_true rfl) ⟨Nat.le_refl _, Nat.le_refl _⟩ (fun v1 z1 n1 sh1 J1 M1 hp1 => ?_)
    obtain ⟨b1, rfl, rfl, rfl, rfl, hF1, hr1⟩ := hp1
    refine aw_zret q rfl hr1.b dX11_readEnd_13 ⟨Nat.le_refl _, Nat.le_refl _⟩ ?_
    exact PrP.with_ RdF.rf rfl rfl hF1 hr1 (if_neg c9)
set_option maxHeartbeats 4000000 in
set_option maxRecDepth 100000 in
theorem rX11_readNumber (hM : IsM n sh m) {T : Nat → Int32} {s : Nat} (hs9 : s ≤ 900) {p : PSt} (hP : Ps I L m T s p) {x lo mo : Int32} {into : Nat} (hx : x = nI into) (hi : into < 390) : CM yX11_readNumber cX11_readNumber 4 (Option.some .boolean) 3 0 0 [.ref m, .int x, .int lo, .int mo] z n sh I L (PrP z n sh I L m T s (pNum T s into lo mo p)) := by
  refine CM.go [some (.ref m), some (.int x), some (.int lo), some (.int mo)] rfl rfl (Nat.le_of_ble_eq_true rfl) (fun X g q => ?_)
  refine aw_aload_n dX11_readNumber_0 rfl ?_
  refine aw_getI dX11_readNumber_1 fX11_99 hM.k hM.b rfl ?_
  refine aw_iconst (v := 3) dX11_readNumber_4 rfl ?_
  refine aw_icmp_eq (tgt := 14) dX11_readNumber_5 rfl (fun c5 => ?_) (fun c5 => ?_)
  · rw [hP.1.2.2.2.2.1] at c5
    have c9 := (kind_eq hP.2.1 (j := 3) (by decide)).mp c5
    have hv := hP.1.2.2.2.2.2.2 c9
    refine aw_aload_n dX11_readNumber_14 rfl ?_
    refine aw_getI dX11_readNumber_15 fX11_115 hM.k hM.b rfl ?_
    refine aw_iload_n dX11_readNumber_18 rfl ?_
    refine aw_iload_n dX11_readNumber_19 rfl ?_
    refine aw_cS dX11_readNumber_20 kX11_71 mX11_isFrom (sX11_isFrom hM) (Nat.le_of_ble_eq_true rfl) rfl rfl (Nat.le_of_ble_eq_true rfl) ⟨Nat.le_refl _, Nat.le_refl _⟩ ?_
    refine aw_if_ne (tgt := 32) dX11_readNumber_23 rfl (fun c23 => ?_) (fun c23 => ?_)
    · have f9 := bI1.mp c23
      rw [hv] at f9
      have g9 : lo ≤ p.1.2.2.2.2 ∧ p.1.2.2.2.2 ≤ mo := by simpa [mFrom] using f9
      refine aw_aload_n dX11_readNumber_32 rfl ?_
      refine aw_getR (b := m + 2) dX11_readNumber_33 fX11_13 hM.k hM.b rfl hM.r1 ?_
      refine aw_iload_n dX11_readNumber_36 rfl ?_
      refine aw_aload_n dX11_readNumber_37 rfl ?_
      refine aw_getI dX11_readNumber_38 fX11_115 hM.k hM.b rfl ?_
      refine aw_iastN (k := into) dX11_readNumber_41 hM.k1 hM.b1 hM.l1 hx (by omega) (by decide) ?_
      have hP4 := Ps.row (k := into) (v := I m 17) hP rfl
      refine aw_aload_n dX11_readNumber_42 rfl ?_
      refine aw_callV dX11_readNumber_43 kX11_142 mX11_go (rX11_go hM hP4.1.1 hP4.1.2.1 hP4.1.2.2.2.1 hs9 hP4.2.1.2.1) (Nat.le_of_ble_eq_true rfl) hM.k ⟨by decide, rfl⟩ hM.b rfl rfl (Nat.le_of_ble_eq_true rfl) ⟨Nat.le_refl _, Nat.le_refl _⟩ (fun v2 z2 n2 sh2 J2 M2 hp2 => ?_)
      obtain ⟨rfl, rfl, rfl, rfl, hG2, hA2⟩ := hp2
      have hP2 := Ps.go hP4 hG2 hA2
      refine aw_iconst (v := 1) dX11_readNumber_46 rfl ?_
      refine aw_zret q rfl (by decide) dX11_readNumber_47 ⟨Nat.le_refl _, Nat.le_refl _⟩ ?_
      refine PrP.good (RdF.rowI.tr (RdF.go hG2)) ((if_pos c9).trans ((if_pos g9).trans ?_)) (hG2.f18.1.trans (congrFun (if_neg (by omega)) _)) (hG2.f18.2.trans (congrFun (if_neg (by omega)) _)) hP2
      rw [hv]
    · have f9 := bI0.mp c23
      rw [hv] at f9
      have g9 : ¬ (lo ≤ p.1.2.2.2.2 ∧ p.1.2.2.2.2 ≤ mo) := by simpa [mFrom] using f9
      refine aw_aload_n dX11_readNumber_26 rfl ?_
      refine aw_iconst (v := 3) dX11_readNumber_27 rfl ?_
      refine aw_callV dX11_readNumber_28 kX11_139 mX11_bad (rX11_bad (c := 3) hM hP.1 hP.2.1 rfl) (Nat.le_of_ble_eq_true rfl) hM.k ⟨by decide, rfl⟩ hM.b rfl rfl (Nat.le_of_ble_eq_true rfl) ⟨Nat.le_refl _, Nat.le_refl _⟩ (fun v3 z3 n3 sh3 J3 M3 hp3 => ?_)
      obtain ⟨b3, rfl, rfl, rfl, rfl, hF3, hr3⟩ := hp3
      refine aw_zret q rfl hr3.b dX11_readNumber_31 ⟨Nat.le_refl _, Nat.le_refl _⟩ ?_
      exact PrP.with_ RdF.rf rfl rfl hF3 hr3 ((if_pos c9).trans (if_neg g9))
  · rw [hP.1.2.2.2.2.1] at c5
    have c9 := mt (kind_eq hP.2.1 (j := 3) (by decide)).mpr c5
    refine aw_aload_n dX11_readNumber_8 rfl ?_
    refine aw_iconst (v := 2) dX11_readNumber_9 rfl ?_
    refine aw_callV dX11_readNumber_10 kX11_139 mX11_bad (rX11_bad (c := 2) hM hP.1 hP.2.1 rfl) (Nat.le_of_ble_eq_true rfl) hM.k ⟨by decide, rfl⟩ hM.b rfl rfl (Nat.le_of_ble_eq_true rfl) ⟨Nat.le_refl _, Nat.le_refl _⟩ (fun v1 z1 n1 sh1 J1 M1 hp1 => ?_)
    obtain ⟨b1, rfl, rfl, rfl, rfl, hF1, hr1⟩ := hp1
    refine aw_zret q rfl hr1.b dX11_readNumber_13 ⟨Nat.le_refl _, Nat.le_refl _⟩ ?_
    exact PrP.with_ RdF.rf rfl rfl hF1 hr1 (if_neg c9)
set_option maxHeartbeats 4000000 in
set_option maxRecDepth 100000 in
theorem sX11_homeHere (hM : IsM n sh m) {R : Nat → Int32} {Q : Nat → Int64} {a : Nat} (hR : I (m + 2) = R) (ha : R 230 = nI a) (ha10 : a ≤ 10) (hQ : L (m + 7) = Q) : CM yX11_homeHere cX11_homeHere 2 (Option.some .int) 1 0 0 [.ref m] z n sh I L (Pst (some (.int (hN (pHere Q (L m 21) a) a))) z n sh I L) := by
  refine CM.go [some (.ref m), none] rfl rfl (Nat.le_of_ble_eq_true rfl) (fun X g q => ?_)
  have loop : ∀ i, i ≤ a → fa_first (fun h => decide (Q h = L m 21)) i = i → AW X g RX11 cX11_homeHere 2 (1, 0, 0) (z, n, sh, 0, 0) (I) (L) 2 [some (.ref m), some (.int (nI i))] [] := by
    refine up_loop (fun i hi ih hfi => ?_)
    refine aw_iload_n dX11_homeHere_2 rfl ?_
    refine aw_aload_n dX11_homeHere_3 rfl ?_
    refine aw_getR (b := m + 2) dX11_homeHere_4 fX11_13 hM.k hM.b rfl hM.r1 ?_
    refine aw_sipush (v := 230) dX11_homeHere_7 rfl ?_
    refine aw_ialdN (k := 230) dX11_homeHere_10 hM.k1 hM.b1 hM.l1 rfl (by decide) (by decide) ?_
    refine aw_icmp_ge (tgt := 36) dX11_homeHere_11 rfl (fun c11 => ?_) (fun c11 => ?_)
    · rw [hR] at c11
      have e := ge_t ha (by omega) hi c11
      subst e
      refine aw_iconst (v := (-1)) dX11_homeHere_36 rfl ?_
      refine aw_iret q rfl dX11_homeHere_37 ⟨Nat.le_refl _, Nat.le_refl _⟩ ?_
      refine Pst.iv ?_
      unfold hN pHere
      rw [hfi, if_neg (Nat.lt_irrefl _)]
    · rw [hR] at c11
      have hlt := ge_f ha (by omega) hi c11
      refine aw_aload_n dX11_homeHere_14 rfl ?_
      refine aw_getR (b := m + 7) dX11_homeHere_15 fX11_29 hM.k hM.b rfl hM.r6 ?_
      refine aw_iload_n dX11_homeHere_18 rfl ?_
      refine aw_laldN (k := i) dX11_homeHere_19 hM.k6 hM.b6 hM.l6 rfl (by omega) (by decide) ?_
      refine aw_aload_n dX11_homeHere_20 rfl ?_
      refine aw_getL dX11_homeHere_21 fX11_106 hM.k hM.b rfl ?_
      refine aw_lcmp dX11_homeHere_24 ?_
      refine aw_if_ne (tgt := 30) dX11_homeHere_25 rfl (fun c25 => ?_) (fun c25 => ?_)
      · have c9 : ¬ Q i = L m 21 := by
          rw [hQ] at c25
          exact mt lg_cmp0.mpr c25
        refine aw_iinc dX11_homeHere_30 rfl (ginc rfl) (by decide) rfl ?_
        refine aw_goto (tgt := 2) dX11_homeHere_33 rfl ?_
        exact ih hlt (fa_first_no1 hfi (by simpa using c9))
      · have c9 : Q i = L m 21 := by
          rw [hQ] at c25
          exact lg_cmp0.mp c25
        refine aw_iload_n dX11_homeHere_28 rfl ?_
        refine aw_iret q rfl dX11_homeHere_29 ⟨Nat.le_refl _, Nat.le_refl _⟩ ?_
        refine Pst.iv ?_
        unfold hN pHere
        rw [fa_first_yes1 hfi (by simpa using c9) hlt, if_pos hlt]
  refine aw_iconst (v := 0) dX11_homeHere_0 rfl ?_
  refine aw_istore_n dX11_homeHere_1 (by decide) rfl ?_
  exact loop 0 (Nat.zero_le _) rfl
set_option maxHeartbeats 4000000 in
set_option maxRecDepth 100000 in
theorem sX11_isTaken (hM : IsM n sh m) {R : Nat → Int32} {Q : Nat → Int64} {a b : Nat} (hR : I (m + 2) = R) (ha : R 230 = nI a) (ha10 : a ≤ 10) (hb : R 231 = nI b) (hb8 : b ≤ 8) (hQ : L (m + 7) = Q) : CM yX11_isTaken cX11_isTaken 2 (Option.some .boolean) 2 0 0 [.ref m] z n sh I L (Pst (some (.int (bI (pTaken Q (L m 21) a b)))) z n sh I L) := by
  refine CM.go [some (.ref m), none] rfl rfl (Nat.le_of_ble_eq_true rfl) (fun X g q => ?_)
  have loop : ∀ i, i ≤ b → fa_first (fun q => decide (Q (10 + q) = L m 21)) i = i → AW X g RX11 cX11_isTaken 2 (2, 0, 0) (z, n, sh, 0, 0) (I) (L) 2 [some (.ref m), some (.int (nI i))] [] := by
    refine up_loop (fun i hi ih hfi => ?_)
    refine aw_iload_n dX11_isTaken_2 rfl ?_
    refine aw_aload_n dX11_isTaken_3 rfl ?_
    refine aw_getR (b := m + 2) dX11_isTaken_4 fX11_13 hM.k hM.b rfl hM.r1 ?_
    refine aw_sipush (v := 231) dX11_isTaken_7 rfl ?_
    refine aw_ialdN (k := 231) dX11_isTaken_10 hM.k1 hM.b1 hM.l1 rfl (by decide) (by decide) ?_
    refine aw_icmp_ge (tgt := 39) dX11_isTaken_11 rfl (fun c11 => ?_) (fun c11 => ?_)
    · rw [hR] at c11
      have e := ge_t hb (by omega) hi c11
      subst e
      refine aw_aload_n dX11_isTaken_39 rfl ?_
      refine aw_cV dX11_isTaken_40 kX11_145 mX11_homeHere (sX11_homeHere (a := a) (Q := Q) hM hR ha ha10 hQ) (Nat.le_of_ble_eq_true rfl) hM.k ⟨by decide, rfl⟩ hM.b rfl rfl (Nat.le_of_ble_eq_true rfl) ⟨Nat.le_refl _, Nat.le_refl _⟩ ?_
      refine aw_iconst (v := (-1)) dX11_isTaken_43 rfl ?_
      refine aw_icmp_eq (tgt := 51) dX11_isTaken_44 rfl (fun c44 => ?_) (fun c44 => ?_)
      · refine aw_iconst (v := 0) dX11_isTaken_51 rfl ?_
        refine aw_zret q rfl (by decide) dX11_isTaken_52 ⟨Nat.le_refl _, Nat.le_refl _⟩ ?_
        refine Pst.iv ?_
        unfold pTaken
        unfold hN at c44
        have h9 : ¬ pHere Q (L m 21) a < a := by
          intro h9
          rw [if_pos h9] at c44
          exact nI_ne_m1 (by omega) c44
        rw [hfi]
        simp [bI, h9]
      · refine aw_iconst (v := 1) dX11_isTaken_47 rfl ?_
        refine aw_goto (tgt := 52) dX11_isTaken_48 rfl ?_
        refine aw_zret q rfl (by decide) dX11_isTaken_52 ⟨Nat.le_refl _, Nat.le_refl _⟩ ?_
        refine Pst.iv ?_
        unfold pTaken
        unfold hN at c44
        have h9 : pHere Q (L m 21) a < a := by
          by_cases h9 : pHere Q (L m 21) a < a
          · exact h9
          · rw [if_neg h9] at c44
            exact absurd rfl c44
        rw [hfi]
        simp [bI, h9]
    · rw [hR] at c11
      have hlt := ge_f hb (by omega) hi c11
      refine aw_aload_n dX11_isTaken_14 rfl ?_
      refine aw_getR (b := m + 7) dX11_isTaken_15 fX11_29 hM.k hM.b rfl hM.r6 ?_
      refine aw_bipush (v := 10) dX11_isTaken_18 rfl ?_
      refine aw_iload_n dX11_isTaken_20 rfl ?_
      refine aw_iadd dX11_isTaken_21 ?_
      refine aw_laldN (k := (10 + i)) dX11_isTaken_22 hM.k6 hM.b6 hM.l6 (gadd rfl rfl) (by omega) (by decide) ?_
      refine aw_aload_n dX11_isTaken_23 rfl ?_
      refine aw_getL dX11_isTaken_24 fX11_106 hM.k hM.b rfl ?_
      refine aw_lcmp dX11_isTaken_27 ?_
      refine aw_if_ne (tgt := 33) dX11_isTaken_28 rfl (fun c28 => ?_) (fun c28 => ?_)
      · have c9 : ¬ Q (10 + i) = L m 21 := by
          rw [hQ] at c28
          exact mt lg_cmp0.mpr c28
        refine aw_iinc dX11_isTaken_33 rfl (ginc rfl) (by decide) rfl ?_
        refine aw_goto (tgt := 2) dX11_isTaken_36 rfl ?_
        exact ih hlt (fa_first_no1 hfi (by simpa using c9))
      · have c9 : Q (10 + i) = L m 21 := by
          rw [hQ] at c28
          exact lg_cmp0.mp c28
        refine aw_iconst (v := 1) dX11_isTaken_31 rfl ?_
        refine aw_zret q rfl (by decide) dX11_isTaken_32 ⟨Nat.le_refl _, Nat.le_refl _⟩ ?_
        refine Pst.iv ?_
        unfold pTaken
        rw [fa_first_yes1 hfi (by simpa using c9) hlt]
        simp [bI, hlt]
  refine aw_iconst (v := 0) dX11_isTaken_0 rfl ?_
  refine aw_istore_n dX11_isTaken_1 (by decide) rfl ?_
  exact loop 0 (Nat.zero_le _) rfl
set_option maxHeartbeats 4000000 in
set_option maxRecDepth 100000 in
theorem rX11_readName (hM : IsM n sh m) {T : Nat → Int32} {s : Nat} (hs9 : s ≤ 900) {p : PSt} (hP : Ps I L m T s p) (hC : PcO p.2.1) {x : Int32} {into : Nat} (hx : x = nI into) (hi : into < 18) : CM yX11_readName cX11_readName 2 (Option.some .boolean) 6 0 0 [.ref m, .int x] z n sh I L (PrP z n sh I L m T s (pName T s into p)) := by
  refine CM.go [some (.ref m), some (.int x)] rfl rfl (Nat.le_of_ble_eq_true rfl) (fun X g q => ?_)
  refine aw_aload_n dX11_readName_0 rfl ?_
  refine aw_cV dX11_readName_1 kX11_149 mX11_isName (sX11_isName hM hP.1 hP.2.1) (Nat.le_of_ble_eq_true rfl) hM.k ⟨by decide, rfl⟩ hM.b rfl rfl (Nat.le_of_ble_eq_true rfl) ⟨Nat.le_refl _, Nat.le_refl _⟩ ?_
  refine aw_if_ne (tgt := 13) dX11_readName_4 rfl (fun c4 => ?_) (fun c4 => ?_)
  · have c9 := bI1.mp c4
    have hw := hP.1.2.2.2.2.2.1 (tNm2 c9)
    refine aw_aload_n dX11_readName_13 rfl ?_
    refine aw_cV dX11_readName_14 kX11_153 mX11_isTaken (sX11_isTaken hM hP.2.2.1 hC.1 hC.2.1 hC.2.2.1 hC.2.2.2 hP.2.2.2) (Nat.le_of_ble_eq_true rfl) hM.k ⟨by decide, rfl⟩ hM.b rfl rfl (Nat.le_of_ble_eq_true rfl) ⟨Nat.le_refl _, Nat.le_refl _⟩ ?_
    refine aw_if_eq (tgt := 26) dX11_readName_17 rfl (fun c17 => ?_) (fun c17 => ?_)
    · have f9 := bI0.mp c17
      rw [hw] at f9
      refine aw_aload_n dX11_readName_26 rfl ?_
      refine aw_getR (b := m + 7) dX11_readName_27 fX11_29 hM.k hM.b rfl hM.r6 ?_
      refine aw_iload_n dX11_readName_30 rfl ?_
      refine aw_aload_n dX11_readName_31 rfl ?_
      refine aw_getL dX11_readName_32 fX11_106 hM.k hM.b rfl ?_
      refine aw_lastN (k := into) dX11_readName_35 hM.k6 hM.b6 hM.l6 hx (by omega) (by decide) ?_
      have hP4 := Ps.nam (k := into) (v := L m 21) hP
      refine aw_aload_n dX11_readName_36 rfl ?_
      refine aw_callV dX11_readName_37 kX11_142 mX11_go (rX11_go hM hP4.1.1 hP4.1.2.1 hP4.1.2.2.2.1 hs9 hP4.2.1.2.1) (Nat.le_of_ble_eq_true rfl) hM.k ⟨by decide, rfl⟩ hM.b rfl rfl (Nat.le_of_ble_eq_true rfl) ⟨Nat.le_refl _, Nat.le_refl _⟩ (fun v2 z2 n2 sh2 J2 M2 hp2 => ?_)
      obtain ⟨rfl, rfl, rfl, rfl, hG2, hA2⟩ := hp2
      have hP2 := Ps.go hP4 hG2 hA2
      refine aw_iconst (v := 1) dX11_readName_40 rfl ?_
      refine aw_zret q rfl (by decide) dX11_readName_41 ⟨Nat.le_refl _, Nat.le_refl _⟩ ?_
      refine PrP.good (RdF.nam.tr (RdF.go hG2)) ((if_pos c9).trans ((if_neg (by rw [f9]; exact Bool.false_ne_true)).trans ?_)) hG2.f18.1 hG2.f18.2 hP2
      rw [hw]
    · have f9 := bI1.mp c17
      rw [hw] at f9
      refine aw_aload_n dX11_readName_20 rfl ?_
      refine aw_iconst (v := 4) dX11_readName_21 rfl ?_
      refine aw_callV dX11_readName_22 kX11_139 mX11_bad (rX11_bad (c := 4) hM hP.1 hP.2.1 rfl) (Nat.le_of_ble_eq_true rfl) hM.k ⟨by decide, rfl⟩ hM.b rfl rfl (Nat.le_of_ble_eq_true rfl) ⟨Nat.le_refl _, Nat.le_refl _⟩ (fun v3 z3 n3 sh3 J3 M3 hp3 => ?_)
      obtain ⟨b3, rfl, rfl, rfl, rfl, hF3, hr3⟩ := hp3
      refine aw_zret q rfl hr3.b dX11_readName_25 ⟨Nat.le_refl _, Nat.le_refl _⟩ ?_
      exact PrP.with_ RdF.rf rfl rfl hF3 hr3 ((if_pos c9).trans (if_pos f9))
  · have c9 := bI0.mp c4
    refine aw_aload_n dX11_readName_7 rfl ?_
    refine aw_iconst (v := 2) dX11_readName_8 rfl ?_
    refine aw_callV dX11_readName_9 kX11_139 mX11_bad (rX11_bad (c := 2) hM hP.1 hP.2.1 rfl) (Nat.le_of_ble_eq_true rfl) hM.k ⟨by decide, rfl⟩ hM.b rfl rfl (Nat.le_of_ble_eq_true rfl) ⟨Nat.le_refl _, Nat.le_refl _⟩ (fun v1 z1 n1 sh1 J1 M1 hp1 => ?_)
    obtain ⟨b1, rfl, rfl, rfl, rfl, hF1, hr1⟩ := hp1
    refine aw_zret q rfl hr1.b dX11_readName_12 ⟨Nat.le_refl _, Nat.le_refl _⟩ ?_
    exact PrP.with_ RdF.rf rfl rfl hF1 hr1 (if_neg (by rw [c9]; exact Bool.false_ne_true))
end RefS
