section ClsS
variable {z n : Nat} {sh : Shp} {I : MI} {L : ML} {N : Nat → Int32} {Q : Nat → Int64}
set_option maxHeartbeats 4000000 in
set_option maxRecDepth 100000 in
theorem sX0_movesBy (hX : IsX n sh) (hN : Cn N) (hA : ChA N I) {p : Nat} {x : Int32} {S h : Nat} {y v : Int32} (hS : S < 2 ^ nPo N) (hh : h < nHo N) (hy : y = nI h) (hv : v = nI S) (hFo : FoA N I S) (hp : p < nPo N) (hx : x = nI p)  : CM yX0_movesBy cX0_movesBy 5 (Option.some .int) 1 0 0 [.ref 487, .int x, .int y, .int v] z n sh I L (Pst (some (.int (nI (lf1 N (8 - pcn S) S h p).length))) z n sh I L) := by
  refine CM.go [some (.ref 487), some (.int x), some (.int y), some (.int v), none] rfl rfl (Nat.le_of_ble_eq_true rfl) (fun X g q => ?_)
  have h8 := hN.p8
  have h10 := hN.h10
  subst hy hv
  have hS8 := p2_256 h8 hS
  subst hx
  have hp8 : p < 8 := by omega
  obtain ⟨a1, a2⟩ := hA.2 p hp
  refine aw_iconst (v := 1) dX0_movesBy_0 rfl ?_
  refine aw_iload_n dX0_movesBy_1 rfl ?_
  refine aw_ishl dX0_movesBy_2 ?_
  refine AW.top (shl_8 p hp8) ?_
  refine aw_istore dX0_movesBy_3 (by decide) rfl ?_
  refine aw_iload_n dX0_movesBy_5 rfl ?_
  refine aw_iload dX0_movesBy_6 rfl ?_
  refine aw_iand dX0_movesBy_8 ?_
  refine aw_if_ne (tgt := 25) dX0_movesBy_9 rfl (fun c9 => ?_) (fun c9 => ?_)
  · skip
    refine aw_iconst (v := 0) dX0_movesBy_25 rfl ?_
    refine aw_iret q rfl dX0_movesBy_26 ⟨Nat.le_refl _, Nat.le_refl _⟩ ?_
    have hb : S.testBit p = true := by
      cases b : S.testBit p with
      | true => rfl
      | false => exact absurd ((bt_and8 hS8 hp8).mpr b) c9
    refine Pst.iv ?_
    rw [lf1_skip (by rw [hb, Bool.true_or]) _]
    rfl
  · have hb : S.testBit p = false := (bt_and8 hS8 hp8).mp c9
    refine aw_aload_n dX0_movesBy_12 rfl ?_
    refine aw_getR (b := 488) dX0_movesBy_13 fX0_9 hX.cha.1 (hX.lt (by decide)) rfl hX.cha.2.1.1 ?_
    refine aw_iload_n dX0_movesBy_16 rfl ?_
    refine aw_ialdN (k := p) dX0_movesBy_17 hX.cha.2.2.1.1 (hX.lt (by decide)) hX.cha.2.2.2.1 rfl (by omega) (by decide) ?_
    refine AW.top a1 ?_
    refine aw_iconst (v := 1) dX0_movesBy_18 rfl ?_
    refine aw_iload_n dX0_movesBy_19 rfl ?_
    refine aw_ishl dX0_movesBy_20 ?_
    refine AW.top (shl_10 h (by omega)) ?_
    refine aw_iand dX0_movesBy_21 ?_
    refine aw_if_ne (tgt := 27) dX0_movesBy_22 rfl (fun c22 => ?_) (fun c22 => ?_)
    · have hc : mCould N p h = true := by
        cases b : mCould N p h with
        | true => rfl
        | false => exact absurd ((couldBit hN hh).mpr b) c22
      have hu := p2_256 h8 (add_lt2 _ h8 S hS p hp hb)
      refine aw_iconst (v := 1) dX0_movesBy_27 rfl ?_
      refine aw_aload_n dX0_movesBy_28 rfl ?_
      refine aw_getR (b := 490) dX0_movesBy_29 fX0_18 hX.cha.1 (hX.lt (by decide)) rfl hX.cha.2.1.2.2.1 ?_
      refine aw_iload_n dX0_movesBy_32 rfl ?_
      refine aw_iload dX0_movesBy_33 rfl ?_
      refine aw_ior dX0_movesBy_35 ?_
      refine AW.top (or_8 hS8 hp8 hb) ?_
      refine aw_bipush (v := 8) dX0_movesBy_36 rfl ?_
      refine aw_imul dX0_movesBy_38 ?_
      refine AW.top (nI_prod _ 8) ?_
      refine aw_iload_n dX0_movesBy_39 rfl ?_
      refine aw_iadd dX0_movesBy_40 ?_
      refine AW.top (y := nI ((S + 2 ^ p) * 8 + p)) (nI_sum _ _) ?_
      refine aw_ialdN (k := ((S + 2 ^ p) * 8 + p)) dX0_movesBy_41 hX.cha.2.2.1.2.2.1 (hX.lt (by decide)) hX.cha.2.2.2.2.2.1 rfl (by omega) (by decide) ?_
      refine aw_iadd dX0_movesBy_42 ?_
      refine aw_iret q rfl dX0_movesBy_43 ⟨Nat.le_refl _, Nat.le_refl _⟩ ?_
      refine Pst.iv ?_
      rw [lf1_in hS8 hp8 hb hc, hFo _ (by have := Nat.two_pow_pos p; omega) (add_lt2 _ h8 S hS p hp hb) p hp (by rw [(bit_add S hS8 p hp8 hb).2 p hp8]; simp)]
      rw [List.length_cons, ← nI_sum, Int32.add_comm]
      rfl
    · skip
      refine aw_iconst (v := 0) dX0_movesBy_25 rfl ?_
      refine aw_iret q rfl dX0_movesBy_26 ⟨Nat.le_refl _, Nat.le_refl _⟩ ?_
      have hc := (couldBit hN hh).mp c22
      refine Pst.iv ?_
      rw [lf1_skip (by rw [hc, Bool.not_false, Bool.or_true]) _]
      rfl
set_option maxHeartbeats 4000000 in
set_option maxRecDepth 100000 in
theorem sX0_longestFrom (hX : IsX n sh) (hN : Cn N) (hA : ChA N I) {S h : Nat} {y v : Int32} (hS : S < 2 ^ nPo N) (hh : h < nHo N) (hy : y = nI h) (hv : v = nI S) (hFo : FoA N I S)  : CM yX0_longestFrom cX0_longestFrom 5 (Option.some .int) 2 0 0 [.ref 487, .int y, .int v] z n sh I L (Pst (some (.int (nI (lgF N (8 - pcn S) S (nI h)).length))) z n sh I L) := by
  refine CM.go [some (.ref 487), some (.int y), some (.int v), none, none] rfl rfl (Nat.le_of_ble_eq_true rfl) (fun X g q => ?_)
  have h8 := hN.p8
  have h10 := hN.h10
  subst hy hv
  have hS8 := p2_256 h8 hS
  have loop : ∀ i, i ≤ nPo N → AW X g RX0 cX0_longestFrom 5 (2, 0, 0) (z, n, sh, 0, 0) (I) (L) 5 [some (.ref 487), some (.int (nI h)), some (.int (nI S)), some (.int (nI (pk2 (lf1 N (8 - pcn S) S h) i).length)), some (.int (nI i))] [] := by
    refine up_loop (fun i hi ih => ?_)
    refine aw_iload dX0_longestFrom_5 rfl ?_
    refine aw_aload_n dX0_longestFrom_7 rfl ?_
    refine aw_getI dX0_longestFrom_8 fX0_64 hX.cha.1 (hX.lt (by decide)) rfl ?_
    refine AW.top hA.1 ?_
    refine aw_icmp_ge (tgt := 38) dX0_longestFrom_11 rfl (fun c11 => ?_) (fun c11 => ?_)
    · have e := ge_t rfl (by omega) hi c11
      subst e
      refine aw_iload_n dX0_longestFrom_38 rfl ?_
      refine aw_iret q rfl dX0_longestFrom_39 ⟨Nat.le_refl _, Nat.le_refl _⟩ ?_
      refine Pst.iv ?_
      rw [lgF_eq (by omega)]
    · have hlt := ge_f rfl (by omega) hi c11
      refine aw_iload_n dX0_longestFrom_14 rfl ?_
      refine aw_iconst (v := (-1)) dX0_longestFrom_15 rfl ?_
      refine aw_icmp_eq (tgt := 38) dX0_longestFrom_16 rfl (fun c16 => ?_) (fun c16 => ?_)
      · exact absurd c16 (nI_ne_m1 (by omega))
      · skip
        refine aw_iload_n dX0_longestFrom_19 rfl ?_
        refine aw_aload_n dX0_longestFrom_20 rfl ?_
        refine aw_iload dX0_longestFrom_21 rfl ?_
        refine aw_iload_n dX0_longestFrom_23 rfl ?_
        refine aw_iload_n dX0_longestFrom_24 rfl ?_
        refine aw_cV dX0_longestFrom_25 kX0_81 mX0_movesBy (sX0_movesBy hX hN hA hS hh rfl rfl hFo hlt rfl) (Nat.le_of_ble_eq_true rfl) hX.cha.1 ⟨by decide, rfl⟩ (hX.lt (by decide)) rfl rfl (Nat.le_of_ble_eq_true rfl) ⟨Nat.le_refl _, Nat.le_refl _⟩ ?_
        refine aw_mmax dX0_longestFrom_28 kX0_85 (Nat.le_of_ble_eq_true rfl) (Nat.le_of_ble_eq_true rfl) ⟨Nat.le_refl _, Nat.le_refl _⟩ ?_
        refine aw_istore_n dX0_longestFrom_31 (by decide) rfl ?_
        refine aw_iinc dX0_longestFrom_32 rfl (ginc rfl) (by decide) rfl ?_
        refine aw_goto (tgt := 5) dX0_longestFrom_35 rfl ?_
        have h1 := pk2_len8 (N := N) (S := S) (h := h) i
        have h2 := lf1_len8 (N := N) (S := S) (h := h) i
        rw [imax_nn (by omega) (by omega), ← pk2_len]
        exact ih hlt
  refine aw_iconst (v := 0) dX0_longestFrom_0 rfl ?_
  refine aw_istore_n dX0_longestFrom_1 (by decide) rfl ?_
  refine aw_iconst (v := 0) dX0_longestFrom_2 rfl ?_
  refine aw_istore dX0_longestFrom_3 (by decide) rfl ?_
  exact loop 0 (Nat.zero_le _)
set_option maxHeartbeats 4000000 in
set_option maxRecDepth 100000 in
theorem sX0_longestFromN (hX : IsX n sh) (hN : Cn N) (hA : ChA N I) {v : Int32}  : CM yX0_longestFrom cX0_longestFrom 5 (Option.some .int) 2 0 0 [.ref 487, .int (-1), .int v] z n sh I L (Pst (some (.int 0)) z n sh I L) := by
  refine CM.go [some (.ref 487), some (.int (-1)), some (.int v), none, none] rfl rfl (Nat.le_of_ble_eq_true rfl) (fun X g q => ?_)
  have h8 := hN.p8
  have h10 := hN.h10
  refine aw_iconst (v := 0) dX0_longestFrom_0 rfl ?_
  refine aw_istore_n dX0_longestFrom_1 (by decide) rfl ?_
  refine aw_iconst (v := 0) dX0_longestFrom_2 rfl ?_
  refine aw_istore dX0_longestFrom_3 (by decide) rfl ?_
  refine aw_iload dX0_longestFrom_5 rfl ?_
  refine aw_aload_n dX0_longestFrom_7 rfl ?_
  refine aw_getI dX0_longestFrom_8 fX0_64 hX.cha.1 (hX.lt (by decide)) rfl ?_
  refine aw_icmp_ge (tgt := 38) dX0_longestFrom_11 rfl (fun c11 => ?_) (fun c11 => ?_)
  · refine aw_iload_n dX0_longestFrom_38 rfl ?_
    refine aw_iret q rfl dX0_longestFrom_39 ⟨Nat.le_refl _, Nat.le_refl _⟩ ?_
    exact Pst.rf
  · refine aw_iload_n dX0_longestFrom_14 rfl ?_
    refine aw_iconst (v := (-1)) dX0_longestFrom_15 rfl ?_
    refine aw_icmp_eq (tgt := 38) dX0_longestFrom_16 rfl (fun c16 => ?_) (fun c16 => ?_)
    · skip
      refine aw_iload_n dX0_longestFrom_38 rfl ?_
      refine aw_iret q rfl dX0_longestFrom_39 ⟨Nat.le_refl _, Nat.le_refl _⟩ ?_
      exact Pst.rf
    · exact absurd rfl c16
theorem sX0_longestFromO (hX : IsX n sh) (hN : Cn N) (hA : ChA N I) {S : Nat} {y v : Int32} (hS : S < 2 ^ nPo N) (hy : y = -1 ∨ ∃ h, h < nHo N ∧ y = nI h) (hv : v = nI S) (hFo : FoA N I S) : CM yX0_longestFrom cX0_longestFrom 5 (Option.some .int) 2 0 0 [.ref 487, .int y, .int v] z n sh I L (Pst (some (.int (nI (lgF N (8 - pcn S) S y).length))) z n sh I L) := by
  rcases hy with e | ⟨h, hh, e⟩
  · rw [e, lgF_none]
    exact sX0_longestFromN hX hN hA
  · rw [e]
    exact sX0_longestFrom hX hN hA hS hh rfl hv hFo
end ClsS
