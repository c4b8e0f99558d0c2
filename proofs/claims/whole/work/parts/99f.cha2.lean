section ClsS
variable {z n : Nat} {sh : Shp} {I : MI} {L : ML} {N : Nat → Int32} {Q : Nat → Int64}
set_option maxHeartbeats 4000000 in
set_option maxRecDepth 100000 in
theorem sX0_moverFor (hX : IsX n sh) (hN : Cn N) (hA : ChA N I) {S h : Nat} {y v : Int32} (hS : S < 2 ^ nPo N) (hh : h < nHo N) (hy : y = nI h) (hv : v = nI S) (hFo : FoA N I S) {r p : Nat} {w : Int32} (hw : w = nI r) (hp : p < nPo N) (he : (lf1 N (8 - pcn S) S h p).length = r) (hf : ∀ i, i < p → (lf1 N (8 - pcn S) S h i).length < r)  : CM yX0_moverFor cX0_moverFor 5 (Option.some .int) 2 0 0 [.ref 487, .int y, .int v, .int w] z n sh I L (Pst (some (.int (nI p))) z n sh I L) := by
  refine CM.go [some (.ref 487), some (.int y), some (.int v), some (.int w), none] rfl rfl (Nat.le_of_ble_eq_true rfl) (fun X g q => ?_)
  have h8 := hN.p8
  have h10 := hN.h10
  subst hy hv
  have hS8 := p2_256 h8 hS
  subst hw
  have loop : ∀ i, i ≤ p → AW X g RX0 cX0_moverFor 5 (2, 0, 0) (z, n, sh, 0, 0) (I) (L) 3 [some (.ref 487), some (.int (nI h)), some (.int (nI S)), some (.int (nI r)), some (.int (nI i))] [] := by
    refine up_loop (fun i hi ih => ?_)
    refine aw_iload dX0_moverFor_3 rfl ?_
    refine aw_aload_n dX0_moverFor_5 rfl ?_
    refine aw_getI dX0_moverFor_6 fX0_64 hX.cha.1 (hX.lt (by decide)) rfl ?_
    refine AW.top hA.1 ?_
    refine aw_icmp_ge (tgt := 38) dX0_moverFor_9 rfl (fun c9 => ?_) (fun c9 => ?_)
    · exact absurd (ge_t rfl (by omega) (show i ≤ nPo N by omega) c9) (by omega)
    · skip
      refine aw_iload_n dX0_moverFor_12 rfl ?_
      refine aw_iconst (v := (-1)) dX0_moverFor_13 rfl ?_
      refine aw_icmp_eq (tgt := 38) dX0_moverFor_14 rfl (fun c14 => ?_) (fun c14 => ?_)
      · exact absurd c14 (nI_ne_m1 (by omega))
      · skip
        refine aw_aload_n dX0_moverFor_17 rfl ?_
        refine aw_iload dX0_moverFor_18 rfl ?_
        refine aw_iload_n dX0_moverFor_20 rfl ?_
        refine aw_iload_n dX0_moverFor_21 rfl ?_
        refine aw_cV dX0_moverFor_22 kX0_81 mX0_movesBy (sX0_movesBy hX hN hA hS hh rfl rfl hFo (show i < nPo N by omega) rfl) (Nat.le_of_ble_eq_true rfl) hX.cha.1 ⟨by decide, rfl⟩ (hX.lt (by decide)) rfl rfl (Nat.le_of_ble_eq_true rfl) ⟨Nat.le_refl _, Nat.le_refl _⟩ ?_
        refine aw_iload_n dX0_moverFor_25 rfl ?_
        refine aw_icmp_ne (tgt := 32) dX0_moverFor_26 rfl (fun c26 => ?_) (fun c26 => ?_)
        · skip
          refine aw_iinc dX0_moverFor_32 rfl (ginc rfl) (by decide) rfl ?_
          refine aw_goto (tgt := 3) dX0_moverFor_35 rfl ?_
          refine ih (Nat.lt_of_le_of_ne hi (fun z => ?_))
          subst z
          exact c26 (congrArg nI he)
        · have h1 := lf1_len8 (N := N) (S := S) (h := h) i
          have h2 := lf1_len8 (N := N) (S := S) (h := h) p
          have e := (nI_eq (by omega) (by omega)).mp c26
          refine aw_iload dX0_moverFor_29 rfl ?_
          refine aw_iret q rfl dX0_moverFor_31 ⟨Nat.le_refl _, Nat.le_refl _⟩ ?_
          refine Pst.iv (congrArg nI (Nat.le_antisymm hi (Nat.le_of_not_lt (fun z => ?_))))
          exact absurd (hf i z) (by omega)
  refine aw_iconst (v := 0) dX0_moverFor_0 rfl ?_
  refine aw_istore dX0_moverFor_1 (by decide) rfl ?_
  exact loop 0 (Nat.zero_le _)
set_option maxHeartbeats 4000000 in
set_option maxRecDepth 100000 in
theorem sX0_homeAt (hX : IsX n sh) {x : Int32} {u c : Nat} (hl : I 487 6 = nI c) (hc : c ≤ 8) (hx : x = nI u) (hu : u < c)  : CM yX0_homeAt cX0_homeAt 2 (Option.some .int) 1 0 0 [.ref 487, .int x] z n sh I L (Pst (some (.int (I 492 u))) z n sh I L) := by
  refine CM.go [some (.ref 487), some (.int x)] rfl rfl (Nat.le_of_ble_eq_true rfl) (fun X g q => ?_)
  subst hx
  refine aw_iload_n dX0_homeAt_0 rfl ?_
  refine aw_if_lt (tgt := 18) dX0_homeAt_1 rfl (fun c1 => ?_) (fun c1 => ?_)
  · exact absurd c1 (nI_pos (by omega))
  · skip
    refine aw_iload_n dX0_homeAt_4 rfl ?_
    refine aw_aload_n dX0_homeAt_5 rfl ?_
    refine aw_getI dX0_homeAt_6 fX0_27 hX.cha.1 (hX.lt (by decide)) rfl ?_
    refine AW.top hl ?_
    refine aw_icmp_ge (tgt := 18) dX0_homeAt_9 rfl (fun c9 => ?_) (fun c9 => ?_)
    · exact absurd ((nI_leI (by omega) (by omega)).mp c9) (by omega)
    · skip
      refine aw_iload_n dX0_homeAt_12 rfl ?_
      refine aw_bipush (v := 8) dX0_homeAt_13 rfl ?_
      refine aw_icmp_lt (tgt := 22) dX0_homeAt_15 rfl (fun c15 => ?_) (fun c15 => ?_)
      · skip
        refine aw_aload_n dX0_homeAt_22 rfl ?_
        refine aw_getR (b := 492) dX0_homeAt_23 fX0_24 hX.cha.1 (hX.lt (by decide)) rfl hX.cha.2.1.2.2.2.2 ?_
        refine aw_iload_n dX0_homeAt_26 rfl ?_
        refine aw_ialdN (k := u) dX0_homeAt_27 hX.cha.2.2.1.2.2.2.2 (hX.lt (by decide)) hX.cha.2.2.2.2.2.2.2 rfl (by omega) (by decide) ?_
        refine aw_iret q rfl dX0_homeAt_28 ⟨Nat.le_refl _, Nat.le_refl _⟩ ?_
        exact Pst.rf
      · exact absurd ((nI_ltI (a := u) (b := 8) (by omega) (by decide)).mpr (by omega)) c15
set_option maxHeartbeats 4000000 in
set_option maxRecDepth 100000 in
theorem sX0_homeAtN (hX : IsX n sh) {x : Int32} {c : Nat} (hl : I 487 6 = nI c) (hx : ¬ x < nI c)  : CM yX0_homeAt cX0_homeAt 2 (Option.some .int) 1 0 0 [.ref 487, .int x] z n sh I L (Pst (some (.int (-1))) z n sh I L) := by
  refine CM.go [some (.ref 487), some (.int x)] rfl rfl (Nat.le_of_ble_eq_true rfl) (fun X g q => ?_)
  refine aw_iload_n dX0_homeAt_0 rfl ?_
  refine aw_if_lt (tgt := 18) dX0_homeAt_1 rfl (fun c1 => ?_) (fun c1 => ?_)
  · skip
    refine aw_iconst (v := (-1)) dX0_homeAt_18 rfl ?_
    refine aw_goto (tgt := 28) dX0_homeAt_19 rfl ?_
    refine aw_iret q rfl dX0_homeAt_28 ⟨Nat.le_refl _, Nat.le_refl _⟩ ?_
    exact Pst.rf
  · skip
    refine aw_iload_n dX0_homeAt_4 rfl ?_
    refine aw_aload_n dX0_homeAt_5 rfl ?_
    refine aw_getI dX0_homeAt_6 fX0_27 hX.cha.1 (hX.lt (by decide)) rfl ?_
    refine AW.top hl ?_
    refine aw_icmp_ge (tgt := 18) dX0_homeAt_9 rfl (fun c9 => ?_) (fun c9 => ?_)
    · skip
      refine aw_iconst (v := (-1)) dX0_homeAt_18 rfl ?_
      refine aw_goto (tgt := 28) dX0_homeAt_19 rfl ?_
      refine aw_iret q rfl dX0_homeAt_28 ⟨Nat.le_refl _, Nat.le_refl _⟩ ?_
      exact Pst.rf
    · exact absurd (Int32.not_le.mp c9) hx
set_option maxHeartbeats 4000000 in
set_option maxRecDepth 100000 in
theorem sX0_houseAt (hX : IsX n sh) {x : Int32} {u c : Nat} (hl : I 487 6 = nI c) (hc : c ≤ 8) (hx : x = nI u) (hu : u < c)  : CM yX0_houseAt cX0_houseAt 2 (Option.some .int) 1 0 0 [.ref 487, .int x] z n sh I L (Pst (some (.int (I 491 u))) z n sh I L) := by
  refine CM.go [some (.ref 487), some (.int x)] rfl rfl (Nat.le_of_ble_eq_true rfl) (fun X g q => ?_)
  subst hx
  refine aw_iload_n dX0_houseAt_0 rfl ?_
  refine aw_if_lt (tgt := 18) dX0_houseAt_1 rfl (fun c1 => ?_) (fun c1 => ?_)
  · exact absurd c1 (nI_pos (by omega))
  · skip
    refine aw_iload_n dX0_houseAt_4 rfl ?_
    refine aw_aload_n dX0_houseAt_5 rfl ?_
    refine aw_getI dX0_houseAt_6 fX0_27 hX.cha.1 (hX.lt (by decide)) rfl ?_
    refine AW.top hl ?_
    refine aw_icmp_ge (tgt := 18) dX0_houseAt_9 rfl (fun c9 => ?_) (fun c9 => ?_)
    · exact absurd ((nI_leI (by omega) (by omega)).mp c9) (by omega)
    · skip
      refine aw_iload_n dX0_houseAt_12 rfl ?_
      refine aw_bipush (v := 8) dX0_houseAt_13 rfl ?_
      refine aw_icmp_lt (tgt := 22) dX0_houseAt_15 rfl (fun c15 => ?_) (fun c15 => ?_)
      · skip
        refine aw_aload_n dX0_houseAt_22 rfl ?_
        refine aw_getR (b := 491) dX0_houseAt_23 fX0_21 hX.cha.1 (hX.lt (by decide)) rfl hX.cha.2.1.2.2.2.1 ?_
        refine aw_iload_n dX0_houseAt_26 rfl ?_
        refine aw_ialdN (k := u) dX0_houseAt_27 hX.cha.2.2.1.2.2.2.1 (hX.lt (by decide)) hX.cha.2.2.2.2.2.2.1 rfl (by omega) (by decide) ?_
        refine aw_iret q rfl dX0_houseAt_28 ⟨Nat.le_refl _, Nat.le_refl _⟩ ?_
        exact Pst.rf
      · exact absurd ((nI_ltI (a := u) (b := 8) (by omega) (by decide)).mpr (by omega)) c15
set_option maxHeartbeats 4000000 in
set_option maxRecDepth 100000 in
theorem sX0_houseAtN (hX : IsX n sh) {x : Int32} {c : Nat} (hl : I 487 6 = nI c) (hx : ¬ x < nI c)  : CM yX0_houseAt cX0_houseAt 2 (Option.some .int) 1 0 0 [.ref 487, .int x] z n sh I L (Pst (some (.int (-1))) z n sh I L) := by
  refine CM.go [some (.ref 487), some (.int x)] rfl rfl (Nat.le_of_ble_eq_true rfl) (fun X g q => ?_)
  refine aw_iload_n dX0_houseAt_0 rfl ?_
  refine aw_if_lt (tgt := 18) dX0_houseAt_1 rfl (fun c1 => ?_) (fun c1 => ?_)
  · skip
    refine aw_iconst (v := (-1)) dX0_houseAt_18 rfl ?_
    refine aw_goto (tgt := 28) dX0_houseAt_19 rfl ?_
    refine aw_iret q rfl dX0_houseAt_28 ⟨Nat.le_refl _, Nat.le_refl _⟩ ?_
    exact Pst.rf
  · skip
    refine aw_iload_n dX0_houseAt_4 rfl ?_
    refine aw_aload_n dX0_houseAt_5 rfl ?_
    refine aw_getI dX0_houseAt_6 fX0_27 hX.cha.1 (hX.lt (by decide)) rfl ?_
    refine AW.top hl ?_
    refine aw_icmp_ge (tgt := 18) dX0_houseAt_9 rfl (fun c9 => ?_) (fun c9 => ?_)
    · skip
      refine aw_iconst (v := (-1)) dX0_houseAt_18 rfl ?_
      refine aw_goto (tgt := 28) dX0_houseAt_19 rfl ?_
      refine aw_iret q rfl dX0_houseAt_28 ⟨Nat.le_refl _, Nat.le_refl _⟩ ?_
      exact Pst.rf
    · exact absurd (Int32.not_le.mp c9) hx
end ClsS
