/-! the class: a new name -/
def nmC (k : Tk) (Q : Nat → Int64) (a b : Nat) : Option Int32 := if tNm k = true then (if pTaken Q k.2.2.2.1 a b = true then some 4 else none) else some (if k.2.2.1 = 1 then 1 else 2)
section ClsS
variable {z n : Nat} {sh : Shp} {I : MI} {L : ML} {N : Nat → Int32} {Q : Nat → Int64}
set_option maxHeartbeats 4000000 in
set_option maxRecDepth 100000 in
theorem sX6_isNewName (hX : IsX n sh) {T : Nat → Int32} {s : Nat} {k : Tk} (hA : AtC I L T s k) (hk : k.2.2.1 ≤ 4) (hC : CtS I L 35 N Q) (hN : Cn N)  : CM yX6_isNewName cX6_isNewName 2 (Option.some .boolean) 3 0 0 [.ref 479, .ref 35] z n sh I L (Pst (some (.int (bI (nmC k Q (nHo N) (nPo N)).isNone))) z n sh (flO I (nmC k Q (nHo N) (nPo N)) k.1) L) := by
  refine CM.go [some (.ref 479), some (.ref 35)] rfl rfl (Nat.le_of_ble_eq_true rfl) (fun X g q => ?_)
  have hA0 := hA
  obtain ⟨a1, a2, a3, a4, a5, a6, a7⟩ := hA
  refine aw_aload_n dX6_isNewName_0 rfl ?_
  refine aw_cV dX6_isNewName_1 kX6_152 mX6_isName (sX6_isName hX hA0 hk) (Nat.le_of_ble_eq_true rfl) hX.rdr.1 ⟨by decide, rfl⟩ (hX.lt (by decide)) rfl rfl (Nat.le_of_ble_eq_true rfl) ⟨Nat.le_refl _, Nat.le_refl _⟩ ?_
  refine aw_if_ne (tgt := 12) dX6_isNewName_4 rfl (fun c4 => ?_) (fun c4 => ?_)
  · have hn := bI1.mp c4
    have h2 := (tNm_iff.mp hn).1
    refine aw_aload_n dX6_isNewName_12 rfl ?_
    refine aw_aload_n dX6_isNewName_13 rfl ?_
    refine aw_getL dX6_isNewName_14 fX6_97 hX.rdr.1 (hX.lt (by decide)) rfl ?_
    refine AW.topL (a6 h2).1 ?_
    refine aw_cV dX6_isNewName_17 kX6_184 mX7_isTaken (sX7_isTaken hX.spr hC hN) (Nat.le_of_ble_eq_true rfl) hX.spr.k ⟨by decide, rfl⟩ hX.spr.b0 rfl rfl (Nat.le_of_ble_eq_true rfl) ⟨Nat.le_refl _, Nat.le_refl _⟩ ?_
    refine aw_if_eq (tgt := 31) dX6_isNewName_20 rfl (fun c20 => ?_) (fun c20 => ?_)
    · skip
      refine aw_iconst (v := 1) dX6_isNewName_31 rfl ?_
      refine aw_zret q rfl (Or.inr rfl) dX6_isNewName_32 ⟨Nat.le_refl _, Nat.le_refl _⟩ ?_
      have e : nmC k Q (nHo N) (nPo N) = none := (if_pos hn).trans (if_neg (by rw [bI0.mp c20]; decide))
      rw [e]
      exact Pst.rf
    · skip
      refine aw_aload_n dX6_isNewName_23 rfl ?_
      refine aw_iconst (v := 4) dX6_isNewName_24 rfl ?_
      refine aw_cV dX6_isNewName_25 kX6_90 mX6_wrong (sX6_wrong hX) (Nat.le_of_ble_eq_true rfl) hX.rdr.1 ⟨by decide, rfl⟩ (hX.lt (by decide)) rfl rfl (Nat.le_of_ble_eq_true rfl) ⟨Nat.le_refl _, Nat.le_refl _⟩ ?_
      refine aw_goto (tgt := 32) dX6_isNewName_28 rfl ?_
      refine aw_zret q rfl (Or.inl rfl) dX6_isNewName_32 ⟨Nat.le_refl _, Nat.le_refl _⟩ ?_
      have e : nmC k Q (nHo N) (nPo N) = some 4 := (if_pos hn).trans (if_pos (bI1.mp c20))
      rw [e]
      refine ⟨rfl, rfl, rfl, rfl, ?_, rfl⟩
      show _ = flC I 4 k.1
      unfold flC
      rw [a3]
  · have hn : ¬ tNm k = true := by rw [bI0.mp c4]; decide
    refine aw_aload_n dX6_isNewName_7 rfl ?_
    refine aw_cV dX6_isNewName_8 kX6_73 mX6_misplaced (sX6_misplaced hX hA0 hk) (Nat.le_of_ble_eq_true rfl) hX.rdr.1 ⟨by decide, rfl⟩ (hX.lt (by decide)) rfl rfl (Nat.le_of_ble_eq_true rfl) ⟨Nat.le_refl _, Nat.le_refl _⟩ ?_
    refine aw_zret q rfl (Or.inl rfl) dX6_isNewName_11 ⟨Nat.le_refl _, Nat.le_refl _⟩ ?_
    have e : nmC k Q (nHo N) (nPo N) = some (if k.2.2.1 = 1 then 1 else 2) := if_neg hn
    rw [e]
    exact Pst.rf
end ClsS
