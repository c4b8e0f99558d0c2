/-! the class: a number asked for; the end of a line -/
/-- what is wrong with a number, if anything -/
def nuC (k : Tk) (lo hi : Int32) : Option Int32 := if k.2.2.1 = 3 then (if lo ≤ k.2.2.2.2 ∧ k.2.2.2.2 ≤ hi then none else some 3) else some (if k.2.2.1 = 1 then 1 else 2)
def flO (I : MI) (f : Option Int32) (p : Nat) : MI := match f with
  | none => I
  | some c => flC I c p
section ClsS
variable {z n : Nat} {sh : Shp} {I : MI} {L : ML} {N : Nat → Int32} {Q : Nat → Int64}
set_option maxHeartbeats 4000000 in
set_option maxRecDepth 100000 in
theorem sX6_isNumber (hX : IsX n sh) {T : Nat → Int32} {s : Nat} {k : Tk} (hA : AtC I L T s k) (hk : k.2.2.1 ≤ 4) {lo hi : Int32}  : CM yX6_isNumber cX6_isNumber 3 (Option.some .boolean) 3 0 0 [.ref 479, .int lo, .int hi] z n sh I L (Pst (some (.int (bI (nuC k lo hi).isNone))) z n sh (flO I (nuC k lo hi) k.1) L) := by
  refine CM.go [some (.ref 479), some (.int lo), some (.int hi)] rfl rfl (Nat.le_of_ble_eq_true rfl) (fun X g q => ?_)
  have hA0 := hA
  obtain ⟨a1, a2, a3, a4, a5, a6, a7⟩ := hA
  refine aw_aload_n dX6_isNumber_0 rfl ?_
  refine aw_getI dX6_isNumber_1 fX6_62 hX.rdr.1 (hX.lt (by decide)) rfl ?_
  refine AW.top a5 ?_
  refine aw_iconst (v := 2) dX6_isNumber_4 rfl ?_
  refine aw_icmp_eq (tgt := 13) dX6_isNumber_5 rfl (fun c5 => ?_) (fun c5 => ?_)
  · have h3 := (cTk_2 _ hk).mp c5
    refine aw_aload_n dX6_isNumber_13 rfl ?_
    refine aw_getI dX6_isNumber_14 fX6_109 hX.rdr.1 (hX.lt (by decide)) rfl ?_
    refine AW.top (a7 h3) ?_
    refine aw_iload_n dX6_isNumber_17 rfl ?_
    refine aw_icmp_lt (tgt := 29) dX6_isNumber_18 rfl (fun c18 => ?_) (fun c18 => ?_)
    · refine aw_aload_n dX6_isNumber_29 rfl ?_
      refine aw_iconst (v := 3) dX6_isNumber_30 rfl ?_
      refine aw_cV dX6_isNumber_31 kX6_90 mX6_wrong (sX6_wrong hX) (Nat.le_of_ble_eq_true rfl) hX.rdr.1 ⟨by decide, rfl⟩ (hX.lt (by decide)) rfl rfl (Nat.le_of_ble_eq_true rfl) ⟨Nat.le_refl _, Nat.le_refl _⟩ ?_
      refine aw_goto (tgt := 38) dX6_isNumber_34 rfl ?_
      refine aw_zret q rfl (Or.inl rfl) dX6_isNumber_38 ⟨Nat.le_refl _, Nat.le_refl _⟩ ?_
      have e : nuC k lo hi = some 3 := (if_pos h3).trans (if_neg (fun z => absurd z.1 (Int32.not_le.mpr c18)))
      rw [e]
      refine ⟨rfl, rfl, rfl, rfl, ?_, rfl⟩
      show _ = flC I 3 k.1
      unfold flC
      rw [a3]
    · refine aw_aload_n dX6_isNumber_21 rfl ?_
      refine aw_getI dX6_isNumber_22 fX6_109 hX.rdr.1 (hX.lt (by decide)) rfl ?_
      refine AW.top (a7 h3) ?_
      refine aw_iload_n dX6_isNumber_25 rfl ?_
      refine aw_icmp_le (tgt := 37) dX6_isNumber_26 rfl (fun c26 => ?_) (fun c26 => ?_)
      · refine aw_iconst (v := 1) dX6_isNumber_37 rfl ?_
        refine aw_zret q rfl (Or.inr rfl) dX6_isNumber_38 ⟨Nat.le_refl _, Nat.le_refl _⟩ ?_
        have e : nuC k lo hi = none := (if_pos h3).trans (if_pos ⟨Int32.not_lt.mp c18, c26⟩)
        rw [e]
        exact Pst.rf
      · refine aw_aload_n dX6_isNumber_29 rfl ?_
        refine aw_iconst (v := 3) dX6_isNumber_30 rfl ?_
        refine aw_cV dX6_isNumber_31 kX6_90 mX6_wrong (sX6_wrong hX) (Nat.le_of_ble_eq_true rfl) hX.rdr.1 ⟨by decide, rfl⟩ (hX.lt (by decide)) rfl rfl (Nat.le_of_ble_eq_true rfl) ⟨Nat.le_refl _, Nat.le_refl _⟩ ?_
        refine aw_goto (tgt := 38) dX6_isNumber_34 rfl ?_
        refine aw_zret q rfl (Or.inl rfl) dX6_isNumber_38 ⟨Nat.le_refl _, Nat.le_refl _⟩ ?_
        have e : nuC k lo hi = some 3 := (if_pos h3).trans (if_neg (fun z => c26 z.2))
        rw [e]
        refine ⟨rfl, rfl, rfl, rfl, ?_, rfl⟩
        show _ = flC I 3 k.1
        unfold flC
        rw [a3]
  · have h3 : ¬ k.2.2.1 = 3 := fun z => c5 ((cTk_2 _ hk).mpr z)
    refine aw_aload_n dX6_isNumber_8 rfl ?_
    refine aw_cV dX6_isNumber_9 kX6_73 mX6_misplaced (sX6_misplaced hX hA0 hk) (Nat.le_of_ble_eq_true rfl) hX.rdr.1 ⟨by decide, rfl⟩ (hX.lt (by decide)) rfl rfl (Nat.le_of_ble_eq_true rfl) ⟨Nat.le_refl _, Nat.le_refl _⟩ ?_
    refine aw_zret q rfl (Or.inl rfl) dX6_isNumber_12 ⟨Nat.le_refl _, Nat.le_refl _⟩ ?_
    have e : nuC k lo hi = some (if k.2.2.1 = 1 then 1 else 2) := if_neg h3
    rw [e]
    exact Pst.rf
set_option maxHeartbeats 4000000 in
set_option maxRecDepth 100000 in
theorem sX6_readSign (hX : IsX n sh) {T : Nat → Int32} {s : Nat} {k : Tk} (hA : AtC I L T s k) (hk : k.2.2.1 ≤ 4) (hk2 : k.2.1 ≤ s) (hs9 : s ≤ 900) (hKw : KwO L)  : CM yX6_readSign cX6_readSign 1 (Option.some .boolean) 4 0 0 [.ref 479] z n sh I L (if k.2.2.1 = 4 then Eh (some (.int (bI true))) (fun J M => NxF I J ∧ NxL L M ∧ AtC J M T s (nx T s k)) z n sh else Pst (some (.int (bI false))) z n sh (flC I (if k.2.2.1 = 1 then 1 else 2) k.1) L) := by
  refine CM.go [some (.ref 479)] rfl rfl (Nat.le_of_ble_eq_true rfl) (fun X g q => ?_)
  have hA0 := hA
  obtain ⟨a1, a2, a3, a4, a5, a6, a7⟩ := hA
  refine aw_aload_n dX6_readSign_0 rfl ?_
  refine aw_getI dX6_readSign_1 fX6_62 hX.rdr.1 (hX.lt (by decide)) rfl ?_
  refine AW.top a5 ?_
  refine aw_iconst (v := 3) dX6_readSign_4 rfl ?_
  refine aw_icmp_eq (tgt := 13) dX6_readSign_5 rfl (fun c5 => ?_) (fun c5 => ?_)
  · have h4 := (cTk_3 _ hk).mp c5
    refine aw_aload_n dX6_readSign_13 rfl ?_
    refine aw_hV dX6_readSign_14 kX6_59 mX6_next (sX6_next hX a1 a2 hs9 a4 hk2 hKw) (Nat.le_of_ble_eq_true rfl) hX.rdr.1 ⟨by decide, rfl⟩ (hX.lt (by decide)) rfl rfl (Nat.le_of_ble_eq_true rfl) ⟨Nat.le_refl _, Nat.le_refl _⟩ (fun J M hq => ?_)
    
    refine aw_iconst (v := 1) dX6_readSign_17 rfl ?_
    refine aw_zret q rfl (by decide) dX6_readSign_18 ⟨Nat.le_refl _, Nat.le_refl _⟩ ?_
    rw [if_pos h4]
    exact ⟨rfl, rfl, rfl, rfl, hq⟩
  · have h4 : ¬ k.2.2.1 = 4 := fun z => c5 ((cTk_3 _ hk).mpr z)
    refine aw_aload_n dX6_readSign_8 rfl ?_
    refine aw_cV dX6_readSign_9 kX6_73 mX6_misplaced (sX6_misplaced hX hA0 hk) (Nat.le_of_ble_eq_true rfl) hX.rdr.1 ⟨by decide, rfl⟩ (hX.lt (by decide)) rfl rfl (Nat.le_of_ble_eq_true rfl) ⟨Nat.le_refl _, Nat.le_refl _⟩ ?_
    refine aw_zret q rfl (Or.inl rfl) dX6_readSign_12 ⟨Nat.le_refl _, Nat.le_refl _⟩ ?_
    rw [if_neg h4]
    exact Pst.rf
end ClsS
