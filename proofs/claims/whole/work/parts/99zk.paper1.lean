/-! the class: OUT, its letters, texts, names, numbers -/
def Prc (I : MI) (B : List Int32) : Prop := I 482 1 = nI B.length ∧ ∀ i, i < B.length → I 483 i = B.getD i 0
def PcF (I J : MI) : Prop := ∀ a, a ≠ 482 → a ≠ 483 → J a = I a
theorem PcF.rf {I : MI} : PcF I I := fun _ _ _ => rfl
theorem PcF.tr {I J K : MI} (h : PcF I J) (h2 : PcF J K) : PcF I K := fun a a1 a2 => (h2 a a1 a2).trans (h a a1 a2)
theorem str_take : ∀ i, i < 12 → ∀ j, j < strLen.getD i 0 → (strT i).take (j + 1) = (strT i).take j ++ [strC i j] := by decide
theorem str_all : ∀ i, i < 12 → (strT i).take (strLen.getD i 0) = strT i := by decide
theorem str_len : ∀ i, i < 12 → ∀ j, j ≤ strLen.getD i 0 → ((strT i).take j).length ≤ j ∧ j ≤ 20 := by decide
theorem str_kw : ∀ k, k < 4 → strT k = wtx (wdK9 (6 + k)) := by decide +kernel
theorem str_kr : ∀ k, k < 6 → strT (4 + k) = wtx (wdK9 k) := by decide +kernel
theorem and_i32 (x : Int64) : x.toInt32 &&& 31 = (x &&& 31).toInt32 := (Int64.toInt32_and x 31).symm
theorem ltr_n : ∀ j, j < 32 → (97 : Int32) + nI j - 1 = nI (j + 96) := by decide
/-- a letter of a name -/
theorem ltr_of (w : Int64) (i : Nat) : ∃ j, j < 32 ∧ (w >>> ((wsh i).toInt64 &&& 63)).toInt32 &&& 31 = nI j ∧ (wpv w i = 0 ↔ j = 0) ∧ (wpv w i).toInt32 + 96 = nI (j + 96) := by
  obtain ⟨j, h1, h2, h3⟩ := wpv_of w i
  refine ⟨j, h1, ?_, ?_, h3⟩
  · rw [and_i32]
    show (wpv w i).toInt32 = nI j
    rw [h2, lN_i]
  · rw [h2]
    constructor
    · intro e
      have e2 : ∀ j, j < 32 → lN j = 0 → j = 0 := by decide
      exact e2 j h1 e
    · intro e
      subst e
      rfl
theorem nm_top {w : Int64} (h : NmO w) : wpc w 0 = [] := by
  obtain ⟨k, hk, rfl⟩ := h
  refine if_pos ?_
  unfold wpv
  have e : lN k >>> ((wsh 0).toInt64 &&& 63) = 0 := by
    apply Int64.toBitVec_inj.mp
    rw [Int64.toBitVec_shiftRight]
    have e1 : (lN k).toBitVec = BitVec.ofNat 64 k := rfl
    have e2 : ((wsh 0).toInt64 &&& 63).toBitVec.smod 64 = BitVec.ofNat 64 40 := by decide
    rw [e1, e2]
    apply BitVec.eq_of_toNat_eq
    rw [BitVec.sshiftRight_eq', BitVec.sshiftRight_eq_of_msb_false (by
      rw [BitVec.msb_eq_decide]
      simp only [BitVec.toNat_ofNat, decide_eq_false_iff_not]
      rw [Nat.mod_eq_of_lt (by omega)]
      omega)]
    simp only [BitVec.toNat_ushiftRight, BitVec.toNat_ofNat]
    rw [Nat.mod_eq_of_lt (show k < 2 ^ 64 by omega), Nat.shiftRight_eq_div_pow]
    show k / 2 ^ 40 = _
    rw [Nat.div_eq_of_lt hk]
    rfl
  rw [e]
  rfl
theorem dg100 : ∀ v, v < 1000 → (48 : Int32) + irem (nI v / 100) 10 = 48 + nI v / 100 := by decide +kernel
section ClsS
variable {z n : Nat} {sh : Shp} {I : MI} {L : ML} {N : Nat → Int32} {Q : Nat → Int64}
set_option maxHeartbeats 4000000 in
set_option maxRecDepth 100000 in
theorem sX5_put (hX : IsX n sh) {B : List Int32} (hB : Prc I B) {x : Int32} (hl : B.length < 1024)  : CM yX5_put cX5_put 2 (Option.none : Option FieldType) 1 0 0 [.ref 482, .int x] z n sh I L (Ef none (fun J => PcF I J ∧ Prc J (B ++ [x])) z n sh L) := by
  refine CM.go [some (.ref 482), some (.int x)] rfl rfl (Nat.le_of_ble_eq_true rfl) (fun X g q => ?_)
  refine aw_aload_n dX5_put_0 rfl ?_
  refine aw_getI dX5_put_1 fX5_15 hX.pap.1 (hX.lt (by decide)) rfl ?_
  refine AW.top hB.1 ?_
  refine aw_sipush (v := 1024) dX5_put_4 rfl ?_
  refine aw_icmp_ge (tgt := 30) dX5_put_7 rfl (fun c7 => ?_) (fun c7 => ?_)
  · exact absurd ((nI_leI (a := 1024) (b := B.length) (by decide) (by omega)).mp c7) (by omega)
  · skip
    refine aw_aload_n dX5_put_10 rfl ?_
    refine aw_getR (b := 483) dX5_put_11 fX5_9 hX.pap.1 (hX.lt (by decide)) rfl hX.pap.2.1 ?_
    refine aw_aload_n dX5_put_14 rfl ?_
    refine aw_getI dX5_put_15 fX5_15 hX.pap.1 (hX.lt (by decide)) rfl ?_
    refine AW.top hB.1 ?_
    refine aw_iload_n dX5_put_18 rfl ?_
    refine aw_iastN (k := B.length) dX5_put_19 hX.pap.2.2.1 (hX.lt (by decide)) hX.pap.2.2.2 rfl (by omega) (by decide) ?_
    refine aw_aload_n dX5_put_20 rfl ?_
    refine aw_dup dX5_put_21 rfl ?_
    refine aw_getI dX5_put_22 fX5_15 hX.pap.1 (hX.lt (by decide)) rfl ?_
    refine AW.top ((congrFun (upI_row2 (by decide)) _).trans hB.1) ?_
    refine aw_iconst (v := 1) dX5_put_25 rfl ?_
    refine aw_iadd dX5_put_26 ?_
    refine AW.top (nI_1 B.length) ?_
    refine aw_putI dX5_put_27 fX5_15 hX.pap.1 (hX.lt (by decide)) rfl rfl ?_
    refine aw_vret q rfl dX5_put_30 ⟨Nat.le_refl _, Nat.le_refl _⟩ ?_
    refine ⟨rfl, rfl, rfl, rfl, rfl, fun a a1 a2 => (upI_row2 a1).trans (upI_row2 a2), ?_, fun i hi => ?_⟩
    · rw [len_app1]
      exact upI_s
    · rw [len_app1] at hi
      by_cases e : i = B.length
      · subst e
        rw [getD_end]
        exact (congrFun (upI_row2 (by decide)) _).trans upI_s
      · rw [getD_app (by omega)]
        exact (congrFun (upI_row2 (by decide)) _).trans ((upI_n (Or.inr e)).trans (hB.2 i (by omega)))
set_option maxHeartbeats 4000000 in
set_option maxRecDepth 100000 in
theorem sX5_putText (hX : IsX n sh) {B : List Int32} (hB : Prc I B) {i : Nat} (hi : i < 12) (hl : B.length + 20 ≤ 1024) : CM yX5_putText cX5_putText 3 (Option.none : Option FieldType) 6 0 0 [.ref 482, .ref (1000100 + i)] z n sh I L (Ef none (fun J => PcF I J ∧ Prc J (B ++ strT i)) z n sh L) := by
  refine CM.go [some (.ref 482), some (.ref (1000100 + i)), none] rfl rfl (Nat.le_of_ble_eq_true rfl) (fun X g q => ?_)
  have hL := strL_eq i hi
  have loop : ∀ j, j ≤ strLen.getD i 0 → ∀ (J : MI), PcF I J → Prc J (B ++ (strT i).take j) → AW X g RX5 cX5_putText 3 (6, 0, 0) (z, n, sh, 0, 0) (J) (L) 2 [some (.ref 482), some (.ref (1000100 + i)), some (.int (nI j))] [] := by
    refine up_loop (fun j hj ih J hF hBj => ?_)
    have hl2 := str_len i hi j hj
    refine aw_iload_n dX5_putText_2 rfl ?_
    refine aw_aload_n dX5_putText_3 rfl ?_
    refine aw_cT dX5_putText_4 kX5_133 mJ0_length_8abf5 rfl (sJ0_length hi) (Nat.le_of_ble_eq_true rfl) hi rfl rfl (Nat.le_of_ble_eq_true rfl) ⟨Nat.le_refl _, Nat.le_refl _⟩ ?_
    refine aw_icmp_ge (tgt := 25) dX5_putText_7 rfl (fun c7 => ?_) (fun c7 => ?_)
    · have e := ge_t rfl (by omega) hj c7
      subst e
      rw [str_all i hi] at hBj
      refine aw_vret q rfl dX5_putText_25 ⟨Nat.le_refl _, Nat.le_refl _⟩ ?_
      exact ⟨rfl, rfl, rfl, rfl, rfl, hF, hBj⟩
    · have hlt := ge_f rfl (by omega) hj c7
      refine aw_aload_n dX5_putText_10 rfl ?_
      refine aw_aload_n dX5_putText_11 rfl ?_
      refine aw_iload_n dX5_putText_12 rfl ?_
      refine aw_cT (As := [.int (nI j)]) dX5_putText_13 kX5_138 mJ0_charAt_5068e rfl (sJ0_charAt hi hlt) (Nat.le_of_ble_eq_true rfl) hi rfl rfl (Nat.le_of_ble_eq_true rfl) ⟨Nat.le_refl _, Nat.le_refl _⟩ ?_
      refine aw_eV dX5_putText_16 kX5_25 mX5_put (sX5_put hX hBj (by rw [List.length_append]; omega)) (Nat.le_of_ble_eq_true rfl) hX.pap.1 ⟨by decide, rfl⟩ (hX.lt (by decide)) rfl rfl (Nat.le_of_ble_eq_true rfl) ⟨Nat.le_refl _, Nat.le_refl _⟩ (fun J2 hq2 => ?_)
      refine aw_iinc dX5_putText_19 rfl (ginc rfl) (by decide) rfl ?_
      refine aw_goto (tgt := 2) dX5_putText_22 rfl ?_
      refine ih hlt J2 (hF.tr hq2.1) ?_
      rw [str_take i hi j hlt, ← List.append_assoc]
      exact hq2.2
  refine aw_iconst (v := 0) dX5_putText_0 rfl ?_
  refine aw_istore_n dX5_putText_1 (by decide) rfl ?_
  refine loop 0 (Nat.zero_le _) I PcF.rf ?_
  rw [List.take_zero, List.append_nil]
  exact hB
set_option maxHeartbeats 4000000 in
set_option maxRecDepth 100000 in
theorem sX5_putName (hX : IsX n sh) {B : List Int32} (hB : Prc I B) {w : Int64} (hw : NmO w) (hl : B.length + 10 ≤ 1024) : CM yX5_putName cX5_putName 5 (Option.none : Option FieldType) 2 0 0 [.ref 482, .long w] z n sh I L (Ef none (fun J => PcF I J ∧ Prc J (B ++ nmt w)) z n sh L) := by
  refine CM.go [some (.ref 482), some (.long w), none, none, none] rfl rfl (Nat.le_of_ble_eq_true rfl) (fun X g q => ?_)
  have loop : ∀ i, i ≤ 8 → ∀ (u : Option Value) (J : MI), PcF I J → Prc J (B ++ [32] ++ lcat (wpc w) (i + 1)) → AW X g RX5 cX5_putName 5 (2, 0, 0) (z, n, sh, 0, 0) (J) (L) 9 [some (.ref 482), some (.long w), none, some (.int (wsh (i + 1))), u] [] := by
    refine up_loop (fun i hi ih u J hF hBi => ?_)
    have hlen : (B ++ [32] ++ lcat (wpc w) (i + 1)).length ≤ B.length + 1 + i := by
      have h0 : ∀ i, (lcat (wpc w) (i + 1)).length ≤ i := by
        intro i
        induction i with
        | zero => show (lcat (wpc w) 0 ++ wpc w 0).length ≤ 0; rw [nm_top hw]; exact Nat.le_refl _
        | succ i ih2 =>
          show (lcat (wpc w) (i + 1) ++ wpc w (i + 1)).length ≤ _
          have := wpc_len w (i + 1)
          rw [List.length_append]
          omega
      have := h0 i
      simp only [List.length_append, List.length_singleton]
      omega
    refine aw_iload_n dX5_putName_9 rfl ?_
    refine aw_if_lt (tgt := 44) dX5_putName_10 rfl (fun c10 => ?_) (fun c10 => ?_)
    · have e : i = 8 := by
        have := (wsh_lt (i + 1) (by omega)).mp c10
        omega
      subst e
      refine aw_vret q rfl dX5_putName_44 ⟨Nat.le_refl _, Nat.le_refl _⟩ ?_
      refine ⟨rfl, rfl, rfl, rfl, rfl, hF, ?_⟩
      unfold nmt wtx
      rw [← List.append_assoc]
      exact hBi
    · have hlt : i < 8 := by
        have := mt (wsh_lt (i + 1) (by omega)).mpr c10
        omega
      obtain ⟨j, j1, j2, j3, j4⟩ := ltr_of w (i + 1)
      refine aw_lload_n dX5_putName_13 rfl ?_
      refine aw_iload_n dX5_putName_14 rfl ?_
      refine aw_lshr dX5_putName_15 ?_
      refine aw_l2i dX5_putName_16 ?_
      refine aw_bipush (v := 31) dX5_putName_17 rfl ?_
      refine aw_iand dX5_putName_19 ?_
      refine AW.top j2 ?_
      refine aw_istore dX5_putName_20 (by decide) rfl ?_
      refine aw_iload dX5_putName_22 rfl ?_
      refine aw_if_eq (tgt := 38) dX5_putName_24 rfl (fun c24 => ?_) (fun c24 => ?_)
      · have c9 : wpv w (i + 1) = 0 := j3.mpr ((nI_eq (b := 0) (by omega) (by decide)).mp c24)
        refine aw_iinc dX5_putName_38 rfl (wsh_s (i + 1) (by omega)) (by decide) rfl ?_
        refine aw_goto (tgt := 9) dX5_putName_41 rfl ?_
        refine ih hlt _ J hF ?_
        have e : lcat (wpc w) (i + 1 + 1) = lcat (wpc w) (i + 1) := by
          show lcat (wpc w) (i + 1) ++ wpc w (i + 1) = _
          unfold wpc
          rw [if_pos c9, List.append_nil]
        rw [e]
        exact hBi
      · have c9 : ¬ wpv w (i + 1) = 0 := fun q => c24 ((nI_eq (b := 0) (by omega) (by decide)).mpr (j3.mp q))
        refine aw_aload_n dX5_putName_27 rfl ?_
        refine aw_bipush (v := 97) dX5_putName_28 rfl ?_
        refine aw_iload dX5_putName_30 rfl ?_
        refine aw_iadd dX5_putName_32 ?_
        refine aw_iconst (v := 1) dX5_putName_33 rfl ?_
        refine aw_isub dX5_putName_34 ?_
        refine AW.top ((ltr_n j j1).trans j4.symm) ?_
        refine aw_eV dX5_putName_35 kX5_25 mX5_put (sX5_put hX hBi (by omega)) (Nat.le_of_ble_eq_true rfl) hX.pap.1 ⟨by decide, rfl⟩ (hX.lt (by decide)) rfl rfl (Nat.le_of_ble_eq_true rfl) ⟨Nat.le_refl _, Nat.le_refl _⟩ (fun J2 hq2 => ?_)
        refine aw_iinc dX5_putName_38 rfl (wsh_s (i + 1) (by omega)) (by decide) rfl ?_
        refine aw_goto (tgt := 9) dX5_putName_41 rfl ?_
        refine ih hlt _ J2 (hF.tr hq2.1) ?_
        have e : B ++ [32] ++ lcat (wpc w) (i + 1 + 1) = B ++ [32] ++ lcat (wpc w) (i + 1) ++ [(wpv w (i + 1)).toInt32 + 96] := by
          show B ++ [32] ++ (lcat (wpc w) (i + 1) ++ wpc w (i + 1)) = _
          rw [show wpc w (i + 1) = [(wpv w (i + 1)).toInt32 + 96] from if_neg c9, List.append_assoc (B ++ [32])]
        rw [e]
        exact hq2.2
  refine aw_aload_n dX5_putName_0 rfl ?_
  refine aw_bipush (v := 32) dX5_putName_1 rfl ?_
  refine aw_eV dX5_putName_3 kX5_25 mX5_put (sX5_put hX hB (by omega)) (Nat.le_of_ble_eq_true rfl) hX.pap.1 ⟨by decide, rfl⟩ (hX.lt (by decide)) rfl rfl (Nat.le_of_ble_eq_true rfl) ⟨Nat.le_refl _, Nat.le_refl _⟩ (fun J1 hq1 => ?_)
  refine aw_bipush (v := 35) dX5_putName_6 rfl ?_
  refine aw_istore_n dX5_putName_8 (by decide) rfl ?_
  refine loop 0 (Nat.zero_le _) none J1 hq1.1 ?_
  have e : lcat (wpc w) (0 + 1) = [] := by
    show lcat (wpc w) 0 ++ wpc w 0 = []
    rw [nm_top hw]
    rfl
  rw [e, List.append_nil]
  exact hq1.2
set_option maxHeartbeats 4000000 in
set_option maxRecDepth 100000 in
theorem sX5_putNumber (hX : IsX n sh) {B : List Int32} (hB : Prc I B) {v : Nat} (hv : v ≤ 999) (hl : B.length + 4 ≤ 1024)  : CM yX5_putNumber cX5_putNumber 2 (Option.none : Option FieldType) 2 0 0 [.ref 482, .int (nI v)] z n sh I L (Ef none (fun J => PcF I J ∧ Prc J (B ++ ntx (nI v))) z n sh L) := by
  refine CM.go [some (.ref 482), some (.int (nI v))] rfl rfl (Nat.le_of_ble_eq_true rfl) (fun X g q => ?_)
  refine aw_aload_n dX5_putNumber_0 rfl ?_
  refine aw_bipush (v := 32) dX5_putNumber_1 rfl ?_
  refine aw_eV dX5_putNumber_3 kX5_25 mX5_put (sX5_put hX hB (by omega)) (Nat.le_of_ble_eq_true rfl) hX.pap.1 ⟨by decide, rfl⟩ (hX.lt (by decide)) rfl rfl (Nat.le_of_ble_eq_true rfl) ⟨Nat.le_refl _, Nat.le_refl _⟩ (fun J1 hq1 => ?_)
  refine aw_iload_n dX5_putNumber_6 rfl ?_
  refine aw_bipush (v := 100) dX5_putNumber_7 rfl ?_
  refine aw_icmp_lt (tgt := 26) dX5_putNumber_9 rfl (fun c9 => ?_) (fun c9 => ?_)
  · have g9 : ¬ (99 : Int32) < nI v := fun q => by
      have h1 := (nI_ltI (a := v) (b := 100) (by omega) (by decide)).mp c9
      have h2 := (nI_ltI (a := 99) (b := v) (by decide) (by omega)).mp q
      omega
    refine aw_iload_n dX5_putNumber_26 rfl ?_
    refine aw_bipush (v := 10) dX5_putNumber_27 rfl ?_
    refine aw_icmp_lt (tgt := 46) dX5_putNumber_29 rfl (fun c29 => ?_) (fun c29 => ?_)
    · have f9 : ¬ (9 : Int32) < nI v := fun q => by
        have h1 := (nI_ltI (a := v) (b := 10) (by omega) (by decide)).mp c29
        have h2 := (nI_ltI (a := 9) (b := v) (by decide) (by omega)).mp q
        omega
      refine aw_aload_n dX5_putNumber_46 rfl ?_
      refine aw_bipush (v := 48) dX5_putNumber_47 rfl ?_
      refine aw_iload_n dX5_putNumber_49 rfl ?_
      refine aw_bipush (v := 10) dX5_putNumber_50 rfl ?_
      refine aw_irem dX5_putNumber_52 (by decide) ?_
      refine aw_iadd dX5_putNumber_53 ?_
      refine aw_eV dX5_putNumber_54 kX5_25 mX5_put (sX5_put hX hq1.2 (by simp only [List.length_append, List.length_singleton]; omega)) (Nat.le_of_ble_eq_true rfl) hX.pap.1 ⟨by decide, rfl⟩ (hX.lt (by decide)) rfl rfl (Nat.le_of_ble_eq_true rfl) ⟨Nat.le_refl _, Nat.le_refl _⟩ (fun J4 hq4 => ?_)
      refine aw_vret q rfl dX5_putNumber_57 ⟨Nat.le_refl _, Nat.le_refl _⟩ ?_
      refine ⟨rfl, rfl, rfl, rfl, rfl, hq1.1.tr hq4.1, ?_⟩
      have e : ntx (nI v) = [32] ++ [] ++ [] ++ [48 + irem (nI v) 10] := by
        unfold ntx
        rw [if_neg g9, if_neg f9]
      rw [e]
      have hq := hq4.2
      simp only [List.append_assoc, List.append_nil] at hq ⊢
      exact hq
    · have f9 : (9 : Int32) < nI v := (nI_ltI (a := 9) (b := v) (by decide) (by omega)).mpr (by
        have := mt (nI_ltI (a := v) (b := 10) (by omega) (by decide)).mpr c29
        omega)
      refine aw_aload_n dX5_putNumber_32 rfl ?_
      refine aw_bipush (v := 48) dX5_putNumber_33 rfl ?_
      refine aw_iload_n dX5_putNumber_35 rfl ?_
      refine aw_bipush (v := 10) dX5_putNumber_36 rfl ?_
      refine aw_idiv dX5_putNumber_38 (by decide) ?_
      refine aw_bipush (v := 10) dX5_putNumber_39 rfl ?_
      refine aw_irem dX5_putNumber_41 (by decide) ?_
      refine aw_iadd dX5_putNumber_42 ?_
      refine aw_eV dX5_putNumber_43 kX5_25 mX5_put (sX5_put hX hq1.2 (by simp only [List.length_append, List.length_singleton]; omega)) (Nat.le_of_ble_eq_true rfl) hX.pap.1 ⟨by decide, rfl⟩ (hX.lt (by decide)) rfl rfl (Nat.le_of_ble_eq_true rfl) ⟨Nat.le_refl _, Nat.le_refl _⟩ (fun J3 hq3 => ?_)
      refine aw_aload_n dX5_putNumber_46 rfl ?_
      refine aw_bipush (v := 48) dX5_putNumber_47 rfl ?_
      refine aw_iload_n dX5_putNumber_49 rfl ?_
      refine aw_bipush (v := 10) dX5_putNumber_50 rfl ?_
      refine aw_irem dX5_putNumber_52 (by decide) ?_
      refine aw_iadd dX5_putNumber_53 ?_
      refine aw_eV dX5_putNumber_54 kX5_25 mX5_put (sX5_put hX hq3.2 (by simp only [List.length_append, List.length_singleton]; omega)) (Nat.le_of_ble_eq_true rfl) hX.pap.1 ⟨by decide, rfl⟩ (hX.lt (by decide)) rfl rfl (Nat.le_of_ble_eq_true rfl) ⟨Nat.le_refl _, Nat.le_refl _⟩ (fun J4 hq4 => ?_)
      refine aw_vret q rfl dX5_putNumber_57 ⟨Nat.le_refl _, Nat.le_refl _⟩ ?_
      refine ⟨rfl, rfl, rfl, rfl, rfl, (hq1.1.tr hq3.1).tr hq4.1, ?_⟩
      have e : ntx (nI v) = [32] ++ [] ++ [48 + irem (nI v / 10) 10] ++ [48 + irem (nI v) 10] := by
        unfold ntx
        rw [if_neg g9, if_pos f9]
      rw [e]
      have hq := hq4.2
      simp only [List.append_assoc, List.append_nil] at hq ⊢
      exact hq
  · have g9 : (99 : Int32) < nI v := (nI_ltI (a := 99) (b := v) (by decide) (by omega)).mpr (by
      have := mt (nI_ltI (a := v) (b := 100) (by omega) (by decide)).mpr c9
      omega)
    refine aw_aload_n dX5_putNumber_12 rfl ?_
    refine aw_bipush (v := 48) dX5_putNumber_13 rfl ?_
    refine aw_iload_n dX5_putNumber_15 rfl ?_
    refine aw_bipush (v := 100) dX5_putNumber_16 rfl ?_
    refine aw_idiv dX5_putNumber_18 (by decide) ?_
    refine aw_bipush (v := 10) dX5_putNumber_19 rfl ?_
    refine aw_irem dX5_putNumber_21 (by decide) ?_
    refine aw_iadd dX5_putNumber_22 ?_
    refine AW.top (dg100 v (by omega)) ?_
    refine aw_eV dX5_putNumber_23 kX5_25 mX5_put (sX5_put hX hq1.2 (by simp only [List.length_append, List.length_singleton]; omega)) (Nat.le_of_ble_eq_true rfl) hX.pap.1 ⟨by decide, rfl⟩ (hX.lt (by decide)) rfl rfl (Nat.le_of_ble_eq_true rfl) ⟨Nat.le_refl _, Nat.le_refl _⟩ (fun J2 hq2 => ?_)
    refine aw_iload_n dX5_putNumber_26 rfl ?_
    refine aw_bipush (v := 10) dX5_putNumber_27 rfl ?_
    refine aw_icmp_lt (tgt := 46) dX5_putNumber_29 rfl (fun c29 => ?_) (fun c29 => ?_)
    · have f9 : ¬ (9 : Int32) < nI v := fun q => by
        have h1 := (nI_ltI (a := v) (b := 10) (by omega) (by decide)).mp c29
        have h2 := (nI_ltI (a := 9) (b := v) (by decide) (by omega)).mp q
        omega
      refine aw_aload_n dX5_putNumber_46 rfl ?_
      refine aw_bipush (v := 48) dX5_putNumber_47 rfl ?_
      refine aw_iload_n dX5_putNumber_49 rfl ?_
      refine aw_bipush (v := 10) dX5_putNumber_50 rfl ?_
      refine aw_irem dX5_putNumber_52 (by decide) ?_
      refine aw_iadd dX5_putNumber_53 ?_
      refine aw_eV dX5_putNumber_54 kX5_25 mX5_put (sX5_put hX hq2.2 (by simp only [List.length_append, List.length_singleton]; omega)) (Nat.le_of_ble_eq_true rfl) hX.pap.1 ⟨by decide, rfl⟩ (hX.lt (by decide)) rfl rfl (Nat.le_of_ble_eq_true rfl) ⟨Nat.le_refl _, Nat.le_refl _⟩ (fun J4 hq4 => ?_)
      refine aw_vret q rfl dX5_putNumber_57 ⟨Nat.le_refl _, Nat.le_refl _⟩ ?_
      refine ⟨rfl, rfl, rfl, rfl, rfl, (hq1.1.tr hq2.1).tr hq4.1, ?_⟩
      have e : ntx (nI v) = [32] ++ [48 + nI v / 100] ++ [] ++ [48 + irem (nI v) 10] := by
        unfold ntx
        rw [if_pos g9, if_neg f9]
      rw [e]
      have hq := hq4.2
      simp only [List.append_assoc, List.append_nil] at hq ⊢
      exact hq
    · have f9 : (9 : Int32) < nI v := (nI_ltI (a := 9) (b := v) (by decide) (by omega)).mpr (by
        have := mt (nI_ltI (a := v) (b := 10) (by omega) (by decide)).mpr c29
        omega)
      refine aw_aload_n dX5_putNumber_32 rfl ?_
      refine aw_bipush (v := 48) dX5_putNumber_33 rfl ?_
      refine aw_iload_n dX5_putNumber_35 rfl ?_
      refine aw_bipush (v := 10) dX5_putNumber_36 rfl ?_
      refine aw_idiv dX5_putNumber_38 (by decide) ?_
      refine aw_bipush (v := 10) dX5_putNumber_39 rfl ?_
      refine aw_irem dX5_putNumber_41 (by decide) ?_
      refine aw_iadd dX5_putNumber_42 ?_
      refine aw_eV dX5_putNumber_43 kX5_25 mX5_put (sX5_put hX hq2.2 (by simp only [List.length_append, List.length_singleton]; omega)) (Nat.le_of_ble_eq_true rfl) hX.pap.1 ⟨by decide, rfl⟩ (hX.lt (by decide)) rfl rfl (Nat.le_of_ble_eq_true rfl) ⟨Nat.le_refl _, Nat.le_refl _⟩ (fun J3 hq3 => ?_)
      refine aw_aload_n dX5_putNumber_46 rfl ?_
      refine aw_bipush (v := 48) dX5_putNumber_47 rfl ?_
      refine aw_iload_n dX5_putNumber_49 rfl ?_
      refine aw_bipush (v := 10) dX5_putNumber_50 rfl ?_
      refine aw_irem dX5_putNumber_52 (by decide) ?_
      refine aw_iadd dX5_putNumber_53 ?_
      refine aw_eV dX5_putNumber_54 kX5_25 mX5_put (sX5_put hX hq3.2 (by simp only [List.length_append, List.length_singleton]; omega)) (Nat.le_of_ble_eq_true rfl) hX.pap.1 ⟨by decide, rfl⟩ (hX.lt (by decide)) rfl rfl (Nat.le_of_ble_eq_true rfl) ⟨Nat.le_refl _, Nat.le_refl _⟩ (fun J4 hq4 => ?_)
      refine aw_vret q rfl dX5_putNumber_57 ⟨Nat.le_refl _, Nat.le_refl _⟩ ?_
      refine ⟨rfl, rfl, rfl, rfl, rfl, ((hq1.1.tr hq2.1).tr hq3.1).tr hq4.1, ?_⟩
      have e : ntx (nI v) = [32] ++ [48 + nI v / 100] ++ [48 + irem (nI v / 10) 10] ++ [48 + irem (nI v) 10] := by
        unfold ntx
        rw [if_pos g9, if_pos f9]
      rw [e]
      have hq := hq4.2
      simp only [List.append_assoc, List.append_nil] at hq ⊢
      exact hq
set_option maxHeartbeats 4000000 in
set_option maxRecDepth 100000 in
theorem sX5_byteAt (hX : IsX n sh) {B : List Int32} (hB : Prc I B) {k : Nat} (hk : k < B.length) (hl : B.length ≤ 1024)  : CM yX5_byteAt cX5_byteAt 2 (Option.some .int) 1 0 0 [.ref 482, .int (nI k)] z n sh I L (Pst (some (.int (B.getD k 0))) z n sh I L) := by
  refine CM.go [some (.ref 482), some (.int (nI k))] rfl rfl (Nat.le_of_ble_eq_true rfl) (fun X g q => ?_)
  refine aw_iload_n dX5_byteAt_0 rfl ?_
  refine aw_if_lt (tgt := 19) dX5_byteAt_1 rfl (fun c1 => ?_) (fun c1 => ?_)
  · exact absurd c1 (nI_pos (by omega))
  · skip
    refine aw_iload_n dX5_byteAt_4 rfl ?_
    refine aw_aload_n dX5_byteAt_5 rfl ?_
    refine aw_getI dX5_byteAt_6 fX5_15 hX.pap.1 (hX.lt (by decide)) rfl ?_
    refine AW.top hB.1 ?_
    refine aw_icmp_ge (tgt := 19) dX5_byteAt_9 rfl (fun c9 => ?_) (fun c9 => ?_)
    · exact absurd ((nI_leI (a := B.length) (b := k) (by omega) (by omega)).mp c9) (by omega)
    · skip
      refine aw_iload_n dX5_byteAt_12 rfl ?_
      refine aw_sipush (v := 1024) dX5_byteAt_13 rfl ?_
      refine aw_icmp_lt (tgt := 23) dX5_byteAt_16 rfl (fun c16 => ?_) (fun c16 => ?_)
      · skip
        refine aw_aload_n dX5_byteAt_23 rfl ?_
        refine aw_getR (b := 483) dX5_byteAt_24 fX5_9 hX.pap.1 (hX.lt (by decide)) rfl hX.pap.2.1 ?_
        refine aw_iload_n dX5_byteAt_27 rfl ?_
        refine aw_ialdN (k := k) dX5_byteAt_28 hX.pap.2.2.1 (hX.lt (by decide)) hX.pap.2.2.2 rfl (by omega) (by decide) ?_
        refine AW.top (hB.2 k hk) ?_
        refine aw_iret q rfl dX5_byteAt_29 ⟨Nat.le_refl _, Nat.le_refl _⟩ ?_
        exact Pst.rf
      · exact absurd ((nI_ltI (a := k) (b := 1024) (by omega) (by decide)).mpr (by omega)) c16
end ClsS
