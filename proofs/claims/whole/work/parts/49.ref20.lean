/-! the reference: print -/
section RefS
variable {z n m : Nat} {sh : Shp} {I : MI} {L : ML}
set_option maxHeartbeats 4000000 in
set_option maxRecDepth 100000 in
theorem sX11_prints (hM : IsM n sh m) {B : List Int32} (hB : Prt I m B) {x : Int32} {c : Nat} (hl : B.length < 1800) (hx : x = nI c) (hc : c < 128) : CM yX11_prints cX11_prints 2 (Option.none : Option FieldType) 1 0 0 [.ref m, .int x] z n sh I L (PtP z n sh I L m (B ++ [x])) := by
  refine CM.go [some (.ref m), some (.int x)] rfl rfl (Nat.le_of_ble_eq_true rfl) (fun X g q => ?_)
  refine aw_aload_n dX11_prints_0 rfl ?_
  refine aw_getR (b := m + 14) dX11_prints_1 fX11_57 hM.k hM.b rfl hM.r13 ?_
  refine aw_aload_n dX11_prints_4 rfl ?_
  refine aw_getI dX11_prints_5 fX11_395 hM.k hM.b rfl ?_
  refine aw_iload_n dX11_prints_8 rfl ?_
  refine aw_i2b dX11_prints_9 ?_
  refine aw_bastN (k := B.length) dX11_prints_10 hM.k13 hM.b13 hM.l13 hB.1 (by omega) (by decide) ?_
  refine aw_aload_n dX11_prints_11 rfl ?_
  refine aw_dup dX11_prints_12 rfl ?_
  refine aw_getI dX11_prints_13 fX11_395 hM.k hM.b rfl ?_
  refine aw_iconst (v := 1) dX11_prints_16 rfl ?_
  refine aw_iadd dX11_prints_17 ?_
  refine aw_putI dX11_prints_18 fX11_395 hM.k hM.b rfl rfl ?_
  refine aw_vret q rfl dX11_prints_21 ⟨Nat.le_refl _, Nat.le_refl _⟩ ?_
  subst hx
  refine ⟨rfl, rfl, rfl, rfl, rfl, ⟨fun a a1 a2 => (if_neg a1).trans (if_neg a2), fun k hk => fI_n hk (congrFun (if_neg (by omega)) _)⟩, ?_, fun i hi => ?_⟩
  · refine fI_s.trans ?_
    rw [show upI I (m + 14) B.length (vp_nar .byte (nI c).toInt8.toInt32) m 32 = I m 32 from congrFun (if_neg (by omega)) _, hB.1, len_app1]
    exact nI_1 _
  · rw [upI_off (by omega) (upI_row rfl)]
    rw [len_app1] at hi
    by_cases e : i = B.length
    · subst e
      rw [pk_us, getD_end]
      exact nar_b c hc
    · rw [pk_un e, getD_app (by omega)]
      exact hB.2 i (by omega)
set_option maxHeartbeats 4000000 in
set_option maxRecDepth 100000 in
theorem sX11_printsWord (hM : IsM n sh m) {B : List Int32} (hB : Prt I m B) {w : Int64} (hl : B.length + 9 ≤ 1800) : CM yX11_printsWord cX11_printsWord 4 (Option.none : Option FieldType) 2 0 0 [.ref m, .long w] z n sh I L (PtP z n sh I L m (B ++ wtx w)) := by
  refine CM.go [some (.ref m), some (.long w), none, none] rfl rfl (Nat.le_of_ble_eq_true rfl) (fun X g q => ?_)
  have loop : ∀ i, i ≤ 9 → ∀ (J : MI), PrF m I J → Prt J m (B ++ lcat (wpc w) i) → AW X g RX11 cX11_printsWord 4 (2, 0, 0) (z, n, sh, 0, 0) (J) (L) 3 [some (.ref m), some (.long w), none, some (.int (wsh i))] [] := by
    refine up_loop (fun i hi ih J hF hBi => ?_)
    have hlen : (B ++ lcat (wpc w) i).length ≤ B.length + i := by
      have := lcat_len (wpc_len w) i
      rw [List.length_append]
      omega
    refine aw_iload_n dX11_printsWord_3 rfl ?_
    refine aw_if_lt (tgt := 40) dX11_printsWord_4 rfl (fun c4 => ?_) (fun c4 => ?_)
    · have e : i = 9 := (wsh_lt i hi).mp c4
      subst e
      refine aw_vret q rfl dX11_printsWord_40 ⟨Nat.le_refl _, Nat.le_refl _⟩ ?_
      exact ⟨rfl, rfl, rfl, rfl, rfl, hF, hBi⟩
    · have hlt : i < 9 := by
        have := mt (wsh_lt i hi).mpr c4
        omega
      refine aw_lload_n dX11_printsWord_7 rfl ?_
      refine aw_iload_n dX11_printsWord_8 rfl ?_
      refine aw_lshr dX11_printsWord_9 ?_
      refine aw_ldc2 dX11_printsWord_10 qX11_398 ?_
      refine aw_land dX11_printsWord_13 ?_
      refine aw_lconst (v := 0) dX11_printsWord_14 rfl ?_
      refine aw_lcmp dX11_printsWord_15 ?_
      refine aw_if_eq (tgt := 34) dX11_printsWord_16 rfl (fun c16 => ?_) (fun c16 => ?_)
      · have c9 : wpv w i = 0 := lg_cmp0.mp c16
        refine aw_iinc dX11_printsWord_34 rfl (wsh_s i hlt) (by decide) rfl ?_
        refine aw_goto (tgt := 3) dX11_printsWord_37 rfl ?_
        refine ih hlt J hF ?_
        have e : lcat (wpc w) (i + 1) = lcat (wpc w) i := by
          show lcat (wpc w) i ++ wpc w i = _
          unfold wpc
          rw [if_pos c9, List.append_nil]
        rw [e]
        exact hBi
      · have c9 : ¬ wpv w i = 0 := mt lg_cmp0.mpr c16
        obtain ⟨j, j1, j2, j3⟩ := wpv_of w i
        refine aw_aload_n dX11_printsWord_19 rfl ?_
        refine aw_lload_n dX11_printsWord_20 rfl ?_
        refine aw_iload_n dX11_printsWord_21 rfl ?_
        refine aw_lshr dX11_printsWord_22 ?_
        refine aw_ldc2 dX11_printsWord_23 qX11_398 ?_
        refine aw_land dX11_printsWord_26 ?_
        refine aw_l2i dX11_printsWord_27 ?_
        refine aw_bipush (v := 96) dX11_printsWord_28 rfl ?_
        refine aw_iadd dX11_printsWord_30 ?_
        refine aw_callV dX11_printsWord_31 kX11_400 mX11_prints (sX11_prints (c := j + 96) hM hBi (by omega) j3 (by omega)) (Nat.le_of_ble_eq_true rfl) hM.k ⟨by decide, rfl⟩ hM.b rfl rfl (Nat.le_of_ble_eq_true rfl) ⟨Nat.le_refl _, Nat.le_refl _⟩ (fun v1 z1 n1 sh1 J1 M1 hp1 => ?_)
        obtain ⟨rfl, rfl, rfl, rfl, rfl, hF1, hB1⟩ := hp1
        refine aw_iinc dX11_printsWord_34 rfl (wsh_s i hlt) (by decide) rfl ?_
        refine aw_goto (tgt := 3) dX11_printsWord_37 rfl ?_
        refine ih hlt J1 (hF.tr hF1) ?_
        have e : B ++ lcat (wpc w) (i + 1) = B ++ lcat (wpc w) i ++ [(wpv w i).toInt32 + 96] := by
          show B ++ (lcat (wpc w) i ++ wpc w i) = _
          rw [show wpc w i = [(wpv w i).toInt32 + 96] from if_neg c9, List.append_assoc]
        rw [e]
        exact hB1
  refine aw_bipush (v := 40) dX11_printsWord_0 rfl ?_
  refine aw_istore_n dX11_printsWord_2 (by decide) rfl ?_
  refine loop 0 (Nat.zero_le _) I PrF.rf ?_
  rw [show lcat (wpc w) 0 = [] from rfl, List.append_nil]
  exact hB
set_option maxHeartbeats 4000000 in
set_option maxRecDepth 100000 in
theorem sX11_printsNamed (hM : IsM n sh m) {B : List Int32} (hB : Prt I m B) {x : Int32} {k : Nat} (hl : B.length + 10 ≤ 1800) (hx : x = nI k) (hk : k < 18) : CM yX11_printsNamed cX11_printsNamed 2 (Option.none : Option FieldType) 3 0 0 [.ref m, .int x] z n sh I L (PtP z n sh I L m (B ++ nmt (L (m + 6) k))) := by
  refine CM.go [some (.ref m), some (.int x)] rfl rfl (Nat.le_of_ble_eq_true rfl) (fun X g q => ?_)
  refine aw_aload_n dX11_printsNamed_0 rfl ?_
  refine aw_bipush (v := 32) dX11_printsNamed_1 rfl ?_
  refine aw_callV dX11_printsNamed_3 kX11_400 mX11_prints (sX11_prints (c := 32) hM hB (by omega) rfl (by decide)) (Nat.le_of_ble_eq_true rfl) hM.k ⟨by decide, rfl⟩ hM.b rfl rfl (Nat.le_of_ble_eq_true rfl) ⟨Nat.le_refl _, Nat.le_refl _⟩ (fun v1 z1 n1 sh1 J1 M1 hp1 => ?_)
  obtain ⟨rfl, rfl, rfl, rfl, rfl, hF1, hB1⟩ := hp1
  refine aw_aload_n dX11_printsNamed_6 rfl ?_
  refine aw_aload_n dX11_printsNamed_7 rfl ?_
  refine aw_getR (b := m + 6) dX11_printsNamed_8 fX11_25 hM.k hM.b rfl hM.r5 ?_
  refine aw_iload_n dX11_printsNamed_11 rfl ?_
  refine aw_laldN (k := k) dX11_printsNamed_12 hM.k5 hM.b5 hM.l5 hx (by omega) (by decide) ?_
  refine aw_callV dX11_printsNamed_13 kX11_403 mX11_printsWord (sX11_printsWord hM hB1 (by rw [len_app1]; omega)) (Nat.le_of_ble_eq_true rfl) hM.k ⟨by decide, rfl⟩ hM.b rfl rfl (Nat.le_of_ble_eq_true rfl) ⟨Nat.le_refl _, Nat.le_refl _⟩ (fun v2 z2 n2 sh2 J2 M2 hp2 => ?_)
  obtain ⟨rfl, rfl, rfl, rfl, rfl, hF2, hB2⟩ := hp2
  refine aw_vret q rfl dX11_printsNamed_16 ⟨Nat.le_refl _, Nat.le_refl _⟩ ?_
  refine ⟨rfl, rfl, rfl, rfl, rfl, hF1.tr hF2, ?_⟩
  unfold nmt
  rw [← List.append_assoc]
  exact hB2
theorem dgt10 {v : Nat} (hv : v < 2 ^ 31) : (48 : Int32) + (nI v / 10 - nI v / 10 / 10 * 10) = nI (48 + v / 10 % 10) := by
  have e1 : nI v / 10 = nI (v / 10) := pk_div (a := v) (d := 10) hv (by decide) (by decide)
  rw [e1]
  have e2 : nI (v / 10) - nI (v / 10) / 10 * 10 = nI (v / 10 % 10) := pk_rem (a := v / 10) (d := 10) (by omega) (by decide) (by decide)
  rw [e2]
  exact nI_add 48 _
theorem dgt1 {v : Nat} (hv : v < 2 ^ 31) : (48 : Int32) + (nI v - nI v / 10 * 10) = nI (48 + v % 10) := by
  have e2 : nI v - nI v / 10 * 10 = nI (v % 10) := pk_rem (a := v) (d := 10) hv (by decide) (by decide)
  rw [e2]
  exact nI_add 48 _
set_option maxHeartbeats 4000000 in
set_option maxRecDepth 100000 in
theorem sX11_printsNumber (hM : IsM n sh m) {B : List Int32} (hB : Prt I m B) {x : Int32} {v : Nat} (hl : B.length + 4 ≤ 1800) (hx : x = nI v) (hv : v ≤ 999) : CM yX11_printsNumber cX11_printsNumber 2 (Option.none : Option FieldType) 2 0 0 [.ref m, .int x] z n sh I L (PtP z n sh I L m (B ++ ntx x)) := by
  refine CM.go [some (.ref m), some (.int x)] rfl rfl (Nat.le_of_ble_eq_true rfl) (fun X g q => ?_)
  refine aw_aload_n dX11_printsNumber_0 rfl ?_
  refine aw_bipush (v := 32) dX11_printsNumber_1 rfl ?_
  refine aw_callV dX11_printsNumber_3 kX11_400 mX11_prints (sX11_prints (c := 32) hM hB (by omega) rfl (by decide)) (Nat.le_of_ble_eq_true rfl) hM.k ⟨by decide, rfl⟩ hM.b rfl rfl (Nat.le_of_ble_eq_true rfl) ⟨Nat.le_refl _, Nat.le_refl _⟩ (fun v1 z1 n1 sh1 J1 M1 hp1 => ?_)
  obtain ⟨rfl, rfl, rfl, rfl, rfl, hF1, hB1⟩ := hp1
  refine aw_iload_n dX11_printsNumber_6 rfl ?_
  refine aw_bipush (v := 99) dX11_printsNumber_7 rfl ?_
  refine aw_icmp_le (tgt := 23) dX11_printsNumber_9 rfl (fun c9 => ?_) (fun c9 => ?_)
  · refine aw_iload_n dX11_printsNumber_23 rfl ?_
    refine aw_bipush (v := 9) dX11_printsNumber_24 rfl ?_
    refine aw_icmp_le (tgt := 43) dX11_printsNumber_26 rfl (fun c26 => ?_) (fun c26 => ?_)
    · refine aw_aload_n dX11_printsNumber_43 rfl ?_
      refine aw_bipush (v := 48) dX11_printsNumber_44 rfl ?_
      refine aw_iload_n dX11_printsNumber_46 rfl ?_
      refine aw_bipush (v := 10) dX11_printsNumber_47 rfl ?_
      refine aw_irem dX11_printsNumber_49 (by decide) ?_
      refine aw_iadd dX11_printsNumber_50 ?_
      refine aw_callV dX11_printsNumber_51 kX11_400 mX11_prints (sX11_prints (c := 48 + v % 10) hM hB1 (by simp only [List.length_append, List.length_singleton]; omega) (by rw [hx]; exact dgt1 (by omega)) (by omega)) (Nat.le_of_ble_eq_true rfl) hM.k ⟨by decide, rfl⟩ hM.b rfl rfl (Nat.le_of_ble_eq_true rfl) ⟨Nat.le_refl _, Nat.le_refl _⟩ (fun v4 z4 n4 sh4 J4 M4 hp4 => ?_)
      obtain ⟨rfl, rfl, rfl, rfl, rfl, hF4, hB4⟩ := hp4
      refine aw_vret q rfl dX11_printsNumber_54 ⟨Nat.le_refl _, Nat.le_refl _⟩ ?_
      refine ⟨rfl, rfl, rfl, rfl, rfl, hF1.tr hF4, ?_⟩
      have e : ntx x = [32] ++ [] ++ [] ++ [48 + irem x 10] := by
        unfold ntx
        rw [if_neg (fun q => (fa_of_lt q).2.1 c9), if_neg (fun q => (fa_of_lt q).2.1 c26)]
      rw [e]
      simp only [List.append_assoc, List.append_nil] at hB4 ⊢
      exact hB4
    · refine aw_aload_n dX11_printsNumber_29 rfl ?_
      refine aw_bipush (v := 48) dX11_printsNumber_30 rfl ?_
      refine aw_iload_n dX11_printsNumber_32 rfl ?_
      refine aw_bipush (v := 10) dX11_printsNumber_33 rfl ?_
      refine aw_idiv dX11_printsNumber_35 (by decide) ?_
      refine aw_bipush (v := 10) dX11_printsNumber_36 rfl ?_
      refine aw_irem dX11_printsNumber_38 (by decide) ?_
      refine aw_iadd dX11_printsNumber_39 ?_
      refine aw_callV dX11_printsNumber_40 kX11_400 mX11_prints (sX11_prints (c := 48 + v / 10 % 10) hM hB1 (by simp only [List.length_append, List.length_singleton]; omega) (by rw [hx]; exact dgt10 (by omega)) (by omega)) (Nat.le_of_ble_eq_true rfl) hM.k ⟨by decide, rfl⟩ hM.b rfl rfl (Nat.le_of_ble_eq_true rfl) ⟨Nat.le_refl _, Nat.le_refl _⟩ (fun v3 z3 n3 sh3 J3 M3 hp3 => ?_)
      obtain ⟨rfl, rfl, rfl, rfl, rfl, hF3, hB3⟩ := hp3
      refine aw_aload_n dX11_printsNumber_43 rfl ?_
      refine aw_bipush (v := 48) dX11_printsNumber_44 rfl ?_
      refine aw_iload_n dX11_printsNumber_46 rfl ?_
      refine aw_bipush (v := 10) dX11_printsNumber_47 rfl ?_
      refine aw_irem dX11_printsNumber_49 (by decide) ?_
      refine aw_iadd dX11_printsNumber_50 ?_
      refine aw_callV dX11_printsNumber_51 kX11_400 mX11_prints (sX11_prints (c := 48 + v % 10) hM hB3 (by simp only [List.length_append, List.length_singleton]; omega) (by rw [hx]; exact dgt1 (by omega)) (by omega)) (Nat.le_of_ble_eq_true rfl) hM.k ⟨by decide, rfl⟩ hM.b rfl rfl (Nat.le_of_ble_eq_true rfl) ⟨Nat.le_refl _, Nat.le_refl _⟩ (fun v4 z4 n4 sh4 J4 M4 hp4 => ?_)
      obtain ⟨rfl, rfl, rfl, rfl, rfl, hF4, hB4⟩ := hp4
      refine aw_vret q rfl dX11_printsNumber_54 ⟨Nat.le_refl _, Nat.le_refl _⟩ ?_
      refine ⟨rfl, rfl, rfl, rfl, rfl, (hF1.tr hF3).tr hF4, ?_⟩
      have e : ntx x = [32] ++ [] ++ [48 + irem (x / 10) 10] ++ [48 + irem x 10] := by
        unfold ntx
        rw [if_neg (fun q => (fa_of_lt q).2.1 c9), if_pos (fa_of_nle c26)]
      rw [e]
      simp only [List.append_assoc, List.append_nil] at hB4 ⊢
      exact hB4
  · refine aw_aload_n dX11_printsNumber_12 rfl ?_
    refine aw_bipush (v := 48) dX11_printsNumber_13 rfl ?_
    refine aw_iload_n dX11_printsNumber_15 rfl ?_
    refine aw_bipush (v := 100) dX11_printsNumber_16 rfl ?_
    refine aw_idiv dX11_printsNumber_18 (by decide) ?_
    refine aw_iadd dX11_printsNumber_19 ?_
    refine aw_callV dX11_printsNumber_20 kX11_400 mX11_prints (sX11_prints (c := 48 + v / 100) hM hB1 (by rw [len_app1]; omega) (by rw [hx]; exact (congrArg (fun y => (48 : Int32) + y) (pk_div (a := v) (d := 100) (by omega) (by decide) (by decide))).trans (nI_add 48 _)) (by omega)) (Nat.le_of_ble_eq_true rfl) hM.k ⟨by decide, rfl⟩ hM.b rfl rfl (Nat.le_of_ble_eq_true rfl) ⟨Nat.le_refl _, Nat.le_refl _⟩ (fun v2 z2 n2 sh2 J2 M2 hp2 => ?_)
    obtain ⟨rfl, rfl, rfl, rfl, rfl, hF2, hB2⟩ := hp2
    refine aw_iload_n dX11_printsNumber_23 rfl ?_
    refine aw_bipush (v := 9) dX11_printsNumber_24 rfl ?_
    refine aw_icmp_le (tgt := 43) dX11_printsNumber_26 rfl (fun c26 => ?_) (fun c26 => ?_)
    · refine aw_aload_n dX11_printsNumber_43 rfl ?_
      refine aw_bipush (v := 48) dX11_printsNumber_44 rfl ?_
      refine aw_iload_n dX11_printsNumber_46 rfl ?_
      refine aw_bipush (v := 10) dX11_printsNumber_47 rfl ?_
      refine aw_irem dX11_printsNumber_49 (by decide) ?_
      refine aw_iadd dX11_printsNumber_50 ?_
      refine aw_callV dX11_printsNumber_51 kX11_400 mX11_prints (sX11_prints (c := 48 + v % 10) hM hB2 (by simp only [List.length_append, List.length_singleton]; omega) (by rw [hx]; exact dgt1 (by omega)) (by omega)) (Nat.le_of_ble_eq_true rfl) hM.k ⟨by decide, rfl⟩ hM.b rfl rfl (Nat.le_of_ble_eq_true rfl) ⟨Nat.le_refl _, Nat.le_refl _⟩ (fun v4 z4 n4 sh4 J4 M4 hp4 => ?_)
      obtain ⟨rfl, rfl, rfl, rfl, rfl, hF4, hB4⟩ := hp4
      refine aw_vret q rfl dX11_printsNumber_54 ⟨Nat.le_refl _, Nat.le_refl _⟩ ?_
      refine ⟨rfl, rfl, rfl, rfl, rfl, (hF1.tr hF2).tr hF4, ?_⟩
      have e : ntx x = [32] ++ [48 + x / 100] ++ [] ++ [48 + irem x 10] := by
        unfold ntx
        rw [if_pos (fa_of_nle c9), if_neg (fun q => (fa_of_lt q).2.1 c26)]
      rw [e]
      simp only [List.append_assoc, List.append_nil] at hB4 ⊢
      exact hB4
    · refine aw_aload_n dX11_printsNumber_29 rfl ?_
      refine aw_bipush (v := 48) dX11_printsNumber_30 rfl ?_
      refine aw_iload_n dX11_printsNumber_32 rfl ?_
      refine aw_bipush (v := 10) dX11_printsNumber_33 rfl ?_
      refine aw_idiv dX11_printsNumber_35 (by decide) ?_
      refine aw_bipush (v := 10) dX11_printsNumber_36 rfl ?_
      refine aw_irem dX11_printsNumber_38 (by decide) ?_
      refine aw_iadd dX11_printsNumber_39 ?_
      refine aw_callV dX11_printsNumber_40 kX11_400 mX11_prints (sX11_prints (c := 48 + v / 10 % 10) hM hB2 (by simp only [List.length_append, List.length_singleton]; omega) (by rw [hx]; exact dgt10 (by omega)) (by omega)) (Nat.le_of_ble_eq_true rfl) hM.k ⟨by decide, rfl⟩ hM.b rfl rfl (Nat.le_of_ble_eq_true rfl) ⟨Nat.le_refl _, Nat.le_refl _⟩ (fun v3 z3 n3 sh3 J3 M3 hp3 => ?_)
      obtain ⟨rfl, rfl, rfl, rfl, rfl, hF3, hB3⟩ := hp3
      refine aw_aload_n dX11_printsNumber_43 rfl ?_
      refine aw_bipush (v := 48) dX11_printsNumber_44 rfl ?_
      refine aw_iload_n dX11_printsNumber_46 rfl ?_
      refine aw_bipush (v := 10) dX11_printsNumber_47 rfl ?_
      refine aw_irem dX11_printsNumber_49 (by decide) ?_
      refine aw_iadd dX11_printsNumber_50 ?_
      refine aw_callV dX11_printsNumber_51 kX11_400 mX11_prints (sX11_prints (c := 48 + v % 10) hM hB3 (by simp only [List.length_append, List.length_singleton]; omega) (by rw [hx]; exact dgt1 (by omega)) (by omega)) (Nat.le_of_ble_eq_true rfl) hM.k ⟨by decide, rfl⟩ hM.b rfl rfl (Nat.le_of_ble_eq_true rfl) ⟨Nat.le_refl _, Nat.le_refl _⟩ (fun v4 z4 n4 sh4 J4 M4 hp4 => ?_)
      obtain ⟨rfl, rfl, rfl, rfl, rfl, hF4, hB4⟩ := hp4
      refine aw_vret q rfl dX11_printsNumber_54 ⟨Nat.le_refl _, Nat.le_refl _⟩ ?_
      refine ⟨rfl, rfl, rfl, rfl, rfl, ((hF1.tr hF2).tr hF3).tr hF4, ?_⟩
      have e : ntx x = [32] ++ [48 + x / 100] ++ [48 + irem (x / 10) 10] ++ [48 + irem x 10] := by
        unfold ntx
        rw [if_pos (fa_of_nle c9), if_pos (fa_of_nle c26)]
      rw [e]
      simp only [List.append_assoc, List.append_nil] at hB4 ⊢
      exact hB4
end RefS
