/-! the reference: the tape, words -/
section RefS
variable {z n m : Nat} {sh : Shp} {I : MI} {L : ML}
set_option maxHeartbeats 4000000 in
set_option maxRecDepth 100000 in
theorem rX11_come (hM : IsM n sh m) {T : Nat → Int32} {k : Nat} (hT : I (m + 5) = T) (hk : I m 8 = nI k) (hb : k + 4 ≤ 900) {w : Int32} : CM yX11_come cX11_come 3 (Option.none : Option FieldType) 1 0 0 [.ref m, .int w] z n sh I L (Pst none z n sh (tpM I m (tpW T k w 4) (k + 4)) L) := by
  refine CM.go [some (.ref m), some (.int w), none] rfl rfl (Nat.le_of_ble_eq_true rfl) (fun X g q => ?_)
  have loop : ∀ i, i ≤ 4 → AW X g RX11 cX11_come 3 (1, 0, 0) (z, n, sh, 0, 0) (tpM I m (tpW T k w i) (k + i)) (L) 3 [some (.ref m), some (.int w), some (.int (24 - 8 * nI i))] [] := by
    refine up_loop (fun i hi ih => ?_)
    refine aw_iload_n dX11_come_3 rfl ?_
    refine aw_if_lt (tgt := 39) dX11_come_4 rfl (fun c4 => ?_) (fun c4 => ?_)
    · have e : i = 4 := (k24 i hi).mp c4
      subst e
      refine aw_vret q rfl dX11_come_39 ⟨Nat.le_refl _, Nat.le_refl _⟩ ?_
      exact Pst.rf
    · have hlt : i < 4 := by
        have := mt (k24 i hi).mpr c4
        omega
      refine aw_aload_n dX11_come_7 rfl ?_
      refine aw_getR (b := m + 5) dX11_come_8 fX11_22 hM.k hM.b rfl hM.r4 ?_
      refine aw_aload_n dX11_come_11 rfl ?_
      refine aw_getI dX11_come_12 fX11_79 hM.k hM.b rfl ?_
      refine aw_iload_n dX11_come_15 rfl ?_
      refine aw_iload_n dX11_come_16 rfl ?_
      refine aw_iushr dX11_come_17 ?_
      refine aw_sipush (v := 255) dX11_come_18 rfl ?_
      refine aw_iand dX11_come_21 ?_
      refine aw_iastN (k := (k + i)) dX11_come_22 hM.k4 hM.b4 hM.l4 tpM_n (by omega) (by decide) ?_
      refine aw_aload_n dX11_come_23 rfl ?_
      refine aw_dup dX11_come_24 rfl ?_
      refine aw_getI dX11_come_25 fX11_79 hM.k hM.b rfl ?_
      refine AW.top (y := nI (k + i)) (by rw [upI_off (by omega) rfl]; exact tpM_n) ?_
      refine aw_iconst (v := 1) dX11_come_28 rfl ?_
      refine aw_iadd dX11_come_29 ?_
      refine AW.top (gadd rfl rfl) ?_
      refine aw_putI dX11_come_30 fX11_79 hM.k hM.b rfl rfl ?_
      refine aw_iinc dX11_come_33 rfl (k24s i hlt) (by decide) rfl ?_
      refine aw_goto (tgt := 3) dX11_come_36 rfl ?_
      refine AW.mem ?_ (ih hlt)
      unfold tpM
      rw [upI_upA (a := m + 5), upI_off (by omega) upA_self, upA_upI (by omega), upA_upA, upI_upI]
      rfl
  refine aw_bipush (v := 24) dX11_come_0 rfl ?_
  refine aw_istore_n dX11_come_2 (by decide) rfl ?_
  refine AW.mem ?_ (loop 0 (Nat.zero_le _))
  exact (tpM_me hT hk).symm
set_option maxHeartbeats 4000000 in
set_option maxRecDepth 100000 in
theorem rX11_feed (hM : IsM n sh m) {T : Nat → Int32} {k : Nat} (hT : I (m + 5) = T) (hk : I m 8 = nI k) (hk9 : k ≤ 900) {a b c d e : Int32} : CM yX11_feed cX11_feed 6 (Option.some .int) 2 0 0 [.ref m, .int a, .int b, .int c, .int d, .int e] z n sh I L (if k + 20 ≤ 900 then Pst (some (.int (nI (k + 20)))) z n sh (tpM (upI I m 0 0) m (tp5 T k a b c d e) (k + 20)) L else Pst (some (.int (-1))) z n sh (upI I m 0 0) L) := by
  refine CM.go [some (.ref m), some (.int a), some (.int b), some (.int c), some (.int d), some (.int e)] rfl rfl (Nat.le_of_ble_eq_true rfl) (fun X g q => ?_)
  have hk0 : upI I m 0 0 m 8 = nI k := by rw [upI_row rfl, upd_ne (by decide)]; exact hk
  have hT0 : upI I m 0 0 (m + 5) = T := upI_off (by omega) hT
  refine aw_aload_n dX11_feed_0 rfl ?_
  refine aw_iconst (v := 0) dX11_feed_1 rfl ?_
  refine aw_putI dX11_feed_2 fX11_65 hM.k hM.b rfl rfl ?_
  refine aw_aload_n dX11_feed_5 rfl ?_
  refine aw_getI dX11_feed_6 fX11_79 hM.k hM.b rfl ?_
  refine aw_bipush (v := 20) dX11_feed_9 rfl ?_
  refine aw_iadd dX11_feed_11 ?_
  refine aw_sipush (v := 900) dX11_feed_12 rfl ?_
  refine aw_icmp_le (tgt := 20) dX11_feed_15 rfl (fun c15 => ?_) (fun c15 => ?_)
  · have hle : k + 20 ≤ 900 := by
      have e0 : upI I m 0 0 m 8 + 20 = nI (k + 20) := gadd hk0 rfl
      rw [e0] at c15
      exact (nI_leI (b := 900) (by omega) (by decide)).mp c15
    rw [if_pos hle] at q
    refine aw_aload_n dX11_feed_20 rfl ?_
    refine aw_iload_n dX11_feed_21 rfl ?_
    refine aw_cV dX11_feed_22 kX11_82 mX11_come (rX11_come (T := T) (k := k) hM hT0 hk0 (by omega)) (Nat.le_of_ble_eq_true rfl) hM.k ⟨by decide, rfl⟩ hM.b rfl rfl (Nat.le_of_ble_eq_true rfl) ⟨Nat.le_refl _, Nat.le_refl _⟩ ?_
    refine aw_aload_n dX11_feed_25 rfl ?_
    refine aw_iload_n dX11_feed_26 rfl ?_
    refine aw_cV dX11_feed_27 kX11_82 mX11_come (rX11_come (T := tpW T k a 4) (k := k + 4) hM tpM_t tpM_n (by omega)) (Nat.le_of_ble_eq_true rfl) hM.k ⟨by decide, rfl⟩ hM.b rfl rfl (Nat.le_of_ble_eq_true rfl) ⟨Nat.le_refl _, Nat.le_refl _⟩ ?_
    rw [tpM_tpM]
    refine aw_aload_n dX11_feed_30 rfl ?_
    refine aw_iload_n dX11_feed_31 rfl ?_
    refine aw_cV dX11_feed_32 kX11_82 mX11_come (rX11_come (T := tpW (tpW T k a 4) (k + 4) b 4) (k := k + 8) hM tpM_t tpM_n (by omega)) (Nat.le_of_ble_eq_true rfl) hM.k ⟨by decide, rfl⟩ hM.b rfl rfl (Nat.le_of_ble_eq_true rfl) ⟨Nat.le_refl _, Nat.le_refl _⟩ ?_
    rw [tpM_tpM]
    refine aw_aload_n dX11_feed_35 rfl ?_
    refine aw_iload dX11_feed_36 rfl ?_
    refine aw_cV dX11_feed_38 kX11_82 mX11_come (rX11_come (T := tpW (tpW (tpW T k a 4) (k + 4) b 4) (k + 8) c 4) (k := k + 12) hM tpM_t tpM_n (by omega)) (Nat.le_of_ble_eq_true rfl) hM.k ⟨by decide, rfl⟩ hM.b rfl rfl (Nat.le_of_ble_eq_true rfl) ⟨Nat.le_refl _, Nat.le_refl _⟩ ?_
    rw [tpM_tpM]
    refine aw_aload_n dX11_feed_41 rfl ?_
    refine aw_iload dX11_feed_42 rfl ?_
    refine aw_cV dX11_feed_44 kX11_82 mX11_come (rX11_come (T := tpW (tpW (tpW (tpW T k a 4) (k + 4) b 4) (k + 8) c 4) (k + 12) d 4) (k := k + 16) hM tpM_t tpM_n (by omega)) (Nat.le_of_ble_eq_true rfl) hM.k ⟨by decide, rfl⟩ hM.b rfl rfl (Nat.le_of_ble_eq_true rfl) ⟨Nat.le_refl _, Nat.le_refl _⟩ ?_
    rw [tpM_tpM]
    refine aw_aload_n dX11_feed_47 rfl ?_
    refine aw_getI dX11_feed_48 fX11_79 hM.k hM.b rfl ?_
    refine aw_iret q rfl dX11_feed_51 ⟨Nat.le_refl _, Nat.le_refl _⟩ ?_
    refine Pst.iv ?_
    exact tpM_n
  · have hle : ¬ k + 20 ≤ 900 := fun h => c15 (by
      have e0 : upI I m 0 0 m 8 + 20 = nI (k + 20) := gadd hk0 rfl
      rw [e0]
      exact nI_le (b := 900) h (by decide))
    rw [if_neg hle] at q
    refine aw_iconst (v := (-1)) dX11_feed_18 rfl ?_
    refine aw_iret q rfl dX11_feed_19 ⟨Nat.le_refl _, Nat.le_refl _⟩ ?_
    exact Pst.rf
set_option maxHeartbeats 4000000 in
set_option maxRecDepth 100000 in
theorem sX11_isLetter {c : Int32} : CM yX11_isLetter cX11_isLetter 1 (Option.some .boolean) 1 0 0 [.int c] z n sh I L (Pst (some (.int (bI (isLet c)))) z n sh I L) := by
  refine CM.go [some (.int c)] rfl rfl (Nat.le_of_ble_eq_true rfl) (fun X g q => ?_)
  refine aw_iload_n dX11_isLetter_0 rfl ?_
  refine aw_bipush (v := 97) dX11_isLetter_1 rfl ?_
  refine aw_icmp_lt (tgt := 16) dX11_isLetter_3 rfl (fun c3 => ?_) (fun c3 => ?_)
  · refine aw_iconst (v := 0) dX11_isLetter_16 rfl ?_
    refine aw_zret q rfl (by decide) dX11_isLetter_17 ⟨Nat.le_refl _, Nat.le_refl _⟩ ?_
    refine Pst.iv ?_
    unfold bI isLet
    simp [(fa_of_lt c3).2.1]
  · refine aw_iload_n dX11_isLetter_6 rfl ?_
    refine aw_bipush (v := 122) dX11_isLetter_7 rfl ?_
    refine aw_icmp_gt (tgt := 16) dX11_isLetter_9 rfl (fun c9 => ?_) (fun c9 => ?_)
    · refine aw_iconst (v := 0) dX11_isLetter_16 rfl ?_
      refine aw_zret q rfl (by decide) dX11_isLetter_17 ⟨Nat.le_refl _, Nat.le_refl _⟩ ?_
      refine Pst.iv ?_
      unfold bI isLet
      simp [(fa_of_lt c9).2.1]
    · refine aw_iconst (v := 1) dX11_isLetter_12 rfl ?_
      refine aw_goto (tgt := 17) dX11_isLetter_13 rfl ?_
      refine aw_zret q rfl (by decide) dX11_isLetter_17 ⟨Nat.le_refl _, Nat.le_refl _⟩ ?_
      refine Pst.iv ?_
      unfold bI isLet
      simp [fa_of_nlt c3, fa_of_nlt c9]
set_option maxHeartbeats 4000000 in
set_option maxRecDepth 100000 in
theorem sX11_isDigit {c : Int32} : CM yX11_isDigit cX11_isDigit 1 (Option.some .boolean) 1 0 0 [.int c] z n sh I L (Pst (some (.int (bI (isDig c)))) z n sh I L) := by
  refine CM.go [some (.int c)] rfl rfl (Nat.le_of_ble_eq_true rfl) (fun X g q => ?_)
  refine aw_iload_n dX11_isDigit_0 rfl ?_
  refine aw_bipush (v := 48) dX11_isDigit_1 rfl ?_
  refine aw_icmp_lt (tgt := 16) dX11_isDigit_3 rfl (fun c3 => ?_) (fun c3 => ?_)
  · refine aw_iconst (v := 0) dX11_isDigit_16 rfl ?_
    refine aw_zret q rfl (by decide) dX11_isDigit_17 ⟨Nat.le_refl _, Nat.le_refl _⟩ ?_
    refine Pst.iv ?_
    unfold bI isDig
    simp [(fa_of_lt c3).2.1]
  · refine aw_iload_n dX11_isDigit_6 rfl ?_
    refine aw_bipush (v := 57) dX11_isDigit_7 rfl ?_
    refine aw_icmp_gt (tgt := 16) dX11_isDigit_9 rfl (fun c9 => ?_) (fun c9 => ?_)
    · refine aw_iconst (v := 0) dX11_isDigit_16 rfl ?_
      refine aw_zret q rfl (by decide) dX11_isDigit_17 ⟨Nat.le_refl _, Nat.le_refl _⟩ ?_
      refine Pst.iv ?_
      unfold bI isDig
      simp [(fa_of_lt c9).2.1]
    · refine aw_iconst (v := 1) dX11_isDigit_12 rfl ?_
      refine aw_goto (tgt := 17) dX11_isDigit_13 rfl ?_
      refine aw_zret q rfl (by decide) dX11_isDigit_17 ⟨Nat.le_refl _, Nat.le_refl _⟩ ?_
      refine Pst.iv ?_
      unfold bI isDig
      simp [fa_of_nlt c3, fa_of_nlt c9]
set_option maxHeartbeats 4000000 in
set_option maxRecDepth 100000 in
theorem sX11_joined {v : Int64} {c : Int32} : CM yX11_joined cX11_joined 3 (Option.some .long) 1 0 0 [.long v, .int c] z n sh I L (Pst (some (.long (jnd0 v c))) z n sh I L) := by
  refine CM.go [some (.long v), none, some (.int c)] rfl rfl (Nat.le_of_ble_eq_true rfl) (fun X g q => ?_)
  refine aw_iload_n dX11_joined_0 rfl ?_
  refine aw_if_ne (tgt := 8) dX11_joined_1 rfl (fun c1 => ?_) (fun c1 => ?_)
  · refine aw_lload_n dX11_joined_8 rfl ?_
    refine aw_iconst (v := 5) dX11_joined_9 rfl ?_
    refine aw_lshl dX11_joined_10 ?_
    refine aw_iload_n dX11_joined_11 rfl ?_
    refine aw_i2l dX11_joined_12 ?_
    refine aw_ldc2 dX11_joined_13 qX11_110 ?_
    refine aw_lsub dX11_joined_16 ?_
    refine aw_lor dX11_joined_17 ?_
    refine aw_lret q rfl dX11_joined_18 ⟨Nat.le_refl _, Nat.le_refl _⟩ ?_
    have e : jnd0 v c = jnd v c := if_neg c1
    rw [e]
    exact Pst.rf
  · refine aw_lload_n dX11_joined_4 rfl ?_
    refine aw_goto (tgt := 18) dX11_joined_5 rfl ?_
    refine aw_lret q rfl dX11_joined_18 ⟨Nat.le_refl _, Nat.le_refl _⟩ ?_
    have e : jnd0 v c = v := if_pos c1
    rw [e]
    exact Pst.rf
set_option maxHeartbeats 4000000 in
set_option maxRecDepth 100000 in
theorem sX11_spelt {a b c d e f : Int32} : CM yX11_spelt cX11_spelt 6 (Option.some .long) 2 0 0 [.int a, .int b, .int c, .int d, .int e, .int f] z n sh I L (Pst (some (.long (spl a b c d e f))) z n sh I L) := by
  refine CM.go [some (.int a), some (.int b), some (.int c), some (.int d), some (.int e), some (.int f)] rfl rfl (Nat.le_of_ble_eq_true rfl) (fun X g q => ?_)
  refine aw_lconst (v := 0) dX11_spelt_0 rfl ?_
  refine aw_iload_n dX11_spelt_1 rfl ?_
  refine aw_cS dX11_spelt_2 kX11_118 mX11_joined sX11_joined (Nat.le_of_ble_eq_true rfl) rfl rfl (Nat.le_of_ble_eq_true rfl) ⟨Nat.le_refl _, Nat.le_refl _⟩ ?_
  refine aw_iload_n dX11_spelt_5 rfl ?_
  refine aw_cS dX11_spelt_6 kX11_118 mX11_joined sX11_joined (Nat.le_of_ble_eq_true rfl) rfl rfl (Nat.le_of_ble_eq_true rfl) ⟨Nat.le_refl _, Nat.le_refl _⟩ ?_
  refine aw_iload_n dX11_spelt_9 rfl ?_
  refine aw_cS dX11_spelt_10 kX11_118 mX11_joined sX11_joined (Nat.le_of_ble_eq_true rfl) rfl rfl (Nat.le_of_ble_eq_true rfl) ⟨Nat.le_refl _, Nat.le_refl _⟩ ?_
  refine aw_iload_n dX11_spelt_13 rfl ?_
  refine aw_cS dX11_spelt_14 kX11_118 mX11_joined sX11_joined (Nat.le_of_ble_eq_true rfl) rfl rfl (Nat.le_of_ble_eq_true rfl) ⟨Nat.le_refl _, Nat.le_refl _⟩ ?_
  refine aw_iload dX11_spelt_17 rfl ?_
  refine aw_cS dX11_spelt_19 kX11_118 mX11_joined sX11_joined (Nat.le_of_ble_eq_true rfl) rfl rfl (Nat.le_of_ble_eq_true rfl) ⟨Nat.le_refl _, Nat.le_refl _⟩ ?_
  refine aw_iload dX11_spelt_22 rfl ?_
  refine aw_cS dX11_spelt_24 kX11_118 mX11_joined sX11_joined (Nat.le_of_ble_eq_true rfl) rfl rfl (Nat.le_of_ble_eq_true rfl) ⟨Nat.le_refl _, Nat.le_refl _⟩ ?_
  refine aw_lret q rfl dX11_spelt_27 ⟨Nat.le_refl _, Nat.le_refl _⟩ ?_
  exact Pst.rf
set_option maxHeartbeats 4000000 in
set_option maxRecDepth 100000 in
theorem sX11_wordOf {x : Int32} {k : Nat} (hx : x = nI k) (hk : k < 10) : CM yX11_wordOf cX11_wordOf 1 (Option.some .long) 3 0 0 [.int x] z n sh I L (Pst (some (.long (wdK9 k))) z n sh I L) := by
  subst hx
  refine CM.go [some (.int (nI k))] rfl rfl (Nat.le_of_ble_eq_true rfl) (fun X g q => ?_)
  refine aw_iload_n dX11_wordOf_0 rfl ?_
  match k, hk with
  | 0, _ =>
    refine aw_tableIn (off := 51) (tgt := 52) dX11_wordOf_1 (by decide) (by decide) (by decide) rfl ?_
    refine aw_bipush (v := 114) dX11_wordOf_52 rfl ?_
    refine aw_bipush (v := 101) dX11_wordOf_54 rfl ?_
    refine aw_bipush (v := 102) dX11_wordOf_56 rfl ?_
    refine aw_bipush (v := 117) dX11_wordOf_58 rfl ?_
    refine aw_bipush (v := 115) dX11_wordOf_60 rfl ?_
    refine aw_bipush (v := 101) dX11_wordOf_62 rfl ?_
    refine aw_cS dX11_wordOf_64 kX11_122 mX11_spelt sX11_spelt (Nat.le_of_ble_eq_true rfl) rfl rfl (Nat.le_of_ble_eq_true rfl) ⟨Nat.le_refl _, Nat.le_refl _⟩ ?_
    refine aw_lret q rfl dX11_wordOf_67 ⟨Nat.le_refl _, Nat.le_refl _⟩ ?_
    exact Pst.rf
  | 1, _ =>
    refine aw_tableIn (off := 67) (tgt := 68) dX11_wordOf_1 (by decide) (by decide) (by decide) rfl ?_
    refine aw_bipush (v := 98) dX11_wordOf_68 rfl ?_
    refine aw_bipush (v := 97) dX11_wordOf_70 rfl ?_
    refine aw_bipush (v := 114) dX11_wordOf_72 rfl ?_
    refine aw_iconst (v := 0) dX11_wordOf_74 rfl ?_
    refine aw_iconst (v := 0) dX11_wordOf_75 rfl ?_
    refine aw_iconst (v := 0) dX11_wordOf_76 rfl ?_
    refine aw_cS dX11_wordOf_77 kX11_122 mX11_spelt sX11_spelt (Nat.le_of_ble_eq_true rfl) rfl rfl (Nat.le_of_ble_eq_true rfl) ⟨Nat.le_refl _, Nat.le_refl _⟩ ?_
    refine aw_lret q rfl dX11_wordOf_80 ⟨Nat.le_refl _, Nat.le_refl _⟩ ?_
    exact Pst.rf
  | 2, _ =>
    refine aw_tableIn (off := 80) (tgt := 81) dX11_wordOf_1 (by decide) (by decide) (by decide) rfl ?_
    refine aw_bipush (v := 108) dX11_wordOf_81 rfl ?_
    refine aw_bipush (v := 111) dX11_wordOf_83 rfl ?_
    refine aw_bipush (v := 99) dX11_wordOf_85 rfl ?_
    refine aw_bipush (v := 97) dX11_wordOf_87 rfl ?_
    refine aw_bipush (v := 108) dX11_wordOf_89 rfl ?_
    refine aw_iconst (v := 0) dX11_wordOf_91 rfl ?_
    refine aw_cS dX11_wordOf_92 kX11_122 mX11_spelt sX11_spelt (Nat.le_of_ble_eq_true rfl) rfl rfl (Nat.le_of_ble_eq_true rfl) ⟨Nat.le_refl _, Nat.le_refl _⟩ ?_
    refine aw_lret q rfl dX11_wordOf_95 ⟨Nat.le_refl _, Nat.le_refl _⟩ ?_
    exact Pst.rf
  | 3, _ =>
    refine aw_tableIn (off := 95) (tgt := 96) dX11_wordOf_1 (by decide) (by decide) (by decide) rfl ?_
    refine aw_bipush (v := 113) dX11_wordOf_96 rfl ?_
    refine aw_bipush (v := 117) dX11_wordOf_98 rfl ?_
    refine aw_bipush (v := 111) dX11_wordOf_100 rfl ?_
    refine aw_bipush (v := 116) dX11_wordOf_102 rfl ?_
    refine aw_bipush (v := 97) dX11_wordOf_104 rfl ?_
    refine aw_iconst (v := 0) dX11_wordOf_106 rfl ?_
    refine aw_cS dX11_wordOf_107 kX11_122 mX11_spelt sX11_spelt (Nat.le_of_ble_eq_true rfl) rfl rfl (Nat.le_of_ble_eq_true rfl) ⟨Nat.le_refl _, Nat.le_refl _⟩ ?_
    refine aw_lret q rfl dX11_wordOf_110 ⟨Nat.le_refl _, Nat.le_refl _⟩ ?_
    exact Pst.rf
  | 4, _ =>
    refine aw_tableIn (off := 110) (tgt := 111) dX11_wordOf_1 (by decide) (by decide) (by decide) rfl ?_
    refine aw_bipush (v := 97) dX11_wordOf_111 rfl ?_
    refine aw_bipush (v := 103) dX11_wordOf_113 rfl ?_
    refine aw_bipush (v := 101) dX11_wordOf_115 rfl ?_
    refine aw_iconst (v := 0) dX11_wordOf_117 rfl ?_
    refine aw_iconst (v := 0) dX11_wordOf_118 rfl ?_
    refine aw_iconst (v := 0) dX11_wordOf_119 rfl ?_
    refine aw_cS dX11_wordOf_120 kX11_122 mX11_spelt sX11_spelt (Nat.le_of_ble_eq_true rfl) rfl rfl (Nat.le_of_ble_eq_true rfl) ⟨Nat.le_refl _, Nat.le_refl _⟩ ?_
    refine aw_lret q rfl dX11_wordOf_123 ⟨Nat.le_refl _, Nat.le_refl _⟩ ?_
    exact Pst.rf
  | 5, _ =>
    refine aw_tableIn (off := 123) (tgt := 124) dX11_wordOf_1 (by decide) (by decide) (by decide) rfl ?_
    refine aw_bipush (v := 98) dX11_wordOf_124 rfl ?_
    refine aw_bipush (v := 105) dX11_wordOf_126 rfl ?_
    refine aw_bipush (v := 100) dX11_wordOf_128 rfl ?_
    refine aw_bipush (v := 115) dX11_wordOf_130 rfl ?_
    refine aw_iconst (v := 0) dX11_wordOf_132 rfl ?_
    refine aw_iconst (v := 0) dX11_wordOf_133 rfl ?_
    refine aw_cS dX11_wordOf_134 kX11_122 mX11_spelt sX11_spelt (Nat.le_of_ble_eq_true rfl) rfl rfl (Nat.le_of_ble_eq_true rfl) ⟨Nat.le_refl _, Nat.le_refl _⟩ ?_
    refine aw_lret q rfl dX11_wordOf_137 ⟨Nat.le_refl _, Nat.le_refl _⟩ ?_
    exact Pst.rf
  | 6, _ =>
    refine aw_tableIn (off := 137) (tgt := 138) dX11_wordOf_1 (by decide) (by decide) (by decide) rfl ?_
    refine aw_bipush (v := 104) dX11_wordOf_138 rfl ?_
    refine aw_bipush (v := 111) dX11_wordOf_140 rfl ?_
    refine aw_bipush (v := 109) dX11_wordOf_142 rfl ?_
    refine aw_bipush (v := 101) dX11_wordOf_144 rfl ?_
    refine aw_iconst (v := 0) dX11_wordOf_146 rfl ?_
    refine aw_iconst (v := 0) dX11_wordOf_147 rfl ?_
    refine aw_cS dX11_wordOf_148 kX11_122 mX11_spelt sX11_spelt (Nat.le_of_ble_eq_true rfl) rfl rfl (Nat.le_of_ble_eq_true rfl) ⟨Nat.le_refl _, Nat.le_refl _⟩ ?_
    refine aw_lret q rfl dX11_wordOf_151 ⟨Nat.le_refl _, Nat.le_refl _⟩ ?_
    exact Pst.rf
  | 7, _ =>
    refine aw_tableIn (off := 151) (tgt := 152) dX11_wordOf_1 (by decide) (by decide) (by decide) rfl ?_
    refine aw_bipush (v := 104) dX11_wordOf_152 rfl ?_
    refine aw_bipush (v := 111) dX11_wordOf_154 rfl ?_
    refine aw_bipush (v := 117) dX11_wordOf_156 rfl ?_
    refine aw_bipush (v := 115) dX11_wordOf_158 rfl ?_
    refine aw_bipush (v := 101) dX11_wordOf_160 rfl ?_
    refine aw_iconst (v := 0) dX11_wordOf_162 rfl ?_
    refine aw_cS dX11_wordOf_163 kX11_122 mX11_spelt sX11_spelt (Nat.le_of_ble_eq_true rfl) rfl rfl (Nat.le_of_ble_eq_true rfl) ⟨Nat.le_refl _, Nat.le_refl _⟩ ?_
    refine aw_lret q rfl dX11_wordOf_166 ⟨Nat.le_refl _, Nat.le_refl _⟩ ?_
    exact Pst.rf
  | 8, _ =>
    refine aw_tableIn (off := 166) (tgt := 167) dX11_wordOf_1 (by decide) (by decide) (by decide) rfl ?_
    refine aw_bipush (v := 114) dX11_wordOf_167 rfl ?_
    refine aw_bipush (v := 117) dX11_wordOf_169 rfl ?_
    refine aw_bipush (v := 108) dX11_wordOf_171 rfl ?_
    refine aw_bipush (v := 101) dX11_wordOf_173 rfl ?_
    refine aw_iconst (v := 0) dX11_wordOf_175 rfl ?_
    refine aw_iconst (v := 0) dX11_wordOf_176 rfl ?_
    refine aw_cS dX11_wordOf_177 kX11_122 mX11_spelt sX11_spelt (Nat.le_of_ble_eq_true rfl) rfl rfl (Nat.le_of_ble_eq_true rfl) ⟨Nat.le_refl _, Nat.le_refl _⟩ ?_
    refine aw_lret q rfl dX11_wordOf_180 ⟨Nat.le_refl _, Nat.le_refl _⟩ ?_
    exact Pst.rf
  | 9, _ =>
    refine aw_tableOut (tgt := 181) dX11_wordOf_1 (by decide) rfl ?_
    refine aw_bipush (v := 105) dX11_wordOf_181 rfl ?_
    refine aw_bipush (v := 110) dX11_wordOf_183 rfl ?_
    refine aw_iconst (v := 0) dX11_wordOf_185 rfl ?_
    refine aw_iconst (v := 0) dX11_wordOf_186 rfl ?_
    refine aw_iconst (v := 0) dX11_wordOf_187 rfl ?_
    refine aw_iconst (v := 0) dX11_wordOf_188 rfl ?_
    refine aw_cS dX11_wordOf_189 kX11_122 mX11_spelt sX11_spelt (Nat.le_of_ble_eq_true rfl) rfl rfl (Nat.le_of_ble_eq_true rfl) ⟨Nat.le_refl _, Nat.le_refl _⟩ ?_
    refine aw_lret q rfl dX11_wordOf_192 ⟨Nat.le_refl _, Nat.le_refl _⟩ ?_
    exact Pst.rf
def isWd (O : Nat → Int32) (W : Int64) (k : Nat) : Bool := decide (O 16 = 2) && decide (W = wdK9 k)
def isNm (O : Nat → Int32) (W : Int64) : Bool := decide (O 16 = 2) && decide (fa_first (fun k => isWd O W k) 10 = 10)
set_option maxHeartbeats 4000000 in
set_option maxRecDepth 100000 in
theorem sX11_isWord (hM : IsM n sh m) {x : Int32} {k : Nat} (hx : x = nI k) (hk : k < 10) : CM yX11_isWord cX11_isWord 2 (Option.some .boolean) 4 0 0 [.ref m, .int x] z n sh I L (Pst (some (.int (bI (isWd (I m) (L m 21) k)))) z n sh I L) := by
  refine CM.go [some (.ref m), some (.int x)] rfl rfl (Nat.le_of_ble_eq_true rfl) (fun X g q => ?_)
  refine aw_aload_n dX11_isWord_0 rfl ?_
  refine aw_getI dX11_isWord_1 fX11_99 hM.k hM.b rfl ?_
  refine aw_iconst (v := 2) dX11_isWord_4 rfl ?_
  refine aw_icmp_ne (tgt := 24) dX11_isWord_5 rfl (fun c5 => ?_) (fun c5 => ?_)
  · refine aw_iconst (v := 0) dX11_isWord_24 rfl ?_
    refine aw_zret q rfl (by decide) dX11_isWord_25 ⟨Nat.le_refl _, Nat.le_refl _⟩ ?_
    refine Pst.iv ?_
    simp [bI, isWd, c5]
  · refine aw_aload_n dX11_isWord_8 rfl ?_
    refine aw_getL dX11_isWord_9 fX11_106 hM.k hM.b rfl ?_
    refine aw_iload_n dX11_isWord_12 rfl ?_
    refine aw_cS dX11_isWord_13 kX11_126 mX11_wordOf (sX11_wordOf (k := k) hx hk) (Nat.le_of_ble_eq_true rfl) rfl rfl (Nat.le_of_ble_eq_true rfl) ⟨Nat.le_refl _, Nat.le_refl _⟩ ?_
    refine aw_lcmp dX11_isWord_16 ?_
    refine aw_if_ne (tgt := 24) dX11_isWord_17 rfl (fun c17 => ?_) (fun c17 => ?_)
    · refine aw_iconst (v := 0) dX11_isWord_24 rfl ?_
      refine aw_zret q rfl (by decide) dX11_isWord_25 ⟨Nat.le_refl _, Nat.le_refl _⟩ ?_
      refine Pst.iv ?_
      simp only [lg_cmp0] at c17
      simp [bI, isWd, c5, c17]
    · refine aw_iconst (v := 1) dX11_isWord_20 rfl ?_
      refine aw_goto (tgt := 25) dX11_isWord_21 rfl ?_
      refine aw_zret q rfl (by decide) dX11_isWord_25 ⟨Nat.le_refl _, Nat.le_refl _⟩ ?_
      refine Pst.iv ?_
      simp only [lg_cmp0] at c17
      simp [bI, isWd, c5, c17]
end RefS
