/-! the class: the tape -/
def tcM (I : MI) (T : Nat → Int32) (n : Nat) : MI := upI (upA I 480 T) 479 2 (nI n)
theorem tcM_t {I : MI} {n : Nat} {T : Nat → Int32} : tcM I T n 480 = T := upI_off (by decide) upA_self
theorem tcM_n {I : MI} {n : Nat} {T : Nat → Int32} : tcM I T n 479 2 = nI n := upI_s
theorem tcM_tcM {I : MI} {T U : Nat → Int32} {k l : Nat} : tcM (tcM I T k) U l = tcM I U l := by
  unfold tcM
  rw [upA_upI (by decide), upA_upA, upI_upI]
theorem tcM_me {I : MI} {T : Nat → Int32} {k : Nat} (hT : I 480 = T) (hk : I 479 2 = nI k) : tcM I T k = I := by
  subst hT
  funext a
  unfold tcM upI upA
  by_cases e : a = 479
  · subst e
    rw [if_pos rfl, if_neg (by decide), ← hk]
    funext j
    unfold upd
    by_cases f : j = 2
    · rw [if_pos f, f]
    · rw [if_neg f]
  · rw [if_neg e]
    by_cases f : a = 480
    · subst f
      rw [if_pos rfl]
    · rw [if_neg f]
section ClsS
variable {z n : Nat} {sh : Shp} {I : MI} {L : ML} {N : Nat → Int32} {Q : Nat → Int64}
set_option maxHeartbeats 4000000 in
set_option maxRecDepth 100000 in
theorem sX6_hasRoom (hX : IsX n sh) {x : Int32} {k : Nat} (hk : I 479 2 = nI k) (hk9 : k ≤ 900) (hx : x = 20)  : CM yX6_hasRoom cX6_hasRoom 2 (Option.some .boolean) 1 0 0 [.ref 479, .int x] z n sh I L (Pst (some (.int (bI (decide (k + 20 ≤ 900))))) z n sh I L) := by
  refine CM.go [some (.ref 479), some (.int x)] rfl rfl (Nat.le_of_ble_eq_true rfl) (fun X g q => ?_)
  subst hx
  refine aw_aload_n dX6_hasRoom_0 rfl ?_
  refine aw_getI dX6_hasRoom_1 fX6_46 hX.rdr.1 (hX.lt (by decide)) rfl ?_
  refine AW.top hk ?_
  refine aw_iload_n dX6_hasRoom_4 rfl ?_
  refine aw_iadd dX6_hasRoom_5 ?_
  refine AW.top (y := nI (k + 20)) (nI_sum _ 20) ?_
  refine aw_sipush (v := 900) dX6_hasRoom_6 rfl ?_
  refine aw_icmp_gt (tgt := 16) dX6_hasRoom_9 rfl (fun c9 => ?_) (fun c9 => ?_)
  · refine aw_iconst (v := 0) dX6_hasRoom_16 rfl ?_
    refine aw_zret q rfl (by decide) dX6_hasRoom_17 ⟨Nat.le_refl _, Nat.le_refl _⟩ ?_
    refine Pst.iv ?_
    rw [decide_eq_false (by have := (nI_ltI (a := 900) (b := k + 20) (by decide) (by omega)).mp c9; omega)]
    rfl
  · refine aw_iconst (v := 1) dX6_hasRoom_12 rfl ?_
    refine aw_goto (tgt := 17) dX6_hasRoom_13 rfl ?_
    refine aw_zret q rfl (by decide) dX6_hasRoom_17 ⟨Nat.le_refl _, Nat.le_refl _⟩ ?_
    refine Pst.iv ?_
    rw [decide_eq_true (by have := mt (nI_ltI (a := 900) (b := k + 20) (by decide) (by omega)).mpr c9; omega)]
    rfl
set_option maxHeartbeats 4000000 in
set_option maxRecDepth 100000 in
theorem sX6_append (hX : IsX n sh) {T : Nat → Int32} {k : Nat} (hT : I 480 = T) (hk : I 479 2 = nI k) (hb : k + 4 ≤ 900) {w : Int32}  : CM yX6_append cX6_append 3 (Option.none : Option FieldType) 1 0 0 [.ref 479, .int w] z n sh I L (Pst none z n sh (tcM I (tpW T k w 4) (k + 4)) L) := by
  refine CM.go [some (.ref 479), some (.int w), none] rfl rfl (Nat.le_of_ble_eq_true rfl) (fun X g q => ?_)
  have loop : ∀ i, i ≤ 4 → AW X g RX6 cX6_append 3 (1, 0, 0) (z, n, sh, 0, 0) (tcM I (tpW T k w i) (k + i)) (L) 3 [some (.ref 479), some (.int w), some (.int (24 - 8 * nI i))] [] := by
    refine up_loop (fun i hi ih => ?_)
    refine aw_iload_n dX6_append_3 rfl ?_
    refine aw_if_lt (tgt := 49) dX6_append_4 rfl (fun c4 => ?_) (fun c4 => ?_)
    · have e : i = 4 := (k24 i hi).mp c4
      subst e
      refine aw_vret q rfl dX6_append_49 ⟨Nat.le_refl _, Nat.le_refl _⟩ ?_
      exact Pst.rf
    · have hlt : i < 4 := by
        have := mt (k24 i hi).mpr c4
        omega
      refine aw_aload_n dX6_append_7 rfl ?_
      refine aw_getI dX6_append_8 fX6_46 hX.rdr.1 (hX.lt (by decide)) rfl ?_
      refine AW.top tcM_n ?_
      refine aw_sipush (v := 900) dX6_append_11 rfl ?_
      refine aw_icmp_ge (tgt := 49) dX6_append_14 rfl (fun c14 => ?_) (fun c14 => ?_)
      · exact absurd ((nI_leI (a := 900) (b := k + i) (by decide) (by omega)).mp c14) (by omega)
      · skip
        refine aw_aload_n dX6_append_17 rfl ?_
        refine aw_getR (b := 480) dX6_append_18 fX6_9 hX.rdr.1 (hX.lt (by decide)) rfl hX.rdr.2.1 ?_
        refine aw_aload_n dX6_append_21 rfl ?_
        refine aw_getI dX6_append_22 fX6_46 hX.rdr.1 (hX.lt (by decide)) rfl ?_
        refine AW.top tcM_n ?_
        refine aw_iload_n dX6_append_25 rfl ?_
        refine aw_iload_n dX6_append_26 rfl ?_
        refine aw_iushr dX6_append_27 ?_
        refine aw_sipush (v := 255) dX6_append_28 rfl ?_
        refine aw_iand dX6_append_31 ?_
        refine aw_iastN (k := (k + i)) dX6_append_32 hX.rdr.2.2.2.1.1 (hX.lt (by decide)) hX.rdr.2.2.2.1.2 rfl (by omega) (by decide) ?_
        refine aw_aload_n dX6_append_33 rfl ?_
        refine aw_dup dX6_append_34 rfl ?_
        refine aw_getI dX6_append_35 fX6_46 hX.rdr.1 (hX.lt (by decide)) rfl ?_
        refine AW.top (y := nI (k + i)) (by rw [upI_off (by decide) rfl]; exact tcM_n) ?_
        refine aw_iconst (v := 1) dX6_append_38 rfl ?_
        refine aw_iadd dX6_append_39 ?_
        refine AW.top (gadd rfl rfl) ?_
        refine aw_putI dX6_append_40 fX6_46 hX.rdr.1 (hX.lt (by decide)) rfl rfl ?_
        refine aw_iinc dX6_append_43 rfl (k24s i hlt) (by decide) rfl ?_
        refine aw_goto (tgt := 3) dX6_append_46 rfl ?_
        refine AW.mem ?_ (ih hlt)
        unfold tcM
        rw [upI_upA (a := 480), upI_off (by decide) upA_self, upA_upI (by decide), upA_upA, upI_upI]
        rfl
  refine aw_bipush (v := 24) dX6_append_0 rfl ?_
  refine aw_istore_n dX6_append_2 (by decide) rfl ?_
  refine AW.mem ?_ (loop 0 (Nat.zero_le _))
  exact (tcM_me hT hk).symm
set_option maxHeartbeats 4000000 in
set_option maxRecDepth 100000 in
theorem sX10_feed (hX : IsX n sh) {a b c d e : Int32} {T : Nat → Int32} {k : Nat} (hT : I 480 = T) (hk : I 479 2 = nI k) (hk9 : k ≤ 900) : CM yX10_feed cX10_feed 6 (Option.some .int) 2 0 0 [.ref 0, .int a, .int b, .int c, .int d, .int e] z n sh I L ((if k + 20 ≤ 900 then Pst (some (.int (nI (k + 20)))) z n sh (tcM I (tp5 T k a b c d e) (k + 20)) L else Pst (some (.int (-1))) z n sh I L)) := by
  refine CM.go [some (.ref 0), some (.int a), some (.int b), some (.int c), some (.int d), some (.int e)] rfl rfl (Nat.le_of_ble_eq_true rfl) (fun X g q => ?_)
  skip
  refine aw_aload_n dX10_feed_0 rfl ?_
  refine aw_getR (b := 479) dX10_feed_1 fX10_29 hX.k hX.b rfl hX.r3 ?_
  refine aw_bipush (v := 20) dX10_feed_4 rfl ?_
  refine aw_cV dX10_feed_6 kX10_65 mX6_hasRoom (sX6_hasRoom hX hk hk9 rfl) (Nat.le_of_ble_eq_true rfl) hX.rdr.1 ⟨by decide, rfl⟩ (hX.lt (by decide)) rfl rfl (Nat.le_of_ble_eq_true rfl) ⟨Nat.le_refl _, Nat.le_refl _⟩ ?_
  refine aw_if_ne (tgt := 14) dX10_feed_9 rfl (fun c9 => ?_) (fun c9 => ?_)
  · have hle := of_decide_eq_true (bI1.mp c9)
    refine aw_aload_n dX10_feed_14 rfl ?_
    refine aw_getR (b := 479) dX10_feed_15 fX10_29 hX.k hX.b rfl hX.r3 ?_
    refine aw_iload_n dX10_feed_18 rfl ?_
    refine aw_cV dX10_feed_19 kX10_69 mX6_append (sX6_append hX hT hk (by omega)) (Nat.le_of_ble_eq_true rfl) hX.rdr.1 ⟨by decide, rfl⟩ (hX.lt (by decide)) rfl rfl (Nat.le_of_ble_eq_true rfl) ⟨Nat.le_refl _, Nat.le_refl _⟩ ?_
    refine aw_aload_n dX10_feed_22 rfl ?_
    refine aw_getR (b := 479) dX10_feed_23 fX10_29 hX.k hX.b rfl hX.r3 ?_
    refine aw_iload_n dX10_feed_26 rfl ?_
    refine aw_cV dX10_feed_27 kX10_69 mX6_append (sX6_append hX tcM_t tcM_n (by omega)) (Nat.le_of_ble_eq_true rfl) hX.rdr.1 ⟨by decide, rfl⟩ (hX.lt (by decide)) rfl rfl (Nat.le_of_ble_eq_true rfl) ⟨Nat.le_refl _, Nat.le_refl _⟩ ?_
    rw [tcM_tcM]
    refine aw_aload_n dX10_feed_30 rfl ?_
    refine aw_getR (b := 479) dX10_feed_31 fX10_29 hX.k hX.b rfl hX.r3 ?_
    refine aw_iload_n dX10_feed_34 rfl ?_
    refine aw_cV dX10_feed_35 kX10_69 mX6_append (sX6_append hX tcM_t tcM_n (by omega)) (Nat.le_of_ble_eq_true rfl) hX.rdr.1 ⟨by decide, rfl⟩ (hX.lt (by decide)) rfl rfl (Nat.le_of_ble_eq_true rfl) ⟨Nat.le_refl _, Nat.le_refl _⟩ ?_
    rw [tcM_tcM]
    refine aw_aload_n dX10_feed_38 rfl ?_
    refine aw_getR (b := 479) dX10_feed_39 fX10_29 hX.k hX.b rfl hX.r3 ?_
    refine aw_iload dX10_feed_42 rfl ?_
    refine aw_cV dX10_feed_44 kX10_69 mX6_append (sX6_append hX tcM_t tcM_n (by omega)) (Nat.le_of_ble_eq_true rfl) hX.rdr.1 ⟨by decide, rfl⟩ (hX.lt (by decide)) rfl rfl (Nat.le_of_ble_eq_true rfl) ⟨Nat.le_refl _, Nat.le_refl _⟩ ?_
    rw [tcM_tcM]
    refine aw_aload_n dX10_feed_47 rfl ?_
    refine aw_getR (b := 479) dX10_feed_48 fX10_29 hX.k hX.b rfl hX.r3 ?_
    refine aw_iload dX10_feed_51 rfl ?_
    refine aw_cV dX10_feed_53 kX10_69 mX6_append (sX6_append hX tcM_t tcM_n (by omega)) (Nat.le_of_ble_eq_true rfl) hX.rdr.1 ⟨by decide, rfl⟩ (hX.lt (by decide)) rfl rfl (Nat.le_of_ble_eq_true rfl) ⟨Nat.le_refl _, Nat.le_refl _⟩ ?_
    rw [tcM_tcM]
    refine aw_aload_n dX10_feed_56 rfl ?_
    refine aw_getR (b := 479) dX10_feed_57 fX10_29 hX.k hX.b rfl hX.r3 ?_
    refine aw_getI dX10_feed_60 fX10_73 hX.rdr.1 (hX.lt (by decide)) rfl ?_
    refine AW.top tcM_n ?_
    refine aw_iret q rfl dX10_feed_63 ⟨Nat.le_refl _, Nat.le_refl _⟩ ?_
    rw [if_pos hle]
    exact Pst.rf
  · have hle := of_decide_eq_false (bI0.mp c9)
    refine aw_iconst (v := (-1)) dX10_feed_12 rfl ?_
    refine aw_iret q rfl dX10_feed_13 ⟨Nat.le_refl _, Nat.le_refl _⟩ ?_
    rw [if_neg hle]
    exact Pst.rf
set_option maxHeartbeats 4000000 in
set_option maxRecDepth 100000 in
theorem sX10_fault (hX : IsX n sh) {x : Int32} : CM yX10_fault cX10_fault 2 (Option.some .int) 1 0 0 [.ref 0, .int x] z n sh I L (Pst (some (.int (if x = 0 then I 479 3 else if x = 1 then I 479 4 else -1))) z n sh I L) := by
  refine CM.go [some (.ref 0), some (.int x)] rfl rfl (Nat.le_of_ble_eq_true rfl) (fun X g q => ?_)
  skip
  refine aw_iload_n dX10_fault_0 rfl ?_
  refine aw_if_ne (tgt := 12) dX10_fault_1 rfl (fun c1 => ?_) (fun c1 => ?_)
  · skip
    refine aw_iload_n dX10_fault_12 rfl ?_
    refine aw_iconst (v := 1) dX10_fault_13 rfl ?_
    refine aw_icmp_ne (tgt := 27) dX10_fault_14 rfl (fun c14 => ?_) (fun c14 => ?_)
    · skip
      refine aw_iconst (v := (-1)) dX10_fault_27 rfl ?_
      refine aw_iret q rfl dX10_fault_28 ⟨Nat.le_refl _, Nat.le_refl _⟩ ?_
      refine Pst.iv ?_
      rw [if_neg c1, if_neg c14]
    · skip
      refine aw_aload_n dX10_fault_17 rfl ?_
      refine aw_getR (b := 479) dX10_fault_18 fX10_29 hX.k hX.b rfl hX.r3 ?_
      refine aw_getI dX10_fault_21 fX10_100 hX.rdr.1 (hX.lt (by decide)) rfl ?_
      refine aw_goto (tgt := 28) dX10_fault_24 rfl ?_
      refine aw_iret q rfl dX10_fault_28 ⟨Nat.le_refl _, Nat.le_refl _⟩ ?_
      refine Pst.iv ?_
      rw [if_neg c1, if_pos c14]
  · skip
    refine aw_aload_n dX10_fault_4 rfl ?_
    refine aw_getR (b := 479) dX10_fault_5 fX10_29 hX.k hX.b rfl hX.r3 ?_
    refine aw_getI dX10_fault_8 fX10_97 hX.rdr.1 (hX.lt (by decide)) rfl ?_
    refine aw_iret q rfl dX10_fault_11 ⟨Nat.le_refl _, Nat.le_refl _⟩ ?_
    refine Pst.iv ?_
    rw [if_pos c1]
set_option maxHeartbeats 4000000 in
set_option maxRecDepth 100000 in
theorem sX6_isLetter {c : Int32}  : CM yX6_isLetter cX6_isLetter 1 (Option.some .boolean) 1 0 0 [.int c] z n sh I L (Pst (some (.int (bI (isLet c)))) z n sh I L) := by
  refine CM.go [some (.int c)] rfl rfl (Nat.le_of_ble_eq_true rfl) (fun X g q => ?_)
  refine aw_iload_n dX6_isLetter_0 rfl ?_
  refine aw_bipush (v := 97) dX6_isLetter_1 rfl ?_
  refine aw_icmp_lt (tgt := 16) dX6_isLetter_3 rfl (fun c3 => ?_) (fun c3 => ?_)
  · refine aw_iconst (v := 0) dX6_isLetter_16 rfl ?_
    refine aw_zret q rfl (by decide) dX6_isLetter_17 ⟨Nat.le_refl _, Nat.le_refl _⟩ ?_
    refine Pst.iv ?_
    unfold bI isLet
    simp [(fa_of_lt c3).2.1]
  · refine aw_iload_n dX6_isLetter_6 rfl ?_
    refine aw_bipush (v := 122) dX6_isLetter_7 rfl ?_
    refine aw_icmp_gt (tgt := 16) dX6_isLetter_9 rfl (fun c9 => ?_) (fun c9 => ?_)
    · refine aw_iconst (v := 0) dX6_isLetter_16 rfl ?_
      refine aw_zret q rfl (by decide) dX6_isLetter_17 ⟨Nat.le_refl _, Nat.le_refl _⟩ ?_
      refine Pst.iv ?_
      unfold bI isLet
      simp [(fa_of_lt c9).2.1]
    · refine aw_iconst (v := 1) dX6_isLetter_12 rfl ?_
      refine aw_goto (tgt := 17) dX6_isLetter_13 rfl ?_
      refine aw_zret q rfl (by decide) dX6_isLetter_17 ⟨Nat.le_refl _, Nat.le_refl _⟩ ?_
      refine Pst.iv ?_
      unfold bI isLet
      simp [fa_of_nlt c3, fa_of_nlt c9]
set_option maxHeartbeats 4000000 in
set_option maxRecDepth 100000 in
theorem sX6_isDigit {c : Int32}  : CM yX6_isDigit cX6_isDigit 1 (Option.some .boolean) 1 0 0 [.int c] z n sh I L (Pst (some (.int (bI (isDig c)))) z n sh I L) := by
  refine CM.go [some (.int c)] rfl rfl (Nat.le_of_ble_eq_true rfl) (fun X g q => ?_)
  refine aw_iload_n dX6_isDigit_0 rfl ?_
  refine aw_bipush (v := 48) dX6_isDigit_1 rfl ?_
  refine aw_icmp_lt (tgt := 16) dX6_isDigit_3 rfl (fun c3 => ?_) (fun c3 => ?_)
  · refine aw_iconst (v := 0) dX6_isDigit_16 rfl ?_
    refine aw_zret q rfl (by decide) dX6_isDigit_17 ⟨Nat.le_refl _, Nat.le_refl _⟩ ?_
    refine Pst.iv ?_
    unfold bI isDig
    simp [(fa_of_lt c3).2.1]
  · refine aw_iload_n dX6_isDigit_6 rfl ?_
    refine aw_bipush (v := 57) dX6_isDigit_7 rfl ?_
    refine aw_icmp_gt (tgt := 16) dX6_isDigit_9 rfl (fun c9 => ?_) (fun c9 => ?_)
    · refine aw_iconst (v := 0) dX6_isDigit_16 rfl ?_
      refine aw_zret q rfl (by decide) dX6_isDigit_17 ⟨Nat.le_refl _, Nat.le_refl _⟩ ?_
      refine Pst.iv ?_
      unfold bI isDig
      simp [(fa_of_lt c9).2.1]
    · refine aw_iconst (v := 1) dX6_isDigit_12 rfl ?_
      refine aw_goto (tgt := 17) dX6_isDigit_13 rfl ?_
      refine aw_zret q rfl (by decide) dX6_isDigit_17 ⟨Nat.le_refl _, Nat.le_refl _⟩ ?_
      refine Pst.iv ?_
      unfold bI isDig
      simp [fa_of_nlt c3, fa_of_nlt c9]
set_option maxHeartbeats 4000000 in
set_option maxRecDepth 100000 in
theorem sX6_byteAt (hX : IsX n sh) {T : Nat → Int32} (hT : I 480 = T) {s : Nat} (hs : I 479 5 = nI s) (hs9 : s ≤ 900) {x : Int32} {k : Nat} (hx : x = nI k) (hk : k ≤ 900)  : CM yX6_byteAt cX6_byteAt 2 (Option.some .int) 1 0 0 [.ref 479, .int x] z n sh I L (Pst (some (.int (tb T s k))) z n sh I L) := by
  refine CM.go [some (.ref 479), some (.int x)] rfl rfl (Nat.le_of_ble_eq_true rfl) (fun X g q => ?_)
  subst hx
  refine aw_iload_n dX6_byteAt_0 rfl ?_
  refine aw_if_lt (tgt := 19) dX6_byteAt_1 rfl (fun c1 => ?_) (fun c1 => ?_)
  · exact absurd c1 (nI_pos (by omega))
  · skip
    refine aw_iload_n dX6_byteAt_4 rfl ?_
    refine aw_aload_n dX6_byteAt_5 rfl ?_
    refine aw_getI dX6_byteAt_6 fX6_53 hX.rdr.1 (hX.lt (by decide)) rfl ?_
    refine AW.top hs ?_
    refine aw_icmp_ge (tgt := 19) dX6_byteAt_9 rfl (fun c9 => ?_) (fun c9 => ?_)
    · have hge := (nI_leI (by omega) (by omega)).mp c9
      refine aw_iconst (v := (-1)) dX6_byteAt_19 rfl ?_
      refine aw_goto (tgt := 29) dX6_byteAt_20 rfl ?_
      refine aw_iret q rfl dX6_byteAt_29 ⟨Nat.le_refl _, Nat.le_refl _⟩ ?_
      refine Pst.iv ?_
      unfold tb
      rw [if_neg (by omega)]
    · have hlt : k < s := by
        have := mt (nI_leI (a := s) (b := k) (by omega) (by omega)).mpr c9
        omega
      refine aw_iload_n dX6_byteAt_12 rfl ?_
      refine aw_sipush (v := 900) dX6_byteAt_13 rfl ?_
      refine aw_icmp_lt (tgt := 23) dX6_byteAt_16 rfl (fun c16 => ?_) (fun c16 => ?_)
      · skip
        refine aw_aload_n dX6_byteAt_23 rfl ?_
        refine aw_getR (b := 480) dX6_byteAt_24 fX6_9 hX.rdr.1 (hX.lt (by decide)) rfl hX.rdr.2.1 ?_
        refine aw_iload_n dX6_byteAt_27 rfl ?_
        refine aw_ialdN (k := k) dX6_byteAt_28 hX.rdr.2.2.2.1.1 (hX.lt (by decide)) hX.rdr.2.2.2.1.2 rfl (by omega) (by decide) ?_
        refine AW.top (congrFun hT k) ?_
        refine aw_iret q rfl dX6_byteAt_29 ⟨Nat.le_refl _, Nat.le_refl _⟩ ?_
        refine Pst.iv ?_
        unfold tb
        rw [if_pos hlt]
      · exact absurd ((nI_ltI (a := k) (b := 900) (by omega) (by decide)).mpr (by omega)) c16
end ClsS
