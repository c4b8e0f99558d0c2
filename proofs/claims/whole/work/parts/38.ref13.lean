/-! the reference: acts -/
section RefS
variable {z n m : Nat} {sh : Shp} {I : MI} {L : ML}
set_option maxHeartbeats 4000000 in
set_option maxRecDepth 100000 in
theorem rX11_keeps (hM : IsM n sh m) {N : Nat → Int32} (hI : I (m + 1) = N) {ac : Nat} (ha : I m 12 = nI ac) (hac : ac ≤ 12) : CM yX11_keeps cX11_keeps 2 (Option.none : Option FieldType) 1 0 0 [.ref m] z n sh I L (Pst none z n sh (Kp I m N ac) L) := by
  refine CM.go [some (.ref m), none] rfl rfl (Nat.le_of_ble_eq_true rfl) (fun X g q => ?_)
  have tail : ∀ (J : MI) (a : Nat) (l1 : Option Value), J (m + 1) = N → J m 12 = nI a → a ≤ 11 → upI (upA J (m + 4) (kPut (J (m + 4)) N a 390)) m 12 (nI (a + 1)) = Kp I m N ac → AW X g RX11 cX11_keeps 2 (1, 0, 0) (z, n, sh, 0, 0) (J) (L) 52 [some (.ref m), l1] [] := by
    intro J a l1 jn ja ha11 jk
    have loop : ∀ i, i ≤ 390 → AW X g RX11 cX11_keeps 2 (1, 0, 0) (z, n, sh, 0, 0) (upA J (m + 4) (kPut (J (m + 4)) N a i)) (L) 54 [some (.ref m), some (.int (nI i))] [] := by
      refine up_loop (fun i hi ih => ?_)
      refine aw_iload_n dX11_keeps_54 rfl ?_
      refine aw_sipush (v := 390) dX11_keeps_55 rfl ?_
      refine aw_icmp_ge (tgt := 88) dX11_keeps_58 rfl (fun c58 => ?_) (fun c58 => ?_)
      · have e := ge_t (B := 390) rfl (by decide) hi c58
        subst e
        refine aw_aload_n dX11_keeps_88 rfl ?_
        refine aw_dup dX11_keeps_89 rfl ?_
        refine aw_getI dX11_keeps_90 fX11_196 hM.k hM.b rfl ?_
        refine aw_iconst (v := 1) dX11_keeps_93 rfl ?_
        refine aw_iadd dX11_keeps_94 ?_
        refine AW.top (gadd (by rw [upA_ne (by omega)]; exact ja) rfl) ?_
        refine aw_putI dX11_keeps_95 fX11_196 hM.k hM.b rfl rfl ?_
        refine aw_vret q rfl dX11_keeps_98 ⟨Nat.le_refl _, Nat.le_refl _⟩ ?_
        refine Pst.mem ?_
        rw [← jk]
      · have hlt := ge_f (B := 390) rfl (by decide) hi c58
        refine aw_aload_n dX11_keeps_61 rfl ?_
        refine aw_getR (b := m + 4) dX11_keeps_62 fX11_19 hM.k hM.b rfl hM.r3 ?_
        refine aw_sipush (v := 390) dX11_keeps_65 rfl ?_
        refine aw_aload_n dX11_keeps_68 rfl ?_
        refine aw_getI dX11_keeps_69 fX11_196 hM.k hM.b rfl ?_
        refine aw_imul dX11_keeps_72 ?_
        refine aw_iload_n dX11_keeps_73 rfl ?_
        refine aw_iadd dX11_keeps_74 ?_
        refine aw_aload_n dX11_keeps_75 rfl ?_
        refine aw_getR (b := m + 1) dX11_keeps_76 fX11_7 hM.k hM.b rfl hM.r0 ?_
        refine aw_iload_n dX11_keeps_79 rfl ?_
        refine aw_ialdH (k := i) (upA_off (by omega) jn) dX11_keeps_80 hM.k0 hM.b0 hM.l0 rfl (by omega) (by decide) ?_
        refine aw_iastN (k := ((390 * a) + i)) dX11_keeps_81 hM.k3 hM.b3 hM.l3 (gadd (gmul rfl (by rw [upA_ne (by omega)]; exact ja)) rfl) (by omega) (by decide) ?_
        refine aw_iinc dX11_keeps_82 rfl (ginc rfl) (by decide) rfl ?_
        refine aw_goto (tgt := 54) dX11_keeps_85 rfl ?_
        refine AW.mem ?_ (ih hlt)
        rw [← kPut_succ]
        simp only [upI_upA, upA_upA, upA_self]
    refine aw_iconst (v := 0) dX11_keeps_52 rfl ?_
    refine aw_istore_n dX11_keeps_53 (by decide) rfl ?_
    refine AW.mem ?_ (loop 0 (Nat.zero_le _))
    rw [kPut_0, upA_me]
  refine aw_aload_n dX11_keeps_0 rfl ?_
  refine aw_getI dX11_keeps_1 fX11_196 hM.k hM.b rfl ?_
  refine aw_bipush (v := 12) dX11_keeps_4 rfl ?_
  refine aw_icmp_ne (tgt := 52) dX11_keeps_6 rfl (fun c6 => ?_) (fun c6 => ?_)
  · have ne12 : ¬ ac = 12 := fun e => c6 (by rw [ha, e]; rfl)
    refine tail I ac none hI ha (by omega) ?_
    unfold Kp mKeepK mKeepA
    rw [if_neg ne12, if_neg ne12]
  · have e12 : ac = 12 := (nI_eq (by omega) (by decide)).mp (ha.symm.trans c6)
    subst e12
    refine aw_sipush (v := 390) dX11_keeps_9 rfl ?_
    refine aw_istore_n dX11_keeps_12 (by decide) rfl ?_
    have sloop : ∀ d, d ≤ 4290 → AW X g RX11 cX11_keeps 2 (1, 0, 0) (z, n, sh, 0, 0) (upA I (m + 4) (fa_fill (fun j => I (m + 4) (j + 390)) (I (m + 4)) d)) (L) 13 [some (.ref m), some (.int (nI (390 + d)))] [] := by
      refine up_loop (fun d hd ihd => ?_)
      refine aw_iload_n dX11_keeps_13 rfl ?_
      refine aw_sipush (v := 4680) dX11_keeps_14 rfl ?_
      refine aw_icmp_ge (tgt := 42) dX11_keeps_17 rfl (fun c17 => ?_) (fun c17 => ?_)
      · have e := ge_t (B := 4680) (i := 390 + d) rfl (by decide) (by omega) c17
        have ed : d = 4290 := by omega
        subst ed
        refine aw_aload_n dX11_keeps_42 rfl ?_
        refine aw_dup dX11_keeps_43 rfl ?_
        refine aw_getI dX11_keeps_44 fX11_196 hM.k hM.b rfl ?_
        refine aw_iconst (v := 1) dX11_keeps_47 rfl ?_
        refine aw_isub dX11_keeps_48 ?_
        refine AW.top (y := nI 11) (by rw [upA_ne (by omega), ha]; decide) ?_
        refine aw_putI dX11_keeps_49 fX11_196 hM.k hM.b rfl rfl ?_
        refine tail _ 11 _ (upI_off (by omega) (upA_off (by omega) hI)) (by rw [upI_row rfl]; exact upd_eq) (by decide) ?_
        unfold Kp mKeepK mKeepA
        rw [if_pos rfl, if_pos rfl, upA_upI (by omega), upI_upI, upA_upA, upI_off (by omega) upA_self]
        rfl
      · have hlt := ge_f (B := 4680) (i := 390 + d) rfl (by decide) (by omega) c17
        have hld : d < 4290 := by omega
        refine aw_aload_n dX11_keeps_20 rfl ?_
        refine aw_getR (b := m + 4) dX11_keeps_21 fX11_19 hM.k hM.b rfl hM.r3 ?_
        refine aw_iload_n dX11_keeps_24 rfl ?_
        refine aw_sipush (v := 390) dX11_keeps_25 rfl ?_
        refine aw_isub dX11_keeps_28 ?_
        refine AW.top (y := nI d) (by rw [show (390 : Int32) = nI 390 from rfl, pk_sub (by omega)]; congr 1; omega) ?_
        refine aw_aload_n dX11_keeps_29 rfl ?_
        refine aw_getR (b := m + 4) dX11_keeps_30 fX11_19 hM.k hM.b rfl hM.r3 ?_
        refine aw_iload_n dX11_keeps_33 rfl ?_
        refine aw_ialdH (k := (390 + d)) upA_self dX11_keeps_34 hM.k3 hM.b3 hM.l3 rfl (by omega) (by decide) ?_
        rw [show fa_fill (fun j => I (m + 4) (j + 390)) (I (m + 4)) d (390 + d) = I (m + 4) (d + 390) from by rw [fa_fill_out (by omega), Nat.add_comm 390 d]]
        refine aw_iastN (k := d) dX11_keeps_35 hM.k3 hM.b3 hM.l3 rfl (by omega) (by decide) ?_
        refine aw_iinc dX11_keeps_36 rfl (ginc rfl) (by decide) rfl ?_
        refine aw_goto (tgt := 13) dX11_keeps_39 rfl ?_
        refine AW.mem ?_ (ihd hld)
        rw [← fa_fill_succ (fun j => I (m + 4) (j + 390))]
        simp only [upI_upA, upA_upA, upA_self]
    refine AW.mem ?_ (sloop 0 (Nat.zero_le _))
    rw [fa_fill_0, upA_me]
def undN (N K : Nat → Int32) (a : Nat) : Nat → Int32 := mCopy (fun k => K (390 * a + k)) N
def undI (I : MI) (m : Nat) (N : Nat → Int32) (a : Nat) : MI := upA (upI I m 12 (nI a)) (m + 1) (undN N (I (m + 4)) a)
theorem upA_eq {I : MI} {a : Nat} {f : Nat → Int32} (h : I a = f) : upA I a f = I := by rw [← h, upA_me]
set_option maxHeartbeats 4000000 in
set_option maxRecDepth 100000 in
theorem rX11_undo (hM : IsM n sh m) {N : Nat → Int32} (hI : I (m + 1) = N) {ac : Nat} (ha : I m 12 = nI ac) (hac : ac ≤ 12)  : CM yX11_undo cX11_undo 2 (Option.some .int) 2 0 0 [.ref m] z n sh I L (if ac = 0 then Pst (some (.int (-1))) z n sh (stt I m 5) L else Pst (some (.int (nI (ac - 1)))) z n sh (stt (undI I m N (ac - 1)) m 0) L) := by
  refine CM.go [some (.ref m), none] rfl rfl (Nat.le_of_ble_eq_true rfl) (fun X g q => ?_)
  refine aw_aload_n dX11_undo_0 rfl ?_
  refine aw_getI dX11_undo_1 fX11_196 hM.k hM.b rfl ?_
  refine aw_if_ne (tgt := 13) dX11_undo_4 rfl (fun c4 => ?_) (fun c4 => ?_)
  · have n0 : ¬ ac = 0 := fun e => c4 (by rw [ha, e]; rfl)
    obtain ⟨a, rfl⟩ : ∃ a, ac = a + 1 := ⟨ac - 1, by omega⟩
    rw [if_neg n0, Nat.add_sub_cancel] at q
    refine aw_aload_n dX11_undo_13 rfl ?_
    refine aw_dup dX11_undo_14 rfl ?_
    refine aw_getI dX11_undo_15 fX11_196 hM.k hM.b rfl ?_
    refine aw_iconst (v := 1) dX11_undo_18 rfl ?_
    refine aw_isub dX11_undo_19 ?_
    refine AW.top (y := nI a) (by rw [ha]; exact nI_pred a) ?_
    refine aw_putI dX11_undo_20 fX11_196 hM.k hM.b rfl rfl ?_
    refine aw_iconst (v := 0) dX11_undo_23 rfl ?_
    refine aw_istore_n dX11_undo_24 (by decide) rfl ?_
    have loop : ∀ i, i ≤ 390 → AW X g RX11 cX11_undo 2 (2, 0, 0) (z, n, sh, 0, 0) (upA (upI I m 12 (nI a)) (m + 1) (fa_fill (fun k => I (m + 4) (390 * a + k)) N i)) (L) 25 [some (.ref m), some (.int (nI i))] [] := by
      refine up_loop (fun i hi ih => ?_)
      refine aw_iload_n dX11_undo_25 rfl ?_
      refine aw_sipush (v := 390) dX11_undo_26 rfl ?_
      refine aw_icmp_ge (tgt := 59) dX11_undo_29 rfl (fun c29 => ?_) (fun c29 => ?_)
      · have e := ge_t (B := 390) rfl (by decide) hi c29
        subst e
        refine aw_aload_n dX11_undo_59 rfl ?_
        refine aw_aload_n dX11_undo_60 rfl ?_
        refine aw_getI dX11_undo_61 fX11_196 hM.k hM.b rfl ?_
        refine AW.top (y := nI a) (by rw [upA_ne (by omega), upI_row rfl]; exact upd_eq) ?_
        refine aw_cV dX11_undo_64 kX11_199 mX11_gives (sX11_gives hM) (Nat.le_of_ble_eq_true rfl) hM.k ⟨by decide, rfl⟩ hM.b rfl rfl (Nat.le_of_ble_eq_true rfl) ⟨Nat.le_refl _, Nat.le_refl _⟩ ?_
        refine aw_iret q rfl dX11_undo_67 ⟨Nat.le_refl _, Nat.le_refl _⟩ ?_
        exact Pst.rf
      · have hlt := ge_f (B := 390) rfl (by decide) hi c29
        refine aw_aload_n dX11_undo_32 rfl ?_
        refine aw_getR (b := m + 1) dX11_undo_33 fX11_7 hM.k hM.b rfl hM.r0 ?_
        refine aw_iload_n dX11_undo_36 rfl ?_
        refine aw_aload_n dX11_undo_37 rfl ?_
        refine aw_getR (b := m + 4) dX11_undo_38 fX11_19 hM.k hM.b rfl hM.r3 ?_
        refine aw_sipush (v := 390) dX11_undo_41 rfl ?_
        refine aw_aload_n dX11_undo_44 rfl ?_
        refine aw_getI dX11_undo_45 fX11_196 hM.k hM.b rfl ?_
        refine aw_imul dX11_undo_48 ?_
        refine aw_iload_n dX11_undo_49 rfl ?_
        refine aw_iadd dX11_undo_50 ?_
        refine aw_ialdH (k := ((390 * a) + i)) (upA_off (by omega) (upI_off (by omega) rfl)) dX11_undo_51 hM.k3 hM.b3 hM.l3 (gadd (gmul rfl (by rw [upA_ne (by omega), upI_row rfl]; exact upd_eq)) rfl) (by omega) (by decide) ?_
        refine aw_iastN (k := i) dX11_undo_52 hM.k0 hM.b0 hM.l0 rfl (by omega) (by decide) ?_
        refine aw_iinc dX11_undo_53 rfl (ginc rfl) (by decide) rfl ?_
        refine aw_goto (tgt := 25) dX11_undo_56 rfl ?_
        refine AW.mem ?_ (ih hlt)
        rw [← fa_fill_succ (fun k => I (m + 4) (390 * a + k))]
        simp only [upI_upA, upA_upA, upA_self]
    refine AW.mem ?_ (loop 0 (Nat.zero_le _))
    rw [fa_fill_0]
    exact (upA_eq (upI_off (by omega) hI)).symm
  · have n0 : ac = 0 := (nI_eq (by omega) (by decide)).mp (ha.symm.trans c4)
    rw [if_pos n0] at q
    refine aw_aload_n dX11_undo_7 rfl ?_
    refine aw_iconst (v := 5) dX11_undo_8 rfl ?_
    refine aw_cV dX11_undo_9 kX11_186 mX11_refuse (sX11_refuse hM) (Nat.le_of_ble_eq_true rfl) hM.k ⟨by decide, rfl⟩ hM.b rfl rfl (Nat.le_of_ble_eq_true rfl) ⟨Nat.le_refl _, Nat.le_refl _⟩ ?_
    refine aw_iret q rfl dX11_undo_12 ⟨Nat.le_refl _, Nat.le_refl _⟩ ?_
    exact Pst.rf
set_option maxHeartbeats 4000000 in
set_option maxRecDepth 100000 in
theorem rX11_bid (hM : IsM n sh m) {N : Nat → Int32} (hI : I (m + 1) = N) (hN : Cn N) {ac : Nat} (ha : I m 12 = nI ac) (hac : ac ≤ 12) {x y : Int32} : CM yX11_bid cX11_bid 3 (Option.some .int) 5 0 0 [.ref m, .int x, .int y] z n sh I L (AcS (aBid N x y) z n sh I L m N ac) := by
  refine CM.go [some (.ref m), some (.int x), some (.int y)] rfl rfl (Nat.le_of_ble_eq_true rfl) (fun X g q => ?_)
  refine aw_aload_n dX11_bid_0 rfl ?_
  refine aw_iload_n dX11_bid_1 rfl ?_
  refine aw_iload_n dX11_bid_2 rfl ?_
  refine aw_cV dX11_bid_3 kX11_253 mX11_areOnes (rX11_areOnes hM hI) (Nat.le_of_ble_eq_true rfl) hM.k ⟨by decide, rfl⟩ hM.b rfl rfl (Nat.le_of_ble_eq_true rfl) ⟨Nat.le_refl _, Nat.le_refl _⟩ ?_
  refine aw_if_ne (tgt := 15) dX11_bid_6 rfl (fun c6 => ?_) (fun c6 => ?_)
  · have f6 := bI1.mp c6
    obtain ⟨p, h, hpn, hhn, hp8, hh10, rfl, rfl, ep, eh⟩ := ones_ix hN f6
    refine aw_aload_n dX11_bid_15 rfl ?_
    refine aw_iload_n dX11_bid_16 rfl ?_
    refine aw_iload_n dX11_bid_17 rfl ?_
    refine aw_cV dX11_bid_18 kX11_256 mX11_whyNot (rX11_whyNot (p := p) (h := h) hM hI hN rfl rfl hp8 hh10) (Nat.le_of_ble_eq_true rfl) hM.k ⟨by decide, rfl⟩ hM.b rfl rfl (Nat.le_of_ble_eq_true rfl) ⟨Nat.le_refl _, Nat.le_refl _⟩ ?_
    refine aw_if_eq (tgt := 31) dX11_bid_21 rfl (fun c21 => ?_) (fun c21 => ?_)
    · refine aw_aload_n dX11_bid_31 rfl ?_
      refine aw_cV dX11_bid_32 kX11_389 mX11_keeps (rX11_keeps hM hI ha hac) (Nat.le_of_ble_eq_true rfl) hM.k ⟨by decide, rfl⟩ hM.b rfl rfl (Nat.le_of_ble_eq_true rfl) ⟨Nat.le_refl _, Nat.le_refl _⟩ ?_
      refine aw_aload_n dX11_bid_35 rfl ?_
      refine aw_iload_n dX11_bid_36 rfl ?_
      refine aw_bipush (v := 10) dX11_bid_37 rfl ?_
      refine aw_aload_n dX11_bid_39 rfl ?_
      refine aw_iload_n dX11_bid_40 rfl ?_
      refine aw_bipush (v := 10) dX11_bid_41 rfl ?_
      refine aw_cV dX11_bid_43 kX11_205 mX11_of (rX11_of (p := p) (w := 10) hM (Kp_now hI) rfl rfl (by omega)) (Nat.le_of_ble_eq_true rfl) hM.k ⟨by decide, rfl⟩ hM.b rfl rfl (Nat.le_of_ble_eq_true rfl) ⟨Nat.le_refl _, Nat.le_refl _⟩ ?_
      refine aw_iconst (v := 1) dX11_bid_46 rfl ?_
      refine aw_iload_n dX11_bid_47 rfl ?_
      refine aw_ishl dX11_bid_48 ?_
      refine aw_ior dX11_bid_49 ?_
      refine aw_cV dX11_bid_50 kX11_289 mX11_puts (rX11_puts (p := p) (w := 10) hM (Kp_now hI) rfl rfl (by omega)) (Nat.le_of_ble_eq_true rfl) hM.k ⟨by decide, rfl⟩ hM.b rfl rfl (Nat.le_of_ble_eq_true rfl) ⟨Nat.le_refl _, Nat.le_refl _⟩ ?_
      refine aw_aload_n dX11_bid_53 rfl ?_
      refine aw_aload_n dX11_bid_54 rfl ?_
      refine aw_iload_n dX11_bid_55 rfl ?_
      refine aw_bipush (v := 10) dX11_bid_56 rfl ?_
      refine aw_cV dX11_bid_58 kX11_205 mX11_of (rX11_of (p := p) (w := 10) hM upA_self rfl rfl (by omega)) (Nat.le_of_ble_eq_true rfl) hM.k ⟨by decide, rfl⟩ hM.b rfl rfl (Nat.le_of_ble_eq_true rfl) ⟨Nat.le_refl _, Nat.le_refl _⟩ ?_
      refine aw_cS dX11_bid_61 kX11_222 mX11_bits (sX11_bits (v := nBi (bidN N p h) p) (bidN_b hN hp8 hh10).1 (bidN_b hN hp8 hh10).2) (Nat.le_of_ble_eq_true rfl) rfl rfl (Nat.le_of_ble_eq_true rfl) ⟨Nat.le_refl _, Nat.le_refl _⟩ ?_
      refine aw_cV dX11_bid_64 kX11_199 mX11_gives (sX11_gives hM) (Nat.le_of_ble_eq_true rfl) hM.k ⟨by decide, rfl⟩ hM.b rfl rfl (Nat.le_of_ble_eq_true rfl) ⟨Nat.le_refl _, Nat.le_refl _⟩ ?_
      refine aw_iret q rfl dX11_bid_67 ⟨Nat.le_refl _, Nat.le_refl _⟩ ?_
      exact AcS.ok (by simp [aBid, f6, ep, eh, c21, bidN]) RSc.rf
    · refine aw_aload_n dX11_bid_24 rfl ?_
      refine aw_bipush (v := 7) dX11_bid_25 rfl ?_
      refine aw_cV dX11_bid_27 kX11_186 mX11_refuse (sX11_refuse hM) (Nat.le_of_ble_eq_true rfl) hM.k ⟨by decide, rfl⟩ hM.b rfl rfl (Nat.le_of_ble_eq_true rfl) ⟨Nat.le_refl _, Nat.le_refl _⟩ ?_
      refine aw_iret q rfl dX11_bid_30 ⟨Nat.le_refl _, Nat.le_refl _⟩ ?_
      exact AcS.no (by simp [aBid, f6, ep, eh, c21]) RSc.rf
  · refine aw_aload_n dX11_bid_9 rfl ?_
    refine aw_iconst (v := 2) dX11_bid_10 rfl ?_
    refine aw_cV dX11_bid_11 kX11_186 mX11_refuse (sX11_refuse hM) (Nat.le_of_ble_eq_true rfl) hM.k ⟨by decide, rfl⟩ hM.b rfl rfl (Nat.le_of_ble_eq_true rfl) ⟨Nat.le_refl _, Nat.le_refl _⟩ ?_
    refine aw_iret q rfl dX11_bid_14 ⟨Nat.le_refl _, Nat.le_refl _⟩ ?_
    exact AcS.no (by simp [aBid, bI0.mp c6]) RSc.rf
set_option maxHeartbeats 4000000 in
set_option maxRecDepth 100000 in
theorem rX11_unbid (hM : IsM n sh m) {N : Nat → Int32} (hI : I (m + 1) = N) (hN : Cn N) (hl : Lo N) {ac : Nat} (ha : I m 12 = nI ac) (hac : ac ≤ 12) {x y : Int32} : CM yX11_unbid cX11_unbid 3 (Option.some .int) 4 0 0 [.ref m, .int x, .int y] z n sh I L (AcS (aUnbid N x y) z n sh I L m N ac) := by
  refine CM.go [some (.ref m), some (.int x), some (.int y)] rfl rfl (Nat.le_of_ble_eq_true rfl) (fun X g q => ?_)
  refine aw_aload_n dX11_unbid_0 rfl ?_
  refine aw_iload_n dX11_unbid_1 rfl ?_
  refine aw_iload_n dX11_unbid_2 rfl ?_
  refine aw_cV dX11_unbid_3 kX11_253 mX11_areOnes (rX11_areOnes hM hI) (Nat.le_of_ble_eq_true rfl) hM.k ⟨by decide, rfl⟩ hM.b rfl rfl (Nat.le_of_ble_eq_true rfl) ⟨Nat.le_refl _, Nat.le_refl _⟩ ?_
  refine aw_if_ne (tgt := 15) dX11_unbid_6 rfl (fun c6 => ?_) (fun c6 => ?_)
  · have f6 := bI1.mp c6
    obtain ⟨p, h, hpn, hhn, hp8, hh10, rfl, rfl, ep, eh⟩ := ones_ix hN f6
    refine aw_aload_n dX11_unbid_15 rfl ?_
    refine aw_iload_n dX11_unbid_16 rfl ?_
    refine aw_iload_n dX11_unbid_17 rfl ?_
    refine aw_cV dX11_unbid_18 kX11_234 mX11_isBid (rX11_isBid (p := p) hM hI rfl hp8) (Nat.le_of_ble_eq_true rfl) hM.k ⟨by decide, rfl⟩ hM.b rfl rfl (Nat.le_of_ble_eq_true rfl) ⟨Nat.le_refl _, Nat.le_refl _⟩ ?_
    refine aw_if_ne (tgt := 30) dX11_unbid_21 rfl (fun c21 => ?_) (fun c21 => ?_)
    · have f21 := bI1.mp c21
      have cD := (dropB_Wk (b := 30) ⟨hN, hl, hN.o30⟩ hp8 hh10).1
      refine aw_aload_n dX11_unbid_30 rfl ?_
      refine aw_cV dX11_unbid_31 kX11_389 mX11_keeps (rX11_keeps hM hI ha hac) (Nat.le_of_ble_eq_true rfl) hM.k ⟨by decide, rfl⟩ hM.b rfl rfl (Nat.le_of_ble_eq_true rfl) ⟨Nat.le_refl _, Nat.le_refl _⟩ ?_
      refine aw_aload_n dX11_unbid_34 rfl ?_
      refine aw_iload_n dX11_unbid_35 rfl ?_
      refine aw_bipush (v := 10) dX11_unbid_36 rfl ?_
      refine aw_aload_n dX11_unbid_38 rfl ?_
      refine aw_iload_n dX11_unbid_39 rfl ?_
      refine aw_bipush (v := 10) dX11_unbid_40 rfl ?_
      refine aw_cV dX11_unbid_42 kX11_205 mX11_of (rX11_of (p := p) (w := 10) hM (Kp_now hI) rfl rfl (by omega)) (Nat.le_of_ble_eq_true rfl) hM.k ⟨by decide, rfl⟩ hM.b rfl rfl (Nat.le_of_ble_eq_true rfl) ⟨Nat.le_refl _, Nat.le_refl _⟩ ?_
      refine aw_iconst (v := 1) dX11_unbid_45 rfl ?_
      refine aw_iload_n dX11_unbid_46 rfl ?_
      refine aw_ishl dX11_unbid_47 ?_
      refine aw_iconst (v := (-1)) dX11_unbid_48 rfl ?_
      refine aw_ixor dX11_unbid_49 ?_
      refine aw_iand dX11_unbid_50 ?_
      refine aw_cV dX11_unbid_51 kX11_289 mX11_puts (rX11_puts (p := p) (w := 10) hM (Kp_now hI) rfl rfl (by omega)) (Nat.le_of_ble_eq_true rfl) hM.k ⟨by decide, rfl⟩ hM.b rfl rfl (Nat.le_of_ble_eq_true rfl) ⟨Nat.le_refl _, Nat.le_refl _⟩ ?_
      refine aw_aload_n dX11_unbid_54 rfl ?_
      refine aw_aload_n dX11_unbid_55 rfl ?_
      refine aw_iload_n dX11_unbid_56 rfl ?_
      refine aw_bipush (v := 10) dX11_unbid_57 rfl ?_
      refine aw_cV dX11_unbid_59 kX11_205 mX11_of (rX11_of (p := p) (w := 10) hM upA_self rfl rfl (by omega)) (Nat.le_of_ble_eq_true rfl) hM.k ⟨by decide, rfl⟩ hM.b rfl rfl (Nat.le_of_ble_eq_true rfl) ⟨Nat.le_refl _, Nat.le_refl _⟩ ?_
      refine aw_cS dX11_unbid_62 kX11_222 mX11_bits (sX11_bits (v := nBi (mDropB N p h) p) (cD.bi hp8) (cD.bi10 hp8)) (Nat.le_of_ble_eq_true rfl) rfl rfl (Nat.le_of_ble_eq_true rfl) ⟨Nat.le_refl _, Nat.le_refl _⟩ ?_
      refine aw_cV dX11_unbid_65 kX11_199 mX11_gives (sX11_gives hM) (Nat.le_of_ble_eq_true rfl) hM.k ⟨by decide, rfl⟩ hM.b rfl rfl (Nat.le_of_ble_eq_true rfl) ⟨Nat.le_refl _, Nat.le_refl _⟩ ?_
      refine aw_iret q rfl dX11_unbid_68 ⟨Nat.le_refl _, Nat.le_refl _⟩ ?_
      exact AcS.ok (by simp [aUnbid, f6, ep, eh, f21, mDropB, iDrop]) RSc.rf
    · refine aw_aload_n dX11_unbid_24 rfl ?_
      refine aw_iconst (v := 5) dX11_unbid_25 rfl ?_
      refine aw_cV dX11_unbid_26 kX11_186 mX11_refuse (sX11_refuse hM) (Nat.le_of_ble_eq_true rfl) hM.k ⟨by decide, rfl⟩ hM.b rfl rfl (Nat.le_of_ble_eq_true rfl) ⟨Nat.le_refl _, Nat.le_refl _⟩ ?_
      refine aw_iret q rfl dX11_unbid_29 ⟨Nat.le_refl _, Nat.le_refl _⟩ ?_
      exact AcS.no (by simp [aUnbid, f6, ep, eh, bI0.mp c21]) RSc.rf
  · refine aw_aload_n dX11_unbid_9 rfl ?_
    refine aw_iconst (v := 2) dX11_unbid_10 rfl ?_
    refine aw_cV dX11_unbid_11 kX11_186 mX11_refuse (sX11_refuse hM) (Nat.le_of_ble_eq_true rfl) hM.k ⟨by decide, rfl⟩ hM.b rfl rfl (Nat.le_of_ble_eq_true rfl) ⟨Nat.le_refl _, Nat.le_refl _⟩ ?_
    refine aw_iret q rfl dX11_unbid_14 ⟨Nat.le_refl _, Nat.le_refl _⟩ ?_
    exact AcS.no (by simp [aUnbid, bI0.mp c6]) RSc.rf
set_option maxHeartbeats 4000000 in
set_option maxRecDepth 100000 in
theorem rX11_auto (hM : IsM n sh m) {N : Nat → Int32} (hI : I (m + 1) = N) (hN : Cn N) (hl : Lo N) {ac : Nat} (ha : I m 12 = nI ac) (hac : ac ≤ 12)  : CM yX11_auto cX11_auto 2 (Option.some .int) 7 0 0 [.ref m] z n sh I L (AcS (aAuto N) z n sh I L m N ac) := by
  refine CM.go [some (.ref m), none] rfl rfl (Nat.le_of_ble_eq_true rfl) (fun X g q => ?_)
  refine aw_aload_n dX11_auto_0 rfl ?_
  refine aw_getR (b := m + 1) dX11_auto_1 fX11_7 hM.k hM.b rfl hM.r0 ?_
  refine aw_aload_n dX11_auto_4 rfl ?_
  refine aw_getR (b := m + 3) dX11_auto_5 fX11_16 hM.k hM.b rfl hM.r2 ?_
  refine aw_cS dX11_auto_8 kX11_192 mX11_copies (rX11_copies (a := m + 1) (b := m + 3) hM.k0 hM.b0 hM.l0 hM.k2 hM.b2 hM.l2 (by omega)) (Nat.le_of_ble_eq_true rfl) rfl rfl (Nat.le_of_ble_eq_true rfl) ⟨Nat.le_refl _, Nat.le_refl _⟩ ?_
  refine AW.mem (I2 := sv I m N) (by unfold sv; rw [hI]) ?_
  refine aw_aload_n dX11_auto_11 rfl ?_
  refine aw_cV dX11_auto_12 kX11_325 mX11_allBid (rX11_allBid hM (sv_now hI) hN hl) (Nat.le_of_ble_eq_true rfl) hM.k ⟨by decide, rfl⟩ hM.b rfl rfl (Nat.le_of_ble_eq_true rfl) ⟨Nat.le_refl _, Nat.le_refl _⟩ ?_
  refine aw_istore_n dX11_auto_15 (by decide) rfl ?_
  refine aw_aload_n dX11_auto_16 rfl ?_
  refine aw_getR (b := m + 3) dX11_auto_17 fX11_16 hM.k hM.b rfl hM.r2 ?_
  refine aw_aload_n dX11_auto_20 rfl ?_
  refine aw_getR (b := m + 1) dX11_auto_21 fX11_7 hM.k hM.b rfl hM.r0 ?_
  refine aw_cS dX11_auto_24 kX11_192 mX11_copies (rX11_copies (a := m + 3) (b := m + 1) hM.k2 hM.b2 hM.l2 hM.k0 hM.b0 hM.l0 (by omega)) (Nat.le_of_ble_eq_true rfl) rfl rfl (Nat.le_of_ble_eq_true rfl) ⟨Nat.le_refl _, Nat.le_refl _⟩ ?_
  refine AW.mem (I2 := sv I m N) (sv_back hI (fun j hj => (allBid_inv ⟨hN, hl, hN.o30⟩).2 j (fun q hq => by omega))) ?_
  refine aw_iload_n dX11_auto_27 rfl ?_
  refine aw_if_ne (tgt := 37) dX11_auto_28 rfl (fun c28 => ?_) (fun c28 => ?_)
  · refine aw_aload_n dX11_auto_37 rfl ?_
    refine aw_cV dX11_auto_38 kX11_389 mX11_keeps (rX11_keeps hM (sv_now hI) (by unfold sv; rw [upA_ne (by omega)]; exact ha) hac) (Nat.le_of_ble_eq_true rfl) hM.k ⟨by decide, rfl⟩ hM.b rfl rfl (Nat.le_of_ble_eq_true rfl) ⟨Nat.le_refl _, Nat.le_refl _⟩ ?_
    refine aw_aload_n dX11_auto_41 rfl ?_
    refine aw_aload_n dX11_auto_42 rfl ?_
    refine aw_cV dX11_auto_43 kX11_325 mX11_allBid (rX11_allBid hM (Kp_now (sv_now hI)) hN hl) (Nat.le_of_ble_eq_true rfl) hM.k ⟨by decide, rfl⟩ hM.b rfl rfl (Nat.le_of_ble_eq_true rfl) ⟨Nat.le_refl _, Nat.le_refl _⟩ ?_
    refine aw_cV dX11_auto_46 kX11_199 mX11_gives (sX11_gives hM) (Nat.le_of_ble_eq_true rfl) hM.k ⟨by decide, rfl⟩ hM.b rfl rfl (Nat.le_of_ble_eq_true rfl) ⟨Nat.le_refl _, Nat.le_refl _⟩ ?_
    refine aw_iret q rfl dX11_auto_49 ⟨Nat.le_refl _, Nat.le_refl _⟩ ?_
    exact AcS.ok (by simp [aAuto, c28]) RSc.svd
  · refine aw_aload_n dX11_auto_31 rfl ?_
    refine aw_iconst (v := 4) dX11_auto_32 rfl ?_
    refine aw_cV dX11_auto_33 kX11_186 mX11_refuse (sX11_refuse hM) (Nat.le_of_ble_eq_true rfl) hM.k ⟨by decide, rfl⟩ hM.b rfl rfl (Nat.le_of_ble_eq_true rfl) ⟨Nat.le_refl _, Nat.le_refl _⟩ ?_
    refine aw_iret q rfl dX11_auto_36 ⟨Nat.le_refl _, Nat.le_refl _⟩ ?_
    exact AcS.no (by simp [aAuto, c28]) RSc.svd
set_option maxHeartbeats 4000000 in
set_option maxRecDepth 100000 in
theorem rX11_week (hM : IsM n sh m) {N : Nat → Int32} (hI : I (m + 1) = N) (hN : Cn N) (hl : Lo N) {ac : Nat} (ha : I m 12 = nI ac) (hac : ac ≤ 12)  : CM yX11_week cX11_week 1 (Option.some .int) 9 0 0 [.ref m] z n sh I L (AcS (aWeek N) z n sh I L m N ac) := by
  refine CM.go [some (.ref m)] rfl rfl (Nat.le_of_ble_eq_true rfl) (fun X g q => ?_)
  refine aw_aload_n dX11_week_0 rfl ?_
  refine aw_getR (b := m + 1) dX11_week_1 fX11_7 hM.k hM.b rfl hM.r0 ?_
  refine aw_sipush (v := 232) dX11_week_4 rfl ?_
  refine aw_ialdH (k := 232) hI dX11_week_7 hM.k0 hM.b0 hM.l0 rfl (by decide) (by decide) ?_
  refine aw_sipush (v := 999) dX11_week_8 rfl ?_
  refine aw_icmp_ne (tgt := 20) dX11_week_11 rfl (fun c11 => ?_) (fun c11 => ?_)
  · refine aw_aload_n dX11_week_20 rfl ?_
    refine aw_cV dX11_week_21 kX11_389 mX11_keeps (rX11_keeps hM hI ha hac) (Nat.le_of_ble_eq_true rfl) hM.k ⟨by decide, rfl⟩ hM.b rfl rfl (Nat.le_of_ble_eq_true rfl) ⟨Nat.le_refl _, Nat.le_refl _⟩ ?_
    refine aw_aload_n dX11_week_24 rfl ?_
    refine aw_aload_n dX11_week_25 rfl ?_
    refine aw_cV dX11_week_26 kX11_328 mX11_weekEnds (rX11_weekEnds hM (Kp_now hI) hN hl) (Nat.le_of_ble_eq_true rfl) hM.k ⟨by decide, rfl⟩ hM.b rfl rfl (Nat.le_of_ble_eq_true rfl) ⟨Nat.le_refl _, Nat.le_refl _⟩ ?_
    refine aw_cV dX11_week_29 kX11_199 mX11_gives (sX11_gives hM) (Nat.le_of_ble_eq_true rfl) hM.k ⟨by decide, rfl⟩ hM.b rfl rfl (Nat.le_of_ble_eq_true rfl) ⟨Nat.le_refl _, Nat.le_refl _⟩ ?_
    refine aw_iret q rfl dX11_week_32 ⟨Nat.le_refl _, Nat.le_refl _⟩ ?_
    exact AcS.ok (by simp [aWeek, c11]) RSc.rf
  · refine aw_aload_n dX11_week_14 rfl ?_
    refine aw_iconst (v := 3) dX11_week_15 rfl ?_
    refine aw_cV dX11_week_16 kX11_186 mX11_refuse (sX11_refuse hM) (Nat.le_of_ble_eq_true rfl) hM.k ⟨by decide, rfl⟩ hM.b rfl rfl (Nat.le_of_ble_eq_true rfl) ⟨Nat.le_refl _, Nat.le_refl _⟩ ?_
    refine aw_iret q rfl dX11_week_19 ⟨Nat.le_refl _, Nat.le_refl _⟩ ?_
    exact AcS.no (by simp [aWeek, c11]) RSc.rf
set_option maxHeartbeats 4000000 in
set_option maxRecDepth 100000 in
theorem rX11_wish (hM : IsM n sh m) {N : Nat → Int32} (hI : I (m + 1) = N) (hN : Cn N) {ac : Nat} (ha : I m 12 = nI ac) (hac : ac ≤ 12) {x y : Int32} : CM yX11_wish cX11_wish 4 (Option.some .int) 4 0 0 [.ref m, .int x, .int y] z n sh I L (AcS (aWish N x y) z n sh I L m N ac) := by
  refine CM.go [some (.ref m), some (.int x), some (.int y), none] rfl rfl (Nat.le_of_ble_eq_true rfl) (fun X g q => ?_)
  refine aw_aload_n dX11_wish_0 rfl ?_
  refine aw_iload_n dX11_wish_1 rfl ?_
  refine aw_iload_n dX11_wish_2 rfl ?_
  refine aw_cV dX11_wish_3 kX11_253 mX11_areOnes (rX11_areOnes hM hI) (Nat.le_of_ble_eq_true rfl) hM.k ⟨by decide, rfl⟩ hM.b rfl rfl (Nat.le_of_ble_eq_true rfl) ⟨Nat.le_refl _, Nat.le_refl _⟩ ?_
  refine aw_if_ne (tgt := 15) dX11_wish_6 rfl (fun c6 => ?_) (fun c6 => ?_)
  · have f6 := bI1.mp c6
    obtain ⟨p, h, hpn, hhn, hp8, hh10, rfl, rfl, ep, eh⟩ := ones_ix hN f6
    refine aw_aload_n dX11_wish_15 rfl ?_
    refine aw_iload_n dX11_wish_16 rfl ?_
    refine aw_iload_n dX11_wish_17 rfl ?_
    refine aw_cV dX11_wish_18 kX11_216 mX11_wishOf (rX11_wishOf (p := p) hM hI rfl hp8 (hN.w hp8) (hN.w6 hp8)) (Nat.le_of_ble_eq_true rfl) hM.k ⟨by decide, rfl⟩ hM.b rfl rfl (Nat.le_of_ble_eq_true rfl) ⟨Nat.le_refl _, Nat.le_refl _⟩ ?_
    refine aw_iconst (v := (-1)) dX11_wish_21 rfl ?_
    refine aw_icmp_eq (tgt := 31) dX11_wish_22 rfl (fun c22 => ?_) (fun c22 => ?_)
    · refine aw_aload_n dX11_wish_31 rfl ?_
      refine aw_iload_n dX11_wish_32 rfl ?_
      refine aw_bipush (v := 11) dX11_wish_33 rfl ?_
      refine aw_cV dX11_wish_35 kX11_205 mX11_of (rX11_of (p := p) (w := 11) hM hI rfl rfl (by omega)) (Nat.le_of_ble_eq_true rfl) hM.k ⟨by decide, rfl⟩ hM.b rfl rfl (Nat.le_of_ble_eq_true rfl) ⟨Nat.le_refl _, Nat.le_refl _⟩ ?_
      rw [hN.w hp8]
      refine aw_istore_n dX11_wish_38 (by decide) rfl ?_
      refine aw_iload_n dX11_wish_39 rfl ?_
      refine aw_bipush (v := 6) dX11_wish_40 rfl ?_
      refine aw_icmp_ne (tgt := 51) dX11_wish_42 rfl (fun c42 => ?_) (fun c42 => ?_)
      · have w6 := hN.w6 hp8
        have wne : ¬ nWi N p = 6 := fun e => c42 (by rw [e]; rfl)
        refine aw_aload_n dX11_wish_51 rfl ?_
        refine aw_cV dX11_wish_52 kX11_389 mX11_keeps (rX11_keeps hM hI ha hac) (Nat.le_of_ble_eq_true rfl) hM.k ⟨by decide, rfl⟩ hM.b rfl rfl (Nat.le_of_ble_eq_true rfl) ⟨Nat.le_refl _, Nat.le_refl _⟩ ?_
        refine aw_aload_n dX11_wish_55 rfl ?_
        refine aw_iload_n dX11_wish_56 rfl ?_
        refine aw_bipush (v := 12) dX11_wish_57 rfl ?_
        refine aw_iload_n dX11_wish_59 rfl ?_
        refine aw_iadd dX11_wish_60 ?_
        refine AW.top (gadd rfl rfl) ?_
        refine aw_iload_n dX11_wish_61 rfl ?_
        refine aw_cV dX11_wish_62 kX11_289 mX11_puts (rX11_puts (p := p) (w := 12 + nWi N p) hM (Kp_now hI) rfl rfl (by omega)) (Nat.le_of_ble_eq_true rfl) hM.k ⟨by decide, rfl⟩ hM.b rfl rfl (Nat.le_of_ble_eq_true rfl) ⟨Nat.le_refl _, Nat.le_refl _⟩ ?_
        refine aw_aload_n dX11_wish_65 rfl ?_
        refine aw_iload_n dX11_wish_66 rfl ?_
        refine aw_bipush (v := 11) dX11_wish_67 rfl ?_
        refine aw_iload_n dX11_wish_69 rfl ?_
        refine aw_iconst (v := 1) dX11_wish_70 rfl ?_
        refine aw_iadd dX11_wish_71 ?_
        refine AW.top (gadd rfl rfl) ?_
        refine aw_cV dX11_wish_72 kX11_289 mX11_puts (rX11_puts (p := p) (w := 11) hM upA_self rfl rfl (by omega)) (Nat.le_of_ble_eq_true rfl) hM.k ⟨by decide, rfl⟩ hM.b rfl rfl (Nat.le_of_ble_eq_true rfl) ⟨Nat.le_refl _, Nat.le_refl _⟩ ?_
        refine aw_aload_n dX11_wish_75 rfl ?_
        refine aw_iload_n dX11_wish_76 rfl ?_
        refine aw_iconst (v := 1) dX11_wish_77 rfl ?_
        refine aw_iadd dX11_wish_78 ?_
        refine AW.top (gadd rfl rfl) ?_
        refine aw_cV dX11_wish_79 kX11_199 mX11_gives (sX11_gives hM) (Nat.le_of_ble_eq_true rfl) hM.k ⟨by decide, rfl⟩ hM.b rfl rfl (Nat.le_of_ble_eq_true rfl) ⟨Nat.le_refl _, Nat.le_refl _⟩ ?_
        refine aw_iret q rfl dX11_wish_82 ⟨Nat.le_refl _, Nat.le_refl _⟩ ?_
        have e6 : ¬ N (80 + 18 * p + 11) = 6 := by rw [hN.w hp8]; exact c42
        have e9 : upA (upA (Kp I m N ac) (m + 1) (mPuts N p (12 + nWi N p) (nI h))) (m + 1) (mPuts (mPuts N p (12 + nWi N p) (nI h)) p 11 (nI (nWi N p + 1))) = upA (Kp I m N ac) (m + 1) (wishN N p h) := upA_upA
        rw [e9]
        exact AcS.ok (by simp [aWish, f6, ep, eh, c22, e6]) RSc.rf
      · 
        refine aw_aload_n dX11_wish_45 rfl ?_
        refine aw_iconst (v := 3) dX11_wish_46 rfl ?_
        refine aw_cV dX11_wish_47 kX11_186 mX11_refuse (sX11_refuse hM) (Nat.le_of_ble_eq_true rfl) hM.k ⟨by decide, rfl⟩ hM.b rfl rfl (Nat.le_of_ble_eq_true rfl) ⟨Nat.le_refl _, Nat.le_refl _⟩ ?_
        refine aw_iret q rfl dX11_wish_50 ⟨Nat.le_refl _, Nat.le_refl _⟩ ?_
        have e6 : N (80 + 18 * p + 11) = 6 := by rw [hN.w hp8]; exact c42
        exact AcS.no (by simp [aWish, f6, ep, c22, e6]) RSc.rf
    · refine aw_aload_n dX11_wish_25 rfl ?_
      refine aw_iconst (v := 4) dX11_wish_26 rfl ?_
      refine aw_cV dX11_wish_27 kX11_186 mX11_refuse (sX11_refuse hM) (Nat.le_of_ble_eq_true rfl) hM.k ⟨by decide, rfl⟩ hM.b rfl rfl (Nat.le_of_ble_eq_true rfl) ⟨Nat.le_refl _, Nat.le_refl _⟩ ?_
      refine aw_iret q rfl dX11_wish_30 ⟨Nat.le_refl _, Nat.le_refl _⟩ ?_
      exact AcS.no (by simp [aWish, f6, ep, eh, c22]) RSc.rf
  · refine aw_aload_n dX11_wish_9 rfl ?_
    refine aw_iconst (v := 2) dX11_wish_10 rfl ?_
    refine aw_cV dX11_wish_11 kX11_186 mX11_refuse (sX11_refuse hM) (Nat.le_of_ble_eq_true rfl) hM.k ⟨by decide, rfl⟩ hM.b rfl rfl (Nat.le_of_ble_eq_true rfl) ⟨Nat.le_refl _, Nat.le_refl _⟩ ?_
    refine aw_iret q rfl dX11_wish_14 ⟨Nat.le_refl _, Nat.le_refl _⟩ ?_
    exact AcS.no (by simp [aWish, bI0.mp c6]) RSc.rf
set_option maxHeartbeats 4000000 in
set_option maxRecDepth 100000 in
theorem rX11_dropsBid (hM : IsM n sh m) {N : Nat → Int32} (hI : I (m + 1) = N) {x y : Int32} {p h : Nat} (hx : x = nI p) (hy : y = nI h) (hp : p < 8) : CM yX11_dropsBid cX11_dropsBid 3 (Option.none : Option FieldType) 3 0 0 [.ref m, .int x, .int y] z n sh I L (Pst none z n sh (upA I (m + 1) (mDropB N p h)) L) := by
  refine CM.go [some (.ref m), some (.int x), some (.int y)] rfl rfl (Nat.le_of_ble_eq_true rfl) (fun X g q => ?_)
  refine aw_aload_n dX11_dropsBid_0 rfl ?_
  refine aw_iload_n dX11_dropsBid_1 rfl ?_
  refine aw_bipush (v := 10) dX11_dropsBid_2 rfl ?_
  refine aw_aload_n dX11_dropsBid_4 rfl ?_
  refine aw_iload_n dX11_dropsBid_5 rfl ?_
  refine aw_bipush (v := 10) dX11_dropsBid_6 rfl ?_
  refine aw_cV dX11_dropsBid_8 kX11_205 mX11_of (rX11_of (p := p) (w := 10) hM hI hx rfl (by omega)) (Nat.le_of_ble_eq_true rfl) hM.k ⟨by decide, rfl⟩ hM.b rfl rfl (Nat.le_of_ble_eq_true rfl) ⟨Nat.le_refl _, Nat.le_refl _⟩ ?_
  refine aw_iconst (v := 1) dX11_dropsBid_11 rfl ?_
  refine aw_iload_n dX11_dropsBid_12 rfl ?_
  refine aw_ishl dX11_dropsBid_13 ?_
  refine aw_iconst (v := (-1)) dX11_dropsBid_14 rfl ?_
  refine aw_ixor dX11_dropsBid_15 ?_
  refine aw_iand dX11_dropsBid_16 ?_
  refine aw_cV dX11_dropsBid_17 kX11_289 mX11_puts (rX11_puts (p := p) (w := 10) hM hI hx rfl (by omega)) (Nat.le_of_ble_eq_true rfl) hM.k ⟨by decide, rfl⟩ hM.b rfl rfl (Nat.le_of_ble_eq_true rfl) ⟨Nat.le_refl _, Nat.le_refl _⟩ ?_
  refine aw_vret q rfl dX11_dropsBid_20 ⟨Nat.le_refl _, Nat.le_refl _⟩ ?_
  subst hy
  exact Pst.rf
set_option maxHeartbeats 4000000 in
set_option maxRecDepth 100000 in
theorem rX11_shut (hM : IsM n sh m) {N : Nat → Int32} (hI : I (m + 1) = N) (hN : Cn N) (hl : Lo N) {ac : Nat} (ha : I m 12 = nI ac) (hac : ac ≤ 12) {x t : Int32} : CM yX11_shut cX11_shut 4 (Option.some .int) 4 0 0 [.ref m, .int x, .int t] z n sh I L (AcS (aShut N x t) z n sh I L m N ac) := by
  refine CM.go [some (.ref m), some (.int x), some (.int t), none] rfl rfl (Nat.le_of_ble_eq_true rfl) (fun X g q => ?_)
  refine aw_aload_n dX11_shut_0 rfl ?_
  refine aw_iload_n dX11_shut_1 rfl ?_
  refine aw_cV dX11_shut_2 kX11_238 mX11_isHome (rX11_isHome hM hI) (Nat.le_of_ble_eq_true rfl) hM.k ⟨by decide, rfl⟩ hM.b rfl rfl (Nat.le_of_ble_eq_true rfl) ⟨Nat.le_refl _, Nat.le_refl _⟩ ?_
  refine aw_if_ne (tgt := 14) dX11_shut_5 rfl (fun c5 => ?_) (fun c5 => ?_)
  · have f5 := bI1.mp c5
    obtain ⟨h, hhn, rfl⟩ := from_ix hN.h (by have := hN.h10; omega) f5
    have hh10 : h < 10 := by have := hN.h10; omega
    have eh := nI_clamp (show h < 2 ^ 31 by omega)
    refine aw_aload_n dX11_shut_14 rfl ?_
    refine aw_iload_n dX11_shut_15 rfl ?_
    refine aw_bipush (v := 6) dX11_shut_16 rfl ?_
    refine aw_cV dX11_shut_18 kX11_202 mX11_home0 (rX11_home0 (h := h) (w := 6) hM hI rfl rfl (by omega)) (Nat.le_of_ble_eq_true rfl) hM.k ⟨by decide, rfl⟩ hM.b rfl rfl (Nat.le_of_ble_eq_true rfl) ⟨Nat.le_refl _, Nat.le_refl _⟩ ?_
    refine aw_iconst (v := 1) dX11_shut_21 rfl ?_
    refine awt_icmp_ne (A := 1) (B := 0) dX11_shut_22 dX11_shut_25 dX11_shut_26 dX11_shut_29 rfl rfl ?_
    refine aw_iload_n dX11_shut_30 rfl ?_
    refine aw_icmp_ne (tgt := 40) dX11_shut_31 rfl (fun c31 => ?_) (fun c31 => ?_)
    · refine aw_aload_n dX11_shut_40 rfl ?_
      refine aw_cV dX11_shut_41 kX11_389 mX11_keeps (rX11_keeps hM hI ha hac) (Nat.le_of_ble_eq_true rfl) hM.k ⟨by decide, rfl⟩ hM.b rfl rfl (Nat.le_of_ble_eq_true rfl) ⟨Nat.le_refl _, Nat.le_refl _⟩ ?_
      refine aw_aload_n dX11_shut_44 rfl ?_
      refine aw_iload_n dX11_shut_45 rfl ?_
      refine aw_bipush (v := 6) dX11_shut_46 rfl ?_
      refine aw_iload_n dX11_shut_48 rfl ?_
      refine awt_if_eq (A := 1) (B := 0) dX11_shut_49 dX11_shut_52 dX11_shut_53 dX11_shut_56 rfl rfl ?_
      refine aw_cV dX11_shut_57 kX11_293 mX11_putsHome (rX11_putsHome (h := h) (w := 6) hM (Kp_now hI) rfl rfl (by omega)) (Nat.le_of_ble_eq_true rfl) hM.k ⟨by decide, rfl⟩ hM.b rfl rfl (Nat.le_of_ble_eq_true rfl) ⟨Nat.le_refl _, Nat.le_refl _⟩ ?_
      refine aw_iconst (v := 0) dX11_shut_60 rfl ?_
      refine aw_istore_n dX11_shut_61 (by decide) rfl ?_
      have w1 : Wk (mPutsH N h 6 (if t = 0 then 0 else 1)) 30 := Wk.putsH ⟨hN, hl, hN.o30⟩ hh10 (by decide) (by decide)
      have h8 := hN.p8
      have loop : ∀ i, i ≤ nPo N → AW X g RX11 cX11_shut 4 (4, 0, 0) (z, n, sh, 0, 0) (upA (Kp I m N ac) (m + 1) (shuL (mPutsH N h 6 (if t = 0 then 0 else 1)) h i)) (L) 62 [some (.ref m), some (.int (nI h)), some (.int t), some (.int (nI i))] [] := by
        refine up_loop (fun i hi ih => ?_)
        obtain ⟨wI, e1, e0⟩ := shuL_Wk w1 hh10 i (by omega)
        rw [show mPutsH N h 6 (if t = 0 then 0 else 1) 231 = N 231 from upd_ne (by omega)] at e1
        refine aw_iload_n dX11_shut_62 rfl ?_
        refine aw_aload_n dX11_shut_63 rfl ?_
        refine aw_getR (b := m + 1) dX11_shut_64 fX11_7 hM.k hM.b rfl hM.r0 ?_
        refine aw_sipush (v := 231) dX11_shut_67 rfl ?_
        refine aw_ialdH (k := 231) upA_self dX11_shut_70 hM.k0 hM.b0 hM.l0 rfl (by decide) (by decide) ?_
        rw [e1]
        refine aw_icmp_ge (tgt := 86) dX11_shut_71 rfl (fun c71 => ?_) (fun c71 => ?_)
        · have e := ge_t hN.p (by omega) hi c71
          subst e
          refine aw_aload_n dX11_shut_86 rfl ?_
          refine aw_aload_n dX11_shut_87 rfl ?_
          refine aw_cV dX11_shut_88 kX11_228 mX11_freeOnes (rX11_freeOnes hM upA_self wI.1) (Nat.le_of_ble_eq_true rfl) hM.k ⟨by decide, rfl⟩ hM.b rfl rfl (Nat.le_of_ble_eq_true rfl) ⟨Nat.le_refl _, Nat.le_refl _⟩ ?_
          refine aw_cV dX11_shut_91 kX11_199 mX11_gives (sX11_gives hM) (Nat.le_of_ble_eq_true rfl) hM.k ⟨by decide, rfl⟩ hM.b rfl rfl (Nat.le_of_ble_eq_true rfl) ⟨Nat.le_refl _, Nat.le_refl _⟩ ?_
          refine aw_iret q rfl dX11_shut_94 ⟨Nat.le_refl _, Nat.le_refl _⟩ ?_
          refine AcS.ok ?_ RSc.rf
          simp [aShut, f5, eh, c31, shuN, mFrees]
        · have hlt := ge_f hN.p (by omega) hi c71
          refine aw_aload_n dX11_shut_74 rfl ?_
          refine aw_iload_n dX11_shut_75 rfl ?_
          refine aw_iload_n dX11_shut_76 rfl ?_
          refine aw_cV dX11_shut_77 kX11_392 mX11_dropsBid (rX11_dropsBid (p := i) (h := h) hM upA_self rfl rfl (by omega)) (Nat.le_of_ble_eq_true rfl) hM.k ⟨by decide, rfl⟩ hM.b rfl rfl (Nat.le_of_ble_eq_true rfl) ⟨Nat.le_refl _, Nat.le_refl _⟩ ?_
          refine aw_iinc dX11_shut_80 rfl (ginc rfl) (by decide) rfl ?_
          refine aw_goto (tgt := 62) dX11_shut_83 rfl ?_
          refine AW.mem ?_ (ih hlt)
          rw [shuL, upA_upA]
      exact loop 0 (Nat.zero_le _)
    · refine aw_aload_n dX11_shut_34 rfl ?_
      refine aw_iconst (v := 4) dX11_shut_35 rfl ?_
      refine aw_cV dX11_shut_36 kX11_186 mX11_refuse (sX11_refuse hM) (Nat.le_of_ble_eq_true rfl) hM.k ⟨by decide, rfl⟩ hM.b rfl rfl (Nat.le_of_ble_eq_true rfl) ⟨Nat.le_refl _, Nat.le_refl _⟩ ?_
      refine aw_iret q rfl dX11_shut_39 ⟨Nat.le_refl _, Nat.le_refl _⟩ ?_
      exact AcS.no (by simp [aShut, f5, eh, c31]) RSc.rf
  · refine aw_aload_n dX11_shut_8 rfl ?_
    refine aw_iconst (v := 2) dX11_shut_9 rfl ?_
    refine aw_cV dX11_shut_10 kX11_186 mX11_refuse (sX11_refuse hM) (Nat.le_of_ble_eq_true rfl) hM.k ⟨by decide, rfl⟩ hM.b rfl rfl (Nat.le_of_ble_eq_true rfl) ⟨Nat.le_refl _, Nat.le_refl _⟩ ?_
    refine aw_iret q rfl dX11_shut_13 ⟨Nat.le_refl _, Nat.le_refl _⟩ ?_
    exact AcS.no (by simp [aShut, bI0.mp c5]) RSc.rf
set_option maxHeartbeats 4000000 in
set_option maxRecDepth 100000 in
theorem rX11_need (hM : IsM n sh m) {N : Nat → Int32} (hI : I (m + 1) = N) (hN : Cn N) (hl : Lo N) {ac : Nat} (ha : I m 12 = nI ac) (hac : ac ≤ 12) {x v : Int32} : CM yX11_need cX11_need 5 (Option.some .int) 4 0 0 [.ref m, .int x, .int v] z n sh I L (AcS (aNeed N x v) z n sh I L m N ac) := by
  refine CM.go [some (.ref m), some (.int x), some (.int v), none, none] rfl rfl (Nat.le_of_ble_eq_true rfl) (fun X g q => ?_)
  refine aw_iload_n dX11_need_0 rfl ?_
  refine aw_iconst (v := 1) dX11_need_1 rfl ?_
  refine aw_iconst (v := 4) dX11_need_2 rfl ?_
  refine aw_cS dX11_need_3 kX11_71 mX11_isFrom (sX11_isFrom hM) (Nat.le_of_ble_eq_true rfl) rfl rfl (Nat.le_of_ble_eq_true rfl) ⟨Nat.le_refl _, Nat.le_refl _⟩ ?_
  refine aw_if_ne (tgt := 15) dX11_need_6 rfl (fun c6 => ?_) (fun c6 => ?_)
  · have f6 := bI1.mp c6
    refine aw_aload_n dX11_need_15 rfl ?_
    refine aw_iload_n dX11_need_16 rfl ?_
    refine aw_cV dX11_need_17 kX11_244 mX11_isHouse (rX11_isHouse hM hI) (Nat.le_of_ble_eq_true rfl) hM.k ⟨by decide, rfl⟩ hM.b rfl rfl (Nat.le_of_ble_eq_true rfl) ⟨Nat.le_refl _, Nat.le_refl _⟩ ?_
    refine aw_if_ne (tgt := 29) dX11_need_20 rfl (fun c20 => ?_) (fun c20 => ?_)
    · have f20 := bI1.mp c20
      obtain ⟨p, hpn, rfl⟩ := from_ix hN.p (by have := hN.p8; omega) f20
      have hp8 : p < 8 := by have := hN.p8; omega
      have ep := nI_clamp (show p < 2 ^ 31 by omega)
      refine aw_aload_n dX11_need_29 rfl ?_
      refine aw_iload_n dX11_need_30 rfl ?_
      refine aw_iconst (v := 1) dX11_need_31 rfl ?_
      refine aw_cV dX11_need_32 kX11_205 mX11_of (rX11_of (p := p) (w := 1) hM hI rfl rfl (by omega)) (Nat.le_of_ble_eq_true rfl) hM.k ⟨by decide, rfl⟩ hM.b rfl rfl (Nat.le_of_ble_eq_true rfl) ⟨Nat.le_refl _, Nat.le_refl _⟩ ?_
      refine aw_istore_n dX11_need_35 (by decide) rfl ?_
      refine aw_iload_n dX11_need_36 rfl ?_
      refine aw_iload_n dX11_need_37 rfl ?_
      refine aw_icmp_ne (tgt := 47) dX11_need_38 rfl (fun c38 => ?_) (fun c38 => ?_)
      · refine aw_aload_n dX11_need_47 rfl ?_
        refine aw_cV dX11_need_48 kX11_389 mX11_keeps (rX11_keeps hM hI ha hac) (Nat.le_of_ble_eq_true rfl) hM.k ⟨by decide, rfl⟩ hM.b rfl rfl (Nat.le_of_ble_eq_true rfl) ⟨Nat.le_refl _, Nat.le_refl _⟩ ?_
        refine aw_aload_n dX11_need_51 rfl ?_
        refine aw_iload_n dX11_need_52 rfl ?_
        refine aw_iconst (v := 1) dX11_need_53 rfl ?_
        refine aw_iload_n dX11_need_54 rfl ?_
        refine aw_cV dX11_need_55 kX11_289 mX11_puts (rX11_puts (p := p) (w := 1) hM (Kp_now hI) rfl rfl (by omega)) (Nat.le_of_ble_eq_true rfl) hM.k ⟨by decide, rfl⟩ hM.b rfl rfl (Nat.le_of_ble_eq_true rfl) ⟨Nat.le_refl _, Nat.le_refl _⟩ ?_
        refine aw_iconst (v := 0) dX11_need_58 rfl ?_
        refine aw_istore dX11_need_59 (by decide) rfl ?_
        have w1 : Wk (mPuts N p 1 v) 30 := Wk.puts ⟨hN, hl, hN.o30⟩ hp8 (by decide) (by decide) (by decide)
        have h10 := hN.h10
        have loop : ∀ i, i ≤ nHo N → AW X g RX11 cX11_need 5 (4, 0, 0) (z, n, sh, 0, 0) (upA (Kp I m N ac) (m + 1) (neeL (mPuts N p 1 v) p i)) (L) 61 [some (.ref m), some (.int (nI p)), some (.int v), some (.int (N (80 + 18 * p + 1))), some (.int (nI i))] [] := by
          refine up_loop (fun i hi ih => ?_)
          obtain ⟨wI, eI⟩ := neeL_Wk w1 hp8 i (by omega)
          refine aw_iload dX11_need_61 rfl ?_
          refine aw_aload_n dX11_need_63 rfl ?_
          refine aw_getR (b := m + 1) dX11_need_64 fX11_7 hM.k hM.b rfl hM.r0 ?_
          refine aw_sipush (v := 230) dX11_need_67 rfl ?_
          refine aw_ialdH (k := 230) upA_self dX11_need_70 hM.k0 hM.b0 hM.l0 rfl (by decide) (by decide) ?_
          rw [eI _ (by omega), show mPuts N p 1 v 230 = N 230 from upd_ne (by omega)]
          refine aw_icmp_ge (tgt := 97) dX11_need_71 rfl (fun c71 => ?_) (fun c71 => ?_)
          · have e := ge_t hN.h (by omega) hi c71
            subst e
            refine aw_aload_n dX11_need_97 rfl ?_
            refine aw_iload_n dX11_need_98 rfl ?_
            refine aw_cV dX11_need_99 kX11_199 mX11_gives (sX11_gives hM) (Nat.le_of_ble_eq_true rfl) hM.k ⟨by decide, rfl⟩ hM.b rfl rfl (Nat.le_of_ble_eq_true rfl) ⟨Nat.le_refl _, Nat.le_refl _⟩ ?_
            refine aw_iret q rfl dX11_need_102 ⟨Nat.le_refl _, Nat.le_refl _⟩ ?_
            exact AcS.ok (by simp [aNeed, f6, f20, ep, c38, neeN]) RSc.rf
          · have hlt := ge_f hN.h (by omega) hi c71
            refine aw_aload_n dX11_need_74 rfl ?_
            refine aw_iload_n dX11_need_75 rfl ?_
            refine aw_iload dX11_need_76 rfl ?_
            refine aw_cV dX11_need_78 kX11_250 mX11_doesFit (rX11_doesFit (p := p) (h := i) hM upA_self rfl rfl hp8 (by omega)) (Nat.le_of_ble_eq_true rfl) hM.k ⟨by decide, rfl⟩ hM.b rfl rfl (Nat.le_of_ble_eq_true rfl) ⟨Nat.le_refl _, Nat.le_refl _⟩ ?_
            rw [show mFit (neeL (mPuts N p 1 v) p i) p i = mFit (mPuts N p 1 v) p i from by unfold mFit; rw [eI _ (by omega), eI _ (by omega)]]
            refine aw_if_ne (tgt := 91) dX11_need_81 rfl (fun c81 => ?_) (fun c81 => ?_)
            · refine aw_iinc dX11_need_91 rfl (ginc rfl) (by decide) rfl ?_
              refine aw_goto (tgt := 61) dX11_need_94 rfl ?_
              have := ih hlt
              rw [neeL, if_pos (bI1.mp c81)] at this
              exact this
            · refine aw_aload_n dX11_need_84 rfl ?_
              refine aw_iload_n dX11_need_85 rfl ?_
              refine aw_iload dX11_need_86 rfl ?_
              refine aw_cV dX11_need_88 kX11_392 mX11_dropsBid (rX11_dropsBid (p := p) (h := i) hM upA_self rfl rfl hp8) (Nat.le_of_ble_eq_true rfl) hM.k ⟨by decide, rfl⟩ hM.b rfl rfl (Nat.le_of_ble_eq_true rfl) ⟨Nat.le_refl _, Nat.le_refl _⟩ ?_
              refine aw_iinc dX11_need_91 rfl (ginc rfl) (by decide) rfl ?_
              refine aw_goto (tgt := 61) dX11_need_94 rfl ?_
              have := ih hlt
              rw [neeL, if_neg (by rw [bI0.mp c81]; decide)] at this
              refine AW.mem ?_ this
              rw [upA_upA]
        exact loop 0 (Nat.zero_le _)
      · refine aw_aload_n dX11_need_41 rfl ?_
        refine aw_iconst (v := 4) dX11_need_42 rfl ?_
        refine aw_cV dX11_need_43 kX11_186 mX11_refuse (sX11_refuse hM) (Nat.le_of_ble_eq_true rfl) hM.k ⟨by decide, rfl⟩ hM.b rfl rfl (Nat.le_of_ble_eq_true rfl) ⟨Nat.le_refl _, Nat.le_refl _⟩ ?_
        refine aw_iret q rfl dX11_need_46 ⟨Nat.le_refl _, Nat.le_refl _⟩ ?_
        exact AcS.no (by simp [aNeed, f6, f20, ep, c38]) RSc.rf
    · refine aw_aload_n dX11_need_23 rfl ?_
      refine aw_iconst (v := 2) dX11_need_24 rfl ?_
      refine aw_cV dX11_need_25 kX11_186 mX11_refuse (sX11_refuse hM) (Nat.le_of_ble_eq_true rfl) hM.k ⟨by decide, rfl⟩ hM.b rfl rfl (Nat.le_of_ble_eq_true rfl) ⟨Nat.le_refl _, Nat.le_refl _⟩ ?_
      refine aw_iret q rfl dX11_need_28 ⟨Nat.le_refl _, Nat.le_refl _⟩ ?_
      exact AcS.no (by simp [aNeed, f6, bI0.mp c20]) RSc.rf
  · refine aw_aload_n dX11_need_9 rfl ?_
    refine aw_iconst (v := 1) dX11_need_10 rfl ?_
    refine aw_cV dX11_need_11 kX11_186 mX11_refuse (sX11_refuse hM) (Nat.le_of_ble_eq_true rfl) hM.k ⟨by decide, rfl⟩ hM.b rfl rfl (Nat.le_of_ble_eq_true rfl) ⟨Nat.le_refl _, Nat.le_refl _⟩ ?_
    refine aw_iret q rfl dX11_need_14 ⟨Nat.le_refl _, Nat.le_refl _⟩ ?_
    exact AcS.no (by simp [aNeed, bI0.mp c6]) RSc.rf
set_option maxHeartbeats 4000000 in
set_option maxRecDepth 100000 in
theorem rX11_rules (hM : IsM n sh m) {N : Nat → Int32} (hI : I (m + 1) = N) (hN : Cn N) {ac : Nat} (ha : I m 12 = nI ac) (hac : ac ≤ 12) {w v : Int32} : CM yX11_rules cX11_rules 4 (Option.some .int) 2 0 0 [.ref m, .int w, .int v] z n sh I L (AcS (aRules N w v) z n sh I L m N ac) := by
  refine CM.go [some (.ref m), some (.int w), some (.int v), none] rfl rfl (Nat.le_of_ble_eq_true rfl) (fun X g q => ?_)
  refine aw_iload_n dX11_rules_0 rfl ?_
  refine aw_iconst (v := 0) dX11_rules_1 rfl ?_
  refine aw_iconst (v := 5) dX11_rules_2 rfl ?_
  refine aw_cS dX11_rules_3 kX11_71 mX11_isFrom (sX11_isFrom hM) (Nat.le_of_ble_eq_true rfl) rfl rfl (Nat.le_of_ble_eq_true rfl) ⟨Nat.le_refl _, Nat.le_refl _⟩ ?_
  refine aw_if_eq (tgt := 24) dX11_rules_6 rfl (fun c6 => ?_) (fun c6 => ?_)
  · refine aw_aload_n dX11_rules_24 rfl ?_
    refine aw_iconst (v := 1) dX11_rules_25 rfl ?_
    refine aw_cV dX11_rules_26 kX11_186 mX11_refuse (sX11_refuse hM) (Nat.le_of_ble_eq_true rfl) hM.k ⟨by decide, rfl⟩ hM.b rfl rfl (Nat.le_of_ble_eq_true rfl) ⟨Nat.le_refl _, Nat.le_refl _⟩ ?_
    refine aw_iret q rfl dX11_rules_29 ⟨Nat.le_refl _, Nat.le_refl _⟩ ?_
    exact AcS.no (by simp [aRules, bI0.mp c6]) RSc.rf
  · have f6 := bI1.mp c6
    obtain ⟨r, hr, rfl⟩ := from_nI (B := 5) (by decide) f6
    have f7 : mFrom (nI r) 0 5 = true := f6
    have er := nI_clamp (show r < 2 ^ 31 by omega)
    refine aw_iload_n dX11_rules_9 rfl ?_
    refine aw_iload_n dX11_rules_10 rfl ?_
    refine aw_cS dX11_rules_11 kX11_171 mX11_leastOf (sX11_leastOf (r := r) rfl (by omega)) (Nat.le_of_ble_eq_true rfl) rfl rfl (Nat.le_of_ble_eq_true rfl) ⟨Nat.le_refl _, Nat.le_refl _⟩ ?_
    refine aw_iload_n dX11_rules_14 rfl ?_
    refine aw_cS dX11_rules_15 kX11_174 mX11_mostOf (sX11_mostOf (r := r) rfl (by omega)) (Nat.le_of_ble_eq_true rfl) rfl rfl (Nat.le_of_ble_eq_true rfl) ⟨Nat.le_refl _, Nat.le_refl _⟩ ?_
    refine aw_cS dX11_rules_18 kX11_71 mX11_isFrom (sX11_isFrom hM) (Nat.le_of_ble_eq_true rfl) rfl rfl (Nat.le_of_ble_eq_true rfl) ⟨Nat.le_refl _, Nat.le_refl _⟩ ?_
    refine aw_if_ne (tgt := 30) dX11_rules_21 rfl (fun c21 => ?_) (fun c21 => ?_)
    · have f21 := bI1.mp c21
      refine aw_aload_n dX11_rules_30 rfl ?_
      refine aw_getR (b := m + 1) dX11_rules_31 fX11_7 hM.k hM.b rfl hM.r0 ?_
      refine aw_sipush (v := 224) dX11_rules_34 rfl ?_
      refine aw_iload_n dX11_rules_37 rfl ?_
      refine aw_iadd dX11_rules_38 ?_
      refine aw_ialdH (k := (224 + r)) hI dX11_rules_39 hM.k0 hM.b0 hM.l0 (gadd rfl rfl) (by omega) (by decide) ?_
      refine aw_istore_n dX11_rules_40 (by decide) rfl ?_
      refine aw_iload_n dX11_rules_41 rfl ?_
      refine aw_iload_n dX11_rules_42 rfl ?_
      refine aw_icmp_ne (tgt := 52) dX11_rules_43 rfl (fun c43 => ?_) (fun c43 => ?_)
      · refine aw_aload_n dX11_rules_52 rfl ?_
        refine aw_cV dX11_rules_53 kX11_389 mX11_keeps (rX11_keeps hM hI ha hac) (Nat.le_of_ble_eq_true rfl) hM.k ⟨by decide, rfl⟩ hM.b rfl rfl (Nat.le_of_ble_eq_true rfl) ⟨Nat.le_refl _, Nat.le_refl _⟩ ?_
        refine aw_aload_n dX11_rules_56 rfl ?_
        refine aw_getR (b := m + 1) dX11_rules_57 fX11_7 hM.k hM.b rfl hM.r0 ?_
        refine aw_sipush (v := 224) dX11_rules_60 rfl ?_
        refine aw_iload_n dX11_rules_63 rfl ?_
        refine aw_iadd dX11_rules_64 ?_
        refine aw_iload_n dX11_rules_65 rfl ?_
        refine aw_iastN (k := (224 + r)) dX11_rules_66 hM.k0 hM.b0 hM.l0 (gadd rfl rfl) (by omega) (by decide) ?_
        refine AW.mem (I2 := upA (Kp I m N ac) (m + 1) (upd N (224 + r) v)) (by rw [upI_upA, Kp_now hI]) ?_
        refine aw_aload_n dX11_rules_67 rfl ?_
        refine aw_iload_n dX11_rules_68 rfl ?_
        refine aw_cV dX11_rules_69 kX11_199 mX11_gives (sX11_gives hM) (Nat.le_of_ble_eq_true rfl) hM.k ⟨by decide, rfl⟩ hM.b rfl rfl (Nat.le_of_ble_eq_true rfl) ⟨Nat.le_refl _, Nat.le_refl _⟩ ?_
        refine aw_iret q rfl dX11_rules_72 ⟨Nat.le_refl _, Nat.le_refl _⟩ ?_
        exact AcS.ok (by simp [aRules, f7, f21, er, c43]) RSc.rf
      · refine aw_aload_n dX11_rules_46 rfl ?_
        refine aw_iconst (v := 4) dX11_rules_47 rfl ?_
        refine aw_cV dX11_rules_48 kX11_186 mX11_refuse (sX11_refuse hM) (Nat.le_of_ble_eq_true rfl) hM.k ⟨by decide, rfl⟩ hM.b rfl rfl (Nat.le_of_ble_eq_true rfl) ⟨Nat.le_refl _, Nat.le_refl _⟩ ?_
        refine aw_iret q rfl dX11_rules_51 ⟨Nat.le_refl _, Nat.le_refl _⟩ ?_
        exact AcS.no (by simp [aRules, f7, f21, er, c43]) RSc.rf
    · refine aw_aload_n dX11_rules_24 rfl ?_
      refine aw_iconst (v := 1) dX11_rules_25 rfl ?_
      refine aw_cV dX11_rules_26 kX11_186 mX11_refuse (sX11_refuse hM) (Nat.le_of_ble_eq_true rfl) hM.k ⟨by decide, rfl⟩ hM.b rfl rfl (Nat.le_of_ble_eq_true rfl) ⟨Nat.le_refl _, Nat.le_refl _⟩ ?_
      refine aw_iret q rfl dX11_rules_29 ⟨Nat.le_refl _, Nat.le_refl _⟩ ?_
      exact AcS.no (by simp [aRules, f7, er, bI0.mp c21]) RSc.rf
theorem fa_cnt_mono {P Q : Nat → Bool} : ∀ {n : Nat}, (∀ k, k < n → P k = true → Q k = true) → fa_cnt P n ≤ fa_cnt Q n
  | 0, _ => Nat.le_refl _
  | n + 1, h => by
    have ih := fa_cnt_mono (n := n) (fun k hk => h k (by omega))
    by_cases hp : P n = true
    · rw [fa_cnt_yes hp, fa_cnt_yes (h n (by omega) hp)]
      omega
    · have hp : P n = false := by simpa using hp
      rw [fa_cnt_no hp]
      cases hq : Q n with
      | true => rw [fa_cnt_yes hq]; omega
      | false => rw [fa_cnt_no hq]; exact ih
theorem leaN_Cn {N : Nat → Int32} {p : Nat} (c : Cn N) (l : Lo N) (hp : p < 8) : Cn (leaN N p) ∧ Lo (leaN N p) := by
  have c1 : Cn (leaN1 N p) := by
    unfold leaN1
    have d1 := c.bids' hp (v := 0) (b := 0) rfl (by decide)
    exact d1.free (free_house (w := 8) hp (by decide) (by decide) d1.l8)
  have r1 : ∀ j, j ≠ 80 + 18 * p + 10 → j ≠ 80 + 18 * p + 8 → leaN1 N p j = N j := fun j h1 h2 => by unfold leaN1 mPuts; rw [upd_ne h2, upd_ne h1]
  have o1 : leaN1 N p (80 + 18 * p + 8) = 1 := by unfold leaN1 mPuts; exact upd_eq
  have rl : ∀ j, 80 ≤ j → j ≠ 80 + 18 * p + 4 → leaN N p j = leaN1 N p j := fun j hj h4 => by
    unfold leaN mPuts
    rw [upd_ne h4]
    split
    · rfl
    · rename_i hne
      obtain ⟨u, hu, e⟩ := (c.ho hp).resolve_left hne
      rw [e, nI_clamp (by omega)]
      exact leaves_rd (by omega) (by omega) (by omega)
  constructor
  · unfold leaN
    refine Cn.home' ?_ hp (Or.inl rfl)
    split
    · exact c1
    · rename_i hne
      obtain ⟨u, hu, e⟩ := (c.ho hp).resolve_left hne
      rw [e, nI_clamp (by omega)]
      exact leaves_Cn c1 hu
  · have hp8 := c.p8
    unfold Lo at l ⊢
    have eP : nPo (leaN N p) = nPo N := by unfold nPo; rw [rl _ (by omega) (by omega), r1 _ (by omega) (by omega)]
    have eL : nLe (leaN N p) = nLe N := by unfold nLe; rw [rl _ (by omega) (by omega), r1 _ (by omega) (by omega)]
    rw [eP, eL]
    refine Nat.le_trans l (fa_cnt_mono fun q hq hx => ?_)
    have hx : mIn N q = false := by simpa using hx
    show (!mIn (leaN N p) q) = true
    unfold mIn at hx ⊢
    by_cases e : q = p
    · subst e
      rw [rl _ (by omega) (by omega), o1]
      decide
    · rw [rl _ (by omega) (by omega), r1 _ (by omega) (by omega), hx]
      rfl
set_option maxHeartbeats 4000000 in
set_option maxRecDepth 100000 in
theorem rX11_leave (hM : IsM n sh m) {N : Nat → Int32} (hI : I (m + 1) = N) (hN : Cn N) (hl : Lo N) {ac : Nat} (ha : I m 12 = nI ac) (hac : ac ≤ 12) {x : Int32} : CM yX11_leave cX11_leave 2 (Option.some .int) 5 0 0 [.ref m, .int x] z n sh I L (AcS (aLeave N x) z n sh I L m N ac) := by
  refine CM.go [some (.ref m), some (.int x)] rfl rfl (Nat.le_of_ble_eq_true rfl) (fun X g q => ?_)
  refine aw_aload_n dX11_leave_0 rfl ?_
  refine aw_iload_n dX11_leave_1 rfl ?_
  refine aw_cV dX11_leave_2 kX11_244 mX11_isHouse (rX11_isHouse hM hI) (Nat.le_of_ble_eq_true rfl) hM.k ⟨by decide, rfl⟩ hM.b rfl rfl (Nat.le_of_ble_eq_true rfl) ⟨Nat.le_refl _, Nat.le_refl _⟩ ?_
  refine aw_if_ne (tgt := 14) dX11_leave_5 rfl (fun c5 => ?_) (fun c5 => ?_)
  · have f5 := bI1.mp c5
    obtain ⟨p, hpn, rfl⟩ := from_ix hN.p (by have := hN.p8; omega) f5
    have hp8 : p < 8 := by have := hN.p8; omega
    have ep := nI_clamp (show p < 2 ^ 31 by omega)
    refine aw_aload_n dX11_leave_14 rfl ?_
    refine aw_iload_n dX11_leave_15 rfl ?_
    refine aw_cV dX11_leave_16 kX11_208 mX11_isIn (rX11_isIn (p := p) hM hI rfl hp8) (Nat.le_of_ble_eq_true rfl) hM.k ⟨by decide, rfl⟩ hM.b rfl rfl (Nat.le_of_ble_eq_true rfl) ⟨Nat.le_refl _, Nat.le_refl _⟩ ?_
    refine aw_if_ne (tgt := 28) dX11_leave_19 rfl (fun c19 => ?_) (fun c19 => ?_)
    · have f19 := bI1.mp c19
      refine aw_aload_n dX11_leave_28 rfl ?_
      refine aw_cV dX11_leave_29 kX11_389 mX11_keeps (rX11_keeps hM hI ha hac) (Nat.le_of_ble_eq_true rfl) hM.k ⟨by decide, rfl⟩ hM.b rfl rfl (Nat.le_of_ble_eq_true rfl) ⟨Nat.le_refl _, Nat.le_refl _⟩ ?_
      refine aw_aload_n dX11_leave_32 rfl ?_
      refine aw_iload_n dX11_leave_33 rfl ?_
      refine aw_bipush (v := 10) dX11_leave_34 rfl ?_
      refine aw_iconst (v := 0) dX11_leave_36 rfl ?_
      refine aw_cV dX11_leave_37 kX11_289 mX11_puts (rX11_puts (p := p) (w := 10) hM (Kp_now hI) rfl rfl (by omega)) (Nat.le_of_ble_eq_true rfl) hM.k ⟨by decide, rfl⟩ hM.b rfl rfl (Nat.le_of_ble_eq_true rfl) ⟨Nat.le_refl _, Nat.le_refl _⟩ ?_
      refine aw_aload_n dX11_leave_40 rfl ?_
      refine aw_iload_n dX11_leave_41 rfl ?_
      refine aw_bipush (v := 8) dX11_leave_42 rfl ?_
      refine aw_iconst (v := 1) dX11_leave_44 rfl ?_
      refine aw_cV dX11_leave_45 kX11_289 mX11_puts (rX11_puts (p := p) (w := 8) hM upA_self rfl rfl (by omega)) (Nat.le_of_ble_eq_true rfl) hM.k ⟨by decide, rfl⟩ hM.b rfl rfl (Nat.le_of_ble_eq_true rfl) ⟨Nat.le_refl _, Nat.le_refl _⟩ ?_
      refine aw_aload_n dX11_leave_48 rfl ?_
      refine aw_iload_n dX11_leave_49 rfl ?_
      refine aw_iconst (v := 4) dX11_leave_50 rfl ?_
      refine aw_cV dX11_leave_51 kX11_205 mX11_of (rX11_of (p := p) (w := 4) hM upA_self rfl rfl (by omega)) (Nat.le_of_ble_eq_true rfl) hM.k ⟨by decide, rfl⟩ hM.b rfl rfl (Nat.le_of_ble_eq_true rfl) ⟨Nat.le_refl _, Nat.le_refl _⟩ ?_
      have e4 : mPuts (mPuts N p 10 0) p 8 1 (80 + 18 * p + 4) = N (80 + 18 * p + 4) := by unfold mPuts; rw [upd_ne (by omega), upd_ne (by omega)]
      rw [e4]
      refine aw_iconst (v := (-1)) dX11_leave_54 rfl ?_
      refine aw_icmp_eq (tgt := 69) dX11_leave_55 rfl (fun c55 => ?_) (fun c55 => ?_)
      · refine aw_aload_n dX11_leave_69 rfl ?_
        refine aw_iload_n dX11_leave_70 rfl ?_
        refine aw_iconst (v := 4) dX11_leave_71 rfl ?_
        refine aw_iconst (v := (-1)) dX11_leave_72 rfl ?_
        refine aw_cV dX11_leave_73 kX11_289 mX11_puts (rX11_puts (p := p) (w := 4) hM upA_self rfl rfl (by omega)) (Nat.le_of_ble_eq_true rfl) hM.k ⟨by decide, rfl⟩ hM.b rfl rfl (Nat.le_of_ble_eq_true rfl) ⟨Nat.le_refl _, Nat.le_refl _⟩ ?_
        refine aw_aload_n dX11_leave_76 rfl ?_
        refine aw_aload_n dX11_leave_77 rfl ?_
        refine AW.mem (I2 := upA (Kp I m N ac) (m + 1) (leaN N p)) (by simp only [upA_upA]; unfold leaN leaN1; rw [if_pos c55]) ?_
        refine aw_cV dX11_leave_78 kX11_231 mX11_inOnes (rX11_inOnes hM upA_self (leaN_Cn hN hl hp8).1) (Nat.le_of_ble_eq_true rfl) hM.k ⟨by decide, rfl⟩ hM.b rfl rfl (Nat.le_of_ble_eq_true rfl) ⟨Nat.le_refl _, Nat.le_refl _⟩ ?_
        refine aw_cV dX11_leave_81 kX11_199 mX11_gives (sX11_gives hM) (Nat.le_of_ble_eq_true rfl) hM.k ⟨by decide, rfl⟩ hM.b rfl rfl (Nat.le_of_ble_eq_true rfl) ⟨Nat.le_refl _, Nat.le_refl _⟩ ?_
        refine aw_iret q rfl dX11_leave_84 ⟨Nat.le_refl _, Nat.le_refl _⟩ ?_
        exact AcS.ok (by simp [aLeave, f5, ep, f19, mIns]) RSc.rf
      · obtain ⟨u, hu10, hu⟩ := (hN.ho hp8).resolve_left c55
        refine aw_aload_n dX11_leave_58 rfl ?_
        refine aw_aload_n dX11_leave_59 rfl ?_
        refine aw_iload_n dX11_leave_60 rfl ?_
        refine aw_iconst (v := 4) dX11_leave_61 rfl ?_
        refine aw_cV dX11_leave_62 kX11_205 mX11_of (rX11_of (p := p) (w := 4) hM upA_self rfl rfl (by omega)) (Nat.le_of_ble_eq_true rfl) hM.k ⟨by decide, rfl⟩ hM.b rfl rfl (Nat.le_of_ble_eq_true rfl) ⟨Nat.le_refl _, Nat.le_refl _⟩ ?_
        rw [e4]
        refine aw_iconst (v := 0) dX11_leave_65 rfl ?_
        refine aw_cV dX11_leave_66 kX11_296 mX11_leaves (rX11_leaves (h := u) hM upA_self hu (by omega)) (Nat.le_of_ble_eq_true rfl) hM.k ⟨by decide, rfl⟩ hM.b rfl rfl (Nat.le_of_ble_eq_true rfl) ⟨Nat.le_refl _, Nat.le_refl _⟩ ?_
        refine aw_aload_n dX11_leave_69 rfl ?_
        refine aw_iload_n dX11_leave_70 rfl ?_
        refine aw_iconst (v := 4) dX11_leave_71 rfl ?_
        refine aw_iconst (v := (-1)) dX11_leave_72 rfl ?_
        refine aw_cV dX11_leave_73 kX11_289 mX11_puts (rX11_puts (p := p) (w := 4) hM upA_self rfl rfl (by omega)) (Nat.le_of_ble_eq_true rfl) hM.k ⟨by decide, rfl⟩ hM.b rfl rfl (Nat.le_of_ble_eq_true rfl) ⟨Nat.le_refl _, Nat.le_refl _⟩ ?_
        refine aw_aload_n dX11_leave_76 rfl ?_
        refine aw_aload_n dX11_leave_77 rfl ?_
        refine AW.mem (I2 := upA (Kp I m N ac) (m + 1) (leaN N p)) (by simp only [upA_upA]; unfold leaN leaN1; rw [if_neg c55, hu, nI_clamp (by omega)]) ?_
        refine aw_cV dX11_leave_78 kX11_231 mX11_inOnes (rX11_inOnes hM upA_self (leaN_Cn hN hl hp8).1) (Nat.le_of_ble_eq_true rfl) hM.k ⟨by decide, rfl⟩ hM.b rfl rfl (Nat.le_of_ble_eq_true rfl) ⟨Nat.le_refl _, Nat.le_refl _⟩ ?_
        refine aw_cV dX11_leave_81 kX11_199 mX11_gives (sX11_gives hM) (Nat.le_of_ble_eq_true rfl) hM.k ⟨by decide, rfl⟩ hM.b rfl rfl (Nat.le_of_ble_eq_true rfl) ⟨Nat.le_refl _, Nat.le_refl _⟩ ?_
        refine aw_iret q rfl dX11_leave_84 ⟨Nat.le_refl _, Nat.le_refl _⟩ ?_
        exact AcS.ok (by simp [aLeave, f5, ep, f19, mIns]) RSc.rf
    · refine aw_aload_n dX11_leave_22 rfl ?_
      refine aw_iconst (v := 4) dX11_leave_23 rfl ?_
      refine aw_cV dX11_leave_24 kX11_186 mX11_refuse (sX11_refuse hM) (Nat.le_of_ble_eq_true rfl) hM.k ⟨by decide, rfl⟩ hM.b rfl rfl (Nat.le_of_ble_eq_true rfl) ⟨Nat.le_refl _, Nat.le_refl _⟩ ?_
      refine aw_iret q rfl dX11_leave_27 ⟨Nat.le_refl _, Nat.le_refl _⟩ ?_
      exact AcS.no (by simp [aLeave, f5, ep, bI0.mp c19]) RSc.rf
  · refine aw_aload_n dX11_leave_8 rfl ?_
    refine aw_iconst (v := 2) dX11_leave_9 rfl ?_
    refine aw_cV dX11_leave_10 kX11_186 mX11_refuse (sX11_refuse hM) (Nat.le_of_ble_eq_true rfl) hM.k ⟨by decide, rfl⟩ hM.b rfl rfl (Nat.le_of_ble_eq_true rfl) ⟨Nat.le_refl _, Nat.le_refl _⟩ ?_
    refine aw_iret q rfl dX11_leave_13 ⟨Nat.le_refl _, Nat.le_refl _⟩ ?_
    exact AcS.no (by simp [aLeave, bI0.mp c5]) RSc.rf
set_option maxHeartbeats 4000000 in
set_option maxRecDepth 100000 in
theorem rX11_unwish (hM : IsM n sh m) {N : Nat → Int32} (hI : I (m + 1) = N) (hN : Cn N) {ac : Nat} (ha : I m 12 = nI ac) (hac : ac ≤ 12) {x y : Int32} : CM yX11_unwish cX11_unwish 6 (Option.some .int) 4 0 0 [.ref m, .int x, .int y] z n sh I L (AcS (aUnwish N x y) z n sh I L m N ac) := by
  refine CM.go [some (.ref m), some (.int x), some (.int y), none, none, none] rfl rfl (Nat.le_of_ble_eq_true rfl) (fun X g q => ?_)
  refine aw_aload_n dX11_unwish_0 rfl ?_
  refine aw_iload_n dX11_unwish_1 rfl ?_
  refine aw_iload_n dX11_unwish_2 rfl ?_
  refine aw_cV dX11_unwish_3 kX11_253 mX11_areOnes (rX11_areOnes hM hI) (Nat.le_of_ble_eq_true rfl) hM.k ⟨by decide, rfl⟩ hM.b rfl rfl (Nat.le_of_ble_eq_true rfl) ⟨Nat.le_refl _, Nat.le_refl _⟩ ?_
  refine aw_if_ne (tgt := 15) dX11_unwish_6 rfl (fun c6 => ?_) (fun c6 => ?_)
  · have f6 := bI1.mp c6
    obtain ⟨p, h, hpn, hhn, hp8, hh10, rfl, rfl, ep, eh⟩ := ones_ix hN f6
    refine aw_aload_n dX11_unwish_15 rfl ?_
    refine aw_iload_n dX11_unwish_16 rfl ?_
    refine aw_iload_n dX11_unwish_17 rfl ?_
    refine aw_cV dX11_unwish_18 kX11_216 mX11_wishOf (rX11_wishOf (p := p) hM hI rfl hp8 (hN.w hp8) (hN.w6 hp8)) (Nat.le_of_ble_eq_true rfl) hM.k ⟨by decide, rfl⟩ hM.b rfl rfl (Nat.le_of_ble_eq_true rfl) ⟨Nat.le_refl _, Nat.le_refl _⟩ ?_
    refine aw_istore_n dX11_unwish_21 (by decide) rfl ?_
    refine aw_iload_n dX11_unwish_22 rfl ?_
    refine aw_iconst (v := (-1)) dX11_unwish_23 rfl ?_
    refine aw_icmp_ne (tgt := 33) dX11_unwish_24 rfl (fun c24 => ?_) (fun c24 => ?_)
    · have w6 := hN.w6 hp8
      obtain ⟨a0, ha0, ea⟩ := mWish_ix w6 c24
      rw [ea]
      refine aw_aload_n dX11_unwish_33 rfl ?_
      refine aw_cV dX11_unwish_34 kX11_389 mX11_keeps (rX11_keeps hM hI ha hac) (Nat.le_of_ble_eq_true rfl) hM.k ⟨by decide, rfl⟩ hM.b rfl rfl (Nat.le_of_ble_eq_true rfl) ⟨Nat.le_refl _, Nat.le_refl _⟩ ?_
      refine aw_aload_n dX11_unwish_37 rfl ?_
      refine aw_iload_n dX11_unwish_38 rfl ?_
      refine aw_bipush (v := 11) dX11_unwish_39 rfl ?_
      refine aw_cV dX11_unwish_41 kX11_205 mX11_of (rX11_of (p := p) (w := 11) hM (Kp_now hI) rfl rfl (by omega)) (Nat.le_of_ble_eq_true rfl) hM.k ⟨by decide, rfl⟩ hM.b rfl rfl (Nat.le_of_ble_eq_true rfl) ⟨Nat.le_refl _, Nat.le_refl _⟩ ?_
      rw [hN.w hp8]
      refine aw_iconst (v := 1) dX11_unwish_44 rfl ?_
      refine aw_isub dX11_unwish_45 ?_
      refine AW.top (y := nI (nWi N p - 1)) (by rw [show (1 : Int32) = nI 1 from rfl, pk_sub (by omega)]) ?_
      refine aw_istore dX11_unwish_46 (by decide) rfl ?_
      refine aw_iload_n dX11_unwish_48 rfl ?_
      refine aw_istore dX11_unwish_49 (by decide) rfl ?_
      have loop : ∀ i, i ≤ nWi N p - 1 - a0 → AW X g RX11 cX11_unwish 6 (4, 0, 0) (z, n, sh, 0, 0) (upA (Kp I m N ac) (m + 1) (unwL N p a0 i)) (L) 51 [some (.ref m), some (.int (nI p)), some (.int (nI h)), some (.int (nI a0)), some (.int (nI (nWi N p - 1))), some (.int (nI (a0 + i)))] [] := by
        refine up_loop (fun i hi ih => ?_)
        refine aw_iload dX11_unwish_51 rfl ?_
        refine aw_iload dX11_unwish_53 rfl ?_
        refine aw_icmp_ge (tgt := 86) dX11_unwish_55 rfl (fun c55 => ?_) (fun c55 => ?_)
        · have e : a0 + i = nWi N p - 1 := ge_t (B := nWi N p - 1) rfl (by omega) (by omega) c55
          have ei : i = nWi N p - 1 - a0 := by omega
          subst ei
          refine aw_aload_n dX11_unwish_86 rfl ?_
          refine aw_iload_n dX11_unwish_87 rfl ?_
          refine aw_bipush (v := 11) dX11_unwish_88 rfl ?_
          refine aw_iload dX11_unwish_90 rfl ?_
          refine aw_cV dX11_unwish_92 kX11_289 mX11_puts (rX11_puts (p := p) (w := 11) hM upA_self rfl rfl (by omega)) (Nat.le_of_ble_eq_true rfl) hM.k ⟨by decide, rfl⟩ hM.b rfl rfl (Nat.le_of_ble_eq_true rfl) ⟨Nat.le_refl _, Nat.le_refl _⟩ ?_
          refine aw_aload_n dX11_unwish_95 rfl ?_
          refine aw_iload dX11_unwish_96 rfl ?_
          refine aw_cV dX11_unwish_98 kX11_199 mX11_gives (sX11_gives hM) (Nat.le_of_ble_eq_true rfl) hM.k ⟨by decide, rfl⟩ hM.b rfl rfl (Nat.le_of_ble_eq_true rfl) ⟨Nat.le_refl _, Nat.le_refl _⟩ ?_
          refine aw_iret q rfl dX11_unwish_101 ⟨Nat.le_refl _, Nat.le_refl _⟩ ?_
          have e9 : upA (upA (Kp I m N ac) (m + 1) (unwL N p a0 (nWi N p - 1 - a0))) (m + 1) (mPuts (unwL N p a0 (nWi N p - 1 - a0)) p 11 (nI (nWi N p - 1))) = upA (Kp I m N ac) (m + 1) (unwN N p a0) := upA_upA
          rw [e9]
          exact AcS.ok (by simp [aUnwish, f6, ep, ea, nI_clamp (show a0 < 2 ^ 31 by omega), nI_ne_m1 (show a0 < 2 ^ 31 by omega)]) RSc.rf
        · have hlt : a0 + i < nWi N p - 1 := ge_f (B := nWi N p - 1) rfl (by omega) (by omega) c55
          have hlti : i < nWi N p - 1 - a0 := by omega
          refine aw_aload_n dX11_unwish_58 rfl ?_
          refine aw_iload_n dX11_unwish_59 rfl ?_
          refine aw_bipush (v := 12) dX11_unwish_60 rfl ?_
          refine aw_iload dX11_unwish_62 rfl ?_
          refine aw_iadd dX11_unwish_64 ?_
          refine aw_aload_n dX11_unwish_65 rfl ?_
          refine aw_iload_n dX11_unwish_66 rfl ?_
          refine aw_bipush (v := 12) dX11_unwish_67 rfl ?_
          refine aw_iload dX11_unwish_69 rfl ?_
          refine aw_iadd dX11_unwish_71 ?_
          refine aw_iconst (v := 1) dX11_unwish_72 rfl ?_
          refine aw_iadd dX11_unwish_73 ?_
          refine aw_cV dX11_unwish_74 kX11_205 mX11_of (rX11_of (p := p) (w := 12 + (a0 + i + 1)) hM upA_self rfl (gadd (a := 12 + (a0 + i)) (b := 1) (gadd (a := 12) (b := a0 + i) rfl rfl) rfl) (by omega)) (Nat.le_of_ble_eq_true rfl) hM.k ⟨by decide, rfl⟩ hM.b rfl rfl (Nat.le_of_ble_eq_true rfl) ⟨Nat.le_refl _, Nat.le_refl _⟩ ?_
          rw [unwL_rd i (by omega)]
          refine aw_cV dX11_unwish_77 kX11_289 mX11_puts (rX11_puts (p := p) (w := 12 + (a0 + i)) hM upA_self rfl (gadd (a := 12) (b := a0 + i) rfl rfl) (by omega)) (Nat.le_of_ble_eq_true rfl) hM.k ⟨by decide, rfl⟩ hM.b rfl rfl (Nat.le_of_ble_eq_true rfl) ⟨Nat.le_refl _, Nat.le_refl _⟩ ?_
          refine aw_iinc dX11_unwish_80 rfl (ginc rfl) (by decide) rfl ?_
          refine aw_goto (tgt := 51) dX11_unwish_83 rfl ?_
          refine AW.mem ?_ (ih hlti)
          rw [unwL, upA_upA]
      refine AW.mem ?_ (loop 0 (Nat.zero_le _))
      exact (upA_eq (Kp_now hI)).symm
    · refine aw_aload_n dX11_unwish_27 rfl ?_
      refine aw_iconst (v := 5) dX11_unwish_28 rfl ?_
      refine aw_cV dX11_unwish_29 kX11_186 mX11_refuse (sX11_refuse hM) (Nat.le_of_ble_eq_true rfl) hM.k ⟨by decide, rfl⟩ hM.b rfl rfl (Nat.le_of_ble_eq_true rfl) ⟨Nat.le_refl _, Nat.le_refl _⟩ ?_
      refine aw_iret q rfl dX11_unwish_32 ⟨Nat.le_refl _, Nat.le_refl _⟩ ?_
      exact AcS.no (by simp [aUnwish, f6, ep, c24]) RSc.rf
  · refine aw_aload_n dX11_unwish_9 rfl ?_
    refine aw_iconst (v := 2) dX11_unwish_10 rfl ?_
    refine aw_cV dX11_unwish_11 kX11_186 mX11_refuse (sX11_refuse hM) (Nat.le_of_ble_eq_true rfl) hM.k ⟨by decide, rfl⟩ hM.b rfl rfl (Nat.le_of_ble_eq_true rfl) ⟨Nat.le_refl _, Nat.le_refl _⟩ ?_
    refine aw_iret q rfl dX11_unwish_14 ⟨Nat.le_refl _, Nat.le_refl _⟩ ?_
    exact AcS.no (by simp [aUnwish, bI0.mp c6]) RSc.rf
end RefS
