/-! the reference: queue, lot -/
section RefS
variable {z n m : Nat} {sh : Shp} {I : MI} {L : ML}
set_option maxHeartbeats 4000000 in
set_option maxRecDepth 100000 in
theorem rX11_plainWeight (hM : IsM n sh m) {N : Nat → Int32} (hI : I (m + 1) = N) (hN : Cn N) {x : Int32} {p : Nat} (hx : x = nI p) (hp : p < 8) : CM yX11_plainWeight cX11_plainWeight 2 (Option.some .int) 4 0 0 [.ref m, .int x] z n sh I L (Pst (some (.int (mPlW N p))) z n sh I L) := by
  refine CM.go [some (.ref m), some (.int x)] rfl rfl (Nat.le_of_ble_eq_true rfl) (fun X g q => ?_)
  refine aw_sipush (v := 1000) dX11_plainWeight_0 rfl ?_
  refine aw_aload_n dX11_plainWeight_3 rfl ?_
  refine aw_iload_n dX11_plainWeight_4 rfl ?_
  refine aw_cV dX11_plainWeight_5 kX11_247 mX11_bandNow (rX11_bandNow (p := p) hM hI hx hp hN.age) (Nat.le_of_ble_eq_true rfl) hM.k ⟨by decide, rfl⟩ hM.b rfl rfl (Nat.le_of_ble_eq_true rfl) ⟨Nat.le_refl _, Nat.le_refl _⟩ ?_
  refine aw_imul dX11_plainWeight_8 ?_
  refine aw_aload_n dX11_plainWeight_9 rfl ?_
  refine aw_iload_n dX11_plainWeight_10 rfl ?_
  refine aw_iconst (v := 3) dX11_plainWeight_11 rfl ?_
  refine aw_cV dX11_plainWeight_12 kX11_205 mX11_of (rX11_of (p := p) (w := 3) hM hI hx rfl (by omega)) (Nat.le_of_ble_eq_true rfl) hM.k ⟨by decide, rfl⟩ hM.b rfl rfl (Nat.le_of_ble_eq_true rfl) ⟨Nat.le_refl _, Nat.le_refl _⟩ ?_
  refine aw_iadd dX11_plainWeight_15 ?_
  refine aw_bipush (v := 8) dX11_plainWeight_16 rfl ?_
  refine aw_imul dX11_plainWeight_18 ?_
  refine aw_iload_n dX11_plainWeight_19 rfl ?_
  refine aw_iadd dX11_plainWeight_20 ?_
  refine aw_iret q rfl dX11_plainWeight_21 ⟨Nat.le_refl _, Nat.le_refl _⟩ ?_
  refine Pst.iv ?_
  unfold mPlW
  rw [hx]
theorem q_dec {k j : Nat} : nI k - nI j + Int32.ofInt (-1) = nI k - nI (j + 1) := by
  rw [← nI_1 j]
  apply Int32.toBitVec_inj.mp
  show (nI k).toBitVec - (nI j).toBitVec + (-1 : Int32).toBitVec = (nI k).toBitVec - ((nI j).toBitVec + (1 : Int32).toBitVec)
  have e : (-1 : Int32).toBitVec = - (1 : Int32).toBitVec := by decide
  rw [e, BitVec.sub_eq_add_neg, BitVec.sub_eq_add_neg, BitVec.neg_add, BitVec.sub_eq_add_neg, BitVec.add_assoc]
set_option maxHeartbeats 4000000 in
set_option maxRecDepth 100000 in
theorem rX11_queue (hM : IsM n sh m) {N : Nat → Int32} (hI : I (m + 1) = N) (hN : Cn N) (hR : Rg N) {x : Int32} : CM yX11_queue cX11_queue 6 (Option.some .int) 5 0 0 [.ref m, .int x] z n sh I L (Tl (aQueue N x) z n sh I L m) := by
  refine CM.go [some (.ref m), some (.int x), none, none, none, none] rfl rfl (Nat.le_of_ble_eq_true rfl) (fun X g q => ?_)
  have h8 := hN.p8
  have inner : ∀ (k j : Nat), j ≤ k → k < fa_cnt (mIn N) (nPo N) → x = nI k → (∀ a5, AW X g RX11 cX11_queue 6 (5, 0, 0) (z, n, sh, 0, 0) (I) (L) 31 [some (.ref m), some (.int x), some (.int (nI k - nI (j + 1))), some (.int (oN (qNx N (qL N j)))), some (.int (qL N (j + 1))), a5] []) → ∀ i, i ≤ nPo N → AW X g RX11 cX11_queue 6 (5, 0, 0) (z, n, sh, 0, 0) (I) (L) 40 [some (.ref m), some (.int x), some (.int (nI k - nI j)), some (.int (oN (fst (mPlW N) (qS N (qL N j)) i))), some (.int (qL N j)), some (.int (nI i))] [] := by
    intro k j hjk hk hx nxt
    refine up_loop (fun i hi ih => ?_)
    refine aw_iload dX11_queue_40 rfl ?_
    refine aw_aload_n dX11_queue_42 rfl ?_
    refine aw_getR (b := m + 1) dX11_queue_43 fX11_7 hM.k hM.b rfl hM.r0 ?_
    refine aw_sipush (v := 231) dX11_queue_46 rfl ?_
    refine aw_ialdN (k := 231) dX11_queue_49 hM.k0 hM.b0 hM.l0 rfl (by decide) (by decide) ?_
    refine aw_icmp_ge (tgt := 101) dX11_queue_50 rfl (fun c50 => ?_) (fun c50 => ?_)
    · rw [hI] at c50
      have e := ge_t hN.p (by omega) hi c50
      subst e
      have hc := q_cnt hR h8 j (by omega)
      obtain ⟨b, hb⟩ := fst_has (w := mPlW N) (S := qS N (qL N j)) (n := nPo N) (by omega)
      have hb8 := (fst_lt hb).1
      have ho : oN (fst (mPlW N) (qS N (qL N j)) (nPo N)) = nI b := by rw [hb]; rfl
      refine aw_aload_n dX11_queue_101 rfl ?_
      refine aw_iload_n dX11_queue_102 rfl ?_
      refine aw_cV dX11_queue_103 kX11_334 mX11_plainWeight (rX11_plainWeight (p := b) hM hI hN ho (by omega)) (Nat.le_of_ble_eq_true rfl) hM.k ⟨by decide, rfl⟩ hM.b rfl rfl (Nat.le_of_ble_eq_true rfl) ⟨Nat.le_refl _, Nat.le_refl _⟩ ?_
      refine aw_istore dX11_queue_106 (by decide) rfl ?_
      refine aw_iinc dX11_queue_108 rfl (q_dec (k := k) (j := j)) (by decide) rfl ?_
      refine aw_goto (tgt := 31) dX11_queue_111 rfl ?_
      have := nxt (some (.int (nI (nPo N))))
      rw [qL_s hb] at this
      exact this
    · rw [hI] at c50
      have hlt := ge_f hN.p (by omega) hi c50
      refine aw_aload_n dX11_queue_53 rfl ?_
      refine aw_iload dX11_queue_54 rfl ?_
      refine aw_cV dX11_queue_56 kX11_208 mX11_isIn (rX11_isIn (p := i) hM hI rfl (by omega)) (Nat.le_of_ble_eq_true rfl) hM.k ⟨by decide, rfl⟩ hM.b rfl rfl (Nat.le_of_ble_eq_true rfl) ⟨Nat.le_refl _, Nat.le_refl _⟩ ?_
      refine aw_if_eq (tgt := 95) dX11_queue_59 rfl (fun c59 => ?_) (fun c59 => ?_)
      · have hS : qS N (qL N j) i = false := by
          unfold qS
          rw [bI0.mp c59]
          rfl
        refine aw_iinc dX11_queue_95 rfl (ginc rfl) (by decide) rfl ?_
        refine aw_goto (tgt := 40) dX11_queue_98 rfl ?_
        have e : fst (mPlW N) (qS N (qL N j)) (i + 1) = fst (mPlW N) (qS N (qL N j)) i := fst_no hS
        have := ih hlt
        rw [e] at this
        exact this
      · have f9 := bI1.mp c59
        refine aw_aload_n dX11_queue_62 rfl ?_
        refine aw_iload dX11_queue_63 rfl ?_
        refine aw_cV dX11_queue_65 kX11_334 mX11_plainWeight (rX11_plainWeight (p := i) hM hI hN rfl (by omega)) (Nat.le_of_ble_eq_true rfl) hM.k ⟨by decide, rfl⟩ hM.b rfl rfl (Nat.le_of_ble_eq_true rfl) ⟨Nat.le_refl _, Nat.le_refl _⟩ ?_
        refine aw_iload dX11_queue_68 rfl ?_
        refine aw_icmp_le (tgt := 95) dX11_queue_70 rfl (fun c70 => ?_) (fun c70 => ?_)
        · have hS : qS N (qL N j) i = false := by
            unfold qS
            have : ¬ qL N j < mPlW N i := fun q => (fa_of_lt q).2.1 c70
            simp [this]
          refine aw_iinc dX11_queue_95 rfl (ginc rfl) (by decide) rfl ?_
          refine aw_goto (tgt := 40) dX11_queue_98 rfl ?_
          have e : fst (mPlW N) (qS N (qL N j)) (i + 1) = fst (mPlW N) (qS N (qL N j)) i := fst_no hS
          have := ih hlt
          rw [e] at this
          exact this
        · have hS : qS N (qL N j) i = true := by
            unfold qS
            simp [f9, fa_of_nle c70]
          refine aw_iload_n dX11_queue_73 rfl ?_
          refine aw_iconst (v := (-1)) dX11_queue_74 rfl ?_
          refine aw_icmp_eq (tgt := 92) dX11_queue_75 rfl (fun c75 => ?_) (fun c75 => ?_)
          · have en : fst (mPlW N) (qS N (qL N j)) i = none := by
              cases en : fst (mPlW N) (qS N (qL N j)) i with
              | none => rfl
              | some b =>
                rw [en] at c75
                exact absurd c75 (nI_ne_m1 (by have := (fst_lt en).1; omega))
            refine aw_iload dX11_queue_92 rfl ?_
            refine aw_istore_n dX11_queue_94 (by decide) rfl ?_
            refine aw_iinc dX11_queue_95 rfl (ginc rfl) (by decide) rfl ?_
            refine aw_goto (tgt := 40) dX11_queue_98 rfl ?_
            have := ih hlt
            rw [fst_new hS en] at this
            exact this
          · obtain ⟨b, en⟩ : ∃ b, fst (mPlW N) (qS N (qL N j)) i = some b := by
              cases en : fst (mPlW N) (qS N (qL N j)) i with
              | none =>
                rw [en] at c75
                exact absurd rfl c75
              | some b => exact ⟨b, rfl⟩
            have hbi := (fst_lt en).1
            have eo : oN (fst (mPlW N) (qS N (qL N j)) i) = nI b := by rw [en]; rfl
            refine aw_aload_n dX11_queue_78 rfl ?_
            refine aw_iload dX11_queue_79 rfl ?_
            refine aw_cV dX11_queue_81 kX11_334 mX11_plainWeight (rX11_plainWeight (p := i) hM hI hN rfl (by omega)) (Nat.le_of_ble_eq_true rfl) hM.k ⟨by decide, rfl⟩ hM.b rfl rfl (Nat.le_of_ble_eq_true rfl) ⟨Nat.le_refl _, Nat.le_refl _⟩ ?_
            refine aw_aload_n dX11_queue_84 rfl ?_
            refine aw_iload_n dX11_queue_85 rfl ?_
            refine aw_cV dX11_queue_86 kX11_334 mX11_plainWeight (rX11_plainWeight (p := b) hM hI hN eo (by omega)) (Nat.le_of_ble_eq_true rfl) hM.k ⟨by decide, rfl⟩ hM.b rfl rfl (Nat.le_of_ble_eq_true rfl) ⟨Nat.le_refl _, Nat.le_refl _⟩ ?_
            refine aw_icmp_ge (tgt := 95) dX11_queue_89 rfl (fun c89 => ?_) (fun c89 => ?_)
            · refine aw_iinc dX11_queue_95 rfl (ginc rfl) (by decide) rfl ?_
              refine aw_goto (tgt := 40) dX11_queue_98 rfl ?_
              have := ih hlt
              rw [fst_ge hS en (fun q => (fa_of_lt q).2.1 c89), ← en] at this
              exact this
            · refine aw_iload dX11_queue_92 rfl ?_
              refine aw_istore_n dX11_queue_94 (by decide) rfl ?_
              refine aw_iinc dX11_queue_95 rfl (ginc rfl) (by decide) rfl ?_
              refine aw_goto (tgt := 40) dX11_queue_98 rfl ?_
              have := ih hlt
              rw [fst_less hS en (fa_of_nle c89)] at this
              exact this
  have loop : ∀ (k : Nat), k < fa_cnt (mIn N) (nPo N) → x = nI k → aQueue N x = ok (oN (qNx N (qL N k))) → ∀ j, j ≤ k + 1 → ∀ (v : Int32) a5, (0 < j → v = oN (qNx N (qL N (j - 1)))) → AW X g RX11 cX11_queue 6 (5, 0, 0) (z, n, sh, 0, 0) (I) (L) 31 [some (.ref m), some (.int x), some (.int (nI k - nI j)), some (.int v), some (.int (qL N j)), a5] [] := by
    intro k hk hx hA
    have hkn := fa_cnt_le (mIn N) (nPo N)
    refine up_loop (fun j hj ih v a5 hv => ?_)
    refine aw_iload_n dX11_queue_31 rfl ?_
    refine aw_if_lt (tgt := 114) dX11_queue_32 rfl (fun c32 => ?_) (fun c32 => ?_)
    · have e : j = k + 1 := by
        by_cases e : j = k + 1
        · exact e
        · rw [pk_sub (show j ≤ k by omega)] at c32
          exact absurd c32 (nI_pos (by omega))
      subst e
      refine aw_aload_n dX11_queue_114 rfl ?_
      refine aw_iload_n dX11_queue_115 rfl ?_
      refine aw_cV dX11_queue_116 kX11_199 mX11_gives (sX11_gives hM) (Nat.le_of_ble_eq_true rfl) hM.k ⟨by decide, rfl⟩ hM.b rfl rfl (Nat.le_of_ble_eq_true rfl) ⟨Nat.le_refl _, Nat.le_refl _⟩ ?_
      refine aw_iret q rfl dX11_queue_119 ⟨Nat.le_refl _, Nat.le_refl _⟩ ?_
      rw [hv (by omega)]
      exact Tl.ok hA
    · have hlt : j < k + 1 := by
        by_cases e : j = k + 1
        · rw [e] at c32
          exact absurd (pk_sneg (by omega) (by omega)) c32
        · omega
      refine aw_iconst (v := (-1)) dX11_queue_35 rfl ?_
      refine aw_istore_n dX11_queue_36 (by decide) rfl ?_
      refine aw_iconst (v := 0) dX11_queue_37 rfl ?_
      refine aw_istore dX11_queue_38 (by decide) rfl ?_
      exact inner k j (by omega) hk hx (fun a5 => ih hlt _ a5 (fun _ => rfl)) 0 (Nat.zero_le _)
  refine aw_iload_n dX11_queue_0 rfl ?_
  refine aw_if_ge (tgt := 10) dX11_queue_1 rfl (fun c1 => ?_) (fun c1 => ?_)
  · obtain ⟨k, hk31, hx⟩ := nI_of (fun q => (fa_of_lt q).2.1 c1)
    refine aw_iload_n dX11_queue_10 rfl ?_
    refine aw_aload_n dX11_queue_11 rfl ?_
    refine aw_cV dX11_queue_12 kX11_231 mX11_inOnes (rX11_inOnes hM hI hN) (Nat.le_of_ble_eq_true rfl) hM.k ⟨by decide, rfl⟩ hM.b rfl rfl (Nat.le_of_ble_eq_true rfl) ⟨Nat.le_refl _, Nat.le_refl _⟩ ?_
    rw [isum_cnt]
    refine aw_icmp_lt (tgt := 24) dX11_queue_15 rfl (fun c15 => ?_) (fun c15 => ?_)
    · have hkn := fa_cnt_le (mIn N) (nPo N)
      have hk : k < fa_cnt (mIn N) (nPo N) := by
        rw [hx] at c15
        exact (nI_ltI hk31 (by omega)).mp c15
      refine aw_iload_n dX11_queue_24 rfl ?_
      refine aw_istore_n dX11_queue_25 (by decide) rfl ?_
      refine aw_iconst (v := (-1)) dX11_queue_26 rfl ?_
      refine aw_istore_n dX11_queue_27 (by decide) rfl ?_
      refine aw_iconst (v := (-1)) dX11_queue_28 rfl ?_
      refine aw_istore dX11_queue_29 (by decide) rfl ?_
      have hA : aQueue N x = ok (oN (qNx N (qL N k))) := by
        unfold aQueue
        rw [if_neg (fun q => (fa_of_lt q).2.1 c1), if_neg (fun q => (fa_of_lt c15).2.1 q), hx, nI_clamp hk31]
      have := loop k hk hx hA 0 (Nat.zero_le _) (-1) none (fun q => absurd q (Nat.lt_irrefl 0))
      rw [show nI k - nI 0 = x by rw [hx]; exact Int32.sub_zero _] at this
      exact this
    · skip
      refine aw_aload_n dX11_queue_18 rfl ?_
      refine aw_iconst (v := 5) dX11_queue_19 rfl ?_
      refine aw_cV dX11_queue_20 kX11_186 mX11_refuse (sX11_refuse hM) (Nat.le_of_ble_eq_true rfl) hM.k ⟨by decide, rfl⟩ hM.b rfl rfl (Nat.le_of_ble_eq_true rfl) ⟨Nat.le_refl _, Nat.le_refl _⟩ ?_
      refine aw_iret q rfl dX11_queue_23 ⟨Nat.le_refl _, Nat.le_refl _⟩ ?_
      refine Tl.no ?_
      unfold aQueue
      rw [if_neg (fun q => (fa_of_lt q).2.1 c1), if_pos (fa_of_nlt c15)]
  · have c9 := fa_of_nle c1
    refine aw_aload_n dX11_queue_4 rfl ?_
    refine aw_iconst (v := 1) dX11_queue_5 rfl ?_
    refine aw_cV dX11_queue_6 kX11_186 mX11_refuse (sX11_refuse hM) (Nat.le_of_ble_eq_true rfl) hM.k ⟨by decide, rfl⟩ hM.b rfl rfl (Nat.le_of_ble_eq_true rfl) ⟨Nat.le_refl _, Nat.le_refl _⟩ ?_
    refine aw_iret q rfl dX11_queue_9 ⟨Nat.le_refl _, Nat.le_refl _⟩ ?_
    refine Tl.no ?_
    unfold aQueue
    rw [if_pos c9]
theorem l_inc {j : Nat} : nI j + (-1) + Int32.ofInt 1 = nI j := by
  rw [Int32.add_assoc, show (-1 : Int32) + Int32.ofInt 1 = 0 by decide, Int32.add_zero]
set_option maxHeartbeats 4000000 in
set_option maxRecDepth 100000 in
theorem rX11_lot (hM : IsM n sh m) {N : Nat → Int32} (hI : I (m + 1) = N) (hN : Cn N) (hR : Rg N) {x y : Int32} : CM yX11_lot cX11_lot 7 (Option.some .int) 7 0 0 [.ref m, .int x, .int y] z n sh I L (Tl (aLot N x y) z n sh I L m) := by
  refine CM.go [some (.ref m), some (.int x), some (.int y), none, none, none, none] rfl rfl (Nat.le_of_ble_eq_true rfl) (fun X g q => ?_)
  have h8 := hN.p8
  have lb : ∀ (h r : Nat), h < 10 → r < lS N h (nPo N) → aLot N x y = ok (nI (fa_first (fun p => decide (r < lS N h (p + 1))) (nPo N))) → ∀ j, j ≤ nPo N → fa_first (fun p => decide (r < lS N h (p + 1))) (j - 1) = j - 1 → AW X g RX11 cX11_lot 7 (7, 0, 0) (z, n, sh, 0, 0) (I) (L) 117 [some (.ref m), some (.int x), some (.int y), some (.int (mAllC N h)), some (.int (nI (lS N h (nPo N)))), some (.int (nI r - nI (lS N h j))), some (.int (nI j + (-1)))] [] := by
    intro h r hh hr hA
    have hS := lS_le (h := h) hR (nPo N) (Nat.le_refl _)
    refine up_loop (fun j hj ih hfi => ?_)
    have hSj := lot_mono (N := N) (h := h) hj
    refine aw_iload dX11_lot_117 rfl ?_
    refine aw_if_lt (tgt := 153) dX11_lot_119 rfl (fun c119 => ?_) (fun c119 => ?_)
    · have hlt : r < lS N h j := by
        by_cases hlt : r < lS N h j
        · exact hlt
        · rw [pk_sub (by omega)] at c119
          exact absurd c119 (nI_pos (by omega))
      obtain ⟨i, rfl⟩ : ∃ i, j = i + 1 := by
        cases j with
        | zero => exact absurd hlt (Nat.not_lt_zero r)
        | succ i => exact ⟨i, rfl⟩
      refine aw_aload_n dX11_lot_153 rfl ?_
      refine aw_iload dX11_lot_154 rfl ?_
      refine aw_cV dX11_lot_156 kX11_199 mX11_gives (sX11_gives hM) (Nat.le_of_ble_eq_true rfl) hM.k ⟨by decide, rfl⟩ hM.b rfl rfl (Nat.le_of_ble_eq_true rfl) ⟨Nat.le_refl _, Nat.le_refl _⟩ ?_
      refine aw_iret q rfl dX11_lot_159 ⟨Nat.le_refl _, Nat.le_refl _⟩ ?_
      refine Tl.ok ?_
      rw [hA]
      have e1 : nI (i + 1) + (-1) = nI i := pk_m1 i
      rw [e1, fa_first_yes1 hfi (by simpa using hlt) (by omega)]
      rfl
    · have hge : lS N h j ≤ r := by
        by_cases hge : lS N h j ≤ r
        · exact hge
        · exact absurd (pk_sneg (by omega) (by omega)) c119
      have hlt : j < nPo N := by
        by_cases e : j = nPo N
        · subst e
          omega
        · omega
      refine aw_iinc dX11_lot_122 rfl (l_inc (j := j)) (by decide) rfl ?_
      refine aw_iload dX11_lot_125 rfl ?_
      refine aw_iload_n dX11_lot_127 rfl ?_
      refine aw_iload dX11_lot_128 rfl ?_
      refine aw_ishr dX11_lot_130 ?_
      refine aw_iconst (v := 1) dX11_lot_131 rfl ?_
      refine aw_iand dX11_lot_132 ?_
      refine aw_iconst (v := 1) dX11_lot_133 rfl ?_
      refine aw_icmp_ne (tgt := 146) dX11_lot_134 rfl (fun c134 => ?_) (fun c134 => ?_)
      · have hb := bt_f c134
        rw [bt_could h8 hlt] at hb
        refine aw_iconst (v := 0) dX11_lot_146 rfl ?_
        refine aw_isub dX11_lot_147 ?_
        refine aw_istore dX11_lot_148 (by decide) rfl ?_
        refine aw_goto (tgt := 117) dX11_lot_150 rfl ?_
        have hn : fa_first (fun p => decide (r < lS N h (p + 1))) (j + 1 - 1) = j + 1 - 1 := by
          show fa_first (fun p => decide (r < lS N h (p + 1))) j = j
          cases j with
          | zero => rfl
          | succ i => exact fa_first_no1 hfi (by simpa using hge)
        have := ih hlt hn
        have eS : lS N h (j + 1) = lS N h j := by
          show lS N h j + (if mCould N j h then wdN N j else 0) = _
          rw [hb]
          rfl
        rw [eS, pk_m1] at this
        rw [Int32.sub_zero]
        exact this
      · have hb := bt_t c134
        rw [bt_could h8 hlt] at hb
        refine aw_aload_n dX11_lot_137 rfl ?_
        refine aw_iload dX11_lot_138 rfl ?_
        refine aw_cV dX11_lot_140 kX11_353 mX11_weeksWaited (rX11_weeksWaited (p := j) hM hI hN rfl (by omega)) (Nat.le_of_ble_eq_true rfl) hM.k ⟨by decide, rfl⟩ hM.b rfl rfl (Nat.le_of_ble_eq_true rfl) ⟨Nat.le_refl _, Nat.le_refl _⟩ ?_
        refine aw_goto (tgt := 147) dX11_lot_143 rfl ?_
        refine aw_isub dX11_lot_147 ?_
        refine aw_istore dX11_lot_148 (by decide) rfl ?_
        refine aw_goto (tgt := 117) dX11_lot_150 rfl ?_
        have hn : fa_first (fun p => decide (r < lS N h (p + 1))) (j + 1 - 1) = j + 1 - 1 := by
          show fa_first (fun p => decide (r < lS N h (p + 1))) j = j
          cases j with
          | zero => rfl
          | succ i => exact fa_first_no1 hfi (by simpa using hge)
        have := ih hlt hn
        have eS : lS N h (j + 1) = lS N h j + wdN N j := by
          show lS N h j + (if mCould N j h then wdN N j else 0) = _
          rw [if_pos hb]
        rw [eS, pk_m1, ← nI_add, ← Int32.sub_sub, ← (wdN_n hR hlt).1] at this
        exact this
  have la : ∀ (h : Nat), h < 10 → x = nI h → (lS N h (nPo N) = 0 → aLot N x y = no 5) → (∃ v, y = nI v ∧ v ≤ 65536) → (¬ lS N h (nPo N) = 0 → aLot N x y = ok (nI (fa_first (fun p => decide (lotR y % lS N h (nPo N) < lS N h (p + 1))) (nPo N)))) → ∀ i, i ≤ nPo N → AW X g RX11 cX11_lot 7 (7, 0, 0) (z, n, sh, 0, 0) (I) (L) 43 [some (.ref m), some (.int x), some (.int y), some (.int (mAllC N h)), some (.int (nI (lS N h i))), some (.int (nI i)), none] [] := by
    intro h hh hx hA5 hy hA
    have hS := lS_le (h := h) hR (nPo N) (Nat.le_refl _)
    refine up_loop (fun i hi ih => ?_)
    refine aw_iload dX11_lot_43 rfl ?_
    refine aw_aload_n dX11_lot_45 rfl ?_
    refine aw_getR (b := m + 1) dX11_lot_46 fX11_7 hM.k hM.b rfl hM.r0 ?_
    refine aw_sipush (v := 231) dX11_lot_49 rfl ?_
    refine aw_ialdN (k := 231) dX11_lot_52 hM.k0 hM.b0 hM.l0 rfl (by decide) (by decide) ?_
    refine aw_icmp_ge (tgt := 87) dX11_lot_53 rfl (fun c53 => ?_) (fun c53 => ?_)
    · rw [hI] at c53
      have e := ge_t hN.p (by omega) hi c53
      subst e
      refine aw_iload dX11_lot_87 rfl ?_
      refine aw_if_ne (tgt := 98) dX11_lot_89 rfl (fun c89 => ?_) (fun c89 => ?_)
      · have c9 : ¬ lS N h (nPo N) = 0 := mt (nI_eq (b := 0) (by omega) (by decide)).mpr c89
        obtain ⟨v, hv, hv2⟩ := hy
        have er : lotR y = (75 * v + 74) % 65537 := by
          unfold lotR
          rw [hv, nI_clamp (by omega)]
        refine aw_bipush (v := 75) dX11_lot_98 rfl ?_
        refine aw_iload_n dX11_lot_100 rfl ?_
        refine aw_imul dX11_lot_101 ?_
        refine aw_bipush (v := 74) dX11_lot_102 rfl ?_
        refine aw_iadd dX11_lot_104 ?_
        refine aw_ldcw dX11_lot_105 qX11_356 ?_
        refine aw_irem dX11_lot_108 (by decide) ?_
        refine aw_iload dX11_lot_109 rfl ?_
        refine aw_irem dX11_lot_111 c89 ?_
        refine AW.top (y := nI (lotR y % lS N h (nPo N))) ?_ ?_
        · rw [hv]
          have e1 : (75 : Int32) * nI v = nI (75 * v) := pk_mul 75 v
          have e2 : nI (75 * v) + 74 = nI (75 * v + 74) := nI_add _ 74
          rw [e1, e2]
          have e3 : nI (75 * v + 74) - nI (75 * v + 74) / 65537 * 65537 = nI ((75 * v + 74) % 65537) := pk_rem (d := 65537) (by omega) (by decide) (by decide)
          rw [e3]
          have e4 := pk_rem (a := (75 * v + 74) % 65537) (d := lS N h (nPo N)) (by omega) (by omega) (by omega)
          rw [e4, ← hv, ← er]
        refine aw_istore dX11_lot_112 (by decide) rfl ?_
        refine aw_iconst (v := (-1)) dX11_lot_114 rfl ?_
        refine aw_istore dX11_lot_115 (by decide) rfl ?_
        have := lb h (lotR y % lS N h (nPo N)) hh (Nat.mod_lt _ (by omega)) (hA c9) 0 (Nat.zero_le _) rfl
        have e0 : nI (lotR y % lS N h (nPo N)) - nI (lS N h 0) = nI (lotR y % lS N h (nPo N)) := Int32.sub_zero _
        have e1 : nI 0 + (-1) = (-1 : Int32) := by decide
        rw [e0, e1] at this
        exact this
      · have c9 := (nI_eq (b := 0) (by omega) (by decide)).mp c89
        refine aw_aload_n dX11_lot_92 rfl ?_
        refine aw_iconst (v := 5) dX11_lot_93 rfl ?_
        refine aw_cV dX11_lot_94 kX11_186 mX11_refuse (sX11_refuse hM) (Nat.le_of_ble_eq_true rfl) hM.k ⟨by decide, rfl⟩ hM.b rfl rfl (Nat.le_of_ble_eq_true rfl) ⟨Nat.le_refl _, Nat.le_refl _⟩ ?_
        refine aw_iret q rfl dX11_lot_97 ⟨Nat.le_refl _, Nat.le_refl _⟩ ?_
        exact Tl.no (hA5 c9)
    · rw [hI] at c53
      have hlt := ge_f hN.p (by omega) hi c53
      refine aw_iload dX11_lot_56 rfl ?_
      refine aw_iload_n dX11_lot_58 rfl ?_
      refine aw_iload dX11_lot_59 rfl ?_
      refine aw_ishr dX11_lot_61 ?_
      refine aw_iconst (v := 1) dX11_lot_62 rfl ?_
      refine aw_iand dX11_lot_63 ?_
      refine aw_iconst (v := 1) dX11_lot_64 rfl ?_
      refine aw_icmp_ne (tgt := 77) dX11_lot_65 rfl (fun c65 => ?_) (fun c65 => ?_)
      · have hb := bt_f c65
        rw [bt_could h8 hlt] at hb
        refine aw_iconst (v := 0) dX11_lot_77 rfl ?_
        refine aw_iadd dX11_lot_78 ?_
        refine aw_istore dX11_lot_79 (by decide) rfl ?_
        refine aw_iinc dX11_lot_81 rfl (ginc rfl) (by decide) rfl ?_
        refine aw_goto (tgt := 43) dX11_lot_84 rfl ?_
        have := ih hlt
        rw [show lS N h (i + 1) = lS N h i from by
          show lS N h i + (if mCould N i h then wdN N i else 0) = _
          rw [hb]
          rfl] at this
        rw [Int32.add_zero]
        exact this
      · have hb := bt_t c65
        rw [bt_could h8 hlt] at hb
        refine aw_aload_n dX11_lot_68 rfl ?_
        refine aw_iload dX11_lot_69 rfl ?_
        refine aw_cV dX11_lot_71 kX11_353 mX11_weeksWaited (rX11_weeksWaited (p := i) hM hI hN rfl (by omega)) (Nat.le_of_ble_eq_true rfl) hM.k ⟨by decide, rfl⟩ hM.b rfl rfl (Nat.le_of_ble_eq_true rfl) ⟨Nat.le_refl _, Nat.le_refl _⟩ ?_
        refine aw_goto (tgt := 78) dX11_lot_74 rfl ?_
        refine aw_iadd dX11_lot_78 ?_
        refine aw_istore dX11_lot_79 (by decide) rfl ?_
        refine aw_iinc dX11_lot_81 rfl (ginc rfl) (by decide) rfl ?_
        refine aw_goto (tgt := 43) dX11_lot_84 rfl ?_
        have := ih hlt
        rw [show lS N h (i + 1) = lS N h i + wdN N i from by
          show lS N h i + (if mCould N i h then wdN N i else 0) = _
          rw [if_pos hb], ← nI_add, ← (wdN_n hR hlt).1] at this
        exact this
  refine aw_iload_n dX11_lot_0 rfl ?_
  refine aw_iconst (v := 0) dX11_lot_1 rfl ?_
  refine aw_ldcw dX11_lot_2 qX11_352 ?_
  refine aw_cS dX11_lot_5 kX11_71 mX11_isFrom (sX11_isFrom hM) (Nat.le_of_ble_eq_true rfl) rfl rfl (Nat.le_of_ble_eq_true rfl) ⟨Nat.le_refl _, Nat.le_refl _⟩ ?_
  refine aw_if_ne (tgt := 17) dX11_lot_8 rfl (fun c8 => ?_) (fun c8 => ?_)
  · have c9 := bI1.mp c8
    have hy : ∃ v, y = nI v ∧ v ≤ 65536 := by
      have g9 : 0 ≤ y ∧ y ≤ 65536 := by simpa [mFrom] using c9
      obtain ⟨v, v1, -, v3⟩ := rng (x := 0) (y := 65536) (by decide) g9.1 g9.2 (by decide)
      exact ⟨v, v1, v3⟩
    refine aw_aload_n dX11_lot_17 rfl ?_
    refine aw_iload_n dX11_lot_18 rfl ?_
    refine aw_cV dX11_lot_19 kX11_238 mX11_isHome (rX11_isHome hM hI) (Nat.le_of_ble_eq_true rfl) hM.k ⟨by decide, rfl⟩ hM.b rfl rfl (Nat.le_of_ble_eq_true rfl) ⟨Nat.le_refl _, Nat.le_refl _⟩ ?_
    refine aw_if_ne (tgt := 31) dX11_lot_22 rfl (fun c22 => ?_) (fun c22 => ?_)
    · have f22 := bI1.mp c22
      obtain ⟨h, hhn, rfl⟩ := from_ix hN.h (by have := hN.h10; omega) f22
      have hh10 : h < 10 := by have := hN.h10; omega
      have eh := nI_clamp (show h < 2 ^ 31 by omega)
      refine aw_aload_n dX11_lot_31 rfl ?_
      refine aw_iload_n dX11_lot_32 rfl ?_
      refine aw_cV dX11_lot_33 kX11_349 mX11_allThatCould (rX11_allThatCould (h := h) hM hI hN rfl (by omega)) (Nat.le_of_ble_eq_true rfl) hM.k ⟨by decide, rfl⟩ hM.b rfl rfl (Nat.le_of_ble_eq_true rfl) ⟨Nat.le_refl _, Nat.le_refl _⟩ ?_
      refine aw_istore_n dX11_lot_36 (by decide) rfl ?_
      refine aw_iconst (v := 0) dX11_lot_37 rfl ?_
      refine aw_istore dX11_lot_38 (by decide) rfl ?_
      refine aw_iconst (v := 0) dX11_lot_40 rfl ?_
      refine aw_istore dX11_lot_41 (by decide) rfl ?_
      refine la h hh10 rfl ?_ hy ?_ 0 (Nat.zero_le _)
      · intro h0
        unfold aLot
        rw [c9, f22, eh]
        simp [h0]
      · intro h0
        unfold aLot
        rw [c9, f22, eh]
        simp [h0]
    · have d9 := bI0.mp c22
      refine aw_aload_n dX11_lot_25 rfl ?_
      refine aw_iconst (v := 2) dX11_lot_26 rfl ?_
      refine aw_cV dX11_lot_27 kX11_186 mX11_refuse (sX11_refuse hM) (Nat.le_of_ble_eq_true rfl) hM.k ⟨by decide, rfl⟩ hM.b rfl rfl (Nat.le_of_ble_eq_true rfl) ⟨Nat.le_refl _, Nat.le_refl _⟩ ?_
      refine aw_iret q rfl dX11_lot_30 ⟨Nat.le_refl _, Nat.le_refl _⟩ ?_
      refine Tl.no ?_
      unfold aLot
      rw [c9, d9]
      rfl
  · have c9 := bI0.mp c8
    refine aw_aload_n dX11_lot_11 rfl ?_
    refine aw_iconst (v := 1) dX11_lot_12 rfl ?_
    refine aw_cV dX11_lot_13 kX11_186 mX11_refuse (sX11_refuse hM) (Nat.le_of_ble_eq_true rfl) hM.k ⟨by decide, rfl⟩ hM.b rfl rfl (Nat.le_of_ble_eq_true rfl) ⟨Nat.le_refl _, Nat.le_refl _⟩ ?_
    refine aw_iret q rfl dX11_lot_16 ⟨Nat.le_refl _, Nat.le_refl _⟩ ?_
    refine Tl.no ?_
    unfold aLot
    rw [c9]
    rfl
end RefS
