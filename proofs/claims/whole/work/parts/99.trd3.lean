section ClsS
variable {z n : Nat} {sh : Shp} {I : MI} {L : ML} {N : Nat → Int32} {Q : Nat → Int64}
set_option maxHeartbeats 4000000 in
set_option maxRecDepth 100000 in
theorem sX9_work (hX : IsX n sh) (hC : CtS I L 1 N Q) (hIv : Iv N)  : CM yX9_work cX9_work 3 (Option.none : Option FieldType) 4 0 0 [.ref 493, .ref 1] z n sh I L (Ef none (WkP N I) z n sh L) := by
  refine CM.go [some (.ref 493), some (.ref 1), none] rfl rfl (Nat.le_of_ble_eq_true rfl) (fun X g q => ?_)
  have hO := hIv.ok
  have hN := hO.1
  have hR := hO.2.1
  have hB := hO.2.2.1
  have hE := hO.2.2.2
  have h8 := hN.p8
  have h10 := hN.h10
  have hS := hX.now
  have hCo := hIv.co
  have l3 : ∀ i, i ≤ 8 → ∀ (t : TSt) (J : MI), tAll N (8 - i) t = tEnd N → WkI N i t I J → AW X g RX9 cX9_work 3 (4, 0, 0) (z, n, sh, 0, 0) (J) (L) 84 [some (.ref 493), some (.ref 1), some (.int (nI i))] [] := by
    refine up_loop (fun i hi ih t J hE hW => ?_)
    have hJ : CtS J L 1 N Q := hW.td.ct hC hN
    have hv8 := hW.lv.1
    have hun := hW.un
    refine aw_iload_n dX9_work_84 rfl ?_
    refine aw_bipush (v := 8) dX9_work_85 rfl ?_
    refine aw_icmp_ge (tgt := 117) dX9_work_87 rfl (fun c87 => ?_) (fun c87 => ?_)
    · have e8 : i = 8 := ge_t (y := 8) (B := 8) rfl (by decide) hi c87
      refine aw_vret q rfl dX9_work_117 ⟨Nat.le_refl _, Nat.le_refl _⟩ ?_
      have h9 : t = tEnd N := by rw [← hE, e8]; rfl
      have hz : t.1 = 0 := pcn_0 (by omega) (by have := hW.few; omega)
      exact ⟨rfl, rfl, rfl, rfl, rfl, hW.fin hN hz h9⟩
    · have hlt := ge_f (y := 8) (B := 8) rfl (by decide) hi c87
      refine aw_aload_n dX9_work_90 rfl ?_
      refine aw_getI dX9_work_91 fX9_18 hX.trd.1 (hX.lt (by decide)) rfl ?_
      refine AW.top hun ?_
      refine aw_if_eq (tgt := 117) dX9_work_94 rfl (fun c94 => ?_) (fun c94 => ?_)
      · have hz : t.1 = 0 := (nI_eq (b := 0) (by omega) (by decide)).mp c94
        refine aw_vret q rfl dX9_work_117 ⟨Nat.le_refl _, Nat.le_refl _⟩ ?_
        have h9 : t = tEnd N := by
          rw [← hE, show 8 - i = (7 - i) + 1 by omega]
          exact (if_pos hz).symm
        exact ⟨rfl, rfl, rfl, rfl, rfl, hW.fin hN hz h9⟩
      · have hz : ¬ t.1 = 0 := mt (nI_eq (b := 0) (by omega) (by decide)).mpr c94
        obtain ⟨z1, z2, -⟩ := ctz_all t.1 hv8 hz
        have hit := itr_in hCo hN hW.lv 8 (ctz t.1) z1 z2
        refine aw_aload_n dX9_work_97 rfl ?_
        refine aw_aload_n dX9_work_98 rfl ?_
        refine aw_eV dX9_work_99 kX9_45 mX9_lookRound (sX9_lookRound hX hJ hIv hun hW.lv) (Nat.le_of_ble_eq_true rfl) hX.trd.1 ⟨by decide, rfl⟩ (hX.lt (by decide)) rfl rfl (Nat.le_of_ble_eq_true rfl) ⟨Nat.le_refl _, Nat.le_refl _⟩ (fun J1 h1 => ?_)
        obtain ⟨h1a, h1b⟩ := h1
        have hJ1 : CtS J1 L 1 N Q := hJ.fr hN (fun a ha => h1a _ (by omega)) (fun a ha => rfl)
        have hu1 : J1 493 2 = nI t.1 := (congrFun (h1a 493 (by decide)) 2).trans hun
        refine aw_aload_n dX9_work_102 rfl ?_
        refine aw_aload_n dX9_work_103 rfl ?_
        refine aw_aload_n dX9_work_104 rfl ?_
        refine aw_cV dX9_work_105 kX9_49 mX9_someoneInCircle (sX9_someoneInCircle hX hJ1 hIv hu1 hW.lv h1b hz) (Nat.le_of_ble_eq_true rfl) hX.trd.1 ⟨by decide, rfl⟩ (hX.lt (by decide)) rfl rfl (Nat.le_of_ble_eq_true rfl) ⟨Nat.le_refl _, Nat.le_refl _⟩ ?_
        refine aw_eV dX9_work_108 kX9_53 mX9_tradeCircle (sX9_tradeCircle hX hJ1 hIv hu1 hW.lv rfl hit.1 hit.2 h1b) (Nat.le_of_ble_eq_true rfl) hX.trd.1 ⟨by decide, rfl⟩ (hX.lt (by decide)) rfl rfl (Nat.le_of_ble_eq_true rfl) ⟨Nat.le_refl _, Nat.le_refl _⟩ (fun J2 h2a => ?_)
        
        refine aw_iinc dX9_work_111 rfl (ginc rfl) (by decide) rfl ?_
        refine aw_goto (tgt := 84) dX9_work_114 rfl ?_
        refine ih hlt _ _ ?_ (hW.step hCo hN hz h1a h2a)
        rw [← hE, show 8 - i = (8 - (i + 1)) + 1 by omega]
        exact (if_neg hz).symm
  have l2 : ∀ i, i ≤ nPo N → ∀ (J : MI), TdF I J → J 493 2 = iset (fun p => !decide (N (80 + 18 * p + 4) = -1)) i → J 493 3 = 0 → J 493 4 = 0 → J 493 5 = 0 → (∀ p, p < 8 → J 495 p = -1) → AW X g RX9 cX9_work 3 (4, 0, 0) (z, n, sh, 0, 0) (J) (L) 43 [some (.ref 493), some (.ref 1), some (.int (nI i))] [] := by
    refine up_loop (fun i hi ih J hF hU h3 h4 h5 hg => ?_)
    have hJ : CtS J L 1 N Q := hF.ct hC hN
    refine aw_iload_n dX9_work_43 rfl ?_
    refine aw_aload_n dX9_work_44 rfl ?_
    refine aw_getI dX9_work_45 fX9_31 hS.k hS.b0 rfl ?_
    refine AW.top (hJ.np.trans hN.p) ?_
    refine aw_icmp_ge (tgt := 82) dX9_work_48 rfl (fun c48 => ?_) (fun c48 => ?_)
    · have e := ge_t rfl (by omega) hi c48
      subst e
      refine aw_iconst (v := 0) dX9_work_82 rfl ?_
      refine aw_istore_n dX9_work_83 (by decide) rfl ?_
      exact l3 0 (Nat.zero_le _) (livS N, fun _ => 0, 0, 0) J rfl (WkI.start hN hF (hU.trans (iset_n _ _ (by omega))) h3 h4 h5 hg)
    · have hlt := ge_f rfl (by omega) hi c48
      refine aw_aload_n dX9_work_51 rfl ?_
      refine aw_getR (b := 1 + 12) dX9_work_52 fX9_36 hS.k hS.b0 rfl hS.r1 ?_
      refine aw_iload_n dX9_work_55 rfl ?_
      refine aw_houses (p := i) hS rfl (by omega) dX9_work_56 ?_
      refine aw_getI dX9_work_57 fX9_40 (hS.po (by omega)) (hS.pb (by omega)) rfl ?_
      refine AW.top (hJ.pf h8 (p := i) (w := 4) (by omega) (by decide) (by decide) (by decide)) ?_
      refine aw_iconst (v := (-1)) dX9_work_60 rfl ?_
      refine aw_icmp_eq (tgt := 76) dX9_work_61 rfl (fun c61 => ?_) (fun c61 => ?_)
      · refine aw_iinc dX9_work_76 rfl (ginc rfl) (by decide) rfl ?_
        refine aw_goto (tgt := 43) dX9_work_79 rfl ?_
        have hst : iset (fun p => !decide (N (80 + 18 * p + 4) = -1)) (i + 1) = iset (fun p => !decide (N (80 + 18 * p + 4) = -1)) i := by
          rw [iset_or (by omega)]
          simp [c61]
        exact ih hlt J hF (hU.trans hst.symm) h3 h4 h5 hg
      · refine aw_aload_n dX9_work_64 rfl ?_
        refine aw_dup dX9_work_65 rfl ?_
        refine aw_getI dX9_work_66 fX9_18 hX.trd.1 (hX.lt (by decide)) rfl ?_
        refine AW.top hU ?_
        refine aw_iconst (v := 1) dX9_work_69 rfl ?_
        refine aw_iload_n dX9_work_70 rfl ?_
        refine aw_ishl dX9_work_71 ?_
        refine AW.top (shl_8 i (by omega)) ?_
        refine aw_ior dX9_work_72 ?_
        refine aw_putI dX9_work_73 fX9_18 hX.trd.1 (hX.lt (by decide)) rfl rfl ?_
        refine aw_iinc dX9_work_76 rfl (ginc rfl) (by decide) rfl ?_
        refine aw_goto (tgt := 43) dX9_work_79 rfl ?_
        have hst : iset (fun p => !decide (N (80 + 18 * p + 4) = -1)) (i + 1) = iset (fun p => !decide (N (80 + 18 * p + 4) = -1)) i ||| nI (2 ^ i) := by
          rw [iset_or (by omega)]
          simp [c61]
        refine ih hlt _ (hF.put (by omega)) (upI_s.trans hst.symm) ?_ ?_ ?_ (fun p hp => (upI_n (Or.inl (by decide))).trans (hg p hp))
        · exact (upI_n (Or.inr (by decide))).trans h3
        · exact (upI_n (Or.inr (by decide))).trans h4
        · exact (upI_n (Or.inr (by decide))).trans h5
  have l1 : ∀ i, i ≤ 8 → ∀ (J : MI), TdF I J → J 493 2 = 0 → J 493 3 = 0 → J 493 4 = 0 → J 493 5 = 0 → (∀ p, p < i → J 495 p = -1) → AW X g RX9 cX9_work 3 (4, 0, 0) (z, n, sh, 0, 0) (J) (L) 22 [some (.ref 493), some (.ref 1), some (.int (nI i))] [] := by
    refine up_loop (fun i hi ih J hF h2 h3 h4 h5 hg => ?_)
    refine aw_iload_n dX9_work_22 rfl ?_
    refine aw_bipush (v := 8) dX9_work_23 rfl ?_
    refine aw_icmp_ge (tgt := 41) dX9_work_25 rfl (fun c25 => ?_) (fun c25 => ?_)
    · have e := ge_t (y := 8) (B := 8) rfl (by decide) hi c25
      subst e
      refine aw_iconst (v := 0) dX9_work_41 rfl ?_
      refine aw_istore_n dX9_work_42 (by decide) rfl ?_
      exact l2 0 (Nat.zero_le _) J hF h2 h3 h4 h5 hg
    · have hlt := ge_f (y := 8) (B := 8) rfl (by decide) hi c25
      refine aw_aload_n dX9_work_28 rfl ?_
      refine aw_getR (b := 495) dX9_work_29 fX9_15 hX.trd.1 (hX.lt (by decide)) rfl hX.trd.2.2.1 ?_
      refine aw_iload_n dX9_work_32 rfl ?_
      refine aw_iconst (v := (-1)) dX9_work_33 rfl ?_
      refine aw_iastN (k := i) dX9_work_34 hX.trd.2.2.2.2.1 (hX.lt (by decide)) hX.trd.2.2.2.2.2 rfl (by omega) (by decide) ?_
      refine aw_iinc dX9_work_35 rfl (ginc rfl) (by decide) rfl ?_
      refine aw_goto (tgt := 22) dX9_work_38 rfl ?_
      refine ih hlt _ (hF.put (by omega)) ?_ ?_ ?_ ?_ (fun p hp => ?_)
      · exact (upI_n (Or.inl (by decide))).trans h2
      · exact (upI_n (Or.inl (by decide))).trans h3
      · exact (upI_n (Or.inl (by decide))).trans h4
      · exact (upI_n (Or.inl (by decide))).trans h5
      · by_cases e : p = i
        · subst e; exact upI_s
        · exact (upI_n (Or.inr e)).trans (hg p (by omega))
  refine aw_aload_n dX9_work_0 rfl ?_
  refine aw_iconst (v := 0) dX9_work_1 rfl ?_
  refine aw_putI dX9_work_2 fX9_18 hX.trd.1 (hX.lt (by decide)) rfl rfl ?_
  refine aw_aload_n dX9_work_5 rfl ?_
  refine aw_iconst (v := 0) dX9_work_6 rfl ?_
  refine aw_putI dX9_work_7 fX9_22 hX.trd.1 (hX.lt (by decide)) rfl rfl ?_
  refine aw_aload_n dX9_work_10 rfl ?_
  refine aw_iconst (v := 0) dX9_work_11 rfl ?_
  refine aw_putI dX9_work_12 fX9_25 hX.trd.1 (hX.lt (by decide)) rfl rfl ?_
  refine aw_aload_n dX9_work_15 rfl ?_
  refine aw_iconst (v := 0) dX9_work_16 rfl ?_
  refine aw_putI dX9_work_17 fX9_28 hX.trd.1 (hX.lt (by decide)) rfl rfl ?_
  refine aw_iconst (v := 0) dX9_work_20 rfl ?_
  refine aw_istore_n dX9_work_21 (by decide) rfl ?_
  refine l1 0 (Nat.zero_le _) _ ((((TdF.rf.put (by omega)).put (by omega)).put (by omega)).put (by omega)) ?_ ?_ ?_ ?_ (fun p hp => absurd hp (Nat.not_lt_zero p))
  · rw [upI_n (Or.inr (by decide)), upI_n (Or.inr (by decide)), upI_n (Or.inr (by decide)), upI_s]
  · rw [upI_n (Or.inr (by decide)), upI_n (Or.inr (by decide)), upI_s]
  · rw [upI_n (Or.inr (by decide)), upI_s]
  · exact upI_s
set_option maxHeartbeats 4000000 in
set_option maxRecDepth 100000 in
theorem sX10_trade (hX : IsX n sh) (hC : CtS I L 1 N Q) (hIv : Iv N) {x : Int32} : CM yX10_trade cX10_trade 3 (Option.some .int) 5 0 0 [.ref 0, .int x] z n sh I L (Cw 493 496 (aTrade N x) z n sh I L) := by
  refine CM.go [some (.ref 0), some (.int x), none] rfl rfl (Nat.le_of_ble_eq_true rfl) (fun X g q => ?_)
  have hO := hIv.ok
  have hN := hO.1
  have hR := hO.2.1
  have hB := hO.2.2.1
  have hE := hO.2.2.2
  have h8 := hN.p8
  have h10 := hN.h10
  have hS := hX.now
  cases h9x : mFrom x 0 (N 231 - 1) with
  | false =>
    refine aw_aload_n dX10_trade_0 rfl ?_
    refine aw_getR (b := 1) dX10_trade_1 fX10_10 hX.k hX.b rfl hX.r0 ?_
    refine aw_iload_n dX10_trade_4 rfl ?_
    refine aw_cV dX10_trade_5 kX10_176 mX7_houseAt (sX7_houseAtN hS hC hO h9x) (Nat.le_of_ble_eq_true rfl) hS.k ⟨by decide, rfl⟩ hS.b0 rfl rfl (Nat.le_of_ble_eq_true rfl) ⟨Nat.le_refl _, Nat.le_refl _⟩ ?_
    refine aw_astore_nN dX10_trade_8 (by decide) rfl ?_
    refine aw_aload_nN dX10_trade_9 rfl ?_
    refine aw_ifnonnullN dX10_trade_10 ?_
    refine aw_aload_n dX10_trade_13 rfl ?_
    refine aw_iconst (v := 2) dX10_trade_14 rfl ?_
    refine aw_cV dX10_trade_15 kX10_76 mX10_fail (sX10_fail hX) (Nat.le_of_ble_eq_true rfl) hX.k ⟨by decide, rfl⟩ hX.b rfl rfl (Nat.le_of_ble_eq_true rfl) ⟨Nat.le_refl _, Nat.le_refl _⟩ ?_
    refine aw_iret q rfl dX10_trade_18 ⟨Nat.le_refl _, Nat.le_refl _⟩ ?_
    refine Cw.no ?_ (fun _ _ => rfl)
    unfold aTrade
    rw [h9x]
    rfl
  | true =>
    obtain ⟨p, hp, rfl⟩ := from_ix hN.p (by omega) h9x
    have e9p : (nI p).toNatClampNeg = p := nI_clamp (by omega)
    refine aw_aload_n dX10_trade_0 rfl ?_
    refine aw_getR (b := 1) dX10_trade_1 fX10_10 hX.k hX.b rfl hX.r0 ?_
    refine aw_iload_n dX10_trade_4 rfl ?_
    refine aw_cV dX10_trade_5 kX10_176 mX7_houseAt (sX7_houseAt hS hC hO rfl hp) (Nat.le_of_ble_eq_true rfl) hS.k ⟨by decide, rfl⟩ hS.b0 rfl rfl (Nat.le_of_ble_eq_true rfl) ⟨Nat.le_refl _, Nat.le_refl _⟩ ?_
    refine aw_astore_n dX10_trade_8 (by decide) rfl ?_
    refine aw_aload_n dX10_trade_9 rfl ?_
    refine aw_ifnonnull (tgt := 19) dX10_trade_10 rfl ?_
    refine aw_aload_n dX10_trade_19 rfl ?_
    refine aw_getR (b := 493) dX10_trade_20 fX10_57 hX.k hX.b rfl hX.r7 ?_
    refine aw_aload_n dX10_trade_23 rfl ?_
    refine aw_getR (b := 1) dX10_trade_24 fX10_10 hX.k hX.b rfl hX.r0 ?_
    refine aw_eV dX10_trade_27 kX10_334 mX9_work (sX9_work hX hC hIv) (Nat.le_of_ble_eq_true rfl) hX.trd.1 ⟨by decide, rfl⟩ (hX.lt (by decide)) rfl rfl (Nat.le_of_ble_eq_true rfl) ⟨Nat.le_refl _, Nat.le_refl _⟩ (fun J hW => ?_)
    obtain ⟨w1, w2, w3, w4, w5⟩ := hW
    refine aw_aload_n dX10_trade_30 rfl ?_
    refine aw_aload_n dX10_trade_31 rfl ?_
    refine aw_getR (b := 493) dX10_trade_32 fX10_57 hX.k hX.b rfl hX.r7 ?_
    refine aw_iload_n dX10_trade_35 rfl ?_
    refine aw_cV dX10_trade_36 kX10_337 mX9_gotBy (sX9_gotBy hX (k := p) rfl (by omega)) (Nat.le_of_ble_eq_true rfl) hX.trd.1 ⟨by decide, rfl⟩ (hX.lt (by decide)) rfl rfl (Nat.le_of_ble_eq_true rfl) ⟨Nat.le_refl _, Nat.le_refl _⟩ ?_
    refine aw_cV dX10_trade_39 kX10_147 mX10_answerIfAny (sX10_answerIfAny hX) (Nat.le_of_ble_eq_true rfl) hX.k ⟨by decide, rfl⟩ hX.b rfl rfl (Nat.le_of_ble_eq_true rfl) ⟨Nat.le_refl _, Nat.le_refl _⟩ ?_
    refine aw_iret q rfl dX10_trade_42 ⟨Nat.le_refl _, Nat.le_refl _⟩ ?_
    refine Cw.any ?_ w1.out
    unfold aTrade aAny
    obtain ⟨w5, w6⟩ := w5 p hp
    rw [h9x, e9p, w5]
    by_cases e : N (80 + 18 * p + 4) = -1
    · simp [e]
    · have hm : ¬ nI ((tEnd N).2.1 p) = -1 := nI_ne_m1 (by omega)
      simp [e, hm]
set_option maxHeartbeats 4000000 in
set_option maxRecDepth 100000 in
theorem sX10_trades (hX : IsX n sh) (hC : CtS I L 1 N Q) (hIv : Iv N) {x : Int32} : CM yX10_trades cX10_trades 2 (Option.some .int) 5 0 0 [.ref 0, .int x] z n sh I L (Cw 493 496 (aTrades N x) z n sh I L) := by
  refine CM.go [some (.ref 0), some (.int x)] rfl rfl (Nat.le_of_ble_eq_true rfl) (fun X g q => ?_)
  have hO := hIv.ok
  have hN := hO.1
  have hR := hO.2.1
  have hB := hO.2.2.1
  have hE := hO.2.2.2
  have h8 := hN.p8
  have h10 := hN.h10
  have hS := hX.now
  refine aw_iload_n dX10_trades_0 rfl ?_
  refine aw_if_lt (tgt := 9) dX10_trades_1 rfl (fun c1 => ?_) (fun c1 => ?_)
  · have hw := from_neg (b := 2) c1
    refine aw_aload_n dX10_trades_9 rfl ?_
    refine aw_iconst (v := 1) dX10_trades_10 rfl ?_
    refine aw_cV dX10_trades_11 kX10_76 mX10_fail (sX10_fail hX) (Nat.le_of_ble_eq_true rfl) hX.k ⟨by decide, rfl⟩ hX.b rfl rfl (Nat.le_of_ble_eq_true rfl) ⟨Nat.le_refl _, Nat.le_refl _⟩ ?_
    refine aw_iret q rfl dX10_trades_14 ⟨Nat.le_refl _, Nat.le_refl _⟩ ?_
    refine Cw.no ?_ (fun _ _ => rfl)
    unfold aTrades
    rw [hw]
    rfl
  · skip
    refine aw_iload_n dX10_trades_4 rfl ?_
    refine aw_iconst (v := 2) dX10_trades_5 rfl ?_
    refine aw_icmp_le (tgt := 15) dX10_trades_6 rfl (fun c6 => ?_) (fun c6 => ?_)
    · have hw := from_in c1 c6
      refine aw_aload_n dX10_trades_15 rfl ?_
      refine aw_getR (b := 493) dX10_trades_16 fX10_57 hX.k hX.b rfl hX.r7 ?_
      refine aw_aload_n dX10_trades_19 rfl ?_
      refine aw_getR (b := 1) dX10_trades_20 fX10_10 hX.k hX.b rfl hX.r0 ?_
      refine aw_eV dX10_trades_23 kX10_334 mX9_work (sX9_work hX hC hIv) (Nat.le_of_ble_eq_true rfl) hX.trd.1 ⟨by decide, rfl⟩ (hX.lt (by decide)) rfl rfl (Nat.le_of_ble_eq_true rfl) ⟨Nat.le_refl _, Nat.le_refl _⟩ (fun J hW => ?_)
      obtain ⟨w1, w2, w3, w4, w5⟩ := hW
      refine aw_iload_n dX10_trades_26 rfl ?_
      refine aw_if_ne (tgt := 42) dX10_trades_27 rfl (fun c27 => ?_) (fun c27 => ?_)
      · have c27 : ¬ x = 0 := c27
        refine aw_aload_n dX10_trades_42 rfl ?_
        refine aw_iload_n dX10_trades_43 rfl ?_
        refine aw_iconst (v := 1) dX10_trades_44 rfl ?_
        refine aw_icmp_ne (tgt := 58) dX10_trades_45 rfl (fun c45 => ?_) (fun c45 => ?_)
        · have c45 : ¬ x = 1 := c45
          refine aw_aload_n dX10_trades_58 rfl ?_
          refine aw_getR (b := 493) dX10_trades_59 fX10_57 hX.k hX.b rfl hX.r7 ?_
          refine aw_getI dX10_trades_62 fX10_346 hX.trd.1 (hX.lt (by decide)) rfl ?_
          refine aw_cV dX10_trades_65 kX10_94 mX10_answer (sX10_answer hX) (Nat.le_of_ble_eq_true rfl) hX.k ⟨by decide, rfl⟩ hX.b rfl rfl (Nat.le_of_ble_eq_true rfl) ⟨Nat.le_refl _, Nat.le_refl _⟩ ?_
          refine aw_iret q rfl dX10_trades_68 ⟨Nat.le_refl _, Nat.le_refl _⟩ ?_
          refine Cw.ok ?_ w1.out
          unfold aTrades
          rw [hw, if_neg c27, if_neg c45, w4]
          rfl
        · skip
          refine aw_aload_n dX10_trades_48 rfl ?_
          refine aw_getR (b := 493) dX10_trades_49 fX10_57 hX.k hX.b rfl hX.r7 ?_
          refine aw_getI dX10_trades_52 fX10_343 hX.trd.1 (hX.lt (by decide)) rfl ?_
          refine aw_goto (tgt := 65) dX10_trades_55 rfl ?_
          refine aw_cV dX10_trades_65 kX10_94 mX10_answer (sX10_answer hX) (Nat.le_of_ble_eq_true rfl) hX.k ⟨by decide, rfl⟩ hX.b rfl rfl (Nat.le_of_ble_eq_true rfl) ⟨Nat.le_refl _, Nat.le_refl _⟩ ?_
          refine aw_iret q rfl dX10_trades_68 ⟨Nat.le_refl _, Nat.le_refl _⟩ ?_
          refine Cw.ok ?_ w1.out
          unfold aTrades
          rw [hw, c45, w3]
          rfl
      · skip
        refine aw_aload_n dX10_trades_30 rfl ?_
        refine aw_aload_n dX10_trades_31 rfl ?_
        refine aw_getR (b := 493) dX10_trades_32 fX10_57 hX.k hX.b rfl hX.r7 ?_
        refine aw_getI dX10_trades_35 fX10_340 hX.trd.1 (hX.lt (by decide)) rfl ?_
        refine aw_cV dX10_trades_38 kX10_94 mX10_answer (sX10_answer hX) (Nat.le_of_ble_eq_true rfl) hX.k ⟨by decide, rfl⟩ hX.b rfl rfl (Nat.le_of_ble_eq_true rfl) ⟨Nat.le_refl _, Nat.le_refl _⟩ ?_
        refine aw_iret q rfl dX10_trades_41 ⟨Nat.le_refl _, Nat.le_refl _⟩ ?_
        refine Cw.ok ?_ w1.out
        unfold aTrades
        rw [hw, c27, w2]
        rfl
    · have hw := from_gt (a := 0) c6
      refine aw_aload_n dX10_trades_9 rfl ?_
      refine aw_iconst (v := 1) dX10_trades_10 rfl ?_
      refine aw_cV dX10_trades_11 kX10_76 mX10_fail (sX10_fail hX) (Nat.le_of_ble_eq_true rfl) hX.k ⟨by decide, rfl⟩ hX.b rfl rfl (Nat.le_of_ble_eq_true rfl) ⟨Nat.le_refl _, Nat.le_refl _⟩ ?_
      refine aw_iret q rfl dX10_trades_14 ⟨Nat.le_refl _, Nat.le_refl _⟩ ?_
      refine Cw.no ?_ (fun _ _ => rfl)
      unfold aTrades
      rw [hw]
      rfl
end ClsS
