/-! the reference: trade, trades, out, thrown -/
section RefS
variable {z n m : Nat} {sh : Shp} {I : MI} {L : ML}
set_option maxHeartbeats 4000000 in
set_option maxRecDepth 100000 in
theorem rX11_trade (hM : IsM n sh m) {N : Nat → Int32} (hI : I (m + 1) = N) (hN : Cn N) (hC : Co N) {x : Int32} : CM yX11_trade cX11_trade 2 (Option.some .int) 6 0 0 [.ref m, .int x] z n sh I L (TlS (aTrade N x) z n sh I L m) := by
  refine CM.go [some (.ref m), some (.int x)] rfl rfl (Nat.le_of_ble_eq_true rfl) (fun X g q => ?_)
  refine aw_aload_n dX11_trade_0 rfl ?_
  refine aw_iload_n dX11_trade_1 rfl ?_
  refine aw_cV dX11_trade_2 kX11_244 mX11_isHouse (rX11_isHouse hM hI) (Nat.le_of_ble_eq_true rfl) hM.k ⟨by decide, rfl⟩ hM.b rfl rfl (Nat.le_of_ble_eq_true rfl) ⟨Nat.le_refl _, Nat.le_refl _⟩ ?_
  refine aw_if_ne (tgt := 14) dX11_trade_5 rfl (fun c5 => ?_) (fun c5 => ?_)
  · have f5 := bI1.mp c5
    obtain ⟨p, hpn, rfl⟩ := from_ix hN.p (by have := hN.p8; omega) f5
    have hp8 : p < 8 := by have := hN.p8; omega
    have ep := nI_clamp (show p < 2 ^ 31 by omega)
    refine aw_aload_n dX11_trade_14 rfl ?_
    refine aw_iload_n dX11_trade_15 rfl ?_
    refine aw_iconst (v := 4) dX11_trade_16 rfl ?_
    refine aw_cV dX11_trade_17 kX11_205 mX11_of (rX11_of (p := p) (w := 4) hM hI rfl rfl (by omega)) (Nat.le_of_ble_eq_true rfl) hM.k ⟨by decide, rfl⟩ hM.b rfl rfl (Nat.le_of_ble_eq_true rfl) ⟨Nat.le_refl _, Nat.le_refl _⟩ ?_
    refine aw_iconst (v := (-1)) dX11_trade_20 rfl ?_
    refine aw_icmp_ne (tgt := 30) dX11_trade_21 rfl (fun c21 => ?_) (fun c21 => ?_)
    · refine aw_aload_n dX11_trade_30 rfl ?_
      refine aw_callV dX11_trade_31 kX11_380 mX11_laysTrades (rX11_laysTrades hM hI hN hC) (Nat.le_of_ble_eq_true rfl) hM.k ⟨by decide, rfl⟩ hM.b rfl rfl (Nat.le_of_ble_eq_true rfl) ⟨Nat.le_refl _, Nat.le_refl _⟩ (fun v1 z1 n1 sh1 J1 M1 hp1 => ?_)
      obtain ⟨rfl, rfl, rfl, rfl, rfl, hF1, h241, h251, hR1⟩ := hp1
      refine aw_aload_n dX11_trade_34 rfl ?_
      refine aw_aload_n dX11_trade_35 rfl ?_
      refine aw_getR (b := m + 9) dX11_trade_36 fX11_42 hM.k hM.b rfl hM.r8 ?_
      refine aw_iload_n dX11_trade_39 rfl ?_
      refine aw_ialdN (k := p) dX11_trade_40 hM.k8 hM.b8 hM.l8 rfl (by omega) (by decide) ?_
      refine AW.top (hR1 p hpn c21) ?_
      refine aw_cV dX11_trade_41 kX11_199 mX11_gives (sX11_gives hM) (Nat.le_of_ble_eq_true rfl) hM.k ⟨by decide, rfl⟩ hM.b rfl rfl (Nat.le_of_ble_eq_true rfl) ⟨Nat.le_refl _, Nat.le_refl _⟩ ?_
      refine aw_iret q rfl dX11_trade_44 ⟨Nat.le_refl _, Nat.le_refl _⟩ ?_
      refine TlS.ok ?_ hF1.rsc
      have f5 : mFrom (nI p) 0 (N 231 - 1) = true := f5
      unfold aTrade
      rw [f5, ep]
      exact if_neg c21
    · refine aw_aload_n dX11_trade_24 rfl ?_
      refine aw_iconst (v := 5) dX11_trade_25 rfl ?_
      refine aw_cV dX11_trade_26 kX11_186 mX11_refuse (sX11_refuse hM) (Nat.le_of_ble_eq_true rfl) hM.k ⟨by decide, rfl⟩ hM.b rfl rfl (Nat.le_of_ble_eq_true rfl) ⟨Nat.le_refl _, Nat.le_refl _⟩ ?_
      refine aw_iret q rfl dX11_trade_29 ⟨Nat.le_refl _, Nat.le_refl _⟩ ?_
      refine TlS.no ?_ RSc.rf
      have f5 : mFrom (nI p) 0 (N 231 - 1) = true := f5
      unfold aTrade
      rw [f5, ep]
      exact if_pos c21
  · have d9 := bI0.mp c5
    refine aw_aload_n dX11_trade_8 rfl ?_
    refine aw_iconst (v := 2) dX11_trade_9 rfl ?_
    refine aw_cV dX11_trade_10 kX11_186 mX11_refuse (sX11_refuse hM) (Nat.le_of_ble_eq_true rfl) hM.k ⟨by decide, rfl⟩ hM.b rfl rfl (Nat.le_of_ble_eq_true rfl) ⟨Nat.le_refl _, Nat.le_refl _⟩ ?_
    refine aw_iret q rfl dX11_trade_13 ⟨Nat.le_refl _, Nat.le_refl _⟩ ?_
    refine TlS.no ?_ RSc.rf
    unfold aTrade
    rw [d9]
    rfl
set_option maxHeartbeats 4000000 in
set_option maxRecDepth 100000 in
theorem rX11_trades (hM : IsM n sh m) {N : Nat → Int32} (hI : I (m + 1) = N) (hN : Cn N) (hC : Co N) {x : Int32} : CM yX11_trades cX11_trades 4 (Option.some .int) 6 0 0 [.ref m, .int x] z n sh I L (TlS (aTrades N x) z n sh I L m) := by
  refine CM.go [some (.ref m), some (.int x), none, none] rfl rfl (Nat.le_of_ble_eq_true rfl) (fun X g q => ?_)
  have h8 := hN.p8
  have loop : ∀ (J : MI), TrF m I J → (∀ p, p < nPo N → ¬ N (80 + 18 * p + 4) = -1 → J (m + 9) p = nI ((tEnd N).2.1 p)) → mFrom x 0 2 = true → x = 0 → ∀ i, i ≤ nPo N → AW X g RX11 cX11_trades 4 (6, 0, 0) (z, n, sh, 0, 0) (J) (L) 48 [some (.ref m), some (.int x), some (.int (nI (fa_cnt (movP N) i))), some (.int (nI i))] [] := by
    intro J hF hR f9 hx
    have hI3 : J (m + 1) = N := (hF.1 _ (by omega) (by omega)).trans hI
    refine up_loop (fun i hi ih => ?_)
    refine aw_iload_n dX11_trades_48 rfl ?_
    refine aw_aload_n dX11_trades_49 rfl ?_
    refine aw_getR (b := m + 1) dX11_trades_50 fX11_7 hM.k hM.b rfl hM.r0 ?_
    refine aw_sipush (v := 231) dX11_trades_53 rfl ?_
    refine aw_ialdN (k := 231) dX11_trades_56 hM.k0 hM.b0 hM.l0 rfl (by decide) (by decide) ?_
    refine aw_icmp_ge (tgt := 99) dX11_trades_57 rfl (fun c57 => ?_) (fun c57 => ?_)
    · rw [hI3] at c57
      have e := ge_t hN.p (by omega) hi c57
      subst e
      refine aw_aload_n dX11_trades_99 rfl ?_
      refine aw_iload_n dX11_trades_100 rfl ?_
      refine aw_cV dX11_trades_101 kX11_199 mX11_gives (sX11_gives hM) (Nat.le_of_ble_eq_true rfl) hM.k ⟨by decide, rfl⟩ hM.b rfl rfl (Nat.le_of_ble_eq_true rfl) ⟨Nat.le_refl _, Nat.le_refl _⟩ ?_
      refine aw_iret q rfl dX11_trades_104 ⟨Nat.le_refl _, Nat.le_refl _⟩ ?_
      refine TlS.ok ?_ hF.rsc
      unfold aTrades
      rw [f9, hx]
      rfl
    · rw [hI3] at c57
      have hlt := ge_f hN.p (by omega) hi c57
      refine aw_iload_n dX11_trades_60 rfl ?_
      refine aw_aload_n dX11_trades_61 rfl ?_
      refine aw_iload_n dX11_trades_62 rfl ?_
      refine aw_iconst (v := 4) dX11_trades_63 rfl ?_
      refine aw_cV dX11_trades_64 kX11_205 mX11_of (rX11_of (p := i) (w := 4) hM hI3 rfl rfl (by omega)) (Nat.le_of_ble_eq_true rfl) hM.k ⟨by decide, rfl⟩ hM.b rfl rfl (Nat.le_of_ble_eq_true rfl) ⟨Nat.le_refl _, Nat.le_refl _⟩ ?_
      refine aw_iconst (v := (-1)) dX11_trades_67 rfl ?_
      refine aw_icmp_eq (tgt := 90) dX11_trades_68 rfl (fun c68 => ?_) (fun c68 => ?_)
      · skip
        refine aw_iconst (v := 0) dX11_trades_90 rfl ?_
        refine aw_iadd dX11_trades_91 ?_
        refine aw_istore_n dX11_trades_92 (by decide) rfl ?_
        refine aw_iinc dX11_trades_93 rfl (ginc rfl) (by decide) rfl ?_
        refine aw_goto (tgt := 48) dX11_trades_96 rfl ?_
        have := ih hlt
        rw [fa_cnt_no (show movP N i = false by unfold movP; simp [c68])] at this
        rw [Int32.add_zero]
        exact this
      · have r9 := hR i hlt c68
        refine aw_aload_n dX11_trades_71 rfl ?_
        refine aw_getR (b := m + 9) dX11_trades_72 fX11_42 hM.k hM.b rfl hM.r8 ?_
        refine aw_iload_n dX11_trades_75 rfl ?_
        refine aw_ialdN (k := i) dX11_trades_76 hM.k8 hM.b8 hM.l8 rfl (by omega) (by decide) ?_
        refine AW.top r9 ?_
        refine aw_aload_n dX11_trades_77 rfl ?_
        refine aw_iload_n dX11_trades_78 rfl ?_
        refine aw_iconst (v := 4) dX11_trades_79 rfl ?_
        refine aw_cV dX11_trades_80 kX11_205 mX11_of (rX11_of (p := i) (w := 4) hM hI3 rfl rfl (by omega)) (Nat.le_of_ble_eq_true rfl) hM.k ⟨by decide, rfl⟩ hM.b rfl rfl (Nat.le_of_ble_eq_true rfl) ⟨Nat.le_refl _, Nat.le_refl _⟩ ?_
        refine aw_icmp_eq (tgt := 90) dX11_trades_83 rfl (fun c83 => ?_) (fun c83 => ?_)
        · refine aw_iconst (v := 0) dX11_trades_90 rfl ?_
          refine aw_iadd dX11_trades_91 ?_
          refine aw_istore_n dX11_trades_92 (by decide) rfl ?_
          refine aw_iinc dX11_trades_93 rfl (ginc rfl) (by decide) rfl ?_
          refine aw_goto (tgt := 48) dX11_trades_96 rfl ?_
          have := ih hlt
          rw [fa_cnt_no (show movP N i = false by unfold movP; simp [c83])] at this
          rw [Int32.add_zero]
          exact this
        · refine aw_iconst (v := 1) dX11_trades_86 rfl ?_
          refine aw_goto (tgt := 91) dX11_trades_87 rfl ?_
          refine aw_iadd dX11_trades_91 ?_
          refine aw_istore_n dX11_trades_92 (by decide) rfl ?_
          refine aw_iinc dX11_trades_93 rfl (ginc rfl) (by decide) rfl ?_
          refine aw_goto (tgt := 48) dX11_trades_96 rfl ?_
          have := ih hlt
          rw [fa_cnt_yes (show movP N i = true by unfold movP; simp [c68, c83]), ← nI_1] at this
          exact this
  refine aw_iload_n dX11_trades_0 rfl ?_
  refine aw_iconst (v := 0) dX11_trades_1 rfl ?_
  refine aw_iconst (v := 2) dX11_trades_2 rfl ?_
  refine aw_cS dX11_trades_3 kX11_71 mX11_isFrom (sX11_isFrom hM) (Nat.le_of_ble_eq_true rfl) rfl rfl (Nat.le_of_ble_eq_true rfl) ⟨Nat.le_refl _, Nat.le_refl _⟩ ?_
  refine aw_if_ne (tgt := 15) dX11_trades_6 rfl (fun c6 => ?_) (fun c6 => ?_)
  · have f9 := bI1.mp c6
    have f9a : 0 ≤ x := by
      unfold mFrom at f9
      rw [Bool.and_eq_true] at f9
      exact of_decide_eq_true f9.1
    refine aw_aload_n dX11_trades_15 rfl ?_
    refine aw_callV dX11_trades_16 kX11_380 mX11_laysTrades (rX11_laysTrades hM hI hN hC) (Nat.le_of_ble_eq_true rfl) hM.k ⟨by decide, rfl⟩ hM.b rfl rfl (Nat.le_of_ble_eq_true rfl) ⟨Nat.le_refl _, Nat.le_refl _⟩ (fun v1 z1 n1 sh1 J1 M1 hp1 => ?_)
    obtain ⟨rfl, rfl, rfl, rfl, rfl, hF1, h241, h251, hR1⟩ := hp1
    refine aw_iload_n dX11_trades_19 rfl ?_
    refine aw_if_le (tgt := 44) dX11_trades_20 rfl (fun c20 => ?_) (fun c20 => ?_)
    · have hx : x = 0 := Int32.le_antisymm c20 f9a
      refine aw_iconst (v := 0) dX11_trades_44 rfl ?_
      refine aw_istore_n dX11_trades_45 (by decide) rfl ?_
      refine aw_iconst (v := 0) dX11_trades_46 rfl ?_
      refine aw_istore_n dX11_trades_47 (by decide) rfl ?_
      exact loop _ hF1 hR1 f9 hx 0 (Nat.zero_le _)
    · have hx : ¬ x = 0 := fun e => c20 (by rw [e]; decide)
      refine aw_aload_n dX11_trades_23 rfl ?_
      refine aw_iload_n dX11_trades_24 rfl ?_
      refine aw_iconst (v := 1) dX11_trades_25 rfl ?_
      refine aw_icmp_ne (tgt := 36) dX11_trades_26 rfl (fun c26 => ?_) (fun c26 => ?_)
      · refine aw_aload_n dX11_trades_36 rfl ?_
        refine aw_getI dX11_trades_37 fX11_369 hM.k hM.b rfl ?_
        refine AW.top h251 ?_
        refine aw_cV dX11_trades_40 kX11_199 mX11_gives (sX11_gives hM) (Nat.le_of_ble_eq_true rfl) hM.k ⟨by decide, rfl⟩ hM.b rfl rfl (Nat.le_of_ble_eq_true rfl) ⟨Nat.le_refl _, Nat.le_refl _⟩ ?_
        refine aw_iret q rfl dX11_trades_43 ⟨Nat.le_refl _, Nat.le_refl _⟩ ?_
        refine TlS.ok ?_ hF1.rsc
        unfold aTrades
        rw [f9, if_neg (by decide), if_neg hx, if_neg c26]
      · refine aw_aload_n dX11_trades_29 rfl ?_
        refine aw_getI dX11_trades_30 fX11_366 hM.k hM.b rfl ?_
        refine AW.top h241 ?_
        refine aw_goto (tgt := 40) dX11_trades_33 rfl ?_
        refine aw_cV dX11_trades_40 kX11_199 mX11_gives (sX11_gives hM) (Nat.le_of_ble_eq_true rfl) hM.k ⟨by decide, rfl⟩ hM.b rfl rfl (Nat.le_of_ble_eq_true rfl) ⟨Nat.le_refl _, Nat.le_refl _⟩ ?_
        refine aw_iret q rfl dX11_trades_43 ⟨Nat.le_refl _, Nat.le_refl _⟩ ?_
        refine TlS.ok ?_ hF1.rsc
        unfold aTrades
        rw [f9, if_neg (by decide), if_neg hx, if_pos c26]
  · have d9 := bI0.mp c6
    refine aw_aload_n dX11_trades_9 rfl ?_
    refine aw_iconst (v := 1) dX11_trades_10 rfl ?_
    refine aw_cV dX11_trades_11 kX11_186 mX11_refuse (sX11_refuse hM) (Nat.le_of_ble_eq_true rfl) hM.k ⟨by decide, rfl⟩ hM.b rfl rfl (Nat.le_of_ble_eq_true rfl) ⟨Nat.le_refl _, Nat.le_refl _⟩ ?_
    refine aw_iret q rfl dX11_trades_14 ⟨Nat.le_refl _, Nat.le_refl _⟩ ?_
    refine TlS.no ?_ RSc.rf
    unfold aTrades
    rw [d9]
    rfl
/-- the bytes told: one of them, or thrown -/
def outT (B : List Int32) (x : Int32) : Int32 := if mFrom x 0 (nI B.length - 1) then 0 else 1
def outV (B : List Int32) (x : Int32) : Int32 := if mFrom x 0 (nI B.length - 1) then B.getD x.toNatClampNeg 0 else 0
theorem from_lt {x : Int32} {k : Nat} (hk : k < 2 ^ 30) : mFrom x 0 (nI k - 1) = true ↔ ¬ x < 0 ∧ x < nI k := by
  constructor
  · intro h
    obtain ⟨j, hj, rfl⟩ := from_ix rfl hk h
    exact ⟨nI_pos (by omega), nI_lt hj (by omega)⟩
  · rintro ⟨h1, h2⟩
    obtain ⟨j, hj, rfl⟩ := nI_of h1
    exact from_of rfl hk ((nI_ltI hj (by omega)).mp h2)
set_option maxHeartbeats 4000000 in
set_option maxRecDepth 100000 in
theorem rX11_out (hM : IsM n sh m) {B : List Int32} (hB : Prt I m B) (hb : B.length ≤ 1800) {x : Int32} : CM yX11_out cX11_out 2 (Option.some .int) 1 0 0 [.ref m, .int x] z n sh I L (Pst (some (.int (outV B x))) z n sh (upI I m 0 (outT B x)) L) := by
  refine CM.go [some (.ref m), some (.int x)] rfl rfl (Nat.le_of_ble_eq_true rfl) (fun X g q => ?_)
  have fl := from_lt (x := x) (k := B.length) (by omega)
  refine aw_aload_n dX11_out_0 rfl ?_
  refine aw_iload_n dX11_out_1 rfl ?_
  refine aw_if_lt (tgt := 13) dX11_out_2 rfl (fun c2 => ?_) (fun c2 => ?_)
  · have d9 : ¬ mFrom x 0 (nI B.length - 1) = true := fun e => (fl.mp e).1 c2
    have e1 : outT B x = 1 := if_neg d9
    have e2 : outV B x = 0 := if_neg d9
    rw [e1, e2] at q
    refine aw_iconst (v := 1) dX11_out_13 rfl ?_
    refine aw_goto (tgt := 18) dX11_out_14 rfl ?_
    refine aw_putI dX11_out_18 fX11_65 hM.k hM.b rfl rfl ?_
    refine aw_aload_n dX11_out_21 rfl ?_
    refine aw_getI dX11_out_22 fX11_65 hM.k hM.b rfl ?_
    refine AW.top (fI_s) ?_
    refine aw_iconst (v := 1) dX11_out_25 rfl ?_
    refine aw_icmp_ne (tgt := 33) dX11_out_26 rfl (fun c26 => ?_) (fun c26 => ?_)
    · exact absurd rfl c26
    · skip
      refine aw_iconst (v := 0) dX11_out_29 rfl ?_
      refine aw_goto (tgt := 39) dX11_out_30 rfl ?_
      refine aw_iret q rfl dX11_out_39 ⟨Nat.le_refl _, Nat.le_refl _⟩ ?_
      exact Pst.rf
  · skip
    refine aw_iload_n dX11_out_5 rfl ?_
    refine aw_aload_n dX11_out_6 rfl ?_
    refine aw_getI dX11_out_7 fX11_395 hM.k hM.b rfl ?_
    refine AW.top hB.1 ?_
    refine aw_icmp_lt (tgt := 17) dX11_out_10 rfl (fun c10 => ?_) (fun c10 => ?_)
    · have d9 : mFrom x 0 (nI B.length - 1) = true := fl.mpr ⟨c2, c10⟩
      have e1 : outT B x = 0 := if_pos d9
      have e2 : outV B x = B.getD x.toNatClampNeg 0 := if_pos d9
      rw [e1, e2] at q
      obtain ⟨j, hj, ex⟩ := from_ix rfl (by omega) d9
      refine aw_iconst (v := 0) dX11_out_17 rfl ?_
      refine aw_putI dX11_out_18 fX11_65 hM.k hM.b rfl rfl ?_
      refine aw_aload_n dX11_out_21 rfl ?_
      refine aw_getI dX11_out_22 fX11_65 hM.k hM.b rfl ?_
      refine AW.top (fI_s) ?_
      refine aw_iconst (v := 1) dX11_out_25 rfl ?_
      refine aw_icmp_ne (tgt := 33) dX11_out_26 rfl (fun c26 => ?_) (fun c26 => ?_)
      · skip
        refine aw_aload_n dX11_out_33 rfl ?_
        refine aw_getR (b := m + 14) dX11_out_34 fX11_57 hM.k hM.b rfl hM.r13 ?_
        refine aw_iload_n dX11_out_37 rfl ?_
        refine aw_bald dX11_out_38 hM.k13 hM.b13 (vpn ex (by omega : j < 1800) (by decide) |> vl hM.l13) ?_
        refine AW.top (y := B.getD x.toNatClampNeg 0) ?_ ?_
        · rw [nIc ex (by omega), upI_off (by omega) rfl]
          exact hB.2 j hj
        refine aw_iret q rfl dX11_out_39 ⟨Nat.le_refl _, Nat.le_refl _⟩ ?_
        exact Pst.rf
      · exact absurd c26 (by decide)
    · have d9 : ¬ mFrom x 0 (nI B.length - 1) = true := fun e => c10 (fl.mp e).2
      have e1 : outT B x = 1 := if_neg d9
      have e2 : outV B x = 0 := if_neg d9
      rw [e1, e2] at q
      refine aw_iconst (v := 1) dX11_out_13 rfl ?_
      refine aw_goto (tgt := 18) dX11_out_14 rfl ?_
      refine aw_putI dX11_out_18 fX11_65 hM.k hM.b rfl rfl ?_
      refine aw_aload_n dX11_out_21 rfl ?_
      refine aw_getI dX11_out_22 fX11_65 hM.k hM.b rfl ?_
      refine AW.top (fI_s) ?_
      refine aw_iconst (v := 1) dX11_out_25 rfl ?_
      refine aw_icmp_ne (tgt := 33) dX11_out_26 rfl (fun c26 => ?_) (fun c26 => ?_)
      · exact absurd rfl c26
      · skip
        refine aw_iconst (v := 0) dX11_out_29 rfl ?_
        refine aw_goto (tgt := 39) dX11_out_30 rfl ?_
        refine aw_iret q rfl dX11_out_39 ⟨Nat.le_refl _, Nat.le_refl _⟩ ?_
        exact Pst.rf
end RefS
