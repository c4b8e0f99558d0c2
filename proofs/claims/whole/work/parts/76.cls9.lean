/-! the class: a home's round, the week's end -/
section ClsS
variable {z n b : Nat} {sh : Shp} {I : MI} {L : ML} {N : Nat → Int32} {Q : Nat → Int64}
set_option maxHeartbeats 4000000 in
set_option maxRecDepth 100000 in
theorem sX7_offerRound (hS : IsS n sh b) (hC : CtS I L b N Q) {h : Nat} (hh : h < nHo N) (hIv : Iv N) (hf : N (8 * h + 2) = -1) (ho : nOf N + 3 ≤ 30) : CM yX7_offerRound cX7_offerRound 7 (Option.some .boolean) 4 0 0 [.ref b, .ref (b + 2 + h)] z n sh I L (Mut (some (.int (bI (!decide (mLets N h (8 * h + 2) = -1))))) b (mLets N h) Q z n sh I L) := by
  refine CM.go [some (.ref b), some (.ref (b + 2 + h)), none, none, none, none, none] rfl rfl (Nat.le_of_ble_eq_true rfl) (fun X g q => ?_)
  have hO := hIv.ok
  have hN := hO.1
  have hR := hO.2.1
  have hB := hO.2.2.1
  have hE := hO.2.2.2
  have h8 := hN.p8
  have h10 := hN.h10
  have loop : ∀ d k, d + k = 3 → ∀ (J : MI) (M : Nat → Int32) (u : Nat) a5 a6, Fr b I J → CtS J L b M Q → RdI N h (nOf N) M u k → AW X g RX7 cX7_offerRound 7 (4, 0, 0) (z, n, sh, 0, 0) (J) (L) 21 [some (.ref b), some (.ref (b + 2 + h)), some (.int (nI u)), some (.int (cTrn N h)), some (.int (nI (k + 1))), a5, a6] [] := by
    intro d
    induction d with
    | zero =>
      intro k hk J M u a5 a6 hF hJ hr
      obtain ⟨hIM, eH, eP, eL, eQ, hMf, hoM, huM, -⟩ := id hr
      have hM := hIM.1
      have hOM := hIM.ok
      have g8 := hM.p8
      have g10 := hM.h10
      have hu8 := p2_8 huM g8
      have eT : cTrn N h = cTrn M h := by unfold cTrn; rw [eL, eQ]
      have hk3 : k = 3 := by omega
      refine aw_iload dX7_offerRound_21 rfl ?_
      refine aw_iconst (v := 3) dX7_offerRound_23 rfl ?_
      refine aw_icmp_gt (tgt := 99) dX7_offerRound_24 rfl (fun c24 => ?_) (fun c24 => ?_)
      · skip
        refine aw_iconst (v := 0) dX7_offerRound_99 rfl ?_
        refine aw_zret q rfl (by decide) dX7_offerRound_100 ⟨Nat.le_refl _, Nat.le_refl _⟩ ?_
        refine ⟨?_, rfl, rfl, rfl, rfl, hF, ?_⟩
        · rw [hr.stop hk3, hMf]; rfl
        · rw [hr.stop hk3]; exact hJ
      · exact absurd ((nI_ltI (a := 3) (b := k + 1) (by decide) (by omega)).mpr (by omega)) c24
    | succ d ih =>
      intro k hk3 J M u a5 a6 hF hJ hr
      obtain ⟨hIM, eH, eP, eL, eQ, hMf, hoM, huM, -⟩ := id hr
      have hM := hIM.1
      have hOM := hIM.ok
      have g8 := hM.p8
      have g10 := hM.h10
      have hu8 := p2_8 huM g8
      have eT : cTrn N h = cTrn M h := by unfold cTrn; rw [eL, eQ]
      have hk : k < 3 := by omega
      cases hf9 : fst (fun p => cRk M p h (mLocal M h) (mQuota M) (mBand M p)) (bt (nI u)) (nPo M) with
      | none =>
        refine aw_iload dX7_offerRound_21 rfl ?_
        refine aw_iconst (v := 3) dX7_offerRound_23 rfl ?_
        refine aw_icmp_gt (tgt := 99) dX7_offerRound_24 rfl (fun c24 => ?_) (fun c24 => ?_)
        · exact absurd ((nI_ltI (a := 3) (b := k + 1) (by decide) (by omega)).mp c24) (by omega)
        · skip
          refine aw_aload_n dX7_offerRound_27 rfl ?_
          refine aw_iload_n dX7_offerRound_28 rfl ?_
          refine aw_aload_n dX7_offerRound_29 rfl ?_
          refine aw_iload_n dX7_offerRound_30 rfl ?_
          refine aw_cV dX7_offerRound_31 kX7_193 mX7_firstOf (firstAs hf9 (show CM yX7_firstOf cX7_firstOf 9 (Option.some (.object "HomesQueue$House")) 3 0 0 [.ref b, .int (nI u), .ref (b + 2 + h), .int (cTrn N h)] z n sh J L (Pst (some (oH b (fst (fun p => cRk M p h (mLocal M h) (mQuota M) (mBand M p)) (bt (nI u)) (nPo M)))) z n sh J L) from by rw [eT]; exact sX7_firstOf hS hJ hOM rfl (by omega) (by omega))) (Nat.le_of_ble_eq_true rfl) hS.k ⟨by decide, rfl⟩ hS.b0 rfl rfl (Nat.le_of_ble_eq_true rfl) ⟨Nat.le_refl _, Nat.le_refl _⟩ ?_
          refine aw_astoreN dX7_offerRound_34 (by decide) rfl ?_
          refine aw_aloadN dX7_offerRound_36 rfl ?_
          refine aw_ifnonnullN dX7_offerRound_38 ?_
          refine aw_iconst (v := 0) dX7_offerRound_41 rfl ?_
          refine aw_zret q rfl (by decide) dX7_offerRound_42 ⟨Nat.le_refl _, Nat.le_refl _⟩ ?_
          refine ⟨?_, rfl, rfl, rfl, rfl, hF, ?_⟩
          · rw [hr.none hk hf9, hMf]; rfl
          · rw [hr.none hk hf9]; exact hJ
      | some p =>
        obtain ⟨hp9, hhp, hub, hTk, hRf⟩ := hr.some hk hh ho hf9
        refine aw_iload dX7_offerRound_21 rfl ?_
        refine aw_iconst (v := 3) dX7_offerRound_23 rfl ?_
        refine aw_icmp_gt (tgt := 99) dX7_offerRound_24 rfl (fun c24 => ?_) (fun c24 => ?_)
        · exact absurd ((nI_ltI (a := 3) (b := k + 1) (by decide) (by omega)).mp c24) (by omega)
        · skip
          refine aw_aload_n dX7_offerRound_27 rfl ?_
          refine aw_iload_n dX7_offerRound_28 rfl ?_
          refine aw_aload_n dX7_offerRound_29 rfl ?_
          refine aw_iload_n dX7_offerRound_30 rfl ?_
          refine aw_cV dX7_offerRound_31 kX7_193 mX7_firstOf (firstAs hf9 (show CM yX7_firstOf cX7_firstOf 9 (Option.some (.object "HomesQueue$House")) 3 0 0 [.ref b, .int (nI u), .ref (b + 2 + h), .int (cTrn N h)] z n sh J L (Pst (some (oH b (fst (fun p => cRk M p h (mLocal M h) (mQuota M) (mBand M p)) (bt (nI u)) (nPo M)))) z n sh J L) from by rw [eT]; exact sX7_firstOf hS hJ hOM rfl (by omega) (by omega))) (Nat.le_of_ble_eq_true rfl) hS.k ⟨by decide, rfl⟩ hS.b0 rfl rfl (Nat.le_of_ble_eq_true rfl) ⟨Nat.le_refl _, Nat.le_refl _⟩ ?_
          refine aw_astore dX7_offerRound_34 (by decide) rfl ?_
          refine aw_aload dX7_offerRound_36 rfl ?_
          refine aw_ifnonnull (tgt := 43) dX7_offerRound_38 rfl ?_
          refine aw_iload_n dX7_offerRound_43 rfl ?_
          refine aw_aload dX7_offerRound_44 rfl ?_
          refine aw_getI dX7_offerRound_46 fX7_103 (hS.po (by omega)) (hS.pb (by omega)) rfl ?_
          refine AW.top (hJ.pi (by omega)) ?_
          refine aw_iconst (v := (-1)) dX7_offerRound_49 rfl ?_
          refine aw_ixor dX7_offerRound_50 ?_
          refine aw_iand dX7_offerRound_51 ?_
          refine AW.top (y := nI (u - 2 ^ p)) ((drop_bit (by omega)).trans ((bit_all u (by omega) p (by omega)).2.2 hub).1) ?_
          refine aw_istore_n dX7_offerRound_52 (by decide) rfl ?_
          refine aw_aload dX7_offerRound_53 rfl ?_
          refine aw_aload_n dX7_offerRound_55 rfl ?_
          refine aw_cV dX7_offerRound_56 kX7_146 mX3_wouldTake (sX3_wouldTake hS hJ hM hp9 (by omega)) (Nat.le_of_ble_eq_true rfl) (hS.po (by omega)) ⟨by decide, rfl⟩ (hS.pb (by omega)) rfl rfl (Nat.le_of_ble_eq_true rfl) ⟨Nat.le_refl _, Nat.le_refl _⟩ ?_
          cases htk : mTake M p (nI h) with
          | false =>
            refine aw_istore dX7_offerRound_59 (by decide) rfl ?_
            refine aw_aload_n dX7_offerRound_61 rfl ?_
            refine aw_aload dX7_offerRound_62 rfl ?_
            refine aw_aload_n dX7_offerRound_64 rfl ?_
            refine aw_iload dX7_offerRound_65 rfl ?_
            refine aw_mV dX7_offerRound_67 kX7_253 mX7_noteOffer (sX7_noteOffer hS hJ hOM hp9 (by omega) (by omega) (t := false)) (Nat.le_of_ble_eq_true rfl) hS.k ⟨by decide, rfl⟩ hS.b0 rfl rfl (Nat.le_of_ble_eq_true rfl) ⟨Nat.le_refl _, Nat.le_refl _⟩ (fun J1 hF1 hJ1 => ?_)
            have i1 : Iv (mOffered M p h false) := hIM.off (by omega)
            have eP1 : nPo (mOffered M p h false) = nPo M := off_P
            have eH1 : nHo (mOffered M p h false) = nHo M := off_H
            refine aw_iload dX7_offerRound_70 rfl ?_
            refine aw_if_eq (tgt := 87) dX7_offerRound_72 rfl (fun c72 => ?_) (fun c72 => ?_)
            · skip
              refine aw_aload_n dX7_offerRound_87 rfl ?_
              refine aw_aload dX7_offerRound_88 rfl ?_
              refine aw_mV dX7_offerRound_90 kX7_261 mX7_refuseHome (sX7_refuseHome hS hJ1 i1.ok (by omega)) (Nat.le_of_ble_eq_true rfl) hS.k ⟨by decide, rfl⟩ hS.b0 rfl rfl (Nat.le_of_ble_eq_true rfl) ⟨Nat.le_refl _, Nat.le_refl _⟩ (fun J2 hF2 hJ2 => ?_)
              
              refine aw_iinc dX7_offerRound_93 rfl (ginc rfl) (by decide) rfl ?_
              refine aw_goto (tgt := 21) dX7_offerRound_96 rfl ?_
              exact ih (k + 1) (by omega) J2 (rfN M p h) (u - 2 ^ p) _ _ ((hF.tr hF1).tr hF2) hJ2 (hRf htk)
            · exact absurd rfl c72
          | true =>
            refine aw_istore dX7_offerRound_59 (by decide) rfl ?_
            refine aw_aload_n dX7_offerRound_61 rfl ?_
            refine aw_aload dX7_offerRound_62 rfl ?_
            refine aw_aload_n dX7_offerRound_64 rfl ?_
            refine aw_iload dX7_offerRound_65 rfl ?_
            refine aw_mV dX7_offerRound_67 kX7_253 mX7_noteOffer (sX7_noteOffer hS hJ hOM hp9 (by omega) (by omega) (t := true)) (Nat.le_of_ble_eq_true rfl) hS.k ⟨by decide, rfl⟩ hS.b0 rfl rfl (Nat.le_of_ble_eq_true rfl) ⟨Nat.le_refl _, Nat.le_refl _⟩ (fun J1 hF1 hJ1 => ?_)
            have i1 : Iv (mOffered M p h true) := hIM.off (by omega)
            have eP1 : nPo (mOffered M p h true) = nPo M := off_P
            have eH1 : nHo (mOffered M p h true) = nHo M := off_H
            have l1 : mLocal (mOffered M p h true) h = mLocal M h := mLocal_cg hM (by omega) (off_rd (by omega)) (off_rd (by omega)) (fun i hi => off_rd (by omega)) (fun k hk => off_rd (by omega))
            have q1 : mQuota (mOffered M p h true) = mQuota M := mQuota_cg hM (off_rd (by omega)) (off_rd (by omega)) (fun k hk => off_rd (by omega))
            have eT1 : cTrn N h = cTrn (mOffered M p h true) h := by rw [eT]; unfold cTrn; rw [l1, q1]
            have f1 : mOffered M p h true (8 * h + 2) = -1 := (off_rd (by omega)).trans hMf
            have in1 : mIn (mOffered M p h true) p = true := (off_in (by omega)).trans (hope_in hhp)
            rw [eT1]
            refine aw_iload dX7_offerRound_70 rfl ?_
            refine aw_if_eq (tgt := 87) dX7_offerRound_72 rfl (fun c72 => ?_) (fun c72 => ?_)
            · exact absurd c72 (by decide)
            · skip
              refine aw_aload_n dX7_offerRound_75 rfl ?_
              refine aw_aload dX7_offerRound_76 rfl ?_
              refine aw_aload_n dX7_offerRound_78 rfl ?_
              refine aw_iload_n dX7_offerRound_79 rfl ?_
              refine aw_iload dX7_offerRound_80 rfl ?_
              refine aw_mV dX7_offerRound_82 kX7_257 mX7_takeHome (sX7_takeHome hS hJ1 i1.ok (by omega) (by omega) i1.2.1 i1.co in1 f1 (o := nI (k + 1))) (Nat.le_of_ble_eq_true rfl) hS.k ⟨by decide, rfl⟩ hS.b0 rfl rfl (Nat.le_of_ble_eq_true rfl) ⟨Nat.le_refl _, Nat.le_refl _⟩ (fun J2 hF2 hJ2 => ?_)
              
              refine aw_iconst (v := 1) dX7_offerRound_85 rfl ?_
              refine aw_zret q rfl (by decide) dX7_offerRound_86 ⟨Nat.le_refl _, Nat.le_refl _⟩ ?_
              have e9 := hTk htk
              have e8 := (takes_who (o := nI (k + 1)) i1.1 i1.co (show p < nPo (mOffered M p h true) by omega) (show h < nHo (mOffered M p h true) by omega) f1 (lo_lt i1.1 i1.2.1 (by omega) in1)).2 h (by omega)
              rw [if_pos rfl] at e8
              refine ⟨?_, rfl, rfl, rfl, rfl, (hF.tr hF1).tr hF2, ?_⟩
              · rw [e9, e8, decide_eq_false (nI_ne_m1 (show p < 2 ^ 31 by omega))]; rfl
              · rw [e9]; exact hJ2
  refine aw_aload_n dX7_offerRound_0 rfl ?_
  refine aw_aload_n dX7_offerRound_1 rfl ?_
  refine aw_cV dX7_offerRound_2 kX7_197 mX7_biddersFor (show CM yX7_biddersFor cX7_biddersFor 4 (Option.some .int) 2 0 0 [.ref b, .ref (b + 2 + h)] z n sh I L (Pst (some (.int (nI (nset (fun p => mBid N p (nI h) && mHope N p) (nPo N))))) z n sh I L) from by rw [← iset_n _ _ (by omega)]; exact sX7_biddersFor hS hC hO hh) (Nat.le_of_ble_eq_true rfl) hS.k ⟨by decide, rfl⟩ hS.b0 rfl rfl (Nat.le_of_ble_eq_true rfl) ⟨Nat.le_refl _, Nat.le_refl _⟩ ?_
  refine aw_istore_n dX7_offerRound_5 (by decide) rfl ?_
  refine aw_iload_n dX7_offerRound_6 rfl ?_
  refine aw_if_ne (tgt := 12) dX7_offerRound_7 rfl (fun c7 => ?_) (fun c7 => ?_)
  · refine aw_aload_n dX7_offerRound_12 rfl ?_
    refine aw_aload_n dX7_offerRound_13 rfl ?_
    refine aw_cV dX7_offerRound_14 kX7_189 mX7_turnsAt (sX7_turnsAt hS hC hO hh) (Nat.le_of_ble_eq_true rfl) hS.k ⟨by decide, rfl⟩ hS.b0 rfl rfl (Nat.le_of_ble_eq_true rfl) ⟨Nat.le_refl _, Nat.le_refl _⟩ ?_
    refine aw_istore_n dX7_offerRound_17 (by decide) rfl ?_
    refine aw_iconst (v := 1) dX7_offerRound_18 rfl ?_
    refine aw_istore dX7_offerRound_19 (by decide) rfl ?_
    exact loop 3 0 rfl I N _ none none Fr.rf hC (RdI.begin hIv hf)
  · refine aw_iconst (v := 0) dX7_offerRound_10 rfl ?_
    refine aw_zret q rfl (by decide) dX7_offerRound_11 ⟨Nat.le_refl _, Nat.le_refl _⟩ ?_
    have e0 : nset (fun p => mBid N p (nI h) && mHope N p) (nPo N) = 0 := (nI_eq (b := 0) (by have := nset_lt (fun p => mBid N p (nI h) && mHope N p) (nPo N); have := p2_8 this h8; omega) (by decide)).mp c7
    have e9 : mLets N h = N := (RdI.begin hIv hf).none (by decide) (by
      rw [e0]
      cases hz : fst (fun p => cRk N p h (mLocal N h) (mQuota N) (mBand N p)) (bt (nI 0)) (nPo N) with
      | none => rfl
      | some p =>
        have h2 := (fst_lt hz).2
        rw [(bit_all 0 (by decide) p (by have := (fst_lt hz).1; omega)).1] at h2
        simp at h2)
    refine ⟨?_, rfl, rfl, rfl, rfl, Fr.rf, ?_⟩
    · rw [e9, hf]; rfl
    · rw [e9]; exact hC
set_option maxHeartbeats 4000000 in
set_option maxRecDepth 100000 in
theorem sX7_beginNextWeek (hS : IsS n sh b) (hC : CtS I L b N Q) (hIv : Iv N) : CM yX7_beginNextWeek cX7_beginNextWeek 2 (Option.none : Option FieldType) 2 0 0 [.ref b] z n sh I L (Mut none b (upd (wkP (wkL N (nHo N)) (nPo N)) 232 (wkP (wkL N (nHo N)) (nPo N) 232 + 1)) Q z n sh I L) := by
  refine CM.go [some (.ref b), none] rfl rfl (Nat.le_of_ble_eq_true rfl) (fun X g q => ?_)
  have hO := hIv.ok
  have hL := hIv.2.1
  have hN := hO.1
  have hR := hO.2.1
  have hB := hO.2.2.1
  have hE := hO.2.2.2
  have h8 := hN.p8
  have h10 := hN.h10
  obtain ⟨R, eR⟩ : ∃ R, R = wkL N (nHo N) := ⟨_, rfl⟩
  obtain ⟨w1, eR0, eR1⟩ := wkL_Wk (b := 30) ⟨hN, hL, hN.o30⟩ (nHo N) h10
  have r1 := wkL_Rst (b := 30) ⟨hN, hL, hN.o30⟩ hIv.2.2 (nHo N) h10
  rw [← eR] at w1 eR0 eR1 r1
  have loop2 : ∀ i, i ≤ nPo N → ∀ (J : MI), Fr b I J → CtS J L b (wkP R i) Q → AW X g RX7 cX7_beginNextWeek 2 (2, 0, 0) (z, n, sh, 0, 0) (J) (L) 28 [some (.ref b), some (.int (nI i))] [] := by
    refine up_loop (fun i hi ih J hF hJ => ?_)
    obtain ⟨wk, e0, e1⟩ := wkP_Wk w1 i (by omega)
    have rS := wkP_Rst w1 r1 i (by omega)
    have eP : nPo (wkP R i) = nPo N := by unfold nPo; rw [e1, eR1]
    refine aw_iload_n dX7_beginNextWeek_28 rfl ?_
    refine aw_aload_n dX7_beginNextWeek_29 rfl ?_
    refine aw_getI dX7_beginNextWeek_30 fX7_62 hS.k hS.b0 rfl ?_
    refine AW.top ((hJ.np.trans (e1.trans eR1)).trans hN.p) ?_
    refine aw_icmp_ge (tgt := 76) dX7_beginNextWeek_33 rfl (fun c33 => ?_) (fun c33 => ?_)
    · have e := ge_t rfl (by omega) hi c33
      subst e
      refine aw_aload_n dX7_beginNextWeek_76 rfl ?_
      refine aw_dup dX7_beginNextWeek_77 rfl ?_
      refine aw_getI dX7_beginNextWeek_78 fX7_65 hS.k hS.b0 rfl ?_
      refine AW.top hJ.wk ?_
      refine aw_iconst (v := 1) dX7_beginNextWeek_81 rfl ?_
      refine aw_iadd dX7_beginNextWeek_82 ?_
      refine aw_putI dX7_beginNextWeek_83 fX7_65 hS.k hS.b0 rfl rfl ?_
      refine aw_vret q rfl dX7_beginNextWeek_86 ⟨Nat.le_refl _, Nat.le_refl _⟩ ?_
      exact ⟨rfl, rfl, rfl, rfl, rfl, hF.put (by omega), by rw [← eR]; exact hJ.put7 wk.1⟩
    · have hlt := ge_f rfl (by omega) hi c33
      refine aw_aload_n dX7_beginNextWeek_36 rfl ?_
      refine aw_getR (b := b + 12) dX7_beginNextWeek_37 fX7_22 hS.k hS.b0 rfl hS.r1 ?_
      refine aw_iload_n dX7_beginNextWeek_40 rfl ?_
      refine aw_houses (p := i) hS rfl (by omega) dX7_beginNextWeek_41 ?_
      refine aw_iconst (v := 0) dX7_beginNextWeek_42 rfl ?_
      refine aw_putI dX7_beginNextWeek_43 fX7_230 (hS.po (by omega)) (hS.pb (by omega)) rfl rfl ?_
      refine aw_aload_n dX7_beginNextWeek_46 rfl ?_
      refine aw_getR (b := b + 12) dX7_beginNextWeek_47 fX7_22 hS.k hS.b0 rfl hS.r1 ?_
      refine aw_iload_n dX7_beginNextWeek_50 rfl ?_
      refine aw_houses (p := i) hS rfl (by omega) dX7_beginNextWeek_51 ?_
      refine aw_iconst (v := 0) dX7_beginNextWeek_52 rfl ?_
      refine aw_aload_n dX7_beginNextWeek_53 rfl ?_
      refine aw_getR (b := b + 12) dX7_beginNextWeek_54 fX7_22 hS.k hS.b0 rfl hS.r1 ?_
      refine aw_iload_n dX7_beginNextWeek_57 rfl ?_
      refine aw_houses (p := i) hS rfl (by omega) dX7_beginNextWeek_58 ?_
      refine aw_getI dX7_beginNextWeek_59 fX7_203 (hS.po (by omega)) (hS.pb (by omega)) rfl ?_
      refine AW.top ((upI_n (Or.inr (by decide))).trans (hJ.br (p := i) (by omega))) ?_
      refine aw_iconst (v := 1) dX7_beginNextWeek_62 rfl ?_
      refine aw_isub dX7_beginNextWeek_63 ?_
      refine aw_mmax dX7_beginNextWeek_64 kX7_126 (Nat.le_of_ble_eq_true rfl) (Nat.le_of_ble_eq_true rfl) ⟨Nat.le_refl _, Nat.le_refl _⟩ ?_
      refine aw_putI dX7_beginNextWeek_67 fX7_203 (hS.po (by omega)) (hS.pb (by omega)) rfl rfl ?_
      refine aw_iinc dX7_beginNextWeek_70 rfl (ginc rfl) (by decide) rfl ?_
      refine aw_goto (tgt := 28) dX7_beginNextWeek_73 rfl ?_
      obtain ⟨v, u, v1, u1, ev, eu, hv⟩ := rS.2.1 i (by omega)
      have k1 := hJ.putP wk.1 (p := i) (w := 10) (v := 0) (by omega) (by decide) (by decide) (by decide) (by decide) (by decide) (fun q => absurd q (by decide))
      have c1 : Cn (mPuts (wkP R i) i 10 0) := wk.1.bids' (by omega) (b := 0) rfl (by decide)
      refine ih hlt _ ((hF.put (by omega)).put (by omega)) ?_
      rw [wkP]
      unfold wkS wkS1
      by_cases h7 : wkP R i (80 + 18 * i + 7) = 0
      · rw [if_pos h7]
        refine k1.putB c1 (by omega) ?_
        rw [h7, Int32.add_zero, Int32.add_zero]
      · rw [if_neg h7]
        have hu : u = 1 := by
          rcases Nat.lt_or_ge u 1 with q | q
          · have : u = 0 := by omega
            subst this
            exact absurd eu h7
          · omega
        subst hu
        have k2 := k1.putB c1 (p := i) (x := wkP R i (80 + 18 * i + 6)) (y := 0) (v := imax 0 (wkP R i (80 + 18 * i + 6) + wkP R i (80 + 18 * i + 7) - 1)) (by omega) (by rw [ev, eu, nI_add, imax_0 _ (by omega), Int32.add_zero]; rfl)
        refine k2.cong ?_
        congr 1
        funext j
        unfold mPuts
        by_cases e6 : j = 80 + 18 * i + 6
        · subst e6
          rw [upd_eq, upd_ne (by omega)]
        · rw [upd_ne e6]
  have loop1 : (∀ (J : MI), Fr b I J → CtS J L b (wkL N (nHo N)) Q → AW X g RX7 cX7_beginNextWeek 2 (2, 0, 0) (z, n, sh, 0, 0) (J) (L) 26 [some (.ref b), some (.int (nI (nHo N)))] []) → ∀ i, i ≤ nHo N → ∀ (J : MI), Fr b I J → CtS J L b (wkL N i) Q → AW X g RX7 cX7_beginNextWeek 2 (2, 0, 0) (z, n, sh, 0, 0) (J) (L) 2 [some (.ref b), some (.int (nI i))] [] := by
    intro kk
    refine up_loop (fun i hi ih J hF hJ => ?_)
    obtain ⟨wk, e0, e1⟩ := wkL_Wk (b := 30) ⟨hN, hL, hN.o30⟩ i (by omega)
    refine aw_iload_n dX7_beginNextWeek_2 rfl ?_
    refine aw_aload_n dX7_beginNextWeek_3 rfl ?_
    refine aw_getI dX7_beginNextWeek_4 fX7_59 hS.k hS.b0 rfl ?_
    refine AW.top ((hJ.nh.trans e0).trans hN.h) ?_
    refine aw_icmp_ge (tgt := 26) dX7_beginNextWeek_7 rfl (fun c7 => ?_) (fun c7 => ?_)
    · have e := ge_t rfl (by omega) hi c7
      subst e
      exact kk J hF hJ
    · have hlt := ge_f rfl (by omega) hi c7
      refine aw_aload_n dX7_beginNextWeek_10 rfl ?_
      refine aw_getR (b := b + 1) dX7_beginNextWeek_11 fX7_11 hS.k hS.b0 rfl hS.r0 ?_
      refine aw_iload_n dX7_beginNextWeek_14 rfl ?_
      refine aw_homes (h := i) hS rfl (by omega) dX7_beginNextWeek_15 ?_
      refine aw_iconst (v := 0) dX7_beginNextWeek_16 rfl ?_
      refine aw_putZ dX7_beginNextWeek_17 fX7_288 (hS.ho (by omega)) (hS.hb (by omega)) rfl rfl (by decide) ?_
      refine aw_iinc dX7_beginNextWeek_20 rfl (ginc rfl) (by decide) rfl ?_
      refine aw_goto (tgt := 2) dX7_beginNextWeek_23 rfl ?_
      refine ih hlt _ (hF.put (by omega)) ?_
      rw [wkL]
      exact hJ.putH wk.1 (h := i) (w := 3) (by omega) (by decide) (by decide) (fun _ => Or.inl rfl)
  refine aw_iconst (v := 0) dX7_beginNextWeek_0 rfl ?_
  refine aw_istore_n dX7_beginNextWeek_1 (by decide) rfl ?_
  refine loop1 (fun J hF hJ => ?_) 0 (Nat.zero_le _) I Fr.rf hC
  refine aw_iconst (v := 0) dX7_beginNextWeek_26 rfl ?_
  refine aw_istore_n dX7_beginNextWeek_27 (by decide) rfl ?_
  exact loop2 0 (Nat.zero_le _) J hF (by rw [eR]; exact hJ)
set_option maxHeartbeats 4000000 in
set_option maxRecDepth 100000 in
theorem sX7_endWeek (hS : IsS n sh b) (hC : CtS I L b N Q) (hIv : Iv N)  : CM yX7_endWeek cX7_endWeek 3 (Option.some .int) 5 0 0 [.ref b] z n sh I L (Mut (some (.int (mWeek N 233 - N 233))) b (mWeek N) Q z n sh I L) := by
  refine CM.go [some (.ref b), none, none] rfl rfl (Nat.le_of_ble_eq_true rfl) (fun X g q => ?_)
  have hO := hIv.ok
  have hL := hIv.2.1
  have hN := hO.1
  have hR := hO.2.1
  have hB := hO.2.2.1
  have hE := hO.2.2.2
  have h8 := hN.p8
  have h10 := hN.h10
  have loop : ∀ i, i ≤ nHo N → ∀ (J : MI), Fr b I J → CtS J L b (wkH N i) Q → AW X g RX7 cX7_endWeek 3 (5, 0, 0) (z, n, sh, 0, 0) (J) (L) 18 [some (.ref b), some (.int (N 233)), some (.int (nI i))] [] := by
    refine up_loop (fun i hi ih J hF hJ => ?_)
    obtain ⟨iw, ⟨e0, e1⟩, eo, ef⟩ := wkH_Iv hIv i hi
    have eHi : nHo (wkH N i) = nHo N := by unfold nHo; rw [e0]
    have eP : nPo (wkH N i) = nPo N := by unfold nPo; rw [e1]
    refine aw_iload_n dX7_endWeek_18 rfl ?_
    refine aw_aload_n dX7_endWeek_19 rfl ?_
    refine aw_getI dX7_endWeek_20 fX7_59 hS.k hS.b0 rfl ?_
    refine AW.top ((hJ.nh.trans e0).trans hN.h) ?_
    refine aw_icmp_ge (tgt := 72) dX7_endWeek_23 rfl (fun c23 => ?_) (fun c23 => ?_)
    · have e := ge_t rfl (by omega) hi c23
      subst e
      refine aw_aload_n dX7_endWeek_72 rfl ?_
      refine aw_mV dX7_endWeek_73 kX7_250 mX7_beginNextWeek (sX7_beginNextWeek hS hJ iw) (Nat.le_of_ble_eq_true rfl) hS.k ⟨by decide, rfl⟩ hS.b0 rfl rfl (Nat.le_of_ble_eq_true rfl) ⟨Nat.le_refl _, Nat.le_refl _⟩ (fun J2 hF2 hJ2 => ?_)
      
      refine aw_aload_n dX7_endWeek_76 rfl ?_
      refine aw_getR (b := b + 30) dX7_endWeek_77 fX7_36 hS.k hS.b0 rfl hS.r3 ?_
      refine aw_getI dX7_endWeek_80 fX7_55 hS.tk (hS.lt (k := 30) (by decide)) rfl ?_
      refine AW.top hJ2.nl ?_
      refine aw_iload_n dX7_endWeek_83 rfl ?_
      refine aw_isub dX7_endWeek_84 ?_
      refine aw_iret q rfl dX7_endWeek_85 ⟨Nat.le_refl _, Nat.le_refl _⟩ ?_
      have e9 : upd (wkP (wkL (wkH N (nHo N)) (nHo N)) (nPo N)) 232 (wkP (wkL (wkH N (nHo N)) (nHo N)) (nPo N) 232 + 1) = mWeek N := rfl
      rw [eHi, eP, e9] at hJ2
      exact ⟨by rw [eHi, eP, e9], rfl, rfl, rfl, rfl, hF.tr hF2, hJ2⟩
    · have hlt := ge_f rfl (by omega) hi c23
      refine aw_aload_n dX7_endWeek_26 rfl ?_
      refine aw_getR (b := b + 1) dX7_endWeek_27 fX7_11 hS.k hS.b0 rfl hS.r0 ?_
      refine aw_iload_n dX7_endWeek_30 rfl ?_
      refine aw_homes (h := i) hS rfl (by omega) dX7_endWeek_31 ?_
      refine aw_cV dX7_endWeek_32 kX7_95 mX2_isFree (sX2_isFree hS hJ iw.1 (by omega)) (Nat.le_of_ble_eq_true rfl) (hS.ho (by omega)) ⟨by decide, rfl⟩ (hS.hb (by omega)) rfl rfl (Nat.le_of_ble_eq_true rfl) ⟨Nat.le_refl _, Nat.le_refl _⟩ ?_
      refine aw_if_eq (tgt := 66) dX7_endWeek_35 rfl (fun c35 => ?_) (fun c35 => ?_)
      · refine aw_iinc dX7_endWeek_66 rfl (ginc rfl) (by decide) rfl ?_
        refine aw_goto (tgt := 18) dX7_endWeek_69 rfl ?_
        have e1 : mFree (wkH N i) i = (wkv N).testBit i := by
          rw [ef i (Nat.le_refl _) (by omega)]
          unfold wkv
          rw [nset_bit _ _ h10 i (by omega), decide_eq_true (show i < nHo N by omega), Bool.true_and]
        have c35 := bI0.mp c35
        rw [c35] at e1
        refine ih hlt J hF ?_
        rw [wkH, if_neg (by rw [← e1]; exact Bool.noConfusion)]
        exact hJ
      · refine aw_aload_n dX7_endWeek_38 rfl ?_
        refine aw_aload_n dX7_endWeek_39 rfl ?_
        refine aw_getR (b := b + 1) dX7_endWeek_40 fX7_11 hS.k hS.b0 rfl hS.r0 ?_
        refine aw_iload_n dX7_endWeek_43 rfl ?_
        refine aw_homes (h := i) hS rfl (by omega) dX7_endWeek_44 ?_
        have hw : wkH N i (8 * i + 2) = -1 := by
          have := bI1.mp c35
          unfold mFree at this
          simp only [Bool.and_eq_true, decide_eq_true_eq] at this
          exact this.1.1
        refine aw_mV dX7_endWeek_45 kX7_244 mX7_offerRound (sX7_offerRound hS hJ (h := i) (by omega) iw hw (by omega)) (Nat.le_of_ble_eq_true rfl) hS.k ⟨by decide, rfl⟩ hS.b0 rfl rfl (Nat.le_of_ble_eq_true rfl) ⟨Nat.le_refl _, Nat.le_refl _⟩ (fun J1 hF1 hJ1 => ?_)
        have iL := (letsL_Iv i 9 (wkH N i) _ 0 iw (nset_lt (fun p => mBid (wkH N i) p (nI i)) _) (by omega) (by omega) hw).1
        have eHL : nHo (mLets (wkH N i) i) = nHo N := by unfold nHo; rw [(lets_Wk (by omega) ⟨iw.1, iw.2.1, eo⟩ (by omega)).2.1, e0]
        have iL : Iv (mLets (wkH N i) i) := iL
        refine aw_if_ne (tgt := 66) dX7_endWeek_48 rfl (fun c48 => ?_) (fun c48 => ?_)
        · refine aw_iinc dX7_endWeek_66 rfl (ginc rfl) (by decide) rfl ?_
          refine aw_goto (tgt := 18) dX7_endWeek_69 rfl ?_
          have e1 : mFree (wkH N i) i = (wkv N).testBit i := by
            rw [ef i (Nat.le_refl _) (by omega)]
            unfold wkv
            rw [nset_bit _ _ h10 i (by omega), decide_eq_true (show i < nHo N by omega), Bool.true_and]
          have c35 := bI1.mp c35
          have c48 := bI1.mp c48
          rw [c35] at e1
          have w8 : ¬ mLets (wkH N i) i (8 * i + 2) = -1 := by simpa using c48
          refine ih hlt _ (hF.tr hF1) ?_
          rw [wkH, if_pos e1.symm]
          refine hJ1.cong ?_
          unfold wkH1
          rw [if_neg w8, Int32.add_zero]
          unfold mPutsH
          funext j
          by_cases e9 : j = 8 * i + 7
          · subst e9
            rw [upd_eq]
          · rw [upd_ne e9]
        · refine aw_aload_n dX7_endWeek_51 rfl ?_
          refine aw_getR (b := b + 1) dX7_endWeek_52 fX7_11 hS.k hS.b0 rfl hS.r0 ?_
          refine aw_iload_n dX7_endWeek_55 rfl ?_
          refine aw_homes (h := i) hS rfl (by omega) dX7_endWeek_56 ?_
          refine aw_dup dX7_endWeek_57 rfl ?_
          refine aw_getI dX7_endWeek_58 fX7_247 (hS.ho (by omega)) (hS.hb (by omega)) rfl ?_
          refine AW.top (hJ1.hf iL.1.h10 (h := i) (w := 7) (by rw [eHL]; omega) (by decide)) ?_
          refine aw_iconst (v := 1) dX7_endWeek_61 rfl ?_
          refine aw_iadd dX7_endWeek_62 ?_
          refine aw_putI dX7_endWeek_63 fX7_247 (hS.ho (by omega)) (hS.hb (by omega)) rfl rfl ?_
          refine aw_iinc dX7_endWeek_66 rfl (ginc rfl) (by decide) rfl ?_
          refine aw_goto (tgt := 18) dX7_endWeek_69 rfl ?_
          have e1 : mFree (wkH N i) i = (wkv N).testBit i := by
            rw [ef i (Nat.le_refl _) (by omega)]
            unfold wkv
            rw [nset_bit _ _ h10 i (by omega), decide_eq_true (show i < nHo N by omega), Bool.true_and]
          have c35 := bI1.mp c35
          have c48 := bI0.mp c48
          rw [c35] at e1
          have w8 : mLets (wkH N i) i (8 * i + 2) = -1 := by simpa using c48
          refine ih hlt _ ((hF.tr hF1).put (by omega)) ?_
          rw [wkH, if_pos e1.symm]
          unfold wkH1
          rw [if_pos w8]
          exact hJ1.putH iL.1 (h := i) (w := 7) (by omega) (by decide) (by decide) (fun q => absurd q (by decide))
  refine aw_aload_n dX7_endWeek_0 rfl ?_
  refine aw_getR (b := b + 30) dX7_endWeek_1 fX7_36 hS.k hS.b0 rfl hS.r3 ?_
  refine aw_getI dX7_endWeek_4 fX7_55 hS.tk (hS.lt (k := 30) (by decide)) rfl ?_
  refine AW.top hC.nl ?_
  refine aw_istore_n dX7_endWeek_7 (by decide) rfl ?_
  refine aw_aload_n dX7_endWeek_8 rfl ?_
  refine aw_getR (b := b + 32) dX7_endWeek_9 fX7_40 hS.k hS.b0 rfl hS.r4 ?_
  refine aw_iconst (v := 0) dX7_endWeek_12 rfl ?_
  refine aw_putI dX7_endWeek_13 fX7_55 hS.ok (hS.lt (k := 32) (by decide)) rfl rfl ?_
  refine aw_iconst (v := 0) dX7_endWeek_16 rfl ?_
  refine aw_istore_n dX7_endWeek_17 (by decide) rfl ?_
  exact loop 0 (Nat.zero_le _) _ (Fr.rf.put (by omega)) (hC.off0 hN)
end ClsS
