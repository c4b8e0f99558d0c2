/-! the class's reader: a house's line, a line, a text -/
theorem pB_inr {r : PRs} {f : PSt → PRs} {q : PSt} (h : pB r f = .inr q) : ∃ p, r = .inr p ∧ f p = .inr q := pB_in h
theorem cNums_c {T : Nat → Int32} {s c : Nat} {p q : PSt} (hc : c < 8) (h : cNums T s c p = .inr q) : cP q.2.1 = cP p.2.1 := by
  obtain ⟨p1, h1, h⟩ := pB_in h
  obtain ⟨p2, h2, h⟩ := pB_in h
  obtain ⟨p3, h3, h⟩ := pB_in h
  unfold cP
  rw [pNum_c h (k := 231) (by omega) rfl, pNum_c h3 (k := 231) (by omega) rfl, pNum_c h2 (k := 231) (by omega) rfl, pNum_c h1 (k := 231) (by omega) rfl]
theorem pWhere_c {T : Nat → Int32} {s c : Nat} {p q : PSt} (hc : c < 8) (h : pWhere T s c p = .inr q) : cP q.2.1 = cP p.2.1 := by
  unfold pWhere at h
  split at h
  · obtain ⟨hh, x1, x2, x3⟩ := pIn_row h
    rw [x3]
    unfold cP
    show (upd (upd p.2.1 _ _) (8 * hh + 2) _ 231).toNatClampNeg = _
    rw [upd_ne (by omega), upd_ne (by omega)]
  · rw [← Sum.inr.inj h]
section ClsS
variable {z n : Nat} {sh : Shp} {I : MI} {L : ML} {N : Nat → Int32} {Q : Nat → Int64}
set_option maxHeartbeats 4000000 in
set_option maxRecDepth 100000 in
theorem sX6_readHouse (hX : IsX n sh) {T : Nat → Int32} {s : Nat} (hs9 : s ≤ 900) {p : PSt} (hP : Pc I L T s p) (hk1 : ¬ p.1.2.2.1 = 1) (hz : cP p.2.1 < 8 → ∀ j, j < 18 → p.2.1 (80 + 18 * cP p.2.1 + j) = 0)  : CM yX6_readHouse cX6_readHouse 3 (Option.some .boolean) 5 0 0 [.ref 479, .ref 35] z n sh I L (RcP z n sh I L T s (cHouse T s p)) := by
  refine CM.go [some (.ref 479), some (.ref 35), none] rfl rfl (Nat.le_of_ble_eq_true rfl) (fun X g q => ?_)
  have hN := hP.2.2.2.2.1
  have h8 : cP p.2.1 ≤ 8 := hN.p8
  have h10 : cH p.2.1 ≤ 10 := hN.h10
  refine aw_aload_n dX6_readHouse_0 rfl ?_
  refine aw_getI dX6_readHouse_1 fX6_120 hX.spr.k hX.spr.b0 rfl ?_
  refine AW.top (y := nI (cP p.2.1)) (hP.2.2.1.np.trans hN.p) ?_
  refine aw_bipush (v := 8) dX6_readHouse_4 rfl ?_
  refine aw_icmp_lt (tgt := 15) dX6_readHouse_6 rfl (fun c6 => ?_) (fun c6 => ?_)
  · have hlt : cP p.2.1 < 8 := (nI_ltI (a := cP p.2.1) (b := 8) (by omega) (by decide)).mp c6
    have c9 : ¬ cP p.2.1 = 8 := by omega
    refine aw_aload_n dX6_readHouse_15 rfl ?_
    refine aw_hV dX6_readHouse_16 kX6_59 mX6_next (sX6_next hX hP.1.1 hP.1.2.1 hs9 hP.1.2.2.2.1 hP.2.1.2.1 hP.2.2.2.1) (Nat.le_of_ble_eq_true rfl) hX.rdr.1 ⟨by decide, rfl⟩ (hX.lt (by decide)) rfl rfl (Nat.le_of_ble_eq_true rfl) ⟨Nat.le_refl _, Nat.le_refl _⟩ (fun J1 M1 hq1 => ?_)
    have hP1 := hP.adv hq1
    have hG1 := RcG.nx hq1
    refine aw_aload_n dX6_readHouse_19 rfl ?_
    refine aw_aload_n dX6_readHouse_20 rfl ?_
    refine aw_cV dX6_readHouse_21 kX6_94 mX6_isNewName (sX6_isNewName hX hP1.1 hP1.2.1.2.2 hP1.2.2.1 hN) (Nat.le_of_ble_eq_true rfl) hX.rdr.1 ⟨by decide, rfl⟩ (hX.lt (by decide)) rfl rfl (Nat.le_of_ble_eq_true rfl) ⟨Nat.le_refl _, Nat.le_refl _⟩ ?_
    refine aw_if_ne (tgt := 29) dX6_readHouse_24 rfl (fun c24 => ?_) (fun c24 => ?_)
    · obtain ⟨g2, n2, he2⟩ := hP1.mok (i := 10 + cP p.2.1) c24
      refine AW.mem g2 ?_
      refine aw_aload_n dX6_readHouse_29 rfl ?_
      refine aw_aload_n dX6_readHouse_30 rfl ?_
      refine aw_getL dX6_readHouse_31 fX6_97 hX.rdr.1 (hX.lt (by decide)) rfl ?_
      refine AW.topL (hP1.1.2.2.2.2.2.1 (tNm2 n2)).1 ?_
      refine aw_cV dX6_readHouse_34 kX6_123 mX7_addHouse (sX7_addHouse (c := cP p.2.1) hX.spr (hP1.2.2.1.np.trans hN.p) hlt) (Nat.le_of_ble_eq_true rfl) hX.spr.k ⟨by decide, rfl⟩ hX.spr.b0 rfl rfl (Nat.le_of_ble_eq_true rfl) ⟨Nat.le_refl _, Nat.le_refl _⟩ ?_
      have hP2 := hP1.house (w := (nx T s p.1).2.2.2.1) hlt (hz hlt)
      have hG2 := hG1.tr hP2.2
      refine aw_astore_n dX6_readHouse_37 (by decide) rfl ?_
      refine aw_aload_n dX6_readHouse_38 rfl ?_
      refine aw_ifnonnull (tgt := 48) dX6_readHouse_39 rfl ?_
      refine aw_aload_n dX6_readHouse_48 rfl ?_
      refine aw_hV dX6_readHouse_49 kX6_59 mX6_next (sX6_next hX hP2.1.1.1 hP2.1.1.2.1 hs9 hP2.1.1.2.2.2.1 hP2.1.2.1.2.1 hP2.1.2.2.2.1) (Nat.le_of_ble_eq_true rfl) hX.rdr.1 ⟨by decide, rfl⟩ (hX.lt (by decide)) rfl rfl (Nat.le_of_ble_eq_true rfl) ⟨Nat.le_refl _, Nat.le_refl _⟩ (fun J3 M3 hq3 => ?_)
      have hP3 := hP2.1.adv hq3
      have hG3 := hG2.tr (RcG.nx hq3)
      have hc3 : cP (bumpC (cP p.2.1) (bumpI (cP p.2.1) p.2.1)) = cP p.2.1 + 1 := cP_eq upd_eq (by omega)
      refine aw_aload_n dX6_readHouse_52 rfl ?_
      refine aw_aload_n dX6_readHouse_53 rfl ?_
      refine aw_rV dX6_readHouse_54 kX6_127 mX6_readNumbers (sX6_readNumbers (c := cP p.2.1) hX hs9 hP3 (show cP p.2.1 < cP (bumpC (cP p.2.1) (bumpI (cP p.2.1) p.2.1)) by omega)) (Nat.le_of_ble_eq_true rfl) hX.rdr.1 ⟨by decide, rfl⟩ (hX.lt (by decide)) rfl rfl (Nat.le_of_ble_eq_true rfl) ⟨Nat.le_refl _, Nat.le_refl _⟩ (fun b4 J4 M4 hd4 => ?_)
      refine aw_if_eq (tgt := 82) dX6_readHouse_57 rfl (fun c57 => ?_) (fun c57 => ?_)
      · obtain ⟨hF4, hX4, e4, he4, hj4, hk4⟩ := hd4.no c57
        refine aw_iconst (v := 0) dX6_readHouse_82 rfl ?_
        refine aw_zret q rfl (Or.inl rfl) dX6_readHouse_83 ⟨Nat.le_refl _, Nat.le_refl _⟩ ?_
        exact RcP.fail (hG3.1.tr hF4) hX4 ((if_neg c9).trans ((pB_r he2).trans (pB_l he4))) hj4 hk4
      · obtain ⟨hH4, p4, he4, hP4⟩ := hd4.yes c57
        have hG4 := hG3.tr hH4
        have hc4 : cP p4.2.1 = cP p.2.1 + 1 := (cNums_c hlt he4).trans hc3
        refine aw_aload_n dX6_readHouse_60 rfl ?_
        refine aw_aload_n dX6_readHouse_61 rfl ?_
        refine aw_aload_n dX6_readHouse_62 rfl ?_
        refine aw_rV dX6_readHouse_63 kX6_131 mX6_readWhere (sX6_readWhere (c := cP p.2.1) hX hs9 hP4 (by rw [hc4]; omega)) (Nat.le_of_ble_eq_true rfl) hX.rdr.1 ⟨by decide, rfl⟩ (hX.lt (by decide)) rfl rfl (Nat.le_of_ble_eq_true rfl) ⟨Nat.le_refl _, Nat.le_refl _⟩ (fun b5 J5 M5 hd5 => ?_)
        refine aw_if_eq (tgt := 82) dX6_readHouse_66 rfl (fun c66 => ?_) (fun c66 => ?_)
        · obtain ⟨hF5, hX5, e5, he5, hj5, hk5⟩ := hd5.no c66
          refine aw_iconst (v := 0) dX6_readHouse_82 rfl ?_
          refine aw_zret q rfl (Or.inl rfl) dX6_readHouse_83 ⟨Nat.le_refl _, Nat.le_refl _⟩ ?_
          exact RcP.fail (hG4.1.tr hF5) hX5 ((if_neg c9).trans ((pB_r he2).trans ((pB_r he4).trans (pB_l he5)))) hj5 hk5
        · obtain ⟨hH5, p5, he5, hP5⟩ := hd5.yes c66
          have hG5 := hG4.tr hH5
          have hc5 : cP p5.2.1 = cP p.2.1 + 1 := (pWhere_c hlt he5).trans hc4
          refine aw_aload_n dX6_readHouse_69 rfl ?_
          refine aw_aload_n dX6_readHouse_70 rfl ?_
          refine aw_aload_n dX6_readHouse_71 rfl ?_
          refine aw_rV dX6_readHouse_72 kX6_135 mX6_readWishes (sX6_readWishes (c := cP p.2.1) hX hs9 hP5 (by rw [hc5]; omega)) (Nat.le_of_ble_eq_true rfl) hX.rdr.1 ⟨by decide, rfl⟩ (hX.lt (by decide)) rfl rfl (Nat.le_of_ble_eq_true rfl) ⟨Nat.le_refl _, Nat.le_refl _⟩ (fun b6 J6 M6 hd6 => ?_)
          refine aw_if_eq (tgt := 82) dX6_readHouse_75 rfl (fun c75 => ?_) (fun c75 => ?_)
          · obtain ⟨hF6, hX6, e6, he6, hj6, hk6⟩ := hd6.no c75
            refine aw_iconst (v := 0) dX6_readHouse_82 rfl ?_
            refine aw_zret q rfl (Or.inl rfl) dX6_readHouse_83 ⟨Nat.le_refl _, Nat.le_refl _⟩ ?_
            exact RcP.fail (hG5.1.tr hF6) hX6 ((if_neg c9).trans ((pB_r he2).trans ((pB_r he4).trans ((pB_r he5).trans he6)))) hj6 hk6
          · obtain ⟨hH6, p6, he6, hP6⟩ := hd6.yes c75
            have hG6 := hG5.tr hH6
            refine aw_iconst (v := 1) dX6_readHouse_78 rfl ?_
            refine aw_goto (tgt := 83) dX6_readHouse_79 rfl ?_
            refine aw_zret q rfl (Or.inr rfl) dX6_readHouse_83 ⟨Nat.le_refl _, Nat.le_refl _⟩ ?_
            exact RcP.good hG6 ((if_neg c9).trans ((pB_r he2).trans ((pB_r he4).trans ((pB_r he5).trans he6)))) hP6
    · obtain ⟨e2, g2, he2⟩ := hP1.mf (i := 10 + cP p.2.1) c24
      refine AW.mem g2 ?_
      refine aw_iconst (v := 0) dX6_readHouse_27 rfl ?_
      refine aw_zret q rfl (Or.inl rfl) dX6_readHouse_28 ⟨Nat.le_refl _, Nat.le_refl _⟩ ?_
      exact RcP.fl hG1 hP1.2.2.1.1 ((if_neg c9).trans (pB_l he2))
  · have c9 : cP p.2.1 = 8 := by
      have := mt (nI_ltI (a := cP p.2.1) (b := 8) (by omega) (by decide)).mpr c6
      omega
    refine aw_aload_n dX6_readHouse_9 rfl ?_
    refine aw_iconst (v := 5) dX6_readHouse_10 rfl ?_
    refine aw_cV dX6_readHouse_11 kX6_90 mX6_wrong (sX6_wrong hX) (Nat.le_of_ble_eq_true rfl) hX.rdr.1 ⟨by decide, rfl⟩ (hX.lt (by decide)) rfl rfl (Nat.le_of_ble_eq_true rfl) ⟨Nat.le_refl _, Nat.le_refl _⟩ ?_
    refine aw_zret q rfl (Or.inl rfl) dX6_readHouse_14 ⟨Nat.le_refl _, Nat.le_refl _⟩ ?_
    rw [wrong_fl hP.1]
    exact RcP.fl (c := 5) RcG.rf hP.2.2.1.1 ((if_pos c9).trans (pBad_k hk1))
set_option maxHeartbeats 4000000 in
set_option maxRecDepth 100000 in
theorem sX6_readLine (hX : IsX n sh) {T : Nat → Int32} {s : Nat} (hs9 : s ≤ 900) {p : PSt} (hP : Pc I L T s p) (hI : PI T s p)  : CM yX6_readLine cX6_readLine 2 (Option.some .boolean) 6 0 0 [.ref 479, .ref 35] z n sh I L (RcP z n sh I L T s (cLine T s p)) := by
  refine CM.go [some (.ref 479), some (.ref 35)] rfl rfl (Nat.le_of_ble_eq_true rfl) (fun X g q => ?_)
  have hN := hP.2.2.2.2.1
  have h8 : cP p.2.1 ≤ 8 := hN.p8
  have h10 : cH p.2.1 ≤ 10 := hN.h10
  refine aw_aload_n dX6_readLine_0 rfl ?_
  refine aw_getI dX6_readLine_1 fX6_62 hX.rdr.1 (hX.lt (by decide)) rfl ?_
  refine AW.top hP.1.2.2.2.2.1 ?_
  refine aw_iconst (v := 1) dX6_readLine_4 rfl ?_
  refine aw_icmp_eq (tgt := 13) dX6_readLine_5 rfl (fun c5 => ?_) (fun c5 => ?_)
  · have k2 := (cTk_1 _ hP.2.1.2.2).mp c5
    have hk1 : ¬ p.1.2.2.1 = 1 := by rw [k2]; decide
    refine aw_aload_n dX6_readLine_13 rfl ?_
    refine aw_getI dX6_readLine_14 fX6_76 hX.rdr.1 (hX.lt (by decide)) rfl ?_
    obtain ⟨x, ex⟩ : ∃ x, kwL p.1.2.2.2.1 10 = x := ⟨_, rfl⟩
    refine AW.top ((hP.1.2.2.2.2.2.1 k2).2.trans ex) ?_
    rcases swx x 3 (by decide) with ⟨j17, hj17, rfl⟩ | ho17
    · match j17, hj17 with
      | 0, _ =>
        refine aw_tableIn (off := 27) (tgt := 44) dX6_readLine_17 (by decide) (by decide) (by decide) rfl ?_
        refine aw_aload_n dX6_readLine_44 rfl ?_
        refine aw_aload_n dX6_readLine_45 rfl ?_
        refine aw_rV dX6_readLine_46 kX6_78 mX6_readHome (sX6_readHome hX hs9 hP hk1 (fun h9 j hj => hI.2.2.1.2.2.2.1 _ (by omega) (by omega))) (Nat.le_of_ble_eq_true rfl) hX.rdr.1 ⟨by decide, rfl⟩ (hX.lt (by decide)) rfl rfl (Nat.le_of_ble_eq_true rfl) ⟨Nat.le_refl _, Nat.le_refl _⟩ (fun b1 J1 M1 hd1 => ?_)
        refine aw_goto (tgt := 72) dX6_readLine_49 rfl ?_
        refine aw_zret q rfl hd1.v01 dX6_readLine_72 ⟨Nat.le_refl _, Nat.le_refl _⟩ ?_
        exact RcP.with_ RcG.rf hd1 (if_pos ((tWd_kw k2 (i := 0) (by decide)).mp ex))
      | 1, _ =>
        refine aw_tableIn (off := 35) (tgt := 52) dX6_readLine_17 (by decide) (by decide) (by decide) rfl ?_
        refine aw_aload_n dX6_readLine_52 rfl ?_
        refine aw_aload_n dX6_readLine_53 rfl ?_
        refine aw_rV dX6_readLine_54 kX6_81 mX6_readHouse (sX6_readHouse hX hs9 hP hk1 (fun h9 j hj => hI.2.2.1.2.2.2.2.1 _ (by omega) (by omega))) (Nat.le_of_ble_eq_true rfl) hX.rdr.1 ⟨by decide, rfl⟩ (hX.lt (by decide)) rfl rfl (Nat.le_of_ble_eq_true rfl) ⟨Nat.le_refl _, Nat.le_refl _⟩ (fun b2 J2 M2 hd2 => ?_)
        refine aw_goto (tgt := 72) dX6_readLine_57 rfl ?_
        refine aw_zret q rfl hd2.v01 dX6_readLine_72 ⟨Nat.le_refl _, Nat.le_refl _⟩ ?_
        exact RcP.with_ RcG.rf hd2 ((if_neg (fun q => absurd (((tWd_kw k2 (i := 0) (by decide)).mpr q).symm.trans ex) (by decide))).trans (if_pos ((tWd_kw k2 (i := 1) (by decide)).mp ex)))
      | 2, _ =>
        refine aw_tableIn (off := 43) (tgt := 60) dX6_readLine_17 (by decide) (by decide) (by decide) rfl ?_
        refine aw_aload_n dX6_readLine_60 rfl ?_
        refine aw_aload_n dX6_readLine_61 rfl ?_
        refine aw_rV dX6_readLine_62 kX6_84 mX6_readRule (sX6_readRule hX hs9 hP (PG.iv hI.2.1 hI.2.2.1).ok) (Nat.le_of_ble_eq_true rfl) hX.rdr.1 ⟨by decide, rfl⟩ (hX.lt (by decide)) rfl rfl (Nat.le_of_ble_eq_true rfl) ⟨Nat.le_refl _, Nat.le_refl _⟩ (fun b3 J3 M3 hd3 => ?_)
        refine aw_goto (tgt := 72) dX6_readLine_65 rfl ?_
        refine aw_zret q rfl hd3.v01 dX6_readLine_72 ⟨Nat.le_refl _, Nat.le_refl _⟩ ?_
        exact RcP.with_ RcG.rf hd3 ((if_neg (fun q => absurd (((tWd_kw k2 (i := 0) (by decide)).mpr q).symm.trans ex) (by decide))).trans ((if_neg (fun q => absurd (((tWd_kw k2 (i := 1) (by decide)).mpr q).symm.trans ex) (by decide))).trans (if_pos ((tWd_kw k2 (i := 2) (by decide)).mp ex))))
    · refine aw_tableOut (tgt := 68) dX6_readLine_17 (by omega) rfl ?_
      refine aw_aload_n dX6_readLine_68 rfl ?_
      refine aw_cV dX6_readLine_69 kX6_73 mX6_misplaced (sX6_misplaced hX hP.1 hP.2.1.2.2) (Nat.le_of_ble_eq_true rfl) hX.rdr.1 ⟨by decide, rfl⟩ (hX.lt (by decide)) rfl rfl (Nat.le_of_ble_eq_true rfl) ⟨Nat.le_refl _, Nat.le_refl _⟩ ?_
      refine aw_zret q rfl (Or.inl rfl) dX6_readLine_72 ⟨Nat.le_refl _, Nat.le_refl _⟩ ?_
      exact RcP.ms RcG.rf hP.2.2.1.1 ((if_neg (fun q => out_ne ho17 (j := 0) (by decide) (by decide) (ex.symm.trans ((tWd_kw k2 (i := 0) (by decide)).mpr q)))).trans ((if_neg (fun q => out_ne ho17 (j := 1) (by decide) (by decide) (ex.symm.trans ((tWd_kw k2 (i := 1) (by decide)).mpr q)))).trans (if_neg (fun q => out_ne ho17 (j := 2) (by decide) (by decide) (ex.symm.trans ((tWd_kw k2 (i := 2) (by decide)).mpr q))))))
  · have k2 : ¬ p.1.2.2.1 = 2 := fun q => c5 ((cTk_1 _ hP.2.1.2.2).mpr q)
    refine aw_aload_n dX6_readLine_8 rfl ?_
    refine aw_cV dX6_readLine_9 kX6_73 mX6_misplaced (sX6_misplaced hX hP.1 hP.2.1.2.2) (Nat.le_of_ble_eq_true rfl) hX.rdr.1 ⟨by decide, rfl⟩ (hX.lt (by decide)) rfl rfl (Nat.le_of_ble_eq_true rfl) ⟨Nat.le_refl _, Nat.le_refl _⟩ ?_
    refine aw_zret q rfl (Or.inl rfl) dX6_readLine_12 ⟨Nat.le_refl _, Nat.le_refl _⟩ ?_
    exact RcP.ms RcG.rf hP.2.2.1.1 ((if_neg (fun q => (k2 (tWd_k q)))).trans ((if_neg (fun q => (k2 (tWd_k q)))).trans (if_neg (fun q => (k2 (tWd_k q))))))
end ClsS
