/-! the class's reader: where a house lives, what it wishes -/
theorem tWd_kw {k : Tk} (hk : k.2.2.1 = 2) {i : Nat} (hi : i < 10) : kwL k.2.2.2.1 10 = nI i ↔ tWd k (kwM i) = true := by
  rw [kwL_at hi]
  unfold tWd
  rw [Bool.and_eq_true, decide_eq_true_eq, decide_eq_true_eq]
  exact ⟨fun h => ⟨hk, h.symm⟩, fun h => h.2.symm⟩
section RcW
variable {I J K I0 : MI} {L M O L0 : ML} {T : Nat → Int32} {s z n : Nat} {sh : Shp} {p : PSt} {r r0 : PRs} {b : Nat} {N : Nat → Int32} {Q : Nat → Int64}
theorem hNam_y (hS : IsS n sh b) (hC : CtS I L b N Q) (hN : Cn N) {w : Int64} {hh : Nat} (e : hh = pHere Q w (nHo N)) (h : hh < nHo N) : CM yX7_homeNamed cX7_homeNamed 4 (Option.some (.object "HomesQueue$Home")) 1 0 0 [.ref b, .long w] z n sh I L (Pst (some (.ref (b + 2 + hh))) z n sh I L) := by
  have h1 := sX7_homeNamed (z := z) hS hC hN (w := w)
  have h2 : hmF Q w (nHo N) = some hh := by subst e; exact if_pos h
  rw [h2] at h1
  exact h1
theorem hNam_n (hS : IsS n sh b) (hC : CtS I L b N Q) (hN : Cn N) {w : Int64} {hh : Nat} (e : hh = pHere Q w (nHo N)) (h : ¬ hh < nHo N) : CM yX7_homeNamed cX7_homeNamed 4 (Option.some (.object "HomesQueue$Home")) 1 0 0 [.ref b, .long w] z n sh I L (Pst (some .null) z n sh I L) := by
  have h1 := sX7_homeNamed (z := z) hS hC hN (w := w)
  have h2 : hmF Q w (nHo N) = none := by subst e; exact if_neg h
  rw [h2] at h1
  exact h1
theorem Pc.whoH {c h : Nat} (hp : Pc I L T s p) (hc : c < 8) (hh : h < 10) : Pc (upI I (35 + 2 + h) 5 (nI c)) L T s (p.1, upd p.2.1 (8 * h + 2) (nI c), p.2.2) ∧ RcG I (upI I (35 + 2 + h) 5 (nI c)) L L :=
  ⟨hp.put ⟨by omega, by omega⟩ (hp.2.2.1.put0h (w := 2) hp.2.2.2.2.1 hp.2.2.2.2.2 hh (by decide)) (hp.2.2.2.2.1.who' hh (Or.inr ⟨c, hc, rfl⟩)) (nLe_u hp.2.2.2.2.2 (by omega)), RcG.put ⟨by omega, by omega⟩⟩
theorem Pc.homP {c h : Nat} (hp : Pc I L T s p) (hc : c < 8) (hh : h < 10) : Pc (upI I (35 + 13 + 2 * c) 9 (nI h)) L T s (p.1, upd p.2.1 (80 + 18 * c + 4) (nI h), p.2.2) ∧ RcG I (upI I (35 + 13 + 2 * c) 9 (nI h)) L L :=
  ⟨hp.put ⟨by omega, by omega⟩ (hp.2.2.1.put0p (w := 4) hp.2.2.2.2.1 hp.2.2.2.2.2 hc (by decide)) (hp.2.2.2.2.1.home' hc (Or.inr ⟨h, hh, rfl⟩)) (nLe_u hp.2.2.2.2.2 (by omega)), RcG.put ⟨by omega, by omega⟩⟩
theorem Pc.row {k : Tk} {R R' : Nat → Int32} (h : Pc I L T s (k, R, Q)) (e : R = R') : Pc I L T s (k, R', Q) := e ▸ h
theorem wish_cn {c h : Nat} (hN : Cn N) (hc : c < 8) (hh : h < 10) (h6 : nWi N c < 6) : Cn (wishN N c h) := by
  refine wishCc (wishC2 hN hc h6 rfl hh) hc (by omega) (fun i hi => ?_)
  by_cases e : i = nWi N c
  · subst e
    exact ⟨h, hh, upd_eq⟩
  · obtain ⟨j, j1, j2⟩ := hN.wi hc (show i < nWi N c by omega)
    exact ⟨j, j1, (upd_ne (by omega)).trans j2⟩
theorem Pc.wish {c h : Nat} (hp : Pc I L T s p) (hc : c < 8) (hh : h < 10) (h6 : cW p.2.1 c < 6) (hF : Fr 35 I J) (hJ : CtS J L 35 (wishN p.2.1 c h) p.2.2) : Pc J L T s (p.1, wishN p.2.1 c h, p.2.2) ∧ RcG I J L L := by
  have h7 : nWi p.2.1 c < 6 := h6
  exact ⟨hp.st (fun x hx => hF x (by omega)) (fun _ _ => rfl) hJ (wish_cn hp.2.2.2.2.1 hc hh h6) (nLe_u (nLe_u hp.2.2.2.2.2 (by omega)) (by omega)), RcG.st (fun x hx => hF x (by omega)) (fun _ _ => rfl)⟩
theorem iFirst_no {P : Nat → Bool} {k : Nat} (hk : k ≤ 6) : iFirst P k = -1 ↔ ¬ fa_first P k < k := by
  unfold iFirst
  by_cases h : fa_first P k < k
  · rw [if_pos h]
    exact ⟨fun e => absurd e (nI_ne_m1 (by omega)), fun q => absurd h q⟩
  · rw [if_neg h]
    exact ⟨fun _ => h, fun _ => rfl⟩
end RcW
section ClsS
variable {z n : Nat} {sh : Shp} {I : MI} {L : ML} {N : Nat → Int32} {Q : Nat → Int64}
set_option maxHeartbeats 4000000 in
set_option maxRecDepth 100000 in
theorem sX6_readWhere (hX : IsX n sh) {T : Nat → Int32} {s : Nat} (hs9 : s ≤ 900) {p : PSt} (hP : Pc I L T s p) {c : Nat} (hc : c < cP p.2.1)  : CM yX6_readWhere cX6_readWhere 4 (Option.some .boolean) 4 0 0 [.ref 479, .ref 35, .ref (35 + 13 + 2 * c)] z n sh I L (RcP z n sh I L T s (pWhere T s c p)) := by
  refine CM.go [some (.ref 479), some (.ref 35), some (.ref (35 + 13 + 2 * c)), none] rfl rfl (Nat.le_of_ble_eq_true rfl) (fun X g q => ?_)
  have hN := hP.2.2.2.2.1
  have h8 : cP p.2.1 ≤ 8 := hN.p8
  have h10 : cH p.2.1 ≤ 10 := hN.h10
  refine aw_aload_n dX6_readWhere_0 rfl ?_
  refine aw_getI dX6_readWhere_1 fX6_62 hX.rdr.1 (hX.lt (by decide)) rfl ?_
  refine AW.top hP.1.2.2.2.2.1 ?_
  refine aw_iconst (v := 1) dX6_readWhere_4 rfl ?_
  refine aw_icmp_ne (tgt := 16) dX6_readWhere_5 rfl (fun c5 => ?_) (fun c5 => ?_)
  · have w9 : ¬ tWd p.1 9 = true := fun q => c5 ((cTk_1 _ hP.2.1.2.2).mpr (tWd_k q))
    refine aw_iconst (v := 1) dX6_readWhere_16 rfl ?_
    refine aw_zret q rfl (Or.inr rfl) dX6_readWhere_17 ⟨Nat.le_refl _, Nat.le_refl _⟩ ?_
    exact RcP.good RcG.rf (if_neg w9) hP
  · have k2 := (cTk_1 _ hP.2.1.2.2).mp c5
    refine aw_aload_n dX6_readWhere_8 rfl ?_
    refine aw_getI dX6_readWhere_9 fX6_76 hX.rdr.1 (hX.lt (by decide)) rfl ?_
    refine AW.top (hP.1.2.2.2.2.2.1 k2).2 ?_
    refine aw_iconst (v := 3) dX6_readWhere_12 rfl ?_
    refine aw_icmp_eq (tgt := 18) dX6_readWhere_13 rfl (fun c13 => ?_) (fun c13 => ?_)
    · have w9 : tWd p.1 9 = true := (tWd_kw k2 (i := 3) (by decide)).mp c13
      refine aw_aload_n dX6_readWhere_18 rfl ?_
      refine aw_hV dX6_readWhere_19 kX6_59 mX6_next (sX6_next hX hP.1.1 hP.1.2.1 hs9 hP.1.2.2.2.1 hP.2.1.2.1 hP.2.2.2.1) (Nat.le_of_ble_eq_true rfl) hX.rdr.1 ⟨by decide, rfl⟩ (hX.lt (by decide)) rfl rfl (Nat.le_of_ble_eq_true rfl) ⟨Nat.le_refl _, Nat.le_refl _⟩ (fun J1 M1 hq1 => ?_)
      have hP1 := hP.adv hq1
      have hG1 := RcG.nx hq1
      refine aw_aload_n dX6_readWhere_22 rfl ?_
      refine aw_cV dX6_readWhere_23 kX6_152 mX6_isName (sX6_isName hX hP1.1 hP1.2.1.2.2) (Nat.le_of_ble_eq_true rfl) hX.rdr.1 ⟨by decide, rfl⟩ (hX.lt (by decide)) rfl rfl (Nat.le_of_ble_eq_true rfl) ⟨Nat.le_refl _, Nat.le_refl _⟩ ?_
      refine aw_if_ne (tgt := 34) dX6_readWhere_26 rfl (fun c26 => ?_) (fun c26 => ?_)
      · have n9 := bI1.mp c26
        have n2 := tNm2 n9
        obtain ⟨hh, ehh⟩ : ∃ hh, hh = pHere p.2.2 (nx T s p.1).2.2.2.1 (cH p.2.1) := ⟨_, rfl⟩
        have hh10 : hh ≤ cH p.2.1 := by rw [ehh]; exact fa_first_le _ _
        by_cases g9 : hh < cH p.2.1
        · refine aw_aload_n dX6_readWhere_34 rfl ?_
          refine aw_aload_n dX6_readWhere_35 rfl ?_
          refine aw_getL dX6_readWhere_36 fX6_97 hX.rdr.1 (hX.lt (by decide)) rfl ?_
          refine AW.topL (hP1.1.2.2.2.2.2.1 n2).1 ?_
          refine aw_cV dX6_readWhere_39 kX6_155 mX7_homeNamed (hNam_y hX.spr hP1.2.2.1 hN ehh g9) (Nat.le_of_ble_eq_true rfl) hX.spr.k ⟨by decide, rfl⟩ hX.spr.b0 rfl rfl (Nat.le_of_ble_eq_true rfl) ⟨Nat.le_refl _, Nat.le_refl _⟩ ?_
          refine aw_astore_n dX6_readWhere_42 (by decide) rfl ?_
          refine aw_aload_n dX6_readWhere_43 rfl ?_
          refine aw_ifnull dX6_readWhere_44 ?_
          refine aw_aload_n dX6_readWhere_47 rfl ?_
          refine aw_getI dX6_readWhere_48 fX6_158 (hX.spr.ho (by omega)) (hX.spr.hb (by omega)) rfl ?_
          refine AW.top (hP1.2.2.1.hf (w := 2) hN.h10 g9 (by decide)) ?_
          refine aw_iconst (v := (-1)) dX6_readWhere_51 rfl ?_
          refine aw_icmp_eq (tgt := 61) dX6_readWhere_52 rfl (fun c52 => ?_) (fun c52 => ?_)
          · have t9 : p.2.1 (8 * hh + 2) = -1 := c52
            refine aw_aload_n dX6_readWhere_61 rfl ?_
            refine aw_aload_n dX6_readWhere_62 rfl ?_
            refine aw_getI dX6_readWhere_63 fX6_161 (hX.spr.po (by omega)) (hX.spr.pb (by omega)) rfl ?_
            refine AW.top (hP1.2.2.1.pn (by omega)) ?_
            refine aw_putI dX6_readWhere_66 fX6_158 (hX.spr.ho (by omega)) (hX.spr.hb (by omega)) rfl rfl ?_
            have hP2 := hP1.whoH (c := c) (h := hh) (by omega) (by omega)
            have hG2 := hG1.tr hP2.2
            refine aw_aload_n dX6_readWhere_69 rfl ?_
            refine aw_aload_n dX6_readWhere_70 rfl ?_
            refine aw_getI dX6_readWhere_71 fX6_162 (hX.spr.ho (by omega)) (hX.spr.hb (by omega)) rfl ?_
            refine AW.top (hP2.1.2.2.1.hn (by omega)) ?_
            refine aw_putI dX6_readWhere_74 fX6_163 (hX.spr.po (by omega)) (hX.spr.pb (by omega)) rfl rfl ?_
            have hP3 := hP2.1.homP (c := c) (h := hh) (by omega) (by omega)
            have hG3 := hG2.tr hP3.2
            refine aw_aload_n dX6_readWhere_77 rfl ?_
            refine aw_hV dX6_readWhere_78 kX6_59 mX6_next (sX6_next hX hP3.1.1.1 hP3.1.1.2.1 hs9 hP3.1.1.2.2.2.1 hP3.1.2.1.2.1 hP3.1.2.2.2.1) (Nat.le_of_ble_eq_true rfl) hX.rdr.1 ⟨by decide, rfl⟩ (hX.lt (by decide)) rfl rfl (Nat.le_of_ble_eq_true rfl) ⟨Nat.le_refl _, Nat.le_refl _⟩ (fun J4 M4 hq4 => ?_)
            have hP4 := hP3.1.adv hq4
            have hG4 := hG3.tr (RcG.nx hq4)
            refine aw_iconst (v := 1) dX6_readWhere_81 rfl ?_
            refine aw_zret q rfl (Or.inr rfl) dX6_readWhere_82 ⟨Nat.le_refl _, Nat.le_refl _⟩ ?_
            refine RcP.good hG4 ((if_pos w9).trans ((if_pos n9).trans ((if_pos ?_).trans ?_))) (hP4.row (upd_comm (by omega)))
            · rw [← ehh]
              exact ⟨g9, t9⟩
            · rw [← ehh]
          · have t9 : ¬ p.2.1 (8 * hh + 2) = -1 := c52
            refine aw_aload_n dX6_readWhere_55 rfl ?_
            refine aw_iconst (v := 4) dX6_readWhere_56 rfl ?_
            refine aw_cV dX6_readWhere_57 kX6_90 mX6_wrong (sX6_wrong hX) (Nat.le_of_ble_eq_true rfl) hX.rdr.1 ⟨by decide, rfl⟩ (hX.lt (by decide)) rfl rfl (Nat.le_of_ble_eq_true rfl) ⟨Nat.le_refl _, Nat.le_refl _⟩ ?_
            refine aw_zret q rfl (Or.inl rfl) dX6_readWhere_60 ⟨Nat.le_refl _, Nat.le_refl _⟩ ?_
            rw [wrong_fl hP1.1]
            refine RcP.fl (c := 4) hG1 hP1.2.2.1.1 ((if_pos w9).trans ((if_pos n9).trans ((if_neg ?_).trans (pBad_k ?_))))
            · rw [← ehh]
              exact fun q => t9 q.2
            · show ¬ (nx T s p.1).2.2.1 = 1
              rw [n2]
              decide
        · refine aw_aload_n dX6_readWhere_34 rfl ?_
          refine aw_aload_n dX6_readWhere_35 rfl ?_
          refine aw_getL dX6_readWhere_36 fX6_97 hX.rdr.1 (hX.lt (by decide)) rfl ?_
          refine AW.topL (hP1.1.2.2.2.2.2.1 n2).1 ?_
          refine aw_cV dX6_readWhere_39 kX6_155 mX7_homeNamed (hNam_n hX.spr hP1.2.2.1 hN ehh g9) (Nat.le_of_ble_eq_true rfl) hX.spr.k ⟨by decide, rfl⟩ hX.spr.b0 rfl rfl (Nat.le_of_ble_eq_true rfl) ⟨Nat.le_refl _, Nat.le_refl _⟩ ?_
          refine aw_astore_nN dX6_readWhere_42 (by decide) rfl ?_
          refine aw_aload_nN dX6_readWhere_43 rfl ?_
          refine aw_ifnullN (tgt := 55) dX6_readWhere_44 rfl ?_
          refine aw_aload_n dX6_readWhere_55 rfl ?_
          refine aw_iconst (v := 4) dX6_readWhere_56 rfl ?_
          refine aw_cV dX6_readWhere_57 kX6_90 mX6_wrong (sX6_wrong hX) (Nat.le_of_ble_eq_true rfl) hX.rdr.1 ⟨by decide, rfl⟩ (hX.lt (by decide)) rfl rfl (Nat.le_of_ble_eq_true rfl) ⟨Nat.le_refl _, Nat.le_refl _⟩ ?_
          refine aw_zret q rfl (Or.inl rfl) dX6_readWhere_60 ⟨Nat.le_refl _, Nat.le_refl _⟩ ?_
          rw [wrong_fl hP1.1]
          refine RcP.fl (c := 4) hG1 hP1.2.2.1.1 ((if_pos w9).trans ((if_pos n9).trans ((if_neg ?_).trans (pBad_k ?_))))
          · rw [← ehh]
            exact fun q => g9 q.1
          · show ¬ (nx T s p.1).2.2.1 = 1
            rw [n2]
            decide
      · have n9 : ¬ tNm (nx T s p.1) = true := by rw [bI0.mp c26]; decide
        refine aw_aload_n dX6_readWhere_29 rfl ?_
        refine aw_cV dX6_readWhere_30 kX6_73 mX6_misplaced (sX6_misplaced hX hP1.1 hP1.2.1.2.2) (Nat.le_of_ble_eq_true rfl) hX.rdr.1 ⟨by decide, rfl⟩ (hX.lt (by decide)) rfl rfl (Nat.le_of_ble_eq_true rfl) ⟨Nat.le_refl _, Nat.le_refl _⟩ ?_
        refine aw_zret q rfl (Or.inl rfl) dX6_readWhere_33 ⟨Nat.le_refl _, Nat.le_refl _⟩ ?_
        exact RcP.ms hG1 hP1.2.2.1.1 ((if_pos w9).trans (if_neg n9))
    · have w9 : ¬ tWd p.1 9 = true := fun q => c13 ((tWd_kw k2 (i := 3) (by decide)).mpr q)
      refine aw_iconst (v := 1) dX6_readWhere_16 rfl ?_
      refine aw_zret q rfl (Or.inr rfl) dX6_readWhere_17 ⟨Nat.le_refl _, Nat.le_refl _⟩ ?_
      exact RcP.good RcG.rf (if_neg w9) hP
set_option maxHeartbeats 4000000 in
set_option maxRecDepth 100000 in
theorem sX6_readWishes (hX : IsX n sh) {T : Nat → Int32} {s : Nat} (hs9 : s ≤ 900) {p : PSt} (hP : Pc I L T s p) {c : Nat} (hc : c < cP p.2.1) : CM yX6_readWishes cX6_readWishes 5 (Option.some .boolean) 4 0 0 [.ref 479, .ref 35, .ref (35 + 13 + 2 * c)] z n sh I L (RcP z n sh I L T s (pWishes T s c 7 p)) := by
  refine CM.go [some (.ref 479), some (.ref 35), some (.ref (35 + 13 + 2 * c)), none, none] rfl rfl (Nat.le_of_ble_eq_true rfl) (fun X g q => ?_)
  have hN := hP.2.2.2.2.1
  have h8 : cP p.2.1 ≤ 8 := hN.p8
  have h10 : cH p.2.1 ≤ 10 := hN.h10
  have loop : ∀ d i (u : Option Value) (p6 : PSt) (J : MI) (M : ML), i + d = 7 → Pc J M T s p6 → RcG I J L M → c < cP p6.2.1 → pWishes T s c 7 p = pWishes T s c d p6 → AW X g RX6 cX6_readWishes 5 (4, 0, 0) (z, n, sh, 0, 0) (J) (M) 2 [some (.ref 479), some (.ref 35), some (.ref (35 + 13 + 2 * c)), some (.int (nI i)), u] [] := by
    intro d
    induction d with
    | zero =>
      intro i u p6 J M hd hP6 hG6 hc6 hE
      refine aw_iload_n dX6_readWishes_2 rfl ?_
      refine aw_bipush (v := 6) dX6_readWishes_3 rfl ?_
      refine aw_icmp_gt (tgt := 83) dX6_readWishes_5 rfl (fun c5 => ?_) (fun c5 => ?_)
      · skip
        refine aw_iconst (v := 1) dX6_readWishes_83 rfl ?_
        refine aw_zret q rfl (Or.inr rfl) dX6_readWishes_84 ⟨Nat.le_refl _, Nat.le_refl _⟩ ?_
        exact RcP.good hG6 hE hP6
      · exact absurd ((nI_ltI (a := 6) (b := i) (by decide) (by omega)).mpr (by omega)) c5
    | succ d ih =>
      intro i u p6 J M hd hP6 hG6 hc6 hE
      have hN6 := hP6.2.2.2.2.1
      have h86 : cP p6.2.1 ≤ 8 := hN6.p8
      have h106 : cH p6.2.1 ≤ 10 := hN6.h10
      have hw6 : cW p6.2.1 c ≤ 6 := hN6.w6 (by omega)
      refine aw_iload_n dX6_readWishes_2 rfl ?_
      refine aw_bipush (v := 6) dX6_readWishes_3 rfl ?_
      refine aw_icmp_gt (tgt := 83) dX6_readWishes_5 rfl (fun c5 => ?_) (fun c5 => ?_)
      · exact absurd ((nI_ltI (a := 6) (b := i) (by decide) (by omega)).mp c5) (by omega)
      · skip
        refine aw_aload_n dX6_readWishes_8 rfl ?_
        refine aw_cV dX6_readWishes_9 kX6_152 mX6_isName (sX6_isName hX hP6.1 hP6.2.1.2.2) (Nat.le_of_ble_eq_true rfl) hX.rdr.1 ⟨by decide, rfl⟩ (hX.lt (by decide)) rfl rfl (Nat.le_of_ble_eq_true rfl) ⟨Nat.le_refl _, Nat.le_refl _⟩ ?_
        refine aw_if_eq (tgt := 83) dX6_readWishes_12 rfl (fun c12 => ?_) (fun c12 => ?_)
        · have n9 := bI0.mp c12
          rw [pWs_f n9] at hE
          refine aw_iconst (v := 1) dX6_readWishes_83 rfl ?_
          refine aw_zret q rfl (Or.inr rfl) dX6_readWishes_84 ⟨Nat.le_refl _, Nat.le_refl _⟩ ?_
          exact RcP.good hG6 hE hP6
        · have n9 := bI1.mp c12
          have n2 := tNm2 n9
          rw [pWs_t n9] at hE
          obtain ⟨hh, ehh⟩ : ∃ hh, hh = pHere p6.2.2 p6.1.2.2.2.1 (cH p6.2.1) := ⟨_, rfl⟩
          have hh10 : hh ≤ cH p6.2.1 := by rw [ehh]; exact fa_first_le _ _
          by_cases g9 : hh < cH p6.2.1
          · refine aw_aload_n dX6_readWishes_15 rfl ?_
            refine aw_aload_n dX6_readWishes_16 rfl ?_
            refine aw_getL dX6_readWishes_17 fX6_97 hX.rdr.1 (hX.lt (by decide)) rfl ?_
            refine AW.topL (hP6.1.2.2.2.2.2.1 n2).1 ?_
            refine aw_cV dX6_readWishes_20 kX6_155 mX7_homeNamed (hNam_y hX.spr hP6.2.2.1 hN6 ehh g9) (Nat.le_of_ble_eq_true rfl) hX.spr.k ⟨by decide, rfl⟩ hX.spr.b0 rfl rfl (Nat.le_of_ble_eq_true rfl) ⟨Nat.le_refl _, Nat.le_refl _⟩ ?_
            refine aw_astore dX6_readWishes_23 (by decide) rfl ?_
            refine aw_aload dX6_readWishes_25 rfl ?_
            refine aw_ifnull dX6_readWishes_27 ?_
            refine aw_aload_n dX6_readWishes_30 rfl ?_
            refine aw_aload dX6_readWishes_31 rfl ?_
            refine aw_getI dX6_readWishes_33 fX6_162 (hX.spr.ho (by omega)) (hX.spr.hb (by omega)) rfl ?_
            refine AW.top (hP6.2.2.1.hn (by omega)) ?_
            refine aw_cV dX6_readWishes_36 kX6_166 mX3_rankOfWish (sX3_rankOfWish hX.spr hP6.2.2.1 hN6 hc6) (Nat.le_of_ble_eq_true rfl) (hX.spr.po (by omega)) ⟨by decide, rfl⟩ (hX.spr.pb (by omega)) rfl rfl (Nat.le_of_ble_eq_true rfl) ⟨Nat.le_refl _, Nat.le_refl _⟩ ?_
            refine aw_iconst (v := (-1)) dX6_readWishes_39 rfl ?_
            refine aw_icmp_eq (tgt := 49) dX6_readWishes_40 rfl (fun c40 => ?_) (fun c40 => ?_)
            · have f9 : ¬ fa_first (fun k => decide (p6.2.1 (80 + 18 * c + (12 + k)) = nI hh)) (cW p6.2.1 c) < cW p6.2.1 c := (iFirst_no hw6).mp c40
              refine aw_aload_n dX6_readWishes_49 rfl ?_
              refine aw_getI dX6_readWishes_50 fX6_170 (hX.spr.po (by omega)) (hX.spr.pb (by omega)) rfl ?_
              refine AW.top (y := nI (cW p6.2.1 c)) ((hP6.2.2.1.pf hN6.p8 (p := c) (w := 11) hc6 (by decide) (by decide) (by decide)).trans (hN6.w (by omega))) ?_
              refine aw_bipush (v := 6) dX6_readWishes_53 rfl ?_
              refine aw_icmp_lt (tgt := 64) dX6_readWishes_55 rfl (fun c55 => ?_) (fun c55 => ?_)
              · have l6 : cW p6.2.1 c < 6 := (nI_ltI (a := cW p6.2.1 c) (b := 6) (by omega) (by decide)).mp c55
                refine aw_aload_n dX6_readWishes_64 rfl ?_
                refine aw_aload dX6_readWishes_65 rfl ?_
                refine aw_getI dX6_readWishes_67 fX6_162 (hX.spr.ho (by omega)) (hX.spr.hb (by omega)) rfl ?_
                refine AW.top (hP6.2.2.1.hn (by omega)) ?_
                refine aw_mV dX6_readWishes_70 kX6_173 mX3_addWish (sX3_addWish (h := hh) hX.spr hP6.2.2.1 hN6 hc6 rfl l6) (Nat.le_of_ble_eq_true rfl) (hX.spr.po (by omega)) ⟨by decide, rfl⟩ (hX.spr.pb (by omega)) rfl rfl (Nat.le_of_ble_eq_true rfl) ⟨Nat.le_refl _, Nat.le_refl _⟩ (fun J7 hF7 hJ7 => ?_)
                have hP7 := hP6.wish (c := c) (h := hh) (by omega) (by omega) l6 hF7 hJ7
                have hG7 := hG6.tr hP7.2
                refine aw_aload_n dX6_readWishes_73 rfl ?_
                refine aw_hV dX6_readWishes_74 kX6_59 mX6_next (sX6_next hX hP7.1.1.1 hP7.1.1.2.1 hs9 hP7.1.1.2.2.2.1 hP7.1.2.1.2.1 hP7.1.2.2.2.1) (Nat.le_of_ble_eq_true rfl) hX.rdr.1 ⟨by decide, rfl⟩ (hX.lt (by decide)) rfl rfl (Nat.le_of_ble_eq_true rfl) ⟨Nat.le_refl _, Nat.le_refl _⟩ (fun J8 M8 hq8 => ?_)
                have hP8 := hP7.1.adv hq8
                have hG8 := hG7.tr (RcG.nx hq8)
                refine aw_iinc dX6_readWishes_77 rfl (ginc rfl) (by decide) rfl ?_
                refine aw_goto (tgt := 2) dX6_readWishes_80 rfl ?_
                refine ih (i + 1) _ _ _ _ (by omega) hP8 hG8 ?_ (hE.trans (pB_r ((if_pos (by rw [← ehh]; exact g9)).trans ((if_neg (by rw [← ehh]; exact f9)).trans ((if_neg (by omega)).trans (by rw [← ehh]; rfl))))))
                show c < cP (wishN p6.2.1 c hh)
                have h7 : nWi p6.2.1 c < 6 := l6
                have e : cP (wishN p6.2.1 c hh) = cP p6.2.1 := by
                  unfold cP wishN mPuts
                  rw [upd_ne (by omega), upd_ne (by omega)]
                rw [e]
                exact hc6
              · have l6 : cW p6.2.1 c = 6 := by
                  have := mt (nI_ltI (a := cW p6.2.1 c) (b := 6) (by omega) (by decide)).mpr c55
                  omega
                refine aw_aload_n dX6_readWishes_58 rfl ?_
                refine aw_iconst (v := 5) dX6_readWishes_59 rfl ?_
                refine aw_cV dX6_readWishes_60 kX6_90 mX6_wrong (sX6_wrong hX) (Nat.le_of_ble_eq_true rfl) hX.rdr.1 ⟨by decide, rfl⟩ (hX.lt (by decide)) rfl rfl (Nat.le_of_ble_eq_true rfl) ⟨Nat.le_refl _, Nat.le_refl _⟩ ?_
                refine aw_zret q rfl (Or.inl rfl) dX6_readWishes_63 ⟨Nat.le_refl _, Nat.le_refl _⟩ ?_
                rw [wrong_fl hP6.1]
                refine RcP.fl (c := 5) hG6 hP6.2.2.1.1 (hE.trans (pB_l ((if_pos (by rw [← ehh]; exact g9)).trans ((if_neg (by rw [← ehh]; exact f9)).trans ((if_pos l6).trans (pBad_k (by rw [n2]; decide)))))))
            · have f9 : fa_first (fun k => decide (p6.2.1 (80 + 18 * c + (12 + k)) = nI hh)) (cW p6.2.1 c) < cW p6.2.1 c := Classical.byContradiction (fun z => c40 ((iFirst_no hw6).mpr z))
              refine aw_aload_n dX6_readWishes_43 rfl ?_
              refine aw_iconst (v := 4) dX6_readWishes_44 rfl ?_
              refine aw_cV dX6_readWishes_45 kX6_90 mX6_wrong (sX6_wrong hX) (Nat.le_of_ble_eq_true rfl) hX.rdr.1 ⟨by decide, rfl⟩ (hX.lt (by decide)) rfl rfl (Nat.le_of_ble_eq_true rfl) ⟨Nat.le_refl _, Nat.le_refl _⟩ ?_
              refine aw_zret q rfl (Or.inl rfl) dX6_readWishes_48 ⟨Nat.le_refl _, Nat.le_refl _⟩ ?_
              rw [wrong_fl hP6.1]
              refine RcP.fl (c := 4) hG6 hP6.2.2.1.1 (hE.trans (pB_l ((if_pos (by rw [← ehh]; exact g9)).trans ((if_pos (by rw [← ehh]; exact f9)).trans (pBad_k (by rw [n2]; decide))))))
          · refine aw_aload_n dX6_readWishes_15 rfl ?_
            refine aw_aload_n dX6_readWishes_16 rfl ?_
            refine aw_getL dX6_readWishes_17 fX6_97 hX.rdr.1 (hX.lt (by decide)) rfl ?_
            refine AW.topL (hP6.1.2.2.2.2.2.1 n2).1 ?_
            refine aw_cV dX6_readWishes_20 kX6_155 mX7_homeNamed (hNam_n hX.spr hP6.2.2.1 hN6 ehh g9) (Nat.le_of_ble_eq_true rfl) hX.spr.k ⟨by decide, rfl⟩ hX.spr.b0 rfl rfl (Nat.le_of_ble_eq_true rfl) ⟨Nat.le_refl _, Nat.le_refl _⟩ ?_
            refine aw_astoreN dX6_readWishes_23 (by decide) rfl ?_
            refine aw_aloadN dX6_readWishes_25 rfl ?_
            refine aw_ifnullN (tgt := 43) dX6_readWishes_27 rfl ?_
            refine aw_aload_n dX6_readWishes_43 rfl ?_
            refine aw_iconst (v := 4) dX6_readWishes_44 rfl ?_
            refine aw_cV dX6_readWishes_45 kX6_90 mX6_wrong (sX6_wrong hX) (Nat.le_of_ble_eq_true rfl) hX.rdr.1 ⟨by decide, rfl⟩ (hX.lt (by decide)) rfl rfl (Nat.le_of_ble_eq_true rfl) ⟨Nat.le_refl _, Nat.le_refl _⟩ ?_
            refine aw_zret q rfl (Or.inl rfl) dX6_readWishes_48 ⟨Nat.le_refl _, Nat.le_refl _⟩ ?_
            rw [wrong_fl hP6.1]
            refine RcP.fl (c := 4) hG6 hP6.2.2.1.1 (hE.trans (pB_l ((if_neg (by rw [← ehh]; exact g9)).trans (pBad_k (by rw [n2]; decide)))))
  refine aw_iconst (v := 0) dX6_readWishes_0 rfl ?_
  refine aw_istore_n dX6_readWishes_1 (by decide) rfl ?_
  exact loop 7 0 none p I L rfl hP RcG.rf hc rfl
end ClsS
