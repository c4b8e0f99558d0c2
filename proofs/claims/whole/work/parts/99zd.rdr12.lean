/-! the class's reader: a home's line, a house's numbers -/
section RcN
variable {I J K I0 : MI} {L M O L0 : ML} {T : Nat → Int32} {s z n : Nat} {sh : Shp} {p : PSt} {r r0 : PRs} {b : Int32}
theorem Pc.nok {lo hi : Int32} {i : Nat} (_hp : Pc I L T s p) (h : ¬ bI (nuC p.1 lo hi).isNone = 0) : flO I (nuC p.1 lo hi) p.1.1 = I ∧ p.1.2.2.1 = 3 ∧ pNum T s i lo hi p = .inr (nx T s p.1, upd p.2.1 i p.1.2.2.2.2, p.2.2) := nuC_ok h
theorem Pc.nf {lo hi : Int32} {i : Nat} (_hp : Pc I L T s p) (h : bI (nuC p.1 lo hi).isNone = 0) : ∃ c, flO I (nuC p.1 lo hi) p.1.1 = flC I (nI c) p.1.1 ∧ pNum T s i lo hi p = .inl (c, p.1.1) := nuC_f h
theorem Pc.mok {i : Nat} (_hp : Pc I L T s p) (h : ¬ bI (nmC p.1 p.2.2 (nHo p.2.1) (nPo p.2.1)).isNone = 0) : flO I (nmC p.1 p.2.2 (nHo p.2.1) (nPo p.2.1)) p.1.1 = I ∧ tNm p.1 = true ∧ pName T s i p = .inr (nx T s p.1, p.2.1, vp_updL p.2.2 i p.1.2.2.2.1) := nmC_ok h
theorem Pc.mf {i : Nat} (_hp : Pc I L T s p) (h : bI (nmC p.1 p.2.2 (nHo p.2.1) (nPo p.2.1)).isNone = 0) : ∃ c, flO I (nmC p.1 p.2.2 (nHo p.2.1) (nPo p.2.1)) p.1.1 = flC I (nI c) p.1.1 ∧ pName T s i p = .inl (c, p.1.1) := nmC_f h
theorem Pc.numH {c w : Nat} {v : Int32} (h : Pc I L T s p) (hc : c < 10) (hw : w < 2) : Pc (upI I (35 + 2 + c) (hK w) v) L T s (p.1, upd p.2.1 (8 * c + w) v, p.2.2) ∧ RcG I (upI I (35 + 2 + c) (hK w) v) L L :=
  ⟨h.put ⟨by omega, by omega⟩ (h.2.2.1.put0h h.2.2.2.2.1 h.2.2.2.2.2 hc (by omega)) (h.2.2.2.2.1.free (free_home hc (by omega) (by omega))) (nLe_u h.2.2.2.2.2 (by omega)), RcG.put ⟨by omega, by omega⟩⟩
theorem Pc.numP {c w : Nat} {v : Int32} (h : Pc I L T s p) (hc : c < 8) (hw : w < 4) : Pc (upI I (35 + 13 + 2 * c) (sK w) v) L T s (p.1, upd p.2.1 (80 + 18 * c + w) v, p.2.2) ∧ RcG I (upI I (35 + 13 + 2 * c) (sK w) v) L L :=
  ⟨h.put ⟨by omega, by omega⟩ (h.2.2.1.put0p h.2.2.2.2.1 h.2.2.2.2.2 hc (by omega)) (h.2.2.2.2.1.free (free_house hc (by omega) (by omega) h.2.2.2.2.1.l8)) (nLe_u h.2.2.2.2.2 (by omega)), RcG.put ⟨by omega, by omega⟩⟩
theorem Pc.home {w : Int64} (h : Pc I L T s p) (hc : cH p.2.1 < 10) (hz : ∀ j, j < 8 → p.2.1 (8 * cH p.2.1 + j) = 0) :
    Pc (upI (bgH I (35 + 2 + cH p.2.1)) 35 5 (nI (cH p.2.1 + 1))) (upL L (35 + 2 + cH p.2.1) 2 w) T s (p.1, bumpH (cH p.2.1) p.2.1, vp_updL p.2.2 (cH p.2.1) w) ∧ RcG I (upI (bgH I (35 + 2 + cH p.2.1)) 35 5 (nI (cH p.2.1 + 1))) L (upL L (35 + 2 + cH p.2.1) 2 w) := by
  have h1 : ∀ x, (x < 35 ∨ 69 ≤ x) → upI (bgH I (35 + 2 + cH p.2.1)) 35 5 (nI (cH p.2.1 + 1)) x = I x := fun x hx => (upI_row2 (by omega)).trans (bgH_n (by omega))
  have h2 : ∀ x, (x < 35 ∨ 69 ≤ x) → upL L (35 + 2 + cH p.2.1) 2 w x = L x := fun x hx => upL_n (by omega)
  have hN := h.2.2.2.2.1
  exact ⟨h.st h1 h2 (ct_home0 h.2.2.1 hN rfl hc h.2.2.2.2.2 hz) ((hN.who' hc (Or.inl rfl)).up230 (by omega)) (nLe_u (nLe_u h.2.2.2.2.2 (by omega)) (by omega)), RcG.st h1 h2⟩
theorem Pc.house {w : Int64} (h : Pc I L T s p) (hc : cP p.2.1 < 8) (hz : ∀ j, j < 18 → p.2.1 (80 + 18 * cP p.2.1 + j) = 0) :
    Pc (upI (bgP I (35 + 13 + 2 * cP p.2.1)) 35 6 (nI (cP p.2.1 + 1))) (upL L (35 + 13 + 2 * cP p.2.1) 4 w) T s (p.1, bumpC (cP p.2.1) (bumpI (cP p.2.1) p.2.1), vp_updL p.2.2 (10 + cP p.2.1) w) ∧ RcG I (upI (bgP I (35 + 13 + 2 * cP p.2.1)) 35 6 (nI (cP p.2.1 + 1))) L (upL L (35 + 13 + 2 * cP p.2.1) 4 w) := by
  have h1 : ∀ x, (x < 35 ∨ 69 ≤ x) → upI (bgP I (35 + 13 + 2 * cP p.2.1)) 35 6 (nI (cP p.2.1 + 1)) x = I x := fun x hx => (upI_row2 (by omega)).trans (bgP_n (by omega))
  have h2 : ∀ x, (x < 35 ∨ 69 ≤ x) → upL L (35 + 13 + 2 * cP p.2.1) 4 w x = L x := fun x hx => upL_n (by omega)
  have hN := h.2.2.2.2.1
  exact ⟨h.st h1 h2 (ct_house0 h.2.2.1 hN rfl hc h.2.2.2.2.2 hz) ((hN.home' hc (Or.inl rfl)).up231 (by omega)) (nLe_u (nLe_u h.2.2.2.2.2 (by omega)) (by omega)), RcG.st h1 h2⟩
end RcN
section ClsS
variable {z n : Nat} {sh : Shp} {I : MI} {L : ML} {N : Nat → Int32} {Q : Nat → Int64}
set_option maxHeartbeats 4000000 in
set_option maxRecDepth 100000 in
theorem sX6_readHome (hX : IsX n sh) {T : Nat → Int32} {s : Nat} (hs9 : s ≤ 900) {p : PSt} (hP : Pc I L T s p) (hk1 : ¬ p.1.2.2.1 = 1) (hz : cH p.2.1 < 10 → ∀ j, j < 8 → p.2.1 (8 * cH p.2.1 + j) = 0)  : CM yX6_readHome cX6_readHome 3 (Option.some .boolean) 4 0 0 [.ref 479, .ref 35] z n sh I L (RcP z n sh I L T s (cHome T s p)) := by
  refine CM.go [some (.ref 479), some (.ref 35), none] rfl rfl (Nat.le_of_ble_eq_true rfl) (fun X g q => ?_)
  have hN := hP.2.2.2.2.1
  have h8 : cP p.2.1 ≤ 8 := hN.p8
  have h10 : cH p.2.1 ≤ 10 := hN.h10
  refine aw_aload_n dX6_readHome_0 rfl ?_
  refine aw_getI dX6_readHome_1 fX6_87 hX.spr.k hX.spr.b0 rfl ?_
  refine AW.top (y := nI (cH p.2.1)) (hP.2.2.1.nh.trans hN.h) ?_
  refine aw_bipush (v := 10) dX6_readHome_4 rfl ?_
  refine aw_icmp_lt (tgt := 15) dX6_readHome_6 rfl (fun c6 => ?_) (fun c6 => ?_)
  · have hlt : cH p.2.1 < 10 := (nI_ltI (a := cH p.2.1) (b := 10) (by omega) (by decide)).mp c6
    have c9 : ¬ cH p.2.1 = 10 := by omega
    refine aw_aload_n dX6_readHome_15 rfl ?_
    refine aw_hV dX6_readHome_16 kX6_59 mX6_next (sX6_next hX hP.1.1 hP.1.2.1 hs9 hP.1.2.2.2.1 hP.2.1.2.1 hP.2.2.2.1) (Nat.le_of_ble_eq_true rfl) hX.rdr.1 ⟨by decide, rfl⟩ (hX.lt (by decide)) rfl rfl (Nat.le_of_ble_eq_true rfl) ⟨Nat.le_refl _, Nat.le_refl _⟩ (fun J1 M1 hq1 => ?_)
    have hP1 := hP.adv hq1
    have hG1 := RcG.nx hq1
    refine aw_aload_n dX6_readHome_19 rfl ?_
    refine aw_aload_n dX6_readHome_20 rfl ?_
    refine aw_cV dX6_readHome_21 kX6_94 mX6_isNewName (sX6_isNewName hX hP1.1 hP1.2.1.2.2 hP1.2.2.1 hN) (Nat.le_of_ble_eq_true rfl) hX.rdr.1 ⟨by decide, rfl⟩ (hX.lt (by decide)) rfl rfl (Nat.le_of_ble_eq_true rfl) ⟨Nat.le_refl _, Nat.le_refl _⟩ ?_
    refine aw_if_ne (tgt := 29) dX6_readHome_24 rfl (fun c24 => ?_) (fun c24 => ?_)
    · obtain ⟨g2, n2, he2⟩ := hP1.mok (i := cH p.2.1) c24
      refine AW.mem g2 ?_
      refine aw_aload_n dX6_readHome_29 rfl ?_
      refine aw_aload_n dX6_readHome_30 rfl ?_
      refine aw_getL dX6_readHome_31 fX6_97 hX.rdr.1 (hX.lt (by decide)) rfl ?_
      refine AW.topL (hP1.1.2.2.2.2.2.1 (tNm2 n2)).1 ?_
      refine aw_cV dX6_readHome_34 kX6_101 mX7_addHome (sX7_addHome (c := cH p.2.1) hX.spr (hP1.2.2.1.nh.trans hN.h) hlt) (Nat.le_of_ble_eq_true rfl) hX.spr.k ⟨by decide, rfl⟩ hX.spr.b0 rfl rfl (Nat.le_of_ble_eq_true rfl) ⟨Nat.le_refl _, Nat.le_refl _⟩ ?_
      have hP2 := hP1.home (w := (nx T s p.1).2.2.2.1) hlt (hz hlt)
      have hG2 := hG1.tr hP2.2
      refine aw_astore_n dX6_readHome_37 (by decide) rfl ?_
      refine aw_aload_n dX6_readHome_38 rfl ?_
      refine aw_ifnonnull (tgt := 48) dX6_readHome_39 rfl ?_
      refine aw_aload_n dX6_readHome_48 rfl ?_
      refine aw_hV dX6_readHome_49 kX6_59 mX6_next (sX6_next hX hP2.1.1.1 hP2.1.1.2.1 hs9 hP2.1.1.2.2.2.1 hP2.1.2.1.2.1 hP2.1.2.2.2.1) (Nat.le_of_ble_eq_true rfl) hX.rdr.1 ⟨by decide, rfl⟩ (hX.lt (by decide)) rfl rfl (Nat.le_of_ble_eq_true rfl) ⟨Nat.le_refl _, Nat.le_refl _⟩ (fun J3 M3 hq3 => ?_)
      have hP3 := hP2.1.adv hq3
      have hG3 := hG2.tr (RcG.nx hq3)
      refine aw_aload_n dX6_readHome_52 rfl ?_
      refine aw_iconst (v := 1) dX6_readHome_53 rfl ?_
      refine aw_iconst (v := 4) dX6_readHome_54 rfl ?_
      refine aw_cV dX6_readHome_55 kX6_105 mX6_isNumber (sX6_isNumber hX hP3.1 hP3.2.1.2.2) (Nat.le_of_ble_eq_true rfl) hX.rdr.1 ⟨by decide, rfl⟩ (hX.lt (by decide)) rfl rfl (Nat.le_of_ble_eq_true rfl) ⟨Nat.le_refl _, Nat.le_refl _⟩ ?_
      refine aw_if_ne (tgt := 63) dX6_readHome_58 rfl (fun c58 => ?_) (fun c58 => ?_)
      · obtain ⟨g4, k4, he4⟩ := hP3.nok (i := 8 * cH p.2.1) c58
        refine AW.mem g4 ?_
        refine aw_aload_n dX6_readHome_63 rfl ?_
        refine aw_aload_n dX6_readHome_64 rfl ?_
        refine aw_getI dX6_readHome_65 fX6_109 hX.rdr.1 (hX.lt (by decide)) rfl ?_
        refine AW.top (hP3.1.2.2.2.2.2.2 k4) ?_
        refine aw_putI dX6_readHome_68 fX6_112 (hX.spr.ho (by omega)) (hX.spr.hb (by omega)) rfl rfl ?_
        have hP4 := hP3.numH (c := cH p.2.1) (w := 0) (v := (nx T s (nx T s p.1)).2.2.2.2) hlt (by decide)
        have hG4 := hG3.tr hP4.2
        refine aw_aload_n dX6_readHome_71 rfl ?_
        refine aw_hV dX6_readHome_72 kX6_59 mX6_next (sX6_next hX hP4.1.1.1 hP4.1.1.2.1 hs9 hP4.1.1.2.2.2.1 hP4.1.2.1.2.1 hP4.1.2.2.2.1) (Nat.le_of_ble_eq_true rfl) hX.rdr.1 ⟨by decide, rfl⟩ (hX.lt (by decide)) rfl rfl (Nat.le_of_ble_eq_true rfl) ⟨Nat.le_refl _, Nat.le_refl _⟩ (fun J5 M5 hq5 => ?_)
        have hP5 := hP4.1.adv hq5
        have hG5 := hG4.tr (RcG.nx hq5)
        refine aw_aload_n dX6_readHome_75 rfl ?_
        refine aw_iconst (v := 0) dX6_readHome_76 rfl ?_
        refine aw_bipush (v := 7) dX6_readHome_77 rfl ?_
        refine aw_cV dX6_readHome_79 kX6_105 mX6_isNumber (sX6_isNumber hX hP5.1 hP5.2.1.2.2) (Nat.le_of_ble_eq_true rfl) hX.rdr.1 ⟨by decide, rfl⟩ (hX.lt (by decide)) rfl rfl (Nat.le_of_ble_eq_true rfl) ⟨Nat.le_refl _, Nat.le_refl _⟩ ?_
        refine aw_if_ne (tgt := 87) dX6_readHome_82 rfl (fun c82 => ?_) (fun c82 => ?_)
        · obtain ⟨g6, k6, he6⟩ := hP5.nok (i := 8 * cH p.2.1 + 1) c82
          refine AW.mem g6 ?_
          refine aw_aload_n dX6_readHome_87 rfl ?_
          refine aw_aload_n dX6_readHome_88 rfl ?_
          refine aw_getI dX6_readHome_89 fX6_109 hX.rdr.1 (hX.lt (by decide)) rfl ?_
          refine AW.top (hP5.1.2.2.2.2.2.2 k6) ?_
          refine aw_putI dX6_readHome_92 fX6_117 (hX.spr.ho (by omega)) (hX.spr.hb (by omega)) rfl rfl ?_
          have hP6 := hP5.numH (c := cH p.2.1) (w := 1) (v := (nx T s (nx T s (nx T s p.1))).2.2.2.2) hlt (by decide)
          have hG6 := hG5.tr hP6.2
          refine aw_aload_n dX6_readHome_95 rfl ?_
          refine aw_hV dX6_readHome_96 kX6_59 mX6_next (sX6_next hX hP6.1.1.1 hP6.1.1.2.1 hs9 hP6.1.1.2.2.2.1 hP6.1.2.1.2.1 hP6.1.2.2.2.1) (Nat.le_of_ble_eq_true rfl) hX.rdr.1 ⟨by decide, rfl⟩ (hX.lt (by decide)) rfl rfl (Nat.le_of_ble_eq_true rfl) ⟨Nat.le_refl _, Nat.le_refl _⟩ (fun J7 M7 hq7 => ?_)
          have hP7 := hP6.1.adv hq7
          have hG7 := hG6.tr (RcG.nx hq7)
          refine aw_iconst (v := 1) dX6_readHome_99 rfl ?_
          refine aw_zret q rfl (Or.inr rfl) dX6_readHome_100 ⟨Nat.le_refl _, Nat.le_refl _⟩ ?_
          exact RcP.good hG7 ((if_neg c9).trans ((pB_r he2).trans ((pB_r he4).trans he6))) hP7
        · obtain ⟨e6, g6, he6⟩ := hP5.nf (i := 8 * cH p.2.1 + 1) c82
          refine AW.mem g6 ?_
          refine aw_iconst (v := 0) dX6_readHome_85 rfl ?_
          refine aw_zret q rfl (Or.inl rfl) dX6_readHome_86 ⟨Nat.le_refl _, Nat.le_refl _⟩ ?_
          exact RcP.fl hG5 hP5.2.2.1.1 ((if_neg c9).trans ((pB_r he2).trans ((pB_r he4).trans he6)))
      · obtain ⟨e4, g4, he4⟩ := hP3.nf (i := 8 * cH p.2.1) c58
        refine AW.mem g4 ?_
        refine aw_iconst (v := 0) dX6_readHome_61 rfl ?_
        refine aw_zret q rfl (Or.inl rfl) dX6_readHome_62 ⟨Nat.le_refl _, Nat.le_refl _⟩ ?_
        exact RcP.fl hG3 hP3.2.2.1.1 ((if_neg c9).trans ((pB_r he2).trans (pB_l he4)))
    · obtain ⟨e2, g2, he2⟩ := hP1.mf (i := cH p.2.1) c24
      refine AW.mem g2 ?_
      refine aw_iconst (v := 0) dX6_readHome_27 rfl ?_
      refine aw_zret q rfl (Or.inl rfl) dX6_readHome_28 ⟨Nat.le_refl _, Nat.le_refl _⟩ ?_
      exact RcP.fl hG1 hP1.2.2.1.1 ((if_neg c9).trans (pB_l he2))
  · have c9 : cH p.2.1 = 10 := by
      have := mt (nI_ltI (a := cH p.2.1) (b := 10) (by omega) (by decide)).mpr c6
      omega
    refine aw_aload_n dX6_readHome_9 rfl ?_
    refine aw_iconst (v := 5) dX6_readHome_10 rfl ?_
    refine aw_cV dX6_readHome_11 kX6_90 mX6_wrong (sX6_wrong hX) (Nat.le_of_ble_eq_true rfl) hX.rdr.1 ⟨by decide, rfl⟩ (hX.lt (by decide)) rfl rfl (Nat.le_of_ble_eq_true rfl) ⟨Nat.le_refl _, Nat.le_refl _⟩ ?_
    refine aw_zret q rfl (Or.inl rfl) dX6_readHome_14 ⟨Nat.le_refl _, Nat.le_refl _⟩ ?_
    rw [wrong_fl hP.1]
    exact RcP.fl (c := 5) RcG.rf hP.2.2.1.1 ((if_pos c9).trans (pBad_k hk1))
set_option maxHeartbeats 4000000 in
set_option maxRecDepth 100000 in
theorem sX6_readNumbers (hX : IsX n sh) {T : Nat → Int32} {s : Nat} (hs9 : s ≤ 900) {p : PSt} (hP : Pc I L T s p) {c : Nat} (hc : c < cP p.2.1)  : CM yX6_readNumbers cX6_readNumbers 2 (Option.some .boolean) 4 0 0 [.ref 479, .ref (35 + 13 + 2 * c)] z n sh I L (RcP z n sh I L T s (cNums T s c p)) := by
  refine CM.go [some (.ref 479), some (.ref (35 + 13 + 2 * c))] rfl rfl (Nat.le_of_ble_eq_true rfl) (fun X g q => ?_)
  have hN := hP.2.2.2.2.1
  have h8 : cP p.2.1 ≤ 8 := hN.p8
  have h10 : cH p.2.1 ≤ 10 := hN.h10
  have hG0 : RcG I I L L := RcG.rf
  refine aw_aload_n dX6_readNumbers_0 rfl ?_
  refine aw_iconst (v := 1) dX6_readNumbers_1 rfl ?_
  refine aw_iconst (v := 4) dX6_readNumbers_2 rfl ?_
  refine aw_cV dX6_readNumbers_3 kX6_105 mX6_isNumber (sX6_isNumber hX hP.1 hP.2.1.2.2) (Nat.le_of_ble_eq_true rfl) hX.rdr.1 ⟨by decide, rfl⟩ (hX.lt (by decide)) rfl rfl (Nat.le_of_ble_eq_true rfl) ⟨Nat.le_refl _, Nat.le_refl _⟩ ?_
  refine aw_if_ne (tgt := 11) dX6_readNumbers_6 rfl (fun c6 => ?_) (fun c6 => ?_)
  · obtain ⟨g1, k1, he1⟩ := hP.nok (i := 80 + 18 * c) c6
    refine AW.mem g1 ?_
    refine aw_aload_n dX6_readNumbers_11 rfl ?_
    refine aw_aload_n dX6_readNumbers_12 rfl ?_
    refine aw_getI dX6_readNumbers_13 fX6_109 hX.rdr.1 (hX.lt (by decide)) rfl ?_
    refine AW.top (hP.1.2.2.2.2.2.2 k1) ?_
    refine aw_putI dX6_readNumbers_16 fX6_138 (hX.spr.po (by omega)) (hX.spr.pb (by omega)) rfl rfl ?_
    have hR1 := hP.numP (c := c) (w := 0) (v := p.1.2.2.2.2) (by omega) (by decide)
    have hS1 := hG0.tr hR1.2
    refine aw_aload_n dX6_readNumbers_19 rfl ?_
    refine aw_hV dX6_readNumbers_20 kX6_59 mX6_next (sX6_next hX hR1.1.1.1 hR1.1.1.2.1 hs9 hR1.1.1.2.2.2.1 hR1.1.2.1.2.1 hR1.1.2.2.2.1) (Nat.le_of_ble_eq_true rfl) hX.rdr.1 ⟨by decide, rfl⟩ (hX.lt (by decide)) rfl rfl (Nat.le_of_ble_eq_true rfl) ⟨Nat.le_refl _, Nat.le_refl _⟩ (fun J2 M2 hq2 => ?_)
    have hP2 := hR1.1.adv hq2
    have hG2 := hS1.tr (RcG.nx hq2)
    refine aw_aload_n dX6_readNumbers_23 rfl ?_
    refine aw_iconst (v := 1) dX6_readNumbers_24 rfl ?_
    refine aw_iconst (v := 4) dX6_readNumbers_25 rfl ?_
    refine aw_cV dX6_readNumbers_26 kX6_105 mX6_isNumber (sX6_isNumber hX hP2.1 hP2.2.1.2.2) (Nat.le_of_ble_eq_true rfl) hX.rdr.1 ⟨by decide, rfl⟩ (hX.lt (by decide)) rfl rfl (Nat.le_of_ble_eq_true rfl) ⟨Nat.le_refl _, Nat.le_refl _⟩ ?_
    refine aw_if_ne (tgt := 34) dX6_readNumbers_29 rfl (fun c29 => ?_) (fun c29 => ?_)
    · obtain ⟨g3, k3, he3⟩ := hP2.nok (i := 80 + 18 * c + 1) c29
      refine AW.mem g3 ?_
      refine aw_aload_n dX6_readNumbers_34 rfl ?_
      refine aw_aload_n dX6_readNumbers_35 rfl ?_
      refine aw_getI dX6_readNumbers_36 fX6_109 hX.rdr.1 (hX.lt (by decide)) rfl ?_
      refine AW.top (hP2.1.2.2.2.2.2.2 k3) ?_
      refine aw_putI dX6_readNumbers_39 fX6_143 (hX.spr.po (by omega)) (hX.spr.pb (by omega)) rfl rfl ?_
      have hR3 := hP2.numP (c := c) (w := 1) (v := (nx T s p.1).2.2.2.2) (by omega) (by decide)
      have hS3 := hG2.tr hR3.2
      refine aw_aload_n dX6_readNumbers_42 rfl ?_
      refine aw_hV dX6_readNumbers_43 kX6_59 mX6_next (sX6_next hX hR3.1.1.1 hR3.1.1.2.1 hs9 hR3.1.1.2.2.2.1 hR3.1.2.1.2.1 hR3.1.2.2.2.1) (Nat.le_of_ble_eq_true rfl) hX.rdr.1 ⟨by decide, rfl⟩ (hX.lt (by decide)) rfl rfl (Nat.le_of_ble_eq_true rfl) ⟨Nat.le_refl _, Nat.le_refl _⟩ (fun J4 M4 hq4 => ?_)
      have hP4 := hR3.1.adv hq4
      have hG4 := hS3.tr (RcG.nx hq4)
      refine aw_aload_n dX6_readNumbers_46 rfl ?_
      refine aw_iconst (v := 0) dX6_readNumbers_47 rfl ?_
      refine aw_bipush (v := 7) dX6_readNumbers_48 rfl ?_
      refine aw_cV dX6_readNumbers_50 kX6_105 mX6_isNumber (sX6_isNumber hX hP4.1 hP4.2.1.2.2) (Nat.le_of_ble_eq_true rfl) hX.rdr.1 ⟨by decide, rfl⟩ (hX.lt (by decide)) rfl rfl (Nat.le_of_ble_eq_true rfl) ⟨Nat.le_refl _, Nat.le_refl _⟩ ?_
      refine aw_if_ne (tgt := 58) dX6_readNumbers_53 rfl (fun c53 => ?_) (fun c53 => ?_)
      · obtain ⟨g5, k5, he5⟩ := hP4.nok (i := 80 + 18 * c + 2) c53
        refine AW.mem g5 ?_
        refine aw_aload_n dX6_readNumbers_58 rfl ?_
        refine aw_aload_n dX6_readNumbers_59 rfl ?_
        refine aw_getI dX6_readNumbers_60 fX6_109 hX.rdr.1 (hX.lt (by decide)) rfl ?_
        refine AW.top (hP4.1.2.2.2.2.2.2 k5) ?_
        refine aw_putI dX6_readNumbers_63 fX6_146 (hX.spr.po (by omega)) (hX.spr.pb (by omega)) rfl rfl ?_
        have hR5 := hP4.numP (c := c) (w := 2) (v := (nx T s (nx T s p.1)).2.2.2.2) (by omega) (by decide)
        have hS5 := hG4.tr hR5.2
        refine aw_aload_n dX6_readNumbers_66 rfl ?_
        refine aw_hV dX6_readNumbers_67 kX6_59 mX6_next (sX6_next hX hR5.1.1.1 hR5.1.1.2.1 hs9 hR5.1.1.2.2.2.1 hR5.1.2.1.2.1 hR5.1.2.2.2.1) (Nat.le_of_ble_eq_true rfl) hX.rdr.1 ⟨by decide, rfl⟩ (hX.lt (by decide)) rfl rfl (Nat.le_of_ble_eq_true rfl) ⟨Nat.le_refl _, Nat.le_refl _⟩ (fun J6 M6 hq6 => ?_)
        have hP6 := hR5.1.adv hq6
        have hG6 := hS5.tr (RcG.nx hq6)
        refine aw_aload_n dX6_readNumbers_70 rfl ?_
        refine aw_iconst (v := 0) dX6_readNumbers_71 rfl ?_
        refine aw_sipush (v := 999) dX6_readNumbers_72 rfl ?_
        refine aw_cV dX6_readNumbers_75 kX6_105 mX6_isNumber (sX6_isNumber hX hP6.1 hP6.2.1.2.2) (Nat.le_of_ble_eq_true rfl) hX.rdr.1 ⟨by decide, rfl⟩ (hX.lt (by decide)) rfl rfl (Nat.le_of_ble_eq_true rfl) ⟨Nat.le_refl _, Nat.le_refl _⟩ ?_
        refine aw_if_ne (tgt := 83) dX6_readNumbers_78 rfl (fun c78 => ?_) (fun c78 => ?_)
        · obtain ⟨g7, k7, he7⟩ := hP6.nok (i := 80 + 18 * c + 3) c78
          refine AW.mem g7 ?_
          refine aw_aload_n dX6_readNumbers_83 rfl ?_
          refine aw_aload_n dX6_readNumbers_84 rfl ?_
          refine aw_getI dX6_readNumbers_85 fX6_109 hX.rdr.1 (hX.lt (by decide)) rfl ?_
          refine AW.top (hP6.1.2.2.2.2.2.2 k7) ?_
          refine aw_putI dX6_readNumbers_88 fX6_149 (hX.spr.po (by omega)) (hX.spr.pb (by omega)) rfl rfl ?_
          have hR7 := hP6.numP (c := c) (w := 3) (v := (nx T s (nx T s (nx T s p.1))).2.2.2.2) (by omega) (by decide)
          have hS7 := hG6.tr hR7.2
          refine aw_aload_n dX6_readNumbers_91 rfl ?_
          refine aw_hV dX6_readNumbers_92 kX6_59 mX6_next (sX6_next hX hR7.1.1.1 hR7.1.1.2.1 hs9 hR7.1.1.2.2.2.1 hR7.1.2.1.2.1 hR7.1.2.2.2.1) (Nat.le_of_ble_eq_true rfl) hX.rdr.1 ⟨by decide, rfl⟩ (hX.lt (by decide)) rfl rfl (Nat.le_of_ble_eq_true rfl) ⟨Nat.le_refl _, Nat.le_refl _⟩ (fun J8 M8 hq8 => ?_)
          have hP8 := hR7.1.adv hq8
          have hG8 := hS7.tr (RcG.nx hq8)
          refine aw_iconst (v := 1) dX6_readNumbers_95 rfl ?_
          refine aw_zret q rfl (Or.inr rfl) dX6_readNumbers_96 ⟨Nat.le_refl _, Nat.le_refl _⟩ ?_
          exact RcP.good hG8 ((pB_r he1).trans ((pB_r he3).trans ((pB_r he5).trans he7))) hP8
        · obtain ⟨e7, g7, he7⟩ := hP6.nf (i := 80 + 18 * c + 3) c78
          refine AW.mem g7 ?_
          refine aw_iconst (v := 0) dX6_readNumbers_81 rfl ?_
          refine aw_zret q rfl (Or.inl rfl) dX6_readNumbers_82 ⟨Nat.le_refl _, Nat.le_refl _⟩ ?_
          exact RcP.fl hG6 hP6.2.2.1.1 ((pB_r he1).trans ((pB_r he3).trans ((pB_r he5).trans he7)))
      · obtain ⟨e5, g5, he5⟩ := hP4.nf (i := 80 + 18 * c + 2) c53
        refine AW.mem g5 ?_
        refine aw_iconst (v := 0) dX6_readNumbers_56 rfl ?_
        refine aw_zret q rfl (Or.inl rfl) dX6_readNumbers_57 ⟨Nat.le_refl _, Nat.le_refl _⟩ ?_
        exact RcP.fl hG4 hP4.2.2.1.1 ((pB_r he1).trans ((pB_r he3).trans (pB_l he5)))
    · obtain ⟨e3, g3, he3⟩ := hP2.nf (i := 80 + 18 * c + 1) c29
      refine AW.mem g3 ?_
      refine aw_iconst (v := 0) dX6_readNumbers_32 rfl ?_
      refine aw_zret q rfl (Or.inl rfl) dX6_readNumbers_33 ⟨Nat.le_refl _, Nat.le_refl _⟩ ?_
      exact RcP.fl hG2 hP2.2.2.1.1 ((pB_r he1).trans (pB_l he3))
  · obtain ⟨e1, g1, he1⟩ := hP.nf (i := 80 + 18 * c) c6
    refine AW.mem g1 ?_
    refine aw_iconst (v := 0) dX6_readNumbers_9 rfl ?_
    refine aw_zret q rfl (Or.inl rfl) dX6_readNumbers_10 ⟨Nat.le_refl _, Nat.le_refl _⟩ ?_
    exact RcP.fl hG0 hP.2.2.1.1 (pB_l he1)
end ClsS
