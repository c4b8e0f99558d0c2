/-! the reference: lines -/
section RefS
variable {z n m : Nat} {sh : Shp} {I : MI} {L : ML}
set_option maxHeartbeats 4000000 in
set_option maxRecDepth 100000 in
theorem rX11_readHome (hM : IsM n sh m) {T : Nat → Int32} {s : Nat} (hs9 : s ≤ 900) {p : PSt} (hP : Ps I L m T s p) (hC : PcO p.2.1)  : CM yX11_readHome cX11_readHome 3 (Option.some .boolean) 7 0 0 [.ref m] z n sh I L (PrP z n sh I L m T s (pHome T s p)) := by
  refine CM.go [some (.ref m), none, none] rfl rfl (Nat.le_of_ble_eq_true rfl) (fun X g q => ?_)
  refine aw_aload_n dX11_readHome_0 rfl ?_
  refine aw_getR (b := m + 2) dX11_readHome_1 fX11_13 hM.k hM.b rfl hM.r1 ?_
  refine aw_sipush (v := 230) dX11_readHome_4 rfl ?_
  refine aw_ialdN (k := 230) dX11_readHome_7 hM.k1 hM.b1 hM.l1 rfl (by decide) (by decide) ?_
  refine AW.top (y := nI (cH p.2.1)) (by rw [hP.2.2.1]; exact hC.1) ?_
  refine aw_istore_n dX11_readHome_8 (by decide) rfl ?_
  refine aw_iload_n dX11_readHome_9 rfl ?_
  refine aw_bipush (v := 10) dX11_readHome_10 rfl ?_
  refine aw_icmp_ne (tgt := 21) dX11_readHome_12 rfl (fun c12 => ?_) (fun c12 => ?_)
  · have c9 := mt (nI_eq (a := cH p.2.1) (b := 10) (by have := hC.2.1; omega) (by decide)).mpr c12
    have hlt : cH p.2.1 < 10 := by have := hC.2.1; omega
    refine aw_aload_n dX11_readHome_21 rfl ?_
    refine aw_callV dX11_readHome_22 kX11_142 mX11_go (rX11_go hM hP.1.1 hP.1.2.1 hP.1.2.2.2.1 hs9 hP.2.1.2.1) (Nat.le_of_ble_eq_true rfl) hM.k ⟨by decide, rfl⟩ hM.b rfl rfl (Nat.le_of_ble_eq_true rfl) ⟨Nat.le_refl _, Nat.le_refl _⟩ (fun v2 z2 n2 sh2 J2 M2 hp2 => ?_)
    obtain ⟨rfl, rfl, rfl, rfl, hG2, hA2⟩ := hp2
    have hP2 := Ps.go hP hG2 hA2
    refine aw_bipush (v := 8) dX11_readHome_25 rfl ?_
    refine aw_iload_n dX11_readHome_27 rfl ?_
    refine aw_imul dX11_readHome_28 ?_
    refine AW.top (gmul rfl rfl) ?_
    refine aw_istore_n dX11_readHome_29 (by decide) rfl ?_
    refine aw_aload_n dX11_readHome_30 rfl ?_
    refine aw_iload_n dX11_readHome_31 rfl ?_
    refine aw_callV dX11_readHome_32 kX11_156 mX11_readName (rX11_readName (into := cH p.2.1) hM hs9 hP2 hC rfl (by omega)) (Nat.le_of_ble_eq_true rfl) hM.k ⟨by decide, rfl⟩ hM.b rfl rfl (Nat.le_of_ble_eq_true rfl) ⟨Nat.le_refl _, Nat.le_refl _⟩ (fun v3 z3 n3 sh3 J3 M3 hp3 => ?_)
    obtain ⟨b3, rfl, rfl, rfl, rfl, hF3, hr3⟩ := hp3
    refine aw_if_eq (tgt := 63) dX11_readHome_35 rfl (fun c35 => ?_) (fun c35 => ?_)
    · obtain ⟨e3, he3, h83, h93⟩ := hr3.l c35
      refine aw_iconst (v := 0) dX11_readHome_63 rfl ?_
      refine aw_zret q rfl (by decide) dX11_readHome_64 ⟨Nat.le_refl _, Nat.le_refl _⟩ ?_
      exact PrP.fail ((RdF.go hG2).tr hF3) ((if_neg c9).trans (pB_l he3)) h83 h93
    · obtain ⟨p3, he3, h83, h93, hP3⟩ := hr3.r c35
      refine aw_aload_n dX11_readHome_38 rfl ?_
      refine aw_iload_n dX11_readHome_39 rfl ?_
      refine aw_iconst (v := 0) dX11_readHome_40 rfl ?_
      refine aw_iadd dX11_readHome_41 ?_
      refine AW.top (gadd rfl rfl) ?_
      refine aw_iconst (v := 1) dX11_readHome_42 rfl ?_
      refine aw_iconst (v := 4) dX11_readHome_43 rfl ?_
      refine aw_callV dX11_readHome_44 kX11_159 mX11_readNumber (rX11_readNumber (into := 8 * cH p.2.1 + 0) (lo := 1) (mo := 4) hM hs9 hP3 rfl (by omega)) (Nat.le_of_ble_eq_true rfl) hM.k ⟨by decide, rfl⟩ hM.b rfl rfl (Nat.le_of_ble_eq_true rfl) ⟨Nat.le_refl _, Nat.le_refl _⟩ (fun v4 z4 n4 sh4 J4 M4 hp4 => ?_)
      obtain ⟨b4, rfl, rfl, rfl, rfl, hF4, hr4⟩ := hp4
      refine aw_if_eq (tgt := 63) dX11_readHome_47 rfl (fun c47 => ?_) (fun c47 => ?_)
      · obtain ⟨e4, he4, h84, h94⟩ := hr4.l c47
        refine aw_iconst (v := 0) dX11_readHome_63 rfl ?_
        refine aw_zret q rfl (by decide) dX11_readHome_64 ⟨Nat.le_refl _, Nat.le_refl _⟩ ?_
        exact PrP.fail (((RdF.go hG2).tr hF3).tr hF4) ((if_neg c9).trans ((pB_r he3).trans (pB_l he4))) h84 h94
      · obtain ⟨p4, he4, h84, h94, hP4⟩ := hr4.r c47
        refine aw_aload_n dX11_readHome_50 rfl ?_
        refine aw_iload_n dX11_readHome_51 rfl ?_
        refine aw_iconst (v := 1) dX11_readHome_52 rfl ?_
        refine aw_iadd dX11_readHome_53 ?_
        refine AW.top (gadd rfl rfl) ?_
        refine aw_iconst (v := 0) dX11_readHome_54 rfl ?_
        refine aw_bipush (v := 7) dX11_readHome_55 rfl ?_
        refine aw_callV dX11_readHome_57 kX11_159 mX11_readNumber (rX11_readNumber (into := 8 * cH p.2.1 + 1) (lo := 0) (mo := 7) hM hs9 hP4 rfl (by omega)) (Nat.le_of_ble_eq_true rfl) hM.k ⟨by decide, rfl⟩ hM.b rfl rfl (Nat.le_of_ble_eq_true rfl) ⟨Nat.le_refl _, Nat.le_refl _⟩ (fun v5 z5 n5 sh5 J5 M5 hp5 => ?_)
        obtain ⟨b5, rfl, rfl, rfl, rfl, hF5, hr5⟩ := hp5
        refine aw_if_ne (tgt := 65) dX11_readHome_60 rfl (fun c60 => ?_) (fun c60 => ?_)
        · obtain ⟨p5, he5, h85, h95, hP5⟩ := hr5.r c60
          refine aw_aload_n dX11_readHome_65 rfl ?_
          refine aw_getR (b := m + 2) dX11_readHome_66 fX11_13 hM.k hM.b rfl hM.r1 ?_
          refine aw_iload_n dX11_readHome_69 rfl ?_
          refine aw_iconst (v := 2) dX11_readHome_70 rfl ?_
          refine aw_iadd dX11_readHome_71 ?_
          refine aw_iconst (v := (-1)) dX11_readHome_72 rfl ?_
          refine aw_iastN (k := ((8 * (cH p.2.1)) + 2)) dX11_readHome_73 hM.k1 hM.b1 hM.l1 (gadd rfl rfl) (by omega) (by decide) ?_
          have hP6 := Ps.row (k := 8 * cH p.2.1 + 2) (v := -1) hP5 rfl
          refine aw_aload_n dX11_readHome_74 rfl ?_
          refine aw_getR (b := m + 2) dX11_readHome_75 fX11_13 hM.k hM.b rfl hM.r1 ?_
          refine aw_sipush (v := 230) dX11_readHome_78 rfl ?_
          refine aw_dup2 dX11_readHome_81 rfl rfl ?_
          refine aw_ialdN (k := 230) dX11_readHome_82 hM.k1 hM.b1 hM.l1 rfl (by decide) (by decide) ?_
          refine aw_iconst (v := 1) dX11_readHome_83 rfl ?_
          refine aw_iadd dX11_readHome_84 ?_
          have q230 : p5.2.1 230 = nI (cH p.2.1) := by
            rw [(pNum_row he5).1]
            refine upd_c (by omega) ?_
            rw [(pNum_row he4).1]
            refine upd_c (by omega) ?_
            rw [(pName_row he3).1]
            exact hC.1
          refine AW.top (y := nI (cH p.2.1 + 1)) (by rw [hP6.2.2.1]; show upd p5.2.1 (8 * cH p.2.1 + 2) (-1) 230 + 1 = _; rw [upd_c (by omega) q230]; exact nI_1 _) ?_
          refine aw_iastN (k := 230) dX11_readHome_85 hM.k1 hM.b1 hM.l1 rfl (by decide) (by decide) ?_
          have hP7 := Ps.row (k := 230) (v := nI (cH p.2.1 + 1)) hP6 rfl
          refine aw_aload_n dX11_readHome_86 rfl ?_
          refine aw_callV dX11_readHome_87 kX11_162 mX11_readEnd (rX11_readEnd hM hs9 hP7) (Nat.le_of_ble_eq_true rfl) hM.k ⟨by decide, rfl⟩ hM.b rfl rfl (Nat.le_of_ble_eq_true rfl) ⟨Nat.le_refl _, Nat.le_refl _⟩ (fun v8 z8 n8 sh8 J8 M8 hp8 => ?_)
          obtain ⟨b8, rfl, rfl, rfl, rfl, hF8, hr8⟩ := hp8
          refine aw_zret q rfl hr8.b dX11_readHome_90 ⟨Nat.le_refl _, Nat.le_refl _⟩ ?_
          refine PrP.with_ (((((RdF.go hG2).tr hF3).tr hF4).tr hF5).tr (RdF.rowI.tr RdF.rowI)) ?_ ?_ hF8 hr8 ((if_neg c9).trans ((pB_r he3).trans ((pB_r he4).trans (pB_r he5))))
          · exact (congrFun (if_neg (by omega)) _).trans ((congrFun (if_neg (by omega)) _).trans (h85.trans (h84.trans (h83.trans hG2.f18.1))))
          · exact (congrFun (if_neg (by omega)) _).trans ((congrFun (if_neg (by omega)) _).trans (h95.trans (h94.trans (h93.trans hG2.f18.2))))
        · obtain ⟨e5, he5, h85, h95⟩ := hr5.l c60
          refine aw_iconst (v := 0) dX11_readHome_63 rfl ?_
          refine aw_zret q rfl (by decide) dX11_readHome_64 ⟨Nat.le_refl _, Nat.le_refl _⟩ ?_
          exact PrP.fail ((((RdF.go hG2).tr hF3).tr hF4).tr hF5) ((if_neg c9).trans ((pB_r he3).trans ((pB_r he4).trans (pB_l he5)))) h85 h95
  · have c9 := (nI_eq (a := cH p.2.1) (b := 10) (by have := hC.2.1; omega) (by decide)).mp c12
    refine aw_aload_n dX11_readHome_15 rfl ?_
    refine aw_iconst (v := 5) dX11_readHome_16 rfl ?_
    refine aw_callV dX11_readHome_17 kX11_139 mX11_bad (rX11_bad (c := 5) hM hP.1 hP.2.1 rfl) (Nat.le_of_ble_eq_true rfl) hM.k ⟨by decide, rfl⟩ hM.b rfl rfl (Nat.le_of_ble_eq_true rfl) ⟨Nat.le_refl _, Nat.le_refl _⟩ (fun v1 z1 n1 sh1 J1 M1 hp1 => ?_)
    obtain ⟨b1, rfl, rfl, rfl, rfl, hF1, hr1⟩ := hp1
    refine aw_zret q rfl hr1.b dX11_readHome_20 ⟨Nat.le_refl _, Nat.le_refl _⟩ ?_
    exact PrP.with_ RdF.rf rfl rfl hF1 hr1 (if_pos c9)
set_option maxHeartbeats 4000000 in
set_option maxRecDepth 100000 in
theorem rX11_readIn (hM : IsM n sh m) {T : Nat → Int32} {s : Nat} (hs9 : s ≤ 900) {p : PSt} (hP : Ps I L m T s p) (hC : PcO p.2.1) {x : Int32} {h0 : Nat} (hx : x = nI h0) (hh8 : h0 < 8) : CM yX11_readIn cX11_readIn 3 (Option.some .boolean) 6 0 0 [.ref m, .int x] z n sh I L (PrP z n sh I L m T s (pIn T s h0 p)) := by
  refine CM.go [some (.ref m), some (.int x), none] rfl rfl (Nat.le_of_ble_eq_true rfl) (fun X g q => ?_)
  refine aw_aload_n dX11_readIn_0 rfl ?_
  refine aw_callV dX11_readIn_1 kX11_142 mX11_go (rX11_go hM hP.1.1 hP.1.2.1 hP.1.2.2.2.1 hs9 hP.2.1.2.1) (Nat.le_of_ble_eq_true rfl) hM.k ⟨by decide, rfl⟩ hM.b rfl rfl (Nat.le_of_ble_eq_true rfl) ⟨Nat.le_refl _, Nat.le_refl _⟩ (fun v1 z1 n1 sh1 J1 M1 hp1 => ?_)
  obtain ⟨rfl, rfl, rfl, rfl, hG1, hA1⟩ := hp1
  have hP1 := Ps.go hP hG1 hA1
  refine aw_aload_n dX11_readIn_4 rfl ?_
  refine aw_cV dX11_readIn_5 kX11_149 mX11_isName (sX11_isName hM hP1.1 hP1.2.1) (Nat.le_of_ble_eq_true rfl) hM.k ⟨by decide, rfl⟩ hM.b rfl rfl (Nat.le_of_ble_eq_true rfl) ⟨Nat.le_refl _, Nat.le_refl _⟩ ?_
  refine aw_if_ne (tgt := 17) dX11_readIn_8 rfl (fun c8 => ?_) (fun c8 => ?_)
  · have c9 := bI1.mp c8
    have hw := hP1.1.2.2.2.2.2.1 (tNm2 c9)
    obtain ⟨hh, ehh⟩ : ∃ hh, hh = pHere p.2.2 (nx T s p.1).2.2.2.1 (cH p.2.1) := ⟨_, rfl⟩
    refine aw_aload_n dX11_readIn_17 rfl ?_
    refine aw_cV dX11_readIn_18 kX11_145 mX11_homeHere (sX11_homeHere (a := cH p.2.1) (Q := p.2.2) hM hP1.2.2.1 hC.1 hC.2.1 hP1.2.2.2) (Nat.le_of_ble_eq_true rfl) hM.k ⟨by decide, rfl⟩ hM.b rfl rfl (Nat.le_of_ble_eq_true rfl) ⟨Nat.le_refl _, Nat.le_refl _⟩ ?_
    rw [hw]
    refine AW.top (y := hN hh (cH p.2.1)) (by rw [ehh]) ?_
    refine aw_istore_n dX11_readIn_21 (by decide) rfl ?_
    refine aw_iload_n dX11_readIn_22 rfl ?_
    refine aw_iconst (v := (-1)) dX11_readIn_23 rfl ?_
    refine aw_icmp_eq (tgt := 42) dX11_readIn_24 rfl (fun c24 => ?_) (fun c24 => ?_)
    · have g9 : ¬ hh < cH p.2.1 := by
        intro g9
        unfold hN at c24
        rw [if_pos g9] at c24
        exact nI_ne_m1 (by have := hC.2.1; omega) c24
      refine aw_aload_n dX11_readIn_42 rfl ?_
      refine aw_iconst (v := 4) dX11_readIn_43 rfl ?_
      refine aw_callV dX11_readIn_44 kX11_139 mX11_bad (rX11_bad (c := 4) hM hP1.1 hP1.2.1 rfl) (Nat.le_of_ble_eq_true rfl) hM.k ⟨by decide, rfl⟩ hM.b rfl rfl (Nat.le_of_ble_eq_true rfl) ⟨Nat.le_refl _, Nat.le_refl _⟩ (fun v3 z3 n3 sh3 J3 M3 hp3 => ?_)
      obtain ⟨b3, rfl, rfl, rfl, rfl, hF3, hr3⟩ := hp3
      refine aw_zret q rfl hr3.b dX11_readIn_47 ⟨Nat.le_refl _, Nat.le_refl _⟩ ?_
      refine PrP.with_ (RdF.go hG1) hG1.f18.1 hG1.f18.2 hF3 hr3 ((if_pos c9).trans (if_neg ?_))
      rw [← ehh]
      exact fun q => g9 q.1
    · have g9 : hh < cH p.2.1 := by
        by_cases g9 : hh < cH p.2.1
        · exact g9
        · unfold hN at c24
          rw [if_neg g9] at c24
          exact absurd rfl c24
      have h10 : hh < 10 := by have := hC.2.1; omega
      have eN : hN hh (cH p.2.1) = nI hh := if_pos g9
      rw [eN]
      refine aw_aload_n dX11_readIn_27 rfl ?_
      refine aw_getR (b := m + 2) dX11_readIn_28 fX11_13 hM.k hM.b rfl hM.r1 ?_
      refine aw_bipush (v := 8) dX11_readIn_31 rfl ?_
      refine aw_iload_n dX11_readIn_33 rfl ?_
      refine aw_imul dX11_readIn_34 ?_
      refine aw_iconst (v := 2) dX11_readIn_35 rfl ?_
      refine aw_iadd dX11_readIn_36 ?_
      refine AW.top (gadd (gmul rfl rfl) rfl) ?_
      refine aw_ialdN (k := ((8 * hh) + 2)) dX11_readIn_37 hM.k1 hM.b1 hM.l1 rfl (by omega) (by decide) ?_
      refine aw_iconst (v := (-1)) dX11_readIn_38 rfl ?_
      refine aw_icmp_eq (tgt := 48) dX11_readIn_39 rfl (fun c39 => ?_) (fun c39 => ?_)
      · rw [hP1.2.2.1] at c39
        refine aw_aload_n dX11_readIn_48 rfl ?_
        refine aw_getR (b := m + 2) dX11_readIn_49 fX11_13 hM.k hM.b rfl hM.r1 ?_
        refine aw_iload_n dX11_readIn_52 rfl ?_
        refine aw_iconst (v := 4) dX11_readIn_53 rfl ?_
        refine aw_cS dX11_readIn_54 kX11_75 mX11_at (sX11_at (p := h0) (w := 4) hM hx rfl) (Nat.le_of_ble_eq_true rfl) rfl rfl (Nat.le_of_ble_eq_true rfl) ⟨Nat.le_refl _, Nat.le_refl _⟩ ?_
        refine aw_iload_n dX11_readIn_57 rfl ?_
        refine aw_iastN (k := (80 + 18 * h0 + 4)) dX11_readIn_58 hM.k1 hM.b1 hM.l1 rfl (by omega) (by decide) ?_
        have hP4 := Ps.row (k := 80 + 18 * h0 + 4) (v := nI hh) hP1 rfl
        refine aw_aload_n dX11_readIn_59 rfl ?_
        refine aw_getR (b := m + 2) dX11_readIn_60 fX11_13 hM.k hM.b rfl hM.r1 ?_
        refine aw_bipush (v := 8) dX11_readIn_63 rfl ?_
        refine aw_iload_n dX11_readIn_65 rfl ?_
        refine aw_imul dX11_readIn_66 ?_
        refine aw_iconst (v := 2) dX11_readIn_67 rfl ?_
        refine aw_iadd dX11_readIn_68 ?_
        refine AW.top (gadd (gmul rfl rfl) rfl) ?_
        refine aw_iload_n dX11_readIn_69 rfl ?_
        refine aw_iastN (k := ((8 * hh) + 2)) dX11_readIn_70 hM.k1 hM.b1 hM.l1 rfl (by omega) (by decide) ?_
        have hP5 := Ps.row (k := 8 * hh + 2) (v := x) hP4 rfl
        refine aw_aload_n dX11_readIn_71 rfl ?_
        refine aw_callV dX11_readIn_72 kX11_142 mX11_go (rX11_go hM hP5.1.1 hP5.1.2.1 hP5.1.2.2.2.1 hs9 hP5.2.1.2.1) (Nat.le_of_ble_eq_true rfl) hM.k ⟨by decide, rfl⟩ hM.b rfl rfl (Nat.le_of_ble_eq_true rfl) ⟨Nat.le_refl _, Nat.le_refl _⟩ (fun v6 z6 n6 sh6 J6 M6 hp6 => ?_)
        obtain ⟨rfl, rfl, rfl, rfl, hG6, hA6⟩ := hp6
        have hP6 := Ps.go hP5 hG6 hA6
        refine aw_iconst (v := 1) dX11_readIn_75 rfl ?_
        refine aw_zret q rfl (by decide) dX11_readIn_76 ⟨Nat.le_refl _, Nat.le_refl _⟩ ?_
        refine PrP.good ((RdF.go hG1).tr ((RdF.rowI.tr RdF.rowI).tr (RdF.go hG6))) ((if_pos c9).trans ((if_pos ?_).trans ?_)) (hG6.f18.1.trans ((congrFun (if_neg (by omega)) _).trans ((congrFun (if_neg (by omega)) _).trans hG1.f18.1))) (hG6.f18.2.trans ((congrFun (if_neg (by omega)) _).trans ((congrFun (if_neg (by omega)) _).trans hG1.f18.2))) hP6
        · rw [← ehh]
          exact ⟨g9, c39⟩
        · rw [← ehh, hx]
      · rw [hP1.2.2.1] at c39
        refine aw_aload_n dX11_readIn_42 rfl ?_
        refine aw_iconst (v := 4) dX11_readIn_43 rfl ?_
        refine aw_callV dX11_readIn_44 kX11_139 mX11_bad (rX11_bad (c := 4) hM hP1.1 hP1.2.1 rfl) (Nat.le_of_ble_eq_true rfl) hM.k ⟨by decide, rfl⟩ hM.b rfl rfl (Nat.le_of_ble_eq_true rfl) ⟨Nat.le_refl _, Nat.le_refl _⟩ (fun v3 z3 n3 sh3 J3 M3 hp3 => ?_)
        obtain ⟨b3, rfl, rfl, rfl, rfl, hF3, hr3⟩ := hp3
        refine aw_zret q rfl hr3.b dX11_readIn_47 ⟨Nat.le_refl _, Nat.le_refl _⟩ ?_
        refine PrP.with_ (RdF.go hG1) hG1.f18.1 hG1.f18.2 hF3 hr3 ((if_pos c9).trans (if_neg ?_))
        rw [← ehh]
        exact fun q => c39 q.2
  · have c9 := bI0.mp c8
    refine aw_aload_n dX11_readIn_11 rfl ?_
    refine aw_iconst (v := 2) dX11_readIn_12 rfl ?_
    refine aw_callV dX11_readIn_13 kX11_139 mX11_bad (rX11_bad (c := 2) hM hP1.1 hP1.2.1 rfl) (Nat.le_of_ble_eq_true rfl) hM.k ⟨by decide, rfl⟩ hM.b rfl rfl (Nat.le_of_ble_eq_true rfl) ⟨Nat.le_refl _, Nat.le_refl _⟩ (fun v2 z2 n2 sh2 J2 M2 hp2 => ?_)
    obtain ⟨b2, rfl, rfl, rfl, rfl, hF2, hr2⟩ := hp2
    refine aw_zret q rfl hr2.b dX11_readIn_16 ⟨Nat.le_refl _, Nat.le_refl _⟩ ?_
    exact PrP.with_ (RdF.go hG1) hG1.f18.1 hG1.f18.2 hF2 hr2 (if_neg (by rw [c9]; exact Bool.false_ne_true))
set_option maxHeartbeats 4000000 in
set_option maxRecDepth 100000 in
theorem rX11_readWish (hM : IsM n sh m) {T : Nat → Int32} {s : Nat} (hs9 : s ≤ 900) {p : PSt} (hP : Ps I L m T s p) (hC : PcO p.2.1) (hk : p.1.2.2.1 = 2) {x : Int32} {h0 : Nat} (hx : x = nI h0) (hh8 : h0 < 8) (hW : p.2.1 (80 + 18 * h0 + 11) = nI (cW p.2.1 h0)) (hW6 : cW p.2.1 h0 ≤ 6) : CM yX11_readWish cX11_readWish 5 (Option.some .boolean) 3 0 0 [.ref m, .int x] z n sh I L (PrP z n sh I L m T s (pWish T s h0 p)) := by
  refine CM.go [some (.ref m), some (.int x), none, none, none] rfl rfl (Nat.le_of_ble_eq_true rfl) (fun X g q => ?_)
  have hw := hP.1.2.2.2.2.2.1 hk
  obtain ⟨hh, ehh⟩ : ∃ hh, hh = pHere p.2.2 p.1.2.2.2.1 (cH p.2.1) := ⟨_, rfl⟩
  have loop : hh < cH p.2.1 → ∀ i, i ≤ cW p.2.1 h0 → fa_first (fun k => decide (p.2.1 (80 + 18 * h0 + (12 + k)) = nI hh)) i = i → AW X g RX11 cX11_readWish 5 (3, 0, 0) (z, n, sh, 0, 0) (I) (L) 31 [some (.ref m), some (.int x), some (.int (nI hh)), some (.int (nI (cW p.2.1 h0))), some (.int (nI i))] [] := by
    intro g9
    have h10 : hh < 10 := by have := hC.2.1; omega
    refine up_loop (fun i hi ih hfi => ?_)
    refine aw_iload dX11_readWish_31 rfl ?_
    refine aw_iload_n dX11_readWish_33 rfl ?_
    refine aw_icmp_ge (tgt := 67) dX11_readWish_34 rfl (fun c34 => ?_) (fun c34 => ?_)
    · have e := ge_t rfl (by omega) hi c34
      subst e
      refine aw_iload_n dX11_readWish_67 rfl ?_
      refine aw_bipush (v := 6) dX11_readWish_68 rfl ?_
      refine aw_icmp_ne (tgt := 79) dX11_readWish_70 rfl (fun c70 => ?_) (fun c70 => ?_)
      · have d9 := mt (nI_eq (a := cW p.2.1 h0) (b := 6) (by omega) (by decide)).mpr c70
        refine aw_aload_n dX11_readWish_79 rfl ?_
        refine aw_getR (b := m + 2) dX11_readWish_80 fX11_13 hM.k hM.b rfl hM.r1 ?_
        refine aw_iload_n dX11_readWish_83 rfl ?_
        refine aw_bipush (v := 12) dX11_readWish_84 rfl ?_
        refine aw_iload_n dX11_readWish_86 rfl ?_
        refine aw_iadd dX11_readWish_87 ?_
        refine AW.top (gadd rfl rfl) ?_
        refine aw_cS dX11_readWish_88 kX11_75 mX11_at (sX11_at (p := h0) (w := 12 + cW p.2.1 h0) hM hx rfl) (Nat.le_of_ble_eq_true rfl) rfl rfl (Nat.le_of_ble_eq_true rfl) ⟨Nat.le_refl _, Nat.le_refl _⟩ ?_
        refine aw_iload_n dX11_readWish_91 rfl ?_
        refine aw_iastN (k := (80 + 18 * h0 + (12 + cW p.2.1 h0))) dX11_readWish_92 hM.k1 hM.b1 hM.l1 rfl (by omega) (by decide) ?_
        have hP4 := Ps.row (k := 80 + 18 * h0 + (12 + cW p.2.1 h0)) (v := nI hh) hP rfl
        refine aw_aload_n dX11_readWish_93 rfl ?_
        refine aw_getR (b := m + 2) dX11_readWish_94 fX11_13 hM.k hM.b rfl hM.r1 ?_
        refine aw_iload_n dX11_readWish_97 rfl ?_
        refine aw_bipush (v := 11) dX11_readWish_98 rfl ?_
        refine aw_cS dX11_readWish_100 kX11_75 mX11_at (sX11_at (p := h0) (w := 11) hM hx rfl) (Nat.le_of_ble_eq_true rfl) rfl rfl (Nat.le_of_ble_eq_true rfl) ⟨Nat.le_refl _, Nat.le_refl _⟩ ?_
        refine aw_dup2 dX11_readWish_103 rfl rfl ?_
        refine aw_ialdN (k := (80 + 18 * h0 + 11)) dX11_readWish_104 hM.k1 hM.b1 hM.l1 rfl (by omega) (by decide) ?_
        refine aw_iconst (v := 1) dX11_readWish_105 rfl ?_
        refine aw_iadd dX11_readWish_106 ?_
        refine AW.top (y := nI (cW p.2.1 h0 + 1)) (by rw [hP4.2.2.1]; show upd p.2.1 _ _ (80 + 18 * h0 + 11) + 1 = _; rw [upd_c (by omega) hW]; exact nI_1 _) ?_
        refine aw_iastN (k := (80 + 18 * h0 + 11)) dX11_readWish_107 hM.k1 hM.b1 hM.l1 rfl (by omega) (by decide) ?_
        have hP5 := Ps.row (k := 80 + 18 * h0 + 11) (v := nI (cW p.2.1 h0 + 1)) hP4 rfl
        refine aw_aload_n dX11_readWish_108 rfl ?_
        refine aw_callV dX11_readWish_109 kX11_142 mX11_go (rX11_go hM hP5.1.1 hP5.1.2.1 hP5.1.2.2.2.1 hs9 hP5.2.1.2.1) (Nat.le_of_ble_eq_true rfl) hM.k ⟨by decide, rfl⟩ hM.b rfl rfl (Nat.le_of_ble_eq_true rfl) ⟨Nat.le_refl _, Nat.le_refl _⟩ (fun v6 z6 n6 sh6 J6 M6 hp6 => ?_)
        obtain ⟨rfl, rfl, rfl, rfl, hG6, hA6⟩ := hp6
        have hP6 := Ps.go hP5 hG6 hA6
        refine aw_iconst (v := 1) dX11_readWish_112 rfl ?_
        refine aw_zret q rfl (by decide) dX11_readWish_113 ⟨Nat.le_refl _, Nat.le_refl _⟩ ?_
        refine PrP.good ((RdF.rowI.tr RdF.rowI).tr (RdF.go hG6)) ((if_pos (by rw [← ehh]; exact g9)).trans ((if_neg ?_).trans ((if_neg d9).trans ?_))) (hG6.f18.1.trans ((congrFun (if_neg (by omega)) _).trans (congrFun (if_neg (by omega)) _))) (hG6.f18.2.trans ((congrFun (if_neg (by omega)) _).trans (congrFun (if_neg (by omega)) _))) hP6
        · rw [← ehh, hfi]
          exact Nat.lt_irrefl _
        · rw [← ehh]
      · have d9 := (nI_eq (b := 6) (by omega) (by decide)).mp c70
        refine aw_aload_n dX11_readWish_73 rfl ?_
        refine aw_iconst (v := 5) dX11_readWish_74 rfl ?_
        refine aw_callV dX11_readWish_75 kX11_139 mX11_bad (rX11_bad (c := 5) hM hP.1 hP.2.1 rfl) (Nat.le_of_ble_eq_true rfl) hM.k ⟨by decide, rfl⟩ hM.b rfl rfl (Nat.le_of_ble_eq_true rfl) ⟨Nat.le_refl _, Nat.le_refl _⟩ (fun v3 z3 n3 sh3 J3 M3 hp3 => ?_)
        obtain ⟨b3, rfl, rfl, rfl, rfl, hF3, hr3⟩ := hp3
        refine aw_zret q rfl hr3.b dX11_readWish_78 ⟨Nat.le_refl _, Nat.le_refl _⟩ ?_
        refine PrP.with_ RdF.rf rfl rfl hF3 hr3 ((if_pos (by rw [← ehh]; exact g9)).trans ((if_neg ?_).trans (if_pos d9)))
        rw [← ehh, hfi]
        exact Nat.lt_irrefl _
    · have hlt := ge_f rfl (by omega) hi c34
      refine aw_aload_n dX11_readWish_37 rfl ?_
      refine aw_getR (b := m + 2) dX11_readWish_38 fX11_13 hM.k hM.b rfl hM.r1 ?_
      refine aw_iload_n dX11_readWish_41 rfl ?_
      refine aw_bipush (v := 12) dX11_readWish_42 rfl ?_
      refine aw_iload dX11_readWish_44 rfl ?_
      refine aw_iadd dX11_readWish_46 ?_
      refine AW.top (gadd rfl rfl) ?_
      refine aw_cS dX11_readWish_47 kX11_75 mX11_at (sX11_at (p := h0) (w := 12 + i) hM hx rfl) (Nat.le_of_ble_eq_true rfl) rfl rfl (Nat.le_of_ble_eq_true rfl) ⟨Nat.le_refl _, Nat.le_refl _⟩ ?_
      refine aw_ialdN (k := (80 + 18 * h0 + (12 + i))) dX11_readWish_50 hM.k1 hM.b1 hM.l1 rfl (by omega) (by decide) ?_
      refine aw_iload_n dX11_readWish_51 rfl ?_
      refine aw_icmp_ne (tgt := 61) dX11_readWish_52 rfl (fun c52 => ?_) (fun c52 => ?_)
      · rw [hP.2.2.1] at c52
        refine aw_iinc dX11_readWish_61 rfl (ginc rfl) (by decide) rfl ?_
        refine aw_goto (tgt := 31) dX11_readWish_64 rfl ?_
        exact ih hlt (fa_first_no1 hfi (by simpa using c52))
      · rw [hP.2.2.1] at c52
        refine aw_aload_n dX11_readWish_55 rfl ?_
        refine aw_iconst (v := 4) dX11_readWish_56 rfl ?_
        refine aw_callV dX11_readWish_57 kX11_139 mX11_bad (rX11_bad (c := 4) hM hP.1 hP.2.1 rfl) (Nat.le_of_ble_eq_true rfl) hM.k ⟨by decide, rfl⟩ hM.b rfl rfl (Nat.le_of_ble_eq_true rfl) ⟨Nat.le_refl _, Nat.le_refl _⟩ (fun v2 z2 n2 sh2 J2 M2 hp2 => ?_)
        obtain ⟨b2, rfl, rfl, rfl, rfl, hF2, hr2⟩ := hp2
        refine aw_zret q rfl hr2.b dX11_readWish_60 ⟨Nat.le_refl _, Nat.le_refl _⟩ ?_
        refine PrP.with_ RdF.rf rfl rfl hF2 hr2 ((if_pos (by rw [← ehh]; exact g9)).trans (if_pos ?_))
        rw [← ehh, fa_first_yes1 hfi (by simpa using c52) hlt]
        exact hlt
  refine aw_aload_n dX11_readWish_0 rfl ?_
  refine aw_cV dX11_readWish_1 kX11_145 mX11_homeHere (sX11_homeHere (a := cH p.2.1) (Q := p.2.2) hM hP.2.2.1 hC.1 hC.2.1 hP.2.2.2) (Nat.le_of_ble_eq_true rfl) hM.k ⟨by decide, rfl⟩ hM.b rfl rfl (Nat.le_of_ble_eq_true rfl) ⟨Nat.le_refl _, Nat.le_refl _⟩ ?_
  rw [hw]
  refine AW.top (y := hN hh (cH p.2.1)) (by rw [ehh]) ?_
  refine aw_istore_n dX11_readWish_4 (by decide) rfl ?_
  refine aw_iload_n dX11_readWish_5 rfl ?_
  refine aw_iconst (v := (-1)) dX11_readWish_6 rfl ?_
  refine aw_icmp_ne (tgt := 16) dX11_readWish_7 rfl (fun c7 => ?_) (fun c7 => ?_)
  · have g9 : hh < cH p.2.1 := by
      by_cases g9 : hh < cH p.2.1
      · exact g9
      · unfold hN at c7
        rw [if_neg g9] at c7
        exact absurd rfl c7
    have h10 : hh < 10 := by have := hC.2.1; omega
    have eN : hN hh (cH p.2.1) = nI hh := if_pos g9
    rw [eN]
    refine aw_aload_n dX11_readWish_16 rfl ?_
    refine aw_getR (b := m + 2) dX11_readWish_17 fX11_13 hM.k hM.b rfl hM.r1 ?_
    refine aw_iload_n dX11_readWish_20 rfl ?_
    refine aw_bipush (v := 11) dX11_readWish_21 rfl ?_
    refine aw_cS dX11_readWish_23 kX11_75 mX11_at (sX11_at (p := h0) (w := 11) hM hx rfl) (Nat.le_of_ble_eq_true rfl) rfl rfl (Nat.le_of_ble_eq_true rfl) ⟨Nat.le_refl _, Nat.le_refl _⟩ ?_
    refine aw_ialdN (k := (80 + 18 * h0 + 11)) dX11_readWish_26 hM.k1 hM.b1 hM.l1 rfl (by omega) (by decide) ?_
    refine AW.top (y := nI (cW p.2.1 h0)) (by rw [hP.2.2.1]; exact hW) ?_
    refine aw_istore_n dX11_readWish_27 (by decide) rfl ?_
    refine aw_iconst (v := 0) dX11_readWish_28 rfl ?_
    refine aw_istore dX11_readWish_29 (by decide) rfl ?_
    exact loop g9 0 (Nat.zero_le _) rfl
  · have g9 : ¬ hh < cH p.2.1 := by
      intro g9
      unfold hN at c7
      rw [if_pos g9] at c7
      exact nI_ne_m1 (by have := hC.2.1; omega) c7
    refine aw_aload_n dX11_readWish_10 rfl ?_
    refine aw_iconst (v := 4) dX11_readWish_11 rfl ?_
    refine aw_callV dX11_readWish_12 kX11_139 mX11_bad (rX11_bad (c := 4) hM hP.1 hP.2.1 rfl) (Nat.le_of_ble_eq_true rfl) hM.k ⟨by decide, rfl⟩ hM.b rfl rfl (Nat.le_of_ble_eq_true rfl) ⟨Nat.le_refl _, Nat.le_refl _⟩ (fun v1 z1 n1 sh1 J1 M1 hp1 => ?_)
    obtain ⟨b1, rfl, rfl, rfl, rfl, hF1, hr1⟩ := hp1
    refine aw_zret q rfl hr1.b dX11_readWish_15 ⟨Nat.le_refl _, Nat.le_refl _⟩ ?_
    exact PrP.with_ RdF.rf rfl rfl hF1 hr1 (if_neg (by rw [← ehh]; exact g9))
end RefS
