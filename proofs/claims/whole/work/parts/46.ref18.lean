/-! the reference: lines, load -/
theorem pWs_f {T : Nat → Int32} {s h0 d : Nat} {p : PSt} (h : tNm p.1 = false) : pWishes T s h0 (d + 1) p = .inr p := if_neg (by rw [h]; exact Bool.false_ne_true)
theorem pWs_t {T : Nat → Int32} {s h0 d : Nat} {p : PSt} (h : tNm p.1 = true) : pWishes T s h0 (d + 1) p = pB (pWish T s h0 p) (pWishes T s h0 d) := if_pos h
theorem pT_0 {T : Nat → Int32} {s d : Nat} {p : PSt} (h : p.1.2.2.1 = 0) : pText T s (d + 1) p = .inr p := if_pos h
theorem pT_1 {T : Nat → Int32} {s d : Nat} {p : PSt} (h : ¬ p.1.2.2.1 = 0) : pText T s (d + 1) p = pB (pLine T s p) (pText T s d) := if_neg h
/-- the counts stand, and no house has wishes beyond -/
def Cst (R0 R : Nat → Int32) : Prop := R 230 = R0 230 ∧ R 231 = R0 231
theorem Cst.p {R0 R : Nat → Int32} (h : Cst R0 R) (hc : PcO R0) : PcO R ∧ cH R = cH R0 ∧ cP R = cP R0 := by
  have e1 : cH R = cH R0 := by unfold cH; rw [h.1]
  have e2 : cP R = cP R0 := by unfold cP; rw [h.2]
  refine ⟨?_, e1, e2⟩
  unfold PcO
  rw [e1, e2, h.1, h.2]
  exact hc
theorem Cst.num {R0 : Nat → Int32} {T : Nat → Int32} {s i : Nat} {lo mo : Int32} {p p' : PSt} (h : Cst R0 p.2.1) (he : pNum T s i lo mo p = .inr p') (h1 : 230 ≠ i) (h2 : 231 ≠ i) : Cst R0 p'.2.1 := by
  rw [(pNum_row he).1]
  exact ⟨(pk_un h1).trans h.1, (pk_un h2).trans h.2⟩
theorem pNum_c {T : Nat → Int32} {s i k : Nat} {lo mo x : Int32} {p p' : PSt} (he : pNum T s i lo mo p = .inr p') (hk : k ≠ i) (hx : p.2.1 k = x) : p'.2.1 k = x := by
  rw [(pNum_row he).1]
  exact (pk_un hk).trans hx
section RefS
variable {z n m : Nat} {sh : Shp} {I : MI} {L : ML}
set_option maxHeartbeats 4000000 in
set_option maxRecDepth 100000 in
theorem rX11_readHouse (hM : IsM n sh m) {T : Nat → Int32} {s : Nat} (hs9 : s ≤ 900) {p : PSt} (hP : Ps I L m T s p) (hC : PcO p.2.1) (hZ : ∀ q, cP p.2.1 ≤ q → q < 8 → p.2.1 (80 + 18 * q + 11) = 0) : CM yX11_readHouse cX11_readHouse 2 (Option.some .boolean) 7 0 0 [.ref m] z n sh I L (PrP z n sh I L m T s (pHouse T s p)) := by
  refine CM.go [some (.ref m), none] rfl rfl (Nat.le_of_ble_eq_true rfl) (fun X g q => ?_)
  have hb8 := hC.2.2.2
  have loop : cP p.2.1 < 8 → ∀ d (p8 : PSt) (J : MI) (M : ML), Ps J M m T s p8 → RdF m I J L M → J m 18 = I m 18 → J m 19 = I m 19 → Cst p.2.1 p8.2.1 → p8.2.1 (80 + 18 * cP p.2.1 + 11) = nI (cW p8.2.1 (cP p.2.1)) → cW p8.2.1 (cP p.2.1) ≤ 6 → d + cW p8.2.1 (cP p.2.1) = 7 → pHouse T s p = pB (pWishes T s (cP p.2.1) d p8) (fun p8 => pEnd T s (p8.1, upd p8.2.1 231 (nI (cP p.2.1 + 1)), p8.2.2)) → AW X g RX11 cX11_readHouse 2 (7, 0, 0) (z, n, sh, 0, 0) (J) (M) 129 [some (.ref m), some (.int (nI (cP p.2.1)))] [] := by
    intro hlt d
    induction d with
    | zero => intro p8 J M hP8 hF h8 h9 hc hw hw6 hd hE; omega
    | succ d ih =>
      intro p8 J M hP8 hF h8 h9 hc hw hw6 hd hE
      refine aw_aload_n dX11_readHouse_129 rfl ?_
      refine aw_cV dX11_readHouse_130 kX11_149 mX11_isName (sX11_isName hM hP8.1 hP8.2.1) (Nat.le_of_ble_eq_true rfl) hM.k ⟨by decide, rfl⟩ hM.b rfl rfl (Nat.le_of_ble_eq_true rfl) ⟨Nat.le_refl _, Nat.le_refl _⟩ ?_
      refine aw_if_eq (tgt := 146) dX11_readHouse_133 rfl (fun c133 => ?_) (fun c133 => ?_)
      · have c9 := bI0.mp c133
        rw [pWs_f c9] at hE
        refine aw_aload_n dX11_readHouse_146 rfl ?_
        refine aw_getR (b := m + 2) dX11_readHouse_147 fX11_13 hM.k hM.b rfl hM.r1 ?_
        refine aw_sipush (v := 231) dX11_readHouse_150 rfl ?_
        refine aw_dup2 dX11_readHouse_153 rfl rfl ?_
        refine aw_ialdN (k := 231) dX11_readHouse_154 hM.k1 hM.b1 hM.l1 rfl (by decide) (by decide) ?_
        refine aw_iconst (v := 1) dX11_readHouse_155 rfl ?_
        refine aw_iadd dX11_readHouse_156 ?_
        refine AW.top (y := nI (cP p.2.1 + 1)) (by rw [hP8.2.2.1, hc.2, hC.2.2.1]; exact nI_1 _) ?_
        refine aw_iastN (k := 231) dX11_readHouse_157 hM.k1 hM.b1 hM.l1 rfl (by decide) (by decide) ?_
        have hP7 := Ps.row (k := 231) (v := nI (cP p.2.1 + 1)) hP8 rfl
        refine aw_aload_n dX11_readHouse_158 rfl ?_
        refine aw_callV dX11_readHouse_159 kX11_162 mX11_readEnd (rX11_readEnd hM hs9 hP7) (Nat.le_of_ble_eq_true rfl) hM.k ⟨by decide, rfl⟩ hM.b rfl rfl (Nat.le_of_ble_eq_true rfl) ⟨Nat.le_refl _, Nat.le_refl _⟩ (fun v8 z8 n8 sh8 J8 M8 hp8 => ?_)
        obtain ⟨b8, rfl, rfl, rfl, rfl, hF8, hr8⟩ := hp8
        refine aw_zret q rfl hr8.b dX11_readHouse_162 ⟨Nat.le_refl _, Nat.le_refl _⟩ ?_
        exact PrP.with_ (hF.tr RdF.rowI) ((congrFun (if_neg (by omega)) _).trans h8) ((congrFun (if_neg (by omega)) _).trans h9) hF8 hr8 hE
      · have c9 := bI1.mp c133
        rw [pWs_t c9] at hE
        refine aw_aload_n dX11_readHouse_136 rfl ?_
        refine aw_iload_n dX11_readHouse_137 rfl ?_
        refine aw_callV dX11_readHouse_138 kX11_168 mX11_readWish (rX11_readWish hM hs9 hP8 (hc.p hC).1 (tNm2 c9) rfl hlt hw hw6) (Nat.le_of_ble_eq_true rfl) hM.k ⟨by decide, rfl⟩ hM.b rfl rfl (Nat.le_of_ble_eq_true rfl) ⟨Nat.le_refl _, Nat.le_refl _⟩ (fun v9 z9 n9 sh9 J9 M9 hp9 => ?_)
        obtain ⟨b9, rfl, rfl, rfl, rfl, hF9, hr9⟩ := hp9
        refine aw_if_ne (tgt := 129) dX11_readHouse_141 rfl (fun c141 => ?_) (fun c141 => ?_)
        · obtain ⟨p9, he9, h89, h99, hP9⟩ := hr9.r c141
          rw [he9] at hE
          obtain ⟨hh, x1, x2, x3, x4⟩ := pWish_row he9
          have hR : p9.2.1 = upd (upd p8.2.1 (80 + 18 * cP p.2.1 + (12 + cW p8.2.1 (cP p.2.1))) (nI hh)) (80 + 18 * cP p.2.1 + 11) (nI (cW p8.2.1 (cP p.2.1) + 1)) := by rw [x4]
          have y1 : p9.2.1 (80 + 18 * cP p.2.1 + 11) = nI (cW p8.2.1 (cP p.2.1) + 1) := by rw [hR, pk_us]
          have y2 : cW p9.2.1 (cP p.2.1) = cW p8.2.1 (cP p.2.1) + 1 := cW_eq y1 (by omega)
          refine ih p9 _ _ hP9 (hF.tr hF9) (h89.trans h8) (h99.trans h9) ⟨?_, ?_⟩ ?_ ?_ ?_ hE
          · rw [hR, pk_un (by omega), pk_un (by omega)]
            exact hc.1
          · rw [hR, pk_un (by omega), pk_un (by omega)]
            exact hc.2
          · rw [y2]
            exact y1
          · omega
          · omega
        · obtain ⟨e9, he9, h89, h99⟩ := hr9.l c141
          refine aw_iconst (v := 0) dX11_readHouse_144 rfl ?_
          refine aw_zret q rfl (by decide) dX11_readHouse_145 ⟨Nat.le_refl _, Nat.le_refl _⟩ ?_
          refine PrP.fail (hF.tr hF9) (hE.trans ?_) h89 h99
          rw [he9]
          rfl
  refine aw_aload_n dX11_readHouse_0 rfl ?_
  refine aw_getR (b := m + 2) dX11_readHouse_1 fX11_13 hM.k hM.b rfl hM.r1 ?_
  refine aw_sipush (v := 231) dX11_readHouse_4 rfl ?_
  refine aw_ialdN (k := 231) dX11_readHouse_7 hM.k1 hM.b1 hM.l1 rfl (by decide) (by decide) ?_
  refine AW.top (y := nI (cP p.2.1)) (by rw [hP.2.2.1]; exact hC.2.2.1) ?_
  refine aw_istore_n dX11_readHouse_8 (by decide) rfl ?_
  refine aw_iload_n dX11_readHouse_9 rfl ?_
  refine aw_bipush (v := 8) dX11_readHouse_10 rfl ?_
  refine aw_icmp_ne (tgt := 21) dX11_readHouse_12 rfl (fun c12 => ?_) (fun c12 => ?_)
  · have c9 := mt (nI_eq (a := cP p.2.1) (b := 8) (by omega) (by decide)).mpr c12
    have hlt : cP p.2.1 < 8 := by omega
    refine aw_aload_n dX11_readHouse_21 rfl ?_
    refine aw_callV dX11_readHouse_22 kX11_142 mX11_go (rX11_go hM hP.1.1 hP.1.2.1 hP.1.2.2.2.1 hs9 hP.2.1.2.1) (Nat.le_of_ble_eq_true rfl) hM.k ⟨by decide, rfl⟩ hM.b rfl rfl (Nat.le_of_ble_eq_true rfl) ⟨Nat.le_refl _, Nat.le_refl _⟩ (fun v2 z2 n2 sh2 J2 M2 hp2 => ?_)
    obtain ⟨rfl, rfl, rfl, rfl, hG2, hA2⟩ := hp2
    have hP2 := Ps.go hP hG2 hA2
    refine aw_aload_n dX11_readHouse_25 rfl ?_
    refine aw_bipush (v := 10) dX11_readHouse_26 rfl ?_
    refine aw_iload_n dX11_readHouse_28 rfl ?_
    refine aw_iadd dX11_readHouse_29 ?_
    refine AW.top (gadd rfl rfl) ?_
    refine aw_callV dX11_readHouse_30 kX11_156 mX11_readName (rX11_readName (into := 10 + cP p.2.1) hM hs9 hP2 hC rfl (by omega)) (Nat.le_of_ble_eq_true rfl) hM.k ⟨by decide, rfl⟩ hM.b rfl rfl (Nat.le_of_ble_eq_true rfl) ⟨Nat.le_refl _, Nat.le_refl _⟩ (fun v3 z3 n3 sh3 J3 M3 hp3 => ?_)
    obtain ⟨b3, rfl, rfl, rfl, rfl, hF3, hr3⟩ := hp3
    refine aw_if_eq (tgt := 64) dX11_readHouse_33 rfl (fun c33 => ?_) (fun c33 => ?_)
    · obtain ⟨e3, he3, h83, h93⟩ := hr3.l c33
      refine aw_iconst (v := 0) dX11_readHouse_64 rfl ?_
      refine aw_zret q rfl (by decide) dX11_readHouse_65 ⟨Nat.le_refl _, Nat.le_refl _⟩ ?_
      exact PrP.fail ((RdF.go hG2).tr hF3) ((if_neg c9).trans (pB_l he3)) h83 h93
    · obtain ⟨p3, he3, h83, h93, hP3⟩ := hr3.r c33
      refine aw_aload_n dX11_readHouse_36 rfl ?_
      refine aw_iload_n dX11_readHouse_37 rfl ?_
      refine aw_iconst (v := 0) dX11_readHouse_38 rfl ?_
      refine aw_cS dX11_readHouse_39 kX11_75 mX11_at (sX11_at (p := cP p.2.1) (w := 0) hM rfl rfl) (Nat.le_of_ble_eq_true rfl) rfl rfl (Nat.le_of_ble_eq_true rfl) ⟨Nat.le_refl _, Nat.le_refl _⟩ ?_
      refine aw_iconst (v := 1) dX11_readHouse_42 rfl ?_
      refine aw_iconst (v := 4) dX11_readHouse_43 rfl ?_
      refine aw_callV dX11_readHouse_44 kX11_159 mX11_readNumber (rX11_readNumber (into := 80 + 18 * cP p.2.1 + 0) (lo := 1) (mo := 4) hM hs9 hP3 rfl (by omega)) (Nat.le_of_ble_eq_true rfl) hM.k ⟨by decide, rfl⟩ hM.b rfl rfl (Nat.le_of_ble_eq_true rfl) ⟨Nat.le_refl _, Nat.le_refl _⟩ (fun v4 z4 n4 sh4 J4 M4 hp4 => ?_)
      obtain ⟨b4, rfl, rfl, rfl, rfl, hF4, hr4⟩ := hp4
      refine aw_if_eq (tgt := 64) dX11_readHouse_47 rfl (fun c47 => ?_) (fun c47 => ?_)
      · obtain ⟨e4, he4, h84, h94⟩ := hr4.l c47
        refine aw_iconst (v := 0) dX11_readHouse_64 rfl ?_
        refine aw_zret q rfl (by decide) dX11_readHouse_65 ⟨Nat.le_refl _, Nat.le_refl _⟩ ?_
        exact PrP.fail (((RdF.go hG2).tr hF3).tr hF4) (((if_neg c9).trans (pB_r he3)).trans (pB_l he4)) h84 h94
      · obtain ⟨p4, he4, h84, h94, hP4⟩ := hr4.r c47
        refine aw_aload_n dX11_readHouse_50 rfl ?_
        refine aw_iload_n dX11_readHouse_51 rfl ?_
        refine aw_iconst (v := 1) dX11_readHouse_52 rfl ?_
        refine aw_cS dX11_readHouse_53 kX11_75 mX11_at (sX11_at (p := cP p.2.1) (w := 1) hM rfl rfl) (Nat.le_of_ble_eq_true rfl) rfl rfl (Nat.le_of_ble_eq_true rfl) ⟨Nat.le_refl _, Nat.le_refl _⟩ ?_
        refine aw_iconst (v := 1) dX11_readHouse_56 rfl ?_
        refine aw_iconst (v := 4) dX11_readHouse_57 rfl ?_
        refine aw_callV dX11_readHouse_58 kX11_159 mX11_readNumber (rX11_readNumber (into := 80 + 18 * cP p.2.1 + 1) (lo := 1) (mo := 4) hM hs9 hP4 rfl (by omega)) (Nat.le_of_ble_eq_true rfl) hM.k ⟨by decide, rfl⟩ hM.b rfl rfl (Nat.le_of_ble_eq_true rfl) ⟨Nat.le_refl _, Nat.le_refl _⟩ (fun v5 z5 n5 sh5 J5 M5 hp5 => ?_)
        obtain ⟨b5, rfl, rfl, rfl, rfl, hF5, hr5⟩ := hp5
        refine aw_if_ne (tgt := 66) dX11_readHouse_61 rfl (fun c61 => ?_) (fun c61 => ?_)
        · obtain ⟨p5, he5, h85, h95, hP5⟩ := hr5.r c61
          refine aw_aload_n dX11_readHouse_66 rfl ?_
          refine aw_iload_n dX11_readHouse_67 rfl ?_
          refine aw_iconst (v := 2) dX11_readHouse_68 rfl ?_
          refine aw_cS dX11_readHouse_69 kX11_75 mX11_at (sX11_at (p := cP p.2.1) (w := 2) hM rfl rfl) (Nat.le_of_ble_eq_true rfl) rfl rfl (Nat.le_of_ble_eq_true rfl) ⟨Nat.le_refl _, Nat.le_refl _⟩ ?_
          refine aw_iconst (v := 0) dX11_readHouse_72 rfl ?_
          refine aw_bipush (v := 7) dX11_readHouse_73 rfl ?_
          refine aw_callV dX11_readHouse_75 kX11_159 mX11_readNumber (rX11_readNumber (into := 80 + 18 * cP p.2.1 + 2) (lo := 0) (mo := 7) hM hs9 hP5 rfl (by omega)) (Nat.le_of_ble_eq_true rfl) hM.k ⟨by decide, rfl⟩ hM.b rfl rfl (Nat.le_of_ble_eq_true rfl) ⟨Nat.le_refl _, Nat.le_refl _⟩ (fun v6 z6 n6 sh6 J6 M6 hp6 => ?_)
          obtain ⟨b6, rfl, rfl, rfl, rfl, hF6, hr6⟩ := hp6
          refine aw_if_eq (tgt := 97) dX11_readHouse_78 rfl (fun c78 => ?_) (fun c78 => ?_)
          · obtain ⟨e6, he6, h86, h96⟩ := hr6.l c78
            refine aw_iconst (v := 0) dX11_readHouse_97 rfl ?_
            refine aw_zret q rfl (by decide) dX11_readHouse_98 ⟨Nat.le_refl _, Nat.le_refl _⟩ ?_
            exact PrP.fail (((((RdF.go hG2).tr hF3).tr hF4).tr hF5).tr hF6) (((if_neg c9).trans ((pB_r he3).trans ((pB_r he4).trans (pB_r he5)))).trans (pB_l he6)) h86 h96
          · obtain ⟨p6, he6, h86, h96, hP6⟩ := hr6.r c78
            refine aw_aload_n dX11_readHouse_81 rfl ?_
            refine aw_iload_n dX11_readHouse_82 rfl ?_
            refine aw_iconst (v := 3) dX11_readHouse_83 rfl ?_
            refine aw_cS dX11_readHouse_84 kX11_75 mX11_at (sX11_at (p := cP p.2.1) (w := 3) hM rfl rfl) (Nat.le_of_ble_eq_true rfl) rfl rfl (Nat.le_of_ble_eq_true rfl) ⟨Nat.le_refl _, Nat.le_refl _⟩ ?_
            refine aw_iconst (v := 0) dX11_readHouse_87 rfl ?_
            refine aw_sipush (v := 999) dX11_readHouse_88 rfl ?_
            refine aw_callV dX11_readHouse_91 kX11_159 mX11_readNumber (rX11_readNumber (into := 80 + 18 * cP p.2.1 + 3) (lo := 0) (mo := 999) hM hs9 hP6 rfl (by omega)) (Nat.le_of_ble_eq_true rfl) hM.k ⟨by decide, rfl⟩ hM.b rfl rfl (Nat.le_of_ble_eq_true rfl) ⟨Nat.le_refl _, Nat.le_refl _⟩ (fun v7 z7 n7 sh7 J7 M7 hp7 => ?_)
            obtain ⟨b7, rfl, rfl, rfl, rfl, hF7, hr7⟩ := hp7
            refine aw_if_ne (tgt := 99) dX11_readHouse_94 rfl (fun c94 => ?_) (fun c94 => ?_)
            · obtain ⟨p7, he7, h87, h97, hP7⟩ := hr7.r c94
              refine aw_aload_n dX11_readHouse_99 rfl ?_
              refine aw_getR (b := m + 2) dX11_readHouse_100 fX11_13 hM.k hM.b rfl hM.r1 ?_
              refine aw_iload_n dX11_readHouse_103 rfl ?_
              refine aw_iconst (v := 4) dX11_readHouse_104 rfl ?_
              refine aw_cS dX11_readHouse_105 kX11_75 mX11_at (sX11_at (p := cP p.2.1) (w := 4) hM rfl rfl) (Nat.le_of_ble_eq_true rfl) rfl rfl (Nat.le_of_ble_eq_true rfl) ⟨Nat.le_refl _, Nat.le_refl _⟩ ?_
              refine aw_iconst (v := (-1)) dX11_readHouse_108 rfl ?_
              refine aw_iastN (k := (80 + 18 * cP p.2.1 + 4)) dX11_readHouse_109 hM.k1 hM.b1 hM.l1 rfl (by omega) (by decide) ?_
              have hP8 := Ps.row (k := 80 + 18 * cP p.2.1 + 4) (v := -1) hP7 rfl
              have hc3 : Cst p.2.1 p3.2.1 := by
                rw [(pName_row he3).1]
                exact ⟨rfl, rfl⟩
              have hc7 : Cst p.2.1 p7.2.1 := (((hc3.num he4 (by omega) (by omega)).num he5 (by omega) (by omega)).num he6 (by omega) (by omega)).num he7 (by omega) (by omega)
              have hc8 : Cst p.2.1 (upd p7.2.1 (80 + 18 * cP p.2.1 + 4) (-1)) := ⟨(pk_un (by omega)).trans hc7.1, (pk_un (by omega)).trans hc7.2⟩
              have hz3 : p3.2.1 (80 + 18 * cP p.2.1 + 11) = 0 := by
                rw [(pName_row he3).1]
                exact hZ _ (Nat.le_refl _) hlt
              have hz8 : upd p7.2.1 (80 + 18 * cP p.2.1 + 4) (-1) (80 + 18 * cP p.2.1 + 11) = 0 := (pk_un (by omega)).trans (pNum_c he7 (by omega) (pNum_c he6 (by omega) (pNum_c he5 (by omega) (pNum_c he4 (by omega) hz3))))
              refine aw_aload_n dX11_readHouse_110 rfl ?_
              refine aw_bipush (v := 9) dX11_readHouse_111 rfl ?_
              refine aw_cV dX11_readHouse_113 kX11_130 mX11_isWord (rX11_isWord (i := 9) hM hP8.1 hP8.2.1 rfl (by decide)) (Nat.le_of_ble_eq_true rfl) hM.k ⟨by decide, rfl⟩ hM.b rfl rfl (Nat.le_of_ble_eq_true rfl) ⟨Nat.le_refl _, Nat.le_refl _⟩ ?_
              refine aw_if_eq (tgt := 129) dX11_readHouse_116 rfl (fun c116 => ?_) (fun c116 => ?_)
              · have w9 := bI0.mp c116
                have hw0 : cW (upd p7.2.1 (80 + 18 * cP p.2.1 + 4) (-1)) (cP p.2.1) = 0 := cW_eq (a := 0) hz8 (by decide)
                refine loop hlt 7 (p7.1, upd p7.2.1 (80 + 18 * cP p.2.1 + 4) (-1), p7.2.2) _ _ hP8 (((((((RdF.go hG2).tr hF3).tr hF4).tr hF5).tr hF6).tr hF7).tr RdF.rowI) ((congrFun (if_neg (by omega)) _).trans (h87.trans (h86.trans (h85.trans (h84.trans (h83.trans hG2.f18.1)))))) ((congrFun (if_neg (by omega)) _).trans (h97.trans (h96.trans (h95.trans (h94.trans (h93.trans hG2.f18.2)))))) hc8 ?_ ?_ ?_ (((if_neg c9).trans ((pB_r he3).trans ((pB_r he4).trans ((pB_r he5).trans ((pB_r he6).trans (pB_r he7)))))).trans (pB_r (if_neg (by rw [w9]; exact Bool.false_ne_true))))
                · show upd p7.2.1 _ _ _ = nI (cW (upd p7.2.1 _ _) _)
                  rw [hw0]
                  exact hz8
                · show cW (upd p7.2.1 _ _) _ ≤ 6
                  rw [hw0]
                  decide
                · show 7 + cW (upd p7.2.1 _ _) _ = 7
                  rw [hw0]
              · have w9 := bI1.mp c116
                refine aw_aload_n dX11_readHouse_119 rfl ?_
                refine aw_iload_n dX11_readHouse_120 rfl ?_
                refine aw_callV dX11_readHouse_121 kX11_165 mX11_readIn (rX11_readIn (h0 := cP p.2.1) hM hs9 hP8 (hc8.p hC).1 rfl hlt) (Nat.le_of_ble_eq_true rfl) hM.k ⟨by decide, rfl⟩ hM.b rfl rfl (Nat.le_of_ble_eq_true rfl) ⟨Nat.le_refl _, Nat.le_refl _⟩ (fun v10 z10 n10 sh10 J10 M10 hp10 => ?_)
                obtain ⟨b10, rfl, rfl, rfl, rfl, hF10, hr10⟩ := hp10
                refine aw_if_ne (tgt := 129) dX11_readHouse_124 rfl (fun c124 => ?_) (fun c124 => ?_)
                · obtain ⟨p10, he10, h810, h910, hP10⟩ := hr10.r c124
                  obtain ⟨hh, x1, x2, x3⟩ := pIn_row he10
                  have x1 : hh < cH (upd p7.2.1 (80 + 18 * cP p.2.1 + 4) (-1)) := x1
                  rw [(hc8.p hC).2.1] at x1
                  have ha10 := hC.2.1
                  have hR : p10.2.1 = upd (upd (upd p7.2.1 (80 + 18 * cP p.2.1 + 4) (-1)) (80 + 18 * cP p.2.1 + 4) (nI hh)) (8 * hh + 2) (nI (cP p.2.1)) := by rw [x3]
                  have y1 : p10.2.1 (80 + 18 * cP p.2.1 + 11) = 0 := by
                    rw [hR, pk_un (by omega), pk_un (by omega)]
                    exact hz8
                  have hw0 : cW p10.2.1 (cP p.2.1) = 0 := cW_eq (a := 0) y1 (by decide)
                  refine loop hlt 7 p10 _ _ hP10 (((((((RdF.go hG2).tr hF3).tr hF4).tr hF5).tr hF6).tr hF7).tr (RdF.rowI.tr hF10)) (h810.trans ((congrFun (if_neg (by omega)) _).trans (h87.trans (h86.trans (h85.trans (h84.trans (h83.trans hG2.f18.1))))))) (h910.trans ((congrFun (if_neg (by omega)) _).trans (h97.trans (h96.trans (h95.trans (h94.trans (h93.trans hG2.f18.2))))))) ⟨?_, ?_⟩ ?_ ?_ ?_ (((if_neg c9).trans ((pB_r he3).trans ((pB_r he4).trans ((pB_r he5).trans ((pB_r he6).trans (pB_r he7)))))).trans (pB_r ((if_pos w9).trans he10)))
                  · rw [hR, pk_un (by omega), pk_un (by omega)]
                    exact hc8.1
                  · rw [hR, pk_un (by omega), pk_un (by omega)]
                    exact hc8.2
                  · rw [hw0]
                    exact y1
                  · rw [hw0]
                    decide
                  · rw [hw0]
                · obtain ⟨e10, he10, h810, h910⟩ := hr10.l c124
                  refine aw_iconst (v := 0) dX11_readHouse_127 rfl ?_
                  refine aw_zret q rfl (by decide) dX11_readHouse_128 ⟨Nat.le_refl _, Nat.le_refl _⟩ ?_
                  exact PrP.fail (((((((RdF.go hG2).tr hF3).tr hF4).tr hF5).tr hF6).tr hF7).tr (RdF.rowI.tr hF10)) (((if_neg c9).trans ((pB_r he3).trans ((pB_r he4).trans ((pB_r he5).trans ((pB_r he6).trans (pB_r he7)))))).trans (pB_l ((if_pos w9).trans he10))) h810 h910
            · obtain ⟨e7, he7, h87, h97⟩ := hr7.l c94
              refine aw_iconst (v := 0) dX11_readHouse_97 rfl ?_
              refine aw_zret q rfl (by decide) dX11_readHouse_98 ⟨Nat.le_refl _, Nat.le_refl _⟩ ?_
              exact PrP.fail ((((((RdF.go hG2).tr hF3).tr hF4).tr hF5).tr hF6).tr hF7) (((if_neg c9).trans ((pB_r he3).trans ((pB_r he4).trans ((pB_r he5).trans (pB_r he6))))).trans (pB_l he7)) h87 h97
        · obtain ⟨e5, he5, h85, h95⟩ := hr5.l c61
          refine aw_iconst (v := 0) dX11_readHouse_64 rfl ?_
          refine aw_zret q rfl (by decide) dX11_readHouse_65 ⟨Nat.le_refl _, Nat.le_refl _⟩ ?_
          exact PrP.fail ((((RdF.go hG2).tr hF3).tr hF4).tr hF5) (((if_neg c9).trans ((pB_r he3).trans (pB_r he4))).trans (pB_l he5)) h85 h95
  · have c9 := (nI_eq (a := cP p.2.1) (b := 8) (by omega) (by decide)).mp c12
    refine aw_aload_n dX11_readHouse_15 rfl ?_
    refine aw_iconst (v := 5) dX11_readHouse_16 rfl ?_
    refine aw_callV dX11_readHouse_17 kX11_139 mX11_bad (rX11_bad (c := 5) hM hP.1 hP.2.1 rfl) (Nat.le_of_ble_eq_true rfl) hM.k ⟨by decide, rfl⟩ hM.b rfl rfl (Nat.le_of_ble_eq_true rfl) ⟨Nat.le_refl _, Nat.le_refl _⟩ (fun v1 z1 n1 sh1 J1 M1 hp1 => ?_)
    obtain ⟨b1, rfl, rfl, rfl, rfl, hF1, hr1⟩ := hp1
    refine aw_zret q rfl hr1.b dX11_readHouse_20 ⟨Nat.le_refl _, Nat.le_refl _⟩ ?_
    exact PrP.with_ RdF.rf rfl rfl hF1 hr1 (if_pos c9)
set_option maxHeartbeats 4000000 in
set_option maxRecDepth 100000 in
theorem rX11_readRule (hM : IsM n sh m) {T : Nat → Int32} {s : Nat} (hs9 : s ≤ 900) {p : PSt} (hP : Ps I L m T s p) : CM yX11_readRule cX11_readRule 2 (Option.some .boolean) 5 0 0 [.ref m] z n sh I L (PrP z n sh I L m T s (pRule T s p)) := by
  refine CM.go [some (.ref m), none] rfl rfl (Nat.le_of_ble_eq_true rfl) (fun X g q => ?_)
  have rest : ∀ i (J : MI) (M : ML), i ≤ 6 → fa_first (tWd (nx T s p.1)) 6 = i → GoF m I J L M → Ps J M m T s (nx T s p.1, p.2.1, p.2.2) → AW X g RX11 cX11_readRule 2 (5, 0, 0) (z, n, sh, 0, 0) (J) (M) 26 [some (.ref m), some (.int (nI i))] [] := by
    intro i J M hi hfi hG1 hP1
    refine aw_iload_n dX11_readRule_26 rfl ?_
    refine aw_bipush (v := 6) dX11_readRule_27 rfl ?_
    refine aw_icmp_ne (tgt := 38) dX11_readRule_29 rfl (fun c29 => ?_) (fun c29 => ?_)
    · have d9 := mt (nI_eq (a := i) (b := 6) (by omega) (by decide)).mpr c29
      have hlt : i < 6 := by omega
      refine aw_aload_n dX11_readRule_38 rfl ?_
      refine aw_callV dX11_readRule_39 kX11_142 mX11_go (rX11_go hM hP1.1.1 hP1.1.2.1 hP1.1.2.2.2.1 hs9 hP1.2.1.2.1) (Nat.le_of_ble_eq_true rfl) hM.k ⟨by decide, rfl⟩ hM.b rfl rfl (Nat.le_of_ble_eq_true rfl) ⟨Nat.le_refl _, Nat.le_refl _⟩ (fun v4 z4 n4 sh4 J4 M4 hp4 => ?_)
      obtain ⟨rfl, rfl, rfl, rfl, hG4, hA4⟩ := hp4
      have hP4 := Ps.go hP1 hG4 hA4
      refine aw_aload_n dX11_readRule_42 rfl ?_
      refine aw_sipush (v := 224) dX11_readRule_43 rfl ?_
      refine aw_iload_n dX11_readRule_46 rfl ?_
      refine aw_iadd dX11_readRule_47 ?_
      refine AW.top (gadd rfl rfl) ?_
      refine aw_iload_n dX11_readRule_48 rfl ?_
      refine aw_cS dX11_readRule_49 kX11_171 mX11_leastOf (sX11_leastOf (r := i) rfl hlt) (Nat.le_of_ble_eq_true rfl) rfl rfl (Nat.le_of_ble_eq_true rfl) ⟨Nat.le_refl _, Nat.le_refl _⟩ ?_
      refine aw_iload_n dX11_readRule_52 rfl ?_
      refine aw_cS dX11_readRule_53 kX11_174 mX11_mostOf (sX11_mostOf (r := i) rfl hlt) (Nat.le_of_ble_eq_true rfl) rfl rfl (Nat.le_of_ble_eq_true rfl) ⟨Nat.le_refl _, Nat.le_refl _⟩ ?_
      refine aw_callV dX11_readRule_56 kX11_159 mX11_readNumber (rX11_readNumber (into := 224 + i) (lo := rLeast i) (mo := rMost i) hM hs9 hP4 rfl (by omega)) (Nat.le_of_ble_eq_true rfl) hM.k ⟨by decide, rfl⟩ hM.b rfl rfl (Nat.le_of_ble_eq_true rfl) ⟨Nat.le_refl _, Nat.le_refl _⟩ (fun v5 z5 n5 sh5 J5 M5 hp5 => ?_)
      obtain ⟨b5, rfl, rfl, rfl, rfl, hF5, hr5⟩ := hp5
      refine aw_if_eq (tgt := 73) dX11_readRule_59 rfl (fun c59 => ?_) (fun c59 => ?_)
      · obtain ⟨e5, he5, h85, h95⟩ := hr5.l c59
        refine aw_iconst (v := 0) dX11_readRule_73 rfl ?_
        refine aw_zret q rfl (by decide) dX11_readRule_74 ⟨Nat.le_refl _, Nat.le_refl _⟩ ?_
        refine PrP.fail ((RdF.go hG1).tr ((RdF.go hG4).tr hF5)) ((if_neg (by rw [hfi]; exact d9)).trans ?_) h85 h95
        rw [hfi]
        exact pB_l he5
      · obtain ⟨p5, he5, h85, h95, hP5⟩ := hr5.r c59
        refine aw_aload_n dX11_readRule_62 rfl ?_
        refine aw_callV dX11_readRule_63 kX11_162 mX11_readEnd (rX11_readEnd hM hs9 hP5) (Nat.le_of_ble_eq_true rfl) hM.k ⟨by decide, rfl⟩ hM.b rfl rfl (Nat.le_of_ble_eq_true rfl) ⟨Nat.le_refl _, Nat.le_refl _⟩ (fun v6 z6 n6 sh6 J6 M6 hp6 => ?_)
        obtain ⟨b6, rfl, rfl, rfl, rfl, hF6, hr6⟩ := hp6
        refine aw_if_eq (tgt := 73) dX11_readRule_66 rfl (fun c66 => ?_) (fun c66 => ?_)
        · obtain ⟨e6, he6, h86, h96⟩ := hr6.l c66
          refine aw_iconst (v := 0) dX11_readRule_73 rfl ?_
          refine aw_zret q rfl (by decide) dX11_readRule_74 ⟨Nat.le_refl _, Nat.le_refl _⟩ ?_
          refine PrP.fail (((RdF.go hG1).tr ((RdF.go hG4).tr hF5)).tr hF6) ((if_neg (by rw [hfi]; exact d9)).trans ?_) h86 h96
          rw [hfi]
          exact (pB_r he5).trans he6
        · obtain ⟨p6, he6, h86, h96, hP6⟩ := hr6.r c66
          refine aw_iconst (v := 1) dX11_readRule_69 rfl ?_
          refine aw_goto (tgt := 74) dX11_readRule_70 rfl ?_
          refine aw_zret q rfl (by decide) dX11_readRule_74 ⟨Nat.le_refl _, Nat.le_refl _⟩ ?_
          refine PrP.good (((RdF.go hG1).tr ((RdF.go hG4).tr hF5)).tr hF6) ((if_neg (by rw [hfi]; exact d9)).trans ?_) (h86.trans (h85.trans (hG4.f18.1.trans hG1.f18.1))) (h96.trans (h95.trans (hG4.f18.2.trans hG1.f18.2))) hP6
          rw [hfi]
          exact (pB_r he5).trans he6
    · have d9 := (nI_eq (b := 6) (by omega) (by decide)).mp c29
      refine aw_aload_n dX11_readRule_32 rfl ?_
      refine aw_iconst (v := 2) dX11_readRule_33 rfl ?_
      refine aw_callV dX11_readRule_34 kX11_139 mX11_bad (rX11_bad (c := 2) hM hP1.1 hP1.2.1 rfl) (Nat.le_of_ble_eq_true rfl) hM.k ⟨by decide, rfl⟩ hM.b rfl rfl (Nat.le_of_ble_eq_true rfl) ⟨Nat.le_refl _, Nat.le_refl _⟩ (fun v3 z3 n3 sh3 J3 M3 hp3 => ?_)
      obtain ⟨b3, rfl, rfl, rfl, rfl, hF3, hr3⟩ := hp3
      refine aw_zret q rfl hr3.b dX11_readRule_37 ⟨Nat.le_refl _, Nat.le_refl _⟩ ?_
      exact PrP.with_ (RdF.go hG1) hG1.f18.1 hG1.f18.2 hF3 hr3 (if_pos (hfi.trans d9))
  have loop : ∀ (J : MI) (M : ML), GoF m I J L M → Ps J M m T s (nx T s p.1, p.2.1, p.2.2) → ∀ i, i ≤ 6 → fa_first (tWd (nx T s p.1)) i = i → AW X g RX11 cX11_readRule 2 (5, 0, 0) (z, n, sh, 0, 0) (J) (M) 6 [some (.ref m), some (.int (nI i))] [] := by
    intro J M hG1 hP1
    refine up_loop (fun i hi ih hfi => ?_)
    refine aw_iload_n dX11_readRule_6 rfl ?_
    refine aw_bipush (v := 6) dX11_readRule_7 rfl ?_
    refine aw_icmp_ge (tgt := 26) dX11_readRule_9 rfl (fun c9 => ?_) (fun c9 => ?_)
    · have e := ge_t (B := 6) rfl (by decide) hi c9
      subst e
      exact rest 6 _ _ (Nat.le_refl _) hfi hG1 hP1
    · have hlt := ge_f (B := 6) rfl (by decide) hi c9
      refine aw_aload_n dX11_readRule_12 rfl ?_
      refine aw_iload_n dX11_readRule_13 rfl ?_
      refine aw_cV dX11_readRule_14 kX11_130 mX11_isWord (rX11_isWord (i := i) hM hP1.1 hP1.2.1 rfl (by omega)) (Nat.le_of_ble_eq_true rfl) hM.k ⟨by decide, rfl⟩ hM.b rfl rfl (Nat.le_of_ble_eq_true rfl) ⟨Nat.le_refl _, Nat.le_refl _⟩ ?_
      refine aw_if_ne (tgt := 26) dX11_readRule_17 rfl (fun c17 => ?_) (fun c17 => ?_)
      · exact rest i _ _ hi (fa_first_yes1 hfi (bI1.mp c17) hlt) hG1 hP1
      · refine aw_iinc dX11_readRule_20 rfl (ginc rfl) (by decide) rfl ?_
        refine aw_goto (tgt := 6) dX11_readRule_23 rfl ?_
        exact ih hlt (fa_first_no1 hfi (by rw [bI0.mp c17]; exact Bool.false_ne_true))
  refine aw_aload_n dX11_readRule_0 rfl ?_
  refine aw_callV dX11_readRule_1 kX11_142 mX11_go (rX11_go hM hP.1.1 hP.1.2.1 hP.1.2.2.2.1 hs9 hP.2.1.2.1) (Nat.le_of_ble_eq_true rfl) hM.k ⟨by decide, rfl⟩ hM.b rfl rfl (Nat.le_of_ble_eq_true rfl) ⟨Nat.le_refl _, Nat.le_refl _⟩ (fun v1 z1 n1 sh1 J1 M1 hp1 => ?_)
  obtain ⟨rfl, rfl, rfl, rfl, hG1, hA1⟩ := hp1
  have hP1 := Ps.go hP hG1 hA1
  refine aw_iconst (v := 0) dX11_readRule_4 rfl ?_
  refine aw_istore_n dX11_readRule_5 (by decide) rfl ?_
  exact loop _ _ hG1 hP1 0 (Nat.zero_le _) rfl
set_option maxHeartbeats 4000000 in
set_option maxRecDepth 100000 in
theorem rX11_readLine (hM : IsM n sh m) {T : Nat → Int32} {s : Nat} (hs9 : s ≤ 900) {p : PSt} (hP : Ps I L m T s p) (hC : PcO p.2.1) (hZ : ∀ q, cP p.2.1 ≤ q → q < 8 → p.2.1 (80 + 18 * q + 11) = 0) : CM yX11_readLine cX11_readLine 1 (Option.some .boolean) 8 0 0 [.ref m] z n sh I L (PrP z n sh I L m T s (pLine T s p)) := by
  refine CM.go [some (.ref m)] rfl rfl (Nat.le_of_ble_eq_true rfl) (fun X g q => ?_)
  refine aw_aload_n dX11_readLine_0 rfl ?_
  refine aw_bipush (v := 6) dX11_readLine_1 rfl ?_
  refine aw_cV dX11_readLine_3 kX11_130 mX11_isWord (rX11_isWord (i := 6) hM hP.1 hP.2.1 rfl (by decide)) (Nat.le_of_ble_eq_true rfl) hM.k ⟨by decide, rfl⟩ hM.b rfl rfl (Nat.le_of_ble_eq_true rfl) ⟨Nat.le_refl _, Nat.le_refl _⟩ ?_
  refine aw_if_eq (tgt := 14) dX11_readLine_6 rfl (fun c6 => ?_) (fun c6 => ?_)
  · have f6 := bI0.mp c6
    refine aw_aload_n dX11_readLine_14 rfl ?_
    refine aw_bipush (v := 7) dX11_readLine_15 rfl ?_
    refine aw_cV dX11_readLine_17 kX11_130 mX11_isWord (rX11_isWord (i := 7) hM hP.1 hP.2.1 rfl (by decide)) (Nat.le_of_ble_eq_true rfl) hM.k ⟨by decide, rfl⟩ hM.b rfl rfl (Nat.le_of_ble_eq_true rfl) ⟨Nat.le_refl _, Nat.le_refl _⟩ ?_
    refine aw_if_eq (tgt := 28) dX11_readLine_20 rfl (fun c20 => ?_) (fun c20 => ?_)
    · have f7 := bI0.mp c20
      refine aw_aload_n dX11_readLine_28 rfl ?_
      refine aw_bipush (v := 8) dX11_readLine_29 rfl ?_
      refine aw_cV dX11_readLine_31 kX11_130 mX11_isWord (rX11_isWord (i := 8) hM hP.1 hP.2.1 rfl (by decide)) (Nat.le_of_ble_eq_true rfl) hM.k ⟨by decide, rfl⟩ hM.b rfl rfl (Nat.le_of_ble_eq_true rfl) ⟨Nat.le_refl _, Nat.le_refl _⟩ ?_
      refine aw_if_eq (tgt := 44) dX11_readLine_34 rfl (fun c34 => ?_) (fun c34 => ?_)
      · have f8 := bI0.mp c34
        refine aw_aload_n dX11_readLine_44 rfl ?_
        refine aw_iconst (v := 2) dX11_readLine_45 rfl ?_
        refine aw_callV dX11_readLine_46 kX11_139 mX11_bad (rX11_bad (c := 2) hM hP.1 hP.2.1 rfl) (Nat.le_of_ble_eq_true rfl) hM.k ⟨by decide, rfl⟩ hM.b rfl rfl (Nat.le_of_ble_eq_true rfl) ⟨Nat.le_refl _, Nat.le_refl _⟩ (fun v4 z4 n4 sh4 J4 M4 hp4 => ?_)
        obtain ⟨b4, rfl, rfl, rfl, rfl, hF4, hr4⟩ := hp4
        refine aw_zret q rfl (by first | exact hr4.b | exact hr3.b) dX11_readLine_49 ⟨Nat.le_refl _, Nat.le_refl _⟩ ?_
        exact PrP.with_ RdF.rf rfl rfl hF4 hr4 ((if_neg (by rw [f6]; exact Bool.false_ne_true)).trans ((if_neg (by rw [f7]; exact Bool.false_ne_true)).trans (if_neg (by rw [f8]; exact Bool.false_ne_true))))
      · have f8 := bI1.mp c34
        refine aw_aload_n dX11_readLine_37 rfl ?_
        refine aw_callV dX11_readLine_38 kX11_183 mX11_readRule (rX11_readRule hM hs9 hP) (Nat.le_of_ble_eq_true rfl) hM.k ⟨by decide, rfl⟩ hM.b rfl rfl (Nat.le_of_ble_eq_true rfl) ⟨Nat.le_refl _, Nat.le_refl _⟩ (fun v3 z3 n3 sh3 J3 M3 hp3 => ?_)
        obtain ⟨b3, rfl, rfl, rfl, rfl, hF3, hr3⟩ := hp3
        refine aw_goto (tgt := 49) dX11_readLine_41 rfl ?_
        refine aw_zret q rfl (by first | exact hr4.b | exact hr3.b) dX11_readLine_49 ⟨Nat.le_refl _, Nat.le_refl _⟩ ?_
        exact PrP.with_ RdF.rf rfl rfl hF3 hr3 ((if_neg (by rw [f6]; exact Bool.false_ne_true)).trans ((if_neg (by rw [f7]; exact Bool.false_ne_true)).trans (if_pos f8)))
    · have f7 := bI1.mp c20
      refine aw_aload_n dX11_readLine_23 rfl ?_
      refine aw_callV dX11_readLine_24 kX11_180 mX11_readHouse (rX11_readHouse hM hs9 hP hC hZ) (Nat.le_of_ble_eq_true rfl) hM.k ⟨by decide, rfl⟩ hM.b rfl rfl (Nat.le_of_ble_eq_true rfl) ⟨Nat.le_refl _, Nat.le_refl _⟩ (fun v2 z2 n2 sh2 J2 M2 hp2 => ?_)
      obtain ⟨b2, rfl, rfl, rfl, rfl, hF2, hr2⟩ := hp2
      refine aw_zret q rfl hr2.b dX11_readLine_27 ⟨Nat.le_refl _, Nat.le_refl _⟩ ?_
      exact PrP.with_ RdF.rf rfl rfl hF2 hr2 ((if_neg (by rw [f6]; exact Bool.false_ne_true)).trans (if_pos f7))
  · have f6 := bI1.mp c6
    refine aw_aload_n dX11_readLine_9 rfl ?_
    refine aw_callV dX11_readLine_10 kX11_177 mX11_readHome (rX11_readHome hM hs9 hP hC) (Nat.le_of_ble_eq_true rfl) hM.k ⟨by decide, rfl⟩ hM.b rfl rfl (Nat.le_of_ble_eq_true rfl) ⟨Nat.le_refl _, Nat.le_refl _⟩ (fun v1 z1 n1 sh1 J1 M1 hp1 => ?_)
    obtain ⟨b1, rfl, rfl, rfl, rfl, hF1, hr1⟩ := hp1
    refine aw_zret q rfl hr1.b dX11_readLine_13 ⟨Nat.le_refl _, Nat.le_refl _⟩ ?_
    exact PrP.with_ RdF.rf rfl rfl hF1 hr1 (if_pos f6)
end RefS
