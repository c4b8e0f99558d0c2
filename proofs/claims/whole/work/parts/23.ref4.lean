/-! the reference: homes, houses, rules, why, the order -/
theorem fa_not_le {a b : Int32} : ¬ a ≤ b ↔ b < a := Int32.not_le
section RefS
variable {z n m : Nat} {sh : Shp} {I : MI} {L : ML}
def aRule (N : Nat → Int32) (x : Int32) : An := if mFrom x 0 5 then ok (N (224 + x.toNatClampNeg)) else no 1
theorem from_nI {x : Int32} {B : Nat} (hB : B < 2 ^ 29) (h : mFrom x 0 (nI B) = true) : ∃ j, j < B + 1 ∧ x = nI j :=
  from_ix (y := nI (B + 1)) rfl (by omega) (by rw [nI_pred]; exact h)
set_option maxHeartbeats 4000000 in
set_option maxRecDepth 100000 in
theorem sX11_rule (hM : IsM n sh m) (hN : Cn (I (m + 1))) {x : Int32} : CM yX11_rule cX11_rule 2 (Option.some .int) 2 0 0 [.ref m, .int x] z n sh I L (Tl (aRule (I (m + 1)) x) z n sh I L m) := by
  refine CM.go [some (.ref m), some (.int x)] rfl rfl (Nat.le_of_ble_eq_true rfl) (fun X g q => ?_)
  refine aw_iload_n dX11_rule_0 rfl ?_
  refine aw_iconst (v := 0) dX11_rule_1 rfl ?_
  refine aw_iconst (v := 5) dX11_rule_2 rfl ?_
  refine aw_cS dX11_rule_3 kX11_71 mX11_isFrom (sX11_isFrom hM) (Nat.le_of_ble_eq_true rfl) rfl rfl (Nat.le_of_ble_eq_true rfl) ⟨Nat.le_refl _, Nat.le_refl _⟩ ?_
  refine aw_if_eq (tgt := 26) dX11_rule_6 rfl (fun c6 => ?_) (fun c6 => ?_)
  · refine aw_aload_n dX11_rule_26 rfl ?_
    refine aw_iconst (v := 1) dX11_rule_27 rfl ?_
    refine aw_cV dX11_rule_28 kX11_186 mX11_refuse (sX11_refuse hM) (Nat.le_of_ble_eq_true rfl) hM.k ⟨by decide, rfl⟩ hM.b rfl rfl (Nat.le_of_ble_eq_true rfl) ⟨Nat.le_refl _, Nat.le_refl _⟩ ?_
    refine aw_iret q rfl dX11_rule_31 ⟨Nat.le_refl _, Nat.le_refl _⟩ ?_
    first
      | exact Tl.no (by simp [aRule, bI0.mp c6])
      | refine Tl.ok ?_
        rw [show (224 : Int32) + nI j = nI (224 + j) from gadd rfl rfl, nI_clamp (by omega)]
        simp [aRule, bI1.mp c6, nI_clamp (show j < 2 ^ 31 by omega)]
  · obtain ⟨j, hj, rfl⟩ := from_nI (B := 5) (by decide) (bI1.mp c6)
    refine aw_aload_n dX11_rule_9 rfl ?_
    refine aw_aload_n dX11_rule_10 rfl ?_
    refine aw_getR (b := m + 1) dX11_rule_11 fX11_7 hM.k hM.b rfl hM.r0 ?_
    refine aw_sipush (v := 224) dX11_rule_14 rfl ?_
    refine aw_iload_n dX11_rule_17 rfl ?_
    refine aw_iadd dX11_rule_18 ?_
    refine aw_iald dX11_rule_19 hM.k0 hM.b0 (vl hM.l0 (vpn (gadd (a := 224) (b := j) rfl rfl) (by omega) (by decide))) ?_
    refine aw_cV dX11_rule_20 kX11_199 mX11_gives (sX11_gives hM) (Nat.le_of_ble_eq_true rfl) hM.k ⟨by decide, rfl⟩ hM.b rfl rfl (Nat.le_of_ble_eq_true rfl) ⟨Nat.le_refl _, Nat.le_refl _⟩ ?_
    refine aw_goto (tgt := 31) dX11_rule_23 rfl ?_
    refine aw_iret q rfl dX11_rule_31 ⟨Nat.le_refl _, Nat.le_refl _⟩ ?_
    first
      | exact Tl.no (by simp [aRule, bI0.mp c6])
      | refine Tl.ok ?_
        rw [show (224 : Int32) + nI j = nI (224 + j) from gadd rfl rfl, nI_clamp (by omega)]
        simp [aRule, bI1.mp c6, nI_clamp (show j < 2 ^ 31 by omega)]
theorem rX11_rule (hM : IsM n sh m) {N : Nat → Int32} (hI : I (m + 1) = N) (hN : Cn N) {x : Int32} : CM yX11_rule cX11_rule 2 (Option.some .int) 2 0 0 [.ref m, .int x] z n sh I L (Tl (aRule (N) x) z n sh I L m) := by
  subst hI
  apply sX11_rule <;> assumption
def aHome (N : Nat → Int32) (x w : Int32) : An :=
  if !mFrom w 0 7 then no 1 else if !mFrom x 0 (N 230 - 1) then no 2 else
  if w = 0 then ok (N (8 * x.toNatClampNeg + 0)) else if w = 1 then ok (N (8 * x.toNatClampNeg + 1)) else if w = 2 then (if N (8 * x.toNatClampNeg + 2) = -1 then no 5 else ok (N (8 * x.toNatClampNeg + 2))) else if w = 3 then ok (bI (mFree N x.toNatClampNeg))
  else if w = 4 then ok (isum (fun p => bI (mBid N p x)) (nPo N)) else if w = 5 then ok (N (8 * x.toNatClampNeg + 4)) else ok (N (8 * x.toNatClampNeg + w.toNatClampNeg))
set_option maxHeartbeats 4000000 in
set_option maxRecDepth 100000 in
theorem sX11_home (hM : IsM n sh m) (hN : Cn (I (m + 1))) {x w : Int32} : CM yX11_home cX11_home 3 (Option.some .int) 5 0 0 [.ref m, .int x, .int w] z n sh I L (Tl (aHome (I (m + 1)) x w) z n sh I L m) := by
  refine CM.go [some (.ref m), some (.int x), some (.int w)] rfl rfl (Nat.le_of_ble_eq_true rfl) (fun X g q => ?_)
  refine aw_iload_n dX11_home_0 rfl ?_
  refine aw_iconst (v := 0) dX11_home_1 rfl ?_
  refine aw_bipush (v := 7) dX11_home_2 rfl ?_
  refine aw_cS dX11_home_4 kX11_71 mX11_isFrom (sX11_isFrom hM) (Nat.le_of_ble_eq_true rfl) rfl rfl (Nat.le_of_ble_eq_true rfl) ⟨Nat.le_refl _, Nat.le_refl _⟩ ?_
  refine aw_if_ne (tgt := 16) dX11_home_7 rfl (fun c7 => ?_) (fun c7 => ?_)
  · have f7 := bI1.mp c7
    refine aw_aload_n dX11_home_16 rfl ?_
    refine aw_iload_n dX11_home_17 rfl ?_
    refine aw_cV dX11_home_18 kX11_238 mX11_isHome (sX11_isHome hM) (Nat.le_of_ble_eq_true rfl) hM.k ⟨by decide, rfl⟩ hM.b rfl rfl (Nat.le_of_ble_eq_true rfl) ⟨Nat.le_refl _, Nat.le_refl _⟩ ?_
    refine aw_if_ne (tgt := 30) dX11_home_21 rfl (fun c21 => ?_) (fun c21 => ?_)
    · obtain ⟨h, hh, rfl⟩ := from_ix hN.h (by have := hN.h10; omega) (bI1.mp c21)
      have hb10 := hN.h10
      have f21 := bI1.mp c21
      have hcl := nI_clamp (show h < 2 ^ 31 by omega)
      refine aw_iload_n dX11_home_30 rfl ?_
      rcases swx w 6 (by decide) with ⟨j31, hj31, rfl⟩ | ho31
      · match j31, hj31 with
        | 0, _ =>
          refine aw_tableIn (off := 37) (tgt := 68) dX11_home_31 (by decide) (by decide) (by decide) rfl ?_
          refine aw_aload_n dX11_home_68 rfl ?_
          refine aw_aload_n dX11_home_69 rfl ?_
          refine aw_iload_n dX11_home_70 rfl ?_
          refine aw_iconst (v := 0) dX11_home_71 rfl ?_
          refine aw_cV dX11_home_72 kX11_202 mX11_home0 (sX11_home0 (h := h) (w := 0) hM rfl rfl (by omega)) (Nat.le_of_ble_eq_true rfl) hM.k ⟨by decide, rfl⟩ hM.b rfl rfl (Nat.le_of_ble_eq_true rfl) ⟨Nat.le_refl _, Nat.le_refl _⟩ ?_
          refine aw_cV dX11_home_75 kX11_199 mX11_gives (sX11_gives hM) (Nat.le_of_ble_eq_true rfl) hM.k ⟨by decide, rfl⟩ hM.b rfl rfl (Nat.le_of_ble_eq_true rfl) ⟨Nat.le_refl _, Nat.le_refl _⟩ ?_
          refine aw_iret q rfl dX11_home_78 ⟨Nat.le_refl _, Nat.le_refl _⟩ ?_
          have f8 : mFrom (0 : Int32) 0 7 = true := f7
          refine Tl.ok ?_
          show aHome _ _ (0 : Int32) = _
          simp [aHome, f8, f21, hcl]
        | 1, _ =>
          refine aw_tableIn (off := 48) (tgt := 79) dX11_home_31 (by decide) (by decide) (by decide) rfl ?_
          refine aw_aload_n dX11_home_79 rfl ?_
          refine aw_aload_n dX11_home_80 rfl ?_
          refine aw_iload_n dX11_home_81 rfl ?_
          refine aw_iconst (v := 1) dX11_home_82 rfl ?_
          refine aw_cV dX11_home_83 kX11_202 mX11_home0 (sX11_home0 (h := h) (w := 1) hM rfl rfl (by omega)) (Nat.le_of_ble_eq_true rfl) hM.k ⟨by decide, rfl⟩ hM.b rfl rfl (Nat.le_of_ble_eq_true rfl) ⟨Nat.le_refl _, Nat.le_refl _⟩ ?_
          refine aw_cV dX11_home_86 kX11_199 mX11_gives (sX11_gives hM) (Nat.le_of_ble_eq_true rfl) hM.k ⟨by decide, rfl⟩ hM.b rfl rfl (Nat.le_of_ble_eq_true rfl) ⟨Nat.le_refl _, Nat.le_refl _⟩ ?_
          refine aw_iret q rfl dX11_home_89 ⟨Nat.le_refl _, Nat.le_refl _⟩ ?_
          have f8 : mFrom (1 : Int32) 0 7 = true := f7
          refine Tl.ok ?_
          show aHome _ _ (1 : Int32) = _
          simp [aHome, f8, f21, hcl]
        | 2, _ =>
          refine aw_tableIn (off := 59) (tgt := 90) dX11_home_31 (by decide) (by decide) (by decide) rfl ?_
          refine aw_aload_n dX11_home_90 rfl ?_
          refine aw_iload_n dX11_home_91 rfl ?_
          refine aw_iconst (v := 2) dX11_home_92 rfl ?_
          refine aw_cV dX11_home_93 kX11_202 mX11_home0 (sX11_home0 (h := h) (w := 2) hM rfl rfl (by omega)) (Nat.le_of_ble_eq_true rfl) hM.k ⟨by decide, rfl⟩ hM.b rfl rfl (Nat.le_of_ble_eq_true rfl) ⟨Nat.le_refl _, Nat.le_refl _⟩ ?_
          refine aw_iconst (v := (-1)) dX11_home_96 rfl ?_
          refine aw_icmp_ne (tgt := 108) dX11_home_97 rfl (fun c97 => ?_) (fun c97 => ?_)
          · refine aw_aload_n dX11_home_108 rfl ?_
            refine aw_aload_n dX11_home_109 rfl ?_
            refine aw_iload_n dX11_home_110 rfl ?_
            refine aw_iconst (v := 2) dX11_home_111 rfl ?_
            refine aw_cV dX11_home_112 kX11_202 mX11_home0 (sX11_home0 (h := h) (w := 2) hM rfl rfl (by omega)) (Nat.le_of_ble_eq_true rfl) hM.k ⟨by decide, rfl⟩ hM.b rfl rfl (Nat.le_of_ble_eq_true rfl) ⟨Nat.le_refl _, Nat.le_refl _⟩ ?_
            refine aw_cV dX11_home_115 kX11_199 mX11_gives (sX11_gives hM) (Nat.le_of_ble_eq_true rfl) hM.k ⟨by decide, rfl⟩ hM.b rfl rfl (Nat.le_of_ble_eq_true rfl) ⟨Nat.le_refl _, Nat.le_refl _⟩ ?_
            refine aw_iret q rfl dX11_home_118 ⟨Nat.le_refl _, Nat.le_refl _⟩ ?_
            have f8 : mFrom (2 : Int32) 0 7 = true := f7
            first | refine Tl.no ?_ | refine Tl.ok ?_
            show aHome _ _ (2 : Int32) = _
            simp [aHome, f8, f21, hcl, c97]
          · refine aw_aload_n dX11_home_100 rfl ?_
            refine aw_iconst (v := 5) dX11_home_101 rfl ?_
            refine aw_cV dX11_home_102 kX11_186 mX11_refuse (sX11_refuse hM) (Nat.le_of_ble_eq_true rfl) hM.k ⟨by decide, rfl⟩ hM.b rfl rfl (Nat.le_of_ble_eq_true rfl) ⟨Nat.le_refl _, Nat.le_refl _⟩ ?_
            refine aw_goto (tgt := 118) dX11_home_105 rfl ?_
            refine aw_iret q rfl dX11_home_118 ⟨Nat.le_refl _, Nat.le_refl _⟩ ?_
            have f8 : mFrom (2 : Int32) 0 7 = true := f7
            first | refine Tl.no ?_ | refine Tl.ok ?_
            show aHome _ _ (2 : Int32) = _
            simp [aHome, f8, f21, hcl, c97]
        | 3, _ =>
          refine aw_tableIn (off := 88) (tgt := 119) dX11_home_31 (by decide) (by decide) (by decide) rfl ?_
          refine aw_aload_n dX11_home_119 rfl ?_
          refine aw_aload_n dX11_home_120 rfl ?_
          refine aw_iload_n dX11_home_121 rfl ?_
          refine aw_cV dX11_home_122 kX11_219 mX11_isFree (sX11_isFree (h := h) hM rfl (by omega)) (Nat.le_of_ble_eq_true rfl) hM.k ⟨by decide, rfl⟩ hM.b rfl rfl (Nat.le_of_ble_eq_true rfl) ⟨Nat.le_refl _, Nat.le_refl _⟩ ?_
          refine aw_if_eq (tgt := 132) dX11_home_125 rfl (fun c125 => ?_) (fun c125 => ?_)
          · refine aw_iconst (v := 0) dX11_home_132 rfl ?_
            refine aw_cV dX11_home_133 kX11_199 mX11_gives (sX11_gives hM) (Nat.le_of_ble_eq_true rfl) hM.k ⟨by decide, rfl⟩ hM.b rfl rfl (Nat.le_of_ble_eq_true rfl) ⟨Nat.le_refl _, Nat.le_refl _⟩ ?_
            refine aw_iret q rfl dX11_home_136 ⟨Nat.le_refl _, Nat.le_refl _⟩ ?_
            have f8 : mFrom (3 : Int32) 0 7 = true := f7
            refine Tl.ok ?_
            show aHome _ _ (3 : Int32) = _
            simp -failIfUnchanged only [bI0, bI1] at c125
            simp [aHome, f8, f21, hcl, c125, bI]
          · refine aw_iconst (v := 1) dX11_home_128 rfl ?_
            refine aw_goto (tgt := 133) dX11_home_129 rfl ?_
            refine aw_cV dX11_home_133 kX11_199 mX11_gives (sX11_gives hM) (Nat.le_of_ble_eq_true rfl) hM.k ⟨by decide, rfl⟩ hM.b rfl rfl (Nat.le_of_ble_eq_true rfl) ⟨Nat.le_refl _, Nat.le_refl _⟩ ?_
            refine aw_iret q rfl dX11_home_136 ⟨Nat.le_refl _, Nat.le_refl _⟩ ?_
            have f8 : mFrom (3 : Int32) 0 7 = true := f7
            refine Tl.ok ?_
            show aHome _ _ (3 : Int32) = _
            simp -failIfUnchanged only [bI0, bI1] at c125
            simp [aHome, f8, f21, hcl, c125, bI]
        | 4, _ =>
          refine aw_tableIn (off := 106) (tgt := 137) dX11_home_31 (by decide) (by decide) (by decide) rfl ?_
          refine aw_aload_n dX11_home_137 rfl ?_
          refine aw_aload_n dX11_home_138 rfl ?_
          refine aw_iload_n dX11_home_139 rfl ?_
          refine aw_cV dX11_home_140 kX11_241 mX11_bidders (sX11_bidders hM hN) (Nat.le_of_ble_eq_true rfl) hM.k ⟨by decide, rfl⟩ hM.b rfl rfl (Nat.le_of_ble_eq_true rfl) ⟨Nat.le_refl _, Nat.le_refl _⟩ ?_
          refine aw_cV dX11_home_143 kX11_199 mX11_gives (sX11_gives hM) (Nat.le_of_ble_eq_true rfl) hM.k ⟨by decide, rfl⟩ hM.b rfl rfl (Nat.le_of_ble_eq_true rfl) ⟨Nat.le_refl _, Nat.le_refl _⟩ ?_
          refine aw_iret q rfl dX11_home_146 ⟨Nat.le_refl _, Nat.le_refl _⟩ ?_
          have f8 : mFrom (4 : Int32) 0 7 = true := f7
          refine Tl.ok ?_
          show aHome _ _ (4 : Int32) = _
          simp [aHome, f8, f21]
        | 5, _ =>
          refine aw_tableIn (off := 116) (tgt := 147) dX11_home_31 (by decide) (by decide) (by decide) rfl ?_
          refine aw_aload_n dX11_home_147 rfl ?_
          refine aw_aload_n dX11_home_148 rfl ?_
          refine aw_iload_n dX11_home_149 rfl ?_
          refine aw_iconst (v := 4) dX11_home_150 rfl ?_
          refine aw_cV dX11_home_151 kX11_202 mX11_home0 (sX11_home0 (h := h) (w := 4) hM rfl rfl (by omega)) (Nat.le_of_ble_eq_true rfl) hM.k ⟨by decide, rfl⟩ hM.b rfl rfl (Nat.le_of_ble_eq_true rfl) ⟨Nat.le_refl _, Nat.le_refl _⟩ ?_
          refine aw_cV dX11_home_154 kX11_199 mX11_gives (sX11_gives hM) (Nat.le_of_ble_eq_true rfl) hM.k ⟨by decide, rfl⟩ hM.b rfl rfl (Nat.le_of_ble_eq_true rfl) ⟨Nat.le_refl _, Nat.le_refl _⟩ ?_
          refine aw_iret q rfl dX11_home_157 ⟨Nat.le_refl _, Nat.le_refl _⟩ ?_
          have f8 : mFrom (5 : Int32) 0 7 = true := f7
          refine Tl.ok ?_
          show aHome _ _ (5 : Int32) = _
          simp [aHome, f8, f21, hcl]
      · refine aw_tableOut (tgt := 158) dX11_home_31 (by omega) rfl ?_
        obtain ⟨v, hv, rfl⟩ := from_nI (B := 7) (by decide) f7
        refine aw_aload_n dX11_home_158 rfl ?_
        refine aw_aload_n dX11_home_159 rfl ?_
        refine aw_iload_n dX11_home_160 rfl ?_
        refine aw_iload_n dX11_home_161 rfl ?_
        refine aw_cV dX11_home_162 kX11_202 mX11_home0 (sX11_home0 (h := h) (w := v) hM rfl rfl (by omega)) (Nat.le_of_ble_eq_true rfl) hM.k ⟨by decide, rfl⟩ hM.b rfl rfl (Nat.le_of_ble_eq_true rfl) ⟨Nat.le_refl _, Nat.le_refl _⟩ ?_
        refine aw_cV dX11_home_165 kX11_199 mX11_gives (sX11_gives hM) (Nat.le_of_ble_eq_true rfl) hM.k ⟨by decide, rfl⟩ hM.b rfl rfl (Nat.le_of_ble_eq_true rfl) ⟨Nat.le_refl _, Nat.le_refl _⟩ ?_
        refine aw_iret q rfl dX11_home_168 ⟨Nat.le_refl _, Nat.le_refl _⟩ ?_
        have e : ∀ j, j < 6 → ¬ nI v = nI j := fun j hj => out_ne ho31 hj (by decide)
        refine Tl.ok ?_
        have f8 : mFrom (nI v) 0 7 = true := f7
        have e0 : ¬ nI v = (0 : Int32) := e 0 (by decide)
        have e1 : ¬ nI v = (1 : Int32) := e 1 (by decide)
        have e2 : ¬ nI v = (2 : Int32) := e 2 (by decide)
        have e3 : ¬ nI v = (3 : Int32) := e 3 (by decide)
        have e4 : ¬ nI v = (4 : Int32) := e 4 (by decide)
        have e5 : ¬ nI v = (5 : Int32) := e 5 (by decide)
        simp [aHome, f8, f21, hcl, e0, e1, e2, e3, e4, e5, nI_clamp (show v < 2 ^ 31 by omega)]
    · refine aw_aload_n dX11_home_24 rfl ?_
      refine aw_iconst (v := 2) dX11_home_25 rfl ?_
      refine aw_cV dX11_home_26 kX11_186 mX11_refuse (sX11_refuse hM) (Nat.le_of_ble_eq_true rfl) hM.k ⟨by decide, rfl⟩ hM.b rfl rfl (Nat.le_of_ble_eq_true rfl) ⟨Nat.le_refl _, Nat.le_refl _⟩ ?_
      refine aw_iret q rfl dX11_home_29 ⟨Nat.le_refl _, Nat.le_refl _⟩ ?_
      exact Tl.no (by simp [aHome, bI0.mp c21, f7])
  · refine aw_aload_n dX11_home_10 rfl ?_
    refine aw_iconst (v := 1) dX11_home_11 rfl ?_
    refine aw_cV dX11_home_12 kX11_186 mX11_refuse (sX11_refuse hM) (Nat.le_of_ble_eq_true rfl) hM.k ⟨by decide, rfl⟩ hM.b rfl rfl (Nat.le_of_ble_eq_true rfl) ⟨Nat.le_refl _, Nat.le_refl _⟩ ?_
    refine aw_iret q rfl dX11_home_15 ⟨Nat.le_refl _, Nat.le_refl _⟩ ?_
    exact Tl.no (by simp [aHome, bI0.mp c7])
theorem rX11_home (hM : IsM n sh m) {N : Nat → Int32} (hI : I (m + 1) = N) (hN : Cn N) {x w : Int32} : CM yX11_home cX11_home 3 (Option.some .int) 5 0 0 [.ref m, .int x, .int w] z n sh I L (Tl (aHome (N) x w) z n sh I L m) := by
  subst hI
  apply sX11_home <;> assumption
def mWhy (N : Nat → Int32) (p h : Nat) : Int32 :=
  if !mIn N p then 1 else if ¬ N (80 + 18 * p + 6) ≤ 0 then 2 else if !mFree N h then 3 else if !mFit N p h then 4 else if mBid N p (nI h) then 5 else if nI (pcn (nBi N p)) < N 229 then 0 else 6
set_option maxHeartbeats 4000000 in
set_option maxRecDepth 100000 in
theorem sX11_whyNot (hM : IsM n sh m) (hN : Cn (I (m + 1))) {x y : Int32} {p h : Nat} (hx : x = nI p) (hy : y = nI h) (hp : p < 8) (hh : h < 10) : CM yX11_whyNot cX11_whyNot 3 (Option.some .int) 4 0 0 [.ref m, .int x, .int y] z n sh I L (Pst (some (.int (mWhy (I (m + 1)) p h))) z n sh I L) := by
  refine CM.go [some (.ref m), some (.int x), some (.int y)] rfl rfl (Nat.le_of_ble_eq_true rfl) (fun X g q => ?_)
  refine aw_aload_n dX11_whyNot_0 rfl ?_
  refine aw_iload_n dX11_whyNot_1 rfl ?_
  refine aw_cV dX11_whyNot_2 kX11_208 mX11_isIn (sX11_isIn (p := p) hM hx (by omega)) (Nat.le_of_ble_eq_true rfl) hM.k ⟨by decide, rfl⟩ hM.b rfl rfl (Nat.le_of_ble_eq_true rfl) ⟨Nat.le_refl _, Nat.le_refl _⟩ ?_
  refine aw_if_ne (tgt := 10) dX11_whyNot_5 rfl (fun c5 => ?_) (fun c5 => ?_)
  · refine aw_aload_n dX11_whyNot_10 rfl ?_
    refine aw_iload_n dX11_whyNot_11 rfl ?_
    refine aw_bipush (v := 6) dX11_whyNot_12 rfl ?_
    refine aw_cV dX11_whyNot_14 kX11_205 mX11_of (sX11_of (p := p) (w := 6) hM hx rfl (by omega)) (Nat.le_of_ble_eq_true rfl) hM.k ⟨by decide, rfl⟩ hM.b rfl rfl (Nat.le_of_ble_eq_true rfl) ⟨Nat.le_refl _, Nat.le_refl _⟩ ?_
    refine aw_if_le (tgt := 22) dX11_whyNot_17 rfl (fun c17 => ?_) (fun c17 => ?_)
    · refine aw_aload_n dX11_whyNot_22 rfl ?_
      refine aw_iload_n dX11_whyNot_23 rfl ?_
      refine aw_cV dX11_whyNot_24 kX11_219 mX11_isFree (sX11_isFree (h := h) hM hy (by omega)) (Nat.le_of_ble_eq_true rfl) hM.k ⟨by decide, rfl⟩ hM.b rfl rfl (Nat.le_of_ble_eq_true rfl) ⟨Nat.le_refl _, Nat.le_refl _⟩ ?_
      refine aw_if_ne (tgt := 32) dX11_whyNot_27 rfl (fun c27 => ?_) (fun c27 => ?_)
      · refine aw_aload_n dX11_whyNot_32 rfl ?_
        refine aw_iload_n dX11_whyNot_33 rfl ?_
        refine aw_iload_n dX11_whyNot_34 rfl ?_
        refine aw_cV dX11_whyNot_35 kX11_250 mX11_doesFit (sX11_doesFit (p := p) (h := h) hM hx hy (by omega) (by omega)) (Nat.le_of_ble_eq_true rfl) hM.k ⟨by decide, rfl⟩ hM.b rfl rfl (Nat.le_of_ble_eq_true rfl) ⟨Nat.le_refl _, Nat.le_refl _⟩ ?_
        refine aw_if_ne (tgt := 43) dX11_whyNot_38 rfl (fun c38 => ?_) (fun c38 => ?_)
        · refine aw_aload_n dX11_whyNot_43 rfl ?_
          refine aw_iload_n dX11_whyNot_44 rfl ?_
          refine aw_iload_n dX11_whyNot_45 rfl ?_
          refine aw_cV dX11_whyNot_46 kX11_234 mX11_isBid (sX11_isBid (p := p) hM hx (by omega)) (Nat.le_of_ble_eq_true rfl) hM.k ⟨by decide, rfl⟩ hM.b rfl rfl (Nat.le_of_ble_eq_true rfl) ⟨Nat.le_refl _, Nat.le_refl _⟩ ?_
          refine aw_if_eq (tgt := 56) dX11_whyNot_49 rfl (fun c49 => ?_) (fun c49 => ?_)
          · refine aw_aload_n dX11_whyNot_56 rfl ?_
            refine aw_iload_n dX11_whyNot_57 rfl ?_
            refine aw_bipush (v := 10) dX11_whyNot_58 rfl ?_
            refine aw_cV dX11_whyNot_60 kX11_205 mX11_of (sX11_of (p := p) (w := 10) hM hx rfl (by omega)) (Nat.le_of_ble_eq_true rfl) hM.k ⟨by decide, rfl⟩ hM.b rfl rfl (Nat.le_of_ble_eq_true rfl) ⟨Nat.le_refl _, Nat.le_refl _⟩ ?_
            have hbi := hN.bi10 hp
            refine aw_cS dX11_whyNot_63 kX11_222 mX11_bits (sX11_bits (v := (nBi (I (m + 1)) p)) (hN.bi hp) (by omega)) (Nat.le_of_ble_eq_true rfl) rfl rfl (Nat.le_of_ble_eq_true rfl) ⟨Nat.le_refl _, Nat.le_refl _⟩ ?_
            refine aw_aload_n dX11_whyNot_66 rfl ?_
            refine aw_getR (b := m + 1) dX11_whyNot_67 fX11_7 hM.k hM.b rfl hM.r0 ?_
            refine aw_sipush (v := 229) dX11_whyNot_70 rfl ?_
            refine aw_ialdN (k := 229) dX11_whyNot_73 hM.k0 hM.b0 hM.l0 rfl (by decide) (by decide) ?_
            refine aw_icmp_lt (tgt := 82) dX11_whyNot_74 rfl (fun c74 => ?_) (fun c74 => ?_)
            · refine aw_iconst (v := 0) dX11_whyNot_82 rfl ?_
              refine aw_iret q rfl dX11_whyNot_83 ⟨Nat.le_refl _, Nat.le_refl _⟩ ?_
              simp -failIfUnchanged only [bI0, bI1] at c5 c17 c27 c38 c49 c74
              refine Pst.iv ?_
              subst hy
              simp [mWhy, c5, c17, c27, c38, c49, c74]
            · refine aw_bipush (v := 6) dX11_whyNot_77 rfl ?_
              refine aw_goto (tgt := 83) dX11_whyNot_79 rfl ?_
              refine aw_iret q rfl dX11_whyNot_83 ⟨Nat.le_refl _, Nat.le_refl _⟩ ?_
              simp -failIfUnchanged only [bI0, bI1] at c5 c17 c27 c38 c49 c74
              refine Pst.iv ?_
              subst hy
              simp [mWhy, c5, c17, c27, c38, c49, c74]
          · refine aw_iconst (v := 5) dX11_whyNot_52 rfl ?_
            refine aw_goto (tgt := 83) dX11_whyNot_53 rfl ?_
            refine aw_iret q rfl dX11_whyNot_83 ⟨Nat.le_refl _, Nat.le_refl _⟩ ?_
            simp -failIfUnchanged only [bI0, bI1] at c5 c17 c27 c38 c49
            refine Pst.iv ?_
            subst hy
            simp [mWhy, c5, c17, c27, c38, c49]
        · refine aw_iconst (v := 4) dX11_whyNot_41 rfl ?_
          refine aw_iret q rfl dX11_whyNot_42 ⟨Nat.le_refl _, Nat.le_refl _⟩ ?_
          simp -failIfUnchanged only [bI0, bI1] at c5 c17 c27 c38
          refine Pst.iv ?_
          subst hy
          simp [mWhy, c5, c17, c27, c38]
      · refine aw_iconst (v := 3) dX11_whyNot_30 rfl ?_
        refine aw_iret q rfl dX11_whyNot_31 ⟨Nat.le_refl _, Nat.le_refl _⟩ ?_
        simp -failIfUnchanged only [bI0, bI1] at c5 c17 c27
        refine Pst.iv ?_
        subst hy
        simp [mWhy, c5, c17, c27]
    · refine aw_iconst (v := 2) dX11_whyNot_20 rfl ?_
      refine aw_iret q rfl dX11_whyNot_21 ⟨Nat.le_refl _, Nat.le_refl _⟩ ?_
      simp -failIfUnchanged only [bI0, bI1] at c5 c17
      refine Pst.iv ?_
      subst hy
      simp [mWhy, c5, c17]
  · refine aw_iconst (v := 1) dX11_whyNot_8 rfl ?_
    refine aw_iret q rfl dX11_whyNot_9 ⟨Nat.le_refl _, Nat.le_refl _⟩ ?_
    simp -failIfUnchanged only [bI0, bI1] at c5
    refine Pst.iv ?_
    subst hy
    simp [mWhy, c5]
theorem rX11_whyNot (hM : IsM n sh m) {N : Nat → Int32} (hI : I (m + 1) = N) (hN : Cn N) {x y : Int32} {p h : Nat} (hx : x = nI p) (hy : y = nI h) (hp : p < 8) (hh : h < 10) : CM yX11_whyNot cX11_whyNot 3 (Option.some .int) 4 0 0 [.ref m, .int x, .int y] z n sh I L (Pst (some (.int (mWhy (N) p h))) z n sh I L) := by
  subst hI
  apply sX11_whyNot <;> assumption
def aWhy (N : Nat → Int32) (x y : Int32) : An := if mOnes N x y then ok (mWhy N x.toNatClampNeg y.toNatClampNeg) else no 2
def aBids (N : Nat → Int32) (x y : Int32) : An := if mOnes N x y then ok (bI (mBid N x.toNatClampNeg y)) else no 2
theorem ones_ix {N : Nat → Int32} (hN : Cn N) {x y : Int32} (h : mOnes N x y = true) : ∃ p h, p < nPo N ∧ h < nHo N ∧ p < 8 ∧ h < 10 ∧ x = nI p ∧ y = nI h ∧ (nI p).toNatClampNeg = p ∧ (nI h).toNatClampNeg = h := by
  unfold mOnes at h
  rw [Bool.and_eq_true] at h
  have h8 := hN.p8
  have h10 := hN.h10
  obtain ⟨p, hp, rfl⟩ := from_ix hN.p (by omega) h.1
  obtain ⟨k, hk, rfl⟩ := from_ix hN.h (by omega) h.2
  exact ⟨p, k, hp, hk, by omega, by omega, rfl, rfl, nI_clamp (by omega), nI_clamp (by omega)⟩
set_option maxHeartbeats 4000000 in
set_option maxRecDepth 100000 in
theorem sX11_why (hM : IsM n sh m) (hN : Cn (I (m + 1))) {x y : Int32} : CM yX11_why cX11_why 3 (Option.some .int) 5 0 0 [.ref m, .int x, .int y] z n sh I L (Tl (aWhy (I (m + 1)) x y) z n sh I L m) := by
  refine CM.go [some (.ref m), some (.int x), some (.int y)] rfl rfl (Nat.le_of_ble_eq_true rfl) (fun X g q => ?_)
  refine aw_aload_n dX11_why_0 rfl ?_
  refine aw_iload_n dX11_why_1 rfl ?_
  refine aw_iload_n dX11_why_2 rfl ?_
  refine aw_cV dX11_why_3 kX11_253 mX11_areOnes (sX11_areOnes hM) (Nat.le_of_ble_eq_true rfl) hM.k ⟨by decide, rfl⟩ hM.b rfl rfl (Nat.le_of_ble_eq_true rfl) ⟨Nat.le_refl _, Nat.le_refl _⟩ ?_
  refine aw_if_eq (tgt := 22) dX11_why_6 rfl (fun c6 => ?_) (fun c6 => ?_)
  · refine aw_aload_n dX11_why_22 rfl ?_
    refine aw_iconst (v := 2) dX11_why_23 rfl ?_
    refine aw_cV dX11_why_24 kX11_186 mX11_refuse (sX11_refuse hM) (Nat.le_of_ble_eq_true rfl) hM.k ⟨by decide, rfl⟩ hM.b rfl rfl (Nat.le_of_ble_eq_true rfl) ⟨Nat.le_refl _, Nat.le_refl _⟩ ?_
    refine aw_iret q rfl dX11_why_27 ⟨Nat.le_refl _, Nat.le_refl _⟩ ?_
    first
      | exact Tl.no (by simp [aWhy, bI0.mp c6])
      | exact Tl.ok (by simp [aWhy, f6, ep, eh])
  · have f6 := bI1.mp c6
    obtain ⟨p, h, hpn, hhn, hp8, hh10, rfl, rfl, ep, eh⟩ := ones_ix hN f6
    refine aw_aload_n dX11_why_9 rfl ?_
    refine aw_aload_n dX11_why_10 rfl ?_
    refine aw_iload_n dX11_why_11 rfl ?_
    refine aw_iload_n dX11_why_12 rfl ?_
    refine aw_cV dX11_why_13 kX11_256 mX11_whyNot (sX11_whyNot (p := p) (h := h) hM hN rfl rfl hp8 hh10) (Nat.le_of_ble_eq_true rfl) hM.k ⟨by decide, rfl⟩ hM.b rfl rfl (Nat.le_of_ble_eq_true rfl) ⟨Nat.le_refl _, Nat.le_refl _⟩ ?_
    refine aw_cV dX11_why_16 kX11_199 mX11_gives (sX11_gives hM) (Nat.le_of_ble_eq_true rfl) hM.k ⟨by decide, rfl⟩ hM.b rfl rfl (Nat.le_of_ble_eq_true rfl) ⟨Nat.le_refl _, Nat.le_refl _⟩ ?_
    refine aw_goto (tgt := 27) dX11_why_19 rfl ?_
    refine aw_iret q rfl dX11_why_27 ⟨Nat.le_refl _, Nat.le_refl _⟩ ?_
    first
      | exact Tl.no (by simp [aWhy, bI0.mp c6])
      | exact Tl.ok (by simp [aWhy, f6, ep, eh])
theorem rX11_why (hM : IsM n sh m) {N : Nat → Int32} (hI : I (m + 1) = N) (hN : Cn N) {x y : Int32} : CM yX11_why cX11_why 3 (Option.some .int) 5 0 0 [.ref m, .int x, .int y] z n sh I L (Tl (aWhy (N) x y) z n sh I L m) := by
  subst hI
  apply sX11_why <;> assumption
set_option maxHeartbeats 4000000 in
set_option maxRecDepth 100000 in
theorem sX11_bids (hM : IsM n sh m) (hN : Cn (I (m + 1))) {x y : Int32} : CM yX11_bids cX11_bids 3 (Option.some .int) 4 0 0 [.ref m, .int x, .int y] z n sh I L (Tl (aBids (I (m + 1)) x y) z n sh I L m) := by
  refine CM.go [some (.ref m), some (.int x), some (.int y)] rfl rfl (Nat.le_of_ble_eq_true rfl) (fun X g q => ?_)
  refine aw_aload_n dX11_bids_0 rfl ?_
  refine aw_iload_n dX11_bids_1 rfl ?_
  refine aw_iload_n dX11_bids_2 rfl ?_
  refine aw_cV dX11_bids_3 kX11_253 mX11_areOnes (sX11_areOnes hM) (Nat.le_of_ble_eq_true rfl) hM.k ⟨by decide, rfl⟩ hM.b rfl rfl (Nat.le_of_ble_eq_true rfl) ⟨Nat.le_refl _, Nat.le_refl _⟩ ?_
  refine aw_if_eq (tgt := 30) dX11_bids_6 rfl (fun c6 => ?_) (fun c6 => ?_)
  · refine aw_aload_n dX11_bids_30 rfl ?_
    refine aw_iconst (v := 2) dX11_bids_31 rfl ?_
    refine aw_cV dX11_bids_32 kX11_186 mX11_refuse (sX11_refuse hM) (Nat.le_of_ble_eq_true rfl) hM.k ⟨by decide, rfl⟩ hM.b rfl rfl (Nat.le_of_ble_eq_true rfl) ⟨Nat.le_refl _, Nat.le_refl _⟩ ?_
    refine aw_iret q rfl dX11_bids_35 ⟨Nat.le_refl _, Nat.le_refl _⟩ ?_
    first
      | refine Tl.no ?_
        simp [aBids, bI0.mp c6]
      | simp -failIfUnchanged only [bI0, bI1] at c16
        refine Tl.ok ?_
        simp [aBids, f6, ep, c16, bI]
  · have f6 := bI1.mp c6
    obtain ⟨p, h, hpn, hhn, hp8, hh10, rfl, rfl, ep, eh⟩ := ones_ix hN f6
    refine aw_aload_n dX11_bids_9 rfl ?_
    refine aw_aload_n dX11_bids_10 rfl ?_
    refine aw_iload_n dX11_bids_11 rfl ?_
    refine aw_iload_n dX11_bids_12 rfl ?_
    refine aw_cV dX11_bids_13 kX11_234 mX11_isBid (sX11_isBid (p := p) hM rfl hp8) (Nat.le_of_ble_eq_true rfl) hM.k ⟨by decide, rfl⟩ hM.b rfl rfl (Nat.le_of_ble_eq_true rfl) ⟨Nat.le_refl _, Nat.le_refl _⟩ ?_
    refine aw_if_eq (tgt := 23) dX11_bids_16 rfl (fun c16 => ?_) (fun c16 => ?_)
    · refine aw_iconst (v := 0) dX11_bids_23 rfl ?_
      refine aw_cV dX11_bids_24 kX11_199 mX11_gives (sX11_gives hM) (Nat.le_of_ble_eq_true rfl) hM.k ⟨by decide, rfl⟩ hM.b rfl rfl (Nat.le_of_ble_eq_true rfl) ⟨Nat.le_refl _, Nat.le_refl _⟩ ?_
      refine aw_goto (tgt := 35) dX11_bids_27 rfl ?_
      refine aw_iret q rfl dX11_bids_35 ⟨Nat.le_refl _, Nat.le_refl _⟩ ?_
      first
        | refine Tl.no ?_
          simp [aBids, bI0.mp c6]
        | simp -failIfUnchanged only [bI0, bI1] at c16
          refine Tl.ok ?_
          simp [aBids, f6, ep, c16, bI]
    · refine aw_iconst (v := 1) dX11_bids_19 rfl ?_
      refine aw_goto (tgt := 24) dX11_bids_20 rfl ?_
      refine aw_cV dX11_bids_24 kX11_199 mX11_gives (sX11_gives hM) (Nat.le_of_ble_eq_true rfl) hM.k ⟨by decide, rfl⟩ hM.b rfl rfl (Nat.le_of_ble_eq_true rfl) ⟨Nat.le_refl _, Nat.le_refl _⟩ ?_
      refine aw_goto (tgt := 35) dX11_bids_27 rfl ?_
      refine aw_iret q rfl dX11_bids_35 ⟨Nat.le_refl _, Nat.le_refl _⟩ ?_
      first
        | refine Tl.no ?_
          simp [aBids, bI0.mp c6]
        | simp -failIfUnchanged only [bI0, bI1] at c16
          refine Tl.ok ?_
          simp [aBids, f6, ep, c16, bI]
theorem rX11_bids (hM : IsM n sh m) {N : Nat → Int32} (hI : I (m + 1) = N) (hN : Cn N) {x y : Int32} : CM yX11_bids cX11_bids 3 (Option.some .int) 4 0 0 [.ref m, .int x, .int y] z n sh I L (Tl (aBids (N) x y) z n sh I L m) := by
  subst hI
  apply sX11_bids <;> assumption
set_option maxHeartbeats 4000000 in
set_option maxRecDepth 100000 in
theorem sX11_isLocal (hM : IsM n sh m) (hN : Cn (I (m + 1))) {x : Int32} {h : Nat} (hx : x = nI h) (hh : h < 10) : CM yX11_isLocal cX11_isLocal 4 (Option.some .boolean) 2 0 0 [.ref m, .int x] z n sh I L (Pst (some (.int (bI (mLocal (I (m + 1)) h)))) z n sh I L) := by
  refine CM.go [some (.ref m), some (.int x), none, none] rfl rfl (Nat.le_of_ble_eq_true rfl) (fun X g q => ?_)
  by_cases hz : I (m + 1) 226 = 0
  · have e : mLocal (I (m + 1)) h = false := by simp [mLocal, hz]
    refine aw_aload_n dX11_isLocal_0 rfl ?_
    refine aw_getR (b := m + 1) dX11_isLocal_1 fX11_7 hM.k hM.b rfl hM.r0 ?_
    refine aw_sipush (v := 226) dX11_isLocal_4 rfl ?_
    refine aw_ialdN (k := 226) dX11_isLocal_7 hM.k0 hM.b0 hM.l0 rfl (by decide) (by decide) ?_
    refine aw_if_ne (tgt := 13) dX11_isLocal_8 rfl (fun c => absurd hz c) (fun _ => ?_)
    refine aw_iconst (v := 0) dX11_isLocal_11 rfl ?_
    refine aw_zret q rfl (by decide) dX11_isLocal_12 ⟨Nat.le_refl _, Nat.le_refl _⟩ ?_
    exact Pst.iv (by rw [e]; rfl)
  have loop : ∀ i, i ≤ nLe (I (m + 1)) → ∀ (acc : Int32), acc = 1 + isum (fun k => bB (decide (I (m + 1) (8 * lHo (I (m + 1)) k + 1) = I (m + 1) (8 * h + 1)))) i → AW X g RX11 cX11_isLocal 4 (2, 0, 0) (z, n, sh, 0, 0) (I) (L) 17 [some (.ref m), some (.int x), some (.int acc), some (.int (nI i))] [] := by
    refine up_loop (fun i hi ih acc ha => ?_)
    refine aw_iload_n dX11_isLocal_17 rfl ?_
    refine aw_aload_n dX11_isLocal_18 rfl ?_
    refine aw_getR (b := m + 1) dX11_isLocal_19 fX11_7 hM.k hM.b rfl hM.r0 ?_
    refine aw_sipush (v := 233) dX11_isLocal_22 rfl ?_
    refine aw_ialdN (k := 233) dX11_isLocal_25 hM.k0 hM.b0 hM.l0 rfl (by decide) (by decide) ?_
    refine aw_icmp_ge (tgt := 63) dX11_isLocal_26 rfl (fun c26 => ?_) (fun c26 => ?_)
    · have e := ge_t hN.l (by have := hN.l8; omega) hi c26
      refine aw_iload_n dX11_isLocal_63 rfl ?_
      refine aw_aload_n dX11_isLocal_64 rfl ?_
      refine aw_getR (b := m + 1) dX11_isLocal_65 fX11_7 hM.k hM.b rfl hM.r0 ?_
      refine aw_sipush (v := 226) dX11_isLocal_68 rfl ?_
      refine aw_ialdN (k := 226) dX11_isLocal_71 hM.k0 hM.b0 hM.l0 rfl (by decide) (by decide) ?_
      refine aw_irem dX11_isLocal_72 hz ?_
      refine aw_if_ne (tgt := 80) dX11_isLocal_73 rfl (fun c73 => ?_) (fun c73 => ?_)
      · refine aw_iconst (v := 0) dX11_isLocal_80 rfl ?_
        refine aw_zret q rfl (by decide) dX11_isLocal_81 ⟨Nat.le_refl _, Nat.le_refl _⟩ ?_
        refine Pst.iv ?_
        have e2 : acc = 1 + isum (fun k => bB (decide (I (m + 1) (8 * lHo (I (m + 1)) k + 1) = I (m + 1) (8 * h + 1)))) (nLe (I (m + 1))) := by rw [ha, e]
        rw [e2] at c73
        first
          | (have c74 : irem _ _ = 0 := c73; simp [bI, mLocal, hz, c74])
          | (have c74 : ¬ irem _ _ = 0 := c73; simp [bI, mLocal, hz, c74])
      · refine aw_iconst (v := 1) dX11_isLocal_76 rfl ?_
        refine aw_goto (tgt := 81) dX11_isLocal_77 rfl ?_
        refine aw_zret q rfl (by decide) dX11_isLocal_81 ⟨Nat.le_refl _, Nat.le_refl _⟩ ?_
        refine Pst.iv ?_
        have e2 : acc = 1 + isum (fun k => bB (decide (I (m + 1) (8 * lHo (I (m + 1)) k + 1) = I (m + 1) (8 * h + 1)))) (nLe (I (m + 1))) := by rw [ha, e]
        rw [e2] at c73
        first
          | (have c74 : irem _ _ = 0 := c73; simp [bI, mLocal, hz, c74])
          | (have c74 : ¬ irem _ _ = 0 := c73; simp [bI, mLocal, hz, c74])
    · have hlt := ge_f hN.l (by have := hN.l8; omega) hi c26
      refine aw_iload_n dX11_isLocal_29 rfl ?_
      refine aw_aload_n dX11_isLocal_30 rfl ?_
      refine aw_aload_n dX11_isLocal_31 rfl ?_
      refine aw_iload_n dX11_isLocal_32 rfl ?_
      refine aw_iconst (v := 1) dX11_isLocal_33 rfl ?_
      obtain ⟨j, hj, hlk⟩ := hN.lh hlt
      have hjc : lHo (I (m + 1)) i = j := by unfold lHo; rw [hlk]; exact nI_clamp (by omega)
      have h8 := hN.l8
      refine aw_cV dX11_isLocal_34 kX11_259 mX11_let0 (sX11_let0 (k := i) (w := 1) hM rfl rfl (by omega)) (Nat.le_of_ble_eq_true rfl) hM.k ⟨by decide, rfl⟩ hM.b rfl rfl (Nat.le_of_ble_eq_true rfl) ⟨Nat.le_refl _, Nat.le_refl _⟩ ?_
      refine aw_iconst (v := 1) dX11_isLocal_37 rfl ?_
      refine aw_cV dX11_isLocal_38 kX11_202 mX11_home0 (sX11_home0 (h := j) (w := 1) hM hlk rfl (by omega)) (Nat.le_of_ble_eq_true rfl) hM.k ⟨by decide, rfl⟩ hM.b rfl rfl (Nat.le_of_ble_eq_true rfl) ⟨Nat.le_refl _, Nat.le_refl _⟩ ?_
      refine aw_aload_n dX11_isLocal_41 rfl ?_
      refine aw_iload_n dX11_isLocal_42 rfl ?_
      refine aw_iconst (v := 1) dX11_isLocal_43 rfl ?_
      refine aw_cV dX11_isLocal_44 kX11_202 mX11_home0 (sX11_home0 (h := h) (w := 1) hM hx rfl (by omega)) (Nat.le_of_ble_eq_true rfl) hM.k ⟨by decide, rfl⟩ hM.b rfl rfl (Nat.le_of_ble_eq_true rfl) ⟨Nat.le_refl _, Nat.le_refl _⟩ ?_
      refine aw_icmp_ne (tgt := 54) dX11_isLocal_47 rfl (fun c47 => ?_) (fun c47 => ?_)
      · refine aw_iconst (v := 0) dX11_isLocal_54 rfl ?_
        refine aw_iadd dX11_isLocal_55 ?_
        refine aw_istore_n dX11_isLocal_56 (by decide) rfl ?_
        refine aw_iinc dX11_isLocal_57 rfl (ginc rfl) (by decide) rfl ?_
        refine aw_goto (tgt := 17) dX11_isLocal_60 rfl ?_
        refine ih hlt _ ?_
        rw [isum, ← Int32.add_assoc, ← ha]
        first
          | (rw [hlk] at c47; simp [bB, hjc, c47])
          | simp [bB, hjc, c47]
      · refine aw_iconst (v := 1) dX11_isLocal_50 rfl ?_
        refine aw_goto (tgt := 55) dX11_isLocal_51 rfl ?_
        refine aw_iadd dX11_isLocal_55 ?_
        refine aw_istore_n dX11_isLocal_56 (by decide) rfl ?_
        refine aw_iinc dX11_isLocal_57 rfl (ginc rfl) (by decide) rfl ?_
        refine aw_goto (tgt := 17) dX11_isLocal_60 rfl ?_
        refine ih hlt _ ?_
        rw [isum, ← Int32.add_assoc, ← ha]
        first
          | (rw [hlk] at c47; simp [bB, hjc, c47])
          | simp [bB, hjc, c47]
  refine aw_aload_n dX11_isLocal_0 rfl ?_
  refine aw_getR (b := m + 1) dX11_isLocal_1 fX11_7 hM.k hM.b rfl hM.r0 ?_
  refine aw_sipush (v := 226) dX11_isLocal_4 rfl ?_
  refine aw_ialdN (k := 226) dX11_isLocal_7 hM.k0 hM.b0 hM.l0 rfl (by decide) (by decide) ?_
  refine aw_if_ne (tgt := 13) dX11_isLocal_8 rfl (fun c8 => ?_) (fun c8 => ?_)
  · refine aw_iconst (v := 1) dX11_isLocal_13 rfl ?_
    refine aw_istore_n dX11_isLocal_14 (by decide) rfl ?_
    refine aw_iconst (v := 0) dX11_isLocal_15 rfl ?_
    refine aw_istore_n dX11_isLocal_16 (by decide) rfl ?_
    exact loop 0 (Nat.zero_le _) 1 rfl
  · exact absurd c8 hz
theorem rX11_isLocal (hM : IsM n sh m) {N : Nat → Int32} (hI : I (m + 1) = N) (hN : Cn N) {x : Int32} {h : Nat} (hx : x = nI h) (hh : h < 10) : CM yX11_isLocal cX11_isLocal 4 (Option.some .boolean) 2 0 0 [.ref m, .int x] z n sh I L (Pst (some (.int (bI (mLocal (N) h)))) z n sh I L) := by
  subst hI
  apply sX11_isLocal <;> assumption
set_option maxHeartbeats 4000000 in
set_option maxRecDepth 100000 in
theorem sX11_livedLets (hM : IsM n sh m) (hN : Cn (I (m + 1)))  : CM yX11_livedLets cX11_livedLets 3 (Option.some .int) 2 0 0 [.ref m] z n sh I L (Pst (some (.int (mLived (I (m + 1))))) z n sh I L) := by
  refine CM.go [some (.ref m), none, none] rfl rfl (Nat.le_of_ble_eq_true rfl) (fun X g q => ?_)
  have loop : ∀ i, i ≤ nLe (I (m + 1)) → ∀ (acc : Int32), acc = isum (fun k => I (m + 1) (234 + 8 * k + 5) >>> (1 &&& 31)) i → AW X g RX11 cX11_livedLets 3 (2, 0, 0) (z, n, sh, 0, 0) (I) (L) 4 [some (.ref m), some (.int acc), some (.int (nI i))] [] := by
    refine up_loop (fun i hi ih acc ha => ?_)
    have hb8 := hN.l8
    refine aw_iload_n dX11_livedLets_4 rfl ?_
    refine aw_aload_n dX11_livedLets_5 rfl ?_
    refine aw_getR (b := m + 1) dX11_livedLets_6 fX11_7 hM.k hM.b rfl hM.r0 ?_
    refine aw_sipush (v := 233) dX11_livedLets_9 rfl ?_
    refine aw_ialdN (k := 233) dX11_livedLets_12 hM.k0 hM.b0 hM.l0 rfl (by decide) (by decide) ?_
    refine aw_icmp_ge (tgt := 33) dX11_livedLets_13 rfl (fun c13 => ?_) (fun c13 => ?_)
    · have e := ge_t hN.l (by have := hN.l8; omega) hi c13
      refine aw_iload_n dX11_livedLets_33 rfl ?_
      refine aw_iret q rfl dX11_livedLets_34 ⟨Nat.le_refl _, Nat.le_refl _⟩ ?_
      exact Pst.iv (by rw [ha, e]; rfl)
    · have hlt := ge_f hN.l (by have := hN.l8; omega) hi c13
      refine aw_iload_n dX11_livedLets_16 rfl ?_
      refine aw_aload_n dX11_livedLets_17 rfl ?_
      refine aw_iload_n dX11_livedLets_18 rfl ?_
      refine aw_iconst (v := 5) dX11_livedLets_19 rfl ?_
      refine aw_cV dX11_livedLets_20 kX11_259 mX11_let0 (sX11_let0 (k := i) (w := 5) hM rfl rfl (by omega)) (Nat.le_of_ble_eq_true rfl) hM.k ⟨by decide, rfl⟩ hM.b rfl rfl (Nat.le_of_ble_eq_true rfl) ⟨Nat.le_refl _, Nat.le_refl _⟩ ?_
      refine aw_iconst (v := 1) dX11_livedLets_23 rfl ?_
      refine aw_ishr dX11_livedLets_24 ?_
      refine aw_iadd dX11_livedLets_25 ?_
      refine aw_istore_n dX11_livedLets_26 (by decide) rfl ?_
      refine aw_iinc dX11_livedLets_27 rfl (ginc rfl) (by decide) rfl ?_
      refine aw_goto (tgt := 4) dX11_livedLets_30 rfl ?_
      exact ih hlt _ (by rw [isum, ← ha])
  refine aw_iconst (v := 0) dX11_livedLets_0 rfl ?_
  refine aw_istore_n dX11_livedLets_1 (by decide) rfl ?_
  refine aw_iconst (v := 0) dX11_livedLets_2 rfl ?_
  refine aw_istore_n dX11_livedLets_3 (by decide) rfl ?_
  exact loop 0 (Nat.zero_le _) 0 rfl
theorem rX11_livedLets (hM : IsM n sh m) {N : Nat → Int32} (hI : I (m + 1) = N) (hN : Cn N)  : CM yX11_livedLets cX11_livedLets 3 (Option.some .int) 2 0 0 [.ref m] z n sh I L (Pst (some (.int (mLived (N)))) z n sh I L) := by
  subst hI
  apply sX11_livedLets <;> assumption
set_option maxHeartbeats 4000000 in
set_option maxRecDepth 100000 in
theorem sX11_isQuota (hM : IsM n sh m) (hN : Cn (I (m + 1)))  : CM yX11_isQuota cX11_isQuota 1 (Option.some .boolean) 3 0 0 [.ref m] z n sh I L (Pst (some (.int (bI (mQuota (I (m + 1)))))) z n sh I L) := by
  refine CM.go [some (.ref m)] rfl rfl (Nat.le_of_ble_eq_true rfl) (fun X g q => ?_)
  refine aw_bipush (v := 100) dX11_isQuota_0 rfl ?_
  refine aw_aload_n dX11_isQuota_2 rfl ?_
  refine aw_cV dX11_isQuota_3 kX11_262 mX11_livedLets (sX11_livedLets hM hN) (Nat.le_of_ble_eq_true rfl) hM.k ⟨by decide, rfl⟩ hM.b rfl rfl (Nat.le_of_ble_eq_true rfl) ⟨Nat.le_refl _, Nat.le_refl _⟩ ?_
  refine aw_imul dX11_isQuota_6 ?_
  refine aw_aload_n dX11_isQuota_7 rfl ?_
  refine aw_getR (b := m + 1) dX11_isQuota_8 fX11_7 hM.k hM.b rfl hM.r0 ?_
  refine aw_sipush (v := 227) dX11_isQuota_11 rfl ?_
  refine aw_ialdN (k := 227) dX11_isQuota_14 hM.k0 hM.b0 hM.l0 rfl (by decide) (by decide) ?_
  refine aw_aload_n dX11_isQuota_15 rfl ?_
  refine aw_getR (b := m + 1) dX11_isQuota_16 fX11_7 hM.k hM.b rfl hM.r0 ?_
  refine aw_sipush (v := 233) dX11_isQuota_19 rfl ?_
  refine aw_ialdN (k := 233) dX11_isQuota_22 hM.k0 hM.b0 hM.l0 rfl (by decide) (by decide) ?_
  refine aw_imul dX11_isQuota_23 ?_
  refine aw_icmp_ge (tgt := 31) dX11_isQuota_24 rfl (fun c24 => ?_) (fun c24 => ?_)
  · refine aw_iconst (v := 0) dX11_isQuota_31 rfl ?_
    refine aw_zret q rfl (by decide) dX11_isQuota_32 ⟨Nat.le_refl _, Nat.le_refl _⟩ ?_
    refine Pst.iv ?_
    first
      | simp [bI, mQuota, fa_of_nle c24]
      | simp [bI, mQuota, Int32.not_lt.mpr c24]
  · refine aw_iconst (v := 1) dX11_isQuota_27 rfl ?_
    refine aw_goto (tgt := 32) dX11_isQuota_28 rfl ?_
    refine aw_zret q rfl (by decide) dX11_isQuota_32 ⟨Nat.le_refl _, Nat.le_refl _⟩ ?_
    refine Pst.iv ?_
    first
      | simp [bI, mQuota, fa_of_nle c24]
      | simp [bI, mQuota, Int32.not_lt.mpr c24]
theorem rX11_isQuota (hM : IsM n sh m) {N : Nat → Int32} (hI : I (m + 1) = N) (hN : Cn N)  : CM yX11_isQuota cX11_isQuota 1 (Option.some .boolean) 3 0 0 [.ref m] z n sh I L (Pst (some (.int (bI (mQuota (N))))) z n sh I L) := by
  subst hI
  apply sX11_isQuota <;> assumption
set_option maxHeartbeats 4000000 in
set_option maxRecDepth 100000 in
theorem sX11_weight (hM : IsM n sh m) (hN : Cn (I (m + 1))) {x y bd : Int32} {p h : Nat} (hx : x = nI p) (hy : y = nI h) (hp : p < 8) (hh : h < 10) : CM yX11_weight cX11_weight 6 (Option.some .int) 4 0 0 [.ref m, .int x, .int y, .int bd] z n sh I L (Pst (some (.int (mWeight (I (m + 1)) p h bd))) z n sh I L) := by
  refine CM.go [some (.ref m), some (.int x), some (.int y), some (.int bd), none, none] rfl rfl (Nat.le_of_ble_eq_true rfl) (fun X g q => ?_)
  refine aw_aload_n dX11_weight_0 rfl ?_
  refine aw_iload_n dX11_weight_1 rfl ?_
  refine aw_cV dX11_weight_2 kX11_265 mX11_isLocal (sX11_isLocal (h := h) hM hN hy (by omega)) (Nat.le_of_ble_eq_true rfl) hM.k ⟨by decide, rfl⟩ hM.b rfl rfl (Nat.le_of_ble_eq_true rfl) ⟨Nat.le_refl _, Nat.le_refl _⟩ ?_
  refine aw_if_eq (tgt := 27) dX11_weight_5 rfl (fun c5 => ?_) (fun c5 => ?_)
  · refine aw_iconst (v := 0) dX11_weight_27 rfl ?_
    refine aw_istore dX11_weight_28 (by decide) rfl ?_
    refine aw_aload_n dX11_weight_30 rfl ?_
    refine aw_cV dX11_weight_31 kX11_268 mX11_isQuota (sX11_isQuota hM hN) (Nat.le_of_ble_eq_true rfl) hM.k ⟨by decide, rfl⟩ hM.b rfl rfl (Nat.le_of_ble_eq_true rfl) ⟨Nat.le_refl _, Nat.le_refl _⟩ ?_
    refine aw_if_eq (tgt := 51) dX11_weight_34 rfl (fun c34 => ?_) (fun c34 => ?_)
    · refine aw_iconst (v := 0) dX11_weight_51 rfl ?_
      refine aw_istore dX11_weight_52 (by decide) rfl ?_
      refine aw_iconst (v := 2) dX11_weight_54 rfl ?_
      refine aw_iload dX11_weight_55 rfl ?_
      refine aw_imul dX11_weight_57 ?_
      refine aw_iload dX11_weight_58 rfl ?_
      refine aw_iadd dX11_weight_60 ?_
      refine aw_iconst (v := 5) dX11_weight_61 rfl ?_
      refine aw_imul dX11_weight_62 ?_
      refine aw_iload_n dX11_weight_63 rfl ?_
      refine aw_iadd dX11_weight_64 ?_
      refine aw_sipush (v := 1000) dX11_weight_65 rfl ?_
      refine aw_imul dX11_weight_68 ?_
      refine aw_aload_n dX11_weight_69 rfl ?_
      refine aw_iload_n dX11_weight_70 rfl ?_
      refine aw_iconst (v := 3) dX11_weight_71 rfl ?_
      refine aw_cV dX11_weight_72 kX11_205 mX11_of (sX11_of (p := p) (w := 3) hM hx rfl (by omega)) (Nat.le_of_ble_eq_true rfl) hM.k ⟨by decide, rfl⟩ hM.b rfl rfl (Nat.le_of_ble_eq_true rfl) ⟨Nat.le_refl _, Nat.le_refl _⟩ ?_
      refine aw_iadd dX11_weight_75 ?_
      refine aw_bipush (v := 8) dX11_weight_76 rfl ?_
      refine aw_imul dX11_weight_78 ?_
      refine aw_iload_n dX11_weight_79 rfl ?_
      refine aw_iadd dX11_weight_80 ?_
      refine aw_iret q rfl dX11_weight_81 ⟨Nat.le_refl _, Nat.le_refl _⟩ ?_
      simp -failIfUnchanged only [bI0, bI1] at c5 c34
      refine Pst.iv ?_
      subst hx
      simp [mWeight, bB, c5, c34]
    · refine aw_aload_n dX11_weight_37 rfl ?_
      refine aw_iload_n dX11_weight_38 rfl ?_
      refine aw_iconst (v := 4) dX11_weight_39 rfl ?_
      refine aw_cV dX11_weight_40 kX11_205 mX11_of (sX11_of (p := p) (w := 4) hM hx rfl (by omega)) (Nat.le_of_ble_eq_true rfl) hM.k ⟨by decide, rfl⟩ hM.b rfl rfl (Nat.le_of_ble_eq_true rfl) ⟨Nat.le_refl _, Nat.le_refl _⟩ ?_
      refine aw_iconst (v := (-1)) dX11_weight_43 rfl ?_
      refine aw_icmp_ne (tgt := 51) dX11_weight_44 rfl (fun c44 => ?_) (fun c44 => ?_)
      · refine aw_iconst (v := 0) dX11_weight_51 rfl ?_
        refine aw_istore dX11_weight_52 (by decide) rfl ?_
        refine aw_iconst (v := 2) dX11_weight_54 rfl ?_
        refine aw_iload dX11_weight_55 rfl ?_
        refine aw_imul dX11_weight_57 ?_
        refine aw_iload dX11_weight_58 rfl ?_
        refine aw_iadd dX11_weight_60 ?_
        refine aw_iconst (v := 5) dX11_weight_61 rfl ?_
        refine aw_imul dX11_weight_62 ?_
        refine aw_iload_n dX11_weight_63 rfl ?_
        refine aw_iadd dX11_weight_64 ?_
        refine aw_sipush (v := 1000) dX11_weight_65 rfl ?_
        refine aw_imul dX11_weight_68 ?_
        refine aw_aload_n dX11_weight_69 rfl ?_
        refine aw_iload_n dX11_weight_70 rfl ?_
        refine aw_iconst (v := 3) dX11_weight_71 rfl ?_
        refine aw_cV dX11_weight_72 kX11_205 mX11_of (sX11_of (p := p) (w := 3) hM hx rfl (by omega)) (Nat.le_of_ble_eq_true rfl) hM.k ⟨by decide, rfl⟩ hM.b rfl rfl (Nat.le_of_ble_eq_true rfl) ⟨Nat.le_refl _, Nat.le_refl _⟩ ?_
        refine aw_iadd dX11_weight_75 ?_
        refine aw_bipush (v := 8) dX11_weight_76 rfl ?_
        refine aw_imul dX11_weight_78 ?_
        refine aw_iload_n dX11_weight_79 rfl ?_
        refine aw_iadd dX11_weight_80 ?_
        refine aw_iret q rfl dX11_weight_81 ⟨Nat.le_refl _, Nat.le_refl _⟩ ?_
        simp -failIfUnchanged only [bI0, bI1] at c5 c34 c44
        refine Pst.iv ?_
        subst hx
        simp [mWeight, bB, c5, c34, c44]
      · refine aw_iconst (v := 1) dX11_weight_47 rfl ?_
        refine aw_goto (tgt := 52) dX11_weight_48 rfl ?_
        refine aw_istore dX11_weight_52 (by decide) rfl ?_
        refine aw_iconst (v := 2) dX11_weight_54 rfl ?_
        refine aw_iload dX11_weight_55 rfl ?_
        refine aw_imul dX11_weight_57 ?_
        refine aw_iload dX11_weight_58 rfl ?_
        refine aw_iadd dX11_weight_60 ?_
        refine aw_iconst (v := 5) dX11_weight_61 rfl ?_
        refine aw_imul dX11_weight_62 ?_
        refine aw_iload_n dX11_weight_63 rfl ?_
        refine aw_iadd dX11_weight_64 ?_
        refine aw_sipush (v := 1000) dX11_weight_65 rfl ?_
        refine aw_imul dX11_weight_68 ?_
        refine aw_aload_n dX11_weight_69 rfl ?_
        refine aw_iload_n dX11_weight_70 rfl ?_
        refine aw_iconst (v := 3) dX11_weight_71 rfl ?_
        refine aw_cV dX11_weight_72 kX11_205 mX11_of (sX11_of (p := p) (w := 3) hM hx rfl (by omega)) (Nat.le_of_ble_eq_true rfl) hM.k ⟨by decide, rfl⟩ hM.b rfl rfl (Nat.le_of_ble_eq_true rfl) ⟨Nat.le_refl _, Nat.le_refl _⟩ ?_
        refine aw_iadd dX11_weight_75 ?_
        refine aw_bipush (v := 8) dX11_weight_76 rfl ?_
        refine aw_imul dX11_weight_78 ?_
        refine aw_iload_n dX11_weight_79 rfl ?_
        refine aw_iadd dX11_weight_80 ?_
        refine aw_iret q rfl dX11_weight_81 ⟨Nat.le_refl _, Nat.le_refl _⟩ ?_
        simp -failIfUnchanged only [bI0, bI1] at c5 c34 c44
        refine Pst.iv ?_
        subst hx
        simp [mWeight, bB, c5, c34, c44]
  · refine aw_aload_n dX11_weight_8 rfl ?_
    refine aw_iload_n dX11_weight_9 rfl ?_
    refine aw_iconst (v := 2) dX11_weight_10 rfl ?_
    refine aw_cV dX11_weight_11 kX11_205 mX11_of (sX11_of (p := p) (w := 2) hM hx rfl (by omega)) (Nat.le_of_ble_eq_true rfl) hM.k ⟨by decide, rfl⟩ hM.b rfl rfl (Nat.le_of_ble_eq_true rfl) ⟨Nat.le_refl _, Nat.le_refl _⟩ ?_
    refine aw_aload_n dX11_weight_14 rfl ?_
    refine aw_iload_n dX11_weight_15 rfl ?_
    refine aw_iconst (v := 1) dX11_weight_16 rfl ?_
    refine aw_cV dX11_weight_17 kX11_202 mX11_home0 (sX11_home0 (h := h) (w := 1) hM hy rfl (by omega)) (Nat.le_of_ble_eq_true rfl) hM.k ⟨by decide, rfl⟩ hM.b rfl rfl (Nat.le_of_ble_eq_true rfl) ⟨Nat.le_refl _, Nat.le_refl _⟩ ?_
    refine aw_icmp_eq (tgt := 27) dX11_weight_20 rfl (fun c20 => ?_) (fun c20 => ?_)
    · refine aw_iconst (v := 0) dX11_weight_27 rfl ?_
      refine aw_istore dX11_weight_28 (by decide) rfl ?_
      refine aw_aload_n dX11_weight_30 rfl ?_
      refine aw_cV dX11_weight_31 kX11_268 mX11_isQuota (sX11_isQuota hM hN) (Nat.le_of_ble_eq_true rfl) hM.k ⟨by decide, rfl⟩ hM.b rfl rfl (Nat.le_of_ble_eq_true rfl) ⟨Nat.le_refl _, Nat.le_refl _⟩ ?_
      refine aw_if_eq (tgt := 51) dX11_weight_34 rfl (fun c34 => ?_) (fun c34 => ?_)
      · refine aw_iconst (v := 0) dX11_weight_51 rfl ?_
        refine aw_istore dX11_weight_52 (by decide) rfl ?_
        refine aw_iconst (v := 2) dX11_weight_54 rfl ?_
        refine aw_iload dX11_weight_55 rfl ?_
        refine aw_imul dX11_weight_57 ?_
        refine aw_iload dX11_weight_58 rfl ?_
        refine aw_iadd dX11_weight_60 ?_
        refine aw_iconst (v := 5) dX11_weight_61 rfl ?_
        refine aw_imul dX11_weight_62 ?_
        refine aw_iload_n dX11_weight_63 rfl ?_
        refine aw_iadd dX11_weight_64 ?_
        refine aw_sipush (v := 1000) dX11_weight_65 rfl ?_
        refine aw_imul dX11_weight_68 ?_
        refine aw_aload_n dX11_weight_69 rfl ?_
        refine aw_iload_n dX11_weight_70 rfl ?_
        refine aw_iconst (v := 3) dX11_weight_71 rfl ?_
        refine aw_cV dX11_weight_72 kX11_205 mX11_of (sX11_of (p := p) (w := 3) hM hx rfl (by omega)) (Nat.le_of_ble_eq_true rfl) hM.k ⟨by decide, rfl⟩ hM.b rfl rfl (Nat.le_of_ble_eq_true rfl) ⟨Nat.le_refl _, Nat.le_refl _⟩ ?_
        refine aw_iadd dX11_weight_75 ?_
        refine aw_bipush (v := 8) dX11_weight_76 rfl ?_
        refine aw_imul dX11_weight_78 ?_
        refine aw_iload_n dX11_weight_79 rfl ?_
        refine aw_iadd dX11_weight_80 ?_
        refine aw_iret q rfl dX11_weight_81 ⟨Nat.le_refl _, Nat.le_refl _⟩ ?_
        simp -failIfUnchanged only [bI0, bI1] at c5 c20 c34
        refine Pst.iv ?_
        subst hx
        simp [mWeight, bB, c5, c20, c34]
      · refine aw_aload_n dX11_weight_37 rfl ?_
        refine aw_iload_n dX11_weight_38 rfl ?_
        refine aw_iconst (v := 4) dX11_weight_39 rfl ?_
        refine aw_cV dX11_weight_40 kX11_205 mX11_of (sX11_of (p := p) (w := 4) hM hx rfl (by omega)) (Nat.le_of_ble_eq_true rfl) hM.k ⟨by decide, rfl⟩ hM.b rfl rfl (Nat.le_of_ble_eq_true rfl) ⟨Nat.le_refl _, Nat.le_refl _⟩ ?_
        refine aw_iconst (v := (-1)) dX11_weight_43 rfl ?_
        refine aw_icmp_ne (tgt := 51) dX11_weight_44 rfl (fun c44 => ?_) (fun c44 => ?_)
        · refine aw_iconst (v := 0) dX11_weight_51 rfl ?_
          refine aw_istore dX11_weight_52 (by decide) rfl ?_
          refine aw_iconst (v := 2) dX11_weight_54 rfl ?_
          refine aw_iload dX11_weight_55 rfl ?_
          refine aw_imul dX11_weight_57 ?_
          refine aw_iload dX11_weight_58 rfl ?_
          refine aw_iadd dX11_weight_60 ?_
          refine aw_iconst (v := 5) dX11_weight_61 rfl ?_
          refine aw_imul dX11_weight_62 ?_
          refine aw_iload_n dX11_weight_63 rfl ?_
          refine aw_iadd dX11_weight_64 ?_
          refine aw_sipush (v := 1000) dX11_weight_65 rfl ?_
          refine aw_imul dX11_weight_68 ?_
          refine aw_aload_n dX11_weight_69 rfl ?_
          refine aw_iload_n dX11_weight_70 rfl ?_
          refine aw_iconst (v := 3) dX11_weight_71 rfl ?_
          refine aw_cV dX11_weight_72 kX11_205 mX11_of (sX11_of (p := p) (w := 3) hM hx rfl (by omega)) (Nat.le_of_ble_eq_true rfl) hM.k ⟨by decide, rfl⟩ hM.b rfl rfl (Nat.le_of_ble_eq_true rfl) ⟨Nat.le_refl _, Nat.le_refl _⟩ ?_
          refine aw_iadd dX11_weight_75 ?_
          refine aw_bipush (v := 8) dX11_weight_76 rfl ?_
          refine aw_imul dX11_weight_78 ?_
          refine aw_iload_n dX11_weight_79 rfl ?_
          refine aw_iadd dX11_weight_80 ?_
          refine aw_iret q rfl dX11_weight_81 ⟨Nat.le_refl _, Nat.le_refl _⟩ ?_
          simp -failIfUnchanged only [bI0, bI1] at c5 c20 c34 c44
          refine Pst.iv ?_
          subst hx
          simp [mWeight, bB, c5, c20, c34, c44]
        · refine aw_iconst (v := 1) dX11_weight_47 rfl ?_
          refine aw_goto (tgt := 52) dX11_weight_48 rfl ?_
          refine aw_istore dX11_weight_52 (by decide) rfl ?_
          refine aw_iconst (v := 2) dX11_weight_54 rfl ?_
          refine aw_iload dX11_weight_55 rfl ?_
          refine aw_imul dX11_weight_57 ?_
          refine aw_iload dX11_weight_58 rfl ?_
          refine aw_iadd dX11_weight_60 ?_
          refine aw_iconst (v := 5) dX11_weight_61 rfl ?_
          refine aw_imul dX11_weight_62 ?_
          refine aw_iload_n dX11_weight_63 rfl ?_
          refine aw_iadd dX11_weight_64 ?_
          refine aw_sipush (v := 1000) dX11_weight_65 rfl ?_
          refine aw_imul dX11_weight_68 ?_
          refine aw_aload_n dX11_weight_69 rfl ?_
          refine aw_iload_n dX11_weight_70 rfl ?_
          refine aw_iconst (v := 3) dX11_weight_71 rfl ?_
          refine aw_cV dX11_weight_72 kX11_205 mX11_of (sX11_of (p := p) (w := 3) hM hx rfl (by omega)) (Nat.le_of_ble_eq_true rfl) hM.k ⟨by decide, rfl⟩ hM.b rfl rfl (Nat.le_of_ble_eq_true rfl) ⟨Nat.le_refl _, Nat.le_refl _⟩ ?_
          refine aw_iadd dX11_weight_75 ?_
          refine aw_bipush (v := 8) dX11_weight_76 rfl ?_
          refine aw_imul dX11_weight_78 ?_
          refine aw_iload_n dX11_weight_79 rfl ?_
          refine aw_iadd dX11_weight_80 ?_
          refine aw_iret q rfl dX11_weight_81 ⟨Nat.le_refl _, Nat.le_refl _⟩ ?_
          simp -failIfUnchanged only [bI0, bI1] at c5 c20 c34 c44
          refine Pst.iv ?_
          subst hx
          simp [mWeight, bB, c5, c20, c34, c44]
    · refine aw_iconst (v := 1) dX11_weight_23 rfl ?_
      refine aw_goto (tgt := 28) dX11_weight_24 rfl ?_
      refine aw_istore dX11_weight_28 (by decide) rfl ?_
      refine aw_aload_n dX11_weight_30 rfl ?_
      refine aw_cV dX11_weight_31 kX11_268 mX11_isQuota (sX11_isQuota hM hN) (Nat.le_of_ble_eq_true rfl) hM.k ⟨by decide, rfl⟩ hM.b rfl rfl (Nat.le_of_ble_eq_true rfl) ⟨Nat.le_refl _, Nat.le_refl _⟩ ?_
      refine aw_if_eq (tgt := 51) dX11_weight_34 rfl (fun c34 => ?_) (fun c34 => ?_)
      · refine aw_iconst (v := 0) dX11_weight_51 rfl ?_
        refine aw_istore dX11_weight_52 (by decide) rfl ?_
        refine aw_iconst (v := 2) dX11_weight_54 rfl ?_
        refine aw_iload dX11_weight_55 rfl ?_
        refine aw_imul dX11_weight_57 ?_
        refine aw_iload dX11_weight_58 rfl ?_
        refine aw_iadd dX11_weight_60 ?_
        refine aw_iconst (v := 5) dX11_weight_61 rfl ?_
        refine aw_imul dX11_weight_62 ?_
        refine aw_iload_n dX11_weight_63 rfl ?_
        refine aw_iadd dX11_weight_64 ?_
        refine aw_sipush (v := 1000) dX11_weight_65 rfl ?_
        refine aw_imul dX11_weight_68 ?_
        refine aw_aload_n dX11_weight_69 rfl ?_
        refine aw_iload_n dX11_weight_70 rfl ?_
        refine aw_iconst (v := 3) dX11_weight_71 rfl ?_
        refine aw_cV dX11_weight_72 kX11_205 mX11_of (sX11_of (p := p) (w := 3) hM hx rfl (by omega)) (Nat.le_of_ble_eq_true rfl) hM.k ⟨by decide, rfl⟩ hM.b rfl rfl (Nat.le_of_ble_eq_true rfl) ⟨Nat.le_refl _, Nat.le_refl _⟩ ?_
        refine aw_iadd dX11_weight_75 ?_
        refine aw_bipush (v := 8) dX11_weight_76 rfl ?_
        refine aw_imul dX11_weight_78 ?_
        refine aw_iload_n dX11_weight_79 rfl ?_
        refine aw_iadd dX11_weight_80 ?_
        refine aw_iret q rfl dX11_weight_81 ⟨Nat.le_refl _, Nat.le_refl _⟩ ?_
        simp -failIfUnchanged only [bI0, bI1] at c5 c20 c34
        refine Pst.iv ?_
        subst hx
        simp [mWeight, bB, c5, c20, c34]
      · refine aw_aload_n dX11_weight_37 rfl ?_
        refine aw_iload_n dX11_weight_38 rfl ?_
        refine aw_iconst (v := 4) dX11_weight_39 rfl ?_
        refine aw_cV dX11_weight_40 kX11_205 mX11_of (sX11_of (p := p) (w := 4) hM hx rfl (by omega)) (Nat.le_of_ble_eq_true rfl) hM.k ⟨by decide, rfl⟩ hM.b rfl rfl (Nat.le_of_ble_eq_true rfl) ⟨Nat.le_refl _, Nat.le_refl _⟩ ?_
        refine aw_iconst (v := (-1)) dX11_weight_43 rfl ?_
        refine aw_icmp_ne (tgt := 51) dX11_weight_44 rfl (fun c44 => ?_) (fun c44 => ?_)
        · refine aw_iconst (v := 0) dX11_weight_51 rfl ?_
          refine aw_istore dX11_weight_52 (by decide) rfl ?_
          refine aw_iconst (v := 2) dX11_weight_54 rfl ?_
          refine aw_iload dX11_weight_55 rfl ?_
          refine aw_imul dX11_weight_57 ?_
          refine aw_iload dX11_weight_58 rfl ?_
          refine aw_iadd dX11_weight_60 ?_
          refine aw_iconst (v := 5) dX11_weight_61 rfl ?_
          refine aw_imul dX11_weight_62 ?_
          refine aw_iload_n dX11_weight_63 rfl ?_
          refine aw_iadd dX11_weight_64 ?_
          refine aw_sipush (v := 1000) dX11_weight_65 rfl ?_
          refine aw_imul dX11_weight_68 ?_
          refine aw_aload_n dX11_weight_69 rfl ?_
          refine aw_iload_n dX11_weight_70 rfl ?_
          refine aw_iconst (v := 3) dX11_weight_71 rfl ?_
          refine aw_cV dX11_weight_72 kX11_205 mX11_of (sX11_of (p := p) (w := 3) hM hx rfl (by omega)) (Nat.le_of_ble_eq_true rfl) hM.k ⟨by decide, rfl⟩ hM.b rfl rfl (Nat.le_of_ble_eq_true rfl) ⟨Nat.le_refl _, Nat.le_refl _⟩ ?_
          refine aw_iadd dX11_weight_75 ?_
          refine aw_bipush (v := 8) dX11_weight_76 rfl ?_
          refine aw_imul dX11_weight_78 ?_
          refine aw_iload_n dX11_weight_79 rfl ?_
          refine aw_iadd dX11_weight_80 ?_
          refine aw_iret q rfl dX11_weight_81 ⟨Nat.le_refl _, Nat.le_refl _⟩ ?_
          simp -failIfUnchanged only [bI0, bI1] at c5 c20 c34 c44
          refine Pst.iv ?_
          subst hx
          simp [mWeight, bB, c5, c20, c34, c44]
        · refine aw_iconst (v := 1) dX11_weight_47 rfl ?_
          refine aw_goto (tgt := 52) dX11_weight_48 rfl ?_
          refine aw_istore dX11_weight_52 (by decide) rfl ?_
          refine aw_iconst (v := 2) dX11_weight_54 rfl ?_
          refine aw_iload dX11_weight_55 rfl ?_
          refine aw_imul dX11_weight_57 ?_
          refine aw_iload dX11_weight_58 rfl ?_
          refine aw_iadd dX11_weight_60 ?_
          refine aw_iconst (v := 5) dX11_weight_61 rfl ?_
          refine aw_imul dX11_weight_62 ?_
          refine aw_iload_n dX11_weight_63 rfl ?_
          refine aw_iadd dX11_weight_64 ?_
          refine aw_sipush (v := 1000) dX11_weight_65 rfl ?_
          refine aw_imul dX11_weight_68 ?_
          refine aw_aload_n dX11_weight_69 rfl ?_
          refine aw_iload_n dX11_weight_70 rfl ?_
          refine aw_iconst (v := 3) dX11_weight_71 rfl ?_
          refine aw_cV dX11_weight_72 kX11_205 mX11_of (sX11_of (p := p) (w := 3) hM hx rfl (by omega)) (Nat.le_of_ble_eq_true rfl) hM.k ⟨by decide, rfl⟩ hM.b rfl rfl (Nat.le_of_ble_eq_true rfl) ⟨Nat.le_refl _, Nat.le_refl _⟩ ?_
          refine aw_iadd dX11_weight_75 ?_
          refine aw_bipush (v := 8) dX11_weight_76 rfl ?_
          refine aw_imul dX11_weight_78 ?_
          refine aw_iload_n dX11_weight_79 rfl ?_
          refine aw_iadd dX11_weight_80 ?_
          refine aw_iret q rfl dX11_weight_81 ⟨Nat.le_refl _, Nat.le_refl _⟩ ?_
          simp -failIfUnchanged only [bI0, bI1] at c5 c20 c34 c44
          refine Pst.iv ?_
          subst hx
          simp [mWeight, bB, c5, c20, c34, c44]
theorem rX11_weight (hM : IsM n sh m) {N : Nat → Int32} (hI : I (m + 1) = N) (hN : Cn N) {x y bd : Int32} {p h : Nat} (hx : x = nI p) (hy : y = nI h) (hp : p < 8) (hh : h < 10) : CM yX11_weight cX11_weight 6 (Option.some .int) 4 0 0 [.ref m, .int x, .int y, .int bd] z n sh I L (Pst (some (.int (mWeight (N) p h bd))) z n sh I L) := by
  subst hI
  apply sX11_weight <;> assumption
set_option maxHeartbeats 4000000 in
set_option maxRecDepth 100000 in
theorem sX11_weight_ (hM : IsM n sh m) (hN : Cn (I (m + 1))) {x y : Int32} {p h : Nat} (hx : x = nI p) (hy : y = nI h) (hp : p < 8) (hh : h < 10) : CM yX11_weight_ cX11_weight_ 3 (Option.some .int) 5 0 0 [.ref m, .int x, .int y] z n sh I L (Pst (some (.int (mW (I (m + 1)) p h))) z n sh I L) := by
  refine CM.go [some (.ref m), some (.int x), some (.int y)] rfl rfl (Nat.le_of_ble_eq_true rfl) (fun X g q => ?_)
  refine aw_aload_n dX11_weight__0 rfl ?_
  refine aw_iload_n dX11_weight__1 rfl ?_
  refine aw_iload_n dX11_weight__2 rfl ?_
  refine aw_aload_n dX11_weight__3 rfl ?_
  refine aw_iload_n dX11_weight__4 rfl ?_
  refine aw_cV dX11_weight__5 kX11_247 mX11_bandNow (sX11_bandNow (p := p) hM hx (by omega) hN.age) (Nat.le_of_ble_eq_true rfl) hM.k ⟨by decide, rfl⟩ hM.b rfl rfl (Nat.le_of_ble_eq_true rfl) ⟨Nat.le_refl _, Nat.le_refl _⟩ ?_
  refine aw_cV dX11_weight__8 kX11_271 mX11_weight (sX11_weight (p := p) (h := h) hM hN hx hy (by omega) (by omega)) (Nat.le_of_ble_eq_true rfl) hM.k ⟨by decide, rfl⟩ hM.b rfl rfl (Nat.le_of_ble_eq_true rfl) ⟨Nat.le_refl _, Nat.le_refl _⟩ ?_
  refine aw_iret q rfl dX11_weight__11 ⟨Nat.le_refl _, Nat.le_refl _⟩ ?_
  exact Pst.rf
theorem rX11_weight_ (hM : IsM n sh m) {N : Nat → Int32} (hI : I (m + 1) = N) (hN : Cn N) {x y : Int32} {p h : Nat} (hx : x = nI p) (hy : y = nI h) (hp : p < 8) (hh : h < 10) : CM yX11_weight_ cX11_weight_ 3 (Option.some .int) 5 0 0 [.ref m, .int x, .int y] z n sh I L (Pst (some (.int (mW (N) p h))) z n sh I L) := by
  subst hI
  apply sX11_weight_ <;> assumption
end RefS
