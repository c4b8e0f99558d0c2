/-! the class: lots, envy, names -/
theorem could_bit {N : Nat → Int32} {h i : Nat} (h8 : nPo N ≤ 8) (hi : i < nPo N) : iset (fun p => mCould N p h) (nPo N) &&& nI (2 ^ i) = 0 ↔ mCould N i h = false := by
  rw [iset_and h8 (by omega)]
  have := bt_could (h := h) h8 hi
  unfold mAllC at this
  rw [this]
  simp
theorem lS_t {N : Nat → Int32} {h i : Nat} (e : mCould N i h = true) : lS N h (i + 1) = lS N h i + wdN N i := by
  show lS N h i + (if mCould N i h then wdN N i else 0) = _
  rw [e]
  rfl
theorem lS_f {N : Nat → Int32} {h i : Nat} (e : mCould N i h = false) : lS N h (i + 1) = lS N h i := by
  show lS N h i + (if mCould N i h then wdN N i else 0) = _
  rw [e]
  rfl
/-- homes lived in are there -/
def HoO (N : Nat → Int32) : Prop := ∀ p, p < nPo N → N (80 + 18 * p + 4) = -1 ∨ ∃ h, h < nHo N ∧ N (80 + 18 * p + 4) = nI h
/-- the first partner of one, of a later number -/
def cPar (N : Nat → Int32) (p : Nat) : Option Nat := if fa_first (fun q => decide (p < q) && envP N p q) (nPo N) < nPo N then some (fa_first (fun q => decide (p < q) && envP N p q) (nPo N)) else none
def cEnv (N : Nat → Int32) : Option Nat := if fa_first (fun p => (cPar N p).isSome) (nPo N) < nPo N then some (fa_first (fun p => (cPar N p).isSome) (nPo N)) else none
def cPE (N : Nat → Int32) : Option Nat := match cEnv N with
  | none => none
  | some p => cPar N p
/-- how many couples -/
def cCI (N : Nat → Int32) (p : Nat) : Nat → Nat
  | 0 => 0
  | q + 1 => cCI N p q + (if p < q ∧ envP N p q = true then 1 else 0)
def cCO (N : Nat → Int32) : Nat → Nat
  | 0 => 0
  | p + 1 => cCO N p + cCI N p (nPo N)
theorem cCI_le {N : Nat → Int32} {p : Nat} : ∀ q, cCI N p q ≤ q
  | 0 => Nat.le_refl 0
  | q + 1 => by
    have := cCI_le (N := N) (p := p) q
    rw [cCI]
    split <;> omega
theorem cCI_0 {N : Nat → Int32} {p : Nat} : ∀ q, q ≤ p + 1 → cCI N p q = 0
  | 0, _ => rfl
  | q + 1, h => by
    rw [cCI, cCI_0 q (by omega), if_neg (by omega)]
theorem from_m1 {x : Int32} : mFrom (-1) 0 x = false := by
  unfold mFrom
  rw [decide_eq_false (by decide)]
  rfl
section ClsS
variable {z n b : Nat} {sh : Shp} {I : MI} {L : ML} {N : Nat → Int32} {Q : Nat → Int64}
set_option maxHeartbeats 4000000 in
set_option maxRecDepth 100000 in
theorem sX7_lotsOf (hS : IsS n sh b) (hC : CtS I L b N Q) (hO : Ok N) {p : Nat} (hp : p < nPo N)  : CM yX7_lotsOf cX7_lotsOf 2 (Option.some .int) 2 0 0 [.ref b, .ref (b + 13 + 2 * p)] z n sh I L (Pst (some (.int (mWaited N p))) z n sh I L) := by
  refine CM.go [some (.ref b), some (.ref (b + 13 + 2 * p))] rfl rfl (Nat.le_of_ble_eq_true rfl) (fun X g q => ?_)
  have hN := hO.1
  have hR := hO.2.1
  have hB := hO.2.2.1
  have hE := hO.2.2.2
  have h8 := hN.p8
  have h10 := hN.h10
  refine aw_iconst (v := 1) dX7_lotsOf_0 rfl ?_
  refine aw_aload_n dX7_lotsOf_1 rfl ?_
  refine aw_aload_n dX7_lotsOf_2 rfl ?_
  refine aw_cV dX7_lotsOf_3 kX7_157 mX7_waited (sX7_waited hS hC hO hp) (Nat.le_of_ble_eq_true rfl) hS.k ⟨by decide, rfl⟩ hS.b0 rfl rfl (Nat.le_of_ble_eq_true rfl) ⟨Nat.le_refl _, Nat.le_refl _⟩ ?_
  refine aw_bipush (v := 7) dX7_lotsOf_6 rfl ?_
  refine aw_idiv dX7_lotsOf_8 (by decide) ?_
  refine aw_mmax dX7_lotsOf_9 kX7_126 (Nat.le_of_ble_eq_true rfl) (Nat.le_of_ble_eq_true rfl) ⟨Nat.le_refl _, Nat.le_refl _⟩ ?_
  refine aw_iret q rfl dX7_lotsOf_12 ⟨Nat.le_refl _, Nat.le_refl _⟩ ?_
  exact Pst.rf
set_option maxHeartbeats 4000000 in
set_option maxRecDepth 100000 in
theorem sX7_drawn (hS : IsS n sh b) (hC : CtS I L b N Q) (hO : Ok N) {h : Nat} (hh : h < nHo N) {x : Int32} {u : Nat} (hx : x = nI u) (hu : u < 65537)  : CM yX7_drawn cX7_drawn 7 (Option.some (.object "HomesQueue$House")) 5 0 0 [.ref b, .ref (b + 2 + h), .int x] z n sh I L (Pst (some (oH b (if lS N h (nPo N) = 0 then none else some (fa_first (fun p => decide ((u % lS N h (nPo N)) < lS N h (p + 1))) (nPo N))))) z n sh I L) := by
  refine CM.go [some (.ref b), some (.ref (b + 2 + h)), some (.int x), none, none, none, none] rfl rfl (Nat.le_of_ble_eq_true rfl) (fun X g q => ?_)
  have hN := hO.1
  have hR := hO.2.1
  have hB := hO.2.2.1
  have hE := hO.2.2.2
  have h8 := hN.p8
  have h10 := hN.h10
  have hle8 := lS_le (h := h) hR (nPo N) (Nat.le_refl _)
  have l2 : 0 < lS N h (nPo N) → ∀ i, i ≤ nPo N → lS N h i ≤ (u % lS N h (nPo N)) → fa_first (fun p => decide ((u % lS N h (nPo N)) < lS N h (p + 1))) i = i → AW X g RX7 cX7_drawn 7 (5, 0, 0) (z, n, sh, 0, 0) (I) (L) 82 [some (.ref b), some (.ref (b + 2 + h)), some (.int x), some (.int (iset (fun p => mCould N p h) (nPo N))), some (.int (nI (lS N h (nPo N)))), some (.int (nI ((u % lS N h (nPo N)) - lS N h i))), some (.int (nI i))] [] := by
    intro hpos
    refine up_loop (fun i hi ih hle hfi => ?_)
    have hle8 := lS_le (h := h) hR (nPo N) (Nat.le_refl _)
    refine aw_iload dX7_drawn_82 rfl ?_
    refine aw_aload_n dX7_drawn_84 rfl ?_
    refine aw_getI dX7_drawn_85 fX7_62 hS.k hS.b0 rfl ?_
    refine AW.top (hC.np.trans hN.p) ?_
    refine aw_icmp_ge (tgt := 141) dX7_drawn_88 rfl (fun c88 => ?_) (fun c88 => ?_)
    · have e := ge_t rfl (by omega) hi c88
      subst e
      exact absurd (Nat.mod_lt u hpos) (by omega)
    · have hlt := ge_f rfl (by omega) hi c88
      obtain ⟨w1, w2, w3⟩ := wdN_n hR hlt
      have hbnd := lS_le (h := h) hR i hi
      have hrl := Nat.mod_lt u hpos
      refine aw_iload_n dX7_drawn_91 rfl ?_
      refine aw_aload_n dX7_drawn_92 rfl ?_
      refine aw_getR (b := b + 12) dX7_drawn_93 fX7_22 hS.k hS.b0 rfl hS.r1 ?_
      refine aw_iload dX7_drawn_96 rfl ?_
      refine aw_houses (p := i) hS rfl (by omega) dX7_drawn_98 ?_
      refine aw_getI dX7_drawn_99 fX7_103 (hS.po (by omega)) (hS.pb (by omega)) rfl ?_
      refine AW.top (hC.pi (by omega)) ?_
      refine aw_iand dX7_drawn_102 ?_
      refine aw_if_eq (tgt := 135) dX7_drawn_103 rfl (fun c103 => ?_) (fun c103 => ?_)
      · have f9 := (could_bit h8 hlt).mp c103
        refine aw_iinc dX7_drawn_135 rfl (ginc rfl) (by decide) rfl ?_
        refine aw_goto (tgt := 82) dX7_drawn_138 rfl ?_
        have e9 := lS_f f9
        have := ih hlt
        rw [e9] at this
        exact this hle (fa_first_no1 hfi (by simp only [decide_eq_true_eq]; rw [e9]; omega))
      · have f9 : mCould N i h = true := by
          cases hb : mCould N i h with
          | true => rfl
          | false => exact absurd ((could_bit h8 hlt).mpr hb) c103
        refine aw_iload dX7_drawn_106 rfl ?_
        refine aw_aload_n dX7_drawn_108 rfl ?_
        refine aw_aload_n dX7_drawn_109 rfl ?_
        refine aw_getR (b := b + 12) dX7_drawn_110 fX7_22 hS.k hS.b0 rfl hS.r1 ?_
        refine aw_iload dX7_drawn_113 rfl ?_
        refine aw_houses (p := i) hS rfl (by omega) dX7_drawn_115 ?_
        refine aw_cV dX7_drawn_116 kX7_294 mX7_lotsOf (sX7_lotsOf hS hC hO hlt) (Nat.le_of_ble_eq_true rfl) hS.k ⟨by decide, rfl⟩ hS.b0 rfl rfl (Nat.le_of_ble_eq_true rfl) ⟨Nat.le_refl _, Nat.le_refl _⟩ ?_
        refine AW.top w1 ?_
        refine aw_isub dX7_drawn_119 ?_
        refine aw_istore dX7_drawn_120 (by decide) rfl ?_
        refine aw_iload dX7_drawn_122 rfl ?_
        refine aw_if_ge (tgt := 135) dX7_drawn_124 rfl (fun c124 => ?_) (fun c124 => ?_)
        · have hw : wdN N i ≤ (u % lS N h (nPo N)) - lS N h i := by
            apply Classical.byContradiction
            intro q
            exact absurd (pk_sneg (a := (u % lS N h (nPo N)) - lS N h i) (b := wdN N i) (by omega) (by omega)) (Int32.not_lt.mpr c124)
          refine AW.mem rfl ?_
          rw [pk_sub hw]
          refine aw_iinc dX7_drawn_135 rfl (ginc rfl) (by decide) rfl ?_
          refine aw_goto (tgt := 82) dX7_drawn_138 rfl ?_
          have e9 := lS_t f9
          have := ih hlt
          rw [e9, show (u % lS N h (nPo N)) - (lS N h i + wdN N i) = (u % lS N h (nPo N)) - lS N h i - wdN N i by omega] at this
          exact this (by omega) (fa_first_no1 hfi (by simp only [decide_eq_true_eq]; rw [e9]; omega))
        · have hw : (u % lS N h (nPo N)) - lS N h i < wdN N i := by
            apply Classical.byContradiction
            intro q
            rw [pk_sub (by omega)] at c124
            exact c124 (nI_pos' (by omega))
          refine aw_aload_n dX7_drawn_127 rfl ?_
          refine aw_getR (b := b + 12) dX7_drawn_128 fX7_22 hS.k hS.b0 rfl hS.r1 ?_
          refine aw_iload dX7_drawn_131 rfl ?_
          refine aw_houses (p := i) hS rfl (by omega) dX7_drawn_133 ?_
          refine aw_aret q rfl (Or.inr ⟨_, rfl⟩) dX7_drawn_134 ⟨Nat.le_refl _, Nat.le_refl _⟩ ?_
          have e9 : fa_first (fun p => decide ((u % lS N h (nPo N)) < lS N h (p + 1))) (nPo N) = i := fa_first_yes1 hfi (by simp only [decide_eq_true_eq]; rw [lS_t f9]; omega) hlt
          refine ⟨?_, rfl, rfl, rfl, rfl, rfl⟩
          rw [if_neg (by omega), e9]
          rfl
  have loop : ∀ i, i ≤ nPo N → AW X g RX7 cX7_drawn 7 (5, 0, 0) (z, n, sh, 0, 0) (I) (L) 12 [some (.ref b), some (.ref (b + 2 + h)), some (.int x), some (.int (iset (fun p => mCould N p h) (nPo N))), some (.int (nI (lS N h i))), some (.int (nI i)), none] [] := by
    refine up_loop (fun i hi ih => ?_)
    refine aw_iload dX7_drawn_12 rfl ?_
    refine aw_aload_n dX7_drawn_14 rfl ?_
    refine aw_getI dX7_drawn_15 fX7_62 hS.k hS.b0 rfl ?_
    refine AW.top (hC.np.trans hN.p) ?_
    refine aw_icmp_ge (tgt := 62) dX7_drawn_18 rfl (fun c18 => ?_) (fun c18 => ?_)
    · have e := ge_t rfl (by omega) hi c18
      subst e
      refine aw_iload dX7_drawn_62 rfl ?_
      refine aw_if_le (tgt := 71) dX7_drawn_64 rfl (fun c64 => ?_) (fun c64 => ?_)
      · have d9 : lS N h (nPo N) = 0 := by
          have := (nI_leI (b := 0) (by omega) (by decide)).mp c64
          omega
        refine aw_null dX7_drawn_71 ?_
        refine aw_aret q rfl (Or.inl rfl) dX7_drawn_72 ⟨Nat.le_refl _, Nat.le_refl _⟩ ?_
        refine ⟨?_, rfl, rfl, rfl, rfl, rfl⟩
        rw [if_pos d9]
        rfl
      · have hpos : 0 < lS N h (nPo N) := by
          have := mt (nI_leI (a := lS N h (nPo N)) (b := 0) (by omega) (by decide)).mpr c64
          omega
        refine aw_iload_n dX7_drawn_67 rfl ?_
        refine aw_if_ge (tgt := 73) dX7_drawn_68 rfl (fun c68 => ?_) (fun c68 => ?_)
        · skip
          refine aw_iload_n dX7_drawn_73 rfl ?_
          refine aw_iload dX7_drawn_74 rfl ?_
          refine aw_irem dX7_drawn_76 (nI_ne0 hpos (by omega)) ?_
          refine AW.top (y := nI (u % lS N h (nPo N))) (by rw [hx]; exact pk_rem (by omega) hpos (by omega)) ?_
          refine aw_istore dX7_drawn_77 (by decide) rfl ?_
          refine aw_iconst (v := 0) dX7_drawn_79 rfl ?_
          refine aw_istore dX7_drawn_80 (by decide) rfl ?_
          have := l2 hpos 0 (Nat.zero_le _) (Nat.zero_le _) rfl
          rw [show lS N h 0 = 0 from rfl, Nat.sub_zero] at this
          exact this
        · rw [hx] at c68
          exact absurd (nI_pos' (by omega)) c68
    · have hlt := ge_f rfl (by omega) hi c18
      obtain ⟨w1, w2, w3⟩ := wdN_n hR hlt
      refine aw_iload dX7_drawn_21 rfl ?_
      refine aw_iload_n dX7_drawn_23 rfl ?_
      refine aw_aload_n dX7_drawn_24 rfl ?_
      refine aw_getR (b := b + 12) dX7_drawn_25 fX7_22 hS.k hS.b0 rfl hS.r1 ?_
      refine aw_iload dX7_drawn_28 rfl ?_
      refine aw_houses (p := i) hS rfl (by omega) dX7_drawn_30 ?_
      refine aw_getI dX7_drawn_31 fX7_103 (hS.po (by omega)) (hS.pb (by omega)) rfl ?_
      refine AW.top (hC.pi (by omega)) ?_
      refine aw_iand dX7_drawn_34 ?_
      refine aw_if_eq (tgt := 52) dX7_drawn_35 rfl (fun c35 => ?_) (fun c35 => ?_)
      · skip
        refine aw_iconst (v := 0) dX7_drawn_52 rfl ?_
        refine aw_iadd dX7_drawn_53 ?_
        refine aw_istore dX7_drawn_54 (by decide) rfl ?_
        refine aw_iinc dX7_drawn_56 rfl (ginc rfl) (by decide) rfl ?_
        refine aw_goto (tgt := 12) dX7_drawn_59 rfl ?_
        have := ih hlt
        rw [lS_f ((could_bit h8 hlt).mp c35), ← Int32.add_zero (nI (lS N h i))] at this
        exact this
      · have f9 : mCould N i h = true := by
          cases hb : mCould N i h with
          | true => rfl
          | false => exact absurd ((could_bit h8 hlt).mpr hb) c35
        refine aw_aload_n dX7_drawn_38 rfl ?_
        refine aw_aload_n dX7_drawn_39 rfl ?_
        refine aw_getR (b := b + 12) dX7_drawn_40 fX7_22 hS.k hS.b0 rfl hS.r1 ?_
        refine aw_iload dX7_drawn_43 rfl ?_
        refine aw_houses (p := i) hS rfl (by omega) dX7_drawn_45 ?_
        refine aw_cV dX7_drawn_46 kX7_294 mX7_lotsOf (sX7_lotsOf hS hC hO hlt) (Nat.le_of_ble_eq_true rfl) hS.k ⟨by decide, rfl⟩ hS.b0 rfl rfl (Nat.le_of_ble_eq_true rfl) ⟨Nat.le_refl _, Nat.le_refl _⟩ ?_
        refine AW.top w1 ?_
        refine aw_goto (tgt := 53) dX7_drawn_49 rfl ?_
        refine aw_iadd dX7_drawn_53 ?_
        refine aw_istore dX7_drawn_54 (by decide) rfl ?_
        refine aw_iinc dX7_drawn_56 rfl (ginc rfl) (by decide) rfl ?_
        refine aw_goto (tgt := 12) dX7_drawn_59 rfl ?_
        have := ih hlt
        rw [lS_t f9, ← nI_add] at this
        exact this
  refine aw_aload_n dX7_drawn_0 rfl ?_
  refine aw_aload_n dX7_drawn_1 rfl ?_
  refine aw_cV dX7_drawn_2 kX7_291 mX7_takersOf (sX7_takersOf hS hC hO hh) (Nat.le_of_ble_eq_true rfl) hS.k ⟨by decide, rfl⟩ hS.b0 rfl rfl (Nat.le_of_ble_eq_true rfl) ⟨Nat.le_refl _, Nat.le_refl _⟩ ?_
  refine aw_istore_n dX7_drawn_5 (by decide) rfl ?_
  refine aw_iconst (v := 0) dX7_drawn_6 rfl ?_
  refine aw_istore dX7_drawn_7 (by decide) rfl ?_
  refine aw_iconst (v := 0) dX7_drawn_9 rfl ?_
  refine aw_istore dX7_drawn_10 (by decide) rfl ?_
  exact loop 0 (Nat.zero_le _)
set_option maxHeartbeats 4000000 in
set_option maxRecDepth 100000 in
theorem sX7_envyEachOther (hS : IsS n sh b) (hC : CtS I L b N Q) (hO : Ok N) {p r : Nat} (hp : p < nPo N) (hr : r < nPo N) (hHo : HoO N) : CM yX7_envyEachOther cX7_envyEachOther 5 (Option.some .boolean) 3 0 0 [.ref b, .ref (b + 13 + 2 * p), .ref (b + 13 + 2 * r)] z n sh I L (Pst (some (.int (bI (envP N p r)))) z n sh I L) := by
  refine CM.go [some (.ref b), some (.ref (b + 13 + 2 * p)), some (.ref (b + 13 + 2 * r)), none, none] rfl rfl (Nat.le_of_ble_eq_true rfl) (fun X g q => ?_)
  have hN := hO.1
  have hR := hO.2.1
  have hB := hO.2.2.1
  have hE := hO.2.2.2
  have h8 := hN.p8
  have h10 := hN.h10
  rcases hHo p hp with e1 | ⟨h1, hh1, e1⟩ <;> rcases hHo r hr with e2 | ⟨h2, hh2, e2⟩
  · refine aw_aload_n dX7_envyEachOther_0 rfl ?_
    refine aw_aload_n dX7_envyEachOther_1 rfl ?_
    refine aw_getI dX7_envyEachOther_2 fX7_176 (hS.po (by omega)) (hS.pb (by omega)) rfl ?_
    refine AW.top (hC.pf h8 (p := p) (w := 4) (by omega) (by decide) (by decide) (by decide)) ?_
    refine aw_cV dX7_envyEachOther_5 kX7_212 mX7_homeAt (sX7_homeAtN hS hC hO (by rw [e1]; exact from_m1)) (Nat.le_of_ble_eq_true rfl) hS.k ⟨by decide, rfl⟩ hS.b0 rfl rfl (Nat.le_of_ble_eq_true rfl) ⟨Nat.le_refl _, Nat.le_refl _⟩ ?_
    refine aw_astore_nN dX7_envyEachOther_8 (by decide) rfl ?_
    refine aw_aload_n dX7_envyEachOther_9 rfl ?_
    refine aw_aload_n dX7_envyEachOther_10 rfl ?_
    refine aw_getI dX7_envyEachOther_11 fX7_176 (hS.po (by omega)) (hS.pb (by omega)) rfl ?_
    refine AW.top (hC.pf h8 (p := r) (w := 4) (by omega) (by decide) (by decide) (by decide)) ?_
    refine aw_cV dX7_envyEachOther_14 kX7_212 mX7_homeAt (sX7_homeAtN hS hC hO (by rw [e2]; exact from_m1)) (Nat.le_of_ble_eq_true rfl) hS.k ⟨by decide, rfl⟩ hS.b0 rfl rfl (Nat.le_of_ble_eq_true rfl) ⟨Nat.le_refl _, Nat.le_refl _⟩ ?_
    refine aw_astoreN dX7_envyEachOther_17 (by decide) rfl ?_
    refine aw_aload_nN dX7_envyEachOther_19 rfl ?_
    refine aw_ifnullN (tgt := 28) dX7_envyEachOther_20 rfl ?_
    refine aw_iconst (v := 0) dX7_envyEachOther_28 rfl ?_
    refine aw_zret q rfl (by decide) dX7_envyEachOther_29 ⟨Nat.le_refl _, Nat.le_refl _⟩ ?_
    refine Pst.iv ?_
    unfold envP
    simp [bI, e1, e2]
  · refine aw_aload_n dX7_envyEachOther_0 rfl ?_
    refine aw_aload_n dX7_envyEachOther_1 rfl ?_
    refine aw_getI dX7_envyEachOther_2 fX7_176 (hS.po (by omega)) (hS.pb (by omega)) rfl ?_
    refine AW.top (hC.pf h8 (p := p) (w := 4) (by omega) (by decide) (by decide) (by decide)) ?_
    refine aw_cV dX7_envyEachOther_5 kX7_212 mX7_homeAt (sX7_homeAtN hS hC hO (by rw [e1]; exact from_m1)) (Nat.le_of_ble_eq_true rfl) hS.k ⟨by decide, rfl⟩ hS.b0 rfl rfl (Nat.le_of_ble_eq_true rfl) ⟨Nat.le_refl _, Nat.le_refl _⟩ ?_
    refine aw_astore_nN dX7_envyEachOther_8 (by decide) rfl ?_
    refine aw_aload_n dX7_envyEachOther_9 rfl ?_
    refine aw_aload_n dX7_envyEachOther_10 rfl ?_
    refine aw_getI dX7_envyEachOther_11 fX7_176 (hS.po (by omega)) (hS.pb (by omega)) rfl ?_
    refine AW.top (hC.pf h8 (p := r) (w := 4) (by omega) (by decide) (by decide) (by decide)) ?_
    refine aw_cV dX7_envyEachOther_14 kX7_212 mX7_homeAt (sX7_homeAt hS hC hO e2 hh2) (Nat.le_of_ble_eq_true rfl) hS.k ⟨by decide, rfl⟩ hS.b0 rfl rfl (Nat.le_of_ble_eq_true rfl) ⟨Nat.le_refl _, Nat.le_refl _⟩ ?_
    refine aw_astore dX7_envyEachOther_17 (by decide) rfl ?_
    refine aw_aload_nN dX7_envyEachOther_19 rfl ?_
    refine aw_ifnullN (tgt := 28) dX7_envyEachOther_20 rfl ?_
    refine aw_iconst (v := 0) dX7_envyEachOther_28 rfl ?_
    refine aw_zret q rfl (by decide) dX7_envyEachOther_29 ⟨Nat.le_refl _, Nat.le_refl _⟩ ?_
    refine Pst.iv ?_
    unfold envP
    simp [bI, e1, e2]
  · refine aw_aload_n dX7_envyEachOther_0 rfl ?_
    refine aw_aload_n dX7_envyEachOther_1 rfl ?_
    refine aw_getI dX7_envyEachOther_2 fX7_176 (hS.po (by omega)) (hS.pb (by omega)) rfl ?_
    refine AW.top (hC.pf h8 (p := p) (w := 4) (by omega) (by decide) (by decide) (by decide)) ?_
    refine aw_cV dX7_envyEachOther_5 kX7_212 mX7_homeAt (sX7_homeAt hS hC hO e1 hh1) (Nat.le_of_ble_eq_true rfl) hS.k ⟨by decide, rfl⟩ hS.b0 rfl rfl (Nat.le_of_ble_eq_true rfl) ⟨Nat.le_refl _, Nat.le_refl _⟩ ?_
    refine aw_astore_n dX7_envyEachOther_8 (by decide) rfl ?_
    refine aw_aload_n dX7_envyEachOther_9 rfl ?_
    refine aw_aload_n dX7_envyEachOther_10 rfl ?_
    refine aw_getI dX7_envyEachOther_11 fX7_176 (hS.po (by omega)) (hS.pb (by omega)) rfl ?_
    refine AW.top (hC.pf h8 (p := r) (w := 4) (by omega) (by decide) (by decide) (by decide)) ?_
    refine aw_cV dX7_envyEachOther_14 kX7_212 mX7_homeAt (sX7_homeAtN hS hC hO (by rw [e2]; exact from_m1)) (Nat.le_of_ble_eq_true rfl) hS.k ⟨by decide, rfl⟩ hS.b0 rfl rfl (Nat.le_of_ble_eq_true rfl) ⟨Nat.le_refl _, Nat.le_refl _⟩ ?_
    refine aw_astoreN dX7_envyEachOther_17 (by decide) rfl ?_
    refine aw_aload_n dX7_envyEachOther_19 rfl ?_
    refine aw_ifnull dX7_envyEachOther_20 ?_
    refine aw_aloadN dX7_envyEachOther_23 rfl ?_
    refine aw_ifnonnullN dX7_envyEachOther_25 ?_
    refine aw_iconst (v := 0) dX7_envyEachOther_28 rfl ?_
    refine aw_zret q rfl (by decide) dX7_envyEachOther_29 ⟨Nat.le_refl _, Nat.le_refl _⟩ ?_
    refine Pst.iv ?_
    unfold envP
    simp [bI, e1, e2]
  · refine aw_aload_n dX7_envyEachOther_0 rfl ?_
    refine aw_aload_n dX7_envyEachOther_1 rfl ?_
    refine aw_getI dX7_envyEachOther_2 fX7_176 (hS.po (by omega)) (hS.pb (by omega)) rfl ?_
    refine AW.top (hC.pf h8 (p := p) (w := 4) (by omega) (by decide) (by decide) (by decide)) ?_
    refine aw_cV dX7_envyEachOther_5 kX7_212 mX7_homeAt (sX7_homeAt hS hC hO e1 hh1) (Nat.le_of_ble_eq_true rfl) hS.k ⟨by decide, rfl⟩ hS.b0 rfl rfl (Nat.le_of_ble_eq_true rfl) ⟨Nat.le_refl _, Nat.le_refl _⟩ ?_
    refine aw_astore_n dX7_envyEachOther_8 (by decide) rfl ?_
    refine aw_aload_n dX7_envyEachOther_9 rfl ?_
    refine aw_aload_n dX7_envyEachOther_10 rfl ?_
    refine aw_getI dX7_envyEachOther_11 fX7_176 (hS.po (by omega)) (hS.pb (by omega)) rfl ?_
    refine AW.top (hC.pf h8 (p := r) (w := 4) (by omega) (by decide) (by decide) (by decide)) ?_
    refine aw_cV dX7_envyEachOther_14 kX7_212 mX7_homeAt (sX7_homeAt hS hC hO e2 hh2) (Nat.le_of_ble_eq_true rfl) hS.k ⟨by decide, rfl⟩ hS.b0 rfl rfl (Nat.le_of_ble_eq_true rfl) ⟨Nat.le_refl _, Nat.le_refl _⟩ ?_
    refine aw_astore dX7_envyEachOther_17 (by decide) rfl ?_
    refine aw_aload_n dX7_envyEachOther_19 rfl ?_
    refine aw_ifnull dX7_envyEachOther_20 ?_
    refine aw_aload dX7_envyEachOther_23 rfl ?_
    refine aw_ifnonnull (tgt := 30) dX7_envyEachOther_25 rfl ?_
    refine aw_aload_n dX7_envyEachOther_30 rfl ?_
    refine aw_aload dX7_envyEachOther_31 rfl ?_
    refine aw_cV dX7_envyEachOther_33 kX7_297 mX3_wouldRather (sX3_wouldRather hS hC hN hp hh2 hR) (Nat.le_of_ble_eq_true rfl) (hS.po (by omega)) ⟨by decide, rfl⟩ (hS.pb (by omega)) rfl rfl (Nat.le_of_ble_eq_true rfl) ⟨Nat.le_refl _, Nat.le_refl _⟩ ?_
    refine aw_if_eq (tgt := 51) dX7_envyEachOther_36 rfl (fun c36 => ?_) (fun c36 => ?_)
    · refine aw_iconst (v := 0) dX7_envyEachOther_51 rfl ?_
      refine aw_zret q rfl (by decide) dX7_envyEachOther_52 ⟨Nat.le_refl _, Nat.le_refl _⟩ ?_
      refine Pst.iv ?_
      have fc36 := bI0.mp c36
      have n1 : ¬ nI h1 = (-1 : Int32) := nI_ne_m1 (by omega)
      have n2 : ¬ nI h2 = (-1 : Int32) := nI_ne_m1 (by omega)
      simp [e1, e2, n1, n2] at fc36
      unfold envP
      simp [bI, e1, e2, n1, n2, fc36]
    · refine aw_aload_n dX7_envyEachOther_39 rfl ?_
      refine aw_aload_n dX7_envyEachOther_40 rfl ?_
      refine aw_cV dX7_envyEachOther_41 kX7_297 mX3_wouldRather (sX3_wouldRather hS hC hN hr hh1 hR) (Nat.le_of_ble_eq_true rfl) (hS.po (by omega)) ⟨by decide, rfl⟩ (hS.pb (by omega)) rfl rfl (Nat.le_of_ble_eq_true rfl) ⟨Nat.le_refl _, Nat.le_refl _⟩ ?_
      refine aw_if_eq (tgt := 51) dX7_envyEachOther_44 rfl (fun c44 => ?_) (fun c44 => ?_)
      · refine aw_iconst (v := 0) dX7_envyEachOther_51 rfl ?_
        refine aw_zret q rfl (by decide) dX7_envyEachOther_52 ⟨Nat.le_refl _, Nat.le_refl _⟩ ?_
        refine Pst.iv ?_
        have fc36 := bI1.mp c36
        have fc44 := bI0.mp c44
        have n1 : ¬ nI h1 = (-1 : Int32) := nI_ne_m1 (by omega)
        have n2 : ¬ nI h2 = (-1 : Int32) := nI_ne_m1 (by omega)
        simp [e1, e2, n1, n2] at fc36 fc44
        unfold envP
        simp [bI, e1, e2, n1, n2, fc36, fc44]
      · refine aw_iconst (v := 1) dX7_envyEachOther_47 rfl ?_
        refine aw_goto (tgt := 52) dX7_envyEachOther_48 rfl ?_
        refine aw_zret q rfl (by decide) dX7_envyEachOther_52 ⟨Nat.le_refl _, Nat.le_refl _⟩ ?_
        refine Pst.iv ?_
        have fc36 := bI1.mp c36
        have fc44 := bI1.mp c44
        have n1 : ¬ nI h1 = (-1 : Int32) := nI_ne_m1 (by omega)
        have n2 : ¬ nI h2 = (-1 : Int32) := nI_ne_m1 (by omega)
        simp [e1, e2, n1, n2] at fc36 fc44
        unfold envP
        simp [bI, e1, e2, n1, n2, fc36, fc44]
set_option maxHeartbeats 4000000 in
set_option maxRecDepth 100000 in
theorem sX7_envyPartner (hS : IsS n sh b) (hC : CtS I L b N Q) (hO : Ok N) {p : Nat} (hp : p < nPo N) (hHo : HoO N)  : CM yX7_envyPartner cX7_envyPartner 3 (Option.some (.object "HomesQueue$House")) 4 0 0 [.ref b, .ref (b + 13 + 2 * p)] z n sh I L (Pst (some (oH b (cPar N p))) z n sh I L) := by
  refine CM.go [some (.ref b), some (.ref (b + 13 + 2 * p)), none] rfl rfl (Nat.le_of_ble_eq_true rfl) (fun X g q => ?_)
  have hN := hO.1
  have hR := hO.2.1
  have hB := hO.2.2.1
  have hE := hO.2.2.2
  have h8 := hN.p8
  have h10 := hN.h10
  have loop : ∀ i, i ≤ nPo N → fa_first (fun q => decide (p < q) && envP N p q) i = i → AW X g RX7 cX7_envyPartner 3 (4, 0, 0) (z, n, sh, 0, 0) (I) (L) 8 [some (.ref b), some (.ref (b + 13 + 2 * p)), some (.int (nI i))] [] := by
    refine up_loop (fun i hi ih hfi => ?_)
    refine aw_iload_n dX7_envyPartner_8 rfl ?_
    refine aw_aload_n dX7_envyPartner_9 rfl ?_
    refine aw_getI dX7_envyPartner_10 fX7_62 hS.k hS.b0 rfl ?_
    refine AW.top (hC.np.trans hN.p) ?_
    refine aw_icmp_ge (tgt := 51) dX7_envyPartner_13 rfl (fun c13 => ?_) (fun c13 => ?_)
    · have e := ge_t rfl (by omega) hi c13
      subst e
      refine aw_null dX7_envyPartner_51 ?_
      refine aw_aret q rfl (Or.inl rfl) dX7_envyPartner_52 ⟨Nat.le_refl _, Nat.le_refl _⟩ ?_
      refine ⟨?_, rfl, rfl, rfl, rfl, rfl⟩
      unfold cPar
      rw [hfi, if_neg (Nat.lt_irrefl _)]
      rfl
    · have hlt := ge_f rfl (by omega) hi c13
      refine aw_iload_n dX7_envyPartner_16 rfl ?_
      refine aw_aload_n dX7_envyPartner_17 rfl ?_
      refine aw_getI dX7_envyPartner_18 fX7_179 (hS.po (by omega)) (hS.pb (by omega)) rfl ?_
      refine AW.top (hC.pn (by omega)) ?_
      refine aw_icmp_le (tgt := 45) dX7_envyPartner_21 rfl (fun c21 => ?_) (fun c21 => ?_)
      · refine aw_iinc dX7_envyPartner_45 rfl (ginc rfl) (by decide) rfl ?_
        refine aw_goto (tgt := 8) dX7_envyPartner_48 rfl ?_
        exact ih hlt (fa_first_no1 hfi (by rw [show decide (p < i) = false from decide_eq_false (by have := (nI_leI (by omega) (by omega)).mp c21; omega)]; simp))
      · refine aw_aload_n dX7_envyPartner_24 rfl ?_
        refine aw_aload_n dX7_envyPartner_25 rfl ?_
        refine aw_aload_n dX7_envyPartner_26 rfl ?_
        refine aw_getR (b := b + 12) dX7_envyPartner_27 fX7_22 hS.k hS.b0 rfl hS.r1 ?_
        refine aw_iload_n dX7_envyPartner_30 rfl ?_
        refine aw_houses (p := i) hS rfl (by omega) dX7_envyPartner_31 ?_
        refine aw_cV dX7_envyPartner_32 kX7_300 mX7_envyEachOther (sX7_envyEachOther hS hC hO hp hlt hHo) (Nat.le_of_ble_eq_true rfl) hS.k ⟨by decide, rfl⟩ hS.b0 rfl rfl (Nat.le_of_ble_eq_true rfl) ⟨Nat.le_refl _, Nat.le_refl _⟩ ?_
        refine aw_if_eq (tgt := 45) dX7_envyPartner_35 rfl (fun c35 => ?_) (fun c35 => ?_)
        · refine aw_iinc dX7_envyPartner_45 rfl (ginc rfl) (by decide) rfl ?_
          refine aw_goto (tgt := 8) dX7_envyPartner_48 rfl ?_
          exact ih hlt (fa_first_no1 hfi (by rw [bI0.mp c35]; simp))
        · refine aw_aload_n dX7_envyPartner_38 rfl ?_
          refine aw_getR (b := b + 12) dX7_envyPartner_39 fX7_22 hS.k hS.b0 rfl hS.r1 ?_
          refine aw_iload_n dX7_envyPartner_42 rfl ?_
          refine aw_houses (p := i) hS rfl (by omega) dX7_envyPartner_43 ?_
          refine aw_aret q rfl (Or.inr ⟨_, rfl⟩) dX7_envyPartner_44 ⟨Nat.le_refl _, Nat.le_refl _⟩ ?_
          have hl9 : p < i := by
            have := mt (nI_leI (a := i) (b := p) (by omega) (by omega)).mpr c21
            omega
          have e9 : fa_first (fun q => decide (p < q) && envP N p q) (nPo N) = i := fa_first_yes1 hfi (by rw [bI1.mp c35]; simp [hl9]) hlt
          refine ⟨?_, rfl, rfl, rfl, rfl, rfl⟩
          unfold cPar
          rw [e9, if_pos hlt]
          rfl
  refine aw_aload_n dX7_envyPartner_0 rfl ?_
  refine aw_ifnonnull (tgt := 6) dX7_envyPartner_1 rfl ?_
  refine aw_iconst (v := 0) dX7_envyPartner_6 rfl ?_
  refine aw_istore_n dX7_envyPartner_7 (by decide) rfl ?_
  exact loop 0 (Nat.zero_le _) rfl
set_option maxHeartbeats 4000000 in
set_option maxRecDepth 100000 in
theorem sX7_envyPartnerN (hS : IsS n sh b) (hC : CtS I L b N Q) (hO : Ok N)  : CM yX7_envyPartner cX7_envyPartner 3 (Option.some (.object "HomesQueue$House")) 4 0 0 [.ref b, .null] z n sh I L (Pst (some .null) z n sh I L) := by
  refine CM.go [some (.ref b), some .null, none] rfl rfl (Nat.le_of_ble_eq_true rfl) (fun X g q => ?_)
  have hN := hO.1
  have hR := hO.2.1
  have hB := hO.2.2.1
  have hE := hO.2.2.2
  have h8 := hN.p8
  have h10 := hN.h10
  refine aw_aload_nN dX7_envyPartner_0 rfl ?_
  refine aw_ifnonnullN dX7_envyPartner_1 ?_
  refine aw_null dX7_envyPartner_4 ?_
  refine aw_aret q rfl (Or.inl rfl) dX7_envyPartner_5 ⟨Nat.le_refl _, Nat.le_refl _⟩ ?_
  exact Pst.rf
set_option maxHeartbeats 4000000 in
set_option maxRecDepth 100000 in
theorem sX7_firstEnvious (hS : IsS n sh b) (hC : CtS I L b N Q) (hO : Ok N) (hHo : HoO N) : CM yX7_firstEnvious cX7_firstEnvious 2 (Option.some (.object "HomesQueue$House")) 5 0 0 [.ref b] z n sh I L (Pst (some (oH b (cEnv N))) z n sh I L) := by
  refine CM.go [some (.ref b), none] rfl rfl (Nat.le_of_ble_eq_true rfl) (fun X g q => ?_)
  have hN := hO.1
  have hR := hO.2.1
  have hB := hO.2.2.1
  have hE := hO.2.2.2
  have h8 := hN.p8
  have h10 := hN.h10
  have loop : ∀ i, i ≤ nPo N → fa_first (fun p => (cPar N p).isSome) i = i → AW X g RX7 cX7_firstEnvious 2 (5, 0, 0) (z, n, sh, 0, 0) (I) (L) 2 [some (.ref b), some (.int (nI i))] [] := by
    refine up_loop (fun i hi ih hfi => ?_)
    cases hf : cPar N i with
    | none =>
      refine aw_iload_n dX7_firstEnvious_2 rfl ?_
      refine aw_aload_n dX7_firstEnvious_3 rfl ?_
      refine aw_getI dX7_firstEnvious_4 fX7_62 hS.k hS.b0 rfl ?_
      refine AW.top (hC.np.trans hN.p) ?_
      refine aw_icmp_ge (tgt := 36) dX7_firstEnvious_7 rfl (fun c7 => ?_) (fun c7 => ?_)
      · have e := ge_t rfl (by omega) hi c7
        subst e
        refine aw_null dX7_firstEnvious_36 ?_
        refine aw_aret q rfl (Or.inl rfl) dX7_firstEnvious_37 ⟨Nat.le_refl _, Nat.le_refl _⟩ ?_
        refine ⟨?_, rfl, rfl, rfl, rfl, rfl⟩
        unfold cEnv
        rw [hfi, if_neg (Nat.lt_irrefl _)]
        rfl
      · have hlt := ge_f rfl (by omega) hi c7
        refine aw_aload_n dX7_firstEnvious_10 rfl ?_
        refine aw_aload_n dX7_firstEnvious_11 rfl ?_
        refine aw_getR (b := b + 12) dX7_firstEnvious_12 fX7_22 hS.k hS.b0 rfl hS.r1 ?_
        refine aw_iload_n dX7_firstEnvious_15 rfl ?_
        refine aw_houses (p := i) hS rfl (by omega) dX7_firstEnvious_16 ?_
        refine aw_cV dX7_firstEnvious_17 kX7_304 mX7_envyPartner (firstAs hf (sX7_envyPartner hS hC hO hlt hHo)) (Nat.le_of_ble_eq_true rfl) hS.k ⟨by decide, rfl⟩ hS.b0 rfl rfl (Nat.le_of_ble_eq_true rfl) ⟨Nat.le_refl _, Nat.le_refl _⟩ ?_
        refine aw_ifnullN (tgt := 30) dX7_firstEnvious_20 rfl ?_
        refine aw_iinc dX7_firstEnvious_30 rfl (ginc rfl) (by decide) rfl ?_
        refine aw_goto (tgt := 2) dX7_firstEnvious_33 rfl ?_
        exact ih hlt (fa_first_no1 hfi (by rw [hf]; simp))
    | some f =>
      refine aw_iload_n dX7_firstEnvious_2 rfl ?_
      refine aw_aload_n dX7_firstEnvious_3 rfl ?_
      refine aw_getI dX7_firstEnvious_4 fX7_62 hS.k hS.b0 rfl ?_
      refine AW.top (hC.np.trans hN.p) ?_
      refine aw_icmp_ge (tgt := 36) dX7_firstEnvious_7 rfl (fun c7 => ?_) (fun c7 => ?_)
      · have e := ge_t rfl (by omega) hi c7
        subst e
        refine aw_null dX7_firstEnvious_36 ?_
        refine aw_aret q rfl (Or.inl rfl) dX7_firstEnvious_37 ⟨Nat.le_refl _, Nat.le_refl _⟩ ?_
        refine ⟨?_, rfl, rfl, rfl, rfl, rfl⟩
        unfold cEnv
        rw [hfi, if_neg (Nat.lt_irrefl _)]
        rfl
      · have hlt := ge_f rfl (by omega) hi c7
        refine aw_aload_n dX7_firstEnvious_10 rfl ?_
        refine aw_aload_n dX7_firstEnvious_11 rfl ?_
        refine aw_getR (b := b + 12) dX7_firstEnvious_12 fX7_22 hS.k hS.b0 rfl hS.r1 ?_
        refine aw_iload_n dX7_firstEnvious_15 rfl ?_
        refine aw_houses (p := i) hS rfl (by omega) dX7_firstEnvious_16 ?_
        refine aw_cV dX7_firstEnvious_17 kX7_304 mX7_envyPartner (firstAs hf (sX7_envyPartner hS hC hO hlt hHo)) (Nat.le_of_ble_eq_true rfl) hS.k ⟨by decide, rfl⟩ hS.b0 rfl rfl (Nat.le_of_ble_eq_true rfl) ⟨Nat.le_refl _, Nat.le_refl _⟩ ?_
        refine aw_ifnull dX7_firstEnvious_20 ?_
        refine aw_aload_n dX7_firstEnvious_23 rfl ?_
        refine aw_getR (b := b + 12) dX7_firstEnvious_24 fX7_22 hS.k hS.b0 rfl hS.r1 ?_
        refine aw_iload_n dX7_firstEnvious_27 rfl ?_
        refine aw_houses (p := i) hS rfl (by omega) dX7_firstEnvious_28 ?_
        refine aw_aret q rfl (Or.inr ⟨_, rfl⟩) dX7_firstEnvious_29 ⟨Nat.le_refl _, Nat.le_refl _⟩ ?_
        have e9 : fa_first (fun p => (cPar N p).isSome) (nPo N) = i := fa_first_yes1 hfi (by rw [hf]; rfl) hlt
        refine ⟨?_, rfl, rfl, rfl, rfl, rfl⟩
        unfold cEnv
        rw [e9, if_pos hlt]
        rfl
  refine aw_iconst (v := 0) dX7_firstEnvious_0 rfl ?_
  refine aw_istore_n dX7_firstEnvious_1 (by decide) rfl ?_
  exact loop 0 (Nat.zero_le _) rfl
set_option maxHeartbeats 4000000 in
set_option maxRecDepth 100000 in
theorem sX7_countEnvy (hS : IsS n sh b) (hC : CtS I L b N Q) (hO : Ok N) (hHo : HoO N)  : CM yX7_countEnvy cX7_countEnvy 4 (Option.some .int) 4 0 0 [.ref b] z n sh I L (Pst (some (.int (nI (cCO N (nPo N))))) z n sh I L) := by
  refine CM.go [some (.ref b), none, none, none] rfl rfl (Nat.le_of_ble_eq_true rfl) (fun X g q => ?_)
  have hN := hO.1
  have hR := hO.2.1
  have hB := hO.2.2.1
  have hE := hO.2.2.2
  have h8 := hN.p8
  have h10 := hN.h10
  have inn : ∀ p, p < nPo N → (AW X g RX7 cX7_countEnvy 4 (4, 0, 0) (z, n, sh, 0, 0) (I) (L) 52 [some (.ref b), some (.int (nI (cCO N p + cCI N p (nPo N)))), some (.int (nI p)), some (.int (nI (nPo N)))] []) → ∀ i, i ≤ nPo N → p < i → AW X g RX7 cX7_countEnvy 4 (4, 0, 0) (z, n, sh, 0, 0) (I) (L) 16 [some (.ref b), some (.int (nI (cCO N p + cCI N p i))), some (.int (nI p)), some (.int (nI i))] [] := by
    intro p hp nxt
    refine up_loop (fun i hi ih hpi => ?_)
    refine aw_iload_n dX7_countEnvy_16 rfl ?_
    refine aw_aload_n dX7_countEnvy_17 rfl ?_
    refine aw_getI dX7_countEnvy_18 fX7_62 hS.k hS.b0 rfl ?_
    refine AW.top (hC.np.trans hN.p) ?_
    refine aw_icmp_ge (tgt := 52) dX7_countEnvy_21 rfl (fun c21 => ?_) (fun c21 => ?_)
    · have e := ge_t rfl (by omega) hi c21
      subst e
      exact nxt
    · have hlt := ge_f rfl (by omega) hi c21
      refine aw_aload_n dX7_countEnvy_24 rfl ?_
      refine aw_aload_n dX7_countEnvy_25 rfl ?_
      refine aw_getR (b := b + 12) dX7_countEnvy_26 fX7_22 hS.k hS.b0 rfl hS.r1 ?_
      refine aw_iload_n dX7_countEnvy_29 rfl ?_
      refine aw_houses (p := p) hS rfl (by omega) dX7_countEnvy_30 ?_
      refine aw_aload_n dX7_countEnvy_31 rfl ?_
      refine aw_getR (b := b + 12) dX7_countEnvy_32 fX7_22 hS.k hS.b0 rfl hS.r1 ?_
      refine aw_iload_n dX7_countEnvy_35 rfl ?_
      refine aw_houses (p := i) hS rfl (by omega) dX7_countEnvy_36 ?_
      refine aw_cV dX7_countEnvy_37 kX7_300 mX7_envyEachOther (sX7_envyEachOther hS hC hO hp hlt hHo) (Nat.le_of_ble_eq_true rfl) hS.k ⟨by decide, rfl⟩ hS.b0 rfl rfl (Nat.le_of_ble_eq_true rfl) ⟨Nat.le_refl _, Nat.le_refl _⟩ ?_
      refine aw_if_eq (tgt := 46) dX7_countEnvy_40 rfl (fun c40 => ?_) (fun c40 => ?_)
      · refine aw_iinc dX7_countEnvy_46 rfl (ginc rfl) (by decide) rfl ?_
        refine aw_goto (tgt := 16) dX7_countEnvy_49 rfl ?_
        have e9 : cCI N p (i + 1) = cCI N p i := by
          rw [cCI, if_neg (by rw [bI0.mp c40]; simp)]
          rfl
        have := ih hlt (by omega)
        rw [e9] at this
        exact this
      · refine aw_iinc dX7_countEnvy_43 rfl (ginc rfl) (by decide) rfl ?_
        refine aw_iinc dX7_countEnvy_46 rfl (ginc rfl) (by decide) rfl ?_
        refine aw_goto (tgt := 16) dX7_countEnvy_49 rfl ?_
        have e9 : cCI N p (i + 1) = cCI N p i + 1 := by
          rw [cCI, if_pos ⟨by omega, bI1.mp c40⟩]
        have := ih hlt (by omega)
        rw [e9] at this
        exact this
  have loop : ∀ i, i ≤ nPo N → ∀ a3, AW X g RX7 cX7_countEnvy 4 (4, 0, 0) (z, n, sh, 0, 0) (I) (L) 4 [some (.ref b), some (.int (nI (cCO N i))), some (.int (nI i)), a3] [] := by
    refine up_loop (fun i hi ih a3 => ?_)
    refine aw_iload_n dX7_countEnvy_4 rfl ?_
    refine aw_aload_n dX7_countEnvy_5 rfl ?_
    refine aw_getI dX7_countEnvy_6 fX7_62 hS.k hS.b0 rfl ?_
    refine AW.top (hC.np.trans hN.p) ?_
    refine aw_icmp_ge (tgt := 58) dX7_countEnvy_9 rfl (fun c9 => ?_) (fun c9 => ?_)
    · have e := ge_t rfl (by omega) hi c9
      subst e
      refine aw_iload_n dX7_countEnvy_58 rfl ?_
      refine aw_iret q rfl dX7_countEnvy_59 ⟨Nat.le_refl _, Nat.le_refl _⟩ ?_
      exact Pst.rf
    · have hlt := ge_f rfl (by omega) hi c9
      refine aw_iload_n dX7_countEnvy_12 rfl ?_
      refine aw_iconst (v := 1) dX7_countEnvy_13 rfl ?_
      refine aw_iadd dX7_countEnvy_14 ?_
      refine AW.top (gadd rfl rfl) ?_
      refine aw_istore_n dX7_countEnvy_15 (by decide) rfl ?_
      have := inn i hlt (by
          refine aw_iinc dX7_countEnvy_52 rfl (ginc rfl) (by decide) rfl ?_
          refine aw_goto (tgt := 4) dX7_countEnvy_55 rfl ?_
          exact ih hlt _) (i + 1) (by omega) (by omega)
      rw [cCI_0 (i + 1) (Nat.le_refl _), Nat.add_zero] at this
      exact this
  refine aw_iconst (v := 0) dX7_countEnvy_0 rfl ?_
  refine aw_istore_n dX7_countEnvy_1 (by decide) rfl ?_
  refine aw_iconst (v := 0) dX7_countEnvy_2 rfl ?_
  refine aw_istore_n dX7_countEnvy_3 (by decide) rfl ?_
  exact loop 0 (Nat.zero_le _) none
def cHN (N : Nat → Int32) (Q : Nat → Int64) (w : Int64) : Option Nat := if fa_first (fun h => decide (Q h = w)) (nHo N) < nHo N then some (fa_first (fun h => decide (Q h = w)) (nHo N)) else none
end ClsS
