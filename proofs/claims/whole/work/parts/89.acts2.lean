/-! the class whole: wishes, rules, homes shut, needs, leaving, undone -/
/-- how many wishes, written -/
theorem CtS.putWc {I : MI} {L : ML} {b p k : Nat} {N : Nat → Int32} {Q : Nat → Int64} (c : CtS I L b N Q) (hN : Cn N) (hp : p < nPo N) (hk : k ≤ 6) (hw : ∀ i, i < k → I (b + 14 + 2 * p) i = N (80 + 18 * p + (12 + i))) : CtS (upI I (b + 13 + 2 * p) 3 (nI k)) L b (mPuts N p 11 (nI k)) Q := by
  have h8 := hN.p8
  have hl := hN.l8
  have u : ∀ i, i ≠ 80 + 18 * p + 11 → mPuts N p 11 (nI k) i = N i := fun i hi => upd_ne hi
  have eH : nHo (mPuts N p 11 (nI k)) = nHo N := by unfold nHo; rw [u _ (by omega)]
  have eP : nPo (mPuts N p 11 (nI k)) = nPo N := by unfold nPo; rw [u _ (by omega)]
  have eL : nLe (mPuts N p 11 (nI k)) = nLe N := by unfold nLe; rw [u _ (by omega)]
  have eO : nOf (mPuts N p 11 (nI k)) = nOf N := by unfold nOf; rw [u _ (by omega)]
  have eW : ∀ q, q < 8 → nWi (mPuts N p 11 (nI k)) q = if q = p then k else nWi N q := fun q hq => by
    unfold nWi mPuts
    by_cases e : q = p
    · subst e
      rw [upd_eq, if_pos rfl]
      exact nI_clamp (by omega)
    · rw [upd_ne (by omega), if_neg e]
  refine ⟨⟨fun i hi => ?_, fun i hi => ?_, ?_, ?_⟩, fun i hi => ?_, fun q hq => ?_, fun j hj => ?_, fun i hi => ?_, fun q hq => ?_⟩
  · rw [upI_n (Or.inl (by omega)), upI_n (Or.inl (by omega)), upI_n (Or.inl (by omega)), upI_n (Or.inl (by omega))]
    exact c.1.1 i hi
  · rw [upI_n (Or.inr (by decide)), upI_n (Or.inr (by decide)), upI_n (Or.inr (by decide))]
    exact c.1.2.1 i hi
  · rw [upI_n (Or.inl (by omega))]
    exact c.tw
  · rw [upI_n (Or.inl (by omega))]
    exact c.ow
  · by_cases e11 : i = 80 + 18 * p + 11
    · subst e11
      rw [oA_p (by omega) (by decide), oK_p (by omega) (by decide), ← Nat.add_assoc]
      exact upI_s.trans upd_eq.symm
    · rw [u i e11]
      by_cases hin : lvj N i
      · obtain ⟨s1, s2⟩ := lvj_s hN hin
        rw [upI_n, c.2.1 i hin]
        by_cases ea : oA i = 13 + 2 * p
        · refine Or.inr (fun ek => e11 ?_)
          have s3 : lvs (80 + 18 * p + 11) = true := by
            unfold lvs
            simp only [Bool.or_eq_true, Bool.and_eq_true, decide_eq_true_eq, Bool.not_eq_true', decide_eq_false_iff_not]
            omega
          exact oA_inj s1 (by omega) s2 s3 (by rw [oA_p (by omega) (by decide)]; exact ea) (by rw [oK_p (by omega) (by decide)]; exact ek)
        · exact Or.inl (by omega)
      · unfold lvj at hi hin
        rw [eH, eP, eO] at hi
        have h2 : 80 ≤ i ∧ i < 224 ∧ (i - 80) / 18 < nPo N ∧ (i - 80) % 18 ≠ 6 ∧ (i - 80) % 18 ≠ 7 ∧ (i - 80) % 18 < 12 + nWi (mPuts N p 11 (nI k)) ((i - 80) / 18) := by
          rcases hi with hi | hi | hi | hi | hi | hi
          · exact absurd (Or.inl hi) hin
          · exact hi
          · exact absurd (Or.inr (Or.inr (Or.inl hi))) hin
          · exact absurd (Or.inr (Or.inr (Or.inr (Or.inl hi)))) hin
          · exact absurd (Or.inr (Or.inr (Or.inr (Or.inr (Or.inl hi))))) hin
          · exact absurd (Or.inr (Or.inr (Or.inr (Or.inr (Or.inr hi))))) hin
        obtain ⟨g1, g2, g3, g4, g5, g6⟩ := h2
        rw [eW _ (by omega)] at g6
        by_cases eq : (i - 80) / 18 = p
        · rw [if_pos eq] at g6
          have hge : 12 ≤ (i - 80) % 18 := by
            rcases Nat.lt_or_ge ((i - 80) % 18) 12 with z | z
            · exact absurd (Or.inr (Or.inl ⟨g1, g2, g3, g4, g5, by omega⟩)) hin
            · exact z
          have ei : i = 80 + 18 * p + (12 + ((i - 80) % 18 - 12)) := by omega
          rw [ei, oA_w (by omega) (by omega), oK_w (by omega) (by omega), ← Nat.add_assoc, upI_n (Or.inl (by omega))]
          exact hw _ (by omega)
        · rw [if_neg eq] at g6
          exact absurd (Or.inr (Or.inl ⟨g1, g2, g3, g4, g5, g6⟩)) hin
  · rw [eP] at hq
    rw [upI_n (Or.inr (by decide)), u _ (by omega), u _ (by omega)]
    exact c.br hq
  · rw [eL] at hj
    have hp9 := lPo_lt hN hj
    have hh9 := lHo_lt hN hj
    exact (c.lt hj).cong (if_neg (by omega)) (fun w hw => u _ (by omega)) (u _ (by omega)) (u _ (by omega))
  · rw [eH] at hi
    exact c.qh hi
  · rw [eP] at hq
    exact c.qp hq
section ClsS
variable {z n b : Nat} {sh : Shp} {I : MI} {L : ML} {N : Nat → Int32} {Q : Nat → Int64}
theorem wishC1 {N : Nat → Int32} (c : Cn N) {p : Nat} {v : Int32} (hp : p < 8) (h6 : nWi N p < 6) : Cn (mPuts N p (12 + nWi N p) v) := by
  have hl := c.l8
  have u : ∀ i, i ≠ 80 + 18 * p + (12 + nWi N p) → mPuts N p (12 + nWi N p) v i = N i := fun i hi => upd_ne hi
  have eH : nHo (mPuts N p (12 + nWi N p) v) = nHo N := by unfold nHo; rw [u _ (by omega)]
  have eP : nPo (mPuts N p (12 + nWi N p) v) = nPo N := by unfold nPo; rw [u _ (by omega)]
  have eL : nLe (mPuts N p (12 + nWi N p) v) = nLe N := by unfold nLe; rw [u _ (by omega)]
  have eO : nOf (mPuts N p (12 + nWi N p) v) = nOf N := by unfold nOf; rw [u _ (by omega)]
  have eW : ∀ q, q < 8 → nWi (mPuts N p (12 + nWi N p) v) q = nWi N q := fun q hq => by
    show (mPuts N p (12 + nWi N p) v (80 + 18 * q + 11)).toNatClampNeg = (N (80 + 18 * q + 11)).toNatClampNeg
    rw [u _ (by omega)]
  have eB : ∀ q, q < 8 → nBi (mPuts N p (12 + nWi N p) v) q = nBi N q := fun q hq => by unfold nBi; rw [u _ (by omega)]
  refine ⟨⟨by rw [eH, u _ (by omega)]; exact c.h, by rw [eH]; exact c.h10⟩, ⟨by rw [eP, u _ (by omega)]; exact c.p, by rw [eP]; exact c.p8⟩, ⟨by rw [eL, u _ (by omega)]; exact c.l, by rw [eL]; exact c.l8⟩, ⟨by rw [eO, u _ (by omega)]; exact c.o, by rw [eO]; exact c.o30⟩, by rw [u _ (by omega)]; exact c.age, fun q hq => ⟨⟨by rw [eW q hq, u _ (by omega)]; exact c.w hq, by rw [eW q hq]; exact c.w6 hq⟩, ⟨by rw [eB q hq, u _ (by omega)]; exact c.bi hq, by rw [eB q hq]; exact c.bi10 hq⟩, by rw [u _ (by omega)]; exact c.ho hq, fun k hk => ?_⟩, fun h hh => by rw [u _ (by omega)]; exact c.who hh, fun k hk => ?_⟩
  · rw [eW q hq] at hk
    have := c.w6 hq
    by_cases e : q = p
    · subst e
      rw [u _ (by omega)]
      exact c.wi hq hk
    · rw [u _ (by omega)]
      exact c.wi hq hk
  · rw [eL] at hk
    rw [u _ (by omega), u _ (by omega)]
    exact ⟨c.lp hk, c.lh hk⟩
set_option maxHeartbeats 4000000 in
set_option maxRecDepth 100000 in
theorem sX3_addWish (hS : IsS n sh b) (hC : CtS I L b N Q) (hN : Cn N) {p : Nat} (hp : p < nPo N) {x : Int32} {h : Nat} (hx : x = nI h) (h6 : nWi N p < 6)  : CM yX3_addWish cX3_addWish 2 (Option.none : Option FieldType) 1 0 0 [.ref (b + 13 + 2 * p), .int x] z n sh I L (Mut none b (wishN N p h) Q z n sh I L) := by
  refine CM.go [some (.ref (b + 13 + 2 * p)), some (.int x)] rfl rfl (Nat.le_of_ble_eq_true rfl) (fun X g q => ?_)
  have h8 := hN.p8
  have h10 := hN.h10
  refine aw_aload_n dX3_addWish_0 rfl ?_
  refine aw_getI dX3_addWish_1 fX3_50 (hS.po (by omega)) (hS.pb (by omega)) rfl ?_
  refine AW.top ((hC.pf h8 (p := p) (w := 11) (by omega) (by decide) (by decide) (by decide)).trans (hN.w (by omega))) ?_
  refine aw_bipush (v := 6) dX3_addWish_4 rfl ?_
  refine aw_icmp_ge (tgt := 29) dX3_addWish_6 rfl (fun c6 => ?_) (fun c6 => ?_)
  · exact absurd ((nI_leI (a := 6) (b := nWi N p) (by decide) (by omega)).mp c6) (by omega)
  · skip
    refine aw_aload_n dX3_addWish_9 rfl ?_
    refine aw_getR (b := b + 14 + 2 * p) dX3_addWish_10 fX3_18 (hS.po (by omega)) (hS.pb (by omega)) rfl (hS.pw (by omega)) ?_
    refine aw_aload_n dX3_addWish_13 rfl ?_
    refine aw_getI dX3_addWish_14 fX3_50 (hS.po (by omega)) (hS.pb (by omega)) rfl ?_
    refine AW.top ((hC.pf h8 (p := p) (w := 11) (by omega) (by decide) (by decide) (by decide)).trans (hN.w (by omega))) ?_
    refine aw_iload_n dX3_addWish_17 rfl ?_
    refine aw_iastN (k := (nWi N p)) dX3_addWish_18 (hS.wk (by omega)) (hS.wb (by omega)) (hS.wl (by omega)) rfl (by omega) (by decide) ?_
    refine aw_aload_n dX3_addWish_19 rfl ?_
    refine aw_dup dX3_addWish_20 rfl ?_
    refine aw_getI dX3_addWish_21 fX3_50 (hS.po (by omega)) (hS.pb (by omega)) rfl ?_
    refine AW.top ((upI_n (Or.inl (by omega))).trans ((hC.pf h8 (p := p) (w := 11) hp (by decide) (by decide) (by decide)).trans (hN.w (by omega)))) ?_
    refine aw_iconst (v := 1) dX3_addWish_24 rfl ?_
    refine aw_iadd dX3_addWish_25 ?_
    refine AW.top (nI_1 (nWi N p)) ?_
    refine aw_putI dX3_addWish_26 fX3_50 (hS.po (by omega)) (hS.pb (by omega)) rfl rfl ?_
    refine aw_vret q rfl dX3_addWish_29 ⟨Nat.le_refl _, Nat.le_refl _⟩ ?_
    subst hx
    have k1 := hC.putWi hN (p := p) (k := nWi N p) (v := nI h) (by omega) h6
    have c1 : Cn (mPuts N p (12 + nWi N p) (nI h)) := wishC1 hN (by omega) h6
    have eW : nPo (mPuts N p (12 + nWi N p) (nI h)) = nPo N := by unfold nPo mPuts; rw [upd_ne (by omega)]
    refine ⟨rfl, rfl, rfl, rfl, rfl, (Fr.rf.put (by omega)).put (by omega), k1.putWc c1 (k := nWi N p + 1) (by omega) (by omega) (fun i hi => ?_)⟩
    by_cases e : i = nWi N p
    · subst e
      rw [upI_s]
      exact upd_eq.symm
    · rw [upI_n (Or.inr e), hC.wf h8 hp (by omega) (by omega)]
      exact (upd_ne (by omega)).symm
end ClsS
