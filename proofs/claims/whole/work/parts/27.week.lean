/-! a week's end: what it computes, and that the counts stay in range -/
/-- no more lets than houses that are out -/
def Lo (N : Nat → Int32) : Prop := nLe N ≤ fa_cnt (fun p => !mIn N p) (nPo N)
def Wk (N : Nat → Int32) (b : Nat) : Prop := Cn N ∧ Lo N ∧ nOf N ≤ b
theorem fa_cnt_plus {P Q : Nat → Bool} {p : Nat} (hP : P p = false) (hQ : Q p = true) (hne : ∀ q, q ≠ p → Q q = P q) : ∀ n, fa_cnt Q n = fa_cnt P n + (if p < n then 1 else 0)
  | 0 => by simp [fa_cnt]
  | n + 1 => by
    have ih := fa_cnt_plus hP hQ hne n
    by_cases e : n = p
    · subst e
      rw [fa_cnt_yes hQ, fa_cnt_no hP, ih, if_neg (by omega), if_pos (by omega)]
    · by_cases hp : P n = true
      · rw [fa_cnt_yes (by rw [hne n e]; exact hp), fa_cnt_yes hp, ih]
        by_cases hl : p < n
        · rw [if_pos hl, if_pos (by omega)]
        · rw [if_neg hl, if_neg (by omega)]
      · have hp : P n = false := by simpa using hp
        rw [fa_cnt_no (by rw [hne n e]; exact hp), fa_cnt_no hp, ih]
        by_cases hl : p < n
        · rw [if_pos hl, if_pos (by omega)]
        · rw [if_neg hl, if_neg (by omega)]
theorem fa_cnt_lt {P : Nat → Bool} {p : Nat} (hP : P p = false) : ∀ {n : Nat}, p < n → fa_cnt P n < n
  | 0, h => by omega
  | n + 1, h => by
    by_cases e : n = p
    · subst e
      rw [fa_cnt_no hP]
      have := fa_cnt_le P n
      omega
    · have := fa_cnt_lt hP (n := n) (by omega)
      rw [fa_cnt]
      split <;> omega
theorem Cn.off' {N : Nat → Int32} (c : Cn N) {v : Int32} {k : Nat} (hv : v = nI k) (hk : k ≤ 30) : Cn (upd N 299 v) := by
  have hl := c.l8
  have u : ∀ i, i ≠ 299 → upd N 299 v i = N i := fun i hi => if_neg hi
  have eO : nOf (upd N 299 v) = k := by unfold nOf; rw [upd_eq, hv]; exact nI_clamp (by omega)
  have eH : nHo (upd N 299 v) = nHo N := by unfold nHo; rw [u _ (by omega)]
  have eP : nPo (upd N 299 v) = nPo N := by unfold nPo; rw [u _ (by omega)]
  have eL : nLe (upd N 299 v) = nLe N := by unfold nLe; rw [u _ (by omega)]
  have eW : ∀ p, p < 8 → nWi (upd N 299 v) p = nWi N p := fun p hp => by unfold nWi; rw [u _ (by omega)]
  have eB : ∀ p, p < 8 → nBi (upd N 299 v) p = nBi N p := fun p hp => by unfold nBi; rw [u _ (by omega)]
  refine ⟨⟨by rw [eH, u _ (by omega)]; exact c.h, by rw [eH]; exact c.h10⟩, ⟨by rw [eP, u _ (by omega)]; exact c.p, by rw [eP]; exact c.p8⟩, ⟨by rw [eL, u _ (by omega)]; exact c.l, by rw [eL]; exact c.l8⟩, ⟨by rw [eO, upd_eq]; exact hv, by rw [eO]; exact hk⟩, by rw [u _ (by omega)]; exact c.age, fun p hp => ⟨⟨by rw [eW p hp, u _ (by omega)]; exact c.w hp, by rw [eW p hp]; exact c.w6 hp⟩, ⟨by rw [eB p hp, u _ (by omega)]; exact c.bi hp, by rw [eB p hp]; exact c.bi10 hp⟩, by rw [u _ (by omega)]; exact c.ho hp, fun k hk => ?_⟩, fun h hh => ?_, fun k hk => ?_⟩
  · rw [eW p hp] at hk
    have := c.w6 hp
    rw [u _ (by omega)]
    exact c.wi hp hk
  · rw [u _ (by omega)]
    exact c.who hh
  · rw [eL] at hk
    rw [u _ (by omega), u _ (by omega)]
    exact ⟨c.lp hk, c.lh hk⟩
theorem Lo.cong {N M : Nat → Int32} (h : Lo N) (hp8 : nPo N ≤ 8) (hl : M 233 = N 233) (hp : M 231 = N 231) (ho : ∀ p, p < 8 → M (80 + 18 * p + 8) = N (80 + 18 * p + 8)) : Lo M := by
  have eP : nPo M = nPo N := by unfold nPo; rw [hp]
  have eL : nLe M = nLe N := by unfold nLe; rw [hl]
  unfold Lo
  rw [eP, eL, fa_cnt_cong (q := fun p => !mIn N p) (fun k hk => by unfold mIn; rw [ho k (by omega)])]
  exact h
/-- the places that an offer writes -/
theorem off_rd {N : Nat → Int32} {p h : Nat} {t : Bool} {j : Nat} (hj : j < 299) : mOffered N p h t j = N j := by
  unfold mOffered mOff1
  rw [upd_ne (by omega), upd_ne (by omega), upd_ne (by omega), upd_ne (by omega)]
theorem off_cnt {N : Nat → Int32} {p h : Nat} {t : Bool} (c : Cn N) (ho : nOf N < 30) : nOf (mOffered N p h t) = nOf N + 1 := by
  have e : mOffered N p h t 299 = nI (nOf N + 1) := by
    unfold mOffered
    rw [upd_eq, c.o, nI_1]
  show (mOffered N p h t 299).toNatClampNeg = _
  rw [e]
  exact nI_clamp (by omega)
theorem off_Cn {N : Nat → Int32} {p h : Nat} {t : Bool} (c : Cn N) (ho : nOf N < 30) : Cn (mOffered N p h t) := by
  have hl := c.l8
  have c1 : Cn (mOff1 N p h t) := by
    unfold mOff1
    have d1 := c.free (v := nI p) (free_off (j := 300 + 3 * nOf N) (by omega) hl)
    have d2 := d1.free (v := nI h) (free_off (j := 300 + 3 * nOf N + 1) (by omega) d1.l8)
    exact d2.free (free_off (by omega) d2.l8)
  unfold mOffered
  exact c1.off' (k := nOf N + 1) (by rw [c.o, nI_1]) (by omega)
theorem off_Wk {N : Nat → Int32} {p h b : Nat} {t : Bool} (w : Wk N b) (hb : b < 30) : Wk (mOffered N p h t) (b + 1) := by
  have ho : nOf N < 30 := by have := w.2.2; omega
  exact ⟨off_Cn w.1 ho, w.2.1.cong w.1.p8 (off_rd (by omega)) (off_rd (by omega)) (fun p hp => off_rd (by omega)), by rw [off_cnt w.1 ho]; have := w.2.2; omega⟩
theorem ref_rd {N : Nat → Int32} {p j : Nat} (h5 : j ≠ 80 + 18 * p + 5) (h6 : j ≠ 80 + 18 * p + 6) (h7 : j ≠ 80 + 18 * p + 7) (h8 : j ≠ 298) : mRefuses N p j = N j := by
  unfold mRefuses mRef1 mPuts
  split
  · rw [upd_ne h8, upd_ne h5]
  · rw [upd_ne h7, upd_ne h6, upd_ne h5, upd_ne h8, upd_ne h5]
theorem ref_Cn {N : Nat → Int32} {p : Nat} (c : Cn N) (hp : p < 8) : Cn (mRefuses N p) := by
  have c1 : Cn (mRef1 N p) := by
    unfold mRef1 mPuts
    have d1 := c.free (v := N (80 + 18 * p + 5) + 1) (free_house (w := 5) hp (by decide) (by decide) c.l8)
    exact d1.free (free_let (by have := d1.l8; omega) (by omega))
  unfold mRefuses
  split
  · exact c1
  · unfold mPuts
    have d2 := c1.free (v := 0) (free_house (w := 5) hp (by decide) (by decide) c1.l8)
    have d3 := d2.free (v := N 225) (free_house (w := 6) hp (by decide) (by decide) d2.l8)
    exact d3.free (free_house (w := 7) hp (by decide) (by decide) d3.l8)
theorem ref_Wk {N : Nat → Int32} {p b : Nat} (w : Wk N b) (hp : p < 8) : Wk (mRefuses N p) b := by
  refine ⟨ref_Cn w.1 hp, w.2.1.cong w.1.p8 (ref_rd (by omega) (by omega) (by omega) (by omega)) (ref_rd (by omega) (by omega) (by omega) (by omega)) (fun q hq => ref_rd (by omega) (by omega) (by omega) (by omega)), ?_⟩
  have : nOf (mRefuses N p) = nOf N := by unfold nOf; rw [ref_rd (by omega) (by omega) (by omega) (by omega)]
  rw [this]
  exact w.2.2
/-- what a let leaves as it was -/
theorem tkA_rd {N : Nat → Int32} {p h : Nat} {o : Int32} {j : Nat} (c : Cn N) (hh : h < 10) (hj : j < 234 + 8 * nLe N) (h9 : ∀ q, q < 8 → j ≠ 80 + 18 * q + 9) (h3 : j ≠ 233) (h8 : j ≠ 80 + 18 * p + 8) (h4 : j ≠ 80 + 18 * p + 4) (g2 : j ≠ 8 * h + 2) (g4 : j ≠ 8 * h + 4) : tkA N p h o j = N j := by
  unfold tkA mPutsH mPuts tk9
  rw [upd_ne g4, upd_ne g2, upd_ne h4, upd_ne h8, upd_ne h3, tkP_lo hj h9 (by have := c.p8; omega)]
theorem tkA_hi {N : Nat → Int32} {p h : Nat} {o : Int32} {j : Nat} (c : Cn N) (hp : p < 8) (hh : h < 10) (hj : 234 + 8 * nLe N + 8 ≤ j) : tkA N p h o j = N j := by
  have hl := c.l8
  unfold tkA mPutsH mPuts tk9
  rw [upd_ne (by omega), upd_ne (by omega), upd_ne (by omega), upd_ne (by omega), upd_ne (by omega), tkP_rd (fun q hq => by omega) _ c.p8]
  unfold tk8 tk7 tk6 tk5 tk4 tk3 tk2 tk1
  rw [upd_ne (by omega), upd_ne (by omega), upd_ne (by omega), upd_ne (by omega), upd_ne (by omega), upd_ne (by omega), upd_ne (by omega), upd_ne (by omega)]
theorem tkA_let {N : Nat → Int32} {p h : Nat} {o : Int32} {w : Nat} (c : Cn N) (hp : p < 8) (hh : h < 10) (hw : w < 8) : tkA N p h o (234 + 8 * nLe N + w) = tk8 N p h o (234 + 8 * nLe N + w) := by
  unfold tkA mPutsH mPuts tk9
  rw [upd_ne (by omega), upd_ne (by omega), upd_ne (by omega), upd_ne (by omega), upd_ne (by omega), tkP_rd (fun q hq => by omega) _ c.p8]
theorem tkA_Cn {N : Nat → Int32} {p h : Nat} {o : Int32} (c : Cn N) (hp : p < 8) (hh : h < 10) (hl : nLe N < 8) : Cn (tkA N p h o) := by
  have h8 := c.p8
  have rd : ∀ j, j < 234 + 8 * nLe N → (∀ q, q < 8 → j ≠ 80 + 18 * q + 9) → j ≠ 233 → j ≠ 80 + 18 * p + 8 → j ≠ 80 + 18 * p + 4 → j ≠ 8 * h + 2 → j ≠ 8 * h + 4 → tkA N p h o j = N j := fun j a1 a2 a3 a4 a5 a6 a7 => tkA_rd c hh a1 a2 a3 a4 a5 a6 a7
  have e233 : tkA N p h o 233 = nI (nLe N + 1) := by
    unfold tkA mPutsH mPuts tk9
    rw [upd_ne (by omega), upd_ne (by omega), upd_ne (by omega), upd_ne (by omega), upd_eq, c.l, nI_1]
  have eL : nLe (tkA N p h o) = nLe N + 1 := by unfold nLe at e233 ⊢; rw [e233]; exact nI_clamp (by unfold nLe at hl; omega)
  have eH : nHo (tkA N p h o) = nHo N := by unfold nHo; rw [rd _ (by omega) (fun q hq => by omega) (by omega) (by omega) (by omega) (by omega) (by omega)]
  have eP : nPo (tkA N p h o) = nPo N := by unfold nPo; rw [rd _ (by omega) (fun q hq => by omega) (by omega) (by omega) (by omega) (by omega) (by omega)]
  have r299 : tkA N p h o 299 = N 299 := tkA_hi c hp hh (by omega)
  have eO : nOf (tkA N p h o) = nOf N := by unfold nOf; rw [r299]
  have rp : ∀ q w, q < 8 → 10 ≤ w → w < 18 → tkA N p h o (80 + 18 * q + w) = N (80 + 18 * q + w) := fun q w hq h1 h2 => rd _ (by omega) (fun r hr => by omega) (by omega) (by omega) (by omega) (by omega) (by omega)
  have eW : ∀ q, q < 8 → nWi (tkA N p h o) q = nWi N q := fun q hq => by unfold nWi; rw [rp q 11 hq (by decide) (by decide)]
  have eB : ∀ q, q < 8 → nBi (tkA N p h o) q = nBi N q := fun q hq => by unfold nBi; rw [rp q 10 hq (by decide) (by decide)]
  refine ⟨⟨by rw [eH, rd _ (by omega) (fun q hq => by omega) (by omega) (by omega) (by omega) (by omega) (by omega)]; exact c.h, by rw [eH]; exact c.h10⟩, ⟨by rw [eP, rd _ (by omega) (fun q hq => by omega) (by omega) (by omega) (by omega) (by omega) (by omega)]; exact c.p, by rw [eP]; exact c.p8⟩, ⟨by rw [eL]; exact e233, by rw [eL]; omega⟩, ⟨by rw [eO, r299]; exact c.o, by rw [eO]; exact c.o30⟩, by rw [rd _ (by omega) (fun q hq => by omega) (by omega) (by omega) (by omega) (by omega) (by omega)]; exact c.age, fun q hq => ⟨⟨by rw [eW q hq, rp q 11 hq (by decide) (by decide)]; exact c.w hq, by rw [eW q hq]; exact c.w6 hq⟩, ⟨by rw [eB q hq, rp q 10 hq (by decide) (by decide)]; exact c.bi hq, by rw [eB q hq]; exact c.bi10 hq⟩, ?_, fun k hk => ?_⟩, fun a ha => ?_, fun k hk => ?_⟩
  · by_cases e : q = p
    · subst e
      refine Or.inr ⟨h, hh, ?_⟩
      unfold tkA mPutsH mPuts
      rw [upd_ne (by omega), upd_ne (by omega), upd_eq]
    · rw [rd _ (by omega) (fun r hr => by omega) (by omega) (by omega) (by omega) (by omega) (by omega)]
      exact c.ho hq
  · rw [eW q hq] at hk
    have := c.w6 hq
    rw [rp q (12 + k) hq (by omega) (by omega)]
    exact c.wi hq hk
  · by_cases e : a = h
    · subst e
      refine Or.inr ⟨p, hp, ?_⟩
      unfold tkA mPutsH
      rw [upd_ne (by omega), upd_eq]
    · rw [rd _ (by omega) (fun r hr => by omega) (by omega) (by omega) (by omega) (by omega) (by omega)]
      exact c.who ha
  · rw [eL] at hk
    by_cases e : k = nLe N
    · subst e
      rw [tkA_let c hp hh (by decide), tkA_let c hp hh (by decide)]
      unfold tk8 tk7 tk6 tk5 tk4 tk3 tk2 tk1
      constructor
      · refine ⟨p, hp, ?_⟩
        rw [upd_ne (by omega), upd_ne (by omega), upd_ne (by omega), upd_ne (by omega), upd_ne (by omega), upd_ne (by omega), upd_ne (by omega)]
        exact upd_eq
      · refine ⟨h, hh, ?_⟩
        rw [upd_ne (by omega), upd_ne (by omega), upd_ne (by omega), upd_ne (by omega), upd_ne (by omega), upd_ne (by omega), upd_eq]
    · rw [rd _ (by omega) (fun r hr => by omega) (by omega) (by omega) (by omega) (by omega) (by omega), rd _ (by omega) (fun r hr => by omega) (by omega) (by omega) (by omega) (by omega) (by omega)]
      exact ⟨c.lp (by omega), c.lh (by omega)⟩
theorem leaves_rd {N : Nat → Int32} {u : Nat} {c : Int32} {j : Nat} (h2 : j ≠ 8 * u + 2) (h3 : j ≠ 8 * u + 3) (h5 : j ≠ 8 * u + 5) : mLeaves N u c j = N j := by
  unfold mLeaves mPutsH
  rw [upd_ne h5, upd_ne h3, upd_ne h2]
theorem leaves_Cn {N : Nat → Int32} {u : Nat} {v : Int32} (c : Cn N) (hu : u < 10) : Cn (mLeaves N u v) := by
  unfold mLeaves mPutsH
  have d1 := c.who' hu (v := -1) (Or.inl rfl)
  have d2 := d1.free (v := 1) (free_home (w := 3) hu (by decide) (by decide))
  exact d2.free (free_home (w := 5) hu (by decide) (by decide))
theorem takes_Cn {N : Nat → Int32} {p h : Nat} {o : Int32} (c : Cn N) (hp : p < 8) (hh : h < 10) (hl : nLe N < 8) : Cn (mTakes N p h o) := by
  unfold mTakes
  split
  · exact tkA_Cn c hp hh hl
  · rename_i hne
    obtain ⟨u, hu, e⟩ := (c.ho hp).resolve_left hne
    rw [e, nI_clamp (by omega)]
    exact leaves_Cn (tkA_Cn c hp hh hl) hu
theorem takes_rd {N : Nat → Int32} {p h : Nat} {o : Int32} {j : Nat} (c : Cn N) (hp : p < 8) (hh : h < 10) (hl : nLe N < 8) (hj : 80 ≤ j) : mTakes N p h o j = tkA N p h o j := by
  unfold mTakes
  split
  · rfl
  · rename_i hne
    obtain ⟨u, hu, e⟩ := (c.ho hp).resolve_left hne
    rw [e, nI_clamp (by omega)]
    exact leaves_rd (by omega) (by omega) (by omega)
theorem lo_lt {N : Nat → Int32} {p : Nat} (c : Cn N) (h : Lo N) (hp : p < nPo N) (hi : mIn N p = true) : nLe N < 8 := by
  have := fa_cnt_lt (P := fun q => !mIn N q) (p := p) (by simp [hi]) hp
  have := c.p8
  unfold Lo at h
  omega
theorem takes_Wk {N : Nat → Int32} {p h b : Nat} {o : Int32} (w : Wk N b) (hp : p < nPo N) (hh : h < 10) (hi : mIn N p = true) : Wk (mTakes N p h o) b := by
  obtain ⟨c, l, ob⟩ := w
  have h8 := c.p8
  have hl := lo_lt c l hp hi
  have hp8 : p < 8 := by omega
  have rd : ∀ j, 80 ≤ j → mTakes N p h o j = tkA N p h o j := fun j hj => takes_rd c hp8 hh hl hj
  have e231 : mTakes N p h o 231 = N 231 := by rw [rd _ (by omega), tkA_rd c hh (by omega) (fun q hq => by omega) (by omega) (by omega) (by omega) (by omega) (by omega)]
  have e299 : mTakes N p h o 299 = N 299 := by rw [rd _ (by omega), tkA_hi c hp8 hh (by omega)]
  have e233 : mTakes N p h o 233 = nI (nLe N + 1) := by
    rw [rd _ (by omega)]
    unfold tkA mPutsH mPuts tk9
    rw [upd_ne (by omega), upd_ne (by omega), upd_ne (by omega), upd_ne (by omega), upd_eq, c.l, nI_1]
  refine ⟨takes_Cn c hp8 hh hl, ?_, ?_⟩
  · have eL : nLe (mTakes N p h o) = nLe N + 1 := by
      have : nLe N + 1 < 2 ^ 31 := by omega
      unfold nLe
      rw [e233]
      exact nI_clamp this
    have eP : nPo (mTakes N p h o) = nPo N := by unfold nPo; rw [e231]
    have eo : ∀ q, q < 8 → q ≠ p → mIn (mTakes N p h o) q = mIn N q := fun q hq hne => by
      unfold mIn
      rw [rd _ (by omega), tkA_rd c hh (by omega) (fun r hr => by omega) (by omega) (by omega) (by omega) (by omega) (by omega)]
    have ep : mIn (mTakes N p h o) p = false := by
      unfold mIn
      rw [rd _ (by omega)]
      unfold tkA mPutsH mPuts
      rw [upd_ne (by omega), upd_ne (by omega), upd_ne (by omega), upd_eq]
      decide
    unfold Lo at l ⊢
    rw [eL, eP]
    have hc := fa_cnt_plus (P := fun q => !mIn N q) (Q := fun q => if q < 8 then !mIn (mTakes N p h o) q else !mIn N q) (p := p) (by simp [hi]) (by simp [hp8, ep]) (fun q hq => by by_cases h8q : q < 8 <;> simp [h8q, eo q, hq]) (nPo N)
    rw [if_pos hp] at hc
    have hd : fa_cnt (fun q => !mIn (mTakes N p h o) q) (nPo N) = fa_cnt (fun q => if q < 8 then !mIn (mTakes N p h o) q else !mIn N q) (nPo N) := fa_cnt_cong (fun k hk => by simp [show k < 8 by omega])
    rw [hd, hc]
    omega
  · have : nOf (mTakes N p h o) = nOf N := by unfold nOf; rw [e299]
    rw [this]
    exact ob
