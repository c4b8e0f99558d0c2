/-! an offer noted, a let noted, a home taken: what they make of the picture -/
section Let1
variable {I J : MI} {L : ML} {b n : Nat} {sh : Shp} {N : Nat → Int32} {Q : Nat → Int64}
theorem oA_32 : ∀ j, j < 299 → lvs j = true → oA j < 32 ∧ (oA j = 30 → j = 233) := by decide +kernel
theorem CtS.offer (c : CtS I L b N Q) (hN : Cn N) (ho : nOf N < 30) {p h : Nat} {t : Bool} : CtS (upI (upI (upI (upI I (b + 32) 2 (nI (nOf N + 1))) (b + 32 + 1) (3 * nOf N + 0) (nI p)) (b + 32 + 1) (3 * nOf N + 1) (nI h)) (b + 32 + 1) (3 * nOf N + 2) (bI t)) L b (mOffered N p h t) Q := by
  have h8 := hN.p8
  have hl := hN.l8
  have eO := off_cnt (p := p) (h := h) (t := t) hN ho
  have eH : nHo (mOffered N p h t) = nHo N := by unfold nHo; rw [off_rd (by omega)]
  have eP : nPo (mOffered N p h t) = nPo N := by unfold nPo; rw [off_rd (by omega)]
  have eL : nLe (mOffered N p h t) = nLe N := by unfold nLe; rw [off_rd (by omega)]
  have u : ∀ a k, a ≠ b + 32 → a ≠ b + 33 → upI (upI (upI (upI I (b + 32) 2 (nI (nOf N + 1))) (b + 32 + 1) (3 * nOf N + 0) (nI p)) (b + 32 + 1) (3 * nOf N + 1) (nI h)) (b + 32 + 1) (3 * nOf N + 2) (bI t) a k = I a k := fun a k h1 h2 => by
    rw [upI_n (Or.inl (by omega)), upI_n (Or.inl (by omega)), upI_n (Or.inl (by omega)), upI_n (Or.inl (by omega))]
  refine ⟨⟨fun i hi => ?_, fun i hi => ?_, ?_, ?_⟩, fun i hi => ?_, fun q hq => ?_, fun k hk => ?_, fun i hi => ?_, fun q hq => ?_⟩
  · rw [u _ _ (by omega) (by omega), u _ _ (by omega) (by omega), u _ _ (by omega) (by omega), u _ _ (by omega) (by omega)]
    exact c.1.1 i hi
  · rw [u _ _ (by omega) (by omega), u _ _ (by omega) (by omega), u _ _ (by omega) (by omega)]
    exact c.1.2.1 i hi
  · rw [u _ _ (by omega) (by omega)]
    exact c.tw
  · rw [upI_n (Or.inl (by omega)), upI_n (Or.inl (by omega)), upI_n (Or.inl (by omega)), upI_n (Or.inr (by decide))]
    exact c.ow
  · obtain ⟨s1, s2⟩ := lvj_s (off_Cn (p := p) (h := h) (t := t) hN ho) hi
    by_cases h1 : i < 299
    · have hi2 : lvj N i := by
        unfold lvj at hi ⊢
        rw [eH, eP, eO] at hi
        have eW : ∀ q, q < 8 → nWi (mOffered N p h t) q = nWi N q := fun q hq => by unfold nWi; rw [off_rd (by omega)]
        rcases hi with hi | hi | hi | hi | hi | hi
        · exact Or.inl hi
        · refine Or.inr (Or.inl ⟨hi.1, hi.2.1, hi.2.2.1, hi.2.2.2.1, hi.2.2.2.2.1, ?_⟩)
          rw [← eW _ (by omega)]
          exact hi.2.2.2.2.2
        · exact Or.inr (Or.inr (Or.inl hi))
        · exact Or.inr (Or.inr (Or.inr (Or.inl hi)))
        · omega
        · omega
      rw [off_rd (by omega), u _ _ (by have := (oA_32 i h1 s2).1; omega) (by have := (oA_32 i h1 s2).1; omega)]
      exact c.2.1 i hi2
    · by_cases h2 : i = 299
      · subst h2
        show upI (upI (upI (upI I (b + 32) 2 (nI (nOf N + 1))) (b + 32 + 1) (3 * nOf N + 0) (nI p)) (b + 32 + 1) (3 * nOf N + 1) (nI h)) (b + 32 + 1) (3 * nOf N + 2) (bI t) (b + 32) 2 = _
        rw [upI_n (Or.inl (by omega)), upI_n (Or.inl (by omega)), upI_n (Or.inl (by omega)), upI_s]
        unfold mOffered
        rw [upd_eq, hN.o, nI_1]
      · obtain ⟨k, rfl⟩ : ∃ k, i = 300 + k := ⟨i - 300, by omega⟩
        have hk : k < 3 * (nOf N + 1) := by
          unfold lvj at hi
          rw [eO] at hi
          omega
        rw [oA_o, oK_o]
        show upI (upI (upI (upI I (b + 32) 2 (nI (nOf N + 1))) (b + 33) (3 * nOf N + 0) (nI p)) (b + 33) (3 * nOf N + 1) (nI h)) (b + 33) (3 * nOf N + 2) (bI t) (b + 33) k = _
        unfold mOffered mOff1
        rw [upd_ne (by omega)]
        by_cases k2 : k = 3 * nOf N + 2
        · subst k2
          rw [upI_s, show 300 + (3 * nOf N + 2) = 300 + 3 * nOf N + 2 by omega, upd_eq]
        · rw [upI_n (Or.inr k2), upd_ne (by omega)]
          by_cases k1 : k = 3 * nOf N + 1
          · subst k1
            rw [upI_s, show 300 + (3 * nOf N + 1) = 300 + 3 * nOf N + 1 by omega, upd_eq]
          · rw [upI_n (Or.inr k1), upd_ne (by omega)]
            by_cases k0 : k = 3 * nOf N
            · subst k0
              rw [show 3 * nOf N + 0 = 3 * nOf N from rfl, upI_s, upd_eq]
            · rw [upI_n (Or.inr (by omega)), upd_ne (by omega), upI_n (Or.inl (by omega))]
              have := c.2.1 (300 + k) (Or.inr (Or.inr (Or.inr (Or.inr (Or.inr ⟨by omega, by omega⟩)))))
              rw [oA_o, oK_o] at this
              exact this
  · rw [eP] at hq
    rw [u _ _ (by omega) (by omega), off_rd (by omega), off_rd (by omega)]
    exact c.br hq
  · rw [eL] at hk
    have hp9 := lPo_lt hN hk
    have hh9 := lHo_lt hN hk
    exact (c.lt hk).cong (funext fun i => u _ _ (by omega) (by omega)) (fun w hw => off_rd (by omega)) (off_rd (by omega)) (off_rd (by omega))
  · rw [eH] at hi
    exact c.qh hi
  · rw [eP] at hq
    exact c.qp hq
/-- offers begun anew -/
theorem CtS.off0 (c : CtS I L b N Q) (hN : Cn N) : CtS (upI I (b + 32) 2 0) L b (wk0 N) Q := by
  have h8 := hN.p8
  have hl := hN.l8
  have rd : ∀ j, j ≠ 299 → wk0 N j = N j := fun j hj => upd_ne hj
  have c0 : Cn (wk0 N) := hN.off' (k := 0) rfl (by omega)
  have eH : nHo (wk0 N) = nHo N := by unfold nHo; rw [rd _ (by omega)]
  have eP : nPo (wk0 N) = nPo N := by unfold nPo; rw [rd _ (by omega)]
  have eL : nLe (wk0 N) = nLe N := by unfold nLe; rw [rd _ (by omega)]
  have eO : nOf (wk0 N) = 0 := by unfold nOf wk0; rw [upd_eq]; decide
  refine ⟨⟨fun i hi => ?_, fun i hi => ?_, ?_, ?_⟩, fun i hi => ?_, fun q hq => ?_, fun k hk => ?_, fun i hi => ?_, fun q hq => ?_⟩
  · rw [upI_n (Or.inl (by omega)), upI_n (Or.inl (by omega)), upI_n (Or.inl (by omega)), upI_n (Or.inl (by omega))]
    exact c.1.1 i hi
  · rw [upI_n (Or.inl (by omega)), upI_n (Or.inl (by omega)), upI_n (Or.inl (by omega))]
    exact c.1.2.1 i hi
  · rw [upI_n (Or.inl (by omega))]
    exact c.tw
  · rw [upI_n (Or.inr (by decide))]
    exact c.ow
  · obtain ⟨s1, s2⟩ := lvj_s c0 hi
    by_cases h2 : i = 299
    · subst h2
      show upI I (b + 32) 2 0 (b + 32) 2 = upd N 299 0 299
      rw [upI_s, upd_eq]
    · have h1 : i < 299 := by
        unfold lvj at hi
        rw [eO] at hi
        have := c0.h10
        have := c0.p8
        omega
      have hi2 : lvj N i := by
        unfold lvj at hi ⊢
        rw [eH, eP, eO] at hi
        have eW : ∀ q, q < 8 → nWi (wk0 N) q = nWi N q := fun q hq => by unfold nWi; rw [rd _ (by omega)]
        rcases hi with hi | hi | hi | hi | hi | hi
        · exact Or.inl hi
        · refine Or.inr (Or.inl ⟨hi.1, hi.2.1, hi.2.2.1, hi.2.2.2.1, hi.2.2.2.2.1, ?_⟩)
          rw [← eW _ (by omega)]
          exact hi.2.2.2.2.2
        · exact Or.inr (Or.inr (Or.inl hi))
        · exact Or.inr (Or.inr (Or.inr (Or.inl hi)))
        · omega
        · omega
      rw [rd _ h2, upI_n (Or.inl (by have := (oA_32 i h1 s2).1; omega))]
      exact c.2.1 i hi2
  · rw [eP] at hq
    rw [upI_n (Or.inl (by omega)), rd _ (by omega), rd _ (by omega)]
    exact c.br hq
  · rw [eL] at hk
    have hp9 := lPo_lt hN hk
    have hh9 := lHo_lt hN hk
    exact (c.lt hk).cong (if_neg (by omega)) (fun w hw => rd _ (by omega)) (rd _ (by omega)) (rd _ (by omega))
  · rw [eH] at hi
    exact c.qh hi
  · rw [eP] at hq
    exact c.qp hq
/-- a let's row as the class tells it -/
def letV (N : Nat → Int32) (p h : Nat) (o : Int32) (w : Nat) : Int32 := match w with
  | 0 => nI p
  | 1 => nI h
  | 2 => N 232
  | 3 => N (8 * h + 5) + 1
  | 4 => bI (mLocal N h)
  | 5 => bI (mQuota N)
  | 6 => o
  | 7 => mBand N p
  | 8 => bI (!decide (N (80 + 18 * p + 4) = -1))
  | 9 => bI (decide (N (80 + 18 * p + 2) = N (8 * h + 1)))
  | _ => N (8 * h + 1)
def LtP (n : Nat) (sh : Shp) (I J : MI) (b c k : Nat) (V : Nat → Int32) : Prop := (∀ a, a ≠ b + 30 → a ≠ b + 31 → J a = I a) ∧ TbO n sh J (b + 30) 88 11 (c + 1) ∧ (∀ i, i < 11 * c → J (b + 31) i = I (b + 31) i) ∧ ∀ w, w < k → J (b + 31) (11 * c + w) = V w
theorem LtP.step {c k : Nat} {V : Nat → Int32} {v : Int32} (h : LtP n sh I J b c k V) (hv : V k = v) : LtP n sh I (upI J (b + 30 + 1) (11 * c + k) v) b c (k + 1) V := by
  refine ⟨fun a h1 h2 => (if_neg (by omega)).trans (h.1 a h1 h2), h.2.1.set, fun i hi => ?_, fun w hw => ?_⟩
  · rw [upI_n (Or.inr (by omega))]
    exact h.2.2.1 i hi
  · by_cases e : w = k
    · subst e
      rw [hv]
      exact upI_s
    · rw [upI_n (Or.inr (by omega))]
      exact h.2.2.2 w (by omega)
theorem LtP.begin {c : Nat} {V : Nat → Int32} (h : TbO n sh I (b + 30) 88 11 c) (hc : c < 8) : LtP n sh I (upI I (b + 30) 2 (nI (c + 1))) b c 0 V := by
  refine ⟨fun a h1 h2 => if_neg h1, h.cnt (by omega) (by omega), fun i hi => upI_n (Or.inl (by omega)), fun w hw => absurd hw (Nat.not_lt_zero w)⟩
def tkN (N : Nat → Int32) (p h : Nat) (o : Int32) : Nat → Int32 := upd (tk8 N p h o) 233 (N 233 + 1)
section TkR
variable {p h : Nat} {o : Int32}
theorem tk8_row (w : Nat) (hw : w < 8) : tk8 N p h o (234 + 8 * nLe N + w) = if w = 5 then bI (mQuota N) + (if N (80 + 18 * p + 4) = -1 then 0 else 2) else letV N p h o w := by
  unfold tk8 tk7 tk6 tk5 tk4 tk3 tk2 tk1
  match w, hw with
  | 0, _ => rw [upd_ne (by omega), upd_ne (by omega), upd_ne (by omega), upd_ne (by omega), upd_ne (by omega), upd_ne (by omega), upd_ne (by omega)]; exact upd_eq
  | 1, _ => rw [upd_ne (by omega), upd_ne (by omega), upd_ne (by omega), upd_ne (by omega), upd_ne (by omega), upd_ne (by omega), upd_eq]; rfl
  | 2, _ => rw [upd_ne (by omega), upd_ne (by omega), upd_ne (by omega), upd_ne (by omega), upd_ne (by omega), upd_eq]; rfl
  | 3, _ => rw [upd_ne (by omega), upd_ne (by omega), upd_ne (by omega), upd_ne (by omega), upd_eq]; rfl
  | 4, _ => rw [upd_ne (by omega), upd_ne (by omega), upd_ne (by omega), upd_eq]; rfl
  | 5, _ => rw [upd_ne (by omega), upd_ne (by omega), upd_eq]; rfl
  | 6, _ => rw [upd_ne (by omega), upd_eq]; rfl
  | 7, _ => rw [upd_eq]; rfl
theorem tk8_hi {j : Nat} (hj : 234 + 8 * nLe N + 8 ≤ j) : tk8 N p h o j = N j := by
  unfold tk8 tk7 tk6 tk5 tk4 tk3 tk2 tk1
  rw [upd_ne (by omega), upd_ne (by omega), upd_ne (by omega), upd_ne (by omega), upd_ne (by omega), upd_ne (by omega), upd_ne (by omega), upd_ne (by omega)]
/-- rows with a let more: what they hold -/
def LtM (N M : Nat → Int32) (p h : Nat) (o : Int32) : Prop := (∀ j, j < 234 + 8 * nLe N → j ≠ 233 → (∀ q, q < 8 → j ≠ 80 + 18 * q + 9) → M j = N j) ∧ (∀ j, 234 + 8 * nLe N + 8 ≤ j → M j = N j) ∧ M 233 = N 233 + 1 ∧ ∀ w, w < 8 → M (234 + 8 * nLe N + w) = tk8 N p h o (234 + 8 * nLe N + w)
theorem LtM.one : LtM N (tkN N p h o) p h o := ⟨fun j h1 h2 _ => (upd_ne h2).trans (tk8_lo h1), fun j hj => (upd_ne (by omega)).trans (tk8_hi hj), upd_eq, fun w hw => upd_ne (by omega)⟩
theorem LtM.pas {M : Nat → Int32} {q : Nat} {v : Int32} (h1 : LtM N M p h o) (hq : q < 8) : LtM N (mPuts M q 9 v) p h o := ⟨fun j a b c => (upd_ne (c q hq)).trans (h1.1 j a b c), fun j hj => (upd_ne (by omega)).trans (h1.2.1 j hj), (upd_ne (by omega)).trans h1.2.2.1, fun w hw => (upd_ne (by omega)).trans (h1.2.2.2 w hw)⟩
theorem LtM.cn {M : Nat → Int32} (m : LtM N M p h o) (c : Cn N) (hl : nLe N < 8) (hp : p < 8) (hh : h < 10) : Cn M ∧ nHo M = nHo N ∧ nPo M = nPo N ∧ nLe M = nLe N + 1 ∧ nOf M = nOf N := by
  have g : ∀ j, j < 234 + 8 * nLe N → j ≠ 233 → (∀ q, q < 8 → j ≠ 80 + 18 * q + 9) → M j = N j := m.1
  have h8 := c.p8
  have e233 : M 233 = nI (nLe N + 1) := by rw [m.2.2.1, c.l, nI_1]
  have e299 : M 299 = N 299 := m.2.1 299 (by omega)
  have eH : nHo M = nHo N := by unfold nHo; rw [g _ (by omega) (by omega) (fun q hq => by omega)]
  have eP : nPo M = nPo N := by unfold nPo; rw [g _ (by omega) (by omega) (fun q hq => by omega)]
  have eL : nLe M = nLe N + 1 := by unfold nLe; rw [e233]; exact nI_clamp (by omega)
  have eO : nOf M = nOf N := by unfold nOf; rw [e299]
  have eW : ∀ q, q < 8 → nWi M q = nWi N q := fun q hq => by unfold nWi; rw [g _ (by omega) (by omega) (fun r hr => by omega)]
  have eB : ∀ q, q < 8 → nBi M q = nBi N q := fun q hq => by unfold nBi; rw [g _ (by omega) (by omega) (fun r hr => by omega)]
  refine ⟨⟨⟨by rw [eH, g _ (by omega) (by omega) (fun q hq => by omega)]; exact c.h, by rw [eH]; exact c.h10⟩, ⟨by rw [eP, g _ (by omega) (by omega) (fun q hq => by omega)]; exact c.p, by rw [eP]; exact c.p8⟩, ⟨by rw [eL]; exact e233, by omega⟩, ⟨by rw [eO, e299]; exact c.o, by rw [eO]; exact c.o30⟩, by rw [g _ (by omega) (by omega) (fun q hq => by omega)]; exact c.age,
    fun q hq => ⟨⟨by rw [eW q hq, g _ (by omega) (by omega) (fun r hr => by omega)]; exact c.w hq, by rw [eW q hq]; exact c.w6 hq⟩, ⟨by rw [eB q hq, g _ (by omega) (by omega) (fun r hr => by omega)]; exact c.bi hq, by rw [eB q hq]; exact c.bi10 hq⟩, by rw [g _ (by omega) (by omega) (fun r hr => by omega)]; exact c.ho hq, fun k hk => ?_⟩, fun i hi => by rw [g _ (by omega) (by omega) (fun r hr => by omega)]; exact c.who hi, fun k hk => ?_⟩, eH, eP, eL, eO⟩
  · rw [eW q hq] at hk
    have := c.w6 hq
    rw [g _ (by omega) (by omega) (fun r hr => by omega)]
    exact c.wi hq hk
  · rw [eL] at hk
    by_cases e : k = nLe N
    · subst e
      rw [m.2.2.2 0 (by decide), m.2.2.2 1 (by decide), tk8_row 0 (by decide), tk8_row 1 (by decide)]
      exact ⟨⟨p, hp, rfl⟩, h, hh, rfl⟩
    · rw [g _ (by omega) (by omega) (fun r hr => by omega), g _ (by omega) (by omega) (fun r hr => by omega)]
      exact ⟨c.lp (by omega), c.lh (by omega)⟩
theorem LtM.ok {M : Nat → Int32} (m : LtM N M p h o) (r : Ok N) (hl : nLe N < 8) (hp : p < 8) (hh : h < 10) : Ok M := by
  obtain ⟨c, eH, eP, eL, eO⟩ := m.cn r.1 hl hp hh
  have h8 := r.1.p8
  have g : ∀ j, j < 234 + 8 * nLe N → j ≠ 233 → (∀ q, q < 8 → j ≠ 80 + 18 * q + 9) → M j = N j := m.1
  refine ⟨c, r.2.1.cong r.1 (g _ (by omega) (by omega) (fun q hq => by omega)) (g _ (by omega) (by omega) (fun q hq => by omega)) (fun q w hq hw => g _ (by omega) (by omega) (fun r hr => by omega)) (fun i w hi hw => g _ (by omega) (by omega) (fun r hr => by omega)) (g _ (by omega) (by omega) (fun q hq => by omega)) (fun u hu => g _ (by omega) (by omega) (fun q hq => by omega)), r.2.2.1.cong r.1 (g _ (by omega) (by omega) (fun q hq => by omega)) (fun q hq => ⟨g _ (by omega) (by omega) (fun r hr => by omega), g _ (by omega) (by omega) (fun r hr => by omega)⟩), fun k hk => ?_⟩
  rw [eL] at hk
  by_cases e : k = nLe N
  · subst e
    rw [m.2.2.2 5 (by decide), tk8_row 5 (by decide), if_pos rfl]
    cases mQuota N <;> by_cases e4 : N (80 + 18 * p + 4) = -1
    · rw [if_pos e4]; exact ⟨0, by decide, rfl⟩
    · rw [if_neg e4]; exact ⟨2, by decide, rfl⟩
    · rw [if_pos e4]; exact ⟨1, by decide, rfl⟩
    · rw [if_neg e4]; exact ⟨3, by decide, rfl⟩
  · rw [g _ (by omega) (by omega) (fun r hr => by omega)]
    exact r.2.2.2 k (by omega)
theorem LtO.cong2 {k : Nat} {M : Nat → Int32} (h : LtO I b N k) (hJ : ∀ w, w < 11 → J (b + 31) (11 * k + w) = I (b + 31) (11 * k + w)) (hw : ∀ w, w < 8 → M (234 + 8 * k + w) = N (234 + 8 * k + w)) (ht : M (80 + 18 * lPo N k + 2) = N (80 + 18 * lPo N k + 2)) (hd : M (8 * lHo N k + 1) = N (8 * lHo N k + 1)) : LtO J b M k := by
  have eP : lPo M k = lPo N k := by unfold lPo; rw [hw 0 (by decide)]
  have eH : lHo M k = lHo N k := by unfold lHo; rw [hw 1 (by decide)]
  obtain ⟨a1, a2, a3, a4, a5⟩ := h
  refine ⟨fun w hw8 h5 => by rw [hJ w (by omega), hw w hw8]; exact a1 w hw8 h5, by rw [hJ 5 (by decide), hw 5 (by decide)]; exact a2, by rw [hJ 8 (by decide), hw 5 (by decide)]; exact a3, by rw [hJ 9 (by decide), eP, eH, ht, hd]; exact a4, by rw [hJ 10 (by decide), eH, hd]; exact a5⟩
theorem CtS.addLet (c : CtS I L b N Q) (hN : Cn N) (hl : nLe N < 8) (hp : p < 8) (hh : h < 10) (k : LtP n sh I J b (nLe N) 11 (letV N p h o)) : CtS J L b (tkN N p h o) Q := by
  have m : LtM N (tkN N p h o) p h o := LtM.one
  obtain ⟨c2, eH, eP, eL, eO⟩ := m.cn hN hl hp hh
  have h8 := hN.p8
  have g : ∀ j, j < 234 + 8 * nLe N → j ≠ 233 → (∀ q, q < 8 → j ≠ 80 + 18 * q + 9) → tkN N p h o j = N j := m.1
  have g9 : ∀ j, j < 233 → tkN N p h o j = N j := fun j hj => (upd_ne (by omega)).trans (tk8_lo (by omega))
  have e299 : tkN N p h o 299 = N 299 := m.2.1 299 (by omega)
  have u : ∀ a j, a ≠ b + 30 → a ≠ b + 31 → J a j = I a j := fun a j h1 h2 => congrFun (k.1 a h1 h2) j
  refine ⟨⟨fun i hi => ?_, fun i hi => ?_, ?_, ?_⟩, fun i hi => ?_, fun q hq => ?_, fun i hi => ?_, fun i hi => ?_, fun q hq => ?_⟩
  · rw [u _ _ (by omega) (by omega), u _ _ (by omega) (by omega), u _ _ (by omega) (by omega), u _ _ (by omega) (by omega)]
    exact c.1.1 i hi
  · rw [u _ _ (by omega) (by omega), u _ _ (by omega) (by omega), u _ _ (by omega) (by omega)]
    exact c.1.2.1 i hi
  · exact k.2.1.wd
  · rw [u _ _ (by omega) (by omega)]
    exact c.ow
  · have hi := lvj_cong (N := N) (g9 _ (by omega)) (g9 _ (by omega)) e299 (fun q hq => g9 _ (by omega)) hi
    obtain ⟨s1, s2⟩ := lvj_s hN hi
    by_cases h3 : i = 233
    · subst h3
      show J (b + 30) 2 = _
      rw [k.2.1.ct, m.2.2.1, hN.l, nI_1]
    · have ha : oA i ≠ 30 ∧ oA i ≠ 31 := by
        refine ⟨fun q => ?_, (oF i s1 s2).2.2.2.2.1⟩
        by_cases h9 : i < 299
        · exact h3 ((oA_32 i h9 s2).2 q)
        · have : oA i = 32 ∨ oA i = 33 := by
            unfold oA
            rw [if_neg (by omega), if_neg (by omega), if_neg (by omega), if_neg (by omega)]
            by_cases h0 : i = 299
            · rw [if_pos h0]; exact Or.inl rfl
            · rw [if_neg h0, if_pos (by omega)]; exact Or.inr rfl
          omega
      rw [u _ _ (by omega) (by omega)]
      have e : tkN N p h o i = N i := by
        by_cases h9 : i < 233
        · exact g9 i h9
        · unfold lvs at s2
          simp only [Bool.or_eq_true, Bool.and_eq_true, decide_eq_true_eq, Bool.not_eq_true', decide_eq_false_iff_not] at s2
          exact m.2.1 i (by omega)
      rw [e]
      exact c.2.1 i hi
  · rw [eP] at hq
    rw [u _ _ (by omega) (by omega), g9 _ (by omega), g9 _ (by omega)]
    exact c.br hq
  · rw [eL] at hi
    by_cases e : i = nLe N
    · subst e
      have row := k.2.2.2
      have eP2 : lPo (tkN N p h o) (nLe N) = p := by
        unfold lPo
        rw [m.2.2.2 0 (by decide), tk8_row 0 (by decide)]
        exact nI_clamp (by omega)
      have eH2 : lHo (tkN N p h o) (nLe N) = h := by
        unfold lHo
        rw [m.2.2.2 1 (by decide), tk8_row 1 (by decide)]
        exact nI_clamp (by omega)
      refine ⟨fun w hw h5 => ?_, ?_, ?_, ?_, ?_⟩
      · rw [row w (by omega), m.2.2.2 w hw, tk8_row w hw, if_neg h5]
      · rw [row 5 (by decide), m.2.2.2 5 (by decide), tk8_row 5 (by decide), if_pos rfl]
        show bI (mQuota N) = _
        cases mQuota N <;> by_cases e4 : N (80 + 18 * p + 4) = -1
        · rw [if_pos e4]; rfl
        · rw [if_neg e4]; rfl
        · rw [if_pos e4]; rfl
        · rw [if_neg e4]; rfl
      · rw [row 8 (by decide), m.2.2.2 5 (by decide), tk8_row 5 (by decide), if_pos rfl]
        show bI (!decide (N (80 + 18 * p + 4) = -1)) = _
        cases mQuota N <;> by_cases e4 : N (80 + 18 * p + 4) = -1
        · rw [if_pos e4, decide_eq_true e4]; rfl
        · rw [if_neg e4, decide_eq_false e4]; rfl
        · rw [if_pos e4, decide_eq_true e4]; rfl
        · rw [if_neg e4, decide_eq_false e4]; rfl
      · rw [row 9 (by decide), eP2, eH2, g9 _ (by omega), g9 _ (by omega)]
        rfl
      · rw [row 10 (by decide), eH2, g9 _ (by omega)]
        rfl
    · have hk : i < nLe N := by omega
      have hp9 := lPo_lt hN hk
      have hh9 := lHo_lt hN hk
      exact (c.lt hk).cong2 (fun w hw => k.2.2.1 _ (by omega)) (fun w hw => g _ (by omega) (by omega) (fun q hq => by omega)) (g9 _ (by omega)) (g9 _ (by omega))
  · rw [eH] at hi
    exact c.qh hi
  · rw [eP] at hq
    exact c.qp hq
end TkR
end Let1
