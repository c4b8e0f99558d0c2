/-! trades: who looks at which home, circle by circle -/
theorem nx_and (a b : Nat) : nI a &&& nI b = nI (a &&& b) := by
  apply Int32.toBitVec_inj.1
  show BitVec.ofNat 32 a &&& BitVec.ofNat 32 b = BitVec.ofNat 32 (a &&& b)
  apply BitVec.eq_of_getLsbD_eq
  intro i hi
  simp [hi]
theorem nx_xor (a b : Nat) : nI a ^^^ nI b = nI (a ^^^ b) := by
  apply Int32.toBitVec_inj.1
  show BitVec.ofNat 32 a ^^^ BitVec.ofNat 32 b = BitVec.ofNat 32 (a ^^^ b)
  apply BitVec.eq_of_getLsbD_eq
  intro i hi
  simp [hi]
def ctz (v : Nat) : Nat := fa_first (fun i => v.testBit i) 8
theorem ctz_all : ∀ v, v < 256 → ¬ v = 0 → ctz v < 8 ∧ v.testBit (ctz v) = true ∧ (nI v ^^^ (-1)) &&& (nI v - 1) = nI (2 ^ ctz v - 1) := by decide +kernel
theorem bit_add : ∀ c, c < 256 → ∀ p, p < 8 → c.testBit p = false → c + 2 ^ p < 256 ∧ ∀ i, i < 8 → (c + 2 ^ p).testBit i = (c.testBit i || decide (i = p)) := by decide +kernel
/-- v without c -/
def sdiff (v c : Nat) : Nat := v &&& (c ^^^ 4294967295)
theorem sdiff_n (v c : Nat) : nI v &&& (nI c ^^^ (-1)) = nI (sdiff v c) := by
  have e : (-1 : Int32) = nI 4294967295 := by decide
  rw [e, nx_xor, nx_and]
  rfl
theorem sdiff_bit {v c i : Nat} (hi : i < 32) : (sdiff v c).testBit i = (v.testBit i && !c.testBit i) := by
  unfold sdiff
  rw [Nat.testBit_and, Nat.testBit_xor]
  have : (4294967295 : Nat).testBit i = true := by
    have e : (4294967295 : Nat) = 2 ^ 32 - 1 := by decide
    rw [e, Nat.testBit_two_pow_sub_one]
    simpa using hi
  rw [this, Bool.xor_true]
theorem sdiff_lt {v c : Nat} (h : v < 256) : sdiff v c < 256 := Nat.lt_of_le_of_lt Nat.and_le_left h
/-- homes and houses agree on who lives where; wishes are of homes that are there -/
def Co (N : Nat → Int32) : Prop :=
  (∀ p, p < nPo N → N (80 + 18 * p + 4) = -1 ∨ ∃ h, h < nHo N ∧ N (80 + 18 * p + 4) = nI h ∧ N (8 * h + 2) = nI p) ∧
  (∀ h, h < nHo N → N (8 * h + 2) = -1 ∨ ∃ q, q < nPo N ∧ N (8 * h + 2) = nI q ∧ N (80 + 18 * q + 4) = nI h) ∧
  ∀ p, p < nPo N → ∀ k, k < nWi N p → ∃ h, h < nHo N ∧ N (80 + 18 * p + (12 + k)) = nI h
/-- whether a house of a set looks at a home -/
def lkW (N : Nat → Int32) (v p h : Nat) : Bool := !decide (N (8 * h + 2) = -1) && v.testBit (N (8 * h + 2)).toNatClampNeg && mFit N p h
def lkK (N : Nat → Int32) (v p : Nat) : Nat := fa_first (fun k => lkW N v p (wiN N p k)) (nWi N p)
def lkH (N : Nat → Int32) (v p : Nat) : Nat := if lkK N v p < nWi N p then wiN N p (lkK N v p) else nHm N p
def tnx (N : Nat → Int32) (v p : Nat) : Nat := (N (8 * lkH N v p + 2)).toNatClampNeg
/-- a set of houses that live somewhere -/
def Liv (N : Nat → Int32) (v : Nat) : Prop := v < 256 ∧ ∀ p, p < 8 → v.testBit p = true → p < nPo N ∧ ¬ N (80 + 18 * p + 4) = -1
theorem lkH_ok {N : Nat → Int32} {v p : Nat} (hC : Co N) (hN : Cn N) (hL : Liv N v) (hp : p < 8) (hv : v.testBit p = true) : lkH N v p < nHo N ∧ tnx N v p < 8 ∧ v.testBit (tnx N v p) = true ∧ N (8 * lkH N v p + 2) = nI (tnx N v p) := by
  have h8 := hN.p8
  have h10 := hN.h10
  obtain ⟨hpn, hho⟩ := hL.2 p hp hv
  by_cases hk : lkK N v p < nWi N p
  · have e : lkH N v p = wiN N p (lkK N v p) := if_pos hk
    have hy := fa_first_yes _ _ hk
    obtain ⟨h, h1, h2⟩ := hC.2.2 p hpn _ hk
    have ew : wiN N p (lkK N v p) = h := by
      unfold wiN
      rw [h2]
      exact nI_clamp (by omega)
    have hy : lkW N v p (wiN N p (lkK N v p)) = true := hy
    rw [ew] at hy
    unfold lkW at hy
    simp at hy
    obtain ⟨⟨y1, y2⟩, y3⟩ := hy
    obtain ⟨q, q1, q2, q3⟩ := (hC.2.1 h h1).resolve_left y1
    have et : tnx N v p = q := by
      unfold tnx
      rw [e, ew, q2]
      exact nI_clamp (by omega)
    rw [q2, nI_clamp (by omega)] at y2
    rw [et, e, ew]
    exact ⟨h1, by omega, y2, q2⟩
  · have e : lkH N v p = nHm N p := if_neg hk
    obtain ⟨h, h1, h2, h3⟩ := (hC.1 p hpn).resolve_left hho
    have ew : nHm N p = h := by
      unfold nHm
      rw [h2]
      exact nI_clamp (by omega)
    have et : tnx N v p = p := by
      unfold tnx
      rw [e, ew, h3]
      exact nI_clamp (by omega)
    rw [et, e, ew]
    exact ⟨h1, hp, hv, h3⟩
theorem itr_in {N : Nat → Int32} {v : Nat} (hC : Co N) (hN : Cn N) (hL : Liv N v) : ∀ k p, p < 8 → v.testBit p = true → itr (tnx N v) k p < 8 ∧ v.testBit (itr (tnx N v) k p) = true
  | 0, p, h1, h2 => ⟨h1, h2⟩
  | k + 1, p, h1, h2 => by
    have q := lkH_ok hC hN hL h1 h2
    exact itr_in hC hN hL k _ q.2.1 q.2.2.1
/-- the circle from one on; what they get -/
def cir (N : Nat → Int32) (v : Nat) : Nat → Nat → Nat → Nat
  | 0, c, _ => c
  | d + 1, c, p => if c.testBit p then c else cir N v d (c + 2 ^ p) (tnx N v p)
def tcir (N : Nat → Int32) (v : Nat) : Nat := cir N v 9 0 (itr (tnx N v) 8 (ctz v))
abbrev TSt : Type := Nat × (Nat → Nat) × Nat × Nat
def tRound (N : Nat → Int32) (s : TSt) : TSt := (sdiff s.1 (tcir N s.1), fun p => if (tcir N s.1).testBit p then lkH N s.1 p else s.2.1 p, s.2.2.1 + (if 1 < pcn (tcir N s.1) then 1 else 0), max s.2.2.2 (pcn (tcir N s.1)))
def tAll (N : Nat → Int32) : Nat → TSt → TSt
  | 0, s => s
  | d + 1, s => if s.1 = 0 then s else tAll N d (tRound N s)
def livS (N : Nat → Int32) : Nat := nset (fun p => !decide (N (80 + 18 * p + 4) = -1)) (nPo N)
def tEnd (N : Nat → Int32) : TSt := tAll N 8 (livS N, fun _ => 0, 0, 0)
def aTrade (N : Nat → Int32) (x : Int32) : An := if !mFrom x 0 (N 231 - 1) then no 2 else if N (80 + 18 * x.toNatClampNeg + 4) = -1 then no 5 else ok (nI ((tEnd N).2.1 x.toNatClampNeg))
def movP (N : Nat → Int32) (p : Nat) : Bool := !decide (N (80 + 18 * p + 4) = -1) && !decide (nI ((tEnd N).2.1 p) = N (80 + 18 * p + 4))
def aTrades (N : Nat → Int32) (x : Int32) : An := if !mFrom x 0 2 then no 1 else ok (if x = 0 then nI (fa_cnt (movP N) (nPo N)) else if x = 1 then nI (tEnd N).2.2.1 else nI (tEnd N).2.2.2)
theorem livS_ok {N : Nat → Int32} (hN : Cn N) : Liv N (livS N) := by
  have h8 := hN.p8
  have hlt : livS N < 2 ^ nPo N := nset_lt _ _
  refine ⟨Nat.lt_of_lt_of_le hlt (Nat.pow_le_pow_right (n := 2) (by decide) h8), fun p hp hb => ?_⟩
  unfold livS at hb
  rw [nset_bit _ _ (by omega) p (by omega)] at hb
  simp at hb
  exact hb
theorem cir_le {N : Nat → Int32} {v : Nat} (hC : Co N) (hN : Cn N) (hL : Liv N v) : ∀ d c p, (c < 256 ∧ ∀ i, i < 8 → c.testBit i = true → v.testBit i = true) → p < 8 → v.testBit p = true → (cir N v d c p < 256 ∧ ∀ i, i < 8 → (cir N v d c p).testBit i = true → v.testBit i = true) ∧ (∀ i, i < 8 → c.testBit i = true → (cir N v d c p).testBit i = true) ∧ (0 < d → (cir N v d c p).testBit p = true) := by
  intro d
  induction d with
  | zero =>
    intro c p hc hp hv
    exact ⟨hc, fun i _ h => h, fun h => absurd h (Nat.lt_irrefl 0)⟩
  | succ d ih =>
    intro c p hc hp hv
    show ((if c.testBit p then c else cir N v d (c + 2 ^ p) (tnx N v p)) < 256 ∧ _) ∧ _
    by_cases h : c.testBit p = true
    · have e : cir N v (d + 1) c p = c := if_pos h
      rw [if_pos h, e]
      exact ⟨hc, fun i _ hi => hi, fun _ => h⟩
    · have hf : c.testBit p = false := by simpa using h
      have e : cir N v (d + 1) c p = cir N v d (c + 2 ^ p) (tnx N v p) := if_neg h
      rw [if_neg h, e]
      have hb := bit_add c hc.1 p hp hf
      have q := lkH_ok hC hN hL hp hv
      have hc2 : c + 2 ^ p < 256 ∧ ∀ i, i < 8 → (c + 2 ^ p).testBit i = true → v.testBit i = true := by
        refine ⟨hb.1, fun i hi hib => ?_⟩
        rw [hb.2 i hi] at hib
        simp at hib
        rcases hib with hib | hib
        · exact hc.2 i hi hib
        · subst hib
          exact hv
      have r := ih (c + 2 ^ p) (tnx N v p) hc2 q.2.1 q.2.2.1
      refine ⟨r.1, fun i hi hib => r.2.1 i hi (by rw [hb.2 i hi, hib]; rfl), fun _ => r.2.1 p hp (by rw [hb.2 p hp]; simp)⟩
theorem tcir_ok {N : Nat → Int32} {v : Nat} (hC : Co N) (hN : Cn N) (hL : Liv N v) (h0 : ¬ v = 0) : (tcir N v < 256 ∧ ∀ i, i < 8 → (tcir N v).testBit i = true → v.testBit i = true) ∧ ∃ p, p < 8 ∧ (tcir N v).testBit p = true := by
  have hz := ctz_all v hL.1 h0
  have hi := itr_in hC hN hL 8 (ctz v) hz.1 hz.2.1
  have r := cir_le hC hN hL 9 0 _ ⟨by decide, fun i _ h => by rw [Nat.zero_testBit] at h; cases h⟩ hi.1 hi.2
  exact ⟨r.1, _, hi.1, r.2.2 (by decide)⟩
theorem Liv.diff {N : Nat → Int32} {v c : Nat} (h : Liv N v) : Liv N (sdiff v c) := ⟨sdiff_lt h.1, fun p hp hb => by
  rw [sdiff_bit (by omega)] at hb
  simp at hb
  exact h.2 p hp hb.1⟩
