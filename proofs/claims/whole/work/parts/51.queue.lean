/-! the plain queue, the lot -/
theorem rg_n {x : Int32} {lo hi : Nat} (h : rg x lo hi) : ∃ v, x = nI v ∧ lo ≤ v ∧ v ≤ hi := h
theorem waited_n {w d : Nat} (hd : d ≤ 999) : (1000 : Int32) + 7 * nI w - nI d = nI (1000 + 7 * w - d) := by
  have e1 : (7 : Int32) * nI w = nI (7 * w) := pk_mul 7 w
  have e2 : (1000 : Int32) + nI (7 * w) = nI (1000 + 7 * w) := nI_add 1000 (7 * w)
  rw [e1, e2, pk_sub (by omega)]
theorem imax_n {x : Int32} {k : Nat} (hx : x = nI k) (hk : k < 2 ^ 31) : imax 1 x = nI (max 1 k) := by
  subst hx
  unfold imax
  by_cases h : 1 < k
  · have q : (1 : Int32) < nI k := (nI_ltI (a := 1) (by decide) hk).mpr h
    rw [if_pos q]
    congr 1
    omega
  · have q : ¬ (1 : Int32) < nI k := fun q => h ((nI_ltI (a := 1) (by decide) hk).mp q)
    rw [if_neg q]
    have : max 1 k = 1 := by omega
    rw [this]
    rfl
theorem mWaited_rg {N : Nat → Int32} {p : Nat} (hR : Rg N) (hp : p < nPo N) : rg (mWaited N p) 1 1141 := by
  obtain ⟨w, w1, w2, w3⟩ := hR.2.2.1
  obtain ⟨d, d1, d2, d3⟩ := (hR.1 p hp).2.2.2
  unfold mWaited
  rw [w1, d1, waited_n d3]
  have e : nI (1000 + 7 * w - d) / 7 = nI ((1000 + 7 * w - d) / 7) := pk_div (d := 7) (by omega) (by decide) (by decide)
  exact ⟨_, imax_n e (by omega), by omega, by omega⟩
theorem mBand_rg {N : Nat → Int32} {p : Nat} (hR : Rg N) (hp : p < nPo N) : rg (mBand N p) 1 4 := by
  obtain ⟨w, w1, w2, w3⟩ := hR.2.2.1
  obtain ⟨⟨b, b1, b2, b3⟩, -, -, d, d1, d2, d3⟩ := hR.1 p hp
  have hr := hR.2.2.2 4 (by decide)
  obtain ⟨a, a1, a2, a3⟩ := rng (x := 1) (y := 999) (v := N 228) (by decide) hr.1 hr.2 (by decide)
  unfold mBand
  rw [w1, d1, waited_n d3, a1, b1, pk_div (by omega) (by omega) (by omega)]
  generalize hq : (1000 + 7 * w - d) / a = q
  have hq2 : q ≤ 1000 + 7 * w - d := by rw [← hq]; exact Nat.div_le_self _ _
  by_cases hb : q ≤ b
  · rw [pk_sub hb]
    exact ⟨_, imax_n rfl (by omega), by omega, by omega⟩
  · have hn : nI b - nI q < 0 := pk_sneg (by omega) (by omega)
    refine ⟨1, ?_, by omega, by omega⟩
    unfold imax
    rw [if_neg]
    · rfl
    · intro h1
      have h2 := (fa_lt _ _).mp h1
      have h3 := (fa_lt _ _).mp hn
      have e1 : (1 : Int32).toInt = 1 := by decide
      have e0 : (0 : Int32).toInt = 0 := by decide
      omega
def mPlW (N : Nat → Int32) (p : Nat) : Int32 := (1000 * mBand N p + N (80 + 18 * p + 3)) * 8 + nI p
theorem mPlW_n {N : Nat → Int32} {p : Nat} (hR : Rg N) (hp : p < nPo N) : ∃ b d, mPlW N p = nI ((1000 * b + d) * 8 + p) ∧ 1 ≤ b ∧ b ≤ 4 ∧ d ≤ 999 := by
  obtain ⟨b, b1, b2, b3⟩ := mBand_rg hR hp
  obtain ⟨d, d1, d2, d3⟩ := (hR.1 p hp).2.2.2
  refine ⟨b, d, ?_, b2, b3, d3⟩
  unfold mPlW
  rw [b1, d1]
  exact gadd (gmul (gadd (gmul (a := 1000) rfl rfl) rfl) (b := 8) rfl) rfl
theorem mPlW_inj {N : Nat → Int32} {p q : Nat} (hR : Rg N) (h8 : nPo N ≤ 8) (hp : p < nPo N) (hq : q < nPo N) (h : mPlW N p = mPlW N q) : p = q := by
  obtain ⟨b, d, e, b1, b2, b3⟩ := mPlW_n hR hp
  obtain ⟨c, f, g, c1, c2, c3⟩ := mPlW_n hR hq
  rw [e, g] at h
  have := (nI_eq (by omega) (by omega)).mp h
  omega
theorem mPlW_pos {N : Nat → Int32} {p : Nat} (hR : Rg N) (h8 : nPo N ≤ 8) (hp : p < nPo N) : (-1 : Int32) < mPlW N p := by
  obtain ⟨b, d, e, b1, b2, b3⟩ := mPlW_n hR hp
  rw [e, fa_lt, nI_toInt (by omega)]
  have : (-1 : Int32).toInt = -1 := by decide
  omega
theorem fst_min {w : Nat → Int32} {S : Nat → Bool} : ∀ {n b : Nat}, fst w S n = some b → ∀ i, i < n → S i = true → w b ≤ w i
  | 0, b, h => fun i hi => absurd hi (Nat.not_lt_zero i)
  | n + 1, b, h => by
    intro i hi hs
    have rfl' : ∀ x : Int32, x ≤ x := fun x => by rw [fa_le]; omega
    cases hS : S n with
    | false =>
      rw [fst_no hS] at h
      have : i ≠ n := fun e => by rw [e, hS] at hs; cases hs
      exact fst_min h i (by omega) hs
    | true =>
      cases e : fst w S n with
      | none =>
        rw [fst_new hS e] at h
        cases h
        by_cases hin : i = n
        · subst hin
          exact rfl' _
        · exact absurd (fst_none e i (by omega)) (by rw [hs]; exact Bool.noConfusion)
      | some c =>
        by_cases hw : w n < w c
        · rw [fst_less hS e hw] at h
          cases h
          by_cases hin : i = n
          · subst hin
            exact rfl' _
          · have h1 := fst_min e i (by omega) hs
            have h2 := (fa_lt _ _).mp hw
            rw [fa_le] at h1 ⊢
            omega
        · rw [fst_ge hS e hw] at h
          cases h
          by_cases hin : i = n
          · subst hin
            exact fa_of_nlt hw
          · exact fst_min e i (by omega) hs
theorem fst_has {w : Nat → Int32} {S : Nat → Bool} {n : Nat} (h : 0 < fa_cnt S n) : ∃ b, fst w S n = some b := by
  cases e : fst w S n with
  | some b => exact ⟨b, rfl⟩
  | none =>
    exfalso
    have := fst_none e
    have h0 : fa_cnt S n = fa_cnt (fun _ => false) n := fa_cnt_cong (fun k hk => this k hk)
    have : ∀ n, fa_cnt (fun _ => false) n = 0 := by
      intro n
      induction n with
      | zero => rfl
      | succ n ih => rw [fa_cnt_no rfl]; exact ih
    rw [h0, this] at h
    omega
def qS (N : Nat → Int32) (last : Int32) (p : Nat) : Bool := mIn N p && decide (last < mPlW N p)
def qNx (N : Nat → Int32) (last : Int32) : Option Nat := fst (mPlW N) (qS N last) (nPo N)
def qL (N : Nat → Int32) : Nat → Int32
  | 0 => -1
  | j + 1 => match qNx N (qL N j) with
    | some p => mPlW N p
    | none => -1
theorem qL_s {N : Nat → Int32} {j p : Nat} (h : qNx N (qL N j) = some p) : qL N (j + 1) = mPlW N p := by
  show (match qNx N (qL N j) with
    | some p => mPlW N p
    | none => -1) = _
  rw [h]
theorem q_cnt0 {N : Nat → Int32} (hR : Rg N) (h8 : nPo N ≤ 8) : fa_cnt (qS N (-1)) (nPo N) = fa_cnt (mIn N) (nPo N) := by
  refine (fa_cnt_cong fun k hk => ?_)
  have h := mPlW_pos hR h8 hk
  unfold qS
  rw [decide_eq_true h, Bool.and_true]
theorem q_step {N : Nat → Int32} (hR : Rg N) (h8 : nPo N ≤ 8) {last : Int32} {p : Nat} (hp : qNx N last = some p) : fa_cnt (qS N last) (nPo N) = fa_cnt (qS N (mPlW N p)) (nPo N) + 1 := by
  have hlt := fst_lt hp
  have hmin := fst_min hp
  have hx : qS N (mPlW N p) p = false := by
    have : ¬ mPlW N p < mPlW N p := by rw [fa_lt]; omega
    unfold qS
    rw [decide_eq_false this, Bool.and_false]
  have hin : mIn N p = true ∧ last < mPlW N p := by
    have := hlt.2
    unfold qS at this
    rw [Bool.and_eq_true] at this
    exact ⟨this.1, of_decide_eq_true this.2⟩
  have hne : ∀ q, q < nPo N → q ≠ p → qS N last q = qS N (mPlW N p) q := by
    intro q hq hqp
    cases hi : mIn N q with
    | false =>
      unfold qS
      rw [hi, Bool.false_and, Bool.false_and]
    | true =>
      have : last < mPlW N q ↔ mPlW N p < mPlW N q := by
        constructor
        · intro h
          have hs : qS N last q = true := by
            unfold qS
            rw [hi, decide_eq_true h]
            rfl
          have := hmin q hq hs
          exact fa_le_ne this (fun e => hqp (mPlW_inj hR h8 hlt.1 hq e).symm)
        · intro h
          have h2 := (fa_lt _ _).mp h
          have h3 := (fa_lt _ _).mp hin.2
          rw [fa_lt]
          omega
      unfold qS
      rw [decide_eq_decide.mpr this]
  have h9 := fa_cnt_plus (P := fun q => decide (q < nPo N) && qS N (mPlW N p) q) (Q := fun q => decide (q < nPo N) && qS N last q) (p := p) (by show (_ && _) = false; rw [hx, Bool.and_false]) (by show (_ && _) = true; rw [hlt.2, decide_eq_true hlt.1]; rfl) (fun q hq => by
    show (decide (q < nPo N) && qS N last q) = (decide (q < nPo N) && qS N (mPlW N p) q)
    by_cases h : q < nPo N
    · rw [hne q h hq]
    · rw [decide_eq_false h, Bool.false_and, Bool.false_and]) (nPo N)
  have e1 : fa_cnt (fun q => decide (q < nPo N) && qS N last q) (nPo N) = fa_cnt (qS N last) (nPo N) := fa_cnt_cong (fun k hk => by show (_ && _) = _; rw [decide_eq_true hk, Bool.true_and])
  have e2 : fa_cnt (fun q => decide (q < nPo N) && qS N (mPlW N p) q) (nPo N) = fa_cnt (qS N (mPlW N p)) (nPo N) := fa_cnt_cong (fun k hk => by show (_ && _) = _; rw [decide_eq_true hk, Bool.true_and])
  rw [e1, e2, if_pos hlt.1] at h9
  exact h9
theorem q_cnt {N : Nat → Int32} (hR : Rg N) (h8 : nPo N ≤ 8) : ∀ j, j ≤ fa_cnt (mIn N) (nPo N) → fa_cnt (qS N (qL N j)) (nPo N) = fa_cnt (mIn N) (nPo N) - j := by
  intro j
  induction j with
  | zero =>
    intro _
    exact q_cnt0 hR h8
  | succ j ih =>
    intro hj
    have ih := ih (by omega)
    obtain ⟨p, hp⟩ := fst_has (w := mPlW N) (S := qS N (qL N j)) (n := nPo N) (by omega)
    have := q_step hR h8 hp
    rw [qL_s hp]
    omega
theorem isum_cnt {P : Nat → Bool} : ∀ n, isum (fun k => bI (P k)) n = nI (fa_cnt P n)
  | 0 => rfl
  | n + 1 => by
    show isum (fun k => bI (P k)) n + bI (P n) = _
    rw [isum_cnt n]
    cases h : P n with
    | true =>
      rw [fa_cnt_yes h]
      exact nI_1 _
    | false =>
      rw [fa_cnt_no h]
      show nI _ + 0 = _
      rw [Int32.add_zero]
def aQueue (N : Nat → Int32) (x : Int32) : An := if x < 0 then no 1 else if nI (fa_cnt (mIn N) (nPo N)) ≤ x then no 5 else ok (oN (qNx N (qL N x.toNatClampNeg)))
/-! the lot -/
def wdN (N : Nat → Int32) (p : Nat) : Nat := (mWaited N p).toNatClampNeg
def lS (N : Nat → Int32) (h : Nat) : Nat → Nat
  | 0 => 0
  | p + 1 => lS N h p + (if mCould N p h then wdN N p else 0)
def lotR (x : Int32) : Nat := (75 * x.toNatClampNeg + 74) % 65537
def aLot (N : Nat → Int32) (x y : Int32) : An := if !mFrom y 0 65536 then no 1 else if !mFrom x 0 (N 230 - 1) then no 2 else if lS N x.toNatClampNeg (nPo N) = 0 then no 5 else
  ok (nI (fa_first (fun p => decide (lotR y % lS N x.toNatClampNeg (nPo N) < lS N x.toNatClampNeg (p + 1))) (nPo N)))
theorem wdN_n {N : Nat → Int32} {p : Nat} (hR : Rg N) (hp : p < nPo N) : mWaited N p = nI (wdN N p) ∧ 1 ≤ wdN N p ∧ wdN N p ≤ 1141 := by
  obtain ⟨v, v1, v2, v3⟩ := mWaited_rg hR hp
  have e : wdN N p = v := by
    unfold wdN
    rw [v1]
    exact nI_clamp (by omega)
  rw [e]
  exact ⟨v1, v2, v3⟩
theorem lS_le {N : Nat → Int32} {h : Nat} (hR : Rg N) : ∀ p, p ≤ nPo N → lS N h p ≤ 1141 * p
  | 0, _ => Nat.zero_le _
  | p + 1, hp => by
    have := lS_le (h := h) hR p (by omega)
    have := (wdN_n hR (show p < nPo N by omega)).2.2
    show lS N h p + (if mCould N p h then wdN N p else 0) ≤ _
    split <;> omega
theorem lot_mono {N : Nat → Int32} {h : Nat} : ∀ {p q : Nat}, p ≤ q → lS N h p ≤ lS N h q := by
  intro p q hpq
  induction hpq with
  | refl => exact Nat.le_refl _
  | step _ ih => exact Nat.le_trans ih (Nat.le_add_right _ _)
theorem bt_could {N : Nat → Int32} {h p : Nat} (h8 : nPo N ≤ 8) (hp : p < nPo N) : bt (mAllC N h) p = mCould N p h := by
  unfold mAllC
  rw [iset_n _ _ (by omega), (bit_all _ (Nat.lt_of_lt_of_le (nset_lt _ _) (Nat.pow_le_pow_right (n := 2) (by decide) (show nPo N ≤ 10 by omega))) p (by omega)).1, nset_bit _ _ (by omega) p (by omega)]
  simp [hp]
