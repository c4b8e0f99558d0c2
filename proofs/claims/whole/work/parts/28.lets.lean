/-! offers of one home, one after another -/
theorem nset_bit (S : Nat → Bool) : ∀ n, n ≤ 10 → ∀ p, p < 10 → (nset S n).testBit p = (decide (p < n) && S p)
  | 0, _, p, _ => by simp [nset]
  | n + 1, hn, p, hp => by
    have ih := nset_bit S n (by omega)
    have hlt := nset_lt S n
    rw [nset]
    by_cases hs : S n = true
    · have e1 := Nat.two_pow_add_eq_or_of_lt hlt 1
      rw [Nat.mul_one] at e1
      rw [if_pos hs, Nat.add_comm, e1, Nat.testBit_or, ih p hp, Nat.testBit_two_pow]
      by_cases e : n = p
      · subst e
        simp [hs]
      · by_cases hl : p < n
        · simp [hl, e, show p < n + 1 by omega]
        · simp [hl, e, show ¬ p < n + 1 by omega]
    · rw [if_neg hs, Nat.add_zero, ih p hp]
      have hs : S n = false := by simpa using hs
      by_cases e : p = n
      · subst e
        simp [hs]
      · by_cases hl : p < n
        · simp [hl, show p < n + 1 by omega]
        · simp [hl, show ¬ p < n + 1 by omega]
theorem fst_none {w : Nat → Int32} {S : Nat → Bool} : ∀ {n : Nat}, fst w S n = none → ∀ i, i < n → S i = false
  | 0, _, i, hi => by omega
  | n + 1, h, i, hi => by
    cases hS : S n with
    | false =>
      rw [fst_no hS] at h
      by_cases e : i = n
      · rw [e]; exact hS
      · exact fst_none h i (by omega)
    | true =>
      exfalso
      cases e : fst w S n with
      | none => rw [fst_new hS e] at h; cases h
      | some c =>
        by_cases hw : w n < w c
        · rw [fst_less hS e hw] at h; cases h
        · rw [fst_ge hS e hw] at h; cases h
/-- offers: v is who is left, k how many offers there were -/
def letsL (h : Nat) : Nat → (Nat → Int32) → Nat → Nat → Nat → Int32
  | 0, N, _, _ => N
  | f + 1, N, v, k => if v = 0 ∨ 3 ≤ k then N else match mFirst N h (nI v) with
    | none => N
    | some p => if mHope N p then (if mTake N p (nI h) then mTakes (mOffered N p h true) p h (nI (k + 1)) else letsL h f (mRefuses (mOffered N p h false) p) (v - 2 ^ p) (k + 1)) else letsL h f N (v - 2 ^ p) k
section LetsSteps
variable {h f v k p : Nat} {N : Nat → Int32}
theorem letsL_stop (h0 : v = 0 ∨ 3 ≤ k) : letsL h (f + 1) N v k = N := by rw [letsL, if_pos h0]
theorem letsL_take (h0 : ¬ (v = 0 ∨ 3 ≤ k)) (e : mFirst N h (nI v) = some p) (hm : mHope N p = true) (ht : mTake N p (nI h) = true) : letsL h (f + 1) N v k = mTakes (mOffered N p h true) p h (nI (k + 1)) := by
  rw [letsL, if_neg h0, e]
  show (if mHope N p then _ else _) = _
  rw [if_pos hm, if_pos ht]
theorem letsL_ref (h0 : ¬ (v = 0 ∨ 3 ≤ k)) (e : mFirst N h (nI v) = some p) (hm : mHope N p = true) (ht : ¬ mTake N p (nI h) = true) : letsL h (f + 1) N v k = letsL h f (mRefuses (mOffered N p h false) p) (v - 2 ^ p) (k + 1) := by
  rw [letsL, if_neg h0, e]
  show (if mHope N p then _ else _) = _
  rw [if_pos hm, if_neg ht]
theorem letsL_skip (h0 : ¬ (v = 0 ∨ 3 ≤ k)) (e : mFirst N h (nI v) = some p) (hm : ¬ mHope N p = true) : letsL h (f + 1) N v k = letsL h f N (v - 2 ^ p) k := by
  rw [letsL, if_neg h0, e]
  show (if mHope N p then _ else _) = _
  rw [if_neg hm]
end LetsSteps
def mLets (N : Nat → Int32) (h : Nat) : Nat → Int32 := letsL h 9 N (nset (fun p => mBid N p (nI h)) (nPo N)) 0
theorem first_some {N : Nat → Int32} {h v : Nat} (hv : v < 2 ^ nPo N) (h8 : nPo N ≤ 8) (h0 : ¬ v = 0) : ∃ p, mFirst N h (nI v) = some p ∧ p < nPo N ∧ v.testBit p = true := by
  have hv2 : v < 1024 := Nat.lt_of_lt_of_le hv (Nat.le_trans (Nat.pow_le_pow_right (by decide) h8) (by decide))
  cases e : mFirst N h (nI v) with
  | some p =>
    have := fst_lt e
    refine ⟨p, rfl, this.1, ?_⟩
    rw [← (bit_all v hv2 p (by omega)).1]
    exact this.2
  | none =>
    exfalso
    apply h0
    refine bit_zero v hv2 fun p hp => ?_
    by_cases hl : p < nPo N
    · rw [← (bit_all v hv2 p hp).1]
      exact fst_none e p hl
    · exact Nat.testBit_lt_two_pow (Nat.lt_of_lt_of_le hv (Nat.pow_le_pow_right (by decide) (by omega)))
theorem drop_lt {v p n : Nat} (hv : v < 2 ^ n) : v - 2 ^ p < 2 ^ n := Nat.lt_of_le_of_lt (Nat.sub_le _ _) hv
theorem pcn_0 {v : Nat} (hv : v < 1024) (h : pcn v = 0) : v = 0 := by
  refine bit_zero v hv fun p hp => ?_
  cases e : v.testBit p with
  | false => rfl
  | true =>
    have := (bit_all v hv p hp).2.2 e
    omega
/-- what stays of a row when a home is offered: the counts, and who is in but for the one who takes -/
theorem letsL_Wk (h : Nat) (hh : h < 10) : ∀ (f : Nat) (N : Nat → Int32) (v k b : Nat), Wk N b → v < 2 ^ nPo N → b + (3 - k) ≤ 30 → Wk (letsL h f N v k) (b + (3 - k)) ∧ letsL h f N v k 230 = N 230 ∧ letsL h f N v k 231 = N 231
  | 0, N, v, k, b, w, hv, hb => by
    rw [letsL]
    exact ⟨⟨w.1, w.2.1, by have := w.2.2; omega⟩, rfl, rfl⟩
  | f + 1, N, v, k, b, w, hv, hb => by
    have h8 := w.1.p8
    by_cases h0 : v = 0 ∨ 3 ≤ k
    · rw [letsL_stop h0]
      exact ⟨⟨w.1, w.2.1, by have := w.2.2; omega⟩, rfl, rfl⟩
    · obtain ⟨p, e, hp, ht⟩ := first_some (h := h) hv h8 (fun q => h0 (Or.inl q))
      have hb30 : b < 30 := by omega
      have e230 : ∀ t, mOffered N p h t 230 = N 230 := fun t => off_rd (by omega)
      have e231 : ∀ t, mOffered N p h t 231 = N 231 := fun t => off_rd (by omega)
      by_cases hm : mHope N p = true
      · have hi : mIn N p = true := by unfold mHope at hm; rw [Bool.and_eq_true] at hm; exact hm.1
        by_cases htk : mTake N p (nI h) = true
        · rw [letsL_take h0 e hm htk]
          have w1 := off_Wk (p := p) (h := h) (t := true) w hb30
          have eP : nPo (mOffered N p h true) = nPo N := by unfold nPo; rw [e231]
          have hi2 : mIn (mOffered N p h true) p = true := by unfold mIn; rw [off_rd (by omega)]; exact hi
          have w2 := takes_Wk (o := nI (k + 1)) w1 (by rw [eP]; exact hp) hh hi2
          have hl := lo_lt w1.1 w1.2.1 (by rw [eP]; exact hp) hi2
          refine ⟨⟨w2.1, w2.2.1, by have := w2.2.2; omega⟩, ?_, ?_⟩
          · rw [takes_rd w1.1 (by omega) hh hl (by omega), tkA_rd w1.1 hh (by omega) (fun q hq => by omega) (by omega) (by omega) (by omega) (by omega) (by omega), e230]
          · rw [takes_rd w1.1 (by omega) hh hl (by omega), tkA_rd w1.1 hh (by omega) (fun q hq => by omega) (by omega) (by omega) (by omega) (by omega) (by omega), e231]
        · rw [letsL_ref h0 e hm htk]
          have w1 := ref_Wk (off_Wk (p := p) (h := h) (t := false) w hb30) (show p < 8 by omega)
          have eP : nPo (mRefuses (mOffered N p h false) p) = nPo N := by unfold nPo; rw [ref_rd (by omega) (by omega) (by omega) (by omega), e231]
          obtain ⟨g1, g2, g3⟩ := letsL_Wk h hh f (mRefuses (mOffered N p h false) p) (v - 2 ^ p) (k + 1) (b + 1) w1 (by rw [eP]; exact drop_lt hv) (by omega)
          refine ⟨⟨g1.1, g1.2.1, by have := g1.2.2; omega⟩, ?_, ?_⟩
          · rw [g2, ref_rd (by omega) (by omega) (by omega) (by omega), e230]
          · rw [g3, ref_rd (by omega) (by omega) (by omega) (by omega), e231]
      · rw [letsL_skip h0 e hm]
        exact letsL_Wk h hh f N (v - 2 ^ p) k b w (drop_lt hv) hb
theorem lets_Wk {N : Nat → Int32} {h b : Nat} (hh : h < 10) (w : Wk N b) (hb : b + 3 ≤ 30) : Wk (mLets N h) (b + 3) ∧ mLets N h 230 = N 230 ∧ mLets N h 231 = N 231 :=
  letsL_Wk h hh 9 N _ 0 b w (nset_lt _ _) (by omega)
theorem p2_8 {n v : Nat} (hv : v < 2 ^ n) (hn : n ≤ 8) : v < 256 := Nat.lt_of_lt_of_le hv (Nat.pow_le_pow_right (by decide) hn)
/-! the week's end -/
def wk0 (N : Nat → Int32) : Nat → Int32 := upd N 299 0
def wkv (N : Nat → Int32) : Nat := nset (fun h => mFree (wk0 N) h) (nHo N)
def wkH1 (R : Nat → Int32) (h : Nat) : Nat → Int32 := mPutsH R h 7 (R (8 * h + 7) + (if R (8 * h + 2) = -1 then 1 else 0))
def wkH (N : Nat → Int32) : Nat → Nat → Int32
  | 0 => wk0 N
  | h + 1 => if (wkv N).testBit h then wkH1 (mLets (wkH N h) h) h else wkH N h
def wkL (R : Nat → Int32) : Nat → Nat → Int32
  | 0 => R
  | h + 1 => mPutsH (wkL R h) h 3 0
def wkS1 (R : Nat → Int32) (p : Nat) : Nat → Int32 := if R (80 + 18 * p + 7) = 0 then mPuts (mPuts R p 10 0) p 6 (imax 0 (R (80 + 18 * p + 6) - 1)) else mPuts R p 10 0
def wkS (R : Nat → Int32) (p : Nat) : Nat → Int32 := mPuts (wkS1 R p) p 7 0
def wkP (R : Nat → Int32) : Nat → Nat → Int32
  | 0 => R
  | p + 1 => wkS (wkP R p) p
def wkE (N : Nat → Int32) : Nat → Int32 := wkP (wkL (wkH N (nHo N)) (nHo N)) (nPo N)
def mWeek (N : Nat → Int32) : Nat → Int32 := upd (wkE N) 232 (wkE N 232 + 1)
theorem Wk.putsH {N : Nat → Int32} {b h w : Nat} {v : Int32} (k : Wk N b) (hh : h < 10) (hw : w < 8) (h2 : w ≠ 2) : Wk (mPutsH N h w v) b := by
  refine ⟨k.1.free (free_home hh hw h2), k.2.1.cong k.1.p8 (upd_ne (by omega)) (upd_ne (by omega)) (fun p hp => upd_ne (by omega)), ?_⟩
  have : nOf (mPutsH N h w v) = nOf N := by unfold nOf mPutsH; rw [upd_ne (by omega)]
  rw [this]; exact k.2.2
theorem Wk.puts {N : Nat → Int32} {b p w : Nat} {v : Int32} (k : Wk N b) (hp : p < 8) (hw : w < 10) (h4 : w ≠ 4) (h8 : w ≠ 8) : Wk (mPuts N p w v) b := by
  refine ⟨k.1.free (free_house hp hw h4 k.1.l8), k.2.1.cong k.1.p8 (upd_ne (by omega)) (upd_ne (by omega)) (fun q hq => upd_ne (by omega)), ?_⟩
  have : nOf (mPuts N p w v) = nOf N := by unfold nOf mPuts; rw [upd_ne (by omega)]
  rw [this]; exact k.2.2
theorem Wk.bids {N : Nat → Int32} {b p a : Nat} {v : Int32} (k : Wk N b) (hp : p < 8) (hv : v = nI a) (ha : a < 1024) : Wk (mPuts N p 10 v) b := by
  refine ⟨k.1.bids' hp hv ha, k.2.1.cong k.1.p8 (upd_ne (by omega)) (upd_ne (by omega)) (fun q hq => upd_ne (by omega)), ?_⟩
  have : nOf (mPuts N p 10 v) = nOf N := by unfold nOf mPuts; rw [upd_ne (by omega)]
  rw [this]; exact k.2.2
theorem wk0_Wk {N : Nat → Int32} (c : Cn N) (l : Lo N) : Wk (wk0 N) 0 := by
  have c0 : Cn (wk0 N) := c.off' (k := 0) rfl (by omega)
  refine ⟨c0, l.cong c.p8 (upd_ne (by omega)) (upd_ne (by omega)) (fun p hp => upd_ne (by omega)), ?_⟩
  have : nOf (wk0 N) = 0 := by unfold nOf wk0; rw [upd_eq]; decide
  omega
theorem wkH_Wk {N : Nat → Int32} (c : Cn N) (l : Lo N) : ∀ i, i ≤ nHo N → Wk (wkH N i) (3 * i) ∧ wkH N i 230 = N 230 ∧ wkH N i 231 = N 231
  | 0, _ => ⟨wk0_Wk c l, (show upd N 299 0 230 = N 230 from upd_ne (by omega)), (show upd N 299 0 231 = N 231 from upd_ne (by omega))⟩
  | i + 1, hi => by
    obtain ⟨w, e0, e1⟩ := wkH_Wk c l i (by omega)
    have h10 := c.h10
    rw [wkH]
    split
    · obtain ⟨w2, f0, f1⟩ := lets_Wk (h := i) (by omega) w (by omega)
      refine ⟨w2.putsH (by omega) (by decide) (by decide), ?_, ?_⟩
      · unfold wkH1 mPutsH; rw [upd_ne (by omega), f0, e0]
      · unfold wkH1 mPutsH; rw [upd_ne (by omega), f1, e1]
    · exact ⟨⟨w.1, w.2.1, by have := w.2.2; omega⟩, e0, e1⟩
theorem wkL_Wk {R : Nat → Int32} {b : Nat} (w : Wk R b) : ∀ i, i ≤ 10 → Wk (wkL R i) b ∧ wkL R i 230 = R 230 ∧ wkL R i 231 = R 231
  | 0, _ => ⟨w, rfl, rfl⟩
  | i + 1, hi => by
    obtain ⟨w2, e0, e1⟩ := wkL_Wk w i (by omega)
    refine ⟨w2.putsH (by omega) (by decide) (by decide), ?_, ?_⟩
    · rw [wkL]; unfold mPutsH; rw [upd_ne (by omega), e0]
    · rw [wkL]; unfold mPutsH; rw [upd_ne (by omega), e1]
theorem wkS_Wk {R : Nat → Int32} {b p : Nat} (w : Wk R b) (hp : p < 8) : Wk (wkS R p) b := by
  have w1 := w.bids (v := 0) (a := 0) hp rfl (by decide)
  refine Wk.puts ?_ hp (by decide) (by decide) (by decide)
  unfold wkS1
  split
  · exact w1.puts hp (by decide) (by decide) (by decide)
  · exact w1
theorem wkS_rd {R : Nat → Int32} {p j : Nat} (h6 : j ≠ 80 + 18 * p + 6) (h7 : j ≠ 80 + 18 * p + 7) (h10 : j ≠ 80 + 18 * p + 10) : wkS R p j = R j := by
  unfold wkS wkS1 mPuts
  rw [upd_ne h7]
  split
  · rw [upd_ne h6, upd_ne h10]
  · rw [upd_ne h10]
theorem wkP_Wk {R : Nat → Int32} {b : Nat} (w : Wk R b) : ∀ i, i ≤ 8 → Wk (wkP R i) b ∧ wkP R i 230 = R 230 ∧ wkP R i 231 = R 231
  | 0, _ => ⟨w, rfl, rfl⟩
  | i + 1, hi => by
    obtain ⟨w2, e0, e1⟩ := wkP_Wk w i (by omega)
    refine ⟨wkS_Wk w2 (by omega), ?_, ?_⟩
    · rw [wkP, wkS_rd (by omega) (by omega) (by omega), e0]
    · rw [wkP, wkS_rd (by omega) (by omega) (by omega), e1]
theorem wkE_Wk {N : Nat → Int32} (c : Cn N) (l : Lo N) : Wk (wkE N) 30 ∧ wkE N 230 = N 230 ∧ wkE N 231 = N 231 := by
  obtain ⟨w1, a0, a1⟩ := wkH_Wk c l (nHo N) (Nat.le_refl _)
  obtain ⟨w2, b0, b1⟩ := wkL_Wk w1 (nHo N) c.h10
  obtain ⟨w3, c0, c1⟩ := wkP_Wk w2 (nPo N) c.p8
  have := c.h10
  exact ⟨⟨w3.1, w3.2.1, w3.1.o30⟩, by unfold wkE; rw [c0, b0, a0], by unfold wkE; rw [c1, b1, a1]⟩
theorem week_Wk {N : Nat → Int32} (c : Cn N) (l : Lo N) : Cn (mWeek N) ∧ Lo (mWeek N) ∧ mWeek N 230 = N 230 ∧ mWeek N 231 = N 231 := by
  obtain ⟨w, e0, e1⟩ := wkE_Wk c l
  have hl := w.1.l8
  refine ⟨w.1.free ⟨by omega, by omega, by omega, by omega, by omega, fun p hp => by omega, fun h hh => by omega, fun k hk => by omega⟩, w.2.1.cong w.1.p8 (upd_ne (by omega)) (upd_ne (by omega)) (fun p hp => upd_ne (by omega)), ?_, ?_⟩
  · unfold mWeek; rw [upd_ne (by omega), e0]
  · unfold mWeek; rw [upd_ne (by omega), e1]
/-! bids as they would -/
def mLikes (N : Nat → Int32) (p k : Nat) : Nat := if N (80 + 18 * p + 11) = 0 then k else (N (80 + 18 * p + (12 + k))).toNatClampNeg
def nLikes (N : Nat → Int32) (p : Nat) : Nat := if N (80 + 18 * p + 11) = 0 then nHo N else nWi N p
/-- the bids of one house, and how many more -/
def mBidsL (N : Nat → Int32) (p : Nat) : Nat → (Nat → Int32) × Nat
  | 0 => (N, 0)
  | k + 1 => if mWhy (mBidsL N p k).1 p (mLikes N p k) = 0 then (mPuts (mBidsL N p k).1 p 10 ((mBidsL N p k).1 (80 + 18 * p + 10) ||| ((1 : Int32) <<< (nI (mLikes N p k) &&& 31))), (mBidsL N p k).2 + 1) else mBidsL N p k
def mBidsBy (N : Nat → Int32) (p : Nat) : (Nat → Int32) × Nat := mBidsL N p (nLikes N p)
def mAllL (N : Nat → Int32) : Nat → (Nat → Int32) × Int32
  | 0 => (N, 0)
  | p + 1 => ((mBidsBy (mAllL N p).1 p).1, (mAllL N p).2 + nI (mBidsBy (mAllL N p).1 p).2)
def mAllBid (N : Nat → Int32) : (Nat → Int32) × Int32 := mAllL N (nPo N)
def mOneMore (N : Nat → Int32) : Nat → Int32 := if N 232 < 999 then mWeek (mAllBid N).1 else (mAllBid N).1
