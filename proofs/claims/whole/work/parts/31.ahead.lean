/-! rows keep what lies behind their 390 ints; what a telling call may leave changed -/
theorem off_hi {N : Nat → Int32} {p h : Nat} {t : Bool} {j : Nat} (ho : nOf N < 30) (hj : 390 ≤ j) : mOffered N p h t j = N j := by
  unfold mOffered mOff1
  rw [upd_ne (by omega), upd_ne (by omega), upd_ne (by omega), upd_ne (by omega)]
theorem takes_hi {N : Nat → Int32} {p h : Nat} {o : Int32} {j : Nat} (c : Cn N) (hp : p < 8) (hh : h < 10) (hl : nLe N < 8) (hj : 390 ≤ j) : mTakes N p h o j = N j := by
  rw [takes_rd c hp hh hl (by omega), tkA_hi c hp hh (by omega)]
theorem letsL_hi (h : Nat) (hh : h < 10) : ∀ (f : Nat) (N : Nat → Int32) (v k b : Nat), Wk N b → v < 2 ^ nPo N → b + (3 - k) ≤ 30 → ∀ j, 390 ≤ j → letsL h f N v k j = N j
  | 0, N, v, k, b, w, hv, hb, j, hj => by rw [letsL]
  | f + 1, N, v, k, b, w, hv, hb, j, hj => by
    have h8 := w.1.p8
    by_cases h0 : v = 0 ∨ 3 ≤ k
    · rw [letsL_stop h0]
    · obtain ⟨p, e, hp, ht⟩ := first_some (h := h) hv h8 (fun q => h0 (Or.inl q))
      have hb30 : b < 30 := by omega
      have ho : nOf N < 30 := by have := w.2.2; omega
      by_cases hm : mHope N p = true
      · have hi : mIn N p = true := by unfold mHope at hm; rw [Bool.and_eq_true] at hm; exact hm.1
        by_cases htk : mTake N p (nI h) = true
        · rw [letsL_take h0 e hm htk]
          have w1 := off_Wk (p := p) (h := h) (t := true) w hb30
          have eP : nPo (mOffered N p h true) = nPo N := by unfold nPo; rw [off_rd (by omega)]
          have hi2 : mIn (mOffered N p h true) p = true := by unfold mIn; rw [off_rd (by omega)]; exact hi
          have hl := lo_lt w1.1 w1.2.1 (by rw [eP]; exact hp) hi2
          rw [takes_hi w1.1 (by omega) hh hl hj, off_hi ho hj]
        · rw [letsL_ref h0 e hm htk]
          have w1 := ref_Wk (off_Wk (p := p) (h := h) (t := false) w hb30) (show p < 8 by omega)
          have eP : nPo (mRefuses (mOffered N p h false) p) = nPo N := by unfold nPo; rw [ref_rd (by omega) (by omega) (by omega) (by omega), off_rd (by omega)]
          rw [letsL_hi h hh f _ _ (k + 1) (b + 1) w1 (by rw [eP]; exact drop_lt hv) (by omega) j hj, ref_rd (by omega) (by omega) (by omega) (by omega), off_hi ho hj]
      · rw [letsL_skip h0 e hm]
        exact letsL_hi h hh f N _ k b w (drop_lt hv) hb j hj
theorem wkH_hi {N : Nat → Int32} (c : Cn N) (l : Lo N) {j : Nat} (hj : 390 ≤ j) : ∀ i, i ≤ nHo N → wkH N i j = N j
  | 0, _ => (show upd N 299 0 j = N j from upd_ne (by omega))
  | i + 1, hi => by
    obtain ⟨w, -, -⟩ := wkH_Wk c l i (by omega)
    have h10 := c.h10
    rw [wkH]
    split
    · unfold wkH1 mPutsH
      rw [upd_ne (by omega)]
      unfold mLets
      rw [letsL_hi i (by omega) 9 _ _ 0 (3 * i) w (nset_lt _ _) (by omega) j hj, wkH_hi c l hj i (by omega)]
    · exact wkH_hi c l hj i (by omega)
theorem wkL_hi {R : Nat → Int32} {j : Nat} (hj : 390 ≤ j) : ∀ i, i ≤ 10 → wkL R i j = R j
  | 0, _ => rfl
  | i + 1, hi => by rw [wkL]; unfold mPutsH; rw [upd_ne (by omega), wkL_hi hj i (by omega)]
theorem wkP_hi {R : Nat → Int32} {j : Nat} (hj : 390 ≤ j) : ∀ i, i ≤ 8 → wkP R i j = R j
  | 0, _ => rfl
  | i + 1, hi => by rw [wkP, wkS_rd (by omega) (by omega) (by omega), wkP_hi hj i (by omega)]
theorem week_hi {N : Nat → Int32} (c : Cn N) (l : Lo N) {j : Nat} (hj : 390 ≤ j) : mWeek N j = N j := by
  unfold mWeek wkE
  rw [upd_ne (by omega), wkP_hi hj _ c.p8, wkL_hi hj _ c.h10, wkH_hi c l hj _ (Nat.le_refl _)]
theorem oneMore_hi {N : Nat → Int32} (c : Cn N) (l : Lo N) {j : Nat} (hj : 390 ≤ j) : mOneMore N j = N j := by
  obtain ⟨w, r⟩ := allBid_inv ⟨c, l, c.o30⟩
  unfold mOneMore
  split
  · rw [week_hi w.1 w.2.1 hj, r _ (fun q hq => by omega)]
  · exact r _ (fun q hq => by omega)
theorem ahead_inv {N : Nat → Int32} (c : Cn N) (l : Lo N) : ∀ k, Cn (itr mOneMore k N) ∧ Lo (itr mOneMore k N) ∧ itr mOneMore k N 230 = N 230 ∧ itr mOneMore k N 231 = N 231 ∧ ∀ j, 390 ≤ j → itr mOneMore k N j = N j
  | 0 => ⟨c, l, rfl, rfl, fun _ _ => rfl⟩
  | k + 1 => by
    obtain ⟨a, b, e0, e1, eh⟩ := ahead_inv c l k
    rw [itr_succ]
    obtain ⟨a2, b2, f0, f1⟩ := oneMore_inv a b
    exact ⟨a2, b2, by rw [f0, e0], by rw [f1, e1], fun j hj => by rw [oneMore_hi a b hj, eh j hj]⟩
/-- now saved aside -/
def sv (I : MI) (m : Nat) (N : Nat → Int32) : MI := upA I (m + 3) (mCopy N (I (m + 3)))
theorem sv_now {I : MI} {m : Nat} {N : Nat → Int32} (hI : I (m + 1) = N) : sv I m N (m + 1) = N := upA_off (by omega) hI
theorem sv_me {I : MI} {m : Nat} {N : Nat → Int32} (hI : I (m + 1) = N) : upA (sv I m N) (m + 1) N = sv I m N := by
  conv => rhs; rw [← upA_me (I := sv I m N) (a := m + 1), sv_now hI]
theorem sv_back {I : MI} {m : Nat} {N M : Nat → Int32} (hI : I (m + 1) = N) (hh : ∀ j, 390 ≤ j → M j = N j) : upA (upA (sv I m N) (m + 1) M) (m + 1) (mCopy (upA (sv I m N) (m + 1) M (m + 3)) (upA (sv I m N) (m + 1) M (m + 1))) = sv I m N := by
  rw [upA_upA, upA_self, upA_ne (by omega)]
  have e : mCopy (sv I m N (m + 3)) M = N := by
    funext j
    unfold sv
    rw [upA_self]
    unfold mCopy fa_fill
    by_cases hj : j < 390
    · simp [hj]
    · simp [hj, hh j (by omega)]
  rw [e]
  conv => rhs; rw [← upA_me (I := sv I m N) (a := m + 1), sv_now hI]
/-- what a telling call may leave changed: rows and fields that only help it -/
def RSc (m : Nat) (I J : MI) : Prop := (∀ a, a ≠ m → a ≠ m + 3 → (a < m + 8 ∨ m + 13 < a) → J a = I a) ∧ ∀ k, k ≠ 24 → k ≠ 25 → k ≠ 30 → J m k = I m k
theorem RSc.rf {m : Nat} {I : MI} : RSc m I I := ⟨fun _ _ _ _ => rfl, fun _ _ _ _ => rfl⟩
theorem RSc.svd {m : Nat} {I : MI} {N : Nat → Int32} : RSc m I (sv I m N) := ⟨fun a h1 h2 h3 => upA_ne h2, fun k _ _ _ => by unfold sv; rw [upA_ne (by omega)]⟩
def TlS (a : An) (z n : Nat) (sh : Shp) (I : MI) (L : ML) (m : Nat) : PoT := fun v z' n' sh' I' L' => v = some (.int a.1) ∧ z' = z ∧ n' = n ∧ sh' = sh ∧ L' = L ∧ ∃ J, RSc m I J ∧ I' = stt J m a.2
theorem TlS.ok {v : Int32} {a : An} {z n : Nat} {sh : Shp} {I J : MI} {L : ML} {m : Nat} (h : a = ok v) (hJ : RSc m I J) : TlS a z n sh I L m (some (.int v)) z n sh (stt J m 0) L := by subst h; exact ⟨rfl, rfl, rfl, rfl, rfl, J, hJ, rfl⟩
theorem TlS.no {s : Int32} {a : An} {z n : Nat} {sh : Shp} {I J : MI} {L : ML} {m : Nat} (h : a = no s) (hJ : RSc m I J) : TlS a z n sh I L m (some (.int (-1))) z n sh (stt J m s) L := by subst h; exact ⟨rfl, rfl, rfl, rfl, rfl, J, hJ, rfl⟩
def imaxf (f : Nat → Int32) : Nat → Int32
  | 0 => 0
  | k + 1 => imax (imaxf f k) (f k)
def mChain (N : Nat → Int32) : Int32 := imaxf (fun k => N (234 + 8 * k + 3)) (nLe N)
def mPassed (N : Nat → Int32) : Int32 := isum (fun p => N (80 + 18 * p + 9)) (nPo N)
def mFrees (N : Nat → Int32) : Int32 := isum (fun k => bI (mFree N k)) (nHo N)
def mIns (N : Nat → Int32) : Int32 := isum (fun k => bI (mIn N k)) (nPo N)
def aLet (N : Nat → Int32) (k w : Int32) : An := if !mFrom w 0 7 then no 1 else if !mFrom k 0 (N 233 - 1) then no 2 else ok (if w = 5 then N (234 + 8 * k.toNatClampNeg + 5) &&& 1 else N (234 + 8 * k.toNatClampNeg + w.toNatClampNeg))
def aOffer (N : Nat → Int32) (k w : Int32) : An := if !mFrom w 0 2 then no 1 else if mFrom k 0 (N 299 - 1) then ok (N (300 + 3 * k.toNatClampNeg + w.toNatClampNeg)) else no 2
def tallyF (N : Nat → Int32) (x : Int32) (k : Nat) : Int32 := bB (if x = 1 then decide (N (234 + 8 * k + 3) = 1) else decide (N (80 + 18 * lPo N k + 2) = N (8 * lHo N k + 1)))
def aTally (N : Nat → Int32) (x : Int32) : An := if !mFrom x 0 4 then no 1 else if x = 0 then ok (mChain N) else if x = 2 then ok (mLived N) else if x = 4 then ok (mPassed N) else ok (isum (tallyF N x) (nLe N))
def idn (a : Int32) (f : Nat → Int32) : Nat → Int32
  | 0 => a
  | k + 1 => idn a f k - f k
def lackP (N : Nat → Int32) (x : Int32) (p : Nat) : Int32 := bB (mIn N p && decide (N (80 + 18 * p + 1) = x))
def lackH (N : Nat → Int32) (x : Int32) (h : Nat) : Int32 := bB (mFree N h && decide (N (8 * h + 0) = x))
def aLack (N : Nat → Int32) (x : Int32) : An := if !mFrom x 1 4 then no 1 else ok (idn (isum (lackP N x) (nPo N)) (lackH N x) (nHo N))
def weeksV (N M : Nat → Int32) (w : Int32) : Int32 := if w = 0 then M 233 - N 233 else if w = 1 then M 298 - N 298 else if w = 2 then mFrees M else if w = 3 then mIns M else if w = 4 then mChain M else mPassed M - mPassed N
def aWeeks (N : Nat → Int32) (x w : Int32) : An := if !(mFrom x 0 30 && mFrom w 0 5) then no 1 else ok (weeksV N (itr mOneMore x.toNatClampNeg N) w)
