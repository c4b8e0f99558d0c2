/-! acts: what they make of the row, and the rows kept for undo -/
def kShift (K : Nat → Int32) : Nat → Int32 := fa_fill (fun j => K (j + 390)) K 4290
def kPut (K N : Nat → Int32) (a i : Nat) : Nat → Int32 := fun j => if 390 * a ≤ j ∧ j < 390 * a + i then N (j - 390 * a) else K j
theorem kPut_0 {K N : Nat → Int32} {a : Nat} : kPut K N a 0 = K := by
  funext j
  unfold kPut
  rw [if_neg (by omega)]
theorem kPut_succ {K N : Nat → Int32} {a i : Nat} : upd (kPut K N a i) (390 * a + i) (N i) = kPut K N a (i + 1) := by
  funext j
  unfold upd kPut
  by_cases h : j = 390 * a + i
  · rw [if_pos h, if_pos (by omega), h]
    congr 1
    omega
  · rw [if_neg h]
    by_cases h2 : 390 * a ≤ j ∧ j < 390 * a + i
    · rw [if_pos h2, if_pos (by omega)]
    · rw [if_neg h2, if_neg (by omega)]
def mKeepK (K N : Nat → Int32) (ac : Nat) : Nat → Int32 := if ac = 12 then kPut (kShift K) N 11 390 else kPut K N ac 390
def mKeepA (ac : Nat) : Nat := if ac = 12 then 12 else ac + 1
/-- the memory once the row is kept -/
def Kp (I : MI) (m : Nat) (N : Nat → Int32) (ac : Nat) : MI := upI (upA I (m + 4) (mKeepK (I (m + 4)) N ac)) m 12 (nI (mKeepA ac))
theorem Kp_now {I : MI} {m ac : Nat} {N : Nat → Int32} (hI : I (m + 1) = N) : Kp I m N ac (m + 1) = N := upI_off (by omega) (upA_off (by omega) hI)
theorem upI_upI {I : MI} {a k : Nat} {v w : Int32} : upI (upI I a k v) a k w = upI I a k w := by
  rw [upI_upA, upI_upA, upI_upA, upA_upA, upA_self, fa_upd_twice]
theorem upA_upI {I : MI} {a b k : Nat} {v : Int32} {f : Nat → Int32} (h : a ≠ b) : upA (upI I a k v) b f = upI (upA I b f) a k v := by
  funext c
  by_cases h1 : c = a
  · subst h1
    rw [upA_ne h, upI_row (upA_ne h), upI_row rfl]
  · rw [upI_off h1 rfl]
    by_cases h2 : c = b
    · subst h2; rw [upA_self, upA_self]
    · rw [upA_ne h2, upA_ne h2, upI_off h1 rfl]
abbrev Act : Type := Int32 ⊕ (Int32 × (Nat → Int32))
def AcS (a : Act) (z n : Nat) (sh : Shp) (I : MI) (L : ML) (m : Nat) (N : Nat → Int32) (ac : Nat) : PoT := fun v z' n' sh' I' L' => z' = z ∧ n' = n ∧ sh' = sh ∧ L' = L ∧ ∃ J, RSc m I J ∧ match a with
  | .inl s => v = some (.int (-1)) ∧ I' = stt J m s
  | .inr w => v = some (.int w.1) ∧ I' = stt (upA (Kp J m N ac) (m + 1) w.2) m 0
theorem AcS.no {s : Int32} {a : Act} {z n : Nat} {sh : Shp} {I J : MI} {L : ML} {m ac : Nat} {N : Nat → Int32} (h : a = .inl s) (hJ : RSc m I J) : AcS a z n sh I L m N ac (some (.int (-1))) z n sh (stt J m s) L := by subst h; exact ⟨rfl, rfl, rfl, rfl, J, hJ, rfl, rfl⟩
theorem AcS.ok {v : Int32} {M : Nat → Int32} {a : Act} {z n : Nat} {sh : Shp} {I J : MI} {L : ML} {m ac : Nat} {N : Nat → Int32} (h : a = .inr (v, M)) (hJ : RSc m I J) : AcS a z n sh I L m N ac (some (.int v)) z n sh (stt (upA (Kp J m N ac) (m + 1) M) m 0) L := by subst h; exact ⟨rfl, rfl, rfl, rfl, J, hJ, rfl, rfl⟩
def bidN (N : Nat → Int32) (p h : Nat) : Nat → Int32 := mPuts N p 10 (N (80 + 18 * p + 10) ||| ((1 : Int32) <<< (nI h &&& 31)))
def mDropB (N : Nat → Int32) (p h : Nat) : Nat → Int32 := mPuts N p 10 (iDrop (N (80 + 18 * p + 10)) (nI h))
def aBid (N : Nat → Int32) (x y : Int32) : Act := if !mOnes N x y then .inl 2 else if ¬ mWhy N x.toNatClampNeg y.toNatClampNeg = 0 then .inl 7 else .inr (nI (pcn (nBi (bidN N x.toNatClampNeg y.toNatClampNeg) x.toNatClampNeg)), bidN N x.toNatClampNeg y.toNatClampNeg)
def aUnbid (N : Nat → Int32) (x y : Int32) : Act := if !mOnes N x y then .inl 2 else if !mBid N x.toNatClampNeg y then .inl 5 else .inr (nI (pcn (nBi (mDropB N x.toNatClampNeg y.toNatClampNeg) x.toNatClampNeg)), mDropB N x.toNatClampNeg y.toNatClampNeg)
def aAuto (N : Nat → Int32) : Act := if (mAllBid N).2 = 0 then .inl 4 else .inr ((mAllBid N).2, (mAllBid N).1)
def aWeek (N : Nat → Int32) : Act := if N 232 = 999 then .inl 3 else .inr (mWeek N 233 - N 233, mWeek N)
def wishN (N : Nat → Int32) (p h : Nat) : Nat → Int32 := mPuts (mPuts N p (12 + nWi N p) (nI h)) p 11 (nI (nWi N p + 1))
def aWish (N : Nat → Int32) (x y : Int32) : Act := if !mOnes N x y then .inl 2 else if ¬ mWish N x.toNatClampNeg y = -1 then .inl 4 else if N (80 + 18 * x.toNatClampNeg + 11) = 6 then .inl 3 else .inr (nI (nWi N x.toNatClampNeg + 1), wishN N x.toNatClampNeg y.toNatClampNeg)
/-- wishes from a place on moved one down, k of them -/
def unwL (N : Nat → Int32) (p a : Nat) : Nat → Nat → Int32
  | 0 => N
  | k + 1 => mPuts (unwL N p a k) p (12 + (a + k)) (N (80 + 18 * p + (12 + (a + k + 1))))
def unwN (N : Nat → Int32) (p a : Nat) : Nat → Int32 := mPuts (unwL N p a (nWi N p - 1 - a)) p 11 (nI (nWi N p - 1))
def aUnwish (N : Nat → Int32) (x y : Int32) : Act := if !mOnes N x y then .inl 2 else if mWish N x.toNatClampNeg y = -1 then .inl 5 else .inr (nI (nWi N x.toNatClampNeg - 1), unwN N x.toNatClampNeg (mWish N x.toNatClampNeg y).toNatClampNeg)
def leaN1 (N : Nat → Int32) (p : Nat) : Nat → Int32 := mPuts (mPuts N p 10 0) p 8 1
def leaN (N : Nat → Int32) (p : Nat) : Nat → Int32 := mPuts (if N (80 + 18 * p + 4) = -1 then leaN1 N p else mLeaves (leaN1 N p) (N (80 + 18 * p + 4)).toNatClampNeg 0) p 4 (-1)
def aLeave (N : Nat → Int32) (x : Int32) : Act := if !mFrom x 0 (N 231 - 1) then .inl 2 else if !mIn N x.toNatClampNeg then .inl 4 else .inr (mIns (leaN N x.toNatClampNeg), leaN N x.toNatClampNeg)
def shuL (N : Nat → Int32) (h : Nat) : Nat → Nat → Int32
  | 0 => N
  | p + 1 => mDropB (shuL N h p) p h
def shuN (N : Nat → Int32) (h : Nat) (t : Int32) : Nat → Int32 := shuL (mPutsH N h 6 (if t = 0 then 0 else 1)) h (nPo N)
def aShut (N : Nat → Int32) (x t : Int32) : Act := if !mFrom x 0 (N 230 - 1) then .inl 2 else if (if N (8 * x.toNatClampNeg + 6) = 1 then (1 : Int32) else 0) = t then .inl 4 else .inr (mFrees (shuN N x.toNatClampNeg t), shuN N x.toNatClampNeg t)
def neeL (N : Nat → Int32) (p : Nat) : Nat → Nat → Int32
  | 0 => N
  | h + 1 => if mFit N p h then neeL N p h else mDropB (neeL N p h) p h
def neeN (N : Nat → Int32) (p : Nat) (v : Int32) : Nat → Int32 := neeL (mPuts N p 1 v) p (nHo N)
def aNeed (N : Nat → Int32) (x v : Int32) : Act := if !mFrom v 1 4 then .inl 1 else if !mFrom x 0 (N 231 - 1) then .inl 2 else if N (80 + 18 * x.toNatClampNeg + 1) = v then .inl 4 else .inr (N (80 + 18 * x.toNatClampNeg + 1), neeN N x.toNatClampNeg v)
def aRules (N : Nat → Int32) (w v : Int32) : Act := if !(mFrom w 0 5 && mFrom v (rLeast w.toNatClampNeg) (rMost w.toNatClampNeg)) then .inl 1 else if N (224 + w.toNatClampNeg) = v then .inl 4 else .inr (N (224 + w.toNatClampNeg), upd N (224 + w.toNatClampNeg) v)
theorem bidN_b {N : Nat → Int32} {p h : Nat} (c : Cn N) (hp : p < 8) (hh : h < 10) : bidN N p h (80 + 18 * p + 10) = nI (nBi (bidN N p h) p) ∧ nBi (bidN N p h) p < 1024 := by
  obtain ⟨e1, e2⟩ := or_bits (c.bi10 hp) hh
  have c2 : Cn (bidN N p h) := c.bids' hp (by rw [c.bi hp]; exact e1) e2
  exact ⟨c2.bi hp, c2.bi10 hp⟩
theorem drop_all : ∀ v, v < 1024 → ∀ p, p < 10 → v.testBit p = false → iDrop (nI v) (nI p) = nI v := by decide +kernel
theorem dropB_v {v p : Nat} (hv : v < 1024) (hp : p < 10) : ∃ u, u < 1024 ∧ iDrop (nI v) (nI p) = nI u := by
  cases e : v.testBit p with
  | true => exact ⟨v - 2 ^ p, Nat.lt_of_le_of_lt (Nat.sub_le _ _) hv, ((bit_all v hv p hp).2.2 e).1⟩
  | false => exact ⟨v, hv, drop_all v hv p hp e⟩
theorem dropB_Wk {N : Nat → Int32} {b p h : Nat} (w : Wk N b) (hp : p < 8) (hh : h < 10) : Wk (mDropB N p h) b := by
  obtain ⟨u, hu, e⟩ := dropB_v (w.1.bi10 hp) hh
  exact w.bids hp (by rw [w.1.bi hp]; exact e) hu
theorem shuL_Wk {N : Nat → Int32} {b h : Nat} (w : Wk N b) (hh : h < 10) : ∀ i, i ≤ 8 → Wk (shuL N h i) b ∧ shuL N h i 231 = N 231 ∧ shuL N h i 230 = N 230
  | 0, _ => ⟨w, rfl, rfl⟩
  | i + 1, hi => by
    obtain ⟨w2, e, e0⟩ := shuL_Wk w hh i (by omega)
    refine ⟨dropB_Wk w2 (by omega) hh, ?_, ?_⟩
    · rw [shuL]; unfold mDropB mPuts; rw [upd_ne (by omega), e]
    · rw [shuL]; unfold mDropB mPuts; rw [upd_ne (by omega), e0]
theorem neeL_Wk {N : Nat → Int32} {b p : Nat} (w : Wk N b) (hp : p < 8) : ∀ i, i ≤ 10 → Wk (neeL N p i) b ∧ (∀ j, j ≠ 80 + 18 * p + 10 → neeL N p i j = N j)
  | 0, _ => ⟨w, fun _ _ => rfl⟩
  | i + 1, hi => by
    obtain ⟨w2, e⟩ := neeL_Wk w hp i (by omega)
    rw [neeL]
    split
    · exact ⟨w2, e⟩
    · exact ⟨dropB_Wk w2 hp (by omega), fun j hj => by unfold mDropB mPuts; rw [upd_ne hj, e j hj]⟩
theorem mWish_ix {N : Nat → Int32} {p : Nat} {y : Int32} (hw : nWi N p ≤ 6) (h : ¬ mWish N p y = -1) : ∃ a, a < nWi N p ∧ mWish N p y = nI a := by
  unfold mWish iFirst at h ⊢
  split at h
  · rename_i hl
    rw [if_pos hl]
    exact ⟨_, hl, rfl⟩
  · exact absurd rfl h
theorem unwL_rd {N : Nat → Int32} {p a j : Nat} : ∀ k, (j < 80 + 18 * p + (12 + a) ∨ 80 + 18 * p + (12 + (a + k)) ≤ j) → unwL N p a k j = N j
  | 0, _ => rfl
  | k + 1, h => by
    rw [unwL]
    unfold mPuts
    rw [upd_ne (by omega), unwL_rd k (by omega)]
