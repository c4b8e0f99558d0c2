/-! what is told of weeks ahead: when, tips, would, levers -/
def whenV (N : Nat → Int32) (p : Nat) (t : Int32) : Nat → Int32
  | 0 => -1
  | i + 1 => if ¬ whenV N p t i = -1 then whenV N p t i else if mIn (itr mOneMore (i + 1) N) p then -1 else if t = 0 then itr mOneMore i N 232 else itr mOneMore (i + 1) N (80 + 18 * p + 4)
theorem whenV_stay {N : Nat → Int32} {p : Nat} {t : Int32} {i : Nat} (h : ¬ whenV N p t i = -1) : ∀ k, whenV N p t (i + k) = whenV N p t i
  | 0 => rfl
  | k + 1 => by
    have ih := whenV_stay h k
    rw [← Nat.add_assoc, whenV, ih, if_pos h]
theorem whenV_at {N : Nat → Int32} {p : Nat} {t : Int32} {i n : Nat} (h : ¬ whenV N p t i = -1) (hn : i ≤ n) : whenV N p t n = whenV N p t i := by
  have := whenV_stay h (n - i)
  rwa [show i + (n - i) = n by omega] at this
def aWhen (N : Nat → Int32) (x k t : Int32) : An := if !mFrom k 1 30 then no 1 else if !mFrom x 0 (N 231 - 1) then no 2 else if !mIn N x.toNatClampNeg then no 4 else if whenV N x.toNatClampNeg t k.toNatClampNeg = -1 then no 5 else ok (whenV N x.toNatClampNeg t k.toNatClampNeg)
theorem from_1 {x : Int32} {B : Nat} (hB : B < 2 ^ 29) (h : mFrom x 1 (nI B) = true) : ∃ j, 1 ≤ j ∧ j < B + 1 ∧ x = nI j := by
  unfold mFrom at h
  simp only [Bool.and_eq_true, decide_eq_true_eq] at h
  have h0 : ¬ x < 0 := by
    rw [Int32.not_lt, Int32.le_iff_toInt_le]
    have h1 := Int32.le_iff_toInt_le.mp h.1
    have e1 : (1 : Int32).toInt = 1 := by decide
    have e0 : (0 : Int32).toInt = 0 := by decide
    omega
  obtain ⟨v, hv, rfl⟩ := nI_of h0
  have h1 := (nI_leI (a := 1) (b := v) (by decide) hv).mp h.1
  have h2 := (nI_leI (a := v) (b := B) hv (by omega)).mp h.2
  exact ⟨v, h1, by omega, rfl⟩
def tipP (N : Nat → Int32) (p h : Nat) : Bool := mBid N p (nI h) || decide (mWhy N p h = 0)
def tipL (N : Nat → Int32) (p : Nat) : Nat → Int32 × Int32
  | 0 => (-1, 0)
  | k + 1 => if tipP N p (mLikes N p k) && (decide ((tipL N p k).1 = -1) || decide (mAhead N p (mLikes N p k) (mBidders N (mLikes N p k)) < (tipL N p k).2)) then (nI (mLikes N p k), mAhead N p (mLikes N p k) (mBidders N (mLikes N p k))) else tipL N p k
def aTip (N : Nat → Int32) (x : Int32) : An := if !mFrom x 0 (N 231 - 1) then no 2 else if (tipL N x.toNatClampNeg (nLikes N x.toNatClampNeg)).1 = -1 then no 5 else ok (tipL N x.toNatClampNeg (nLikes N x.toNatClampNeg)).1
def wouldN (N : Nat → Int32) (p h : Nat) : Nat → Int32 := mPuts N p 10 ((1 : Int32) <<< (nI h &&& 31))
def wouldV (M : Nat → Int32) (x : Int32) : Nat → Int32
  | 0 => 0
  | k + 1 => if M (300 + 3 * k) = x then (if M (300 + 3 * k + 2) = 1 then 1 else 2) else wouldV M x k
def aWould (N : Nat → Int32) (x y : Int32) : An :=
  if !mOnes N x y then no 2 else if !(mHope N x.toNatClampNeg && mFree N y.toNatClampNeg && mFit N x.toNatClampNeg y.toNatClampNeg) then no 5 else
  ok (wouldV (mWeek (wouldN N x.toNatClampNeg y.toNatClampNeg)) x (nOf (mWeek (wouldN N x.toNatClampNeg y.toNatClampNeg))))
theorem wouldN_Wk {N : Nat → Int32} {p h : Nat} (c : Cn N) (l : Lo N) (hp : p < 8) (hh : h < 10) : Cn (wouldN N p h) ∧ Lo (wouldN N p h) ∧ ∀ j, 390 ≤ j → wouldN N p h j = N j := by
  have w := Wk.bids (b := 30) ⟨c, l, c.o30⟩ hp (shl_all h (by omega)) (show 2 ^ h < 1024 from Nat.pow_lt_pow_right (by decide) hh)
  exact ⟨w.1, w.2.1, fun j hj => upd_ne (by omega)⟩
def rLeast (r : Nat) : Int32 := if r = 2 ∨ r = 3 then 0 else 1
def rMost (r : Nat) : Int32 := if r = 0 ∨ r = 2 then 9 else if r = 1 then 52 else if r = 3 then 100 else if r = 4 then 999 else 3
def levW (N : Nat → Int32) (k : Nat) : Int32 := N (224 + k / 2) + (if k % 2 = 0 then -1 else 1)
def levO (N : Nat → Int32) (k : Nat) : Bool := mFrom (levW N k) (rLeast (k / 2)) (rMost (k / 2))
def levN (N : Nat → Int32) (k : Nat) : Nat → Int32 := upd N (224 + k / 2) (levW N k)
def levA (N : Nat → Int32) (kk k : Nat) : Int32 := itr mOneMore kk (levN N k) 233 - N 233
/-- best, rule, number -/
def levL (N : Nat → Int32) (kk : Nat) : Nat → Int32 × Int32 × Int32
  | 0 => (-1, 0, 0)
  | k + 1 => if levO N k && decide ((levL N kk k).1 < levA N kk k) then (levA N kk k, nI (k / 2), levW N k) else levL N kk k
def aLever (N : Nat → Int32) (x w : Int32) : An := if !(mFrom x 1 30 && mFrom w 0 2) then no 1 else ok (if w = 0 then (levL N x.toNatClampNeg 12).1 else if w = 1 then (levL N x.toNatClampNeg 12).2.1 else (levL N x.toNatClampNeg 12).2.2)
theorem levN_Cn {N : Nat → Int32} {k : Nat} (c : Cn N) (l : Lo N) (hk : k < 12) (h : levO N k = true) : Cn (levN N k) ∧ Lo (levN N k) := by
  have hl := c.l8
  refine ⟨c.upd' (by omega) (by omega) (by omega) (by omega) (fun e => ?_) (fun p hp => ⟨by omega, fun e => by omega, fun e => by omega, fun i hi e => by have := c.w6 hp; omega⟩) (fun a ha e => by omega) (fun i hi => ⟨fun e => by omega, fun e => by omega⟩), l.cong c.p8 (upd_ne (by omega)) (upd_ne (by omega)) (fun p hp => upd_ne (by omega))⟩
  have e4 : k / 2 = 4 := by omega
  unfold levO at h
  rw [e4] at h
  intro e0
  rw [e0] at h
  exact absurd h (by decide)
