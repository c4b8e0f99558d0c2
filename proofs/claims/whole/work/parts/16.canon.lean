/-! what the two programs compute, said over a row of ints laid as the reference lays its own -/
def imax (x y : Int32) : Int32 := if x < y then y else x
def mFrom (v a b : Int32) : Bool := decide (a ≤ v) && decide (v ≤ b)
def mFree (N : Nat → Int32) (h : Nat) : Bool := decide (N (8 * h + 2) = -1) && decide (N (8 * h + 3) = 0) && decide (N (8 * h + 6) = 0)
def mIn (N : Nat → Int32) (p : Nat) : Bool := decide (N (80 + 18 * p + 8) = 0)
def mHope (N : Nat → Int32) (p : Nat) : Bool := mIn N p && decide (N (80 + 18 * p + 6) = 0)
def mBand (N : Nat → Int32) (p : Nat) : Int32 := imax 1 (N (80 + 18 * p + 0) - (1000 + 7 * N 232 - N (80 + 18 * p + 3)) / N 228)
def mFit (N : Nat → Int32) (p h : Nat) : Bool := mFrom (N (8 * h + 0) - N (80 + 18 * p + 1)) 0 1
def mBid (N : Nat → Int32) (p : Nat) (x : Int32) : Bool := decide ((N (80 + 18 * p + 10) >>> (x &&& 31)) &&& 1 = 1)
/-- the first place below n at which it holds, as an int; none: -1 -/
def iFirst (P : Nat → Bool) (n : Nat) : Int32 := if fa_first P n < n then nI (fa_first P n) else -1
def nWi (N : Nat → Int32) (p : Nat) : Nat := (N (80 + 18 * p + 11)).toNatClampNeg
def mWish (N : Nat → Int32) (p : Nat) (x : Int32) : Int32 := iFirst (fun k => decide (N (80 + 18 * p + (12 + k)) = x)) (nWi N p)
def mTake (N : Nat → Int32) (p : Nat) (x : Int32) : Bool := decide (N (80 + 18 * p + 11) = 0) || !decide (mWish N p x = -1)
def isum (f : Nat → Int32) : Nat → Int32
  | 0 => 0
  | k + 1 => isum f k + f k
/-- the bits of a number below 1024 -/
def pcn (v : Nat) : Nat := fa_cnt (fun j => v.testBit j) 10
def nHo (N : Nat → Int32) : Nat := (N 230).toNatClampNeg
def nPo (N : Nat → Int32) : Nat := (N 231).toNatClampNeg
def nLe (N : Nat → Int32) : Nat := (N 233).toNatClampNeg
/-- a set of numbers below n as bits -/
def iset (S : Nat → Bool) : Nat → Int32
  | 0 => 0
  | k + 1 => iset S k ||| (if S k then (1 : Int32) <<< (nI k &&& 31) else 0)
def irem (x y : Int32) : Int32 := x - x / y * y
def lHo (N : Nat → Int32) (k : Nat) : Nat := (N (234 + 8 * k + 1)).toNatClampNeg
def lPo (N : Nat → Int32) (k : Nat) : Nat := (N (234 + 8 * k + 0)).toNatClampNeg
def bB (b : Bool) : Int32 := if b then 1 else 0
def mLocal (N : Nat → Int32) (h : Nat) : Bool := !decide (N 226 = 0) && decide (irem (1 + isum (fun k => bB (decide (N (8 * lHo N k + 1) = N (8 * h + 1)))) (nLe N)) (N 226) = 0)
def mLived (N : Nat → Int32) : Int32 := isum (fun k => N (234 + 8 * k + 5) >>> (1 &&& 31)) (nLe N)
def mQuota (N : Nat → Int32) : Bool := decide (100 * mLived N < N 227 * N 233)
def mWeight (N : Nat → Int32) (p h : Nat) (band : Int32) : Int32 :=
  (((2 * bB (mLocal N h && !decide (N (80 + 18 * p + 2) = N (8 * h + 1))) + bB (mQuota N && decide (N (80 + 18 * p + 4) = -1))) * 5 + band) * 1000 + N (80 + 18 * p + 3)) * 8 + nI p
def mW (N : Nat → Int32) (p h : Nat) : Int32 := mWeight N p h (mBand N p)
/-- whether a number is in a set of bits -/
def bt (x : Int32) (p : Nat) : Bool := decide ((x >>> (nI p &&& 31)) &&& 1 = 1)
def oN (o : Option Nat) : Int32 := match o with
  | none => -1
  | some b => nI b
/-- the least by a weight among the first n that are in a set; of equals the earliest -/
def fst (w : Nat → Int32) (S : Nat → Bool) : Nat → Option Nat
  | 0 => none
  | i + 1 => if S i && (match fst w S i with
    | none => true
    | some b => decide (w i < w b)) then some i else fst w S i
def mFirst (N : Nat → Int32) (h : Nat) (x : Int32) : Option Nat := fst (fun p => mW N p h) (bt x) (nPo N)
def mBidders (N : Nat → Int32) (h : Nat) : Int32 := iset (fun p => mBid N p (nI h)) (nPo N)
def itr {α : Type} (f : α → α) : Nat → α → α
  | 0, a => a
  | k + 1, a => itr f k (f a)
theorem itr_succ {α : Type} (f : α → α) : ∀ (k : Nat) (a : α), itr f (k + 1) a = f (itr f k a)
  | 0, _ => rfl
  | k + 1, a => itr_succ f k (f a)
def iDrop (x : Int32) (p : Int32) : Int32 := x &&& ((1 <<< (p &&& 31)) ^^^ (-1))
def mAhead (N : Nat → Int32) (p h : Nat) (x : Int32) : Int32 := isum (fun q => bB (bt x q && decide (mW N q h < mW N p h))) (nPo N)
def mAble (N : Nat → Int32) (h : Nat) : Int32 := iset (fun p => mHope N p && mFit N p h) (nPo N)
def nset (S : Nat → Bool) : Nat → Nat
  | 0 => 0
  | k + 1 => nset S k + (if S k then 2 ^ k else 0)
theorem nset_lt (S : Nat → Bool) : ∀ n, nset S n < 2 ^ n
  | 0 => Nat.one_pos
  | n + 1 => by
    have := nset_lt S n
    rw [nset, Nat.pow_succ]
    split <;> omega
theorem shl_all : ∀ k, k < 31 → (1 : Int32) <<< (nI k &&& 31) = nI (2 ^ k) := by decide +kernel
theorem iset_n (S : Nat → Bool) : ∀ n, n ≤ 31 → iset S n = nI (nset S n)
  | 0, _ => rfl
  | n + 1, h => by
    have ih := iset_n S n (by omega)
    rw [iset, nset, ih]
    by_cases hs : S n = true
    · rw [if_pos hs, if_pos hs, shl_all n (by omega)]
      have := fa_or_sum (a := nset S n) (k := n) 1 (nset_lt S n)
      rw [Nat.mul_one] at this
      rw [Int32.or_comm, this, Nat.add_comm]
    · rw [if_neg hs, if_neg hs, Int32.or_zero, Nat.add_zero]
theorem iset_cong {S T : Nat → Bool} : ∀ {n : Nat}, (∀ k, k < n → S k = T k) → iset S n = iset T n
  | 0, _ => rfl
  | n + 1, h => by rw [iset, iset, iset_cong (fun k hk => h k (by omega)), h n (by omega)]
