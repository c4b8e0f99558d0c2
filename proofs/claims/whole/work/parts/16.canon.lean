/-! what the two programs compute, said over a row of ints laid as the reference lays its own -/
def imax (x y : Int32) : Int32 := if x < y then y else x
def mFrom (v a b : Int32) : Bool := decide (a ≤ v) && decide (v ≤ b)
def mFree (N : Nat → Int32) (h : Nat) : Bool := decide (N (8 * h + 2) = -1) && decide (N (8 * h + 3) = 0) && decide (N (8 * h + 6) = 0)
def mIn (N : Nat → Int32) (p : Nat) : Bool := decide (N (80 + 18 * p + 8) = 0)
def mHope (N : Nat → Int32) (p : Nat) : Bool := mIn N p && decide (N (80 + 18 * p + 6) = 0)
def mBand (N : Nat → Int32) (p : Nat) : Int32 := imax 1 (N (80 + 18 * p + 0) - (1000 + 7 * N 232 - N (80 + 18 * p + 3)) / N 228)
def mFit (N : Nat → Int32) (p h : Nat) : Bool := mFrom (N (8 * h + 0) - N (80 + 18 * p + 1)) 0 1
def mBid (N : Nat → Int32) (p : Nat) (x : Int32) : Bool := decide ((N (80 + 18 * p + 10) >>> (x &&& 31)) &&& 1 = 1)
/-- the first place below n at which it holds, as an int; none: -1 -/
def iFirst (P : Nat → Bool) (n : Nat) : Int32 := if fa_first P n < n then nI (fa_first P n) else -1
def nWi (N : Nat → Int32) (p : Nat) : Nat := (N (80 + 18 * p + 11)).toNatClampNeg
def mWish (N : Nat → Int32) (p : Nat) (x : Int32) : Int32 := iFirst (fun k => decide (N (80 + 18 * p + (12 + k)) = x)) (nWi N p)
def mTake (N : Nat → Int32) (p : Nat) (x : Int32) : Bool := decide (N (80 + 18 * p + 11) = 0) || !decide (mWish N p x = -1)
def isum (f : Nat → Int32) : Nat → Int32
  | 0 => 0
  | k + 1 => isum f k + f k
/-- the bits of a number below 1024 -/
def pcn (v : Nat) : Nat := fa_cnt (fun j => v.testBit j) 10
def nHo (N : Nat → Int32) : Nat := (N 230).toNatClampNeg
def nPo (N : Nat → Int32) : Nat := (N 231).toNatClampNeg
def nLe (N : Nat → Int32) : Nat := (N 233).toNatClampNeg
/-- a set of numbers below n as bits -/
def iset (S : Nat → Bool) : Nat → Int32
  | 0 => 0
  | k + 1 => iset S k ||| (if S k then (1 : Int32) <<< (nI k &&& 31) else 0)
