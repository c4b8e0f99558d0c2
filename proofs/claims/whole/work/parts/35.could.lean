/-! who could be given what; lots, wards, envy -/
def mCould (N : Nat → Int32) (p h : Nat) : Bool := mHope N p && mFit N p h && mTake N p (nI h)
def mCan (N : Nat → Int32) (p h : Nat) : Bool := mFree N h && mCould N p h
def mAllC (N : Nat → Int32) (h : Nat) : Int32 := iset (fun p => mCould N p h) (nPo N)
def aTop (N : Nat → Int32) (x : Int32) : An := if !mFrom x 0 (N 230 - 1) then no 2 else if oN (mFirst N x.toNatClampNeg (mAllC N x.toNatClampNeg)) = -1 then no 5 else ok (oN (mFirst N x.toNatClampNeg (mAllC N x.toNatClampNeg)))
def mWaited (N : Nat → Int32) (p : Nat) : Int32 := imax 1 ((1000 + 7 * N 232 - N (80 + 18 * p + 3)) / 7)
def fitP (N : Nat → Int32) (p : Nat) (w : Int32) (h : Nat) : Bool := mFit N p h && (if w = 0 then true else if w = 1 then mFree N h else mTake N p (nI h))
def aFits (N : Nat → Int32) (x w : Int32) : An := if !mFrom w 0 2 then no 1 else if !mFrom x 0 (N 231 - 1) then no 2 else ok (iset (fitP N x.toNatClampNeg w) (nHo N))
def wantP (N : Nat → Int32) (x : Int32) (p : Nat) : Int32 := bB (mIn N p && decide (N (80 + 18 * p + 2) = x))
def wantH (N : Nat → Int32) (x : Int32) (h : Nat) : Int32 := bB (mFree N h && decide (N (8 * h + 1) = x))
def mWant (N : Nat → Int32) (x : Int32) : Int32 := idn (isum (wantP N x) (nPo N)) (wantH N x) (nHo N)
def wardB (N : Nat → Int32) (b i : Int32) : Bool := decide (b = -1) || decide (mWant N b < mWant N i) || (decide (mWant N i = mWant N b) && decide (i < b))
def wardL (N : Nat → Int32) : Nat → Int32
  | 0 => -1
  | h + 1 => if wardB N (wardL N h) (N (8 * h + 1)) then N (8 * h + 1) else wardL N h
def aWard (N : Nat → Int32) (t : Int32) : An := if N 230 = 0 then no 5 else ok (if t = 0 then wardL N (nHo N) else mWant N (wardL N (nHo N)))
def mRather (N : Nat → Int32) (p : Nat) (x : Int32) : Bool := !decide (mWish N p x = -1) && mFit N p x.toNatClampNeg && (decide (mWish N p (N (80 + 18 * p + 4)) = -1) || decide (mWish N p x < mWish N p (N (80 + 18 * p + 4))))
def envP (N : Nat → Int32) (p q : Nat) : Bool := !decide (N (80 + 18 * p + 4) = -1) && !decide (N (80 + 18 * q + 4) = -1) && mRather N p (N (80 + 18 * q + 4)) && mRather N q (N (80 + 18 * p + 4))
def envI (N : Nat → Int32) (p : Nat) (s : Int32 × Int32) : Nat → Int32 × Int32
  | 0 => s
  | d + 1 => if envP N p (p + 1 + d) then ((envI N p s d).1 + 1, if (envI N p s d).1 = 0 then nI (8 * p + (p + 1 + d)) else (envI N p s d).2) else envI N p s d
def envO (N : Nat → Int32) : Nat → Int32 × Int32
  | 0 => (0, -1)
  | p + 1 => envI N p (envO N p) (nPo N - (p + 1))
def mEnvy (N : Nat → Int32) : Int32 × Int32 := envO N (nPo N)
def aEnvy (N : Nat → Int32) (x : Int32) : An := if !mFrom x 0 2 then no 1 else if x = 0 then ok (mEnvy N).1 else if (mEnvy N).1 = 0 then no 5 else ok (if x = 1 then (mEnvy N).2 / 8 else irem (mEnvy N).2 8)
