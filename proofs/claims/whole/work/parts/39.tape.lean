/-! the tape and its words -/
def byt (w : Int32) (i : Nat) : Int32 := ((w.toUInt32 >>> ((24 - 8 * nI i : Int32).toUInt32 &&& Int32.toUInt32 31)).toInt32) &&& 255
def tpW (T : Nat → Int32) (n : Nat) (w : Int32) : Nat → Nat → Int32
  | 0 => T
  | i + 1 => upd (tpW T n w i) (n + i) (byt w i)
def tp5 (T : Nat → Int32) (n : Nat) (a b c d e : Int32) : Nat → Int32 := tpW (tpW (tpW (tpW (tpW T n a 4) (n + 4) b 4) (n + 8) c 4) (n + 12) d 4) (n + 16) e 4
theorem k24 : ∀ i, i ≤ 4 → ((24 - 8 * nI i : Int32) < 0 ↔ i = 4) := by decide
theorem k24s : ∀ i, i < 4 → (24 - 8 * nI i : Int32) + Int32.ofInt (-8) = 24 - 8 * nI (i + 1) := by decide
def tpM (I : MI) (m : Nat) (T : Nat → Int32) (n : Nat) : MI := upI (upA I (m + 5) T) m 8 (nI n)
theorem tpM_t {I : MI} {m n : Nat} {T : Nat → Int32} : tpM I m T n (m + 5) = T := upI_off (by omega) upA_self
theorem tpM_n {I : MI} {m n : Nat} {T : Nat → Int32} : tpM I m T n m 8 = nI n := by
  unfold tpM
  rw [upI_row rfl]
  exact upd_eq
theorem tpM_tpM {I : MI} {m n k : Nat} {T U : Nat → Int32} : tpM (tpM I m T n) m U k = tpM I m U k := by
  unfold tpM
  rw [upA_upI (by omega), upI_upI, upA_upA]
theorem tpM_me {I : MI} {m n : Nat} {T : Nat → Int32} (hT : I (m + 5) = T) (hn : I m 8 = nI n) : tpM I m T n = I := by
  unfold tpM
  rw [upA_eq hT, upI_upA, fa_upd_same hn, upA_me]
def isLet (c : Int32) : Bool := decide (97 ≤ c) && decide (c ≤ 122)
def isDig (c : Int32) : Bool := decide (48 ≤ c) && decide (c ≤ 57)
def jnd (v : Int64) (c : Int32) : Int64 := (v <<< ((5 : Int32).toInt64 &&& 63)) ||| (c.toInt64 - 96)
def jnd0 (v : Int64) (c : Int32) : Int64 := if c = 0 then v else jnd v c
def spl (a b c d e f : Int32) : Int64 := jnd0 (jnd0 (jnd0 (jnd0 (jnd0 (jnd0 0 a) b) c) d) e) f
/-- the words that are no names: the six rules, home, house, rule, in -/
def wdK9 (k : Nat) : Int64 := match k with
  | 0 => spl 114 101 102 117 115 101
  | 1 => spl 98 97 114 0 0 0
  | 2 => spl 108 111 99 97 108 0
  | 3 => spl 113 117 111 116 97 0
  | 4 => spl 97 103 101 0 0 0
  | 5 => spl 98 105 100 115 0 0
  | 6 => spl 104 111 109 101 0 0
  | 7 => spl 104 111 117 115 101 0
  | 8 => spl 114 117 108 101 0 0
  | _ => spl 105 110 0 0 0 0
theorem lg_cmp0 {x y : Int64} : lg_cmp x y = 0 ↔ x = y := by
  unfold lg_cmp
  by_cases h : x = y
  · subst h; simp
  · constructor
    · intro e
      split at e
      · exact absurd e (by decide)
      · exact absurd e (by first | decide | (rw [if_neg h]; decide))
    · intro e; exact absurd e h
