/-! a choice of two numbers, in one row -/
section AWTern
variable {X : Cx} {g : Gd} {own : String} {cc : ByteArray} {nL : Nat} {Bd : Nat × Nat × Nat} {E : En} {I : MI} {L : ML} {pc : Nat} {Lc : List (Option Value)} {st : List Value}
theorem awt_if_eq {x : Int32} {a b : Int} {A B : Int32} (d0 : decode cc pc = .ok (.ifCond .eq 7, 3)) (d1 : decode cc (pc + 3) = .ok (.iconst a, 1)) (d2 : decode cc (pc + 3 + 1) = .ok (.goto 4, 3)) (d3 : decode cc (pc + 7) = .ok (.iconst b, 1)) (hA : Int32.ofInt a = A) (hB : Int32.ofInt b = B)
    (k : AW X g own cc nL Bd E I L (pc + 8) Lc (.int (if x = 0 then B else A) :: st)) : AW X g own cc nL Bd E I L pc Lc (.int x :: st) := by
  refine aw_if_eq (tgt := pc + 7) d0 (by omega) (fun c => ?_) (fun c => ?_)
  · refine aw_iconst d3 hB ?_
    rw [if_pos c] at k
    exact k
  · refine aw_iconst d1 hA ?_
    refine aw_goto (tgt := pc + 8) d2 (by omega) ?_
    rw [if_neg c] at k
    exact k
theorem awt_if_ne {x : Int32} {a b : Int} {A B : Int32} (d0 : decode cc pc = .ok (.ifCond .ne 7, 3)) (d1 : decode cc (pc + 3) = .ok (.iconst a, 1)) (d2 : decode cc (pc + 3 + 1) = .ok (.goto 4, 3)) (d3 : decode cc (pc + 7) = .ok (.iconst b, 1)) (hA : Int32.ofInt a = A) (hB : Int32.ofInt b = B)
    (k : AW X g own cc nL Bd E I L (pc + 8) Lc (.int (if x = 0 then A else B) :: st)) : AW X g own cc nL Bd E I L pc Lc (.int x :: st) := by
  refine aw_if_ne (tgt := pc + 7) d0 (by omega) (fun c => ?_) (fun c => ?_)
  · refine aw_iconst d3 hB ?_
    rw [if_neg c] at k
    exact k
  · refine aw_iconst d1 hA ?_
    refine aw_goto (tgt := pc + 8) d2 (by omega) ?_
    rw [if_pos c] at k
    exact k
theorem awt_if_lt {x : Int32} {a b : Int} {A B : Int32} (d0 : decode cc pc = .ok (.ifCond .lt 7, 3)) (d1 : decode cc (pc + 3) = .ok (.iconst a, 1)) (d2 : decode cc (pc + 3 + 1) = .ok (.goto 4, 3)) (d3 : decode cc (pc + 7) = .ok (.iconst b, 1)) (hA : Int32.ofInt a = A) (hB : Int32.ofInt b = B)
    (k : AW X g own cc nL Bd E I L (pc + 8) Lc (.int (if x < 0 then B else A) :: st)) : AW X g own cc nL Bd E I L pc Lc (.int x :: st) := by
  refine aw_if_lt (tgt := pc + 7) d0 (by omega) (fun c => ?_) (fun c => ?_)
  · refine aw_iconst d3 hB ?_
    rw [if_pos c] at k
    exact k
  · refine aw_iconst d1 hA ?_
    refine aw_goto (tgt := pc + 8) d2 (by omega) ?_
    rw [if_neg c] at k
    exact k
theorem awt_if_ge {x : Int32} {a b : Int} {A B : Int32} (d0 : decode cc pc = .ok (.ifCond .ge 7, 3)) (d1 : decode cc (pc + 3) = .ok (.iconst a, 1)) (d2 : decode cc (pc + 3 + 1) = .ok (.goto 4, 3)) (d3 : decode cc (pc + 7) = .ok (.iconst b, 1)) (hA : Int32.ofInt a = A) (hB : Int32.ofInt b = B)
    (k : AW X g own cc nL Bd E I L (pc + 8) Lc (.int (if 0 ≤ x then B else A) :: st)) : AW X g own cc nL Bd E I L pc Lc (.int x :: st) := by
  refine aw_if_ge (tgt := pc + 7) d0 (by omega) (fun c => ?_) (fun c => ?_)
  · refine aw_iconst d3 hB ?_
    rw [if_pos c] at k
    exact k
  · refine aw_iconst d1 hA ?_
    refine aw_goto (tgt := pc + 8) d2 (by omega) ?_
    rw [if_neg c] at k
    exact k
theorem awt_if_gt {x : Int32} {a b : Int} {A B : Int32} (d0 : decode cc pc = .ok (.ifCond .gt 7, 3)) (d1 : decode cc (pc + 3) = .ok (.iconst a, 1)) (d2 : decode cc (pc + 3 + 1) = .ok (.goto 4, 3)) (d3 : decode cc (pc + 7) = .ok (.iconst b, 1)) (hA : Int32.ofInt a = A) (hB : Int32.ofInt b = B)
    (k : AW X g own cc nL Bd E I L (pc + 8) Lc (.int (if 0 < x then B else A) :: st)) : AW X g own cc nL Bd E I L pc Lc (.int x :: st) := by
  refine aw_if_gt (tgt := pc + 7) d0 (by omega) (fun c => ?_) (fun c => ?_)
  · refine aw_iconst d3 hB ?_
    rw [if_pos c] at k
    exact k
  · refine aw_iconst d1 hA ?_
    refine aw_goto (tgt := pc + 8) d2 (by omega) ?_
    rw [if_neg c] at k
    exact k
theorem awt_if_le {x : Int32} {a b : Int} {A B : Int32} (d0 : decode cc pc = .ok (.ifCond .le 7, 3)) (d1 : decode cc (pc + 3) = .ok (.iconst a, 1)) (d2 : decode cc (pc + 3 + 1) = .ok (.goto 4, 3)) (d3 : decode cc (pc + 7) = .ok (.iconst b, 1)) (hA : Int32.ofInt a = A) (hB : Int32.ofInt b = B)
    (k : AW X g own cc nL Bd E I L (pc + 8) Lc (.int (if x ≤ 0 then B else A) :: st)) : AW X g own cc nL Bd E I L pc Lc (.int x :: st) := by
  refine aw_if_le (tgt := pc + 7) d0 (by omega) (fun c => ?_) (fun c => ?_)
  · refine aw_iconst d3 hB ?_
    rw [if_pos c] at k
    exact k
  · refine aw_iconst d1 hA ?_
    refine aw_goto (tgt := pc + 8) d2 (by omega) ?_
    rw [if_neg c] at k
    exact k
theorem awt_icmp_eq {x y : Int32} {a b : Int} {A B : Int32} (d0 : decode cc pc = .ok (.if_icmp .eq 7, 3)) (d1 : decode cc (pc + 3) = .ok (.iconst a, 1)) (d2 : decode cc (pc + 3 + 1) = .ok (.goto 4, 3)) (d3 : decode cc (pc + 7) = .ok (.iconst b, 1)) (hA : Int32.ofInt a = A) (hB : Int32.ofInt b = B)
    (k : AW X g own cc nL Bd E I L (pc + 8) Lc (.int (if x = y then B else A) :: st)) : AW X g own cc nL Bd E I L pc Lc (.int y :: .int x :: st) := by
  refine aw_icmp_eq (tgt := pc + 7) d0 (by omega) (fun c => ?_) (fun c => ?_)
  · refine aw_iconst d3 hB ?_
    rw [if_pos c] at k
    exact k
  · refine aw_iconst d1 hA ?_
    refine aw_goto (tgt := pc + 8) d2 (by omega) ?_
    rw [if_neg c] at k
    exact k
theorem awt_icmp_ne {x y : Int32} {a b : Int} {A B : Int32} (d0 : decode cc pc = .ok (.if_icmp .ne 7, 3)) (d1 : decode cc (pc + 3) = .ok (.iconst a, 1)) (d2 : decode cc (pc + 3 + 1) = .ok (.goto 4, 3)) (d3 : decode cc (pc + 7) = .ok (.iconst b, 1)) (hA : Int32.ofInt a = A) (hB : Int32.ofInt b = B)
    (k : AW X g own cc nL Bd E I L (pc + 8) Lc (.int (if x = y then A else B) :: st)) : AW X g own cc nL Bd E I L pc Lc (.int y :: .int x :: st) := by
  refine aw_icmp_ne (tgt := pc + 7) d0 (by omega) (fun c => ?_) (fun c => ?_)
  · refine aw_iconst d3 hB ?_
    rw [if_neg c] at k
    exact k
  · refine aw_iconst d1 hA ?_
    refine aw_goto (tgt := pc + 8) d2 (by omega) ?_
    rw [if_pos c] at k
    exact k
theorem awt_icmp_lt {x y : Int32} {a b : Int} {A B : Int32} (d0 : decode cc pc = .ok (.if_icmp .lt 7, 3)) (d1 : decode cc (pc + 3) = .ok (.iconst a, 1)) (d2 : decode cc (pc + 3 + 1) = .ok (.goto 4, 3)) (d3 : decode cc (pc + 7) = .ok (.iconst b, 1)) (hA : Int32.ofInt a = A) (hB : Int32.ofInt b = B)
    (k : AW X g own cc nL Bd E I L (pc + 8) Lc (.int (if x < y then B else A) :: st)) : AW X g own cc nL Bd E I L pc Lc (.int y :: .int x :: st) := by
  refine aw_icmp_lt (tgt := pc + 7) d0 (by omega) (fun c => ?_) (fun c => ?_)
  · refine aw_iconst d3 hB ?_
    rw [if_pos c] at k
    exact k
  · refine aw_iconst d1 hA ?_
    refine aw_goto (tgt := pc + 8) d2 (by omega) ?_
    rw [if_neg c] at k
    exact k
theorem awt_icmp_ge {x y : Int32} {a b : Int} {A B : Int32} (d0 : decode cc pc = .ok (.if_icmp .ge 7, 3)) (d1 : decode cc (pc + 3) = .ok (.iconst a, 1)) (d2 : decode cc (pc + 3 + 1) = .ok (.goto 4, 3)) (d3 : decode cc (pc + 7) = .ok (.iconst b, 1)) (hA : Int32.ofInt a = A) (hB : Int32.ofInt b = B)
    (k : AW X g own cc nL Bd E I L (pc + 8) Lc (.int (if y ≤ x then B else A) :: st)) : AW X g own cc nL Bd E I L pc Lc (.int y :: .int x :: st) := by
  refine aw_icmp_ge (tgt := pc + 7) d0 (by omega) (fun c => ?_) (fun c => ?_)
  · refine aw_iconst d3 hB ?_
    rw [if_pos c] at k
    exact k
  · refine aw_iconst d1 hA ?_
    refine aw_goto (tgt := pc + 8) d2 (by omega) ?_
    rw [if_neg c] at k
    exact k
theorem awt_icmp_gt {x y : Int32} {a b : Int} {A B : Int32} (d0 : decode cc pc = .ok (.if_icmp .gt 7, 3)) (d1 : decode cc (pc + 3) = .ok (.iconst a, 1)) (d2 : decode cc (pc + 3 + 1) = .ok (.goto 4, 3)) (d3 : decode cc (pc + 7) = .ok (.iconst b, 1)) (hA : Int32.ofInt a = A) (hB : Int32.ofInt b = B)
    (k : AW X g own cc nL Bd E I L (pc + 8) Lc (.int (if y < x then B else A) :: st)) : AW X g own cc nL Bd E I L pc Lc (.int y :: .int x :: st) := by
  refine aw_icmp_gt (tgt := pc + 7) d0 (by omega) (fun c => ?_) (fun c => ?_)
  · refine aw_iconst d3 hB ?_
    rw [if_pos c] at k
    exact k
  · refine aw_iconst d1 hA ?_
    refine aw_goto (tgt := pc + 8) d2 (by omega) ?_
    rw [if_neg c] at k
    exact k
theorem awt_icmp_le {x y : Int32} {a b : Int} {A B : Int32} (d0 : decode cc pc = .ok (.if_icmp .le 7, 3)) (d1 : decode cc (pc + 3) = .ok (.iconst a, 1)) (d2 : decode cc (pc + 3 + 1) = .ok (.goto 4, 3)) (d3 : decode cc (pc + 7) = .ok (.iconst b, 1)) (hA : Int32.ofInt a = A) (hB : Int32.ofInt b = B)
    (k : AW X g own cc nL Bd E I L (pc + 8) Lc (.int (if x ≤ y then B else A) :: st)) : AW X g own cc nL Bd E I L pc Lc (.int y :: .int x :: st) := by
  refine aw_icmp_le (tgt := pc + 7) d0 (by omega) (fun c => ?_) (fun c => ?_)
  · refine aw_iconst d3 hB ?_
    rw [if_pos c] at k
    exact k
  · refine aw_iconst d1 hA ?_
    refine aw_goto (tgt := pc + 8) d2 (by omega) ?_
    rw [if_neg c] at k
    exact k
theorem awt_bool {b : Bool} (d0 : decode cc pc = .ok (.ifCond .eq 7, 3)) (d1 : decode cc (pc + 3) = .ok (.iconst 1, 1)) (d2 : decode cc (pc + 3 + 1) = .ok (.goto 4, 3)) (d3 : decode cc (pc + 7) = .ok (.iconst 0, 1))
    (k : AW X g own cc nL Bd E I L (pc + 8) Lc (.int (bI b) :: st)) : AW X g own cc nL Bd E I L pc Lc (.int (bI b) :: st) := by
  refine awt_if_eq d0 d1 d2 d3 rfl rfl ?_
  have e : (if bI b = 0 then Int32.ofInt 0 else Int32.ofInt 1) = bI b := by cases b <;> rfl
  rw [e]
  exact k
theorem upA_self {I : MI} {a : Nat} {f : Nat → Int32} : upA I a f a = f := if_pos rfl
theorem upA_ne {I : MI} {a b : Nat} {f : Nat → Int32} (h : b ≠ a) : upA I a f b = I b := if_neg h
theorem upA_off {I : MI} {a b : Nat} {f N : Nat → Int32} (h : b ≠ a) (hI : I b = N) : upA I a f b = N := (if_neg h).trans hI
theorem upA_upA {I : MI} {a : Nat} {f h : Nat → Int32} : upA (upA I a f) a h = upA I a h := by
  funext b
  by_cases hb : b = a
  · simp [upA, hb]
  · simp [upA, hb]
theorem upI_upA {I : MI} {a k : Nat} {v : Int32} : upI I a k v = upA I a (upd (I a) k v) := rfl
theorem upI_row {I : MI} {a k : Nat} {v : Int32} {f : Nat → Int32} (h : I a = f) : upI I a k v a = upd f k v := by
  subst h
  exact if_pos rfl
theorem upI_off {I : MI} {a b k : Nat} {v : Int32} {f : Nat → Int32} (h : b ≠ a) (hI : I b = f) : upI I a k v b = f := (if_neg h).trans hI
theorem upA_me {I : MI} {a : Nat} : upA I a (I a) = I := by
  funext b
  by_cases hb : b = a
  · simp [upA, hb]
  · simp [upA, hb]
theorem aw_ialdH {a k N : Nat} {i : Int32} {f : Nat → Int32} (hI : I a = f) (d : decode cc pc = .ok (.iaload, 1)) (hk : (E.2.2.1 a).1 = 100) (ha : a < E.2.1) (hl : (E.2.2.1 a).2.1 = N) (hi : i = nI k) (hkN : k < N) (hN : N < 2 ^ 31)
    (kk : AW X g own cc nL Bd E I L (pc + 1) Lc (.int (f k) :: st)) : AW X g own cc nL Bd E I L pc Lc (.int i :: .ref a :: st) := by
  subst hI
  exact aw_ialdN d hk ha hl hi hkN hN kk
end AWTern
