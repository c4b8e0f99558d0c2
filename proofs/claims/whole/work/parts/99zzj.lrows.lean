/-! the law: its script, its rows -/
abbrev LBd : Nat × Nat × Nat := (40, 601024, 7293034)
/-- the script: its length and its numbers; it lay there before -/
def Scr (X : Cx) (g : Gd) (Ls : Nat) (xs : Nat → Int32) : Prop := va_X (g.2.1 1000300) Ls xs (xS X) (xS X).heap ∧ g.2.1 1000300 < (xS X).heap.size ∧ g.1 = (xS X).heap.size ∧ Ls ≤ 3072
abbrev LcL (i : Nat) (u5 u6 : Option Value) : List (Option Value) := [some (.ref 1000300), some (.ref 0), some (.ref 496), some (.ref 511), some (.int (nI i)), u5, u6]
def bN (x : Int32) : Int32 := if x = 0 then 0 else 1
theorem bN_01 (x : Int32) : z01 (bN x) := by
  unfold bN z01
  split
  · exact Or.inl rfl
  · exact Or.inr rfl
section LAWR
variable {X : Cx} {g : Gd} {E : En} {I : MI} {L : ML} {pc i Ls : Nat} {xs : Nat → Int32} {Lc : List (Option Value)} {st : List Value} {u5 u6 : Option Value}
theorem aw_sld (S : Scr X g Ls xs) {k : Nat} (hk : k < Ls) (d : decode cL_law pc = .ok (.iaload, 1)) (kk : AW X g RL cL_law 7 LBd E I L (pc + 1) Lc (.int (xs k) :: st)) : AW X g RL cL_law 7 LBd E I L pc Lc (.int (nI k) :: .ref 1000300 :: st) := by
  intro F H locs ls h1 h2 h3 h4 h5
  have K := kk F H locs ls h1 h2 h3 h4 h5
  obtain ⟨s1, s2, s3, s4⟩ := S
  rw [List.map_cons, List.map_cons, cv_hi (by omega)]
  have e : (nI k).toNatClampNeg = k := nI_clamp (by omega)
  refine va_sld F.1 F.2.1 s1 s2 (by show ¬ g.1 ≤ g.2.1 1000300; omega) h4 (i := nI k) ?_ d ?_
  · show ¬ (nI k < 0 ∨ Ls ≤ (nI k).toNatClampNeg)
    rw [e]
    rintro (w | w)
    · exact nI_pos (by omega) w
    · omega
  · rw [e]
    exact K
theorem aw_slen (S : Scr X g Ls xs) (d : decode cL_law pc = .ok (.arraylength, 1)) (kk : AW X g RL cL_law 7 LBd E I L (pc + 1) Lc (.int (nI Ls) :: st)) : AW X g RL cL_law 7 LBd E I L pc Lc (.ref 1000300 :: st) := by
  intro F H locs ls h1 h2 h3 h4 h5
  have K := kk F H locs ls h1 h2 h3 h4 h5
  obtain ⟨s1, s2, s3, s4⟩ := S
  rw [List.map_cons, cv_hi (by omega)]
  exact va_slen F.1 F.2.1 s1 s2 (by show ¬ g.1 ≤ g.2.1 1000300; omega) h4 d K
/-- script[i + j] -/
theorem aw_arg (S : Scr X g Ls xs) (hi : i + 6 ≤ Ls) {j : Nat} {q : Int} (hj : j < 6) (hq : Int32.ofInt q = nI j) (d0 : decode cL_law pc = .ok (.aload_n 0, 1)) (d1 : decode cL_law (pc + 1) = .ok (.iload 4, 2)) (d3 : decode cL_law (pc + 3) = .ok (.iconst q, 1)) (d4 : decode cL_law (pc + 4) = .ok (.iadd, 1)) (d5 : decode cL_law (pc + 5) = .ok (.iaload, 1))
    (kk : AW X g RL cL_law 7 LBd E I L (pc + 6) (LcL i u5 u6) (.int (xs (i + j)) :: st)) : AW X g RL cL_law 7 LBd E I L pc (LcL i u5 u6) st := by
  refine aw_aload_n d0 rfl ?_
  refine aw_iload d1 rfl ?_
  refine aw_iconst (v := nI j) d3 hq ?_
  refine aw_iadd d4 ?_
  refine AW.top (y := nI (i + j)) (nI_add i j) ?_
  exact aw_sld S (by omega) d5 kk
theorem aw_bool {x : Int32} (d0 : decode cL_law pc = .ok (.ifCond .eq 7, 3)) (d1 : decode cL_law (pc + 3) = .ok (.iconst 1, 1)) (d2 : decode cL_law (pc + 4) = .ok (.goto 4, 3)) (d3 : decode cL_law (pc + 7) = .ok (.iconst 0, 1))
    (kk : AW X g RL cL_law 7 LBd E I L (pc + 8) Lc (.int (bN x) :: st)) : AW X g RL cL_law 7 LBd E I L pc Lc (.int x :: st) := by
  refine aw_if_eq (tgt := pc + 7) d0 (by omega) (fun c => ?_) (fun c => ?_)
  · refine aw_iconst (v := 0) d3 rfl ?_
    rw [show bN x = 0 from if_pos c] at kk
    exact kk
  · refine aw_iconst (v := 1) d1 rfl ?_
    refine aw_goto (tgt := pc + 8) d2 (by omega) ?_
    rw [show bN x = 1 from if_neg c] at kk
    exact kk
end LAWR
