/-! Math.max and Math.min, by the kit's rows on them -/
def imin (x y : Int32) : Int32 := if y < x then y else x
theorem cmax_eq : Cond.code Lib.Math.max.name Lib.Math.max.code 2 (some .int) = Cond.code yJ9_max_7cf53 cJ9_max_7cf53 2 (some .int) := by rfl
theorem cmin_eq : Cond.code Lib.Math.min.name Lib.Math.min.code 2 (some .int) = Cond.code yJ9_min_7cf53 cJ9_min_7cf53 2 (some .int) := by rfl
section AWMath
variable {X : Cx} {g : Gd} {own : String} {cc : ByteArray} {nL : Nat} {Bd : Nat × Nat × Nat} {E : En} {I : MI} {L : ML} {pc : Nat} {Lc : List (Option Value)} {st : List Value}
theorem aw_mmax {idx : Nat} {x y : Int32} (d : decode cc pc = .ok (.invokestatic idx, 3)) (hl : Cond.methodLink own idx yJ9_max_7cf53 ∈ tblG) (hd : 1 ≤ Bd.1) (hw : (st.map fun v => v.category).sum ≤ 8) (hf : E.2.2.2.1 ≤ Bd.2.1 ∧ E.2.2.2.2 ≤ Bd.2.2)
    (kk : AW X g own cc nL Bd E I L (pc + 3) Lc (.int (imax x y) :: st)) : AW X g own cc nL Bd E I L pc Lc (.int y :: .int x :: st) := by
  intro F H locs ls h1 h2 h3 h4 h5
  obtain ⟨hx, hbc, hml, ho, hts, hK, hSt, hlk, ⟨r1, r2, r3, r4⟩, hB⟩ := id F
  have K := kk F H locs ls h1 h2 h3 h4 h5
  exact va_mmax hx hbc (hml.trans h5.2.1.symm) ho (hts _ hl) (hts _ mJ9_max_7cf53.2) (hts _ mJ9_max_7cf53.1.2.1) (by rw [cmax_eq]; exact hts _ mJ9_max_7cf53.1.1) (by omega) (by rw [cvK_cats]; omega) (by rw [← r3]; exact hf.1) (by rw [← r4]; exact hf.2) d K
theorem aw_mmin {idx : Nat} {x y : Int32} (d : decode cc pc = .ok (.invokestatic idx, 3)) (hl : Cond.methodLink own idx yJ9_min_7cf53 ∈ tblG) (hd : 1 ≤ Bd.1) (hw : (st.map fun v => v.category).sum ≤ 8) (hf : E.2.2.2.1 ≤ Bd.2.1 ∧ E.2.2.2.2 ≤ Bd.2.2)
    (kk : AW X g own cc nL Bd E I L (pc + 3) Lc (.int (imin x y) :: st)) : AW X g own cc nL Bd E I L pc Lc (.int y :: .int x :: st) := by
  intro F H locs ls h1 h2 h3 h4 h5
  obtain ⟨hx, hbc, hml, ho, hts, hK, hSt, hlk, ⟨r1, r2, r3, r4⟩, hB⟩ := id F
  have K := kk F H locs ls h1 h2 h3 h4 h5
  exact va_mmin hx hbc (hml.trans h5.2.1.symm) ho (hts _ hl) (hts _ mJ9_min_7cf53.2) (hts _ mJ9_min_7cf53.1.2.1) (by rw [cmin_eq]; exact hts _ mJ9_min_7cf53.1.1) (by omega) (by rw [cvK_cats]; omega) (by rw [← r3]; exact hf.1) (by rw [← r4]; exact hf.2) d K
end AWMath
