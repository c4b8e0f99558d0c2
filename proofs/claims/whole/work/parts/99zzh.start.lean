/-! the law's start: what lies there, as the walk wants it -/
abbrev nwC : Cond := Jvm.Cond.and given_1 narrow_1
def nwL : List Cond := flatC nwC
theorem nw {args : Array Value} {s : State} (h : nwC.before args s = true) {i : Nat} {w : Cond} (hi : nwL[i]? = some w) : w.before args s = true := flat_of_before _ h w (List.mem_of_getElem? hi)
theorem y1 {i : Nat} {w : Cond} (h : tables_1_1[i]? = some w) : w ∈ lw_tbl := List.mem_append_right _ (show w ∈ tables_1 from List.mem_append_left _ (List.mem_of_getElem? h))
theorem y2 {i : Nat} {w : Cond} (h : tables_1_2[i]? = some w) : w ∈ lw_tbl := List.mem_append_right _ (show w ∈ tables_1 from List.mem_append_right _ (List.mem_append_left _ (List.mem_of_getElem? h)))
theorem y3 {i : Nat} {w : Cond} (h : tables_1_3[i]? = some w) : w ∈ lw_tbl := List.mem_append_right _ (show w ∈ tables_1 from List.mem_append_right _ (List.mem_append_right _ (List.mem_append_left _ (List.mem_of_getElem? h))))
theorem y6 {i : Nat} {w : Cond} (h : tables_1_6[i]? = some w) : w ∈ lw_tbl := List.mem_append_right _ (show w ∈ tables_1 from List.mem_append_right _ (List.mem_append_right _ (List.mem_append_right _ (List.mem_append_right _ (List.mem_append_right _ (List.mem_append_left _ (List.mem_of_getElem? h)))))))
section ST
variable {args : Array Value} {s : State}
theorem ar_p {ty : FieldType} (h : (Cond.arrayClass ty).before args s = true) : ∃ cA, ArrOfT s cA ty ∧ s.vm.findClass ("[" ++ ty.toString) = some cA := by
  obtain ⟨c, k, comp, h1, h2, h3⟩ := Cond.arrayClass_spec h
  exact ⟨c, fun n z => ⟨fun k h => (by cases h), k, h2, comp, h3⟩, h1⟩
theorem ar_o {C : String} (h : (Cond.arrayOver (.object C)).before args s = true) : ∃ cA, ArrOfT s cA (.object C) ∧ va_RA s cA (.object C) := by
  obtain ⟨comp, c, k, h1, -, h3, h4, h5⟩ := Cond.arrayOver_spec h
  exact ⟨c, fun n z => ⟨fun k h => (by cases h), k, h3, comp, h4⟩, k, comp, h3, h4, h1, h5⟩
/-- the classes' numbers and slots -/
theorem st_D (hts : ∀ w ∈ tblG, w.before args s = true) : ∃ D : va_G, ∀ (k : Nat) (q : vw_C), vwCl[k]? = some q → u_Kn s q.1 q.2.1 q.2.2 (D.1 k) (D.2 k) := by
  have one : ∀ k, ∃ q : ClassId × (Nat → Nat), k < 12 → u_Kn s (clR k) (clT k) (nfK k) q.1 q.2 := by
    intro k
    by_cases hk : k < 12
    · have hi : Cond.instantiable (clR k) (nfK k) ∈ tblG := by
        match k, hk with
        | 0, _ => exact t2 (i := 211) rfl rfl
        | 1, _ => exact t2 (i := 44) rfl rfl
        | 2, _ => exact t1 (i := 40) rfl rfl
        | 3, _ => exact t1 (i := 111) rfl rfl
        | 4, _ => exact t2 (i := 192) rfl rfl
        | 5, _ => exact t2 (i := 178) rfl rfl
        | 6, _ => exact t2 (i := 64) rfl rfl
        | 7, _ => exact t1 (i := 33) rfl rfl
        | 8, _ => exact t1 (i := 209) rfl rfl
        | 9, _ => exact t3 (i := 0) rfl rfl
        | 10, _ => exact t1 (i := 25) rfl rfl
        | 11, _ => exact t6 (i := 220) rfl rfl
        | k + 12, h => exact absurd h (by omega)
      obtain ⟨c, iS, h⟩ := u_known hts (clF_in hk) (hts _ hi)
      exact ⟨(c, iS), fun _ => h⟩
    · exact ⟨(0, fun _ => 0), fun h => absurd h hk⟩
  obtain ⟨ad, had⟩ := Classical.axiomOfChoice one
  refine ⟨(fun k => (ad k).1, fun k => (ad k).2), fun k q hq => ?_⟩
  have hk : k < 12 := (List.getElem?_eq_some_iff.mp hq).1
  have e := (clF_of hk).2.1
  rw [e] at hq
  cases hq
  exact had k hk
/-- the array classes' numbers -/
theorem st_A (hts : ∀ w ∈ lw_tbl, w.before args s = true) : ∃ ar : Nat → ClassId, ∀ (b : Nat) (u : Nat → Nat) (D : va_G) (k : Nat) (q : ClassId × FieldType), (tysK (b, u, D, ar))[k]? = some q → ArrOfT s q.1 q.2 ∧ va_RA s q.1 q.2 := by
  obtain ⟨c0, a0, b0⟩ := ar_p (ty := .int) (hts _ (y1 (i := 207) rfl))
  obtain ⟨c1, a1, b1⟩ := ar_p (ty := .long) (hts _ (y2 (i := 175) rfl))
  obtain ⟨c2, a2, b2⟩ := ar_p (ty := .byte) (hts _ (y2 (i := 176) rfl))
  obtain ⟨c3, a3, b3⟩ := ar_o (C := "HomesQueue$State") (hts _ (y2 (i := 50) rfl))
  obtain ⟨c4, a4, b4⟩ := ar_o (C := "HomesQueue$Home") (hts _ (y1 (i := 39) rfl))
  obtain ⟨c5, a5, b5⟩ := ar_o (C := "HomesQueue$House") (hts _ (y1 (i := 110) rfl))
  refine ⟨fun k => if k = 100 then c0 else if k = 101 then c1 else if k = 102 then c2 else if k = 103 then c3 else if k = 104 then c4 else c5, fun b u D k q hq => ?_⟩
  match k, hq with
  | 0, hq => cases hq; exact ⟨a0, b0⟩
  | 1, hq => cases hq; exact ⟨a1, b1⟩
  | 2, hq => cases hq; exact ⟨a2, b2⟩
  | 3, hq => cases hq; exact ⟨a3, b3⟩
  | 4, hq => cases hq; exact ⟨a4, b4⟩
  | 5, hq => cases hq; exact ⟨a5, b5⟩
  | k + 6, hq => simp [tysK] at hq
/-! the texts -/
def strI (i : Nat) : Nat := [418, 419, 421, 423, 425, 427, 429, 431, 433, 435, 436, 400].getD i 0
def strE (i : Nat) : Nat := [92, 100, 110, 120, 129, 143, 155, 170, 186, 201, 218, 313].getD i 0
def strTm (i : Nat) : Term := .string "HomesQueue" (strI i)
def strV (i : Nat) : Term := .field (strTm i) "java/lang/String" "value" "[B"
theorem stx_1 : ∀ i, i < 12 → nwL[strE i]? = some (.exactly (strTm i) "java/lang/String") := by decide +kernel
theorem stx_2 : ∀ i, i < 12 → nwL[strE i + 1]? = some (.eq (.field (strTm i) "java/lang/String" "coder" "B") (.int 0)) := by decide +kernel
theorem stx_3 : ∀ i, i < 12 → nwL[strE i + 2]? = some (.arrayOf (strV i) .byte) := by decide +kernel
theorem stx_4 : ∀ i, i < 12 → nwL[strE i + 3]? = some (.eq (.length (strV i)) (.int (Int32.ofNat (strLen.getD i 0)))) := by decide +kernel
theorem stx_5 : ∀ i, i < 12 → ∀ j, j < strLen.getD i 0 → nwL[strE i + 4 + j]? = some (.eq (.elem (strV i) (.int (Int32.ofNat j))) (.int ((strByt.getD i []).getD j 0))) := by decide +kernel
theorem stx_6 : ∀ j, j < 12 → ∀ i, i < j → nwL[strE j + 4 + strLen.getD j 0 + i]? = some (.not (.eq (strTm i) (strTm j))) := by decide +kernel
end ST
