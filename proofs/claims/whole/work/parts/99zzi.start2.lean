/-! the law's start: the store's guide -/
section ST2
variable {args : Array Value} {s : State}
def g2K (q0 q1 q2 q3 : Nat) (aK aV : Nat → Nat) (b : Nat) : Nat → Nat := fun k =>
  if k < 1000100 then (if k = 1000000 then q0 else if k = 1000001 then q1 else if k = 1000002 then q2 else q3) else if k < 1000200 then aK (k - 1000100) else if k < 1000300 then aV (k - 1000200) else b
theorem g2_K {q0 q1 q2 q3 : Nat} {aK aV : Nat → Nat} {b i : Nat} (h : i < 12) : g2K q0 q1 q2 q3 aK aV b (1000100 + i) = aK i := by
  unfold g2K
  rw [if_neg (by omega), if_pos (by omega), Nat.add_sub_cancel_left]
theorem g2_V {q0 q1 q2 q3 : Nat} {aK aV : Nat → Nat} {b i : Nat} (h : i < 12) : g2K q0 q1 q2 q3 aK aV b (1000200 + i) = aV i := by
  unfold g2K
  rw [if_neg (by omega), if_neg (by omega), if_pos (by omega), Nat.add_sub_cancel_left]
theorem rows_6 {C n : String} {k : Nat} {f : Nat → Int32} {A : Nat → Prop} (h : nwC.before args s = true) (h1 : nwL[k]? = some (.arrayOf (.static C n "[I") .int)) (h2 : nwL[k + 1]? = some (.eq (.length (.static C n "[I")) (.int (Int32.ofNat 6))))
    (h3 : ∀ j, j < 6 → nwL[k + 2 + j]? = some (.eq (.elem (.static C n "[I") (.int (Int32.ofNat j))) (.int (f j)))) (hl : (Cond.laysStatic C n "[I").before args s = true) (hi : (Cond.initialized C).before args s = true) (hA : ∀ a : Nat, a < s.heap.size → ¬ A a) :
    ∃ t, va_Z C n "[I" (.ref t) A s s.heap ∧ va_T .int t 6 (fun j => .int (f j)) A s s.heap := by
  obtain ⟨t, ht, hT⟩ := va_Tof (tm := .static C n "[I") (ty := .int) (N := 6) (f := fun j => .int (f j)) (A := A) (by decide) (nw h h1) (va_eqt (nw h h2)) (fun j hj => va_eqt (nw h (h3 j hj))) hA
  exact ⟨t, va_Zof hl hi ht hA, hT⟩
theorem st_r0 : nwL[19]? = some (.arrayOf (.static "HomesQueue" "RULE_LEAST" "[I") .int) ∧ nwL[20]? = some (.eq (.length (.static "HomesQueue" "RULE_LEAST" "[I")) (.int (Int32.ofNat 6))) ∧ ∀ j, j < 6 → nwL[19 + 2 + j]? = some (.eq (.elem (.static "HomesQueue" "RULE_LEAST" "[I") (.int (Int32.ofNat j))) (.int (ruleLeast j))) := by decide +kernel
theorem st_r1 : nwL[28]? = some (.arrayOf (.static "HomesQueue" "RULE_MOST" "[I") .int) ∧ nwL[29]? = some (.eq (.length (.static "HomesQueue" "RULE_MOST" "[I")) (.int (Int32.ofNat 6))) ∧ ∀ j, j < 6 → nwL[28 + 2 + j]? = some (.eq (.elem (.static "HomesQueue" "RULE_MOST" "[I") (.int (Int32.ofNat j))) (.int (ruleMost j))) := by decide +kernel
theorem st_r2 : nwL[5]? = some (.arrayOf (.static "HomesQueue" "RULE_UNTOLD" "[I") .int) ∧ nwL[6]? = some (.eq (.length (.static "HomesQueue" "RULE_UNTOLD" "[I")) (.int (Int32.ofNat 6))) ∧ ∀ j, j < 6 → nwL[5 + 2 + j]? = some (.eq (.elem (.static "HomesQueue" "RULE_UNTOLD" "[I") (.int (Int32.ofNat j))) (.int (ruleUntold j))) := by decide +kernel
theorem st_o : nwL[13]? = some (.eq (.static "java/lang/String" "COMPACT_STRINGS" "Z") (.int 1)) ∧ nwL[14]? = some (.isRef (.static "jdk/internal/util/Preconditions" "SIOOBE_FORMATTER" "Ljava/util/function/BiFunction;")) ∧ nwL[36]? = some (.isRef (.static Bundle.tN "UNASSIGNED_STACK" Bundle.steD)) ∧ nwL[37]? = some (.isRef (.static Bundle.tN "SUPPRESSED_SENTINEL" Bundle.listD)) ∧
    nwL[242]? = some (.eq (.string "HomesQueue" 421) (.string "HomesQueue$Paper" 19)) ∧ nwL[259]? = some (.eq (.string "HomesQueue" 418) (.string "HomesQueue$Paper" 76)) ∧ nwL[281]? = some (.eq (.string "HomesQueue" 419) (.string "HomesQueue$Paper" 94)) ∧ nwL[302]? = some (.eq (.string "HomesQueue" 423) (.string "HomesQueue$Paper" 115)) := by decide +kernel
theorem st_K (b : Nat) (hts : ∀ w ∈ lw_tbl, w.before args s = true) (h : nwC.before args s = true) : ∃ g : Gd, g.1 = s.heap.size ∧ g.2.1 1000300 = b ∧ va_K g.2.2.1 vwCl (tysK g) s ∧ StK g s s.heap := by
  have htg : ∀ w ∈ tblG, w.before args s = true := fun w hw => hts w (List.mem_filter.mp hw).1
  obtain ⟨D, hD⟩ := st_D htg
  obtain ⟨ar, hr⟩ := st_A hts
  have hA : ∀ a : Nat, a < s.heap.size → ¬ (fun q => s.heap.size ≤ q) a := fun a h => Nat.not_le.mpr h
  have iH : (Cond.initialized "HomesQueue").before args s = true := hts _ (y1 (i := 1) rfl)
  obtain ⟨q0, z0, r0⟩ := rows_6 (f := ruleLeast) (k := 19) h st_r0.1 st_r0.2.1 st_r0.2.2 (hts _ (y3 (i := 191) rfl)) iH hA
  obtain ⟨q1, z1, r1⟩ := rows_6 (f := ruleMost) (k := 28) h st_r1.1 st_r1.2.1 st_r1.2.2 (hts _ (y3 (i := 193) rfl)) iH hA
  obtain ⟨q2, z2, r2⟩ := rows_6 (f := ruleUntold) (k := 5) h st_r2.1 st_r2.2.1 st_r2.2.2 (hts _ (y1 (i := 231) rfl)) iH hA
  have zc := va_Zof (C := "java/lang/String") (n := "COMPACT_STRINGS") (d := "Z") (hts _ (y2 (i := 92) rfl)) (hts _ (y1 (i := 9) rfl)) (va_eqi (nw h st_o.1)) hA
  have zf : ∃ q3, va_Z "jdk/internal/util/Preconditions" "SIOOBE_FORMATTER" "Ljava/util/function/BiFunction;" (.ref q3) (fun q => s.heap.size ≤ q) s s.heap ∨ va_Z "jdk/internal/util/Preconditions" "SIOOBE_FORMATTER" "Ljava/util/function/BiFunction;" .null (fun q => s.heap.size ≤ q) s s.heap := by
    rcases va_Zqof (hts _ (y2 (i := 108) rfl)) (hts _ (y1 (i := 11) rfl)) (nw h st_o.2.1) hA with z | ⟨t, z⟩
    · exact ⟨0, Or.inr z⟩
    · exact ⟨t, Or.inl z⟩
  obtain ⟨q3, z3⟩ := zf
  have zU : vx_Zq Bundle.tN "UNASSIGNED_STACK" Bundle.steD (fun q => s.heap.size ≤ q) s s.heap := vx_Zqof (hts _ (y6 (i := 177) rfl)) (hts _ (y1 (i := 20) rfl)) (nw h st_o.2.2.1) hA
  have zN : vx_Zq Bundle.tN "SUPPRESSED_SENTINEL" Bundle.listD (fun q => s.heap.size ≤ q) s s.heap := vx_Zqof (hts _ (y6 (i := 179) rfl)) (hts _ (y1 (i := 20) rfl)) (nw h st_o.2.2.2.1) hA
  obtain ⟨aK, aV, hS, hev⟩ := vk_Sof (args := args) (s := s) (N := 12) (tm := strTm) (len := strLen) (byt := strByt) (A := fun q => s.heap.size ≤ q) (by decide) (fun i hi => nw h (stx_1 i hi)) (fun i hi => nw h (stx_2 i hi)) (fun i hi => nw h (stx_3 i hi)) (fun i hi => nw h (stx_4 i hi)) (fun i hi j hj => nw h (stx_5 i hi j hj))
    (fun i j hi hj hne => by
      rcases Nat.lt_or_gt_of_ne hne with w | w
      · exact Or.inl (nw h (stx_6 j hj i w))
      · exact Or.inr (nw h (stx_6 i hi j w))) hA
  refine ⟨(s.heap.size, g2K q0 q1 q2 q3 aK aV b, D, ar), rfl, rfl, ⟨hD, hr _ _ D⟩, ⟨z0, r0⟩, ⟨z1, r1⟩, ⟨z2, r2⟩, ?_, ?_, ⟨va_Nw.of rfl (hts _ (y1 (i := 230) rfl)), va_Nw.of rfl (hts _ (y6 (i := 115) rfl)), va_Nw.of rfl (hts _ (y3 (i := 187) rfl)), va_Nw.of rfl (hts _ (y2 (i := 69) rfl))⟩, ⟨va_AO.of (hts _ (y2 (i := 50) rfl)), va_AO.of (hts _ (y1 (i := 39) rfl)), va_AO.of (hts _ (y1 (i := 110) rfl))⟩, zc, z3, ⟨zU, zN⟩, va_Nw.of rfl (hts _ (y6 (i := 152) rfl)), va_Nw.of rfl (hts _ (y6 (i := 154) rfl)), va_Nw.of rfl (hts _ (y6 (i := 156) rfl)), va_Nw.of rfl (hts _ (y6 (i := 158) rfl))⟩
  · have R : ∀ (own : String) (k i : Nat) (tx : String), i < 12 → (Cond.stringRef own k tx).before args s = true → (Term.string own k).eval args s none [] s = some (.ref (aK i)) → vk_R own k tx (g2K q0 q1 q2 q3 aK aV b (1000100 + i)) s := fun own k i tx hi h1 h2 => by
      rw [g2_K hi]
      exact vk_R.of h1 h2
    have e0 := hev 0 (by decide)
    have e1 := hev 1 (by decide)
    have e2 := hev 2 (by decide)
    have e3 := hev 3 (by decide)
    refine List.forall_mem_cons.mpr ⟨R _ _ 0 _ (by decide) (hts _ (y2 (i := 72) rfl)) e0, ?_⟩
    refine List.forall_mem_cons.mpr ⟨R _ _ 1 _ (by decide) (hts _ (y2 (i := 73) rfl)) e1, ?_⟩
    refine List.forall_mem_cons.mpr ⟨R _ _ 2 _ (by decide) (hts _ (y2 (i := 74) rfl)) e2, ?_⟩
    refine List.forall_mem_cons.mpr ⟨R _ _ 3 _ (by decide) (hts _ (y2 (i := 75) rfl)) e3, ?_⟩
    refine List.forall_mem_cons.mpr ⟨R _ _ 4 _ (by decide) (hts _ (y2 (i := 76) rfl)) (hev 4 (by decide)), ?_⟩
    refine List.forall_mem_cons.mpr ⟨R _ _ 5 _ (by decide) (hts _ (y2 (i := 77) rfl)) (hev 5 (by decide)), ?_⟩
    refine List.forall_mem_cons.mpr ⟨R _ _ 6 _ (by decide) (hts _ (y2 (i := 78) rfl)) (hev 6 (by decide)), ?_⟩
    refine List.forall_mem_cons.mpr ⟨R _ _ 7 _ (by decide) (hts _ (y2 (i := 79) rfl)) (hev 7 (by decide)), ?_⟩
    refine List.forall_mem_cons.mpr ⟨R _ _ 8 _ (by decide) (hts _ (y2 (i := 80) rfl)) (hev 8 (by decide)), ?_⟩
    refine List.forall_mem_cons.mpr ⟨R _ _ 9 _ (by decide) (hts _ (y2 (i := 81) rfl)) (hev 9 (by decide)), ?_⟩
    refine List.forall_mem_cons.mpr ⟨R _ _ 10 _ (by decide) (hts _ (y2 (i := 82) rfl)) (hev 10 (by decide)), ?_⟩
    refine List.forall_mem_cons.mpr ⟨R _ _ 11 _ (by decide) (hts _ (y6 (i := 189) rfl)) (hev 11 (by decide)), ?_⟩
    refine List.forall_mem_cons.mpr ⟨R _ _ 3 _ (by decide) (hts _ (y6 (i := 140) rfl)) (va_eqR (nw h st_o.2.2.2.2.2.2.2) e3), ?_⟩
    refine List.forall_mem_cons.mpr ⟨R _ _ 2 _ (by decide) (hts _ (y6 (i := 104) rfl)) (va_eqR (nw h st_o.2.2.2.2.1) e2), ?_⟩
    refine List.forall_mem_cons.mpr ⟨R _ _ 0 _ (by decide) (hts _ (y6 (i := 129) rfl)) (va_eqR (nw h st_o.2.2.2.2.2.1) e0), ?_⟩
    refine List.forall_mem_cons.mpr ⟨R _ _ 1 _ (by decide) (hts _ (y6 (i := 138) rfl)) (va_eqR (nw h st_o.2.2.2.2.2.2.1) e1), fun _ h => nomatch h⟩
  · refine ⟨fun i hi => ?_, fun i j hi hj e => ?_⟩
    · show va_O "java/lang/String" (g2K q0 q1 q2 q3 aK aV b (1000100 + i)) _ _ _ ∧ va_OF "java/lang/String" "coder" "B" (.int 0) (g2K q0 q1 q2 q3 aK aV b (1000100 + i)) _ _ _ ∧ va_OF "java/lang/String" "value" "[B" (.ref (g2K q0 q1 q2 q3 aK aV b (1000200 + i))) (g2K q0 q1 q2 q3 aK aV b (1000100 + i)) _ _ _ ∧ va_T .byte (g2K q0 q1 q2 q3 aK aV b (1000200 + i)) _ _ _ _ _
      rw [g2_K hi, g2_V hi]
      exact hS.1 i hi
    · have e2 : g2K q0 q1 q2 q3 aK aV b (1000100 + i) = g2K q0 q1 q2 q3 aK aV b (1000100 + j) := e
      rw [g2_K hi, g2_K hj] at e2
      exact hS.2 i j hi hj e2
end ST2
