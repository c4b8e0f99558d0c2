/-! the words that the throw in HomesQueue.out stands on, and the throw -/
abbrev nseN : String := "java/util/NoSuchElementException"
abbrev nseR : String := "java/lang/RuntimeException"
abbrev nseE : String := "java/lang/Exception"
abbrev nseB : ByteArray := prog_28_method_4_code
theorem nse_hat {s : State} {args : Array Value} (hts : ∀ w ∈ tblG, w.before args s = true)
    (hrU : (Cond.isRef (.static Bundle.tN "UNASSIGNED_STACK" Bundle.steD)).before args s = true) (hrN : (Cond.isRef (.static Bundle.tN "SUPPRESSED_SENTINEL" Bundle.listD)).before args s = true)
    (hlU : (Cond.laysStatic Bundle.tN "UNASSIGNED_STACK" Bundle.steD).before args s = true) (hlN : (Cond.laysStatic Bundle.tN "SUPPRESSED_SENTINEL" Bundle.listD).before args s = true)
    (hca : (Cond.castable nseN nseN).before args s = true) (hd1 : (Cond.declares (Bundle.initS nseR)).before args s = true) (hd2 : (Cond.declares (Bundle.initS nseE)).before args s = true) (hd3 : (Cond.declares (Bundle.initS Bundle.tN)).before args s = true) :
    ∀ w ∈ nseA "HomesQueue" 402 nseN 13 nseB nseR [nseE], w.before args s = true := by
  have qA : ∀ w ∈ Bundle.throwableAtoms, w.before args s = true := vx_c (hts _ (t1 (i := 20) rfl rfl)) (vx_c (hts _ (t6 (i := 172) rfl rfl)) (vx_c (hts _ (t6 (i := 181) rfl rfl)) (vx_c (hts _ (t6 (i := 183) rfl rfl)) (vx_c (hts _ (t6 (i := 186) rfl rfl)) (vx_c (hts _ (t6 (i := 188) rfl rfl)) (vx_c (hts _ (t6 (i := 173) rfl rfl)) (vx_c (hts _ (t6 (i := 174) rfl rfl)) (vx_c (hts _ (t1 (i := 30) rfl rfl)) (vx_c (hts _ (t1 (i := 31) rfl rfl)) (vx_c (hts _ (t6 (i := 175) rfl rfl)) (vx_c (hts _ (t6 (i := 180) rfl rfl)) (vx_c (hts _ (t6 (i := 184) rfl rfl)) (vx_c (hts _ (t6 (i := 204) rfl rfl)) (vx_c (hts _ (t6 (i := 162) rfl rfl)) (vx_c (hts _ (t6 (i := 205) rfl rfl)) (vx_c (hts _ (t6 (i := 164) rfl rfl)) (vx_c (hts _ (t6 (i := 206) rfl rfl)) (vx_c (hts _ (t6 (i := 166) rfl rfl)) (vx_c (hts _ (t6 (i := 176) rfl rfl)) (vx_c hlU (vx_c (hts _ (t6 (i := 178) rfl rfl)) (vx_c hlN (vx_c (hts _ (t6 (i := 168) rfl rfl)) vx_n)))))))))))))))))))))))
  have qB : ∀ w ∈ Bundle.throwableSAtoms, w.before args s = true := vx_c (hts _ (t6 (i := 200) rfl rfl)) (vx_c (hts _ (t6 (i := 201) rfl rfl)) (vx_c (hts _ (t6 (i := 203) rfl rfl)) (vx_c (hts _ (t6 (i := 168) rfl rfl)) vx_n)))
  have qC : ∀ w ∈ Bundle.passSAtoms nseN nseR 13 nseB, w.before args s = true := vx_c (hts _ (t6 (i := 191) rfl rfl)) (vx_c (hts _ (t6 (i := 192) rfl rfl)) (vx_c (hts _ (t6 (i := 193) rfl rfl)) (vx_c (hts _ (t6 (i := 194) rfl rfl)) (vx_c hd1 vx_n))))
  have qD : ∀ w ∈ Bundle.passSAtoms nseR nseE 7 Bundle.six, w.before args s = true := vx_c (hts _ (t6 (i := 194) rfl rfl)) (vx_c (hts _ (t6 (i := 195) rfl rfl)) (vx_c (hts _ (t6 (i := 196) rfl rfl)) (vx_c (hts _ (t6 (i := 197) rfl rfl)) (vx_c hd2 vx_n))))
  have qE : ∀ w ∈ Bundle.passSAtoms nseE Bundle.tN 7 Bundle.six, w.before args s = true := vx_c (hts _ (t6 (i := 197) rfl rfl)) (vx_c (hts _ (t6 (i := 198) rfl rfl)) (vx_c (hts _ (t6 (i := 199) rfl rfl)) (vx_c (hts _ (t6 (i := 200) rfl rfl)) (vx_c hd3 vx_n))))
  intro w hw
  rcases List.mem_append.mp hw with hw | hw
  · rcases List.mem_append.mp hw with hw | hw
    · rcases List.mem_append.mp hw with hw | hw
      · exact qA w hw
      · exact qB w hw
    · rcases List.mem_append.mp hw with hw | hw
      · exact qC w hw
      · rcases List.mem_append.mp (show w ∈ Bundle.passSAtoms nseR nseE 7 Bundle.six ++ Bundle.passSAtoms nseE Bundle.tN 7 Bundle.six from hw) with hw | hw
        · exact qD w hw
        · exact qE w hw
  · exact (vx_c (hts _ (t6 (i := 190) rfl rfl)) (vx_c (hts _ (t6 (i := 151) rfl rfl)) (vx_c hca (vx_c (hts _ (t6 (i := 159) rfl rfl)) (vx_c (hts _ (t6 (i := 160) rfl rfl)) (vx_c (hts _ (t6 (i := 161) rfl rfl)) (vx_c (hts _ (t6 (i := 163) rfl rfl)) (vx_c (hts _ (t6 (i := 165) rfl rfl)) (vx_c (hts _ (t6 (i := 167) rfl rfl)) (vx_c hrU (vx_c hrN (vx_c (hts _ (t6 (i := 171) rfl rfl)) (vx_c (hts _ (t6 (i := 170) rfl rfl)) (vx_c (hts _ (t6 (i := 169) rfl rfl)) vx_n)))))))))))))) w hw
theorem nse_0 : decode nseB 0 = .ok (.aload_n 0, 1) := by decide +kernel
theorem nse_1 : decode nseB 1 = .ok (.aload_n 1, 1) := by decide +kernel
theorem nse_2 : decode nseB 2 = .ok (.invokespecial 13, 3) := by decide +kernel
theorem nse_5 : decode nseB 5 = .ok (.return_, 1) := by decide +kernel
/-- what is known where the exception has left -/
def XcK (P : Prop) (g : Gd) (n : Nat) (sh : Shp) (I : MI) (L : ML) : String → State → State → Prop := fun E st t =>
  P ∧ E = nseN ∧ (∃ z : Nat, t.heap.size = g.1 + z ∧ (n ≤ z ∧ n ≤ 900000) ∧ va_P g.2.2.1 vwCl (wdK g n sh I L) t.heap) ∧ va_F (fun q => g.1 ≤ q) st t
def XQX (X : Cx) (g : Gd) (ret : Option FieldType) (Bd : Nat × Nat × Nat) (Po : PoT) (P : Prop) (n : Nat) (sh : Shp) (I : MI) (L : ML) : Prop :=
  xQ X = vx_MQ (xB X) (QcK g Po) (XcK P g n sh I L) (xA X) (xS X) Bd.2.1 Bd.2.2 (fun q => g.1 ≤ q) ∧ (xT X).sig.returnType = ret ∧ (∀ x ∈ (xC X).exceptionTable.toList, False) ∧ (xL X).stackTraces = false
section NSEW
variable {X : Cx} {g : Gd} {Bd : Nat × Nat × Nat} {I : MI} {L : ML} {Lc : List (Option Value)} {Po : PoT} {P : Prop} {z n : Nat} {sh : Shp} {ret : Option FieldType}
theorem aw_iretX {own : String} {cc : ByteArray} {nL pc : Nat} {E : En} {I2 : MI} {L2 : ML} {v : Int32} (q : XQX X g ret Bd Po P n sh I L) (hr : ret = some .int) (d : decode cc pc = .ok (.ireturn, 1)) (hc : E.2.2.2.1 ≤ Bd.2.1 ∧ E.2.2.2.2 ≤ Bd.2.2) (hp : Po (some (.int v)) E.1 E.2.1 E.2.2.1 I2 L2) : AW X g own cc nL Bd E I2 L2 pc Lc [.int v] := by
  intro F H locs ls h1 h2 h3 h4 h5
  rw [q.1]
  subst hr
  refine W.widen (k := Bd.2.1) (n := Bd.2.2) hc.1 hc.2 ?_
  exact vx_ret (W.iret F.1 F.2.1 q.2.1 (fun t ht hW => ⟨⟨some (.int v), _, _, _, I2, L2, rfl, hp, by rw [ht]; exact h1, h2, by rw [ht]; exact h3⟩, h4.F ht⟩) h4.2.2 d F.2.2.2.2.2.2.2.1)
set_option maxHeartbeats 1000000 in
theorem aw_nse (hp : P) (q : XQX X g ret Bd Po P n sh I L) (hd : 6 ≤ Bd.1) (hB : Bd.2.1 = 1 ∧ Bd.2.2 = 6) : AW X g RX10 cX10_out 2 Bd (z, n, sh, 0, 0) I L 15 Lc [] := by
  intro F H locs ls h1 h2 h3 h4 h5
  rw [q.1, hB.1, hB.2]
  obtain ⟨p, l, e, R, s, m, args, below, meth, c, Q⟩ := X
  obtain ⟨hexec, hb, hml, hown, hts, hK, hSt, hlk, ⟨r1, r2, r3, r4⟩, hgs⟩ := F
  obtain ⟨-, -, hout, hl⟩ := q
  dsimp only [xP, xL, xE, xR, xS, xM, xA, xB, xT, xC, xQ] at *
  intro T hT X
  have htr : e.platform.stackTraces = false := (show e.platform.stackTraces = l.stackTraces by rw [X.admits.platform]).trans hl
  have Y := vx_rebase X (R' := { frames := R.frames, locals := R.locals, cells := 1, slots := 6 }) (Nat.le_refl _) (Nat.le_refl _) (by show 0 + 1 ≤ R.cells; omega) (by show 0 + 6 ≤ R.slots; omega)
  obtain ⟨s', hA⟩ : ∃ z, z = (T.setVm s.vm).setFrames (.invoking m args :: below) := ⟨_, rfl⟩
  rw [← hA] at Y
  have hvm : s'.vm = s.vm := by rw [hA]; rfl
  have hhp : s'.heap = H := by rw [hA]; exact hT
  have hW0 : s.WarmedH s'.vm := by rw [hvm]; exact State.WarmedH.refl s
  have hts' : ∀ w ∈ tblG, w.before args s' = true := fun w hw => word_at hW0 (tblG_good hw) (hts w hw)
  have hS' : StK g s' s'.heap := by rw [hhp]; exact hSt.to hW0 h4.2.1
  obtain ⟨-, -, -, hR, -, -, -, -, -, ⟨hU, hN⟩, w1, w2, w3, w4⟩ := hS'
  have h := nse_hat hts' (vx_isRefq hU.1) (vx_isRefq hN.1) hU.2.word hN.2.word (va_Nw.use rfl w1) (va_Nw.use rfl w2) (va_Nw.use rfl w3) (va_Nw.use rfl w4)
  have hstr : vk_R RX10 400 "OUT has no such byte" (g.2.1 1000111) s' := hR (RX10, 400, "OUT has no such byte", 11) (by decide)
  have hown' : s'.vm.findClass RX10 = some m.cls := by rw [hvm]; exact hown
  obtain ⟨vm₁, cX, kX, hfX, hkX, -, -, X₁, st1⟩ := Y.newCold hexec (own := RX10) (C := nseN) (index := 398) (n := 6) hown' (hts' _ (t6 (i := 150) rfl rfl)) (hts' _ (t6 (i := 151) rfl rfl)) (hts' _ (t1 (i := 23) rfl rfl))
    (g := F0 m 15 ls []) rfl (by rw [hb]; exact dX10_out_15) (Nat.le_refl _) (Nat.le_refl _)
  generalize hT1 : (T.setVm vm₁).pushCell { cls := cX, slots := kX.instanceTypes.map defaultValue, vm := .none } = T1 at X₁ st1
  have hcellA : T1.heap[T.heap.size]? = some (freshCell cX kX) := by rw [← hT1]; exact State.heap_pushCell_size _ _
  have d3' : decode c.code 18 = .ok (.dup, 1) := by rw [hb]; exact dX10_out_18
  have d4' : decode c.code 19 = .ok (.ldc_w 400, 3) := by rw [hb]; exact dX10_out_19
  have hsz : ls.size = c.maxLocals := h5.2.1.trans hml.symm
  obtain ⟨V, ce, Lx, X₂, hLx, hlt, hcc, hcv, st2⟩ := nse_made X₁ hexec htr nse_0 nse_1 nse_2 nse_5 (own := RX10) (cls := nseN) (Y1 := nseR) (names := [nseE]) (ic := 402) hown' (by decide +kernel) (by decide +kernel) (by decide +kernel) h (fun x hx => nomatch hx) hfX hkX hcellA (by rw [hhp, hT]; exact Nat.le_refl _) (msg := .ref (g.2.1 1000111)) rfl
    (g := { method := m, pc := 22, locals := ls, stack := .ref (g.2.1 1000111) :: .ref T.heap.size :: .ref T.heap.size :: [], locked := none }) rfl hsz (rest := []) rfl
    (by rw [hb]; exact dX10_out_22) (by show 1 + 4 < R.frames; omega) (by show 2 * 0 + 1 + (13 * (1 + 2) + 42) ≤ R.locals; omega)
  obtain ⟨hwalk, hrun, hend, hWU, hsame⟩ := X₂.athrowLeaves hexec (g := { method := m, pc := 25, locals := ls, stack := [.ref T.heap.size], locked := none }) rfl rfl rfl (fun x hx => (hout x hx).elim) (a := T.heap.size) (rest := []) rfl (by rw [hb]; exact dX10_out_25) hlk
  have hsame' := hsame.weaken (l' := []) (fun y hy hlt' => by
    rw [List.nil_append] at hy
    rw [hLx y hy, hhp, ← hT] at hlt'
    exact absurd hlt' (Nat.lt_irrefl _)) (Nat.le_refl _) (Nat.le_refl _)
  generalize hUU : (V.setCell T.heap.size ce).setFrames (.throwing T.heap.size :: below) = U at hwalk hrun hend hWU hsame hsame'
  have hceU : U.heap[T.heap.size]? = some ce := by rw [← hUU]; exact heapAt_setCell_self ce hlt
  obtain ⟨f1, f2⟩ := vx_frame hsame'
  rw [hhp] at f1 f2
  have hWs : s.WarmedH U.vm := State.WarmedH.trans hW0 hWU
  have hcl : s.vm.findClass nseN = some ce.cls := by rw [hcc, ← hvm]; exact hfX
  have hall : s.sameButNew ({ U with vm := s.vm } : State) locs 1 6 := by
    subst hA
    obtain ⟨e1, e2⟩ := hsame'
    rw [State.setFrames_setFrames] at e1
    have h2 : (T.setVm s.vm).sameButNew ({ U with vm := s.vm } : State) [] (0 + 1) (0 + 6) := ⟨e1, e2⟩
    have h3 := X.same.trans h2
    rw [List.append_nil] at h3
    exact h3.mono (Nat.le_refl _) (Nat.le_refl _)
  have hP : va_P g.2.2.1 vwCl (wdK g n sh I L) U.heap := h3.kept (fun k x hx => f2 x.1 (h3 k x hx).lt (fun z hz => nomatch hz))
  have hsz2 : H.size = g.1 + z := h1
  have hx : XcK P g n sh I L nseN s U := ⟨hp, rfl, ⟨U.heap.size - g.1, by omega, ⟨by have := h2.1; omega, h2.2⟩, hP⟩, Nat.le_trans h4.1 f1, fun y q1 q2 => (f2 y (Nat.lt_of_lt_of_le q1 h4.1) (fun z hz => nomatch hz)).trans (h4.2.1 y q1 q2)⟩
  refine ⟨U, ?_, .threw T.heap.size, hrun, hend, Or.inr ⟨T.heap.size, rfl, nseN, ce, locs, hx, hceU, hcv, hcl, hWs, hall, h4.2.2⟩⟩
  refine st1 _ ?_
  show Steps p.tables e below (T1.setTop { method := m, pc := 18, locals := ls, stack := .ref T.heap.size :: [], locked := none }) _
  jvm_step X₁.here [X₁.here.top, hexec, d3', Value.category]
  exact X₁.ldcStringW hexec (own := RX10) (text := "OUT has no such byte") (index := 400) (a := g.2.1 1000111) hown' hstr.1 hstr.2
    (g := { method := m, pc := 19, locals := ls, stack := .ref T.heap.size :: .ref T.heap.size :: [], locked := none }) rfl d4' _ (st2 _ hwalk)
end NSEW
