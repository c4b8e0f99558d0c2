/-! contracts, calls, ends -/
def rmK (d mc ms : Nat) : Room := { frames := d, cells := mc, slots := ms, locals := 100 * d }
/-- what holds at a method's start -/
def PcK (g : Gd) (vs : List Value) (z n : Nat) (sh : Shp) (I : MI) (L : ML) : Array Value → State → Prop := fun a U =>
  a = (vs.map (cvK g)).toArray ∧ va_K g.2.2.1 vwCl (tysK g) U ∧ StK g U U.heap ∧ U.heap.size = g.1 + z ∧ (n ≤ z ∧ n ≤ 900000) ∧ va_P g.2.2.1 vwCl (wdK g n sh I L) U.heap
/-- its answer, then the store: heap's size, cells, shapes, ints, longs -/
abbrev PoT : Type := Option Value → Nat → Nat → Shp → MI → ML → Prop
def QcK (g : Gd) (Po : PoT) : Array Value → State → Outcome → State → Prop := fun _ st o t =>
  (∃ (v : Option Value) (z n : Nat) (sh : Shp) (I : MI) (L : ML), o = .returned (v.map (cvK g)) ∧ Po v z n sh I L ∧ t.heap.size = g.1 + z ∧ (n ≤ z ∧ n ≤ 900000) ∧ va_P g.2.2.1 vwCl (wdK g n sh I L) t.heap) ∧ va_F (fun q => g.1 ≤ q) st t
/-- a method's contract from one start: its name, code, locals, what it returns; depth, cells and slots that it makes; arguments, store, end -/
def CM (y : MethodName) (cc : ByteArray) (nL : Nat) (ret : Option FieldType) (d mc ms : Nat) (vs : List Value) (z n : Nat) (sh : Shp) (I : MI) (L : ML) (Po : PoT) : Prop :=
  ∀ (l : Launch) (g : Gd), Met l y (.code y cc nL ret :: tblG) (rmK d mc ms) (PcK g vs z n sh I L) (QcK g Po) mc ms (fun q => g.1 ≤ q)
/-- an end that is known: the answer and the store -/
def Pst (r : Option Value) (z n : Nat) (sh : Shp) (I : MI) (L : ML) : PoT := fun v z' n' sh' I' L' => v = r ∧ z' = z ∧ n' = n ∧ sh' = sh ∧ I' = I ∧ L' = L
theorem Pst.rf {r : Option Value} {z n : Nat} {sh : Shp} {I : MI} {L : ML} : Pst r z n sh I L r z n sh I L := ⟨rfl, rfl, rfl, rfl, rfl, rfl⟩
def XQ (X : Cx) (g : Gd) (ret : Option FieldType) (Bd : Nat × Nat × Nat) (Po : PoT) : Prop :=
  xQ X = MQ (xB X) (QcK g Po) (xA X) (xS X) Bd.2.1 Bd.2.2 (fun q => g.1 ≤ q) ∧ (xT X).sig.returnType = ret
theorem CM.intro {y : MethodName} {cc : ByteArray} {nL : Nat} {ret : Option FieldType} {d mc ms : Nat} {vs : List Value} {z n : Nat} {sh : Shp} {I : MI} {L : ML} {Po : PoT}
    (hy : plainName y.cls = true) (hl : (entL vs).length ≤ nL)
    (body : ∀ (X : Cx) (g : Gd), XQ X g ret (d, mc, ms) Po → AW X g y.cls cc nL (d, mc, ms) (z, n, sh, 0, 0) I L 0 (ent nL vs) []) : CM y cc nL ret d mc ms vs z n sh I L Po := by
  intro l g
  refine Met.ofW (cc := cc) (maxL := nL) (ret := ret) hy rfl ?_
  intro p e s m args below meth c s₁ B hml hv
  obtain ⟨ha, hK, hSt, hz, hn, hP⟩ := hv
  have hts := atoms_spec (ws := .code y cc nL ret :: tblG) B.pre
  have b := body (p, l, e, rmK d mc ms, s, m, args, below, meth, c, MQ below (QcK g Po) args s mc ms (fun q => g.1 ≤ q)) g ⟨rfl, B.returns⟩
    ⟨B.exec, B.bytes, hml, findClass_of_methodNamed B.named, fun w hw => hts w (List.mem_cons_of_mem _ hw), hK, hSt, B.notSynchronized, ⟨Nat.le_refl _, Nat.le_refl _, rfl, rfl⟩, by rw [hz]; exact Nat.le_add_right _ _⟩
    s.heap [] _ hz hn hP va_S.rf (lr_entry g vs hl)
  rw [ha, lg_entry_eq]
  rw [ha] at b
  exact b
section AWEnd
variable {X : Cx} {g : Gd} {own : String} {cc : ByteArray} {nL : Nat} {Bd : Nat × Nat × Nat} {E : En} {I : MI} {L : ML} {pc : Nat} {Lc : List (Option Value)} {st : List Value} {ret : Option FieldType} {Po : PoT}
theorem aw_iret {v : Int32} (q : XQ X g ret Bd Po) (hr : ret = some .int) (d : decode cc pc = .ok (.ireturn, 1)) (hc : E.2.2.2.1 ≤ Bd.2.1 ∧ E.2.2.2.2 ≤ Bd.2.2) (hp : Po (some (.int v)) E.1 E.2.1 E.2.2.1 I L) : AW X g own cc nL Bd E I L pc Lc [.int v] := by
  intro F H locs ls h1 h2 h3 h4 h5
  rw [q.1]
  subst hr
  refine W.widen (k := Bd.2.1) (n := Bd.2.2) hc.1 hc.2 ?_
  exact W.iret F.1 F.2.1 q.2 (fun t ht hW => ⟨⟨some (.int v), _, _, _, I, L, rfl, hp, by rw [ht]; exact h1, h2, by rw [ht]; exact h3⟩, h4.F ht⟩) h4.2.2 d F.2.2.2.2.2.2.2.1
theorem aw_zret {v : Int32} (q : XQ X g ret Bd Po) (hr : ret = some .boolean) (hv : v = 0 ∨ v = 1) (d : decode cc pc = .ok (.ireturn, 1)) (hc : E.2.2.2.1 ≤ Bd.2.1 ∧ E.2.2.2.2 ≤ Bd.2.2) (hp : Po (some (.int v)) E.1 E.2.1 E.2.2.1 I L) : AW X g own cc nL Bd E I L pc Lc [.int v] := by
  intro F H locs ls h1 h2 h3 h4 h5
  rw [q.1]
  subst hr
  refine W.widen (k := Bd.2.1) (n := Bd.2.2) hc.1 hc.2 ?_
  exact W.zret F.1 F.2.1 q.2 (by rcases hv with rfl | rfl <;> rfl) (fun t ht hW => ⟨⟨some (.int v), _, _, _, I, L, rfl, hp, by rw [ht]; exact h1, h2, by rw [ht]; exact h3⟩, h4.F ht⟩) h4.2.2 d F.2.2.2.2.2.2.2.1
theorem aw_lret {v : Int64} (q : XQ X g ret Bd Po) (hr : ret = some .long) (d : decode cc pc = .ok (.lreturn, 1)) (hc : E.2.2.2.1 ≤ Bd.2.1 ∧ E.2.2.2.2 ≤ Bd.2.2) (hp : Po (some (.long v)) E.1 E.2.1 E.2.2.1 I L) : AW X g own cc nL Bd E I L pc Lc [.long v] := by
  intro F H locs ls h1 h2 h3 h4 h5
  rw [q.1]
  subst hr
  refine W.widen (k := Bd.2.1) (n := Bd.2.2) hc.1 hc.2 ?_
  exact W.lret F.1 F.2.1 q.2 (fun t ht hW => ⟨⟨some (.long v), _, _, _, I, L, rfl, hp, by rw [ht]; exact h1, h2, by rw [ht]; exact h3⟩, h4.F ht⟩) h4.2.2 d F.2.2.2.2.2.2.2.1
theorem aw_vret (q : XQ X g ret Bd Po) (hr : ret = none) (d : decode cc pc = .ok (.return_, 1)) (hc : E.2.2.2.1 ≤ Bd.2.1 ∧ E.2.2.2.2 ≤ Bd.2.2) (hp : Po none E.1 E.2.1 E.2.2.1 I L) : AW X g own cc nL Bd E I L pc Lc [] := by
  intro F H locs ls h1 h2 h3 h4 h5
  rw [q.1]
  subst hr
  refine W.widen (k := Bd.2.1) (n := Bd.2.2) hc.1 hc.2 ?_
  exact W.vret F.1 F.2.1 q.2 (fun t ht hW => ⟨⟨none, _, _, _, I, L, rfl, hp, by rw [ht]; exact h1, h2, by rw [ht]; exact h3⟩, h4.F ht⟩) h4.2.2 d F.2.2.2.2.2.2.2.1
theorem aw_aret {v : Value} {C : String} (q : XQ X g ret Bd Po) (hr : ret = some (.object C)) (hv : v = .null ∨ ∃ a, v = .ref a) (d : decode cc pc = .ok (.areturn, 1)) (hc : E.2.2.2.1 ≤ Bd.2.1 ∧ E.2.2.2.2 ≤ Bd.2.2) (hp : Po (some v) E.1 E.2.1 E.2.2.1 I L) : AW X g own cc nL Bd E I L pc Lc [v] := by
  intro F H locs ls h1 h2 h3 h4 h5
  rw [q.1]
  subst hr
  refine W.widen (k := Bd.2.1) (n := Bd.2.2) hc.1 hc.2 ?_
  exact W.aret (v := cvK g v) F.1 F.2.1 q.2 (Or.inl ⟨C, rfl⟩) (by rcases hv with rfl | ⟨a, rfl⟩; exact Or.inl rfl; exact Or.inr ⟨_, rfl⟩) (fun t ht hW => ⟨⟨some v, _, _, _, I, L, rfl, hp, by rw [ht]; exact h1, h2, by rw [ht]; exact h3⟩, h4.F ht⟩) h4.2.2 d F.2.2.2.2.2.2.2.1
/-! calls -/
def mB (y : MethodName) (cc : ByteArray) (nL : Nat) (ret : Option FieldType) (np : Nat) : Prop :=
  Cond.code y cc nL ret ∈ tblG ∧ Cond.initialized y.cls ∈ tblG ∧ (y.cls ≠ "java/lang/invoke/MethodHandle" ∧ y.cls ≠ "java/lang/invoke/VarHandle") ∧ (parseMethodDescriptor y.desc).map (fun d => d.parameters.length) = some np ∧ nL ≤ 80
def mV (y : MethodName) (cc : ByteArray) (nL : Nat) (ret : Option FieldType) (np : Nat) : Prop := mB y cc nL ret np ∧ Cond.instanceMethod y ∈ tblG ∧ Cond.selects y.cls y y ∈ tblG
def mS (y : MethodName) (cc : ByteArray) (nL : Nat) (ret : Option FieldType) (np : Nat) : Prop := mB y cc nL ret np ∧ Cond.static y ∈ tblG
def mI (y : MethodName) (cc : ByteArray) (nL : Nat) (np : Nat) : Prop := mB y cc nL none np ∧ Cond.instanceMethod y ∈ tblG ∧ y.name = "<init>"
theorem pay_G {s : State} {args : Array Value} (hts : ∀ w ∈ tblG, w.before args s = true) {w0 : Cond} (h0 : w0 ∈ tblG) : ∀ w ∈ w0 :: tblG, ∀ (a' : Array Value) (U : State), s.WarmedH U.vm → w.before a' U = true := by
  intro w hw a' U hW
  have hm : w ∈ tblG := by
    rcases List.mem_cons.mp hw with rfl | h
    · exact h0
    · exact h
  exact word_at hW (tblG_good hm) (hts w hm)
theorem callB_K {s : State} {args : Array Value} {R : Room} {idx : Nat} {y : MethodName} {cc2 : ByteArray} {nL2 : Nat} {ret2 : Option FieldType} {np d mc ms D : Nat} (hts : ∀ w ∈ tblG, w.before args s = true) (hm : mB y cc2 nL2 ret2 np) (hl : Cond.methodLink own idx y ∈ tblG) (hd : d + 1 ≤ D) (hR : D ≤ R.frames ∧ 100 * D ≤ R.locals) :
    CallB R s args own idx y cc2 nL2 ret2 (.code y cc2 nL2 ret2 :: tblG) (rmK d mc ms) mc ms np := by
  obtain ⟨m1, m2, m3, m4, m5⟩ := hm
  refine ⟨rfl, rfl, ?_, ?_, pay_G hts m1, List.mem_cons_self, hts _ m1, hts _ m2, m3, fun sig h => ?_, hts _ hl⟩
  · show d + 1 ≤ R.frames
    omega
  · show 8 + (nL2 + 11) + 100 * d ≤ R.locals
    omega
  · rw [h] at m4
    exact (Option.some.inj m4).symm
theorem PcK_blind {vs : List Value} {z n : Nat} {sh : Shp} : FrameBlind (PcK g vs z n sh I L) := by
  intro a U gg mk h
  obtain ⟨q0, q1, q2, q3, q4, q5⟩ := h
  exact ⟨q0, va_K.moved (u := U) (U := U.calling gg mk a) (Vm.Alike.refl U.vm) q1, q2.same rfl, q3, q4, q5⟩
theorem PcK_start {vs : List Value} {s : State} {H : Heap} {locs : List Loc} (hK : va_K g.2.2.1 vwCl (tysK g) s) (hSt : StK g s s.heap) (h1 : H.size = g.1 + E.1) (h2 : E.2.1 ≤ E.1 ∧ E.2.1 ≤ 900000) (h3 : va_P g.2.2.1 vwCl (wdK g E.2.1 E.2.2.1 I L) H) (h4 : va_S (fun q => g.1 ≤ q) s.heap H locs) :
    ∀ U : State, U.heap = H → s.WarmedH U.vm → PcK g vs E.1 E.2.1 E.2.2.1 I L ((vs.map (cvK g)).toArray) U := by
  intro U hU hW
  refine ⟨rfl, va_K.moved hW.alike hK, ?_, by rw [hU]; exact h1, h2, by rw [hU]; exact h3⟩
  exact hSt.to hW (fun a ha hA => by rw [hU]; exact h4.2.1 a ha hA)
/-- behind a call -/
theorem call_end {Po : PoT} {ar : Array Value} {mc ms : Nat} {H : Heap} {locs : List Loc} {ls : Array Slot} {st0 : List Value} (F : FctX X g own cc nL Bd) (h4 : va_S (fun q => g.1 ≤ q) (xS X).heap H locs) (h5 : lrK g nL Lc ls)
    (run : va_Run (xP X) (xL X) (xE X) (xR X) (xS X) (xM X) (xA X) (xB X) (xT X) (xC X) H locs E.2.2.2.1 E.2.2.2.2 mc ms (F0 (xM X) pc ls st0) (st.map (cvK g)) (QcK g Po ar) (fun q => g.1 ≤ q))
    (kk : ∀ (v : Option Value) (z n : Nat) (sh : Shp) (I2 : MI) (L2 : ML), Po v z n sh I2 L2 → AW X g own cc nL Bd (z, n, sh, E.2.2.2.1 + mc, E.2.2.2.2 + ms) I2 L2 (pc + 3) Lc (v.toList ++ st)) :
    W (xP X) (xL X) (xE X) (xR X) (xS X) (xM X) (xA X) (xB X) (xT X) (xC X) H locs E.2.2.2.1 E.2.2.2.2 (xQ X) (F0 (xM X) pc ls st0) := by
  intro T hT XS
  obtain ⟨v, st₀, t, T', Lx, e0, X', hL, e1, e2, ⟨⟨v1, z, n, sh, I2, L2, hv, hp, hz, hn, hP⟩, hF⟩, hst⟩ := run T hT XS
  cases hv
  have k := kk v1 z n sh I2 L2 hp F t.heap (locs ++ Lx) ls hz hn hP ⟨Nat.le_trans h4.1 (by rw [← e0]; exact hF.1), fun q q1 q2 => ?_, fun q hq => ?_⟩ h5
  · obtain ⟨t2, a1, b1⟩ := k T' e1 X'
    refine ⟨t2, hst t2 ?_, b1⟩
    have e3 : (v1.toList ++ st).map (cvK g) = (v1.map (cvK g)).toList ++ st.map (cvK g) := by cases v1 <;> rfl
    rw [e3] at a1
    exact a1
  · have hlt : q < st₀.heap.size := by rw [e0]; exact Nat.lt_of_lt_of_le q1 h4.1
    rw [hF.2 q hlt q2, e0]
    exact h4.2.1 q q1 q2
  · rcases List.mem_append.mp hq with h | h
    · exact h4.2.2 q h
    · exact hL q h
theorem aw_callV {idx ci b : Nat} {y : MethodName} {cc2 : ByteArray} {nL2 : Nat} {ret2 : Option FieldType} {np d mc ms : Nat} {As : List Value} {st0 : List Value} {Po : PoT} (dg : decode cc pc = .ok (.invokevirtual idx, 3)) (hl : Cond.methodLink own idx y ∈ tblG) (hm : mV y cc2 nL2 ret2 np) (hM : CM y cc2 nL2 ret2 d mc ms (.ref b :: As) E.1 E.2.1 E.2.2.1 I L Po)
    (hd : d + 1 ≤ Bd.1) (hk : (E.2.2.1 b).1 = ci) (hci : ci < 12 ∧ clR ci = y.cls) (hb : b < E.2.1) (hst : st0 = As.reverse ++ .ref b :: st) (hn : As.length = np) (hw : (st.map fun v => v.category).sum ≤ 8) (hf : E.2.2.2.1 + mc ≤ Bd.2.1 ∧ E.2.2.2.2 + ms ≤ Bd.2.2)
    (kk : ∀ (v : Option Value) (z n : Nat) (sh : Shp) (I2 : MI) (L2 : ML), Po v z n sh I2 L2 → AW X g own cc nL Bd (z, n, sh, E.2.2.2.1 + mc, E.2.2.2.2 + ms) I2 L2 (pc + 3) Lc (v.toList ++ st)) : AW X g own cc nL Bd E I L pc Lc st0 := by
  intro F H locs ls h1 h2 h3 h4 h5
  obtain ⟨hx, hbc, hml, ho, hts, hK, hSt, hlk, ⟨r1, r2, r3, r4⟩, hB⟩ := id F
  subst hst
  have hrecv := va_recv (a := g.1 + b) (q0 := b) (ci := ci) (q := (clR ci, clT ci, nfK ci)) (fs := fsK g E.2.2.1 I L ci b) hK h3 (clF_of hci.1).2.1 (by rw [wd_get hb, en_obj hk (by omega)])
  rw [hci.2] at hrecv
  have hs0 : (As.reverse ++ .ref b :: st).map (cvK g) = (As.map (cvK g)).reverse ++ .ref (g.1 + b) :: st.map (cvK g) := by
    rw [List.map_append, List.map_cons, List.map_reverse, cv_ref hb h2.2]
  rw [hs0]
  have hpc := PcK_start (vs := .ref b :: As) hK hSt h1 h2 h3 h4
  rw [List.map_cons, cv_ref hb h2.2] at hpc
  refine call_end F h4 h5 (va_runV (C := y.cls) (b := g.1 + b) (As := As.map (cvK g)) ⟨hx, hbc, hml, ho, hts⟩ (hM (xL X) g) ⟨callB_K hts hm.1 hl hd ⟨r1, r2⟩, hts _ hm.2.1, hts _ hm.2.2⟩ ⟨PcK_blind, hrecv, hpc⟩ rfl (by rw [List.length_map]; exact hn) h5.2.1 rfl ?_ dg ⟨by rw [← r3]; exact hf.1, by rw [← r4]; exact hf.2⟩) kk
  exact lv_room (by rw [cvK_cats]; exact hw)
theorem aw_callS {idx : Nat} {y : MethodName} {cc2 : ByteArray} {nL2 : Nat} {ret2 : Option FieldType} {np d mc ms : Nat} {As : List Value} {st0 : List Value} {Po : PoT} (dg : decode cc pc = .ok (.invokestatic idx, 3)) (hl : Cond.methodLink own idx y ∈ tblG) (hm : mS y cc2 nL2 ret2 np) (hM : CM y cc2 nL2 ret2 d mc ms As E.1 E.2.1 E.2.2.1 I L Po)
    (hd : d + 1 ≤ Bd.1) (hst : st0 = As.reverse ++ st) (hn : As.length = np) (hw : (st.map fun v => v.category).sum ≤ 8) (hf : E.2.2.2.1 + mc ≤ Bd.2.1 ∧ E.2.2.2.2 + ms ≤ Bd.2.2)
    (kk : ∀ (v : Option Value) (z n : Nat) (sh : Shp) (I2 : MI) (L2 : ML), Po v z n sh I2 L2 → AW X g own cc nL Bd (z, n, sh, E.2.2.2.1 + mc, E.2.2.2.2 + ms) I2 L2 (pc + 3) Lc (v.toList ++ st)) : AW X g own cc nL Bd E I L pc Lc st0 := by
  intro F H locs ls h1 h2 h3 h4 h5
  obtain ⟨hx, hbc, hml, ho, hts, hK, hSt, hlk, ⟨r1, r2, r3, r4⟩, hB⟩ := id F
  subst hst
  have hs0 : (As.reverse ++ st).map (cvK g) = (As.map (cvK g)).reverse ++ st.map (cvK g) := by
    rw [List.map_append, List.map_reverse]
  rw [hs0]
  refine call_end F h4 h5 (va_runS (As := As.map (cvK g)) ⟨hx, hbc, hml, ho, hts⟩ (hM (xL X) g) ⟨callB_K hts hm.1 hl hd ⟨r1, r2⟩, hts _ hm.2⟩ ⟨PcK_blind, PcK_start (vs := As) hK hSt h1 h2 h3 h4⟩ rfl (by rw [List.length_map]; exact hn) h5.2.1 rfl ?_ dg ⟨by rw [← r3]; exact hf.1, by rw [← r4]; exact hf.2⟩) kk
  exact lv_room (by rw [cvK_cats]; exact hw)
theorem aw_callI {idx ci b : Nat} {y : MethodName} {cc2 : ByteArray} {nL2 : Nat} {np d mc ms : Nat} {As : List Value} {st0 : List Value} {Po : PoT} (dg : decode cc pc = .ok (.invokespecial idx, 3)) (hl : Cond.methodLink own idx y ∈ tblG) (hm : mI y cc2 nL2 np) (hM : CM y cc2 nL2 none d mc ms (.ref b :: As) E.1 E.2.1 E.2.2.1 I L Po)
    (hd : d + 1 ≤ Bd.1) (hb : b < E.2.1) (hst : st0 = As.reverse ++ .ref b :: st) (hn : As.length = np) (hw : (st.map fun v => v.category).sum ≤ 8) (hf : E.2.2.2.1 + mc ≤ Bd.2.1 ∧ E.2.2.2.2 + ms ≤ Bd.2.2)
    (kk : ∀ (v : Option Value) (z n : Nat) (sh : Shp) (I2 : MI) (L2 : ML), Po v z n sh I2 L2 → AW X g own cc nL Bd (z, n, sh, E.2.2.2.1 + mc, E.2.2.2.2 + ms) I2 L2 (pc + 3) Lc (v.toList ++ st)) : AW X g own cc nL Bd E I L pc Lc st0 := by
  intro F H locs ls h1 h2 h3 h4 h5
  obtain ⟨hx, hbc, hml, ho, hts, hK, hSt, hlk, ⟨r1, r2, r3, r4⟩, hB⟩ := id F
  subst hst
  have hs0 : (As.reverse ++ .ref b :: st).map (cvK g) = (As.map (cvK g)).reverse ++ .ref (g.1 + b) :: st.map (cvK g) := by
    rw [List.map_append, List.map_cons, List.map_reverse, cv_ref hb h2.2]
  rw [hs0]
  have hpc := PcK_start (vs := .ref b :: As) hK hSt h1 h2 h3 h4
  rw [List.map_cons, cv_ref hb h2.2] at hpc
  refine call_end F h4 h5 (va_runI (b := g.1 + b) (As := As.map (cvK g)) ⟨hx, hbc, hml, ho, hts⟩ (hM (xL X) g) ⟨callB_K hts hm.1 hl hd ⟨r1, r2⟩, hm.2.2, hts _ hm.2.1⟩ ⟨PcK_blind, hpc⟩ rfl (by rw [List.length_map]; exact hn) h5.2.1 rfl ?_ dg ⟨by rw [← r3]; exact hf.1, by rw [← r4]; exact hf.2⟩) kk
  exact lv_room (by rw [cvK_cats]; exact hw)
/-- a call whose end is known -/
theorem aw_cV {idx ci b : Nat} {y : MethodName} {cc2 : ByteArray} {nL2 : Nat} {ret2 : Option FieldType} {np d : Nat} {As : List Value} {st0 : List Value} {r : Option Value} {I2 : MI} {L2 : ML} (dg : decode cc pc = .ok (.invokevirtual idx, 3)) (hl : Cond.methodLink own idx y ∈ tblG) (hm : mV y cc2 nL2 ret2 np) (hM : CM y cc2 nL2 ret2 d 0 0 (.ref b :: As) E.1 E.2.1 E.2.2.1 I L (Pst r E.1 E.2.1 E.2.2.1 I2 L2))
    (hd : d + 1 ≤ Bd.1) (hk : (E.2.2.1 b).1 = ci) (hci : ci < 12 ∧ clR ci = y.cls) (hb : b < E.2.1) (hst : st0 = As.reverse ++ .ref b :: st) (hn : As.length = np) (hw : (st.map fun v => v.category).sum ≤ 8) (hf : E.2.2.2.1 ≤ Bd.2.1 ∧ E.2.2.2.2 ≤ Bd.2.2)
    (k : AW X g own cc nL Bd E I2 L2 (pc + 3) Lc (r.toList ++ st)) : AW X g own cc nL Bd E I L pc Lc st0 :=
  aw_callV dg hl hm hM hd hk hci hb hst hn hw hf (fun v z n sh I3 L3 q => by obtain ⟨rfl, rfl, rfl, rfl, rfl, rfl⟩ := q; exact k)
theorem aw_cS {idx : Nat} {y : MethodName} {cc2 : ByteArray} {nL2 : Nat} {ret2 : Option FieldType} {np d : Nat} {As : List Value} {st0 : List Value} {r : Option Value} {I2 : MI} {L2 : ML} (dg : decode cc pc = .ok (.invokestatic idx, 3)) (hl : Cond.methodLink own idx y ∈ tblG) (hm : mS y cc2 nL2 ret2 np) (hM : CM y cc2 nL2 ret2 d 0 0 As E.1 E.2.1 E.2.2.1 I L (Pst r E.1 E.2.1 E.2.2.1 I2 L2))
    (hd : d + 1 ≤ Bd.1) (hst : st0 = As.reverse ++ st) (hn : As.length = np) (hw : (st.map fun v => v.category).sum ≤ 8) (hf : E.2.2.2.1 ≤ Bd.2.1 ∧ E.2.2.2.2 ≤ Bd.2.2)
    (k : AW X g own cc nL Bd E I2 L2 (pc + 3) Lc (r.toList ++ st)) : AW X g own cc nL Bd E I L pc Lc st0 :=
  aw_callS dg hl hm hM hd hst hn hw hf (fun v z n sh I3 L3 q => by obtain ⟨rfl, rfl, rfl, rfl, rfl, rfl⟩ := q; exact k)
end AWEnd
