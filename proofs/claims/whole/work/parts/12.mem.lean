/-! rows that read and write the store -/
def clR (ci : Nat) : String := match ci with
  | 0 => RX0
  | 1 => RX1
  | 2 => RX2
  | 3 => RX3
  | 4 => RX4
  | 5 => RX5
  | 6 => RX6
  | 7 => RX7
  | 8 => RX8
  | 9 => RX9
  | 10 => RX10
  | _ => RX11
def clT (ci : Nat) : u_T := match ci with
  | 0 => TX0
  | 1 => TX1
  | 2 => TX2
  | 3 => TX3
  | 4 => TX4
  | 5 => TX5
  | 6 => TX6
  | 7 => TX7
  | 8 => TX8
  | 9 => TX9
  | 10 => TX10
  | _ => TX11
def clF (ci : Nat) : Prop := ci < 12 ∧ vwCl[ci]? = some (clR ci, clT ci, nfK ci) ∧ (∀ w ∈ u_ws (clR ci) (clT ci) (nfK ci), w ∈ lw_tbl) ∧ (∀ w ∈ u_ws (clR ci) (clT ci) (nfK ci), goodWord w = true) ∧ (∀ k, k < nfK ci → parseFieldDescriptor (clT ci k).2.2.1 = some (tyK ci k)) ∧
  (∀ a, a < nfK ci → ∀ b, b < nfK ci → a ≠ b → (clT ci a).2.1 ≠ (clT ci b).2.1)
set_option maxRecDepth 100000 in
theorem clF_0 : clF 0 := ⟨by decide, rfl, by decide +kernel, by decide +kernel, tyX0_ok, nmX0⟩
set_option maxRecDepth 100000 in
theorem clF_1 : clF 1 := ⟨by decide, rfl, by decide +kernel, by decide +kernel, tyX1_ok, nmX1⟩
set_option maxRecDepth 100000 in
theorem clF_2 : clF 2 := ⟨by decide, rfl, by decide +kernel, by decide +kernel, tyX2_ok, nmX2⟩
set_option maxRecDepth 100000 in
theorem clF_3 : clF 3 := ⟨by decide, rfl, by decide +kernel, by decide +kernel, tyX3_ok, nmX3⟩
set_option maxRecDepth 100000 in
theorem clF_4 : clF 4 := ⟨by decide, rfl, by decide +kernel, by decide +kernel, tyX4_ok, nmX4⟩
set_option maxRecDepth 100000 in
theorem clF_5 : clF 5 := ⟨by decide, rfl, by decide +kernel, by decide +kernel, tyX5_ok, nmX5⟩
set_option maxRecDepth 100000 in
theorem clF_6 : clF 6 := ⟨by decide, rfl, by decide +kernel, by decide +kernel, tyX6_ok, nmX6⟩
set_option maxRecDepth 100000 in
theorem clF_7 : clF 7 := ⟨by decide, rfl, by decide +kernel, by decide +kernel, tyX7_ok, nmX7⟩
set_option maxRecDepth 100000 in
theorem clF_8 : clF 8 := ⟨by decide, rfl, by decide +kernel, by decide +kernel, tyX8_ok, nmX8⟩
set_option maxRecDepth 100000 in
theorem clF_9 : clF 9 := ⟨by decide, rfl, by decide +kernel, by decide +kernel, tyX9_ok, nmX9⟩
set_option maxRecDepth 100000 in
theorem clF_10 : clF 10 := ⟨by decide, rfl, by decide +kernel, by decide +kernel, tyX10_ok, nmX10⟩
set_option maxRecDepth 100000 in
theorem clF_11 : clF 11 := ⟨by decide, rfl, by decide +kernel, by decide +kernel, tyX11_ok, nmX11⟩
theorem clF_of {ci : Nat} (h : ci < 12) : clF ci := by
  match ci, h with
  | 0, _ => exact clF_0
  | 1, _ => exact clF_1
  | 2, _ => exact clF_2
  | 3, _ => exact clF_3
  | 4, _ => exact clF_4
  | 5, _ => exact clF_5
  | 6, _ => exact clF_6
  | 7, _ => exact clF_7
  | 8, _ => exact clF_8
  | 9, _ => exact clF_9
  | 10, _ => exact clF_10
  | 11, _ => exact clF_11
theorem clF_in {ci : Nat} (h : ci < 12) : ∀ w ∈ u_ws (clR ci) (clT ci) (nfK ci), w ∈ tblG := fun w hw => List.mem_filter.mpr ⟨(clF_of h).2.2.1 w hw, (clF_of h).2.2.2.1 w hw⟩
/-- an entry of a class' pool is a field: of which class, which of its fields -/
def fL (own : String) (idx ci k : Nat) : Prop := ci < 12 ∧ k < nfK ci ∧ Cond.fieldLink own idx (clT ci k).1 (clT ci k).2.1 (clT ci k).2.2.1 ∈ tblG
section AWMem
variable {X : Cx} {g : Gd} {own : String} {cc : ByteArray} {nL : Nat} {Bd : Nat × Nat × Nat} {E : En} {I : MI} {L : ML} {pc : Nat} {Lc : List (Option Value)} {st : List Value}
theorem cv_ref {a n : Nat} (ha : a < n) (hn : n ≤ 900000) : cvK g (.ref a) = .ref (g.1 + a) := by
  show Value.ref (adr g a) = _
  rw [adr_of (by omega)]
theorem aw_getI {idx ci k a : Nat} (d : decode cc pc = .ok (.getfield idx, 3)) (f : fL own idx ci k) (hk : (E.2.2.1 a).1 = ci) (ha : a < E.2.1) (ht : ftc (tyK ci k) = 0)
    (kk : AW X g own cc nL Bd E I L (pc + 3) Lc (.int (I a k) :: st)) : AW X g own cc nL Bd E I L pc Lc (.ref a :: st) := by
  intro F H locs ls h1 h2 h3 h4 h5
  have K := kk F H locs ls h1 h2 h3 h4 h5
  rw [List.map_cons] at K ⊢
  rw [cv_ref ha h2.2]
  exact va_get (D := g.2.2.1) (cl := vwCl) F.1 F.2.1 F.2.2.2.2.1 (clF_in f.1) F.2.2.2.1 F.2.2.2.2.2.1 h3 a (fs := fsK g E.2.2.1 I L ci a) (by rw [wd_get ha, en_obj hk (by have := f.1; omega)]) (clF_of f.1).2.1 k f.2.1 (F.2.2.2.2.1 _ f.2.2) (fun _ h9 => h9) (by rw [fs_get f.2.1, fvK, if_pos ht]; rfl) d K
theorem aw_getL {idx ci k a : Nat} (d : decode cc pc = .ok (.getfield idx, 3)) (f : fL own idx ci k) (hk : (E.2.2.1 a).1 = ci) (ha : a < E.2.1) (ht : ftc (tyK ci k) = 1)
    (kk : AW X g own cc nL Bd E I L (pc + 3) Lc (.long (L a k) :: st)) : AW X g own cc nL Bd E I L pc Lc (.ref a :: st) := by
  intro F H locs ls h1 h2 h3 h4 h5
  have K := kk F H locs ls h1 h2 h3 h4 h5
  rw [List.map_cons] at K ⊢
  rw [cv_ref ha h2.2]
  exact va_get (D := g.2.2.1) (cl := vwCl) F.1 F.2.1 F.2.2.2.2.1 (clF_in f.1) F.2.2.2.1 F.2.2.2.2.2.1 h3 a (fs := fsK g E.2.2.1 I L ci a) (by rw [wd_get ha, en_obj hk (by have := f.1; omega)]) (clF_of f.1).2.1 k f.2.1 (F.2.2.2.2.1 _ f.2.2) (fun _ h9 => h9) (by rw [fs_get f.2.1, fvK, if_neg (by rw [ht]; decide), if_pos ht]; rfl) d K
theorem aw_getR {idx ci k a b : Nat} (d : decode cc pc = .ok (.getfield idx, 3)) (f : fL own idx ci k) (hk : (E.2.2.1 a).1 = ci) (ha : a < E.2.1) (ht : ftc (tyK ci k) = 2) (hr : (E.2.2.1 a).2.2 k = some b)
    (kk : AW X g own cc nL Bd E I L (pc + 3) Lc (.ref b :: st)) : AW X g own cc nL Bd E I L pc Lc (.ref a :: st) := by
  intro F H locs ls h1 h2 h3 h4 h5
  have K := kk F H locs ls h1 h2 h3 h4 h5
  rw [List.map_cons] at K ⊢
  rw [cv_ref ha h2.2]
  exact va_get (D := g.2.2.1) (cl := vwCl) F.1 F.2.1 F.2.2.2.2.1 (clF_in f.1) F.2.2.2.1 F.2.2.2.2.2.1 h3 a (fs := fsK g E.2.2.1 I L ci a) (by rw [wd_get ha, en_obj hk (by have := f.1; omega)]) (clF_of f.1).2.1 k f.2.1 (F.2.2.2.2.1 _ f.2.2) (fun _ h9 => h9) (by rw [fs_get f.2.1, fvK, if_neg (by rw [ht]; decide), if_neg (by rw [ht]; decide), hr]; rfl) d K
/-- a field written: the heap keeps its size -/
theorem put_z {p : Program} {l : Launch} {e : Env} {R : Room} {s : State} {m : MethodId} {args : Array Value} {below : List Frame} {meth : Method} {c : Code} {H : Heap} {locs : List Loc} {cells slots : Nat} {Q : State → Prop} {ls : Array Slot} {rest : List Value} {D : va_G} {A : Nat → Prop} {tys : List (ClassId × FieldType)} {ws : va_W} {H0 : Heap}
    (hexec : p.tables.exec = Jvm.exec) (hb : c.code = cc) {idx ci k a q0 : Nat} (f : fL own idx ci k) (hts : ∀ w ∈ tblG, w.before args s = true) (hown : s.vm.findClass own = some m.cls) (hK : va_K D vwCl tys s) (hP : va_P D vwCl ws H) (hD : va_D A ws) (hS0 : va_S A H0 H locs) {fs : List Value} (he : ws[q0]? = some (a, .inr (ci, fs)))
    (hfin : (clT ci k).2.2.2 = false) {v : Value} (hn : narrow (tyK ci k) v = v) (hfit : fits (tyK ci k) v = true) (hl : k < fs.length) (hdg : decode cc pc = .ok (.putfield idx, 3))
    (kk : ∀ (H1 : Heap) (locs1 : List Loc), H1.size = H.size → va_P D vwCl (ws.set q0 (a, .inr (ci, fs.set k v))) H1 → va_S A H0 H1 locs1 → W p l e R s m args below meth c H1 locs1 cells slots Q (F0 m (pc + 3) ls rest)) : W p l e R s m args below meth c H locs cells slots Q (F0 m pc ls (v :: .ref a :: rest)) := by
  have c0 := clF_of f.1
  have hin := clF_in f.1
  have hap := va_apart (own := own) hts hin (tyK ci) c0.2.2.2.2.1 c0.2.2.2.2.2 hK c0.2.1
  obtain ⟨r, r1, cell, q1, q2, q3, q4⟩ := hP q0 _ he
  cases Option.some.inj (r1.symm.trans c0.2.1)
  obtain ⟨hS, hfc, kC, hkC, hkind⟩ := hK.1 ci _ c0.2.1
  obtain ⟨cf, kf, fi, fd, hi, hsl⟩ := hS k f.2.1
  have hlay := hts _ (hin _ (u_in_lay f.2.1))
  unfold u_lay at hlay
  rw [if_neg (by rw [hfin]; decide)] at hlay
  have hst := (u_facts hfc hkC (u_lays hts hin f.2.1) hi).1
  have h6 := u_store hfc hkC hkind hlay hi (c0.2.2.2.2.1 k f.2.1) hn hfit
  refine W.putK hexec hb (f := fd) ⟨hown, hts _ f.2.2, ⟨_, _, _, hi⟩, hst⟩ (by rw [q2]; exact h6) q1 q3 (by rw [hsl]; exact k2_hasslot (q4 k f.2.1)) rfl rfl hdg fun H1 e1 e2 e3 => ?_
  rw [hsl] at e1 ⊢
  exact kk H1 _ e2 (hP.set hD he ⟨_, c0.2.1, t_OB.to (V := updV (vp_V fs) k v) ⟨_, e1, q2, q3, t_set q4 hap f.2.1 v⟩ (fun j _ => vp_updV_set hl v j)⟩ e3) (hS0.put e2 e3 (hD.2 q0 _ he))
theorem aw_putI {idx ci k a : Nat} {v : Int32} (d : decode cc pc = .ok (.putfield idx, 3)) (f : fL own idx ci k) (hk : (E.2.2.1 a).1 = ci) (ha : a < E.2.1) (ht : tyK ci k = .int) (hf : (clT ci k).2.2.2 = false)
    (kk : AW X g own cc nL Bd E (upI I a k v) L (pc + 3) Lc st) : AW X g own cc nL Bd E I L pc Lc (.int v :: .ref a :: st) := by
  intro F H locs ls h1 h2 h3 h4 h5
  rw [List.map_cons, List.map_cons, cv_ref ha h2.2]
  have hc : ci < 100 := by have := f.1; omega
  refine put_z (D := g.2.2.1) (v := .int v) (q0 := a) (fs := fsK g E.2.2.1 I L ci a) F.1 F.2.1 f F.2.2.2.2.1 F.2.2.2.1 F.2.2.2.2.2.1 h3 wd_D h4 (by rw [wd_get ha, en_obj hk hc]) hf (by rw [ht]; rfl) (by rw [ht]; rfl) (by rw [fs_len]; exact f.2.1) d (fun H1 locs1 z p1 p3 => ?_)
  rw [wd_set (sh' := E.2.2.1) (I' := upI I a k v) (L' := L) ha (by rw [en_obj hk hc, fs_upI (by rw [ht]; rfl)]) (fun b hb => en_upI_ne hb)] at p1
  exact kk F H1 locs1 ls (by rw [z]; exact h1) h2 p1 p3 h5
theorem aw_putZ {idx ci k a : Nat} {v : Int32} (d : decode cc pc = .ok (.putfield idx, 3)) (f : fL own idx ci k) (hk : (E.2.2.1 a).1 = ci) (ha : a < E.2.1) (ht : tyK ci k = .boolean) (hf : (clT ci k).2.2.2 = false) (hv : v = 0 ∨ v = 1)
    (kk : AW X g own cc nL Bd E (upI I a k v) L (pc + 3) Lc st) : AW X g own cc nL Bd E I L pc Lc (.int v :: .ref a :: st) := by
  intro F H locs ls h1 h2 h3 h4 h5
  rw [List.map_cons, List.map_cons, cv_ref ha h2.2]
  have hc : ci < 100 := by have := f.1; omega
  refine put_z (D := g.2.2.1) (v := .int v) (q0 := a) (fs := fsK g E.2.2.1 I L ci a) F.1 F.2.1 f F.2.2.2.2.1 F.2.2.2.1 F.2.2.2.2.2.1 h3 wd_D h4 (by rw [wd_get ha, en_obj hk hc]) hf (by rw [ht]; rcases hv with rfl | rfl <;> rfl) (by rw [ht]; rcases hv with rfl | rfl <;> rfl) (by rw [fs_len]; exact f.2.1) d (fun H1 locs1 z p1 p3 => ?_)
  rw [wd_set (sh' := E.2.2.1) (I' := upI I a k v) (L' := L) ha (by rw [en_obj hk hc, fs_upI (by rw [ht]; rfl)]) (fun b hb => en_upI_ne hb)] at p1
  exact kk F H1 locs1 ls (by rw [z]; exact h1) h2 p1 p3 h5
theorem aw_putL {idx ci k a : Nat} {v : Int64} (d : decode cc pc = .ok (.putfield idx, 3)) (f : fL own idx ci k) (hk : (E.2.2.1 a).1 = ci) (ha : a < E.2.1) (ht : tyK ci k = .long) (hf : (clT ci k).2.2.2 = false)
    (kk : AW X g own cc nL Bd E I (upL L a k v) (pc + 3) Lc st) : AW X g own cc nL Bd E I L pc Lc (.long v :: .ref a :: st) := by
  intro F H locs ls h1 h2 h3 h4 h5
  rw [List.map_cons, List.map_cons, cv_ref ha h2.2]
  have hc : ci < 100 := by have := f.1; omega
  refine put_z (D := g.2.2.1) (v := .long v) (q0 := a) (fs := fsK g E.2.2.1 I L ci a) F.1 F.2.1 f F.2.2.2.2.1 F.2.2.2.1 F.2.2.2.2.2.1 h3 wd_D h4 (by rw [wd_get ha, en_obj hk hc]) hf (by rw [ht]; rfl) (by rw [ht]; rfl) (by rw [fs_len]; exact f.2.1) d (fun H1 locs1 z p1 p3 => ?_)
  rw [wd_set (sh' := E.2.2.1) (I' := I) (L' := upL L a k v) ha (by rw [en_obj hk hc, fs_upL (by rw [ht]; rfl)]) (fun b hb => en_upL_ne hb)] at p1
  exact kk F H1 locs1 ls (by rw [z]; exact h1) h2 p1 p3 h5
theorem aw_iald {a : Nat} {i : Int32} (d : decode cc pc = .ok (.iaload, 1)) (hk : (E.2.2.1 a).1 = 100) (ha : a < E.2.1) (hin : vp_in i (E.2.2.1 a).2.1)
    (kk : AW X g own cc nL Bd E I L (pc + 1) Lc (.int (I a i.toNatClampNeg) :: st)) : AW X g own cc nL Bd E I L pc Lc (.int i :: .ref a :: st) := by
  intro F H locs ls h1 h2 h3 h4 h5
  have K := kk F H locs ls h1 h2 h3 h4 h5
  rw [List.map_cons] at K
  rw [List.map_cons, List.map_cons, cv_ref ha h2.2]
  exact va_iald (D := g.2.2.1) (cl := vwCl) F.1 F.2.1 F.2.2.2.2.2.1 h3 a 0 (by rw [wd_get ha, en_int hk]) rfl hin d K
theorem aw_bald {a : Nat} {i : Int32} (d : decode cc pc = .ok (.baload, 1)) (hk : (E.2.2.1 a).1 = 102) (ha : a < E.2.1) (hin : vp_in i (E.2.2.1 a).2.1)
    (kk : AW X g own cc nL Bd E I L (pc + 1) Lc (.int (I a i.toNatClampNeg) :: st)) : AW X g own cc nL Bd E I L pc Lc (.int i :: .ref a :: st) := by
  intro F H locs ls h1 h2 h3 h4 h5
  have K := kk F H locs ls h1 h2 h3 h4 h5
  rw [List.map_cons] at K
  rw [List.map_cons, List.map_cons, cv_ref ha h2.2]
  exact va_bald (D := g.2.2.1) (cl := vwCl) F.1 F.2.1 F.2.2.2.2.2.1 h3 a 2 (by rw [wd_get ha, en_byte hk]) rfl hin d K
theorem aw_lald {a : Nat} {i : Int32} (d : decode cc pc = .ok (.laload, 1)) (hk : (E.2.2.1 a).1 = 101) (ha : a < E.2.1) (hin : vp_in i (E.2.2.1 a).2.1)
    (kk : AW X g own cc nL Bd E I L (pc + 1) Lc (.long (L a i.toNatClampNeg) :: st)) : AW X g own cc nL Bd E I L pc Lc (.int i :: .ref a :: st) := by
  intro F H locs ls h1 h2 h3 h4 h5
  have K := kk F H locs ls h1 h2 h3 h4 h5
  rw [List.map_cons] at K
  rw [List.map_cons, List.map_cons, cv_ref ha h2.2]
  exact va_lald (D := g.2.2.1) (cl := vwCl) F.1 F.2.1 F.2.2.2.2.2.1 h3 a 1 (by rw [wd_get ha, en_long hk]) rfl hin d K
theorem aw_aald {a b c : Nat} {C : String} {i : Int32} (d : decode cc pc = .ok (.aaload, 1)) (hk : (E.2.2.1 a).1 = c) (hc : 103 ≤ c) (hy : (tysK g)[c - 100]? = some (g.2.2.2 c, .object C)) (ha : a < E.2.1) (hin : vp_in i (E.2.2.1 a).2.1) (hr : (E.2.2.1 a).2.2 i.toNatClampNeg = some b)
    (kk : AW X g own cc nL Bd E I L (pc + 1) Lc (.ref b :: st)) : AW X g own cc nL Bd E I L pc Lc (.int i :: .ref a :: st) := by
  intro F H locs ls h1 h2 h3 h4 h5
  have K := kk F H locs ls h1 h2 h3 h4 h5
  rw [List.map_cons] at K
  rw [List.map_cons, List.map_cons, cv_ref ha h2.2]
  refine va_aldq (D := g.2.2.1) (cl := vwCl) F.1 F.2.1 F.2.2.2.2.2.1 h3 a (c - 100) (by rw [wd_get ha, en_refs hk hc]) hy hin d ?_
  rw [hr]
  exact K
theorem aw_iast {a : Nat} {i x : Int32} (d : decode cc pc = .ok (.iastore, 1)) (hk : (E.2.2.1 a).1 = 100) (ha : a < E.2.1) (hin : vp_in i (E.2.2.1 a).2.1)
    (kk : AW X g own cc nL Bd E (upI I a i.toNatClampNeg x) L (pc + 1) Lc st) : AW X g own cc nL Bd E I L pc Lc (.int x :: .int i :: .ref a :: st) := by
  intro F H locs ls h1 h2 h3 h4 h5
  rw [List.map_cons, List.map_cons, List.map_cons, cv_ref ha h2.2]
  have he : (wdK g E.2.1 E.2.2.1 I L)[a]? = some (g.1 + a, .inl (g.2.2.2 100, (E.2.2.1 a).2.1, .inl (I a))) := by rw [wd_get ha, en_int hk]
  refine W.iast F.1 F.2.1 (h3 a _ he) ((F.2.2.2.2.2.1.2 0 _ rfl).1 _ (fun j => .int (I a j))) (fun q => by cases q) (by show ¬ (i < 0 ∨ (arrV _ _ _).slots.size ≤ _); rw [arrV_size]; exact hin) rfl rfl d fun H1 e z oq => ?_
  refine kk F H1 _ ls (by rw [z]; exact h1) h2 ?_ (h4.put z oq (Nat.le_add_right _ _)) h5
  rw [← wd_set (sh' := E.2.2.1) (I' := upI I a i.toNatClampNeg x) (L' := L) ha (en_int hk) (fun b hb => en_upI_ne hb)]
  refine h3.set wd_D he ?_ oq
  show H1[g.1 + a]? = some (vp_cell _ _)
  rw [e, vp_cell_i, vp_cell_i, arrV_store]
  congr 2
  funext q
  by_cases hq : q = i.toNatClampNeg
  · subst hq
    simp [updV, upd, upI]
  · simp [updV, upd, upI, hq]
theorem aw_bast {a : Nat} {i x : Int32} (d : decode cc pc = .ok (.bastore, 1)) (hk : (E.2.2.1 a).1 = 102) (ha : a < E.2.1) (hin : vp_in i (E.2.2.1 a).2.1)
    (kk : AW X g own cc nL Bd E (upI I a i.toNatClampNeg (vp_nar .byte x)) L (pc + 1) Lc st) : AW X g own cc nL Bd E I L pc Lc (.int x :: .int i :: .ref a :: st) := by
  intro F H locs ls h1 h2 h3 h4 h5
  rw [List.map_cons, List.map_cons, List.map_cons, cv_ref ha h2.2]
  have he : (wdK g E.2.1 E.2.2.1 I L)[a]? = some (g.1 + a, .inl (g.2.2.2 102, (E.2.2.1 a).2.1, .inl (I a))) := by rw [wd_get ha, en_byte hk]
  refine W.bast F.1 F.2.1 (h3 a _ he) ((F.2.2.2.2.2.1.2 2 _ rfl).1 _ (fun j => .int (I a j))) (fun q => by cases q) (by show ¬ (i < 0 ∨ (arrV _ _ _).slots.size ≤ _); rw [arrV_size]; exact hin) rfl rfl d fun H1 e z oq => ?_
  refine kk F H1 _ ls (by rw [z]; exact h1) h2 ?_ (h4.put z oq (Nat.le_add_right _ _)) h5
  rw [← wd_set (sh' := E.2.2.1) (I' := upI I a i.toNatClampNeg (vp_nar .byte x)) (L' := L) ha (en_byte hk) (fun b hb => en_upI_ne hb)]
  refine h3.set wd_D he ?_ oq
  show H1[g.1 + a]? = some (vp_cell _ _)
  rw [e, vp_cell_i, vp_cell_i, arrV_store]
  congr 2
  funext q
  by_cases hq : q = i.toNatClampNeg
  · subst hq
    simp [updV, upd, upI, vp_nar]
    try rfl
  · simp [updV, upd, upI, hq]
theorem aw_last {a : Nat} {i : Int32} {x : Int64} (d : decode cc pc = .ok (.lastore, 1)) (hk : (E.2.2.1 a).1 = 101) (ha : a < E.2.1) (hin : vp_in i (E.2.2.1 a).2.1)
    (kk : AW X g own cc nL Bd E I (upL L a i.toNatClampNeg x) (pc + 1) Lc st) : AW X g own cc nL Bd E I L pc Lc (.long x :: .int i :: .ref a :: st) := by
  intro F H locs ls h1 h2 h3 h4 h5
  rw [List.map_cons, List.map_cons, List.map_cons, cv_ref ha h2.2]
  have he : (wdK g E.2.1 E.2.2.1 I L)[a]? = some (g.1 + a, .inl (g.2.2.2 101, (E.2.2.1 a).2.1, .inr (.inl (L a)))) := by rw [wd_get ha, en_long hk]
  refine W.last F.1 F.2.1 (h3 a _ he) ((F.2.2.2.2.2.1.2 1 _ rfl).1 _ (fun j => .long (L a j))) (fun q => by cases q) (by show ¬ (i < 0 ∨ (arrV _ _ _).slots.size ≤ _); rw [arrV_size]; exact hin) rfl rfl d fun H1 e z oq => ?_
  refine kk F H1 _ ls (by rw [z]; exact h1) h2 ?_ (h4.put z oq (Nat.le_add_right _ _)) h5
  rw [← wd_set (sh' := E.2.2.1) (I' := I) (L' := upL L a i.toNatClampNeg x) ha (en_long hk) (fun b hb => en_upL_ne hb)]
  refine h3.set wd_D he ?_ oq
  show H1[g.1 + a]? = some (vp_cell _ _)
  rw [e, vp_cell_l, vp_cell_l, arrV_store]
  congr 2
  funext q
  by_cases hq : q = i.toNatClampNeg
  · subst hq
    simp [updV, vp_updL, upL]
  · simp [updV, vp_updL, upL, hq]
/-- the length of an array of ints -/
theorem aw_alen {a : Nat} (d : decode cc pc = .ok (.arraylength, 1)) (hk : (E.2.2.1 a).1 = 100) (ha : a < E.2.1)
    (kk : AW X g own cc nL Bd E I L (pc + 1) Lc (.int (Int32.ofNat (E.2.2.1 a).2.1) :: st)) : AW X g own cc nL Bd E I L pc Lc (.ref a :: st) := by
  intro F H locs ls h1 h2 h3 h4 h5
  have K := kk F H locs ls h1 h2 h3 h4 h5
  rw [List.map_cons] at K
  rw [List.map_cons, cv_ref ha h2.2]
  exact va_alen (D := g.2.2.1) (cl := vwCl) (x := ((E.2.2.1 a).2.1, .inl (I a))) F.1 F.2.1 F.2.2.2.2.2.1 h3 a 0 (by rw [wd_get ha, en_int hk]) rfl rfl d K
/-- the static rows of the rules -/
theorem aw_stat (j : Nat) {n : String} {idx : Nat} (hj : j < 2) (hn : n = if j = 0 then "RULE_LEAST" else "RULE_MOST") (d : decode cc pc = .ok (.getstatic idx, 3)) (hl : Cond.fieldLink own idx "HomesQueue" n "[I" ∈ tblG)
    (kk : AW X g own cc nL Bd E I L (pc + 3) Lc (.ref (1000000 + j) :: st)) : AW X g own cc nL Bd E I L pc Lc st := by
  intro F H locs ls h1 h2 h3 h4 h5
  have K := kk F H locs ls h1 h2 h3 h4 h5
  rw [List.map_cons] at K
  subst hn
  match j, hj with
  | 0, _ => exact va_gets F.1 F.2.1 F.2.2.2.2.2.2.1.1.1 h4 F.2.2.2.1 (F.2.2.2.2.1 _ hl) (fun _ h9 => h9) d K
  | 1, _ => exact va_gets F.1 F.2.1 F.2.2.2.2.2.2.1.2.1.1 h4 F.2.2.2.1 (F.2.2.2.2.1 _ hl) (fun _ h9 => h9) d K
theorem aw_ialdS (j : Nat) {i : Int32} (hj : j < 2) (d : decode cc pc = .ok (.iaload, 1)) (hin : vp_in i 6)
    (kk : AW X g own cc nL Bd E I L (pc + 1) Lc (.int (if j = 0 then ruleLeast i.toNatClampNeg else ruleMost i.toNatClampNeg) :: st)) : AW X g own cc nL Bd E I L pc Lc (.int i :: .ref (1000000 + j) :: st) := by
  intro F H locs ls h1 h2 h3 h4 h5
  have K := kk F H locs ls h1 h2 h3 h4 h5
  rw [List.map_cons] at K
  match j, hj with
  | 0, _ => exact va_ti F.1 F.2.1 F.2.2.2.2.2.2.1.1.2 h4 hin rfl d K
  | 1, _ => exact va_ti F.1 F.2.1 F.2.2.2.2.2.2.1.2.1.2 h4 hin rfl d K
end AWMem
