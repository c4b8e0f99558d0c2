/-! rows that make cells: objects, arrays; final fields; arrays of references -/
theorem oX10_1 : Cond.methodLink RX10 1 Lib.objectInit ∈ tblG := t1 (i := 29) rfl rfl
theorem oX7_3 : Cond.methodLink RX7 3 Lib.objectInit ∈ tblG := t1 (i := 37) rfl rfl
theorem oX2_3 : Cond.methodLink RX2 3 Lib.objectInit ∈ tblG := t1 (i := 44) rfl rfl
theorem oX3_3 : Cond.methodLink RX3 3 Lib.objectInit ∈ tblG := t1 (i := 115) rfl rfl
theorem oX8_3 : Cond.methodLink RX8 3 Lib.objectInit ∈ tblG := t1 (i := 213) rfl rfl
theorem oX1_3 : Cond.methodLink RX1 3 Lib.objectInit ∈ tblG := t2 (i := 48) rfl rfl
theorem oX6_3 : Cond.methodLink RX6 3 Lib.objectInit ∈ tblG := t2 (i := 68) rfl rfl
theorem oX5_3 : Cond.methodLink RX5 3 Lib.objectInit ∈ tblG := t2 (i := 182) rfl rfl
theorem oX4_3 : Cond.methodLink RX4 3 Lib.objectInit ∈ tblG := t2 (i := 196) rfl rfl
theorem oX0_3 : Cond.methodLink RX0 3 Lib.objectInit ∈ tblG := t2 (i := 215) rfl rfl
theorem oX9_3 : Cond.methodLink RX9 3 Lib.objectInit ∈ tblG := t3 (i := 4) rfl rfl
theorem oX11_1 : Cond.methodLink RX11 1 Lib.objectInit ∈ tblG := t6 (i := 224) rfl rfl
theorem wObjI : Cond.instanceMethod Lib.objectInit ∈ tblG := t1 (i := 30) rfl rfl
theorem wObjC : Cond.code Lib.objectInit ⟨#[0xb1]⟩ 1 none ∈ tblG := t1 (i := 31) rfl rfl
theorem wArI : Cond.arrayClass .int ∈ tblG := t1 (i := 207) rfl rfl
theorem wArL : Cond.arrayClass .long ∈ tblG := t2 (i := 175) rfl rfl
theorem wArB : Cond.arrayClass .byte ∈ tblG := t2 (i := 176) rfl rfl
theorem lX10_7 : Cond.classLink RX10 7 "HomesQueue$State" ∈ tblG := t1 (i := 32) rfl rfl
theorem lX7_9 : Cond.classLink RX7 9 "HomesQueue$Home" ∈ tblG := t1 (i := 38) rfl rfl
theorem lX7_20 : Cond.classLink RX7 20 "HomesQueue$House" ∈ tblG := t1 (i := 109) rfl rfl
theorem lX7_31 : Cond.classLink RX7 31 "HomesQueue$Table" ∈ tblG := t1 (i := 208) rfl rfl
theorem lX10_19 : Cond.classLink RX10 19 "HomesQueue$History" ∈ tblG := t2 (i := 43) rfl rfl
theorem lX1_9 : Cond.classLink RX1 9 "HomesQueue$State" ∈ tblG := t2 (i := 49) rfl rfl
theorem lX10_26 : Cond.classLink RX10 26 "HomesQueue$Reader" ∈ tblG := t2 (i := 63) rfl rfl
theorem lX10_33 : Cond.classLink RX10 33 "HomesQueue$Paper" ∈ tblG := t2 (i := 177) rfl rfl
theorem lX10_40 : Cond.classLink RX10 40 "HomesQueue$Matching" ∈ tblG := t2 (i := 191) rfl rfl
theorem lX10_47 : Cond.classLink RX10 47 "HomesQueue$Chains" ∈ tblG := t2 (i := 210) rfl rfl
theorem lX10_54 : Cond.classLink RX10 54 "HomesQueue$Trades" ∈ tblG := t2 (i := 239) rfl rfl
theorem iX10 : Cond.instantiable "HomesQueue" 9 ∈ tblG ∧ Cond.initialized "HomesQueue" ∈ tblG := ⟨t1 (i := 25) rfl rfl, t1 (i := 1) rfl rfl⟩
theorem iX7 : Cond.instantiable "HomesQueue$State" 9 ∈ tblG ∧ Cond.initialized "HomesQueue$State" ∈ tblG := ⟨t1 (i := 33) rfl rfl, t1 (i := 2) rfl rfl⟩
theorem iX2 : Cond.instantiable "HomesQueue$Home" 11 ∈ tblG ∧ Cond.initialized "HomesQueue$Home" ∈ tblG := ⟨t1 (i := 40) rfl rfl, t1 (i := 3) rfl rfl⟩
theorem iX3 : Cond.instantiable "HomesQueue$House" 15 ∈ tblG ∧ Cond.initialized "HomesQueue$House" ∈ tblG := ⟨t1 (i := 111) rfl rfl, t1 (i := 4) rfl rfl⟩
theorem iX8 : Cond.instantiable "HomesQueue$Table" 3 ∈ tblG ∧ Cond.initialized "HomesQueue$Table" ∈ tblG := ⟨t1 (i := 209) rfl rfl, t1 (i := 5) rfl rfl⟩
theorem iX1 : Cond.instantiable "HomesQueue$History" 3 ∈ tblG ∧ Cond.initialized "HomesQueue$History" ∈ tblG := ⟨t2 (i := 44) rfl rfl, t1 (i := 7) rfl rfl⟩
theorem iX6 : Cond.instantiable "HomesQueue$Reader" 12 ∈ tblG ∧ Cond.initialized "HomesQueue$Reader" ∈ tblG := ⟨t2 (i := 64) rfl rfl, t1 (i := 8) rfl rfl⟩
theorem iX5 : Cond.instantiable "HomesQueue$Paper" 2 ∈ tblG ∧ Cond.initialized "HomesQueue$Paper" ∈ tblG := ⟨t2 (i := 178) rfl rfl, t1 (i := 13) rfl rfl⟩
theorem iX4 : Cond.instantiable "HomesQueue$Matching" 4 ∈ tblG ∧ Cond.initialized "HomesQueue$Matching" ∈ tblG := ⟨t2 (i := 192) rfl rfl, t1 (i := 14) rfl rfl⟩
theorem iX0 : Cond.instantiable "HomesQueue$Chains" 7 ∈ tblG ∧ Cond.initialized "HomesQueue$Chains" ∈ tblG := ⟨t2 (i := 211) rfl rfl, t1 (i := 15) rfl rfl⟩
theorem iX9 : Cond.instantiable "HomesQueue$Trades" 6 ∈ tblG ∧ Cond.initialized "HomesQueue$Trades" ∈ tblG := ⟨t3 (i := 0) rfl rfl, t1 (i := 16) rfl rfl⟩
theorem iX11 : Cond.instantiable "HomesQueueModel" 33 ∈ tblG ∧ Cond.initialized "HomesQueueModel" ∈ tblG := ⟨t6 (i := 220) rfl rfl, t1 (i := 17) rfl rfl⟩
def dfl (t : FieldType) : Value := if ftc t = 0 then .int 0 else if ftc t = 1 then .long 0 else .null
theorem dfl_ok : ∀ ci j, ci < 12 → j < nfK ci → defaultValue (tyK ci j) = dfl (tyK ci j)
  | 0, 0, _, _ => rfl
  | 0, 1, _, _ => rfl
  | 0, 2, _, _ => rfl
  | 0, 3, _, _ => rfl
  | 0, 4, _, _ => rfl
  | 0, 5, _, _ => rfl
  | 0, 6, _, _ => rfl
  | 0, j + 7, _, h => absurd h (by show ¬ j + 7 < 7; omega)
  | 1, 0, _, _ => rfl
  | 1, 1, _, _ => rfl
  | 1, 2, _, _ => rfl
  | 1, j + 3, _, h => absurd h (by show ¬ j + 3 < 3; omega)
  | 2, 0, _, _ => rfl
  | 2, 1, _, _ => rfl
  | 2, 2, _, _ => rfl
  | 2, 3, _, _ => rfl
  | 2, 4, _, _ => rfl
  | 2, 5, _, _ => rfl
  | 2, 6, _, _ => rfl
  | 2, 7, _, _ => rfl
  | 2, 8, _, _ => rfl
  | 2, 9, _, _ => rfl
  | 2, 10, _, _ => rfl
  | 2, j + 11, _, h => absurd h (by show ¬ j + 11 < 11; omega)
  | 3, 0, _, _ => rfl
  | 3, 1, _, _ => rfl
  | 3, 2, _, _ => rfl
  | 3, 3, _, _ => rfl
  | 3, 4, _, _ => rfl
  | 3, 5, _, _ => rfl
  | 3, 6, _, _ => rfl
  | 3, 7, _, _ => rfl
  | 3, 8, _, _ => rfl
  | 3, 9, _, _ => rfl
  | 3, 10, _, _ => rfl
  | 3, 11, _, _ => rfl
  | 3, 12, _, _ => rfl
  | 3, 13, _, _ => rfl
  | 3, 14, _, _ => rfl
  | 3, j + 15, _, h => absurd h (by show ¬ j + 15 < 15; omega)
  | 4, 0, _, _ => rfl
  | 4, 1, _, _ => rfl
  | 4, 2, _, _ => rfl
  | 4, 3, _, _ => rfl
  | 4, j + 4, _, h => absurd h (by show ¬ j + 4 < 4; omega)
  | 5, 0, _, _ => rfl
  | 5, 1, _, _ => rfl
  | 5, j + 2, _, h => absurd h (by show ¬ j + 2 < 2; omega)
  | 6, 0, _, _ => rfl
  | 6, 1, _, _ => rfl
  | 6, 2, _, _ => rfl
  | 6, 3, _, _ => rfl
  | 6, 4, _, _ => rfl
  | 6, 5, _, _ => rfl
  | 6, 6, _, _ => rfl
  | 6, 7, _, _ => rfl
  | 6, 8, _, _ => rfl
  | 6, 9, _, _ => rfl
  | 6, 10, _, _ => rfl
  | 6, 11, _, _ => rfl
  | 6, j + 12, _, h => absurd h (by show ¬ j + 12 < 12; omega)
  | 7, 0, _, _ => rfl
  | 7, 1, _, _ => rfl
  | 7, 2, _, _ => rfl
  | 7, 3, _, _ => rfl
  | 7, 4, _, _ => rfl
  | 7, 5, _, _ => rfl
  | 7, 6, _, _ => rfl
  | 7, 7, _, _ => rfl
  | 7, 8, _, _ => rfl
  | 7, j + 9, _, h => absurd h (by show ¬ j + 9 < 9; omega)
  | 8, 0, _, _ => rfl
  | 8, 1, _, _ => rfl
  | 8, 2, _, _ => rfl
  | 8, j + 3, _, h => absurd h (by show ¬ j + 3 < 3; omega)
  | 9, 0, _, _ => rfl
  | 9, 1, _, _ => rfl
  | 9, 2, _, _ => rfl
  | 9, 3, _, _ => rfl
  | 9, 4, _, _ => rfl
  | 9, 5, _, _ => rfl
  | 9, j + 6, _, h => absurd h (by show ¬ j + 6 < 6; omega)
  | 10, 0, _, _ => rfl
  | 10, 1, _, _ => rfl
  | 10, 2, _, _ => rfl
  | 10, 3, _, _ => rfl
  | 10, 4, _, _ => rfl
  | 10, 5, _, _ => rfl
  | 10, 6, _, _ => rfl
  | 10, 7, _, _ => rfl
  | 10, 8, _, _ => rfl
  | 10, j + 9, _, h => absurd h (by show ¬ j + 9 < 9; omega)
  | 11, 0, _, _ => rfl
  | 11, 1, _, _ => rfl
  | 11, 2, _, _ => rfl
  | 11, 3, _, _ => rfl
  | 11, 4, _, _ => rfl
  | 11, 5, _, _ => rfl
  | 11, 6, _, _ => rfl
  | 11, 7, _, _ => rfl
  | 11, 8, _, _ => rfl
  | 11, 9, _, _ => rfl
  | 11, 10, _, _ => rfl
  | 11, 11, _, _ => rfl
  | 11, 12, _, _ => rfl
  | 11, 13, _, _ => rfl
  | 11, 14, _, _ => rfl
  | 11, 15, _, _ => rfl
  | 11, 16, _, _ => rfl
  | 11, 17, _, _ => rfl
  | 11, 18, _, _ => rfl
  | 11, 19, _, _ => rfl
  | 11, 20, _, _ => rfl
  | 11, 21, _, _ => rfl
  | 11, 22, _, _ => rfl
  | 11, 23, _, _ => rfl
  | 11, 24, _, _ => rfl
  | 11, 25, _, _ => rfl
  | 11, 26, _, _ => rfl
  | 11, 27, _, _ => rfl
  | 11, 28, _, _ => rfl
  | 11, 29, _, _ => rfl
  | 11, 30, _, _ => rfl
  | 11, 31, _, _ => rfl
  | 11, 32, _, _ => rfl
  | 11, j + 33, _, h => absurd h (by show ¬ j + 33 < 33; omega)
  | c + 12, _, h, _ => absurd h (by omega)
theorem upS_s {sh : Shp} {a : Nat} {q : Nat × Nat × (Nat → Option Nat)} : upS sh a q a = q := if_pos rfl
theorem upS_n {sh : Shp} {a x : Nat} {q : Nat × Nat × (Nat → Option Nat)} (h : x ≠ a) : upS sh a q x = sh x := if_neg h
theorem upR_n {sh : Shp} {a k x : Nat} {v : Option Nat} (h : x ≠ a) : upR sh a k v x = sh x := if_neg h
theorem upR_s {sh : Shp} {a k : Nat} {v : Option Nat} : upR sh a k v a = ((sh a).1, (sh a).2.1, va_up (sh a).2.2 k v) := if_pos rfl
theorem upR_1 {sh : Shp} {a k x : Nat} {v : Option Nat} : (upR sh a k v x).1 = (sh x).1 := by
  by_cases h : x = a
  · subst h; rw [upR_s]
  · rw [upR_n h]
theorem upR_2 {sh : Shp} {a k x : Nat} {v : Option Nat} : (upR sh a k v x).2.1 = (sh x).2.1 := by
  by_cases h : x = a
  · subst h; rw [upR_s]
  · rw [upR_n h]
theorem upR_r {sh : Shp} {a k : Nat} {v : Option Nat} : (upR sh a k v a).2.2 k = v := by
  rw [upR_s]
  exact if_pos rfl
theorem upR_o {sh : Shp} {a k x j : Nat} {v : Option Nat} (h : x ≠ a ∨ j ≠ k) : (upR sh a k v x).2.2 j = (sh x).2.2 j := by
  by_cases e : x = a
  · subst e
    rw [upR_s]
    exact if_neg (by rcases h with h | h; exact absurd rfl h; exact h)
  · rw [upR_n e]
/-- a contract whose body knows the method's name -/
theorem CM.goI {y : MethodName} {cc : ByteArray} {nL : Nat} {ret : Option FieldType} {d mc ms : Nat} {vs : List Value} {z n : Nat} {sh : Shp} {I : MI} {L : ML} {Po : PoT} (Lc : List (Option Value)) (hL : ent nL vs = Lc)
    (hy : plainName y.cls = true) (hl : (entL vs).length ≤ nL)
    (body : ∀ (X : Cx) (g : Gd), XQ X g ret (d, mc, ms) Po → (xT X).name = y.name → AW X g y.cls cc nL (d, mc, ms) (z, n, sh, 0, 0) I L 0 Lc []) : CM y cc nL ret d mc ms vs z n sh I L Po := by
  subst hL
  intro l g
  refine Met.ofW (cc := cc) (maxL := nL) (ret := ret) hy rfl ?_
  intro p e s m args below meth c s₁ B hml hv
  obtain ⟨ha, hK, hSt, hz, hn, hP⟩ := hv
  have hts := atoms_spec (ws := .code y cc nL ret :: tblG) B.pre
  have b := body (p, l, e, rmK d mc ms, s, m, args, below, meth, c, MQ below (QcK g Po) args s mc ms (fun q => g.1 ≤ q)) g ⟨rfl, B.returns⟩ (name_of_methodNamed B.named B.method).1
    ⟨B.exec, B.bytes, hml, findClass_of_methodNamed B.named, fun w hw => hts w (List.mem_cons_of_mem _ hw), hK, hSt, B.notSynchronized, ⟨Nat.le_refl _, Nat.le_refl _, rfl, rfl⟩, by rw [hz]; exact Nat.le_add_right _ _⟩
    s.heap [] _ hz hn hP va_S.rf (lr_entry g vs hl)
  rw [ha, lg_entry_eq]
  rw [ha] at b
  exact b
section AWNew
variable {X : Cx} {g : Gd} {own : String} {cc : ByteArray} {nL : Nat} {Bd : Nat × Nat × Nat} {E : En} {I : MI} {L : ML} {pc : Nat} {Lc : List (Option Value)} {st : List Value}
theorem aw_obj {idx a : Nat} (d : decode cc pc = .ok (.invokespecial idx, 3)) (hl : Cond.methodLink own idx Lib.objectInit ∈ tblG) (hd : 1 ≤ Bd.1) (hw : (st.map fun v => v.category).sum ≤ 8)
    (kk : AW X g own cc nL Bd E I L (pc + 3) Lc st) : AW X g own cc nL Bd E I L pc Lc (.ref a :: st) := by
  intro F H locs ls h1 h2 h3 h4 h5
  obtain ⟨hx, hbc, hml, ho, hts, hK, hSt, hlk, ⟨r1, r2, r3, r4⟩, hB⟩ := id F
  have K := kk F H locs ls h1 h2 h3 h4 h5
  rw [List.map_cons]
  have hr : 2 * (F0 (xM X) pc ls (cvK g (.ref a) :: st.map (cvK g))).monitorRoom + ((st.map (cvK g)).map fun v => v.category).sum ≤ 8 := lv_room (by rw [cvK_cats]; exact hw)
  exact W.objInit (a := adr g a) hx hbc ho (hts _ hl) (hts _ wObjI) (hts _ wObjC) rfl (h5.2.1.trans hml.symm) rfl d (by omega) (by omega) K
theorem aw_new {idx ci : Nat} (hci : ci < 12) (d : decode cc pc = .ok (.new idx, 3)) (hl : Cond.classLink own idx (clR ci) ∈ tblG) (hi : Cond.instantiable (clR ci) (nfK ci) ∈ tblG ∧ Cond.initialized (clR ci) ∈ tblG) (hz : E.1 = E.2.1) (h9 : E.2.1 < 900000) (hI : I E.2.1 = fun _ => 0) (hL : L E.2.1 = fun _ => 0) (hf : E.2.2.2.1 + 1 ≤ Bd.2.1 ∧ E.2.2.2.2 + nfK ci ≤ Bd.2.2)
    (kk : AW X g own cc nL Bd (E.1 + 1, E.2.1 + 1, upS E.2.2.1 E.2.1 (ci, 0, fun _ => none), E.2.2.2.1 + 1, E.2.2.2.2 + nfK ci) I L (pc + 3) Lc (.ref E.2.1 :: st)) : AW X g own cc nL Bd E I L pc Lc st := by
  intro F H locs ls h1 h2 h3 h4 h5
  obtain ⟨hx, hbc, hml, ho, hts, hK, hSt, hlk, ⟨r1, r2, r3, r4⟩, hB⟩ := id F
  have hKn := hK.1 ci _ (clF_of hci).2.1
  have hsz : H.size = g.1 + E.2.1 := by rw [h1, hz]
  refine W.newcK hx hbc ho (hts _ hl) (hts _ hi.1) (hts _ hi.2) rfl d (by rw [← r3]; exact hf.1) (by rw [← r4]; exact hf.2) hKn.2.1 hsz fun H1 kC hkC e1 z1 o1 => ?_
  have hk : ∀ (k : Nat) (x : Nat × va_E), (wdK g E.2.1 E.2.2.1 I L)[k]? = some x → H1[x.1]? = H[x.1]? := fun k x hx => o1 x.1 (by rw [← hsz]; exact (h3 k x hx).lt)
  have hfs : ∀ j, j < nfK ci → defaultValue (tyK ci j) = vp_V (fsK g (upS E.2.2.1 E.2.1 (ci, 0, fun _ => none)) I L ci E.2.1) j := by
    intro j hj
    rw [dfl_ok ci j hci hj]
    unfold vp_V
    rw [List.getD_eq_getElem?_getD, fs_get hj]
    show dfl (tyK ci j) = fvK g (upS E.2.2.1 E.2.1 (ci, 0, fun _ => none)) I L ci E.2.1 j
    unfold fvK dfl
    rw [hI, hL, upS_s]
    rfl
  have hP1 : va_P g.2.2.1 vwCl (wdK g E.2.1 E.2.2.1 I L ++ [(g.1 + E.2.1, .inr (ci, fsK g (upS E.2.2.1 E.2.1 (ci, 0, fun _ => none)) I L ci E.2.1))]) H1 := by
    refine (h3.kept hk).app (fun k x hx => ?_)
    have hz : k < 1 := (List.getElem?_eq_some_iff.mp hx).1
    rw [show k = 0 by omega] at hx
    cases hx
    exact ⟨_, (clF_of hci).2.1, (u_born (tyK ci) hts (clF_in hci) hKn hkC e1 (clF_of hci).2.2.2.2.1).to hfs⟩
  rw [wd_push (sh' := upS E.2.2.1 E.2.1 (ci, 0, fun _ => none)) (I' := I) (L' := L) (en_obj (by rw [upS_s]) (by omega)) (fun b hb => en_congr (upS_n (by omega)) rfl rfl)] at hP1
  have K := kk F H1 locs ls (by rw [z1, hz]; rfl) ⟨by show E.2.1 + 1 ≤ E.1 + 1; omega, h9⟩ hP1 ⟨Nat.le_trans h4.1 (by omega), fun x q1 q2 => (o1 x (by rw [← hsz]; exact Nat.lt_of_lt_of_le q1 h4.1)).trans (h4.2.1 x q1 q2), h4.2.2⟩ h5
  rw [List.map_cons, cv_ref (n := E.2.1 + 1) (by omega) h9] at K
  exact K
/-- an array made: what the world says then -/
theorem arr_push {H1 : Heap} {cA : ClassId} {a0 : vp_A} {q : Nat × Nat × (Nat → Option Nat)} {H : Heap} (hsz : H.size = g.1 + E.2.1) (h3 : va_P g.2.2.1 vwCl (wdK g E.2.1 E.2.2.1 I L) H) (o1 : ∀ x, x < g.1 + E.2.1 → H1[x]? = H[x]?) (e1 : H1[g.1 + E.2.1]? = some (vp_cell cA a0)) (he : enK g (upS E.2.2.1 E.2.1 q) I L E.2.1 = .inl (cA, a0)) : va_P g.2.2.1 vwCl (wdK g (E.2.1 + 1) (upS E.2.2.1 E.2.1 q) I L) H1 := by
  have hk : ∀ (k : Nat) (x : Nat × va_E), (wdK g E.2.1 E.2.2.1 I L)[k]? = some x → H1[x.1]? = H[x.1]? := fun k x hx => o1 x.1 (by rw [← hsz]; exact (h3 k x hx).lt)
  have hP1 : va_P g.2.2.1 vwCl (wdK g E.2.1 E.2.2.1 I L ++ [(g.1 + E.2.1, .inl (cA, a0))]) H1 := by
    refine (h3.kept hk).app (fun k x hx => ?_)
    have hz : k < 1 := (List.getElem?_eq_some_iff.mp hx).1
    rw [show k = 0 by omega] at hx
    cases hx
    exact e1
  rw [wd_push (sh' := upS E.2.2.1 E.2.1 q) (I' := I) (L' := L) he (fun b hb => en_congr (upS_n (by omega)) rfl rfl)] at hP1
  exact hP1
theorem aw_newaI {N : Nat} {x : Int32} (d : decode cc pc = .ok (.newarray .int, 2)) (hx : x = nI N) (hN : N ≤ 100000) (hz : E.1 = E.2.1) (h9 : E.2.1 < 900000) (hI : I E.2.1 = fun _ => 0) (hf : E.2.2.2.1 + 1 ≤ Bd.2.1 ∧ E.2.2.2.2 + N ≤ Bd.2.2)
    (kk : AW X g own cc nL Bd (E.1 + 1, E.2.1 + 1, upS E.2.2.1 E.2.1 (100, N, fun _ => none), E.2.2.2.1 + 1, E.2.2.2.2 + N) I L (pc + 2) Lc (.ref E.2.1 :: st)) : AW X g own cc nL Bd E I L pc Lc (.int x :: st) := by
  intro F H locs ls h1 h2 h3 h4 h5
  obtain ⟨hxx, hbc, hml, ho, hts, hK, hSt, hlk, ⟨r1, r2, r3, r4⟩, hB⟩ := id F
  have hsz : H.size = g.1 + E.2.1 := by rw [h1, hz]
  subst hx
  refine va_newaK (atype := .int) hxx hbc (hts _ wArI) rfl d rfl (nI_pos (by omega)) (nI_clamp (by omega)) (by show N * 4 ≤ _; omega) (by rw [← r3]; exact hf.1) (by rw [← r4]; exact hf.2) hsz fun H1 cA e1 z1 o1 hAr hNm => ?_
  have hcA : cA = g.2.2.2 100 := Option.some.inj (hNm.symm.trans (hK.2 0 (g.2.2.2 100, .int) rfl).2)
  subst hcA
  have hP1 := arr_push (q := (100, N, fun _ => none)) (a0 := (N, .inl (I E.2.1))) hsz h3 o1 (by rw [e1, hI]; rfl) (by rw [en_int (by rw [upS_s]), upS_s])
  have K := kk F H1 locs ls (by rw [z1, hz]; rfl) ⟨by show E.2.1 + 1 ≤ E.1 + 1; omega, h9⟩ hP1 ⟨Nat.le_trans h4.1 (by omega), fun x q1 q2 => (o1 x (by rw [← hsz]; exact Nat.lt_of_lt_of_le q1 h4.1)).trans (h4.2.1 x q1 q2), h4.2.2⟩ h5
  rw [List.map_cons, cv_ref (n := E.2.1 + 1) (by omega) h9] at K
  exact K
theorem aw_newaB {N : Nat} {x : Int32} (d : decode cc pc = .ok (.newarray .byte, 2)) (hx : x = nI N) (hN : N ≤ 100000) (hz : E.1 = E.2.1) (h9 : E.2.1 < 900000) (hI : I E.2.1 = fun _ => 0) (hf : E.2.2.2.1 + 1 ≤ Bd.2.1 ∧ E.2.2.2.2 + N ≤ Bd.2.2)
    (kk : AW X g own cc nL Bd (E.1 + 1, E.2.1 + 1, upS E.2.2.1 E.2.1 (102, N, fun _ => none), E.2.2.2.1 + 1, E.2.2.2.2 + N) I L (pc + 2) Lc (.ref E.2.1 :: st)) : AW X g own cc nL Bd E I L pc Lc (.int x :: st) := by
  intro F H locs ls h1 h2 h3 h4 h5
  obtain ⟨hxx, hbc, hml, ho, hts, hK, hSt, hlk, ⟨r1, r2, r3, r4⟩, hB⟩ := id F
  have hsz : H.size = g.1 + E.2.1 := by rw [h1, hz]
  subst hx
  refine va_newaK (atype := .byte) hxx hbc (hts _ wArB) rfl d rfl (nI_pos (by omega)) (nI_clamp (by omega)) (by show N * 1 ≤ _; omega) (by rw [← r3]; exact hf.1) (by rw [← r4]; exact hf.2) hsz fun H1 cA e1 z1 o1 hAr hNm => ?_
  have hcA : cA = g.2.2.2 102 := Option.some.inj (hNm.symm.trans (hK.2 2 (g.2.2.2 102, .byte) rfl).2)
  subst hcA
  have hP1 := arr_push (q := (102, N, fun _ => none)) (a0 := (N, .inl (I E.2.1))) hsz h3 o1 (by rw [e1, hI]; rfl) (by rw [en_byte (by rw [upS_s]), upS_s])
  have K := kk F H1 locs ls (by rw [z1, hz]; rfl) ⟨by show E.2.1 + 1 ≤ E.1 + 1; omega, h9⟩ hP1 ⟨Nat.le_trans h4.1 (by omega), fun x q1 q2 => (o1 x (by rw [← hsz]; exact Nat.lt_of_lt_of_le q1 h4.1)).trans (h4.2.1 x q1 q2), h4.2.2⟩ h5
  rw [List.map_cons, cv_ref (n := E.2.1 + 1) (by omega) h9] at K
  exact K
theorem aw_newaL {N : Nat} {x : Int32} (d : decode cc pc = .ok (.newarray .long, 2)) (hx : x = nI N) (hN : N ≤ 100000) (hz : E.1 = E.2.1) (h9 : E.2.1 < 900000) (hL : L E.2.1 = fun _ => 0) (hf : E.2.2.2.1 + 1 ≤ Bd.2.1 ∧ E.2.2.2.2 + N ≤ Bd.2.2)
    (kk : AW X g own cc nL Bd (E.1 + 1, E.2.1 + 1, upS E.2.2.1 E.2.1 (101, N, fun _ => none), E.2.2.2.1 + 1, E.2.2.2.2 + N) I L (pc + 2) Lc (.ref E.2.1 :: st)) : AW X g own cc nL Bd E I L pc Lc (.int x :: st) := by
  intro F H locs ls h1 h2 h3 h4 h5
  obtain ⟨hxx, hbc, hml, ho, hts, hK, hSt, hlk, ⟨r1, r2, r3, r4⟩, hB⟩ := id F
  have hsz : H.size = g.1 + E.2.1 := by rw [h1, hz]
  subst hx
  refine va_newaK (atype := .long) hxx hbc (hts _ wArL) rfl d rfl (nI_pos (by omega)) (nI_clamp (by omega)) (by show N * 8 ≤ _; omega) (by rw [← r3]; exact hf.1) (by rw [← r4]; exact hf.2) hsz fun H1 cA e1 z1 o1 hAr hNm => ?_
  have hcA : cA = g.2.2.2 101 := Option.some.inj (hNm.symm.trans (hK.2 1 (g.2.2.2 101, .long) rfl).2)
  subst hcA
  have hP1 := arr_push (q := (101, N, fun _ => none)) (a0 := (N, .inr (.inl (L E.2.1)))) hsz h3 o1 (by rw [e1, hL]; rfl) (by rw [en_long (by rw [upS_s]), upS_s])
  have K := kk F H1 locs ls (by rw [z1, hz]; rfl) ⟨by show E.2.1 + 1 ≤ E.1 + 1; omega, h9⟩ hP1 ⟨Nat.le_trans h4.1 (by omega), fun x q1 q2 => (o1 x (by rw [← hsz]; exact Nat.lt_of_lt_of_le q1 h4.1)).trans (h4.2.1 x q1 q2), h4.2.2⟩ h5
  rw [List.map_cons, cv_ref (n := E.2.1 + 1) (by omega) h9] at K
  exact K
theorem aw_anew {idx c N : Nat} {C : String} {x : Int32} (d : decode cc pc = .ok (.anewarray idx, 3)) (hl : Cond.classLink own idx C ∈ tblG) (hc : 103 ≤ c) (hy : ∀ g : Gd, (tysK g)[c - 100]? = some (g.2.2.2 c, .object C)) (ho : ∀ (g : Gd) (U : State) (H : Heap), StK g U H → va_AO C U) (hx : x = nI N) (hN : N ≤ 100000) (hz : E.1 = E.2.1) (h9 : E.2.1 < 900000) (hf : E.2.2.2.1 + 1 ≤ Bd.2.1 ∧ E.2.2.2.2 + N ≤ Bd.2.2)
    (kk : AW X g own cc nL Bd (E.1 + 1, E.2.1 + 1, upS E.2.2.1 E.2.1 (c, N, fun _ => none), E.2.2.2.1 + 1, E.2.2.2.2 + N) I L (pc + 3) Lc (.ref E.2.1 :: st)) : AW X g own cc nL Bd E I L pc Lc (.int x :: st) := by
  intro F H locs ls h1 h2 h3 h4 h5
  obtain ⟨hxx, hbc, hml, how, hts, hK, hSt, hlk, ⟨r1, r2, r3, r4⟩, hB⟩ := id F
  have hsz : H.size = g.1 + E.2.1 := by rw [h1, hz]
  subst hx
  have hcl : (nI N).toNatClampNeg = N := nI_clamp (by omega)
  refine W.anew hxx hbc how (hts _ hl) (va_AO.use (ho g _ _ hSt)) rfl d rfl (nI_pos (by omega)) (by rw [hcl]; omega) (by rw [← r3]; exact hf.1) (by rw [hcl, ← r4]; exact hf.2) fun cA kA comp f1 f2 f3 f4 => ?_
  rw [hcl]
  obtain ⟨kA', comp', -, -, -, k4⟩ := (hK.2 (c - 100) _ (hy g)).2
  have hcA : cA = g.2.2.2 c := Option.some.inj (f1.symm.trans k4)
  subst hcA
  generalize hH1 : H.push ({ cls := g.2.2.2 c, slots := Array.replicate N .null, vm := .none } : Cell) = H1
  have z1 : H1.size = H.size + 1 := by rw [← hH1, Array.size_push]
  have e1 : H1[g.1 + E.2.1]? = some (arrV (g.2.2.2 c) N (fun _ => .null)) := by rw [← hH1, ← hsz, Array.getElem?_push_size, ← arrV_new]
  have o1 : ∀ q : Nat, q < g.1 + E.2.1 → H1[q]? = H[q]? := fun q hq => by rw [← hH1, Array.getElem?_push, if_neg (by omega)]
  have hP1 := arr_push (q := (c, N, fun _ => none)) (a0 := (N, .inr (.inr (.inr (.inr (fun _ => none)))))) hsz h3 o1 (by rw [e1]; rfl) (by rw [en_refs (by rw [upS_s]) hc, upS_s]; rfl)
  have K := kk F H1 locs ls (by rw [z1, hsz, hz]; rfl) ⟨by show E.2.1 + 1 ≤ E.1 + 1; omega, h9⟩ hP1 ⟨Nat.le_trans h4.1 (by omega), fun x q1 q2 => (o1 x (by rw [← hsz]; exact Nat.lt_of_lt_of_le q1 h4.1)).trans (h4.2.1 x q1 q2), h4.2.2⟩ h5
  rw [List.map_cons, cv_ref (n := E.2.1 + 1) (by omega) h9, ← hsz] at K
  exact K
theorem aw_aast {a v c ci i : Nat} {x : Int32} (d : decode cc pc = .ok (.aastore, 1)) (hk : (E.2.2.1 a).1 = c) (hc : 103 ≤ c) (hci : ci < 12) (hy : ∀ g : Gd, (tysK g)[c - 100]? = some (g.2.2.2 c, .object (clR ci))) (ha : a < E.2.1) (hv : v < E.2.1) (hkv : (E.2.2.1 v).1 = ci) (hx : x = nI i) (hi : i < (E.2.2.1 a).2.1) (h31 : (E.2.2.1 a).2.1 < 2 ^ 31)
    (kk : AW X g own cc nL Bd (E.1, E.2.1, upR E.2.2.1 a i (some v), E.2.2.2.1, E.2.2.2.2) I L (pc + 1) Lc st) : AW X g own cc nL Bd E I L pc Lc (.ref v :: .int x :: .ref a :: st) := by
  intro F H locs ls h1 h2 h3 h4 h5
  obtain ⟨hxx, hbc, hml, how, hts, hK, hSt, hlk, ⟨r1, r2, r3, r4⟩, hB⟩ := id F
  subst hx
  rw [List.map_cons, List.map_cons, List.map_cons, cv_ref ha h2.2, cv_ref hv h2.2]
  have hcl : (nI i).toNatClampNeg = i := nI_clamp (by omega)
  have haw : (wdK g E.2.1 E.2.2.1 I L)[a]? = some (g.1 + a, .inl (g.2.2.2 c, (E.2.2.1 a).2.1, .inr (.inr (.inr (.inr (fun j => ((E.2.2.1 a).2.2 j).map (adr g))))))) := by rw [wd_get ha, en_refs hk hc]
  have hvw : (wdK g E.2.1 E.2.2.1 I L)[v]? = some (g.1 + v, .inr (ci, fsK g E.2.2.1 I L ci v)) := by rw [wd_get hv, en_obj hkv (by omega)]
  obtain ⟨r', hr', cellV, g1, g2, g3, -⟩ := h3 v _ hvw
  have hcls := (hK.1 ci _ (clF_of hci).2.1).2
  obtain ⟨kA, comp, k1, k2, k3, -⟩ := (hK.2 (c - 100) _ (hy g)).2
  have hcomp : comp = g.2.2.1.1 ci := Option.some.inj (k3.symm.trans hcls.1)
  subst hcomp
  obtain ⟨kC, hkC, -⟩ := hcls.2
  refine W.aast hxx hbc (h3 a _ haw) (fun q h => by cases h) (fun h => by cases h) k1 k2 rfl hkC ⟨nI_pos (by omega), by show _ < (arrV _ _ _).slots.size; rw [arrV_size, hcl]; exact hi⟩ g1 (fun q h => by rw [g3] at h; cases h) (by rw [g2]; exact hkC) (by rw [g2]; exact va_assign hcls) rfl rfl d fun H1 e z oq => ?_
  have p1 := h3.set (e := .inl (g.2.2.2 c, (E.2.2.1 a).2.1, .inr (.inr (.inr (.inr (va_up (fun j => ((E.2.2.1 a).2.2 j).map (adr g)) i (some (g.1 + v)))))))) wd_D haw (by
    show H1[g.1 + a]? = some (vp_cell _ _)
    rw [e, vp_cell_q, vp_cell_q, arrV_store, hcl]
    congr 2
    funext q
    by_cases hq : q = i
    · subst hq
      simp [updV, va_up, va_rf]
    · simp [updV, va_up, hq]) oq
  rw [wd_set (sh' := upR E.2.2.1 a i (some v)) (I' := I) (L' := L) ha (by
    rw [en_refs (by rw [upR_1]; exact hk) hc, upR_s]
    refine congrArg (fun f => (Sum.inl (g.2.2.2 c, (E.2.2.1 a).2.1, Sum.inr (Sum.inr (Sum.inr (Sum.inr f)))) : va_E)) ?_
    funext j
    show ((va_up (E.2.2.1 a).2.2 i (some v) j).map (adr g)) = va_up _ i _ j
    unfold va_up
    by_cases hj : j = i
    · rw [if_pos hj, if_pos hj]
      show some (adr g v) = _
      rw [adr_of (by omega)]
    · rw [if_neg hj, if_neg hj]) (fun b hb => en_upR_ne hb)] at p1
  exact kk F H1 _ ls (by rw [z]; exact h1) h2 p1 (h4.put z oq (wd_D.2 a _ haw)) h5
/-- a final field written in its constructor -/
theorem put_zF {p : Program} {l : Launch} {e : Env} {R : Room} {s : State} {m : MethodId} {args : Array Value} {below : List Frame} {meth : Method} {c : Code} {H : Heap} {locs : List Loc} {cells slots : Nat} {Q : State → Prop} {ls : Array Slot} {rest : List Value} {D : va_G} {A : Nat → Prop} {tys : List (ClassId × FieldType)} {ws : va_W} {H0 : Heap}
    (hexec : p.tables.exec = Jvm.exec) (hb : c.code = cc) {idx ci k a q0 : Nat} (f : fL own idx ci k) (hts : ∀ w ∈ tblG, w.before args s = true) (hown : s.vm.findClass own = some m.cls) (hK : va_K D vwCl tys s) (hP : va_P D vwCl ws H) (hD : va_D A ws) (hS0 : va_S A H0 H locs) {fs : List Value} (he : ws[q0]? = some (a, .inr (ci, fs)))
    (hfin : (clT ci k).2.2.2 = true) (hin2 : meth.name = "<init>") (hdecl : (clT ci k).1 = own) {v : Value} (hn : narrow (tyK ci k) v = v) (hfit : fits (tyK ci k) v = true) (hl : k < fs.length) (hdg : decode cc pc = .ok (.putfield idx, 3))
    (kk : ∀ (H1 : Heap) (locs1 : List Loc), H1.size = H.size → va_P D vwCl (ws.set q0 (a, .inr (ci, fs.set k v))) H1 → va_S A H0 H1 locs1 → W p l e R s m args below meth c H1 locs1 cells slots Q (F0 m (pc + 3) ls rest)) : W p l e R s m args below meth c H locs cells slots Q (F0 m pc ls (v :: .ref a :: rest)) := by
  have c0 := clF_of f.1
  have hin := clF_in f.1
  have hap := va_apart (own := own) hts hin (tyK ci) c0.2.2.2.2.1 c0.2.2.2.2.2 hK c0.2.1
  obtain ⟨r, r1, cell, q1, q2, q3, q4⟩ := hP q0 _ he
  cases Option.some.inj (r1.symm.trans c0.2.1)
  obtain ⟨hS, hfc, kC, hkC, hkind⟩ := hK.1 ci _ c0.2.1
  obtain ⟨cf, kf, fi, fd, hi, hsl⟩ := hS k f.2.1
  have hlay := hts _ (hin _ (u_in_lay f.2.1))
  unfold u_lay at hlay
  rw [if_pos hfin] at hlay
  have hst := (u_facts hfc hkC (u_lays hts hin f.2.1) hi).1
  have hcf : m.cls = cf := by
    obtain ⟨_, _, c', _, _, _, -, -, hf', -, -, -, hown2, -⟩ := Cond.laysFinal_spec hlay
    have e1 : c' = cf := by have := hi.symm.trans hf'; simp at this; exact this.1.symm
    rw [hdecl] at hown2
    rw [← e1]; exact Option.some.inj (hown.symm.trans hown2)
  have h6 := u_fits hfc hkC hkind (Or.inr hlay) hi (c0.2.2.2.2.1 k f.2.1) hn hfit
  refine W.putFinK hexec hb hown (hts _ f.2.2) hi hst hcf hin2 (by rw [q2]; exact h6) q1 q3 (by rw [hsl]; exact k2_hasslot (q4 k f.2.1)) rfl rfl hdg fun H1 e1 e2 e3 => ?_
  rw [hsl] at e1 ⊢
  exact kk H1 _ e2 (hP.set hD he ⟨_, c0.2.1, t_OB.to (V := updV (vp_V fs) k v) ⟨_, e1, q2, q3, t_set q4 hap f.2.1 v⟩ (fun j _ => vp_updV_set hl v j)⟩ e3) (hS0.put e2 e3 (hD.2 q0 _ he))
theorem aw_putFI {idx ci k a : Nat} {v : Int32} (d : decode cc pc = .ok (.putfield idx, 3)) (f : fL own idx ci k) (hk : (E.2.2.1 a).1 = ci) (ha : a < E.2.1) (ht : tyK ci k = .int) (hf : (clT ci k).2.2.2 = true) (hn : (xT X).name = "<init>") (hdecl : (clT ci k).1 = own)
    (kk : AW X g own cc nL Bd E (upI I a k v) L (pc + 3) Lc st) : AW X g own cc nL Bd E I L pc Lc (.int v :: .ref a :: st) := by
  intro F H locs ls h1 h2 h3 h4 h5
  rw [List.map_cons, List.map_cons, cv_ref ha h2.2]
  have hc : ci < 100 := by have := f.1; omega
  refine put_zF (D := g.2.2.1) (v := .int v) (q0 := a) (fs := fsK g E.2.2.1 I L ci a) F.1 F.2.1 f F.2.2.2.2.1 F.2.2.2.1 F.2.2.2.2.2.1 h3 wd_D h4 (by rw [wd_get ha, en_obj hk hc]) hf hn hdecl (by rw [ht]; rfl) (by rw [ht]; rfl) (by rw [fs_len]; exact f.2.1) d (fun H1 locs1 z p1 p3 => ?_)
  rw [wd_set (sh' := E.2.2.1) (I' := upI I a k v) (L' := L) ha (by rw [en_obj hk hc, fs_upI (by rw [ht]; rfl)]) (fun b hb => en_upI_ne hb)] at p1
  exact kk F H1 locs1 ls (by rw [z]; exact h1) h2 p1 p3 h5
theorem aw_putFR {idx ci k a b : Nat} (d : decode cc pc = .ok (.putfield idx, 3)) (f : fL own idx ci k) (hk : (E.2.2.1 a).1 = ci) (ha : a < E.2.1) (hb : b < E.2.1) (ht : ftc (tyK ci k) = 2) (h1n : ∀ q : Nat, narrow (tyK ci k) (.ref q) = .ref q) (h1f : ∀ q : Nat, fits (tyK ci k) (.ref q) = true) (hf : (clT ci k).2.2.2 = true) (hn : (xT X).name = "<init>") (hdecl : (clT ci k).1 = own)
    (kk : AW X g own cc nL Bd (E.1, E.2.1, upR E.2.2.1 a k (some b), E.2.2.2.1, E.2.2.2.2) I L (pc + 3) Lc st) : AW X g own cc nL Bd E I L pc Lc (.ref b :: .ref a :: st) := by
  intro F H locs ls h1 h2 h3 h4 h5
  rw [List.map_cons, List.map_cons, cv_ref ha h2.2, cv_ref hb h2.2]
  have hc : ci < 100 := by have := f.1; omega
  refine put_zF (D := g.2.2.1) (v := .ref (g.1 + b)) (q0 := a) (fs := fsK g E.2.2.1 I L ci a) F.1 F.2.1 f F.2.2.2.2.1 F.2.2.2.1 F.2.2.2.2.2.1 h3 wd_D h4 (by rw [wd_get ha, en_obj hk hc]) hf hn hdecl (h1n _) (h1f _) (by rw [fs_len]; exact f.2.1) d (fun H1 locs1 z p1 p3 => ?_)
  rw [wd_set (sh' := upR E.2.2.1 a k (some b)) (I' := I) (L' := L) ha (by
    rw [en_obj (by rw [upR_1]; exact hk) hc, fs_upR ht]
    show Sum.inr (ci, (fsK g E.2.2.1 I L ci a).set k (va_rf (some (adr g b)))) = _
    rw [adr_of (by omega)]
    rfl) (fun b hb => en_upR_ne hb)] at p1
  exact kk F H1 locs1 ls (by rw [z]; exact h1) h2 p1 p3 h5
end AWNew
