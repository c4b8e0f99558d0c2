/-! rows of ints copied by the machine -/
def cpA (f h : Nat → Int32) (len : Nat) : Nat → Int32 := fun j => if j < len then f j else h j
theorem acp_nat : Cond.native arraycopyName ∈ tblG := t1 (i := 234) rfl rfl
theorem acp_sta : Cond.static arraycopyName ∈ tblG := t1 (i := 233) rfl rfl
theorem acp_ini : Cond.initialized "java/lang/System" ∈ tblG := t1 (i := 6) rfl rfl
theorem acp_X7 : Cond.methodLink RX7 49 arraycopyName ∈ tblG := t1 (i := 232) rfl rfl
theorem acp_X3 : Cond.methodLink RX3 87 arraycopyName ∈ tblG := t3 (i := 214) rfl rfl
theorem acp_X8 : Cond.methodLink RX8 31 arraycopyName ∈ tblG := t3 (i := 222) rfl rfl
section ACp
variable {X : Cx} {g : Gd} {own : String} {cc : ByteArray} {nL : Nat} {Bd : Nat × Nat × Nat} {E : En} {I : MI} {L : ML} {pc : Nat} {Lc : List (Option Value)} {st : List Value}
/-- from a cell anywhere into one of the store -/
theorem acp_W {idx a1 len n0 q0 : Nat} {f : Nat → Int32} {cs : Cell} (dg : decode cc pc = .ok (.invokestatic idx, 3)) (hl : Cond.methodLink own idx arraycopyName ∈ tblG) (k1 : (E.2.2.1 a1).1 = 100) (b1 : a1 < E.2.1) (hn0 : len ≤ n0) (n1 : len ≤ (E.2.2.1 a1).2.1) (hlen : len < 2 ^ 31) (hd : 1 ≤ Bd.1) (hw : (st.map fun v => v.category).sum ≤ 8)
    (kk : AW X g own cc nL Bd E (upA I a1 (cpA f (I a1) len)) L (pc + 3) Lc st)
    (F : FctX X g own cc nL Bd) {H : Heap} {locs : List Loc} {ls : Array Slot} (h1 : H.size = g.1 + E.1) (h2 : E.2.1 ≤ E.1 ∧ E.2.1 ≤ 900000) (h3 : va_P g.2.2.1 vwCl (wdK g E.2.1 E.2.2.1 I L) H) (h4 : va_S (fun q => g.1 ≤ q) (xS X).heap H locs) (h5 : lrK g nL Lc ls)
    (c0 : H[q0]? = some cs) (har : (xS X).isArrayOf cs .int) (hkn : cs.vm ≠ .unknown) (hsz : n0 ≤ cs.slots.size) (hrd : ∀ j : Nat, j < n0 → cs.slots[j]? = some (.int (f j))) :
    W (xP X) (xL X) (xE X) (xR X) (xS X) (xM X) (xA X) (xB X) (xT X) (xC X) H locs E.2.2.2.1 E.2.2.2.2 (xQ X) (F0 (xM X) pc ls (.int (nI len) :: .int 0 :: .ref (g.1 + a1) :: .int 0 :: .ref q0 :: st.map (cvK g))) := by
  obtain ⟨hx, hbc, hml, ho, hts, hK, hSt, hlk, ⟨r1, r2, r3, r4⟩, hB⟩ := id F
  obtain ⟨hob, ka, hka, cma, hkka⟩ := har
  have hn9 : ¬ nI len < 0 := nI_pos hlen
  have hi9 : (nI len).toInt = (len : Int) := by
    have h0 : (0 : Int) ≤ (nI len).toInt := by
      have := Int32.le_iff_toInt_le.mp (Int32.not_lt.mp hn9)
      simpa using this
    have h1 : (nI len).toInt.toNat = len := nI_clamp hlen
    omega
  have z0 : (0 : Int32).toInt = 0 := by decide
  have zc : (0 : Int32).toNatClampNeg = 0 := by decide
  have e1w : (wdK g E.2.1 E.2.2.1 I L)[a1]? = some (g.1 + a1, .inl (g.2.2.2 100, (E.2.2.1 a1).2.1, .inl (I a1))) := by rw [wd_get b1, en_int k1]
  have c1 : H[g.1 + a1]? = some (vp_cell (g.2.2.2 100) ((E.2.2.1 a1).2.1, .inl (I a1))) := h3 a1 _ e1w
  obtain ⟨hdob, kb, hkb, cmb, hkkb⟩ := (hK.2 0 _ rfl).1 ((E.2.2.1 a1).2.1) (fun j => .int (I a1 j))
  have hgd : ∀ i, i < len → cs.slots.getD (0 + i) .null = .int (f i) := fun i hi => by
    rw [Array.getD_eq_getD_getElem?, Nat.zero_add, hrd i (by omega)]
    rfl
  intro T hT XX
  obtain ⟨vm', X', step⟩ := XX.arraycopy hx ho (hts _ hl) (hts _ acp_nat) (hts _ acp_sta) (hts _ acp_ini) (src := q0) (dst := g.1 + a1) (cs := cs) (cd := vp_cell (g.2.2.2 100) ((E.2.2.1 a1).2.1, .inl (I a1))) (srcPos := 0) (destPos := 0) (n := nI len)
    (by rw [hT]; exact c0) (by rw [hT]; exact c1) hob (fun _ h => by cases h) hkn (fun h => by cases h) hka hkb hkka hkkb (by rfl) (by decide) (by decide) hn9
    (by rw [hi9, z0]; omega)
    (by rw [hi9, z0]; show ¬ _ > ((arrV (g.2.2.2 100) (E.2.2.1 a1).2.1 (fun j => .int (I a1 j))).slots.size : Int); rw [arrV_size]; omega)
    (fun vm₁ _ i hi => by
      rw [nI_clamp hlen] at hi
      rw [zc, hgd i hi]
      exact ⟨rfl, trivial⟩)
    (g := F0 (xM X) pc ls (.int (nI len) :: .int 0 :: .ref (g.1 + a1) :: .int 0 :: .ref q0 :: st.map (cvK g))) rfl (by rw [hml]; exact h5.2.1) (rest := st.map (cvK g)) rfl (by rw [hbc]; exact dg) (by omega)
    (by
      have q9 : ((st.map (cvK g)).map fun v => v.category).sum ≤ 8 := by rw [cvK_cats]; exact hw
      have e7 : nativeFrameWords "java/lang/System" "arraycopy" 5 = 7 := by decide +kernel
      rw [e7]
      show 2 * 0 + _ + _ ≤ _
      omega)
  have e1 : copied cs (vp_cell (g.2.2.2 100) ((E.2.2.1 a1).2.1, .inl (I a1))) 0 0 (nI len) = vp_cell (g.2.2.2 100) ((E.2.2.1 a1).2.1, .inl (cpA f (I a1) len)) := by
    have h := va_copied (fun z => Value.int z) (g.2.2.2 100) (g.2.2.2 100) (n0 := len) (n1 := (E.2.2.1 a1).2.1) (sp := 0) (dp := 0) (n := len) f (I a1) (by omega)
    have es : cs.stretch 0 len = (arrV (g.2.2.2 100) len (fun j => Value.int (f j))).stretch 0 len := by
      unfold Cell.stretch
      apply List.map_congr_left
      intro i hi
      have hi' := List.mem_range.mp hi
      rw [hgd i hi', Array.getD_eq_getD_getElem?, arrV_read _ _ (by omega), Nat.zero_add]
      rfl
    show (arrV (g.2.2.2 100) (E.2.2.1 a1).2.1 (fun j => Value.int (I a1 j))).storeRun (0 : Int32).toNatClampNeg (cs.stretch (0 : Int32).toNatClampNeg (nI len).toNatClampNeg) = arrV (g.2.2.2 100) (E.2.2.1 a1).2.1 (fun j => Value.int (cpA f (I a1) len j))
    rw [nI_clamp hlen, zc, es, h]
    congr 1
    funext j
    unfold va_cpy cpA
    by_cases hj : j < len
    · rw [if_pos ⟨Nat.zero_le _, by omega⟩, if_pos hj, Nat.zero_add, Nat.sub_zero]
    · rw [if_neg (by omega), if_neg hj]
  rw [e1] at X' step
  have hl9 : g.1 + a1 < H.size := (Array.getElem?_eq_some_iff.mp c1).1
  have hheap : ((T.setVm vm').setCell (g.1 + a1) (vp_cell (g.2.2.2 100) ((E.2.2.1 a1).2.1, .inl (cpA f (I a1) len)))).heap = H.setIfInBounds (g.1 + a1) (vp_cell (g.2.2.2 100) ((E.2.2.1 a1).2.1, .inl (cpA f (I a1) len))) := by rw [← hT]; rfl
  have oq : ∀ q : Nat, q ≠ g.1 + a1 → (H.setIfInBounds (g.1 + a1) (vp_cell (g.2.2.2 100) ((E.2.2.1 a1).2.1, .inl (cpA f (I a1) len))))[q]? = H[q]? := fun q hq => by simp [Array.getElem?_setIfInBounds, Ne.symm hq]
  obtain ⟨t, a9, b9⟩ := kk F _ _ ls (by simp; exact h1) h2 (by
      rw [← wd_set (sh' := E.2.2.1) (I' := upA I a1 (cpA f (I a1) len)) (L' := L) b1 (by rw [en_int k1, upA_self]) (fun b hb => en_upA_ne hb)]
      exact h3.set wd_D e1w (show (H.setIfInBounds (g.1 + a1) _)[g.1 + a1]? = some _ by simp [Array.getElem?_setIfInBounds, hl9]) oq)
    ⟨by simp; exact h4.1, fun q g1 g2 => by
      rw [oq q (fun e => g2 (by rw [e]; exact Nat.le_add_right _ _))]
      exact h4.2.1 q g1 g2, fun q hq => by
      rcases List.mem_append.mp hq with h | h
      · exact h4.2.2 q h
      · obtain ⟨z, -, hz⟩ := List.mem_map.mp h
        rw [← hz]
        exact Nat.le_add_right _ _⟩ h5 _ hheap X'
  exact ⟨t, step t a9, b9⟩
/-- within the store -/
theorem aw_acopy {idx a0 a1 len : Nat} {x : Int32} (dg : decode cc pc = .ok (.invokestatic idx, 3)) (hl : Cond.methodLink own idx arraycopyName ∈ tblG) (hx : x = nI len) (k0 : (E.2.2.1 a0).1 = 100) (b0 : a0 < E.2.1) (k1 : (E.2.2.1 a1).1 = 100) (b1 : a1 < E.2.1) (n0 : len ≤ (E.2.2.1 a0).2.1) (n1 : len ≤ (E.2.2.1 a1).2.1) (hlen : len < 2 ^ 31) (hd : 1 ≤ Bd.1) (hw : (st.map fun v => v.category).sum ≤ 8)
    (kk : AW X g own cc nL Bd E (upA I a1 (cpA (I a0) (I a1) len)) L (pc + 3) Lc st) : AW X g own cc nL Bd E I L pc Lc (.int x :: .int 0 :: .ref a1 :: .int 0 :: .ref a0 :: st) := by
  subst hx
  intro F H locs ls h1 h2 h3 h4 h5
  have e0 : (wdK g E.2.1 E.2.2.1 I L)[a0]? = some (g.1 + a0, .inl (g.2.2.2 100, (E.2.2.1 a0).2.1, .inl (I a0))) := by rw [wd_get b0, en_int k0]
  rw [List.map_cons, List.map_cons, List.map_cons, List.map_cons, List.map_cons, cv_ref b0 h2.2, cv_ref b1 h2.2]
  refine acp_W dg hl k1 b1 n0 n1 hlen hd hw kk F h1 h2 h3 h4 h5 (h3 a0 _ e0) ((F.2.2.2.2.2.1.2 0 _ rfl).1 ((E.2.2.1 a0).2.1) (fun j => .int (I a0 j))) (fun q => by cases q) (by show _ ≤ (arrV (g.2.2.2 100) (E.2.2.1 a0).2.1 (fun j => Value.int (I a0 j))).slots.size; rw [arrV_size]; exact Nat.le_refl _) (fun j hj => arrV_read _ _ hj)
end ACp
