/-! the class: one more is placed, or can't be -/
/-- an end that tells yes or no, and what the ints hold -/
def Eb (P : Bool → MI → Prop) (z n : Nat) (sh : Shp) (L : ML) : PoT := fun v z' n' sh' J M => ∃ b, v = some (.int (bI b)) ∧ z' = z ∧ n' = n ∧ sh' = sh ∧ M = L ∧ P b J
section AEb
variable {X : Cx} {g : Gd} {own : String} {cc : ByteArray} {nL : Nat} {Bd : Nat × Nat × Nat} {E : En} {I : MI} {L : ML} {pc : Nat} {Lc : List (Option Value)} {st : List Value}
theorem aw_bS {idx : Nat} {y : MethodName} {cc2 : ByteArray} {nL2 : Nat} {ret2 : Option FieldType} {np d : Nat} {As : List Value} {st0 : List Value} {P : Bool → MI → Prop} (dg : decode cc pc = .ok (.invokestatic idx, 3)) (hl : Cond.methodLink own idx y ∈ tblG) (hm : mS y cc2 nL2 ret2 np) (hM : CM y cc2 nL2 ret2 d 0 0 As E.1 E.2.1 E.2.2.1 I L (Eb P E.1 E.2.1 E.2.2.1 L))
    (hd : d + 1 ≤ Bd.1) (hst : st0 = As.reverse ++ st) (hn : As.length = np) (hw : (st.map fun v => v.category).sum ≤ 8) (hf : E.2.2.2.1 ≤ Bd.2.1 ∧ E.2.2.2.2 ≤ Bd.2.2)
    (k : ∀ b J, P b J → AW X g own cc nL Bd E J L (pc + 3) Lc (.int (bI b) :: st)) : AW X g own cc nL Bd E I L pc Lc st0 :=
  aw_callS dg hl hm hM hd hst hn hw hf (fun v z n sh I3 L3 q => by
    obtain ⟨b, h1, h2, h3, h4, h5, h6⟩ := q
    subst h1 h2 h3 h4
    have h8 : L = L3 := h5.symm
    subst h8
    exact k b _ h6)
end AEb
def MaA (N : Nat → Int32) (J : MI) : Prop := J 484 2 = nI (nPo N) ∧ ∀ p, p < nPo N → J 485 p = iset (fun h => mCan N p h) (nHo N)
theorem MaA.cg {N : Nat → Int32} {I J : MI} (h : MaA N I) (h1 : J 484 2 = I 484 2) (h2 : J 485 = I 485) : MaA N J := ⟨h1.trans h.1, fun p hp => by rw [h2]; exact h.2 p hp⟩
/-- holders and what is unseen alone changed -/
def MaF (I J : MI) : Prop := (∀ x, x ≠ 484 → x ≠ 486 → J x = I x) ∧ ∀ f, f ≠ 3 → J 484 f = I 484 f
theorem MaF.rf {I : MI} : MaF I I := ⟨fun _ _ _ => rfl, fun _ _ => rfl⟩
theorem MaF.put {I J : MI} {a k : Nat} {v : Int32} (h : MaF I J) (ha : (a = 484 ∧ k = 3) ∨ a = 486) : MaF I (upI J a k v) := ⟨fun x h1 h2 => (if_neg (by omega)).trans (h.1 x h1 h2), fun f hf => (upI_n (by omega)).trans (h.2 f hf)⟩
theorem MaF.tr {I J K : MI} (h : MaF I J) (h2 : MaF J K) : MaF I K := ⟨fun x a b => (h2.1 x a b).trans (h.1 x a b), fun f hf => (h2.2 f hf).trans (h.2 f hf)⟩
theorem MaF.ma {N : Nat → Int32} {I J : MI} (h : MaF I J) (hA : MaA N I) : MaA N J := hA.cg (h.2 2 (by decide)) (h.1 485 (by decide) (by decide))
theorem seen_add : ∀ v, v < 1024 → ∀ h, h < 10 → v.testBit h = false → (nI v ^^^ (-1)) &&& (nI (2 ^ h) ^^^ (-1)) = nI (v + 2 ^ h) ^^^ (-1) := by decide +kernel
theorem can_lt {N : Nat → Int32} (hN : Cn N) (p : Nat) : iset (fun h => mCan N p h) (nHo N) = nI (nset (fun h => mCan N p h) (nHo N)) ∧ nset (fun h => mCan N p h) (nHo N) < 1024 := by
  have h10 := hN.h10
  exact ⟨iset_n _ _ (by omega), Nat.lt_of_lt_of_le (nset_lt _ _) (Nat.pow_le_pow_right (n := 2) (by decide) h10)⟩
theorem can_bit {N : Nat → Int32} (hN : Cn N) {p h v : Nat} (hh : h < 10) : (iset (fun h => mCan N p h) (nHo N) &&& (nI v ^^^ (-1))) &&& nI (2 ^ h) = 0 ↔ ¬ (mEd N p h = true ∧ v.testBit h = false) := by
  have h10 := hN.h10
  obtain ⟨e1, e2⟩ := can_lt hN p
  have e3 : sdiff (nset (fun h => mCan N p h) (nHo N)) v < 1024 := Nat.lt_of_le_of_lt Nat.and_le_left e2
  rw [e1, sdiff_n, bt_and rfl e3 hh, (bit_all _ e3 h hh).1, sdiff_bit (by omega), nset_bit _ _ (by omega) h hh]
  unfold mEd
  cases (decide (h < nHo N) && mCan N p h) <;> cases v.testBit h <;> simp
def pc10 (v : Nat) : Nat := fa_cnt (fun h => v.testBit h) 10
theorem pc10_add {v h : Nat} (hv : v < 1024) (hh : h < 10) (hb : v.testBit h = false) : pc10 (v + 2 ^ h) = pc10 v + 1 := by
  obtain ⟨b1, b2⟩ := bit_add10 v hv h hh hb
  unfold pc10
  rw [cnt_del (R := fun w => (v + 2 ^ h).testBit w) (y := h) (by rw [b2 h hh]; simp) hh]
  refine congrArg (· + 1) (fa_cnt_cong (fun k hk => ?_))
  rw [b2 k hk]
  by_cases e : k = h
  · subst e; rw [hb]; simp
  · simp [e]
theorem pc10_le {v : Nat} : pc10 v ≤ 10 := fa_cnt_le _ _
theorem pc10_mono {v u : Nat} (h : ∀ x, x < 10 → v.testBit x = true → u.testBit x = true) : pc10 v ≤ pc10 u := cnt_mono h
def one (b : Prop) [Decidable b] : Nat := if b then 1 else 0
theorem hdN_up {hd : Nat → Int32} {h : Nat} (hh : h < 10) {x r : Int32} : hdN (fun k => if k = h then x else hd k) r + one (hd h = r) = hdN hd r + one (x = r) := by
  have key : ∀ n, fa_cnt (fun k => decide ((if k = h then x else hd k) = r)) n + (if h < n then one (hd h = r) else 0) = fa_cnt (fun k => decide (hd k = r)) n + (if h < n then one (x = r) else 0) := by
    intro n
    induction n with
    | zero => rfl
    | succ n ih =>
      by_cases e : n = h
      · subst e
        rw [if_neg (Nat.lt_irrefl n), if_neg (Nat.lt_irrefl n)] at ih
        rw [if_pos (by omega), if_pos (by omega)]
        have u1 : fa_cnt (fun k => decide ((if k = n then x else hd k) = r)) (n + 1) = fa_cnt (fun k => decide ((if k = n then x else hd k) = r)) n + one (x = r) := by
          by_cases w : x = r
          · rw [fa_cnt_yes (by rw [if_pos rfl]; exact decide_eq_true w)]; unfold one; rw [if_pos w]
          · rw [fa_cnt_no (by rw [if_pos rfl]; exact decide_eq_false w)]; unfold one; rw [if_neg w]; rfl
        have u2 : fa_cnt (fun k => decide (hd k = r)) (n + 1) = fa_cnt (fun k => decide (hd k = r)) n + one (hd n = r) := by
          by_cases w : hd n = r
          · rw [fa_cnt_yes (decide_eq_true w)]; unfold one; rw [if_pos w]
          · rw [fa_cnt_no (decide_eq_false w)]; unfold one; rw [if_neg w]; rfl
        omega
      · have u1 : (if h < n + 1 then one (hd h = r) else 0) = if h < n then one (hd h = r) else 0 := by
          by_cases w : h < n
          · rw [if_pos w, if_pos (by omega)]
          · rw [if_neg w, if_neg (by omega)]
        have u2 : (if h < n + 1 then one (x = r) else 0) = if h < n then one (x = r) else 0 := by
          by_cases w : h < n
          · rw [if_pos w, if_pos (by omega)]
          · rw [if_neg w, if_neg (by omega)]
        rw [u1, u2]
        by_cases w : hd n = r
        · rw [fa_cnt_yes (by rw [if_neg e]; exact decide_eq_true w), fa_cnt_yes (p := fun k => decide (hd k = r)) (decide_eq_true w)]
          omega
        · rw [fa_cnt_no (by rw [if_neg e]; exact decide_eq_false w), fa_cnt_no (p := fun k => decide (hd k = r)) (decide_eq_false w)]
          exact ih
  have := key 10
  rw [if_pos hh, if_pos hh] at this
  exact this
/-- placed: the holders behind -/
def PlT (N : Nat → Int32) (v s : Nat) (hd hd2 : Nat → Int32) : Prop := (∀ r, hdN hd2 r + one (r = -1) = hdN hd r + one (r = nI s)) ∧ ∀ h, h < 10 → hd2 h = hd h ∨ (v.testBit h = false ∧ ∃ w, w < nPo N ∧ hd2 h = nI w ∧ mEd N w h = true)
/-- not placed: what was seen is closed -/
def PlN (N : Nat → Int32) (v v2 s : Nat) (hd : Nat → Int32) : Prop := (∀ h, h < 10 → v2.testBit h = true → v.testBit h = false → ∃ w, w < nPo N ∧ hd h = nI w ∧ mEd N w h = true ∧ ∀ l, l < 10 → mEd N w l = true → v2.testBit l = true) ∧ ∀ l, l < 10 → mEd N s l = true → v2.testBit l = true
def PlP (N : Nat → Int32) (v s : Nat) (I : MI) (b : Bool) (J : MI) : Prop := MaF I J ∧ (if b then PlT N v s (I 486) (J 486) else (∀ h, h < 10 → J 486 h = I 486 h) ∧ ∃ v2, v2 < 1024 ∧ J 484 3 = nI v2 ^^^ (-1) ∧ (∀ h, h < 10 → v.testBit h = true → v2.testBit h = true) ∧ PlN N v v2 s (I 486))
/-- holders hold what they may -/
def HdV (N : Nat → Int32) (hd : Nat → Int32) : Prop := ∀ h, h < 10 → hd h = -1 ∨ ∃ w, w < nPo N ∧ hd h = nI w ∧ mEd N w h = true
def PlC (z n : Nat) (sh : Shp) (L : ML) (N : Nat → Int32) (k : Nat) : Prop := ∀ (v s dp : Nat) (x y : Int32) (I : MI), MaA N I → HdV N (I 486) → I 484 3 = nI v ^^^ (-1) → v < 1024 → k + pc10 v = 10 → dp + k ≤ 10 → s < nPo N → x = nI s → y = nI dp → CM yX4_place cX4_place 5 (Option.some .boolean) (k + 1) 0 0 [.ref 484, .int x, .int y] z n sh I L (Eb (PlP N v s I) z n sh L)
theorem hdN_cg {hd hd2 : Nat → Int32} (h : ∀ k, k < 10 → hd2 k = hd k) (r : Int32) : hdN hd2 r = hdN hd r := fa_cnt_cong (fun k hk => by rw [h k hk])
theorem one_sym {a b : Int32} : one (a = b) = one (b = a) := by
  unfold one
  by_cases h : a = b
  · rw [if_pos h, if_pos h.symm]
  · rw [if_neg h, if_neg (fun z => h z.symm)]
theorem pl_put {N : Nat → Int32} {v s i : Nat} {hd hd2 : Nat → Int32} (hi : i < 10) (hv : v.testBit i = false) (hs : s < nPo N) (he : mEd N s i = true) (h1 : hd i = -1) (er : ∀ h, h < 10 → hd2 h = if h = i then nI s else hd h) : PlT N v s hd hd2 := by
  refine ⟨fun r => ?_, fun h hh => ?_⟩
  · have h2 := hdN_up (hd := hd) hi (x := nI s) (r := r)
    rw [hdN_cg er, one_sym (a := r), one_sym (a := r), ← h1]
    exact h2
  · rw [er h hh]
    by_cases e : h = i
    · subst e
      rw [if_pos rfl]
      exact Or.inr ⟨hv, s, hs, rfl, he⟩
    · rw [if_neg e]
      exact Or.inl rfl
theorem pl_rec {N : Nat → Int32} {v u s i w : Nat} {hd hd0 hd1 hd2 : Nat → Int32} (hi : i < 10) (hvu : ∀ h, h < 10 → v.testBit h = true → u.testBit h = true) (b2 : ∀ h, h < 10 → (u + 2 ^ i).testBit h = (u.testBit h || decide (h = i))) (hub : u.testBit i = false) (hs : s < nPo N) (he : mEd N s i = true) (ew : hd i = nI w) (e0 : ∀ h, h < 10 → hd0 h = hd h) (hp : PlT N (u + 2 ^ i) w hd0 hd1) (er : ∀ h, h < 10 → hd2 h = if h = i then nI s else hd1 h) : PlT N v s hd hd2 := by
  have hn : ∀ h, h < 10 → (u + 2 ^ i).testBit h = false → v.testBit h = false := fun h hh z => by
    rw [b2 h hh, Bool.or_eq_false_iff] at z
    cases b : v.testBit h with
    | false => rfl
    | true => rw [hvu h hh b] at z; exact absurd z.1 (by decide)
  have h1 : hd1 i = nI w := by
    rcases hp.2 i hi with z | ⟨z, -⟩
    · rw [z, e0 i hi, ew]
    · rw [b2 i hi] at z
      simp at z
  refine ⟨fun r => ?_, fun h hh => ?_⟩
  · have h2 := hdN_up (hd := hd1) hi (x := nI s) (r := r)
    have h3 := hp.1 r
    rw [hdN_cg e0] at h3
    rw [h1] at h2
    rw [hdN_cg er, one_sym (a := r) (b := nI s)]
    rw [one_sym (a := r) (b := nI w)] at h3
    omega
  · rw [er h hh]
    by_cases e : h = i
    · subst e
      rw [if_pos rfl]
      refine Or.inr ⟨?_, s, hs, rfl, he⟩
      cases b : v.testBit h with
      | false => rfl
      | true => rw [hvu h hh b] at hub; cases hub
    · rw [if_neg e]
      rcases hp.2 h hh with z | ⟨z1, z2⟩
      · exact Or.inl (z.trans (e0 h hh))
      · exact Or.inr ⟨hn h hh z1, z2⟩
section ClsS
variable {z n : Nat} {sh : Shp} {I : MI} {L : ML} {N : Nat → Int32} {Q : Nat → Int64}
set_option maxHeartbeats 4000000 in
set_option maxRecDepth 100000 in
theorem plStep (hX : IsX n sh) (hN : Cn N) {k : Nat} (hk : ∀ k2, k2 < k → PlC z n sh L N k2) : PlC z n sh L N k := by
  intro v s dp x y I hA hV h3 hv hkv hdp hs hx hy
  subst hx hy
  have h8 := hN.p8
  have h10 := hN.h10
  refine CM.go [some (.ref 484), some (.int (nI s)), some (.int (nI dp)), none, none] rfl rfl (Nat.le_of_ble_eq_true rfl) (fun X g q => ?_)
  have loop : ∀ i, i ≤ 10 → ∀ a4 (u : Nat) (J : MI), u < 1024 → MaF I J → (∀ h, h < 10 → J 486 h = I 486 h) → J 484 3 = nI u ^^^ (-1) → (∀ h, h < 10 → v.testBit h = true → u.testBit h = true) → (∀ l, l < i → mEd N s l = true → u.testBit l = true) → (∀ h, h < 10 → u.testBit h = true → v.testBit h = false → ∃ w, w < nPo N ∧ I 486 h = nI w ∧ mEd N w h = true ∧ ∀ l, l < 10 → mEd N w l = true → u.testBit l = true) → AW X g RX4 cX4_place 5 (k + 1, 0, 0) (z, n, sh, 0, 0) (J) (L) 22 [some (.ref 484), some (.int (nI s)), some (.int (nI dp)), some (.int (nI i)), a4] [] := by
    refine up_loop (fun i hi ih a4 u J hu hF hH hU hvu hq1 hcl => ?_)
    have hA2 := hF.ma hA
    refine aw_iload_n dX4_place_22 rfl ?_
    refine aw_bipush (v := 10) dX4_place_23 rfl ?_
    refine aw_icmp_ge (tgt := 107) dX4_place_25 rfl (fun c25 => ?_) (fun c25 => ?_)
    · have e := ge_t (y := 10) (B := 10) rfl (by decide) hi c25
      refine aw_iconst (v := 0) dX4_place_107 rfl ?_
      refine aw_zret q rfl (by decide) dX4_place_108 ⟨Nat.le_refl _, Nat.le_refl _⟩ ?_
      refine ⟨false, rfl, rfl, rfl, rfl, rfl, hF, hH, u, hu, hU, hvu, hcl, fun l hl he => hq1 l (by omega) he⟩
    · have hlt := ge_f (y := 10) (B := 10) rfl (by decide) hi c25
      refine aw_iconst (v := 1) dX4_place_28 rfl ?_
      refine aw_iload_n dX4_place_29 rfl ?_
      refine aw_ishl dX4_place_30 ?_
      refine AW.top (shl_10 i hlt) ?_
      refine aw_istore dX4_place_31 (by decide) rfl ?_
      refine aw_aload_n dX4_place_33 rfl ?_
      refine aw_getR (b := 485) dX4_place_34 fX4_9 hX.mat.1 (hX.lt (by decide)) rfl hX.mat.2.1 ?_
      refine aw_iload_n dX4_place_37 rfl ?_
      refine aw_ialdN (k := s) dX4_place_38 hX.mat.2.2.2.1.1 (hX.lt (by decide)) hX.mat.2.2.2.1.2 rfl (by omega) (by decide) ?_
      refine AW.top (hA2.2 s hs) ?_
      refine aw_aload_n dX4_place_39 rfl ?_
      refine aw_getI dX4_place_40 fX4_39 hX.mat.1 (hX.lt (by decide)) rfl ?_
      refine AW.top hU ?_
      refine aw_iand dX4_place_43 ?_
      refine aw_iload dX4_place_44 rfl ?_
      refine aw_iand dX4_place_46 ?_
      refine aw_if_ne (tgt := 53) dX4_place_47 rfl (fun c47 => ?_) (fun c47 => ?_)
      · have hyes : mEd N s i = true ∧ u.testBit i = false := Classical.byContradiction (fun z => c47 ((can_bit hN (by omega)).mpr z))
        obtain ⟨hed, hub⟩ := hyes
        obtain ⟨b1, b2⟩ := bit_add10 u hu i hlt hub
        have hpa := pc10_add hu hlt hub
        have hpm := pc10_mono hvu
        have hpl := pc10_le (v := u + 2 ^ i)
        refine aw_aload_n dX4_place_53 rfl ?_
        refine aw_dup dX4_place_54 rfl ?_
        refine aw_getI dX4_place_55 fX4_39 hX.mat.1 (hX.lt (by decide)) rfl ?_
        refine AW.top hU ?_
        refine aw_iload dX4_place_58 rfl ?_
        refine aw_iconst (v := (-1)) dX4_place_60 rfl ?_
        refine aw_ixor dX4_place_61 ?_
        refine aw_iand dX4_place_62 ?_
        refine AW.top (seen_add u hu i hlt hub) ?_
        refine aw_putI dX4_place_63 fX4_39 hX.mat.1 (hX.lt (by decide)) rfl rfl ?_
        refine aw_aload_n dX4_place_66 rfl ?_
        refine aw_getR (b := 486) dX4_place_67 fX4_15 hX.mat.1 (hX.lt (by decide)) rfl hX.mat.2.2.1 ?_
        refine aw_iload_n dX4_place_70 rfl ?_
        refine aw_ialdN (k := i) dX4_place_71 hX.mat.2.2.2.2.1 (hX.lt (by decide)) hX.mat.2.2.2.2.2 rfl (by omega) (by decide) ?_
        refine AW.top (congrFun (if_neg (by decide)) i) ?_
        refine aw_iconst (v := (-1)) dX4_place_72 rfl ?_
        refine aw_icmp_eq (tgt := 92) dX4_place_73 rfl (fun c73 => ?_) (fun c73 => ?_)
        · skip
          refine aw_aload_n dX4_place_92 rfl ?_
          refine aw_getR (b := 486) dX4_place_93 fX4_15 hX.mat.1 (hX.lt (by decide)) rfl hX.mat.2.2.1 ?_
          refine aw_iload_n dX4_place_96 rfl ?_
          refine aw_iload_n dX4_place_97 rfl ?_
          refine aw_iastN (k := i) dX4_place_98 hX.mat.2.2.2.2.1 (hX.lt (by decide)) hX.mat.2.2.2.2.2 rfl (by omega) (by decide) ?_
          refine aw_iconst (v := 1) dX4_place_99 rfl ?_
          refine aw_zret q rfl (by decide) dX4_place_100 ⟨Nat.le_refl _, Nat.le_refl _⟩ ?_
          refine ⟨true, rfl, rfl, rfl, rfl, rfl, (hF.put (Or.inl ⟨rfl, rfl⟩)).put (Or.inr rfl), ?_⟩
          have c73 : I 486 i = -1 := (hH i (by omega)).symm.trans c73
          have er : ∀ h, h < 10 → upI (upI J 484 3 (nI (u + 2 ^ i) ^^^ (-1))) 486 i (nI s) 486 h = if h = i then nI s else I 486 h := fun h hh => by
            by_cases e : h = i
            · subst e; rw [upI_s, if_pos rfl]
            · rw [upI_n (Or.inr e), if_neg e, upI_n (Or.inl (by decide))]; exact hH h hh
          exact pl_put (by omega) (by
            cases b : v.testBit i with
            | false => rfl
            | true => rw [hvu i (by omega) b] at hub; cases hub) hs hed c73 er
        · obtain ⟨w, hw, ew, ee⟩ : ∃ w, w < nPo N ∧ I 486 i = nI w ∧ mEd N w i = true := by
            rcases hV i hlt with z | z
            · exact absurd ((hH i hlt).trans z) c73
            · exact z
          refine aw_aload_n dX4_place_76 rfl ?_
          refine aw_aload_n dX4_place_77 rfl ?_
          refine aw_getR (b := 486) dX4_place_78 fX4_15 hX.mat.1 (hX.lt (by decide)) rfl hX.mat.2.2.1 ?_
          refine aw_iload_n dX4_place_81 rfl ?_
          refine aw_ialdN (k := i) dX4_place_82 hX.mat.2.2.2.2.1 (hX.lt (by decide)) hX.mat.2.2.2.2.2 rfl (by omega) (by decide) ?_
          refine AW.top ((congrFun (if_neg (by decide)) i).trans ((hH i hlt).trans ew)) ?_
          refine aw_iload_n dX4_place_83 rfl ?_
          refine aw_iconst (v := 1) dX4_place_84 rfl ?_
          refine aw_iadd dX4_place_85 ?_
          refine AW.top (y := nI (dp + 1)) (nI_sum _ 1) ?_
          refine aw_bS dX4_place_86 kX4_42 mX4_place (hk (10 - pc10 (u + 2 ^ i)) (by omega) (u + 2 ^ i) w (dp + 1) _ _ _ (((hF.put (Or.inl ⟨rfl, rfl⟩)).ma hA)) (fun h hh => by rw [show upI J 484 3 (nI (u + 2 ^ i) ^^^ (-1)) 486 h = I 486 h from (congrFun (if_neg (by decide)) h).trans (hH h hh)]; exact hV h hh) upI_s b1 (by omega) (by omega) hw rfl rfl) (by show _ ≤ k + 1; omega) rfl rfl (Nat.le_of_ble_eq_true rfl) ⟨Nat.le_refl _, Nat.le_refl _⟩ (fun b J2 hP => ?_)
          
          refine aw_if_eq (tgt := 101) dX4_place_89 rfl (fun c89 => ?_) (fun c89 => ?_)
          · skip
            refine aw_iinc dX4_place_101 rfl (ginc rfl) (by decide) rfl ?_
            refine aw_goto (tgt := 22) dX4_place_104 rfl ?_
            obtain ⟨p1, p2⟩ := hP
            have hbf := bI0.mp c89
            subst hbf
            obtain ⟨p2, u2, u3, u4, u5, u6, u7⟩ := p2
            refine ih hlt _ u2 J2 u3 ((hF.put (Or.inl ⟨rfl, rfl⟩)).tr p1) (fun h hh => (p2 h hh).trans ((congrFun (if_neg (by decide)) h).trans (hH h hh))) u4 (fun h hh z => u5 h hh (by rw [b2 h hh, hvu h hh z]; rfl)) (fun l hl he => ?_) (fun h hh z1 z2 => ?_)
            · by_cases e : l = i
              · subst e
                exact u5 l (by omega) (by rw [b2 l (by omega)]; simp)
              · exact u5 l (by omega) (by rw [b2 l (by omega), hq1 l (by omega) he]; rfl)
            · by_cases e : h = i
              · subst e
                exact ⟨w, hw, ew, ee, u7⟩
              · cases b : u.testBit h with
                | true =>
                  obtain ⟨w9, a1, a2, a3, a4⟩ := hcl h hh b z2
                  exact ⟨w9, a1, a2, a3, fun l hl he => u5 l hl (by rw [b2 l hl, a4 l hl he]; rfl)⟩
                | false =>
                  obtain ⟨w9, a1, a2, a3, a4⟩ := u6 h hh z1 (by rw [b2 h hh, b]; simp [e])
                  have a2 : J 486 h = nI w9 := (congrFun (if_neg (by decide)) h).symm.trans a2
                  exact ⟨w9, a1, (hH h hh).symm.trans a2, a3, a4⟩
          · skip
            refine aw_aload_n dX4_place_92 rfl ?_
            refine aw_getR (b := 486) dX4_place_93 fX4_15 hX.mat.1 (hX.lt (by decide)) rfl hX.mat.2.2.1 ?_
            refine aw_iload_n dX4_place_96 rfl ?_
            refine aw_iload_n dX4_place_97 rfl ?_
            refine aw_iastN (k := i) dX4_place_98 hX.mat.2.2.2.2.1 (hX.lt (by decide)) hX.mat.2.2.2.2.2 rfl (by omega) (by decide) ?_
            refine aw_iconst (v := 1) dX4_place_99 rfl ?_
            refine aw_zret q rfl (by decide) dX4_place_100 ⟨Nat.le_refl _, Nat.le_refl _⟩ ?_
            obtain ⟨p1, p2⟩ := hP
            have hbt := bI1.mp c89
            subst hbt
            have p2 : PlT N (u + 2 ^ i) w (upI J 484 3 (nI (u + 2 ^ i) ^^^ (-1)) 486) (J2 486) := p2
            refine ⟨true, rfl, rfl, rfl, rfl, rfl, ((hF.put (Or.inl ⟨rfl, rfl⟩)).tr p1).put (Or.inr rfl), ?_⟩
            have er : ∀ h, h < 10 → upI J2 486 i (nI s) 486 h = if h = i then nI s else J2 486 h := fun h hh => by
              by_cases e : h = i
              · subst e; rw [upI_s, if_pos rfl]
              · rw [upI_n (Or.inr e), if_neg e]
            exact pl_rec (by omega) (fun h hh b => hvu h hh b) b2 hub hs hed ew (fun h hh => (congrFun (if_neg (by decide)) h).trans (hH h hh)) p2 er
      · skip
        refine aw_goto (tgt := 101) dX4_place_50 rfl ?_
        refine aw_iinc dX4_place_101 rfl (ginc rfl) (by decide) rfl ?_
        refine aw_goto (tgt := 22) dX4_place_104 rfl ?_
        have hno := (can_bit hN (by omega)).mp c47
        exact ih hlt _ u J hu hF hH hU hvu (fun l hl he => by
          by_cases e : l = i
          · subst e
            cases b : u.testBit l with
            | true => rfl
            | false => exact absurd ⟨he, b⟩ hno
          · exact hq1 l (by omega) he) hcl
  refine aw_iload_n dX4_place_0 rfl ?_
  refine aw_if_lt (tgt := 18) dX4_place_1 rfl (fun c1 => ?_) (fun c1 => ?_)
  · exact absurd c1 (nI_pos (by omega))
  · skip
    refine aw_iload_n dX4_place_4 rfl ?_
    refine aw_aload_n dX4_place_5 rfl ?_
    refine aw_getI dX4_place_6 fX4_24 hX.mat.1 (hX.lt (by decide)) rfl ?_
    refine AW.top hA.1 ?_
    refine aw_icmp_ge (tgt := 18) dX4_place_9 rfl (fun c9 => ?_) (fun c9 => ?_)
    · exact absurd ((nI_leI (by omega) (by omega)).mp c9) (by omega)
    · skip
      refine aw_iload_n dX4_place_12 rfl ?_
      refine aw_bipush (v := 10) dX4_place_13 rfl ?_
      refine aw_icmp_le (tgt := 20) dX4_place_15 rfl (fun c15 => ?_) (fun c15 => ?_)
      · skip
        refine aw_iconst (v := 0) dX4_place_20 rfl ?_
        refine aw_istore_n dX4_place_21 (by decide) rfl ?_
        exact loop 0 (Nat.zero_le _) none v I hv MaF.rf (fun _ _ => rfl) h3 (fun _ _ z => z) (fun l hl => absurd hl (Nat.not_lt_zero l)) (fun h hh z1 z2 => by rw [z1] at z2; cases z2)
      · exact absurd ((nI_leI (a := dp) (b := 10) (by omega) (by decide)).mpr (by omega)) c15
theorem sX4_place (hX : IsX n sh) (hN : Cn N) (k : Nat) : PlC z n sh L N k := by
  have key : ∀ k, ∀ k2, k2 < k → PlC z n sh L N k2 := by
    intro k
    induction k with
    | zero => exact fun k2 h => absurd h (Nat.not_lt_zero k2)
    | succ k ih =>
      intro k2 h
      by_cases e : k2 = k
      · subst e
        exact plStep hX hN ih
      · exact ih k2 (by omega)
  exact key (k + 1) k (Nat.lt_succ_self k)
end ClsS
