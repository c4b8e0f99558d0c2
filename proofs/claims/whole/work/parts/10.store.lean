/-! The store of the walk: positions instead of addresses. A position below 1000000 is a cell of the law's own making (address: base + position);
the others are what lies there from the start (static rows 1000000.., texts 1000100.., their bytes 1000200..). -/
def tblG : List Cond := lw_tbl.filter goodWord
theorem tG {i : Nat} {w : Cond} (h : tables_1[i]? = some w) (hg : goodWord w = true) : w ∈ tblG :=
  List.mem_filter.mpr ⟨List.mem_append_right _ (List.mem_of_getElem? h), hg⟩
theorem tS {i : Nat} {w : Cond} (h : (k2_sels lw_privs)[i]? = some w) (hg : goodWord w = true) : w ∈ tblG :=
  List.mem_filter.mpr ⟨List.mem_append_left _ (List.mem_of_getElem? h), hg⟩
theorem tblG_good {w : Cond} (h : w ∈ tblG) : (w.onTables && w.keeps) = true ∨ ∃ ty, w = .arrayClass ty := good_of_word (List.mem_filter.mp h).2
abbrev MI : Type := Nat → Nat → Int32
abbrev ML : Type := Nat → Nat → Int64
abbrev Shp : Type := Nat → Nat × Nat × (Nat → Option Nat)
/-- base, the addresses of what was there, the classes' numbers and slots, the array classes' numbers -/
abbrev Gd : Type := Nat × (Nat → Nat) × va_G × (Nat → ClassId)
/-- heap's size above the base, how many cells the store has, their shapes, cells and slots made so far -/
abbrev En : Type := Nat × Nat × Shp × Nat × Nat
def adr (g : Gd) (k : Nat) : Nat := if k < 1000000 then g.1 + k else g.2.1 k
def cvK (g : Gd) (v : Value) : Value := match v with
  | .ref k => .ref (adr g k)
  | .int x => .int x
  | .long x => .long x
  | .null => .null
  | .float x => .float x
  | .double x => .double x
  | .retAddr x => .retAddr x
theorem cvK_cat (g : Gd) (v : Value) : (cvK g v).category = v.category := by cases v <;> rfl
theorem cvK_cats (g : Gd) (st : List Value) : ((st.map (cvK g)).map fun v => v.category) = st.map fun v => v.category := by
  rw [List.map_map]
  exact List.map_congr_left fun v _ => cvK_cat g v
theorem adr_of {g : Gd} {k : Nat} (h : k < 1000000) : adr g k = g.1 + k := if_pos h
def tyK (ci : Nat) : Nat → FieldType := match ci with
  | 0 => tyX0
  | 1 => tyX1
  | 2 => tyX2
  | 3 => tyX3
  | 4 => tyX4
  | 5 => tyX5
  | 6 => tyX6
  | 7 => tyX7
  | 8 => tyX8
  | 9 => tyX9
  | 10 => tyX10
  | _ => tyX11
def nfK (ci : Nat) : Nat := match ci with
  | 0 => 7
  | 1 => 3
  | 2 => 11
  | 3 => 15
  | 4 => 4
  | 5 => 2
  | 6 => 12
  | 7 => 9
  | 8 => 3
  | 9 => 6
  | 10 => 9
  | _ => 33
def ftc (t : FieldType) : Nat := match t with
  | .long => 1
  | .object _ => 2
  | .array _ => 2
  | _ => 0
def fvK (g : Gd) (sh : Shp) (I : MI) (L : ML) (ci a k : Nat) : Value :=
  if ftc (tyK ci k) = 0 then .int (I a k) else if ftc (tyK ci k) = 1 then .long (L a k) else va_rf (((sh a).2.2 k).map (adr g))
def fsK (g : Gd) (sh : Shp) (I : MI) (L : ML) (ci a : Nat) : List Value := (List.range (nfK ci)).map (fvK g sh I L ci a)
def enK (g : Gd) (sh : Shp) (I : MI) (L : ML) (a : Nat) : va_E :=
  if (sh a).1 < 100 then .inr ((sh a).1, fsK g sh I L (sh a).1 a)
  else if (sh a).1 = 100 then .inl (g.2.2.2 100, (sh a).2.1, .inl (I a))
  else if (sh a).1 = 101 then .inl (g.2.2.2 101, (sh a).2.1, .inr (.inl (L a)))
  else if (sh a).1 = 102 then .inl (g.2.2.2 102, (sh a).2.1, .inl (I a))
  else .inl (g.2.2.2 (sh a).1, (sh a).2.1, .inr (.inr (.inr (.inr (fun i => ((sh a).2.2 i).map (adr g))))))
def wdK (g : Gd) (n : Nat) (sh : Shp) (I : MI) (L : ML) : va_W := (List.range n).map (fun a => (g.1 + a, enK g sh I L a))
def tysK (g : Gd) : List (ClassId × FieldType) := [(g.2.2.2 100, .int), (g.2.2.2 101, .long), (g.2.2.2 102, .byte), (g.2.2.2 103, .object "HomesQueue$State"), (g.2.2.2 104, .object "HomesQueue$Home"), (g.2.2.2 105, .object "HomesQueue$House")]
def upI (I : MI) (a k : Nat) (v : Int32) : MI := fun b => if b = a then upd (I a) k v else I b
def upL (L : ML) (a k : Nat) (v : Int64) : ML := fun b => if b = a then vp_updL (L a) k v else L b
/-- a whole row put in -/
def upA (I : MI) (a : Nat) (f : Nat → Int32) : MI := fun b => if b = a then f else I b
def upR (sh : Shp) (a k : Nat) (v : Option Nat) : Shp := fun b => if b = a then ((sh a).1, (sh a).2.1, va_up (sh a).2.2 k v) else sh b
def upS (sh : Shp) (a : Nat) (q : Nat × Nat × (Nat → Option Nat)) : Shp := fun b => if b = a then q else sh b
theorem wd_get {g : Gd} {n : Nat} {sh : Shp} {I : MI} {L : ML} {a : Nat} (h : a < n) : (wdK g n sh I L)[a]? = some (g.1 + a, enK g sh I L a) := by
  simp [wdK, h]
theorem wd_some {g : Gd} {n : Nat} {sh : Shp} {I : MI} {L : ML} {a : Nat} {q : Nat × va_E} (h : (wdK g n sh I L)[a]? = some q) : a < n ∧ q = (g.1 + a, enK g sh I L a) := by
  have h1 : a < n := by
    have := (List.getElem?_eq_some_iff.mp h).1
    simpa [wdK] using this
  rw [wd_get h1] at h
  exact ⟨h1, (Option.some.inj h).symm⟩
theorem wd_D {g : Gd} {n : Nat} {sh : Shp} {I : MI} {L : ML} : va_D (fun q => g.1 ≤ q) (wdK g n sh I L) := by
  refine ⟨fun i j p q hp hq he => ?_, fun k q hk => ?_⟩
  · obtain ⟨-, rfl⟩ := wd_some hp
    obtain ⟨-, rfl⟩ := wd_some hq
    have he : g.1 + i = g.1 + j := he
    omega
  · obtain ⟨-, rfl⟩ := wd_some hk
    exact Nat.le_add_right _ _
/-- a world that differs at one place -/
theorem wd_set {g : Gd} {n : Nat} {sh sh' : Shp} {I I' : MI} {L L' : ML} {a : Nat} {e : va_E} (h : a < n) (he : enK g sh' I' L' a = e) (ho : ∀ b, b ≠ a → enK g sh' I' L' b = enK g sh I L b) :
    (wdK g n sh I L).set a (g.1 + a, e) = wdK g n sh' I' L' := by
  refine List.ext_getElem? fun b => ?_
  by_cases hb : b = a
  · subst hb
    rw [wd_get h, he, List.getElem?_set_self (by simpa [wdK] using h)]
  · rw [List.getElem?_set_ne (fun q => hb q.symm)]
    by_cases hn : b < n
    · rw [wd_get hn, wd_get hn, ho b hb]
    · rw [List.getElem?_eq_none (by simpa [wdK] using hn), List.getElem?_eq_none (by simpa [wdK] using hn)]
theorem wd_push {g : Gd} {n : Nat} {sh sh' : Shp} {I I' : MI} {L L' : ML} {e : va_E} (he : enK g sh' I' L' n = e) (ho : ∀ b, b < n → enK g sh' I' L' b = enK g sh I L b) :
    wdK g n sh I L ++ [(g.1 + n, e)] = wdK g (n + 1) sh' I' L' := by
  unfold wdK
  rw [List.range_succ, List.map_append]
  congr 1
  · exact List.map_congr_left fun b hb => by rw [ho b (List.mem_range.mp hb)]
  · simp [he]
theorem en_congr {g : Gd} {sh sh' : Shp} {I I' : MI} {L L' : ML} {b : Nat} (hs : sh' b = sh b) (hI : I' b = I b) (hL : L' b = L b) : enK g sh' I' L' b = enK g sh I L b := by
  have hf : ∀ ci, fsK g sh' I' L' ci b = fsK g sh I L ci b := fun ci => List.map_congr_left fun k _ => by simp [fvK, hs, hI, hL]
  simp [enK, hs, hI, hL, hf]
theorem en_upI_ne {g : Gd} {sh : Shp} {I : MI} {L : ML} {a k : Nat} {v : Int32} {b : Nat} (h : b ≠ a) : enK g sh (upI I a k v) L b = enK g sh I L b := en_congr rfl (if_neg h) rfl
theorem en_upA_ne {g : Gd} {sh : Shp} {I : MI} {L : ML} {a : Nat} {f : Nat → Int32} {b : Nat} (h : b ≠ a) : enK g sh (upA I a f) L b = enK g sh I L b := en_congr rfl (if_neg h) rfl
theorem en_upL_ne {g : Gd} {sh : Shp} {I : MI} {L : ML} {a k : Nat} {v : Int64} {b : Nat} (h : b ≠ a) : enK g sh I (upL L a k v) b = enK g sh I L b := en_congr rfl rfl (if_neg h)
theorem en_upR_ne {g : Gd} {sh : Shp} {I : MI} {L : ML} {a k : Nat} {v : Option Nat} {b : Nat} (h : b ≠ a) : enK g (upR sh a k v) I L b = enK g sh I L b := en_congr (if_neg h) rfl rfl
theorem en_obj {g : Gd} {sh : Shp} {I : MI} {L : ML} {a ci : Nat} (h : (sh a).1 = ci) (hc : ci < 100) : enK g sh I L a = .inr (ci, fsK g sh I L ci a) := by
  subst h
  exact if_pos hc
theorem en_int {g : Gd} {sh : Shp} {I : MI} {L : ML} {a : Nat} (h : (sh a).1 = 100) : enK g sh I L a = .inl (g.2.2.2 100, (sh a).2.1, .inl (I a)) := by
  simp [enK, h]
theorem en_long {g : Gd} {sh : Shp} {I : MI} {L : ML} {a : Nat} (h : (sh a).1 = 101) : enK g sh I L a = .inl (g.2.2.2 101, (sh a).2.1, .inr (.inl (L a))) := by
  simp [enK, h]
theorem en_byte {g : Gd} {sh : Shp} {I : MI} {L : ML} {a : Nat} (h : (sh a).1 = 102) : enK g sh I L a = .inl (g.2.2.2 102, (sh a).2.1, .inl (I a)) := by
  simp [enK, h]
theorem en_refs {g : Gd} {sh : Shp} {I : MI} {L : ML} {a c : Nat} (h : (sh a).1 = c) (hc : 103 ≤ c) : enK g sh I L a = .inl (g.2.2.2 c, (sh a).2.1, .inr (.inr (.inr (.inr (fun i => ((sh a).2.2 i).map (adr g)))))) := by
  subst h
  unfold enK
  rw [if_neg (by omega), if_neg (by omega), if_neg (by omega), if_neg (by omega)]
theorem fs_get {g : Gd} {sh : Shp} {I : MI} {L : ML} {ci a k : Nat} (hk : k < nfK ci) : (fsK g sh I L ci a)[k]? = some (fvK g sh I L ci a k) := by
  simp [fsK, hk]
theorem fs_len {g : Gd} {sh : Shp} {I : MI} {L : ML} {ci a : Nat} : (fsK g sh I L ci a).length = nfK ci := by
  simp [fsK]
theorem fs_upI {g : Gd} {sh : Shp} {I : MI} {L : ML} {ci a k : Nat} {v : Int32} (ht : ftc (tyK ci k) = 0) : fsK g sh (upI I a k v) L ci a = (fsK g sh I L ci a).set k (.int v) := by
  refine List.ext_getElem? fun b => ?_
  by_cases hn : b < nfK ci
  · rw [fs_get hn]
    by_cases hb : b = k
    · subst hb
      rw [List.getElem?_set_self (by rw [fs_len]; exact hn)]
      simp [fvK, ht, upI, upd]
    · rw [List.getElem?_set_ne (fun q => hb q.symm), fs_get hn]
      simp [fvK, upI, upd, hb]
  · rw [List.getElem?_eq_none (by rw [fs_len]; omega), List.getElem?_eq_none (by rw [List.length_set, fs_len]; omega)]
theorem fs_upL {g : Gd} {sh : Shp} {I : MI} {L : ML} {ci a k : Nat} {v : Int64} (ht : ftc (tyK ci k) = 1) : fsK g sh I (upL L a k v) ci a = (fsK g sh I L ci a).set k (.long v) := by
  refine List.ext_getElem? fun b => ?_
  by_cases hn : b < nfK ci
  · rw [fs_get hn]
    by_cases hb : b = k
    · subst hb
      rw [List.getElem?_set_self (by rw [fs_len]; exact hn)]
      simp [fvK, ht, upL, vp_updL]
    · rw [List.getElem?_set_ne (fun q => hb q.symm), fs_get hn]
      simp [fvK, upL, vp_updL, hb]
  · rw [List.getElem?_eq_none (by rw [fs_len]; omega), List.getElem?_eq_none (by rw [List.length_set, fs_len]; omega)]
theorem fs_upR {g : Gd} {sh : Shp} {I : MI} {L : ML} {ci a k : Nat} {v : Option Nat} (ht : ftc (tyK ci k) = 2) : fsK g (upR sh a k v) I L ci a = (fsK g sh I L ci a).set k (va_rf (v.map (adr g))) := by
  refine List.ext_getElem? fun b => ?_
  by_cases hn : b < nfK ci
  · rw [fs_get hn]
    by_cases hb : b = k
    · subst hb
      rw [List.getElem?_set_self (by rw [fs_len]; exact hn)]
      simp [fvK, ht, upR, va_up]
    · rw [List.getElem?_set_ne (fun q => hb q.symm), fs_get hn]
      simp [fvK, upR, va_up, hb]
  · rw [List.getElem?_eq_none (by rw [fs_len]; omega), List.getElem?_eq_none (by rw [List.length_set, fs_len]; omega)]
/-! locals -/
def lvl (g : Gd) (Lc : List (Option Value)) : List (Nat × Value) := (List.range Lc.length).filterMap (fun i => (Lc.getD i none).map (fun v => (i, cvK g v)))
theorem mem_lvl {g : Gd} {Lc : List (Option Value)} {i : Nat} {w : Value} : (i, w) ∈ lvl g Lc ↔ ∃ v, Lc[i]? = some (some v) ∧ w = cvK g v := by
  unfold lvl
  rw [List.mem_filterMap]
  constructor
  · rintro ⟨j, hj, h⟩
    have hj := List.mem_range.mp hj
    rw [List.getD_eq_getElem?_getD, List.getElem?_eq_getElem hj] at h
    cases hv : Lc[j] with
    | none => simp [hv] at h
    | some v =>
      simp [hv] at h
      obtain ⟨rfl, rfl⟩ := h
      exact ⟨v, by rw [List.getElem?_eq_getElem hj, hv], rfl⟩
  · rintro ⟨v, hv, rfl⟩
    have hj := (List.getElem?_eq_some_iff.mp hv).1
    exact ⟨i, List.mem_range.mpr hj, by simp [List.getD_eq_getElem?_getD, hv]⟩
def lrK (g : Gd) (nL : Nat) (Lc : List (Option Value)) (ls : Array Slot) : Prop := Lc.length = nL ∧ lv_has ls nL (lvl g Lc)
theorem lr_get {g : Gd} {nL : Nat} {Lc : List (Option Value)} {ls : Array Slot} (h : lrK g nL Lc ls) {i : Nat} {v : Value} (hv : Lc[i]? = some (some v)) : ls[i]? = some (.val (cvK g v)) :=
  h.2.2.2 (i, cvK g v) (mem_lvl.mpr ⟨v, hv, rfl⟩)
def isL (v : Option Value) : Bool := match v with
  | some (.long _) => true
  | some (.double _) => true
  | _ => false
/-- no long lies right below the place -/
def okc (Lc : List (Option Value)) (i : Nat) : Bool := match i with
  | 0 => true
  | j + 1 => !isL (Lc.getD j none)
theorem lr_set {g : Gd} {nL : Nat} {Lc : List (Option Value)} {ls ls' : Array Slot} {i : Nat} {v : Value} (h : lrK g nL Lc ls) (hc : okc Lc i = true)
    (h' : lv_has ls' nL ((i, cvK g v) :: (lvl g Lc).filter (fun q => !(q.1 == i) && !(q.1 + 1 == i && q.2.category == 2)))) : lrK g nL (Lc.set i (some v)) ls' := by
  refine ⟨by rw [List.length_set]; exact h.1, h'.1, h'.2.1, ?_⟩
  rintro ⟨j, w⟩ hq
  obtain ⟨v', hv', rfl⟩ := mem_lvl.mp hq
  refine h'.2.2 (j, cvK g v') ?_
  by_cases hj : j = i
  · subst hj
    have hlt : j < Lc.length := by
      have := (List.getElem?_eq_some_iff.mp hv').1
      rwa [List.length_set] at this
    rw [List.getElem?_set_self hlt] at hv'
    cases hv'
    exact List.mem_cons_self
  · rw [List.getElem?_set_ne (fun q => hj q.symm)] at hv'
    refine List.mem_cons_of_mem _ (List.mem_filter.mpr ⟨mem_lvl.mpr ⟨v', hv', rfl⟩, ?_⟩)
    by_cases hi : j + 1 = i
    · subst hi
      have hc : (!isL (Lc.getD j none)) = true := hc
      rw [List.getD_eq_getElem?_getD, hv'] at hc
      have : (cvK g v').category = 1 := by
        rw [cvK_cat]
        cases v' <;> first | rfl | simp [isL] at hc
      simp [this]
    · simp [hj, hi]
theorem lr_setL {g : Gd} {nL : Nat} {Lc : List (Option Value)} {ls ls' : Array Slot} {i : Nat} {v : Value} (h : lrK g nL Lc ls) (hc : okc Lc i = true)
    (h' : lv_has ls' nL ((i, cvK g v) :: (lvl g Lc).filter (fun q => !(q.1 == i) && (!(q.1 == i + 1) && !(q.1 + 1 == i && q.2.category == 2))))) : lrK g nL ((Lc.set i (some v)).set (i + 1) none) ls' := by
  refine ⟨by rw [List.length_set, List.length_set]; exact h.1, h'.1, h'.2.1, ?_⟩
  rintro ⟨j, w⟩ hq
  obtain ⟨v', hv', rfl⟩ := mem_lvl.mp hq
  refine h'.2.2 (j, cvK g v') ?_
  have hj1 : j ≠ i + 1 := by
    rintro rfl
    by_cases hlt : i + 1 < Lc.length
    · rw [List.getElem?_set_self (by rw [List.length_set]; exact hlt)] at hv'
      cases hv'
    · rw [List.getElem?_eq_none (by rw [List.length_set, List.length_set]; omega)] at hv'
      cases hv'
  rw [List.getElem?_set_ne (fun q => hj1 q.symm)] at hv'
  by_cases hj : j = i
  · subst hj
    have hlt : j < Lc.length := by
      have := (List.getElem?_eq_some_iff.mp hv').1
      rwa [List.length_set] at this
    rw [List.getElem?_set_self hlt] at hv'
    cases hv'
    exact List.mem_cons_self
  · rw [List.getElem?_set_ne (fun q => hj q.symm)] at hv'
    refine List.mem_cons_of_mem _ (List.mem_filter.mpr ⟨mem_lvl.mpr ⟨v', hv', rfl⟩, ?_⟩)
    by_cases hi : j + 1 = i
    · subst hi
      have hc : (!isL (Lc.getD j none)) = true := hc
      rw [List.getD_eq_getElem?_getD, hv'] at hc
      have : (cvK g v').category = 1 := by
        rw [cvK_cat]
        cases v' <;> first | rfl | simp [isL] at hc
      have q1 : ¬ j = j + 1 + 1 := hj1
      have q2 : ¬ j = j + 1 := hj
      simp [this, q1, q2]
    · simp [hj, hi, hj1]
/-! the entry's locals -/
def entL : List Value → List (Option Value)
  | [] => []
  | v :: vs => if v.category = 2 then some v :: none :: entL vs else some v :: entL vs
theorem entL_cons (v : Value) (vs : List Value) : entL (v :: vs) = if v.category = 2 then some v :: none :: entL vs else some v :: entL vs := rfl
def ent (nL : Nat) (vs : List Value) : List (Option Value) := entL vs ++ List.replicate (nL - (entL vs).length) none
theorem entL_len (g : Gd) (vs : List Value) : (lg_sl (vs.map (cvK g))).length = (entL vs).length := by
  induction vs with
  | nil => rfl
  | cons v vs ih =>
    have e : lg_sl ((v :: vs).map (cvK g)) = (if (cvK g v).category = 2 then [Slot.val (cvK g v), .second] else [.val (cvK g v)]) ++ lg_sl (vs.map (cvK g)) := by
      simp [lg_sl]
    rw [e, List.length_append, ih, cvK_cat, entL_cons]
    by_cases hc : v.category = 2
    · simp only [hc, if_true, List.length_cons, List.length_nil]; omega
    · simp only [hc, if_false, List.length_cons, List.length_nil]; omega
theorem entL_args (g : Gd) (vs : List Value) : ∀ (o i : Nat) (v : Value), (entL vs)[i]? = some (some v) → (o + i, cvK g v) ∈ lv_args o (vs.map (cvK g)) := by
  induction vs with
  | nil => intro o i v h; simp [entL] at h
  | cons w vs ih =>
    intro o i v h
    have e : lv_args o ((w :: vs).map (cvK g)) = (o, cvK g w) :: lv_args (if (cvK g w).category = 2 then o + 2 else o + 1) (vs.map (cvK g)) := rfl
    rw [e, cvK_cat]
    rw [entL_cons] at h
    by_cases hc : w.category = 2
    · rw [if_pos hc] at h
      rw [if_pos hc]
      match i, h with
      | 0, h => simp at h; subst h; exact List.mem_cons_self
      | 1, h => simp at h
      | i + 2, h =>
        simp at h
        have := ih (o + 2) i v h
        rw [show o + (i + 2) = o + 2 + i by omega]
        exact List.mem_cons_of_mem _ this
    · rw [if_neg hc] at h
      rw [if_neg hc]
      match i, h with
      | 0, h => simp at h; subst h; exact List.mem_cons_self
      | i + 1, h =>
        simp at h
        have := ih (o + 1) i v h
        rw [show o + (i + 1) = o + 1 + i by omega]
        exact List.mem_cons_of_mem _ this
theorem lr_entry (g : Gd) (vs : List Value) {nL : Nat} (h : (entL vs).length ≤ nL) : lrK g nL (ent nL vs) ((lg_sl (vs.map (cvK g)) ++ List.replicate (nL - (lg_sl (vs.map (cvK g))).length) Slot.unset).toArray) := by
  have h0 := lv_entry (vs.map (cvK g)) (n := nL) (by rw [entL_len]; exact h)
  refine ⟨by simp [ent]; omega, h0.1, h0.2.1, ?_⟩
  rintro ⟨j, w⟩ hq
  obtain ⟨v, hv, rfl⟩ := mem_lvl.mp hq
  have h1 : (entL vs)[j]? = some (some v) := by
    unfold ent at hv
    by_cases hj : j < (entL vs).length
    · rwa [List.getElem?_append_left hj] at hv
    · rw [List.getElem?_append_right (by omega), List.getElem?_replicate] at hv
      split at hv <;> cases hv
  have := entL_args g vs 0 j v h1
  rw [Nat.zero_add] at this
  exact h0.2.2 _ this
