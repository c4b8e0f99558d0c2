/-! reading a text: lines -/
def tWd (k : Tk) (i : Nat) : Bool := decide (k.2.2.1 = 2) && decide (k.2.2.2.1 = wdK9 i)
def tNm (k : Tk) : Bool := decide (k.2.2.1 = 2) && decide (fa_first (tWd k) 10 = 10)
def TkO (s : Nat) (k : Tk) : Prop := k.1 ≤ k.2.1 ∧ k.2.1 ≤ s ∧ k.2.2.1 ≤ 4
theorem TkO.tok {T : Nat → Int32} {s t : Nat} (h : t ≤ s) : TkO s (tok T s t) := ⟨(tok_le h).2.1, (tok_le h).2.2.1, (tok_le h).2.2.2.2⟩
/-- what is read: the token that stands, the row, the names -/
abbrev PSt : Type := Tk × (Nat → Int32) × (Nat → Int64)
abbrev PRs : Type := (Nat × Nat) ⊕ PSt
def pBad (k : Tk) (c : Nat) : PRs := .inl (if k.2.2.1 = 1 then 1 else c, k.1)
def nx (T : Nat → Int32) (s : Nat) (k : Tk) : Tk := tok T s k.2.1
def pB (r : PRs) (f : PSt → PRs) : PRs := match r with
  | .inl e => .inl e
  | .inr p => f p
theorem pB_l {r : PRs} {f : PSt → PRs} {e : Nat × Nat} (h : r = .inl e) : pB r f = .inl e := by rw [h]; rfl
theorem pB_r {r : PRs} {f : PSt → PRs} {p : PSt} (h : r = .inr p) : pB r f = f p := by rw [h]; rfl
def pEnd (T : Nat → Int32) (s : Nat) (p : PSt) : PRs := if p.1.2.2.1 = 4 then .inr (nx T s p.1, p.2.1, p.2.2) else pBad p.1 2
def pNum (T : Nat → Int32) (s : Nat) (into : Nat) (low most : Int32) (p : PSt) : PRs :=
  if p.1.2.2.1 = 3 then (if low ≤ p.1.2.2.2.2 ∧ p.1.2.2.2.2 ≤ most then .inr (nx T s p.1, upd p.2.1 into p.1.2.2.2.2, p.2.2) else pBad p.1 3) else pBad p.1 2
/-- the home of that name; its count where there is none -/
def pHere (Q : Nat → Int64) (w : Int64) (a : Nat) : Nat := fa_first (fun h => decide (Q h = w)) a
def pTaken (Q : Nat → Int64) (w : Int64) (a b : Nat) : Bool := decide (fa_first (fun q => decide (Q (10 + q) = w)) b < b) || decide (pHere Q w a < a)
def cH (R : Nat → Int32) : Nat := (R 230).toNatClampNeg
def cP (R : Nat → Int32) : Nat := (R 231).toNatClampNeg
def pName (T : Nat → Int32) (s : Nat) (into : Nat) (p : PSt) : PRs :=
  if tNm p.1 then (if pTaken p.2.2 p.1.2.2.2.1 (cH p.2.1) (cP p.2.1) then pBad p.1 4 else .inr (nx T s p.1, p.2.1, vp_updL p.2.2 into p.1.2.2.2.1)) else pBad p.1 2
def pHome (T : Nat → Int32) (s : Nat) (p : PSt) : PRs :=
  if cH p.2.1 = 10 then pBad p.1 5 else
  pB (pName T s (cH p.2.1) (nx T s p.1, p.2.1, p.2.2)) fun p2 => pB (pNum T s (8 * cH p.2.1) 1 4 p2) fun p3 => pB (pNum T s (8 * cH p.2.1 + 1) 0 7 p3) fun p4 =>
  pEnd T s (p4.1, upd (upd p4.2.1 (8 * cH p.2.1 + 2) (-1)) 230 (nI (cH p.2.1 + 1)), p4.2.2)
def pIn (T : Nat → Int32) (s : Nat) (h0 : Nat) (p : PSt) : PRs :=
  if tNm (nx T s p.1) then
    (if pHere p.2.2 (nx T s p.1).2.2.2.1 (cH p.2.1) < cH p.2.1 ∧ p.2.1 (8 * pHere p.2.2 (nx T s p.1).2.2.2.1 (cH p.2.1) + 2) = -1 then
      .inr (nx T s (nx T s p.1), upd (upd p.2.1 (80 + 18 * h0 + 4) (nI (pHere p.2.2 (nx T s p.1).2.2.2.1 (cH p.2.1)))) (8 * pHere p.2.2 (nx T s p.1).2.2.2.1 (cH p.2.1) + 2) (nI h0), p.2.2)
     else pBad (nx T s p.1) 4)
  else pBad (nx T s p.1) 2
/-- how many wishes a house has in a row -/
def cW (R : Nat → Int32) (h0 : Nat) : Nat := (R (80 + 18 * h0 + 11)).toNatClampNeg
def pWish (T : Nat → Int32) (s : Nat) (h0 : Nat) (p : PSt) : PRs :=
  if pHere p.2.2 p.1.2.2.2.1 (cH p.2.1) < cH p.2.1 then
    (if fa_first (fun k => decide (p.2.1 (80 + 18 * h0 + (12 + k)) = nI (pHere p.2.2 p.1.2.2.2.1 (cH p.2.1)))) (cW p.2.1 h0) < cW p.2.1 h0 then pBad p.1 4
     else if cW p.2.1 h0 = 6 then pBad p.1 5
     else .inr (nx T s p.1, upd (upd p.2.1 (80 + 18 * h0 + (12 + cW p.2.1 h0)) (nI (pHere p.2.2 p.1.2.2.2.1 (cH p.2.1)))) (80 + 18 * h0 + 11) (nI (cW p.2.1 h0 + 1)), p.2.2))
  else pBad p.1 4
def pWishes (T : Nat → Int32) (s : Nat) (h0 : Nat) : Nat → PSt → PRs
  | 0, p => .inr p
  | d + 1, p => if tNm p.1 then pB (pWish T s h0 p) (pWishes T s h0 d) else .inr p
def pWhere (T : Nat → Int32) (s : Nat) (h0 : Nat) (p : PSt) : PRs := if tWd p.1 9 then pIn T s h0 p else .inr p
def pHouse (T : Nat → Int32) (s : Nat) (p : PSt) : PRs :=
  if cP p.2.1 = 8 then pBad p.1 5 else
  pB (pName T s (10 + cP p.2.1) (nx T s p.1, p.2.1, p.2.2)) fun p2 => pB (pNum T s (80 + 18 * cP p.2.1) 1 4 p2) fun p3 => pB (pNum T s (80 + 18 * cP p.2.1 + 1) 1 4 p3) fun p4 =>
  pB (pNum T s (80 + 18 * cP p.2.1 + 2) 0 7 p4) fun p5 => pB (pNum T s (80 + 18 * cP p.2.1 + 3) 0 999 p5) fun p6 =>
  pB (pWhere T s (cP p.2.1) (p6.1, upd p6.2.1 (80 + 18 * cP p.2.1 + 4) (-1), p6.2.2)) fun p7 => pB (pWishes T s (cP p.2.1) 7 p7) fun p8 =>
  pEnd T s (p8.1, upd p8.2.1 231 (nI (cP p.2.1 + 1)), p8.2.2)
def pRule (T : Nat → Int32) (s : Nat) (p : PSt) : PRs :=
  if fa_first (tWd (nx T s p.1)) 6 = 6 then pBad (nx T s p.1) 2 else
  pB (pNum T s (224 + fa_first (tWd (nx T s p.1)) 6) (rLeast (fa_first (tWd (nx T s p.1)) 6)) (rMost (fa_first (tWd (nx T s p.1)) 6)) (nx T s (nx T s p.1), p.2.1, p.2.2)) (pEnd T s)
def pLine (T : Nat → Int32) (s : Nat) (p : PSt) : PRs :=
  if tWd p.1 6 then pHome T s p else if tWd p.1 7 then pHouse T s p else if tWd p.1 8 then pRule T s p else pBad p.1 2
def pText (T : Nat → Int32) (s : Nat) : Nat → PSt → PRs
  | 0, p => .inr p
  | d + 1, p => if p.1.2.2.1 = 0 then .inr p else pB (pLine T s p) (pText T s d)
/-! how the reference holds it -/
def RdF (m : Nat) (I J : MI) (L M : ML) : Prop := (∀ a, a ≠ m → a ≠ m + 2 → J a = I a) ∧ (∀ k, (k < 14 ∨ 19 < k) → J m k = I m k) ∧ ∀ a, a ≠ m → a ≠ m + 7 → M a = L a
def Ps (I : MI) (L : ML) (m : Nat) (T : Nat → Int32) (s : Nat) (p : PSt) : Prop := At I L m T s p.1 ∧ TkO s p.1 ∧ I (m + 2) = p.2.1 ∧ L (m + 7) = p.2.2
theorem RdF.rf {m : Nat} {I : MI} {L : ML} : RdF m I I L L := ⟨fun _ _ _ => rfl, fun _ _ => rfl, fun _ _ _ => rfl⟩
theorem RdF.tr {m : Nat} {I J K : MI} {L M O : ML} (h : RdF m I J L M) (h2 : RdF m J K M O) : RdF m I K L O :=
  ⟨fun a a1 a2 => (h2.1 a a1 a2).trans (h.1 a a1 a2), fun k k1 => (h2.2.1 k k1).trans (h.2.1 k k1), fun a a1 a2 => (h2.2.2 a a1 a2).trans (h.2.2 a a1 a2)⟩
theorem RdF.go {m : Nat} {I J : MI} {L M : ML} (h : GoF m I J L M) : RdF m I J L M :=
  ⟨fun a a1 _ => h.1 a a1, fun k _ => h.2.1 k (by omega) (by omega) (by omega) (by omega), fun a a1 _ => h.2.2 a a1⟩
theorem RdF.row {m : Nat} {I : MI} {L : ML} {R : Nat → Int32} : RdF m I (upA I (m + 2) R) L L := ⟨fun _ _ a2 => if_neg a2, fun _ _ => congrFun (if_neg (by omega)) _, fun _ _ _ => rfl⟩
theorem RdF.rowI {m k : Nat} {v : Int32} {I : MI} {L : ML} : RdF m I (upI I (m + 2) k v) L L := ⟨fun _ _ a2 => if_neg a2, fun _ _ => congrFun (if_neg (by omega)) _, fun _ _ _ => rfl⟩
theorem RdF.nam {m k : Nat} {v : Int64} {I : MI} {L : ML} : RdF m I I L (upL L (m + 7) k v) := ⟨fun _ _ _ => rfl, fun _ _ => rfl, fun _ _ a2 => if_neg a2⟩
theorem RdF.put {m k : Nat} {v : Int32} {I : MI} {L : ML} (hk : 14 ≤ k ∧ k ≤ 19) : RdF m I (upI I m k v) L L := ⟨fun _ a1 _ => if_neg a1, fun j hj => fI_n (by omega) rfl, fun _ _ _ => rfl⟩
theorem Ps.go {m s : Nat} {I J : MI} {L M : ML} {T : Nat → Int32} {p : PSt} (h : Ps I L m T s p) (hF : GoF m I J L M) (hA : At J M m T s (nx T s p.1)) : Ps J M m T s (nx T s p.1, p.2.1, p.2.2) :=
  ⟨hA, TkO.tok h.2.1.2.1, (hF.1 _ (by omega)).trans h.2.2.1, (hF.2.2 _ (by omega)).trans h.2.2.2⟩
theorem Ps.row {m s : Nat} {I : MI} {L : ML} {T R : Nat → Int32} {p : PSt} (h : Ps I L m T s p) {k : Nat} {v : Int32} (hR : R = upd p.2.1 k v) : Ps (upI I (m + 2) k v) L m T s (p.1, R, p.2.2) := by
  obtain ⟨⟨a1, a2, a3, a4, a5, a6, a7⟩, ho, hr, hq⟩ := h
  have f : ∀ j, upI I (m + 2) k v m j = I m j := fun j => congrFun (if_neg (by omega)) j
  refine ⟨⟨(if_neg (by omega)).trans a1, (f _).trans a2, (f _).trans a3, (f _).trans a4, (f _).trans a5, a6, fun q => (f _).trans (a7 q)⟩, ho, ?_, hq⟩
  show upI I (m + 2) k v (m + 2) = R
  rw [upI_row rfl, hr, hR]
theorem Ps.nam {m s : Nat} {I : MI} {L : ML} {T : Nat → Int32} {p : PSt} (h : Ps I L m T s p) {k : Nat} {v : Int64} : Ps I (upL L (m + 7) k v) m T s (p.1, p.2.1, vp_updL p.2.2 k v) := by
  obtain ⟨⟨a1, a2, a3, a4, a5, a6, a7⟩, ho, hr, hq⟩ := h
  refine ⟨⟨a1, a2, a3, a4, a5, fun q => (congrFun (if_neg (by omega)) _).trans (a6 q), a7⟩, ho, hr, ?_⟩
  show (if m + 7 = m + 7 then vp_updL (L (m + 7)) k v else _) = _
  rw [if_pos rfl, hq]
def PrD (m : Nat) (I J : MI) (M : ML) (T : Nat → Int32) (s : Nat) (r : PRs) (b : Int32) : Prop :=
  (b = 0 ∧ ∃ e, r = .inl e ∧ J m 18 = nI e.1 ∧ J m 19 = nI e.2) ∨ (b = 1 ∧ ∃ p, r = .inr p ∧ J m 18 = I m 18 ∧ J m 19 = I m 19 ∧ Ps J M m T s p)
def PrP (z n : Nat) (sh : Shp) (I : MI) (L : ML) (m : Nat) (T : Nat → Int32) (s : Nat) (r : PRs) : PoT := fun v z' n' sh' J M => ∃ b, v = some (.int b) ∧ z' = z ∧ n' = n ∧ sh' = sh ∧ RdF m I J L M ∧ PrD m I J M T s r b
theorem PrD.l {m s : Nat} {I J : MI} {M : ML} {T : Nat → Int32} {r : PRs} {b : Int32} (h : PrD m I J M T s r b) (hb : b = 0) : ∃ e, r = .inl e ∧ J m 18 = nI e.1 ∧ J m 19 = nI e.2 := by
  rcases h with h | h
  · exact h.2
  · exact absurd (hb.symm.trans h.1) (by decide)
theorem PrD.r {m s : Nat} {I J : MI} {M : ML} {T : Nat → Int32} {r : PRs} {b : Int32} (h : PrD m I J M T s r b) (hb : ¬ b = 0) : ∃ p, r = .inr p ∧ J m 18 = I m 18 ∧ J m 19 = I m 19 ∧ Ps J M m T s p := by
  rcases h with h | h
  · exact absurd h.1 hb
  · exact h.2
theorem PrD.b {m s : Nat} {I J : MI} {M : ML} {T : Nat → Int32} {r : PRs} {b : Int32} (h : PrD m I J M T s r b) : b = 0 ∨ b = 1 := by
  rcases h with h | h
  · exact Or.inl h.1
  · exact Or.inr h.1
/-- the same end, told from an earlier store -/
theorem PrD.back {m s : Nat} {I0 I J : MI} {M : ML} {T : Nat → Int32} {r r0 : PRs} {b : Int32} (h : PrD m I J M T s r b) (h18 : I m 18 = I0 m 18) (h19 : I m 19 = I0 m 19) (hr : r0 = r) : PrD m I0 J M T s r0 b := by
  subst hr
  rcases h with h | ⟨h, p, h1, h2, h3, h4⟩
  · exact Or.inl h
  · exact Or.inr ⟨h, p, h1, h2.trans h18, h3.trans h19, h4⟩
theorem PrP.fail {z n : Nat} {sh : Shp} {I0 J : MI} {L0 M : ML} {m s : Nat} {T : Nat → Int32} {r0 : PRs} {e : Nat × Nat} (hF : RdF m I0 J L0 M) (hr : r0 = .inl e) (h18 : J m 18 = nI e.1) (h19 : J m 19 = nI e.2) : PrP z n sh I0 L0 m T s r0 (some (.int 0)) z n sh J M :=
  ⟨0, rfl, rfl, rfl, rfl, hF, Or.inl ⟨rfl, e, hr, h18, h19⟩⟩
theorem PrP.good {z n : Nat} {sh : Shp} {I0 J : MI} {L0 M : ML} {m s : Nat} {T : Nat → Int32} {r0 : PRs} {p : PSt} (hF : RdF m I0 J L0 M) (hr : r0 = .inr p) (h18 : J m 18 = I0 m 18) (h19 : J m 19 = I0 m 19) (hp : Ps J M m T s p) : PrP z n sh I0 L0 m T s r0 (some (.int 1)) z n sh J M :=
  ⟨1, rfl, rfl, rfl, rfl, hF, Or.inr ⟨rfl, p, hr, h18, h19, hp⟩⟩
theorem PrP.with_ {z n : Nat} {sh : Shp} {I0 I J : MI} {L0 L M : ML} {m s : Nat} {T : Nat → Int32} {r r0 : PRs} {b : Int32} (hF0 : RdF m I0 I L0 L) (h18 : I m 18 = I0 m 18) (h19 : I m 19 = I0 m 19) (hF : RdF m I J L M) (h : PrD m I J M T s r b) (hr : r0 = r) : PrP z n sh I0 L0 m T s r0 (some (.int b)) z n sh J M :=
  ⟨b, rfl, rfl, rfl, rfl, hF0.tr hF, h.back h18 h19 hr⟩
theorem GoF.f18 {m : Nat} {I J : MI} {L M : ML} (h : GoF m I J L M) : J m 18 = I m 18 ∧ J m 19 = I m 19 := ⟨h.2.1 18 (by decide) (by decide) (by decide) (by decide), h.2.1 19 (by decide) (by decide) (by decide) (by decide)⟩
theorem kind_eq {s : Nat} {k : Tk} (h : TkO s k) {j : Nat} (hj : j < 2 ^ 31) : nI k.2.2.1 = nI j ↔ k.2.2.1 = j := nI_eq (by have := h.2.2; omega) hj
theorem isWd_tk {m s i : Nat} {I : MI} {L : ML} {T : Nat → Int32} {k : Tk} (hA : At I L m T s k) (hO : TkO s k) : isWd (I m) (L m 21) i = tWd k i := by
  have e : (I m 16 = 2) ↔ k.2.2.1 = 2 := by
    rw [hA.2.2.2.2.1]
    exact kind_eq hO (j := 2) (by decide)
  unfold isWd tWd
  by_cases h : k.2.2.1 = 2
  · rw [hA.2.2.2.2.2.1 h]
    simp [h, e]
  · simp [h, e]
