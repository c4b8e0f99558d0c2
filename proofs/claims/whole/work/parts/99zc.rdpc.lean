/-! the class's reader: what stands between two tokens, and how its methods end -/
section Cn23
variable {N : Nat → Int32}
theorem Cn.up230 (c : Cn N) {k : Nat} (hk : k ≤ 10) : Cn (upd N 230 (nI k)) := by
  have g : ∀ j, j ≠ 230 → upd N 230 (nI k) j = N j := fun j hj => upd_ne hj
  have eH : nHo (upd N 230 (nI k)) = k := by unfold nHo; rw [upd_eq]; exact nI_clamp (by omega)
  have eP : nPo (upd N 230 (nI k)) = nPo N := by unfold nPo; rw [g _ (by decide)]
  have eL : nLe (upd N 230 (nI k)) = nLe N := by unfold nLe; rw [g _ (by decide)]
  have eO : nOf (upd N 230 (nI k)) = nOf N := by unfold nOf; rw [g _ (by decide)]
  have eW : ∀ p, nWi (upd N 230 (nI k)) p = nWi N p := fun p => by unfold nWi; rw [g _ (by omega)]
  have eB : ∀ p, nBi (upd N 230 (nI k)) p = nBi N p := fun p => by unfold nBi; rw [g _ (by omega)]
  refine ⟨⟨by rw [eH]; exact upd_eq, by omega⟩, ⟨by rw [eP, g _ (by decide)]; exact c.p, by rw [eP]; exact c.p8⟩, ⟨by rw [eL, g _ (by decide)]; exact c.l, by rw [eL]; exact c.l8⟩, ⟨by rw [eO, g _ (by decide)]; exact c.o, by rw [eO]; exact c.o30⟩, by rw [g _ (by decide)]; exact c.age, fun p hp => ⟨⟨by rw [eW, g _ (by omega)]; exact c.w hp, by rw [eW]; exact c.w6 hp⟩, ⟨by rw [eB, g _ (by omega)]; exact c.bi hp, by rw [eB]; exact c.bi10 hp⟩, by rw [g _ (by omega)]; exact c.ho hp, fun i hi => ?_⟩, fun h hh => by rw [g _ (by omega)]; exact c.who hh, fun i hi => ?_⟩
  · rw [eW] at hi
    have := c.w6 hp
    rw [g _ (by omega)]
    exact c.wi hp hi
  · rw [eL] at hi
    rw [g _ (by omega), g _ (by omega)]
    exact ⟨c.lp hi, c.lh hi⟩
theorem Cn.up231 (c : Cn N) {k : Nat} (hk : k ≤ 8) : Cn (upd N 231 (nI k)) := by
  have g : ∀ j, j ≠ 231 → upd N 231 (nI k) j = N j := fun j hj => upd_ne hj
  have eH : nHo (upd N 231 (nI k)) = nHo N := by unfold nHo; rw [g _ (by decide)]
  have eP : nPo (upd N 231 (nI k)) = k := by unfold nPo; rw [upd_eq]; exact nI_clamp (by omega)
  have eL : nLe (upd N 231 (nI k)) = nLe N := by unfold nLe; rw [g _ (by decide)]
  have eO : nOf (upd N 231 (nI k)) = nOf N := by unfold nOf; rw [g _ (by decide)]
  have eW : ∀ p, nWi (upd N 231 (nI k)) p = nWi N p := fun p => by unfold nWi; rw [g _ (by omega)]
  have eB : ∀ p, nBi (upd N 231 (nI k)) p = nBi N p := fun p => by unfold nBi; rw [g _ (by omega)]
  refine ⟨⟨by rw [eH, g _ (by decide)]; exact c.h, by rw [eH]; exact c.h10⟩, ⟨by rw [eP]; exact upd_eq, by omega⟩, ⟨by rw [eL, g _ (by decide)]; exact c.l, by rw [eL]; exact c.l8⟩, ⟨by rw [eO, g _ (by decide)]; exact c.o, by rw [eO]; exact c.o30⟩, by rw [g _ (by decide)]; exact c.age, fun p hp => ⟨⟨by rw [eW, g _ (by omega)]; exact c.w hp, by rw [eW]; exact c.w6 hp⟩, ⟨by rw [eB, g _ (by omega)]; exact c.bi hp, by rw [eB]; exact c.bi10 hp⟩, by rw [g _ (by omega)]; exact c.ho hp, fun i hi => ?_⟩, fun h hh => by rw [g _ (by omega)]; exact c.who hh, fun i hi => ?_⟩
  · rw [eW] at hi
    have := c.w6 hp
    rw [g _ (by omega)]
    exact c.wi hp hi
  · rw [eL] at hi
    rw [g _ (by omega), g _ (by omega)]
    exact ⟨c.lp hi, c.lh hi⟩
theorem nLe_u {j : Nat} {v : Int32} (h : nLe N = 0) (hj : j ≠ 233) : nLe (upd N j v) = 0 := by
  rw [← h]
  unfold nLe
  rw [upd_ne (fun q => hj q.symm)]
end Cn23
def Pc (I : MI) (L : ML) (T : Nat → Int32) (s : Nat) (p : PSt) : Prop := AtC I L T s p.1 ∧ TkO s p.1 ∧ CtS I L 35 p.2.1 p.2.2 ∧ KwO L ∧ Cn p.2.1 ∧ nLe p.2.1 = 0
/-- what reading leaves as it was -/
def RcF (I J : MI) (L M : ML) : Prop := (∀ a, a ≠ 479 → (a < 35 ∨ 69 ≤ a) → J a = I a) ∧ (∀ k, k = 2 ∨ k = 5 → J 479 k = I 479 k) ∧ ∀ a, a ≠ 479 → (a < 35 ∨ 69 ≤ a) → M a = L a
/-- and no fault told -/
def RcG (I J : MI) (L M : ML) : Prop := RcF I J L M ∧ J 479 3 = I 479 3 ∧ J 479 4 = I 479 4
def RcD (I J : MI) (L M : ML) (T : Nat → Int32) (s : Nat) (r : PRs) (b : Int32) : Prop :=
  (b = 0 ∧ RcF I J L M ∧ FxS J 35 ∧ ∃ e, r = .inl e ∧ J 479 3 = nI e.1 ∧ J 479 4 = nI e.2) ∨ (b = 1 ∧ RcG I J L M ∧ ∃ p, r = .inr p ∧ Pc J M T s p)
def RcP (z n : Nat) (sh : Shp) (I : MI) (L : ML) (T : Nat → Int32) (s : Nat) (r : PRs) : PoT := fun v z' n' sh' J M => ∃ b, v = some (.int b) ∧ z' = z ∧ n' = n ∧ sh' = sh ∧ RcD I J L M T s r b
section Rcs
variable {I J K I0 : MI} {L M O L0 : ML} {T : Nat → Int32} {s z n : Nat} {sh : Shp} {p : PSt} {r r0 : PRs} {b : Int32}
theorem RcF.rf : RcF I I L L := ⟨fun _ _ _ => rfl, fun _ _ => rfl, fun _ _ _ => rfl⟩
theorem RcF.tr (h : RcF I J L M) (h2 : RcF J K M O) : RcF I K L O := ⟨fun a a1 a2 => (h2.1 a a1 a2).trans (h.1 a a1 a2), fun k k1 => (h2.2.1 k k1).trans (h.2.1 k k1), fun a a1 a2 => (h2.2.2 a a1 a2).trans (h.2.2 a a1 a2)⟩
theorem RcG.rf : RcG I I L L := ⟨RcF.rf, rfl, rfl⟩
theorem RcG.tr (h : RcG I J L M) (h2 : RcG J K M O) : RcG I K L O := ⟨h.1.tr h2.1, h2.2.1.trans h.2.1, h2.2.2.trans h.2.2⟩
theorem RcG.nx {k : Tk} (h : NxF I J ∧ NxL L M ∧ AtC J M T s k) : RcG I J L M := ⟨⟨fun a a1 _ => h.1.1 a a1, fun k hk => h.1.2 k (by omega) (by omega) (by omega) (by omega) (by omega), fun a a1 _ => h.2.1 a a1⟩, h.1.2 3 (by decide) (by decide) (by decide) (by decide) (by decide), h.1.2 4 (by decide) (by decide) (by decide) (by decide) (by decide)⟩
theorem RcG.st (hI : ∀ x, (x < 35 ∨ 69 ≤ x) → J x = I x) (hL : ∀ x, (x < 35 ∨ 69 ≤ x) → M x = L x) : RcG I J L M := ⟨⟨fun a _ a2 => hI a a2, fun k _ => congrFun (hI 479 (by decide)) k, fun a _ a2 => hL a a2⟩, congrFun (hI 479 (by decide)) 3, congrFun (hI 479 (by decide)) 4⟩
theorem RcG.put {a k : Nat} {v : Int32} (ha : 35 ≤ a ∧ a < 69) : RcG I (upI I a k v) L L := RcG.st (fun x hx => upI_row2 (by omega)) (fun _ _ => rfl)
theorem RcF.fl {c : Int32} {k : Nat} : RcF I (flC I c k) L L := ⟨fun x x1 _ => (upI_row2 x1).trans (upI_row2 x1), fun k hk => (upI_n (Or.inr (by omega))).trans (upI_n (Or.inr (by omega))), fun _ _ _ => rfl⟩
theorem AtC.fr {k : Tk} (h : AtC I L T s k) (h0 : J 480 = I 480) (h1 : J 479 = I 479) (h2 : M 479 = L 479) : AtC J M T s k := by
  unfold AtC at h ⊢
  rw [h0, h1, h2]
  exact h
theorem Pc.adv {p : PSt} {J : MI} {M : ML} (h : Pc I L T s p) (hq : NxF I J ∧ NxL L M ∧ AtC J M T s (tok T s p.1.2.1)) : Pc J M T s (nx T s p.1, p.2.1, p.2.2) :=
  ⟨hq.2.2, TkO.tok h.2.1.2.1, h.2.2.1.fr h.2.2.2.2.1 (fun a ha => hq.1.1 _ (by omega)) (fun a ha => hq.2.1 _ (by omega)), fun i hi => by rw [hq.2.1 481 (by decide)]; exact h.2.2.2.1 i hi, h.2.2.2.2.1, h.2.2.2.2.2⟩
theorem Pc.st {R : Nat → Int32} {Q : Nat → Int64} (h : Pc I L T s p) (hI : ∀ x, (x < 35 ∨ 69 ≤ x) → J x = I x) (hL : ∀ x, (x < 35 ∨ 69 ≤ x) → M x = L x) (hC : CtS J M 35 R Q) (hN : Cn R) (h0 : nLe R = 0) : Pc J M T s (p.1, R, Q) :=
  ⟨h.1.fr (hI _ (by decide)) (hI _ (by decide)) (hL _ (by decide)), h.2.1, hC, fun i hi => by rw [hL 481 (by decide)]; exact h.2.2.2.1 i hi, hN, h0⟩
theorem Pc.put {R : Nat → Int32} {a k : Nat} {v : Int32} (h : Pc I L T s p) (ha : 35 ≤ a ∧ a < 69) (hC : CtS (upI I a k v) L 35 R p.2.2) (hN : Cn R) (h0 : nLe R = 0) : Pc (upI I a k v) L T s (p.1, R, p.2.2) :=
  h.st (fun x hx => upI_row2 (by omega)) (fun _ _ => rfl) hC hN h0
theorem RcD.no (h : RcD I J L M T s r b) (hb : b = 0) : RcF I J L M ∧ FxS J 35 ∧ ∃ e, r = .inl e ∧ J 479 3 = nI e.1 ∧ J 479 4 = nI e.2 := by
  rcases h with h | h
  · exact h.2
  · exact absurd (hb.symm.trans h.1) (by decide)
theorem RcD.yes (h : RcD I J L M T s r b) (hb : ¬ b = 0) : RcG I J L M ∧ ∃ p, r = .inr p ∧ Pc J M T s p := by
  rcases h with h | h
  · exact absurd h.1 hb
  · exact h.2
theorem RcD.v01 (h : RcD I J L M T s r b) : b = 0 ∨ b = 1 := by
  rcases h with h | h
  · exact Or.inl h.1
  · exact Or.inr h.1
theorem RcP.fail {e : Nat × Nat} (hF : RcF I0 J L0 M) (hX : FxS J 35) (hr : r = .inl e) (h3 : J 479 3 = nI e.1) (h4 : J 479 4 = nI e.2) : RcP z n sh I0 L0 T s r (some (.int 0)) z n sh J M := ⟨0, rfl, rfl, rfl, rfl, Or.inl ⟨rfl, hF, hX, e, hr, h3, h4⟩⟩
theorem RcP.fl {c k : Nat} (hG : RcG I0 I L0 L) (hX : FxS I 35) (hr : r = .inl (c, k)) : RcP z n sh I0 L0 T s r (some (.int 0)) z n sh (flC I (nI c) k) L := by
  refine RcP.fail (hG.1.tr RcF.fl) (hX.fr (fun a ha => (upI_row2 (by omega)).trans (upI_row2 (by omega)))) hr ?_ upI_s
  exact (upI_n (Or.inr (by decide))).trans upI_s
theorem RcP.ms {k : Tk} (hG : RcG I0 I L0 L) (hX : FxS I 35) (hr : r = pBad k 2) : RcP z n sh I0 L0 T s r (some (.int 0)) z n sh (flC I (if k.2.2.1 = 1 then 1 else 2) k.1) L := by
  have e : (if k.2.2.1 = 1 then 1 else 2 : Int32) = nI (if k.2.2.1 = 1 then 1 else 2) := by split <;> rfl
  rw [e]
  exact RcP.fl hG hX hr
theorem RcP.good (hG : RcG I0 J L0 M) (hr : r = .inr p) (hp : Pc J M T s p) : RcP z n sh I0 L0 T s r (some (.int 1)) z n sh J M := ⟨1, rfl, rfl, rfl, rfl, Or.inr ⟨rfl, hG, p, hr, hp⟩⟩
theorem RcP.with_ (hG : RcG I0 I L0 L) (h : RcD I J L M T s r b) (hr : r0 = r) : RcP z n sh I0 L0 T s r0 (some (.int b)) z n sh J M := by
  subst hr
  rcases h with ⟨h, hF, hX, e, h1, h2, h3⟩ | ⟨h, hF, p, h1, h2⟩
  · exact ⟨b, rfl, rfl, rfl, rfl, Or.inl ⟨h, hG.1.tr hF, hX, e, h1, h2, h3⟩⟩
  · exact ⟨b, rfl, rfl, rfl, rfl, Or.inr ⟨h, hG.tr hF, p, h1, h2⟩⟩
theorem wrong_fl {k : Tk} {x : Int32} (h : AtC I L T s k) : upI (upI I 479 3 x) 479 4 (I 479 8) = flC I x k.1 := by
  unfold flC
  rw [h.2.2.1]
theorem pBad_k {k : Tk} {c : Nat} (h : ¬ k.2.2.1 = 1) : pBad k c = .inl (c, k.1) := by
  unfold pBad
  rw [if_neg h]
theorem nuC_ok {lo hi : Int32} {i q : Nat} (h : ¬ bI (nuC p.1 lo hi).isNone = 0) : flO I (nuC p.1 lo hi) q = I ∧ p.1.2.2.1 = 3 ∧ pNum T s i lo hi p = .inr (nx T s p.1, upd p.2.1 i p.1.2.2.2.2, p.2.2) := by
  have h := bI1.mp h
  by_cases h3 : p.1.2.2.1 = 3
  · by_cases hr : lo ≤ p.1.2.2.2.2 ∧ p.1.2.2.2.2 ≤ hi
    · have e : nuC p.1 lo hi = none := (if_pos h3).trans (if_pos hr)
      rw [e]
      exact ⟨rfl, h3, (if_pos h3).trans (if_pos hr)⟩
    · have e : nuC p.1 lo hi = some 3 := (if_pos h3).trans (if_neg hr)
      rw [e] at h
      cases h
  · have e : nuC p.1 lo hi = some (if p.1.2.2.1 = 1 then 1 else 2) := if_neg h3
    rw [e] at h
    cases h
theorem nuC_f {lo hi : Int32} {i q : Nat} (h : bI (nuC p.1 lo hi).isNone = 0) : ∃ c, flO I (nuC p.1 lo hi) q = flC I (nI c) q ∧ pNum T s i lo hi p = .inl (c, p.1.1) := by
  have h := bI0.mp h
  by_cases h3 : p.1.2.2.1 = 3
  · by_cases hr : lo ≤ p.1.2.2.2.2 ∧ p.1.2.2.2.2 ≤ hi
    · have e : nuC p.1 lo hi = none := (if_pos h3).trans (if_pos hr)
      rw [e] at h
      cases h
    · have e : nuC p.1 lo hi = some 3 := (if_pos h3).trans (if_neg hr)
      rw [e]
      exact ⟨3, rfl, (if_pos h3).trans ((if_neg hr).trans (pBad_k (by rw [h3]; decide)))⟩
  · have e : nuC p.1 lo hi = some (if p.1.2.2.1 = 1 then 1 else 2) := if_neg h3
    rw [e]
    refine ⟨if p.1.2.2.1 = 1 then 1 else 2, ?_, if_neg h3⟩
    show flC I (if p.1.2.2.1 = 1 then 1 else 2) q = _
    congr 1
    split <;> rfl
theorem nmC_ok {i q : Nat} (h : ¬ bI (nmC p.1 p.2.2 (nHo p.2.1) (nPo p.2.1)).isNone = 0) : flO I (nmC p.1 p.2.2 (nHo p.2.1) (nPo p.2.1)) q = I ∧ tNm p.1 = true ∧ pName T s i p = .inr (nx T s p.1, p.2.1, vp_updL p.2.2 i p.1.2.2.2.1) := by
  have h := bI1.mp h
  by_cases h3 : tNm p.1 = true
  · by_cases hr : pTaken p.2.2 p.1.2.2.2.1 (nHo p.2.1) (nPo p.2.1) = true
    · have e : nmC p.1 p.2.2 (nHo p.2.1) (nPo p.2.1) = some 4 := (if_pos h3).trans (if_pos hr)
      rw [e] at h
      cases h
    · have e : nmC p.1 p.2.2 (nHo p.2.1) (nPo p.2.1) = none := (if_pos h3).trans (if_neg hr)
      rw [e]
      exact ⟨rfl, h3, (if_pos h3).trans (if_neg hr)⟩
  · have e : nmC p.1 p.2.2 (nHo p.2.1) (nPo p.2.1) = some (if p.1.2.2.1 = 1 then 1 else 2) := if_neg h3
    rw [e] at h
    cases h
theorem nmC_f {i q : Nat} (h : bI (nmC p.1 p.2.2 (nHo p.2.1) (nPo p.2.1)).isNone = 0) : ∃ c, flO I (nmC p.1 p.2.2 (nHo p.2.1) (nPo p.2.1)) q = flC I (nI c) q ∧ pName T s i p = .inl (c, p.1.1) := by
  have h := bI0.mp h
  by_cases h3 : tNm p.1 = true
  · by_cases hr : pTaken p.2.2 p.1.2.2.2.1 (nHo p.2.1) (nPo p.2.1) = true
    · have e : nmC p.1 p.2.2 (nHo p.2.1) (nPo p.2.1) = some 4 := (if_pos h3).trans (if_pos hr)
      rw [e]
      exact ⟨4, rfl, (if_pos h3).trans ((if_pos hr).trans (pBad_k (by rw [tNm2 h3]; decide)))⟩
    · have e : nmC p.1 p.2.2 (nHo p.2.1) (nPo p.2.1) = none := (if_pos h3).trans (if_neg hr)
      rw [e] at h
      cases h
  · have e : nmC p.1 p.2.2 (nHo p.2.1) (nPo p.2.1) = some (if p.1.2.2.1 = 1 then 1 else 2) := if_neg h3
    rw [e]
    refine ⟨if p.1.2.2.1 = 1 then 1 else 2, ?_, if_neg h3⟩
    show flC I (if p.1.2.2.1 = 1 then 1 else 2) q = _
    congr 1
    split <;> rfl
end Rcs
section ARc
variable {X : Cx} {g : Gd} {own : String} {cc : ByteArray} {nL : Nat} {Bd : Nat × Nat × Nat} {E : En} {I : MI} {L : ML} {pc : Nat} {Lc : List (Option Value)} {st : List Value}
theorem aw_rV {idx ci b : Nat} {y : MethodName} {cc2 : ByteArray} {nL2 : Nat} {ret2 : Option FieldType} {np d : Nat} {As : List Value} {st0 : List Value} {T : Nat → Int32} {s : Nat} {r : PRs} (dg : decode cc pc = .ok (.invokevirtual idx, 3)) (hl : Cond.methodLink own idx y ∈ tblG) (hm : mV y cc2 nL2 ret2 np) (hM : CM y cc2 nL2 ret2 d 0 0 (.ref b :: As) E.1 E.2.1 E.2.2.1 I L (RcP E.1 E.2.1 E.2.2.1 I L T s r))
    (hd : d + 1 ≤ Bd.1) (hk : (E.2.2.1 b).1 = ci) (hci : ci < 12 ∧ clR ci = y.cls) (hb : b < E.2.1) (hst : st0 = As.reverse ++ .ref b :: st) (hn : As.length = np) (hw : (st.map fun v => v.category).sum ≤ 8) (hf : E.2.2.2.1 ≤ Bd.2.1 ∧ E.2.2.2.2 ≤ Bd.2.2)
    (k : ∀ v J M, RcD I J L M T s r v → AW X g own cc nL Bd E J M (pc + 3) Lc (.int v :: st)) : AW X g own cc nL Bd E I L pc Lc st0 :=
  aw_callV dg hl hm hM hd hk hci hb hst hn hw hf (fun v z n sh I3 L3 q => by
    obtain ⟨w, h1, h2, h3, h4, h5⟩ := q
    subst h1 h2 h3 h4
    exact k _ _ _ h5)
end ARc
