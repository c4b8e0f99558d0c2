/-! a row is known by its 390 numbers -/
section EQ9
variable {I : MI} {L : ML} {b : Nat} {N M : Nat → Int32} {Q P : Nat → Int64}
def E9 (N M : Nat → Int32) : Prop := ∀ j, j < 390 → M j = N j
theorem E9.cn (e : E9 N M) (c : Cn N) : Cn M := c.cong (fun j hj _ => e j (by have := c.l8; omega)) (e _ (by omega))
theorem E9.iv (e : E9 N M) (iv : Iv N) : Iv M := ⟨e.cn iv.1, iv.2.1.cong iv.1.p8 (e _ (by omega)) (e _ (by omega)) (fun p hp => e _ (by omega)), iv.2.2.cong iv.1 (fun j hj _ => e j (by omega))⟩
theorem E9.ex (e : E9 N M) (c : Cn N) (x : Ex N) : Ex M := x.same c (fun j _ _ hj => e j (by omega))
theorem E9.nH (e : E9 N M) : nHo M = nHo N := by unfold nHo; rw [e _ (by omega)]
theorem E9.nP (e : E9 N M) : nPo M = nPo N := by unfold nPo; rw [e _ (by omega)]
theorem NmA.eq (x : NmA N Q) (e0 : M 230 = N 230) (e1 : M 231 = N 231) (c : Cn N) (q : ∀ k, k < 18 → P k = Q k) : NmA M P := by
  have h8 := c.p8
  have h10 := c.h10
  have eH : nHo M = nHo N := by unfold nHo; rw [e0]
  have eP : nPo M = nPo N := by unfold nPo; rw [e1]
  exact ⟨fun h hh => by rw [eH] at hh; rw [q h (by omega)]; exact x.1 h hh, fun p hp => by rw [eP] at hp; rw [q _ (by omega)]; exact x.2 p hp⟩
theorem CtS.eq9 (c : CtS I L b N Q) (hN : Cn N) (e : E9 N M) (q : ∀ k, k < 18 → P k = Q k) : CtS I L b M P := by
  have h8 := hN.p8
  have h10 := hN.h10
  have l8 := hN.l8
  have o30 := hN.o30
  have eH := e.nH
  have eP := e.nP
  have eL : nLe M = nLe N := by unfold nLe; rw [e _ (by omega)]
  refine ⟨c.1, fun j hj => ?_, fun p hp => ?_, fun k hk => ?_, fun h hh => ?_, fun p hp => ?_⟩
  · have hj2 : lvj N j := lvj_cong (N := N) (e _ (by omega)) (e _ (by omega)) (e _ (by omega)) (fun p hp => e _ (by omega)) hj
    have lt : j < 390 := by unfold lvj at hj2; omega
    rw [e j lt]
    exact c.2.1 j hj2
  · rw [eP] at hp
    rw [e _ (by omega), e _ (by omega)]
    exact c.br hp
  · rw [eL] at hk
    have hp := lPo_lt hN hk
    have hh := lHo_lt hN hk
    have ePo : lPo M k = lPo N k := by unfold lPo; rw [e _ (by omega)]
    have eHo : lHo M k = lHo N k := by unfold lHo; rw [e _ (by omega)]
    obtain ⟨a1, a2, a3, a4, a5⟩ := c.lt hk
    refine ⟨fun w hw hw5 => by rw [e _ (by omega)]; exact a1 w hw hw5, by rw [e _ (by omega)]; exact a2, by rw [e _ (by omega)]; exact a3, ?_, ?_⟩
    · rw [ePo, eHo, e _ (by omega), e _ (by omega)]
      exact a4
    · rw [eHo, e _ (by omega)]
      exact a5
  · rw [eH] at hh
    rw [q h (by omega)]
    exact c.qh hh
  · rw [eP] at hp
    rw [q _ (by omega)]
    exact c.qp hp
theorem copy_E9 {f g : Nat → Int32} : E9 f (mCopy f g) := fun j hj => by
  unfold mCopy
  exact fa_fill_in hj
end EQ9
/-- a kept row -/
def kR (K : Nat → Int32) (i : Nat) : Nat → Int32 := fun j => K (390 * i + j)
theorem kR_put {K N : Nat → Int32} {a i : Nat} (h : i < a) : E9 (kR K i) (kR (kPut K N a 390) i) := fun j hj => by
  unfold kR kPut
  exact if_neg (by omega)
theorem kR_own {K N : Nat → Int32} {a : Nat} : E9 N (kR (kPut K N a 390) a) := fun j hj => by
  unfold kR kPut
  rw [if_pos ⟨by omega, by omega⟩]
  exact congrArg N (by omega)
theorem kR_shift {K : Nat → Int32} {i : Nat} (h : i < 11) : E9 (kR K (i + 1)) (kR (kShift K) i) := fun j hj => by
  unfold kR kShift
  rw [fa_fill_in (show 390 * i + j < 4290 by omega)]
  exact congrArg K (by omega)
