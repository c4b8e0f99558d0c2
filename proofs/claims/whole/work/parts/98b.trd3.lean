theorem cnt_cut2 {P : Nat → Bool} {n : Nat} : ∀ {m : Nat}, n ≤ m → (∀ p, n ≤ p → p < m → P p = false) → fa_cnt P m = fa_cnt P n
  | 0, h, _ => by rw [show n = 0 by omega]
  | m + 1, h, hf => by
    by_cases e : n = m + 1
    · rw [e]
    · rw [fa_cnt_no (hf m (by omega) (by omega))]
      exact cnt_cut2 (by omega) (fun p h1 h2 => hf p h1 (by omega))
/-! the class: all trades -/
/-- a call that tells, and leaves some rows of its own changed -/
def Cw (lo hi : Nat) (a : An) (z n : Nat) (sh : Shp) (I : MI) (L : ML) : PoT := fun v z' n' sh' J' M' => v = some (.int a.1) ∧ z' = z ∧ n' = n ∧ sh' = sh ∧ M' = L ∧ ∃ J : MI, J' = upI J 0 8 a.2 ∧ ∀ x, x < lo ∨ hi ≤ x → J x = I x
section Cws
variable {a : An} {z n lo hi : Nat} {sh : Shp} {I J : MI} {L : ML}
theorem Cw.ok {v : Int32} (h : a = ok v) (hs : ∀ x, x < lo ∨ hi ≤ x → J x = I x) : Cw lo hi a z n sh I L (some (.int v)) z n sh (upI J 0 8 0) L := by subst h; exact ⟨rfl, rfl, rfl, rfl, rfl, J, rfl, hs⟩
theorem Cw.no {s : Int32} (h : a = no s) (hs : ∀ x, x < lo ∨ hi ≤ x → J x = I x) : Cw lo hi a z n sh I L (some (.int (-1))) z n sh (upI J 0 8 s) L := by subst h; exact ⟨rfl, rfl, rfl, rfl, rfl, J, rfl, hs⟩
theorem Cw.any {b : An} (h : a = b) (hs : ∀ x, x < lo ∨ hi ≤ x → J x = I x) : Cw lo hi a z n sh I L (some (.int b.1)) z n sh (upI J 0 8 b.2) L := by subst h; exact ⟨rfl, rfl, rfl, rfl, rfl, J, rfl, hs⟩
end Cws
theorem TdF.out {I J : MI} (h : TdF I J) : ∀ x, x < 493 ∨ 496 ≤ x → J x = I x := fun x hx => h x (by omega) (by omega) (by omega)
/-- what the work leaves -/
def WkP (N : Nat → Int32) (I J : MI) : Prop := TdF I J ∧ J 493 3 = nI (fa_cnt (movP N) (nPo N)) ∧ J 493 4 = nI (tEnd N).2.2.1 ∧ J 493 5 = nI (tEnd N).2.2.2 ∧ ∀ p, p < nPo N → J 495 p = (if N (80 + 18 * p + 4) = -1 then -1 else nI ((tEnd N).2.1 p)) ∧ (tEnd N).2.1 p < 10
def WkI (N : Nat → Int32) (i : Nat) (t : TSt) (I J : MI) : Prop := (TdF I J) ∧ (J 493 2 = nI t.1) ∧ (J 493 3 = nI (mvC N (livS N) t)) ∧ (J 493 4 = nI t.2.2.1) ∧ (J 493 5 = nI t.2.2.2) ∧ (∀ p, p < 8 → J 495 p = if (livS N).testBit p = true ∧ t.1.testBit p = false then nI (t.2.1 p) else -1) ∧ (Liv N t.1) ∧ (∀ p, p < 8 → t.1.testBit p = true → (livS N).testBit p = true) ∧ (pcn t.1 + i ≤ 8) ∧ (t.2.2.1 ≤ i) ∧ (t.2.2.2 ≤ 8) ∧ (∀ p, p < 8 → t.2.1 p < 10)
section WkIs
variable {N : Nat → Int32} {i : Nat} {t : TSt} {I J : MI}
theorem WkI.td (h : WkI N i t I J) : TdF I J := h.1
theorem WkI.un (h : WkI N i t I J) : J 493 2 = nI t.1 := h.2.1
theorem WkI.mv (h : WkI N i t I J) : J 493 3 = nI (mvC N (livS N) t) := h.2.2.1
theorem WkI.ci (h : WkI N i t I J) : J 493 4 = nI t.2.2.1 := h.2.2.2.1
theorem WkI.gr (h : WkI N i t I J) : J 493 5 = nI t.2.2.2 := h.2.2.2.2.1
theorem WkI.got (h : WkI N i t I J) : ∀ p, p < 8 → J 495 p = if (livS N).testBit p = true ∧ t.1.testBit p = false then nI (t.2.1 p) else -1 := h.2.2.2.2.2.1
theorem WkI.lv (h : WkI N i t I J) : Liv N t.1 := h.2.2.2.2.2.2.1
theorem WkI.sub (h : WkI N i t I J) : ∀ p, p < 8 → t.1.testBit p = true → (livS N).testBit p = true := h.2.2.2.2.2.2.2.1
theorem WkI.few (h : WkI N i t I J) : pcn t.1 + i ≤ 8 := h.2.2.2.2.2.2.2.2.1
theorem WkI.nc (h : WkI N i t I J) : t.2.2.1 ≤ i := h.2.2.2.2.2.2.2.2.2.1
theorem WkI.ng (h : WkI N i t I J) : t.2.2.2 ≤ 8 := h.2.2.2.2.2.2.2.2.2.2.1
theorem WkI.hb (h : WkI N i t I J) : ∀ p, p < 8 → t.2.1 p < 10 := h.2.2.2.2.2.2.2.2.2.2.2
end WkIs
theorem mvC_8 (N : Nat → Int32) (v : Nat) (t : TSt) : mvC N v t ≤ 8 := fa_cnt_le _ _
theorem mvC_0 (N : Nat → Int32) : mvC N (livS N) (livS N, fun _ => 0, 0, 0) = 0 := by
  refine (cnt0_iff 8).mpr (fun p hp => ?_)
  show ((livS N).testBit p && !(livS N).testBit p && _) = false
  cases (livS N).testBit p <;> rfl
theorem nI_sum (a b : Nat) : nI a + nI b = nI (a + b) := (Int32.ofNat_add a b).symm
theorem livS_bit {N : Nat → Int32} (hN : Cn N) {p : Nat} (hp : p < 8) : (livS N).testBit p = (decide (p < nPo N) && !decide (N (80 + 18 * p + 4) = -1)) := nset_bit _ _ (by have := hN.p8; omega) p (by omega)
theorem WkI.start {N : Nat → Int32} {I J : MI} (hN : Cn N) (hF : TdF I J) (hU : J 493 2 = nI (livS N)) (h3 : J 493 3 = 0) (h4 : J 493 4 = 0) (h5 : J 493 5 = 0) (hg : ∀ p, p < 8 → J 495 p = -1) : WkI N 0 (livS N, fun _ => 0, 0, 0) I J := by
  have hL := livS_ok hN
  have hp8 := pcn_le8 hL.1
  have e0 : mvC N (livS N) (livS N, fun _ => 0, 0, 0) = 0 := mvC_0 N
  have e3 : J 493 3 = nI (mvC N (livS N) (livS N, fun _ => 0, 0, 0)) := by rw [e0]; exact h3
  have e4 : pcn (livS N) + 0 ≤ 8 := by omega
  refine ⟨hF, hU, e3, h4, h5, fun p hp => (hg p hp).trans ?_, hL, fun p hp hb => hb, e4, Nat.le_refl 0, Nat.zero_le 8, fun _ _ => Nat.zero_lt_succ 9⟩
  refine (if_neg (fun z => ?_)).symm
  have z2 : (livS N).testBit p = false := z.2
  rw [z.1] at z2
  cases z2
theorem WkI.step {N : Nat → Int32} {i : Nat} {t : TSt} {I J J1 J2 : MI} (hC : Co N) (hN : Cn N) (h : WkI N i t I J) (h0 : ¬ t.1 = 0) (h1 : ∀ x, x ≠ 494 → J1 x = J x) (h2 : CirP N t.1 (tcir N t.1) J1 J2) : WkI N (i + 1) (tRound N t) I J2 := by
  obtain ⟨⟨t1, t2⟩, b, hb8, hbb⟩ := tcir_ok hC hN h.lv h0
  obtain ⟨q1, q2, q3, q4, q5, q6⟩ := h2
  have hv8 := h.lv.1
  have hlt2 : pcn (sdiff t.1 (tcir N t.1)) < pcn t.1 := pcn_less hv8 (sdiff_lt hv8) (fun i hi hib => by
    rw [sdiff_bit (by omega)] at hib
    simp at hib
    exact hib.1) hb8 (t2 b hb8 hbb) (by rw [sdiff_bit (by omega), hbb]; simp)
  have hfew := h.few
  have hnc := h.nc
  have hng := h.ng
  have hpc := pcn_le8 t1
  refine ⟨fun x x1 x2 x3 => ((q1 x x1 x2 x3).trans (h1 x x2)).trans (h.td x x1 x2 x3), q2, ?_, ?_, ?_, fun p hp => ?_, h.lv.diff, fun p hp hp2 => ?_, ?_, ?_, ?_, fun p hp => ?_⟩
  · rw [q4, h1 493 (by decide), h.mv, mv_step hC hN h.lv h.sub h0]
    by_cases hg : 1 < pcn (tcir N t.1)
    · rw [if_pos hg, if_pos hg]; exact nI_sum _ _
    · rw [if_neg hg, if_neg hg, Int32.add_zero]; rfl
  · rw [q5, h1 493 (by decide), h.ci]
    show _ = nI (t.2.2.1 + (if 1 < pcn (tcir N t.1) then 1 else 0))
    by_cases hg : 1 < pcn (tcir N t.1)
    · rw [if_pos hg, if_pos hg]; exact nI_sum _ 1
    · rw [if_neg hg, if_neg hg, Int32.add_zero]; rfl
  · rw [q6, h1 493 (by decide), h.gr]
    exact imax_nn (by omega) (by omega)
  · rw [q3 p hp, h1 495 (by decide), h.got p hp]
    have e1 : (tRound N t).1.testBit p = (t.1.testBit p && !(tcir N t.1).testBit p) := sdiff_bit (by omega)
    have e2 : (tRound N t).2.1 p = if (tcir N t.1).testBit p then lkH N t.1 p else t.2.1 p := rfl
    rw [e1, e2]
    cases hcp : (tcir N t.1).testBit p with
    | true => simp [h.sub p hp (t2 p hp hcp)]
    | false => simp
  · have hp2 : (sdiff t.1 (tcir N t.1)).testBit p = true := hp2
    rw [sdiff_bit (by omega)] at hp2
    exact h.sub p hp (andT hp2).1
  · show pcn (sdiff t.1 (tcir N t.1)) + (i + 1) ≤ 8
    omega
  · show t.2.2.1 + (if 1 < pcn (tcir N t.1) then 1 else 0) ≤ i + 1
    split <;> omega
  · show max t.2.2.2 (pcn (tcir N t.1)) ≤ 8
    exact Nat.max_le.mpr ⟨hng, hpc⟩
  · show (if (tcir N t.1).testBit p then lkH N t.1 p else t.2.1 p) < 10
    cases hcp : (tcir N t.1).testBit p with
    | true =>
      have := (lkH_ok hC hN h.lv hp (t2 p hp hcp)).1
      have := hN.h10
      rw [if_pos rfl]
      omega
    | false => exact h.hb p hp
theorem WkI.fin {N : Nat → Int32} {i : Nat} {t : TSt} {I J : MI} (hN : Cn N) (h : WkI N i t I J) (h0 : t.1 = 0) (hE : t = tEnd N) : WkP N I J := by
  have h8 := hN.p8
  refine ⟨h.td, ?_, by rw [← hE]; exact h.ci, by rw [← hE]; exact h.gr, fun p hp => ?_⟩
  · rw [h.mv]
    refine congrArg nI ?_
    unfold mvC
    have hc := cnt_cut2 (P := fun p => (livS N).testBit p && !t.1.testBit p && !decide (nI (t.2.1 p) = N (80 + 18 * p + 4))) (n := nPo N) (m := 8) h8 (fun p h1 h2 => by
      rw [livS_bit hN h2, decide_eq_false (by omega)]; rfl)
    rw [hc]
    refine fa_cnt_cong (fun p hp => ?_)
    rw [livS_bit hN (by omega), h0, Nat.zero_testBit, decide_eq_true hp, hE]
    unfold movP
    simp
  · refine ⟨?_, by rw [← hE]; exact h.hb p (by omega)⟩
    rw [h.got p (by omega), livS_bit hN (by omega), h0, Nat.zero_testBit, decide_eq_true hp, hE]
    by_cases e : N (80 + 18 * p + 4) = -1
    · simp [e]
    · simp [e]
