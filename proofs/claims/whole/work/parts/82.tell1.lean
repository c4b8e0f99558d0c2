/-! the class whole: where its cells lie; what it tells -/
def IsR (sh : Shp) : Prop := (sh 479).1 = 6 ∧ (sh 479).2.2 0 = some 480 ∧ (sh 479).2.2 1 = some 481 ∧ ((sh 480).1 = 100 ∧ (sh 480).2.1 = 900) ∧ (sh 481).1 = 101 ∧ (sh 481).2.1 = 10
def IsPp (sh : Shp) : Prop := (sh 482).1 = 5 ∧ (sh 482).2.2 0 = some 483 ∧ (sh 483).1 = 100 ∧ (sh 483).2.1 = 1024
def IsMt (sh : Shp) : Prop := (sh 484).1 = 4 ∧ (sh 484).2.2 0 = some 485 ∧ (sh 484).2.2 1 = some 486 ∧ ((sh 485).1 = 100 ∧ (sh 485).2.1 = 8) ∧ (sh 486).1 = 100 ∧ (sh 486).2.1 = 10
def IsCh (sh : Shp) : Prop := (sh 487).1 = 0 ∧ ((sh 487).2.2 0 = some 488 ∧ (sh 487).2.2 1 = some 489 ∧ (sh 487).2.2 2 = some 490 ∧ (sh 487).2.2 3 = some 491 ∧ (sh 487).2.2 4 = some 492) ∧ ((sh 488).1 = 100 ∧ (sh 489).1 = 100 ∧ (sh 490).1 = 100 ∧ (sh 491).1 = 100 ∧ (sh 492).1 = 100) ∧ (sh 488).2.1 = 8 ∧ (sh 489).2.1 = 8 ∧ (sh 490).2.1 = 2048 ∧ (sh 491).2.1 = 8 ∧ (sh 492).2.1 = 8
def IsTd (sh : Shp) : Prop := (sh 493).1 = 9 ∧ (sh 493).2.2 0 = some 494 ∧ (sh 493).2.2 1 = some 495 ∧ ((sh 494).1 = 100 ∧ (sh 494).2.1 = 8) ∧ (sh 495).1 = 100 ∧ (sh 495).2.1 = 8
def IsX (n : Nat) (sh : Shp) : Prop := 496 ≤ n ∧ (sh 0).1 = 10 ∧ ((sh 0).2.2 0 = some 1 ∧ (sh 0).2.2 1 = some 35 ∧ (sh 0).2.2 2 = some 69 ∧ (sh 0).2.2 3 = some 479 ∧ (sh 0).2.2 4 = some 482 ∧ (sh 0).2.2 5 = some 484 ∧ (sh 0).2.2 6 = some 487 ∧ (sh 0).2.2 7 = some 493) ∧
  IsS n sh 1 ∧ IsS n sh 35 ∧ IsH n sh 69 ∧ IsR sh ∧ IsPp sh ∧ IsMt sh ∧ IsCh sh ∧ IsTd sh
section IsXs
variable {n : Nat} {sh : Shp}
theorem IsX.b (h : IsX n sh) : 0 < n := by have := h.1; omega
theorem IsX.k (h : IsX n sh) : (sh 0).1 = 10 := h.2.1
theorem IsX.r0 (h : IsX n sh) : (sh 0).2.2 0 = some 1 := h.2.2.1.1
theorem IsX.r1 (h : IsX n sh) : (sh 0).2.2 1 = some 35 := h.2.2.1.2.1
theorem IsX.r2 (h : IsX n sh) : (sh 0).2.2 2 = some 69 := h.2.2.1.2.2.1
theorem IsX.r3 (h : IsX n sh) : (sh 0).2.2 3 = some 479 := h.2.2.1.2.2.2.1
theorem IsX.r4 (h : IsX n sh) : (sh 0).2.2 4 = some 482 := h.2.2.1.2.2.2.2.1
theorem IsX.r5 (h : IsX n sh) : (sh 0).2.2 5 = some 484 := h.2.2.1.2.2.2.2.2.1
theorem IsX.r6 (h : IsX n sh) : (sh 0).2.2 6 = some 487 := h.2.2.1.2.2.2.2.2.2.1
theorem IsX.r7 (h : IsX n sh) : (sh 0).2.2 7 = some 493 := h.2.2.1.2.2.2.2.2.2.2
theorem IsX.now (h : IsX n sh) : IsS n sh 1 := h.2.2.2.1
theorem IsX.spr (h : IsX n sh) : IsS n sh 35 := h.2.2.2.2.1
theorem IsX.his (h : IsX n sh) : IsH n sh 69 := h.2.2.2.2.2.1
theorem IsX.rdr (h : IsX n sh) : IsR sh := h.2.2.2.2.2.2.1
theorem IsX.pap (h : IsX n sh) : IsPp sh := h.2.2.2.2.2.2.2.1
theorem IsX.mat (h : IsX n sh) : IsMt sh := h.2.2.2.2.2.2.2.2.1
theorem IsX.cha (h : IsX n sh) : IsCh sh := h.2.2.2.2.2.2.2.2.2.1
theorem IsX.trd (h : IsX n sh) : IsTd sh := h.2.2.2.2.2.2.2.2.2.2
theorem IsX.lt (h : IsX n sh) {a : Nat} (ha : a < 496) : a < n := by have := h.1; omega
end IsXs
/-- the end of a call that only tells -/
def Ct (a : An) (z n : Nat) (sh : Shp) (I : MI) (L : ML) : PoT := Pst (some (.int a.1)) z n sh (upI I 0 8 a.2) L
theorem Ct.ok {v : Int32} {a : An} {z n : Nat} {sh : Shp} {I : MI} {L : ML} (h : a = ok v) : Ct a z n sh I L (some (.int v)) z n sh (upI I 0 8 0) L := by subst h; exact Pst.rf
theorem Ct.no {s : Int32} {a : An} {z n : Nat} {sh : Shp} {I : MI} {L : ML} (h : a = no s) : Ct a z n sh I L (some (.int (-1))) z n sh (upI I 0 8 s) L := by subst h; exact Pst.rf
def aAny (v : Int32) : An := if v = -1 then no 5 else ok v
def aNum (f : Option Nat) : An := match f with
  | none => no 5
  | some p => ok (nI p)
theorem from_neg {x b : Int32} (h : x < 0) : mFrom x 0 b = false := by
  unfold mFrom
  rw [decide_eq_false (Int32.not_le.mpr h), Bool.false_and]
theorem from_gt {x a b : Int32} (h : ¬ x ≤ b) : mFrom x a b = false := by
  unfold mFrom
  rw [decide_eq_false h, Bool.and_false]
theorem from_lo {x a b : Int32} (h : x < a) : mFrom x a b = false := by
  unfold mFrom
  rw [decide_eq_false (Int32.not_le.mpr h), Bool.false_and]
theorem from_in {x a b : Int32} (h : ¬ x < a) (h2 : x ≤ b) : mFrom x a b = true := by
  unfold mFrom
  rw [decide_eq_true (Int32.not_lt.mp h), decide_eq_true h2]
  rfl
theorem lt_6 {x : Int32} : x < 6 ↔ x ≤ 5 := by
  rw [Int32.lt_iff_toInt_lt, Int32.le_iff_toInt_le, show (6 : Int32).toInt = 6 by decide, show (5 : Int32).toInt = 5 by decide]
  omega
theorem le_ix {x : Int32} {B : Nat} (hB : B < 2 ^ 31) (h0 : ¬ x < 0) (h1 : x ≤ nI B) : ∃ j, j ≤ B ∧ x = nI j := by
  obtain ⟨j, hj, e⟩ := nI_of (x := x) h0
  rw [e] at h1
  exact ⟨j, (nI_leI hj hB).mp h1, e⟩
theorem lt_from {x y : Int32} {B : Nat} (hy : y = nI B) (hB : B < 2 ^ 30) (h0 : ¬ x < 0) (h1 : x < nI B) : mFrom x 0 (y - 1) = true := by
  obtain ⟨j, hj, e⟩ := nI_of (x := x) h0
  subst e
  exact from_of hy hB ((nI_ltI hj (by omega)).mp h1)
theorem ge_from {x y : Int32} {B : Nat} (hy : y = nI B) (hB : B < 2 ^ 30) (h1 : ¬ x < nI B) : mFrom x 0 (y - 1) = false := by
  cases h : mFrom x 0 (y - 1) with
  | false => rfl
  | true =>
    obtain ⟨j, hj, e⟩ := from_ix hy hB h
    exact absurd ((nI_ltI (by omega) (by omega)).mpr hj) (by rw [← e]; exact h1)
section ClsS
variable {z n : Nat} {sh : Shp} {I : MI} {L : ML} {N : Nat → Int32} {Q : Nat → Int64}
set_option maxHeartbeats 4000000 in
set_option maxRecDepth 100000 in
theorem sX10_fail (hX : IsX n sh) {x : Int32}  : CM yX10_fail cX10_fail 2 (Option.some .int) 1 0 0 [.ref 0, .int x] z n sh I L (Pst (some (.int (-1))) z n sh (upI I 0 8 x) L) := by
  refine CM.go [some (.ref 0), some (.int x)] rfl rfl (Nat.le_of_ble_eq_true rfl) (fun X g q => ?_)
  refine aw_aload_n dX10_fail_0 rfl ?_
  refine aw_iload_n dX10_fail_1 rfl ?_
  refine aw_putI dX10_fail_2 fX10_61 hX.k hX.b rfl rfl ?_
  refine aw_iconst (v := (-1)) dX10_fail_5 rfl ?_
  refine aw_iret q rfl dX10_fail_6 ⟨Nat.le_refl _, Nat.le_refl _⟩ ?_
  exact Pst.rf
set_option maxHeartbeats 4000000 in
set_option maxRecDepth 100000 in
theorem sX10_answer (hX : IsX n sh) {x : Int32}  : CM yX10_answer cX10_answer 2 (Option.some .int) 1 0 0 [.ref 0, .int x] z n sh I L (Pst (some (.int x)) z n sh (upI I 0 8 0) L) := by
  refine CM.go [some (.ref 0), some (.int x)] rfl rfl (Nat.le_of_ble_eq_true rfl) (fun X g q => ?_)
  refine aw_aload_n dX10_answer_0 rfl ?_
  refine aw_iconst (v := 0) dX10_answer_1 rfl ?_
  refine aw_putI dX10_answer_2 fX10_61 hX.k hX.b rfl rfl ?_
  refine aw_iload_n dX10_answer_5 rfl ?_
  refine aw_iret q rfl dX10_answer_6 ⟨Nat.le_refl _, Nat.le_refl _⟩ ?_
  exact Pst.rf
set_option maxHeartbeats 4000000 in
set_option maxRecDepth 100000 in
theorem sX10_answerFlag (hX : IsX n sh) {t : Bool}  : CM yX10_answerFlag cX10_answerFlag 2 (Option.some .int) 2 0 0 [.ref 0, .int (bI t)] z n sh I L (Pst (some (.int (bI t))) z n sh (upI I 0 8 0) L) := by
  refine CM.go [some (.ref 0), some (.int (bI t))] rfl rfl (Nat.le_of_ble_eq_true rfl) (fun X g q => ?_)
  refine aw_aload_n dX10_answerFlag_0 rfl ?_
  refine aw_iload_n dX10_answerFlag_1 rfl ?_
  refine awt_if_eq (A := 1) (B := 0) dX10_answerFlag_2 dX10_answerFlag_5 dX10_answerFlag_6 dX10_answerFlag_9 rfl rfl ?_
  refine AW.top (tern_bI t) ?_
  refine aw_cV dX10_answerFlag_10 kX10_94 mX10_answer (sX10_answer hX) (Nat.le_of_ble_eq_true rfl) hX.k ⟨by decide, rfl⟩ hX.b rfl rfl (Nat.le_of_ble_eq_true rfl) ⟨Nat.le_refl _, Nat.le_refl _⟩ ?_
  refine aw_iret q rfl dX10_answerFlag_13 ⟨Nat.le_refl _, Nat.le_refl _⟩ ?_
  exact Pst.rf
set_option maxHeartbeats 4000000 in
set_option maxRecDepth 100000 in
theorem sX10_answerIfAny (hX : IsX n sh) {x : Int32}  : CM yX10_answerIfAny cX10_answerIfAny 2 (Option.some .int) 2 0 0 [.ref 0, .int x] z n sh I L (Ct (aAny x) z n sh I L) := by
  refine CM.go [some (.ref 0), some (.int x)] rfl rfl (Nat.le_of_ble_eq_true rfl) (fun X g q => ?_)
  refine aw_iload_n dX10_answerIfAny_0 rfl ?_
  refine aw_iconst (v := (-1)) dX10_answerIfAny_1 rfl ?_
  refine aw_icmp_ne (tgt := 13) dX10_answerIfAny_2 rfl (fun c2 => ?_) (fun c2 => ?_)
  · refine aw_aload_n dX10_answerIfAny_13 rfl ?_
    refine aw_iload_n dX10_answerIfAny_14 rfl ?_
    refine aw_cV dX10_answerIfAny_15 kX10_94 mX10_answer (sX10_answer hX) (Nat.le_of_ble_eq_true rfl) hX.k ⟨by decide, rfl⟩ hX.b rfl rfl (Nat.le_of_ble_eq_true rfl) ⟨Nat.le_refl _, Nat.le_refl _⟩ ?_
    refine aw_iret q rfl dX10_answerIfAny_18 ⟨Nat.le_refl _, Nat.le_refl _⟩ ?_
    refine Ct.ok ?_
    unfold aAny
    rw [if_neg c2]
  · refine aw_aload_n dX10_answerIfAny_5 rfl ?_
    refine aw_iconst (v := 5) dX10_answerIfAny_6 rfl ?_
    refine aw_cV dX10_answerIfAny_7 kX10_76 mX10_fail (sX10_fail hX) (Nat.le_of_ble_eq_true rfl) hX.k ⟨by decide, rfl⟩ hX.b rfl rfl (Nat.le_of_ble_eq_true rfl) ⟨Nat.le_refl _, Nat.le_refl _⟩ ?_
    refine aw_goto (tgt := 18) dX10_answerIfAny_10 rfl ?_
    refine aw_iret q rfl dX10_answerIfAny_18 ⟨Nat.le_refl _, Nat.le_refl _⟩ ?_
    refine Ct.no ?_
    unfold aAny
    rw [if_pos c2]
set_option maxHeartbeats 4000000 in
set_option maxRecDepth 100000 in
theorem sX10_answerNumber (hX : IsX n sh) {p : Nat} (hS : IsS n sh 1) (hF : FxS I 1) (hp : p < 8)  : CM yX10_answerNumber cX10_answerNumber 2 (Option.some .int) 2 0 0 [.ref 0, .ref (1 + 13 + 2 * p)] z n sh I L (Ct (aNum (some p)) z n sh I L) := by
  refine CM.go [some (.ref 0), some (.ref (1 + 13 + 2 * p))] rfl rfl (Nat.le_of_ble_eq_true rfl) (fun X g q => ?_)
  refine aw_aload_n dX10_answerNumber_0 rfl ?_
  refine aw_ifnonnull (tgt := 12) dX10_answerNumber_1 rfl ?_
  refine aw_aload_n dX10_answerNumber_12 rfl ?_
  refine aw_aload_n dX10_answerNumber_13 rfl ?_
  refine aw_getI dX10_answerNumber_14 fX10_408 (hS.po (by omega)) (hS.pb (by omega)) rfl ?_
  refine AW.top ((hF.2.1 p hp).1) ?_
  refine aw_cV dX10_answerNumber_17 kX10_94 mX10_answer (sX10_answer hX) (Nat.le_of_ble_eq_true rfl) hX.k ⟨by decide, rfl⟩ hX.b rfl rfl (Nat.le_of_ble_eq_true rfl) ⟨Nat.le_refl _, Nat.le_refl _⟩ ?_
  refine aw_iret q rfl dX10_answerNumber_20 ⟨Nat.le_refl _, Nat.le_refl _⟩ ?_
  exact Ct.ok rfl
set_option maxHeartbeats 4000000 in
set_option maxRecDepth 100000 in
theorem sX10_answerNumberN (hX : IsX n sh)  : CM yX10_answerNumber cX10_answerNumber 2 (Option.some .int) 2 0 0 [.ref 0, .null] z n sh I L (Ct (aNum none) z n sh I L) := by
  refine CM.go [some (.ref 0), some .null] rfl rfl (Nat.le_of_ble_eq_true rfl) (fun X g q => ?_)
  refine aw_aload_nN dX10_answerNumber_0 rfl ?_
  refine aw_ifnonnullN dX10_answerNumber_1 ?_
  refine aw_aload_n dX10_answerNumber_4 rfl ?_
  refine aw_iconst (v := 5) dX10_answerNumber_5 rfl ?_
  refine aw_cV dX10_answerNumber_6 kX10_76 mX10_fail (sX10_fail hX) (Nat.le_of_ble_eq_true rfl) hX.k ⟨by decide, rfl⟩ hX.b rfl rfl (Nat.le_of_ble_eq_true rfl) ⟨Nat.le_refl _, Nat.le_refl _⟩ ?_
  refine aw_goto (tgt := 20) dX10_answerNumber_9 rfl ?_
  refine aw_iret q rfl dX10_answerNumber_20 ⟨Nat.le_refl _, Nat.le_refl _⟩ ?_
  exact Ct.no rfl
theorem sX10_answerNumberO (hX : IsX n sh) (hF : FxS I 1) {f : Option Nat} (hf : ∀ p, f = some p → p < 8) : CM yX10_answerNumber cX10_answerNumber 2 (Option.some .int) 2 0 0 [.ref 0, oH 1 f] z n sh I L (Ct (aNum f) z n sh I L) := by
  cases f with
  | none => exact sX10_answerNumberN hX
  | some p => exact sX10_answerNumber hX hX.now hF (hf p rfl)
set_option maxHeartbeats 4000000 in
set_option maxRecDepth 100000 in
theorem sX10_status (hX : IsX n sh)  : CM yX10_status cX10_status 1 (Option.some .int) 1 0 0 [.ref 0] z n sh I L (Pst (some (.int (I 0 8))) z n sh I L) := by
  refine CM.go [some (.ref 0)] rfl rfl (Nat.le_of_ble_eq_true rfl) (fun X g q => ?_)
  refine aw_aload_n dX10_status_0 rfl ?_
  refine aw_getI dX10_status_1 fX10_61 hX.k hX.b rfl ?_
  refine aw_iret q rfl dX10_status_4 ⟨Nat.le_refl _, Nat.le_refl _⟩ ?_
  exact Pst.rf
set_option maxHeartbeats 4000000 in
set_option maxRecDepth 100000 in
theorem sX10_rule (hX : IsX n sh) (hC : CtS I L 1 N Q) (hIv : Iv N) {x : Int32} : CM yX10_rule cX10_rule 2 (Option.some .int) 2 0 0 [.ref 0, .int x] z n sh I L (Ct (aRule N x) z n sh I L) := by
  refine CM.go [some (.ref 0), some (.int x)] rfl rfl (Nat.le_of_ble_eq_true rfl) (fun X g q => ?_)
  have hO := hIv.ok
  have hN := hO.1
  have hR := hO.2.1
  have hB := hO.2.2.1
  have hE := hO.2.2.2
  have h8 := hN.p8
  have h10 := hN.h10
  have hS := hX.now
  refine aw_iload_n dX10_rule_0 rfl ?_
  refine aw_if_lt (tgt := 10) dX10_rule_1 rfl (fun c1 => ?_) (fun c1 => ?_)
  · have hw := from_neg (b := 5) c1
    refine aw_aload_n dX10_rule_10 rfl ?_
    refine aw_iconst (v := 1) dX10_rule_11 rfl ?_
    refine aw_cV dX10_rule_12 kX10_76 mX10_fail (sX10_fail hX) (Nat.le_of_ble_eq_true rfl) hX.k ⟨by decide, rfl⟩ hX.b rfl rfl (Nat.le_of_ble_eq_true rfl) ⟨Nat.le_refl _, Nat.le_refl _⟩ ?_
    refine aw_iret q rfl dX10_rule_15 ⟨Nat.le_refl _, Nat.le_refl _⟩ ?_
    first | refine Ct.ok ?_ | refine Ct.no ?_
    simp [aRule, hw]
  · skip
    refine aw_iload_n dX10_rule_4 rfl ?_
    refine aw_bipush (v := 6) dX10_rule_5 rfl ?_
    refine aw_icmp_lt (tgt := 16) dX10_rule_7 rfl (fun c7 => ?_) (fun c7 => ?_)
    · have c7 := lt_6.mp c7
      have hw := from_in c1 c7
      obtain ⟨r, hr, er⟩ := le_ix (B := 5) (by decide) c1 c7
      refine aw_aload_n dX10_rule_16 rfl ?_
      refine aw_aload_n dX10_rule_17 rfl ?_
      refine aw_getR (b := 1) dX10_rule_18 fX10_10 hX.k hX.b rfl hX.r0 ?_
      refine aw_iload_n dX10_rule_21 rfl ?_
      refine aw_cV dX10_rule_22 kX10_218 mX7_ruleAt (sX7_ruleAt hS hC hO er (by omega)) (Nat.le_of_ble_eq_true rfl) hS.k ⟨by decide, rfl⟩ hS.b0 rfl rfl (Nat.le_of_ble_eq_true rfl) ⟨Nat.le_refl _, Nat.le_refl _⟩ ?_
      refine aw_cV dX10_rule_25 kX10_94 mX10_answer (sX10_answer hX) (Nat.le_of_ble_eq_true rfl) hX.k ⟨by decide, rfl⟩ hX.b rfl rfl (Nat.le_of_ble_eq_true rfl) ⟨Nat.le_refl _, Nat.le_refl _⟩ ?_
      refine aw_iret q rfl dX10_rule_28 ⟨Nat.le_refl _, Nat.le_refl _⟩ ?_
      refine Ct.ok ?_
      unfold aRule
      rw [hw, er, nI_clamp (by omega)]
      rfl
    · have hw := from_gt (a := 0) (fun q => c7 (lt_6.mpr q))
      refine aw_aload_n dX10_rule_10 rfl ?_
      refine aw_iconst (v := 1) dX10_rule_11 rfl ?_
      refine aw_cV dX10_rule_12 kX10_76 mX10_fail (sX10_fail hX) (Nat.le_of_ble_eq_true rfl) hX.k ⟨by decide, rfl⟩ hX.b rfl rfl (Nat.le_of_ble_eq_true rfl) ⟨Nat.le_refl _, Nat.le_refl _⟩ ?_
      refine aw_iret q rfl dX10_rule_15 ⟨Nat.le_refl _, Nat.le_refl _⟩ ?_
      first | refine Ct.ok ?_ | refine Ct.no ?_
      simp [aRule, hw]
set_option maxHeartbeats 4000000 in
set_option maxRecDepth 100000 in
theorem sX10_why (hX : IsX n sh) (hC : CtS I L 1 N Q) (hIv : Iv N) {x y : Int32} : CM yX10_why cX10_why 5 (Option.some .int) 4 0 0 [.ref 0, .int x, .int y] z n sh I L (Ct (aWhy N x y) z n sh I L) := by
  refine CM.go [some (.ref 0), some (.int x), some (.int y), none, none] rfl rfl (Nat.le_of_ble_eq_true rfl) (fun X g q => ?_)
  have hO := hIv.ok
  have hN := hO.1
  have hR := hO.2.1
  have hB := hO.2.2.1
  have hE := hO.2.2.2
  have h8 := hN.p8
  have h10 := hN.h10
  have hS := hX.now
  cases h9x : mFrom x 0 (N 231 - 1) with
  | false =>
    cases h9y : mFrom y 0 (N 230 - 1) with
    | false =>
      refine aw_aload_n dX10_why_0 rfl ?_
      refine aw_getR (b := 1) dX10_why_1 fX10_10 hX.k hX.b rfl hX.r0 ?_
      refine aw_iload_n dX10_why_4 rfl ?_
      refine aw_cV dX10_why_5 kX10_176 mX7_houseAt (sX7_houseAtN hS hC hO h9x) (Nat.le_of_ble_eq_true rfl) hS.k ⟨by decide, rfl⟩ hS.b0 rfl rfl (Nat.le_of_ble_eq_true rfl) ⟨Nat.le_refl _, Nat.le_refl _⟩ ?_
      refine aw_astore_nN dX10_why_8 (by decide) rfl ?_
      refine aw_aload_n dX10_why_9 rfl ?_
      refine aw_getR (b := 1) dX10_why_10 fX10_10 hX.k hX.b rfl hX.r0 ?_
      refine aw_iload_n dX10_why_13 rfl ?_
      refine aw_cV dX10_why_14 kX10_132 mX7_homeAt (sX7_homeAtN hS hC hO h9y) (Nat.le_of_ble_eq_true rfl) hS.k ⟨by decide, rfl⟩ hS.b0 rfl rfl (Nat.le_of_ble_eq_true rfl) ⟨Nat.le_refl _, Nat.le_refl _⟩ ?_
      refine aw_astoreN dX10_why_17 (by decide) rfl ?_
      refine aw_aload_nN dX10_why_19 rfl ?_
      refine aw_ifnullN (tgt := 28) dX10_why_20 rfl ?_
      refine aw_aload_n dX10_why_28 rfl ?_
      refine aw_iconst (v := 2) dX10_why_29 rfl ?_
      refine aw_cV dX10_why_30 kX10_76 mX10_fail (sX10_fail hX) (Nat.le_of_ble_eq_true rfl) hX.k ⟨by decide, rfl⟩ hX.b rfl rfl (Nat.le_of_ble_eq_true rfl) ⟨Nat.le_refl _, Nat.le_refl _⟩ ?_
      refine aw_iret q rfl dX10_why_33 ⟨Nat.le_refl _, Nat.le_refl _⟩ ?_
      refine Ct.no ?_
      unfold aWhy mOnes
      rw [h9x, h9y]
      rfl
    | true =>
      obtain ⟨h, hh, rfl⟩ := from_ix hN.h (by omega) h9y
      have e9h : (nI h).toNatClampNeg = h := nI_clamp (by omega)
      refine aw_aload_n dX10_why_0 rfl ?_
      refine aw_getR (b := 1) dX10_why_1 fX10_10 hX.k hX.b rfl hX.r0 ?_
      refine aw_iload_n dX10_why_4 rfl ?_
      refine aw_cV dX10_why_5 kX10_176 mX7_houseAt (sX7_houseAtN hS hC hO h9x) (Nat.le_of_ble_eq_true rfl) hS.k ⟨by decide, rfl⟩ hS.b0 rfl rfl (Nat.le_of_ble_eq_true rfl) ⟨Nat.le_refl _, Nat.le_refl _⟩ ?_
      refine aw_astore_nN dX10_why_8 (by decide) rfl ?_
      refine aw_aload_n dX10_why_9 rfl ?_
      refine aw_getR (b := 1) dX10_why_10 fX10_10 hX.k hX.b rfl hX.r0 ?_
      refine aw_iload_n dX10_why_13 rfl ?_
      refine aw_cV dX10_why_14 kX10_132 mX7_homeAt (sX7_homeAt hS hC hO rfl hh) (Nat.le_of_ble_eq_true rfl) hS.k ⟨by decide, rfl⟩ hS.b0 rfl rfl (Nat.le_of_ble_eq_true rfl) ⟨Nat.le_refl _, Nat.le_refl _⟩ ?_
      refine aw_astore dX10_why_17 (by decide) rfl ?_
      refine aw_aload_nN dX10_why_19 rfl ?_
      refine aw_ifnullN (tgt := 28) dX10_why_20 rfl ?_
      refine aw_aload_n dX10_why_28 rfl ?_
      refine aw_iconst (v := 2) dX10_why_29 rfl ?_
      refine aw_cV dX10_why_30 kX10_76 mX10_fail (sX10_fail hX) (Nat.le_of_ble_eq_true rfl) hX.k ⟨by decide, rfl⟩ hX.b rfl rfl (Nat.le_of_ble_eq_true rfl) ⟨Nat.le_refl _, Nat.le_refl _⟩ ?_
      refine aw_iret q rfl dX10_why_33 ⟨Nat.le_refl _, Nat.le_refl _⟩ ?_
      refine Ct.no ?_
      unfold aWhy mOnes
      rw [h9x, h9y]
      rfl
  | true =>
    obtain ⟨p, hp, rfl⟩ := from_ix hN.p (by omega) h9x
    have e9p : (nI p).toNatClampNeg = p := nI_clamp (by omega)
    cases h9y : mFrom y 0 (N 230 - 1) with
    | false =>
      refine aw_aload_n dX10_why_0 rfl ?_
      refine aw_getR (b := 1) dX10_why_1 fX10_10 hX.k hX.b rfl hX.r0 ?_
      refine aw_iload_n dX10_why_4 rfl ?_
      refine aw_cV dX10_why_5 kX10_176 mX7_houseAt (sX7_houseAt hS hC hO rfl hp) (Nat.le_of_ble_eq_true rfl) hS.k ⟨by decide, rfl⟩ hS.b0 rfl rfl (Nat.le_of_ble_eq_true rfl) ⟨Nat.le_refl _, Nat.le_refl _⟩ ?_
      refine aw_astore_n dX10_why_8 (by decide) rfl ?_
      refine aw_aload_n dX10_why_9 rfl ?_
      refine aw_getR (b := 1) dX10_why_10 fX10_10 hX.k hX.b rfl hX.r0 ?_
      refine aw_iload_n dX10_why_13 rfl ?_
      refine aw_cV dX10_why_14 kX10_132 mX7_homeAt (sX7_homeAtN hS hC hO h9y) (Nat.le_of_ble_eq_true rfl) hS.k ⟨by decide, rfl⟩ hS.b0 rfl rfl (Nat.le_of_ble_eq_true rfl) ⟨Nat.le_refl _, Nat.le_refl _⟩ ?_
      refine aw_astoreN dX10_why_17 (by decide) rfl ?_
      refine aw_aload_n dX10_why_19 rfl ?_
      refine aw_ifnull dX10_why_20 ?_
      refine aw_aloadN dX10_why_23 rfl ?_
      refine aw_ifnonnullN dX10_why_25 ?_
      refine aw_aload_n dX10_why_28 rfl ?_
      refine aw_iconst (v := 2) dX10_why_29 rfl ?_
      refine aw_cV dX10_why_30 kX10_76 mX10_fail (sX10_fail hX) (Nat.le_of_ble_eq_true rfl) hX.k ⟨by decide, rfl⟩ hX.b rfl rfl (Nat.le_of_ble_eq_true rfl) ⟨Nat.le_refl _, Nat.le_refl _⟩ ?_
      refine aw_iret q rfl dX10_why_33 ⟨Nat.le_refl _, Nat.le_refl _⟩ ?_
      refine Ct.no ?_
      unfold aWhy mOnes
      rw [h9x, h9y]
      rfl
    | true =>
      obtain ⟨h, hh, rfl⟩ := from_ix hN.h (by omega) h9y
      have e9h : (nI h).toNatClampNeg = h := nI_clamp (by omega)
      refine aw_aload_n dX10_why_0 rfl ?_
      refine aw_getR (b := 1) dX10_why_1 fX10_10 hX.k hX.b rfl hX.r0 ?_
      refine aw_iload_n dX10_why_4 rfl ?_
      refine aw_cV dX10_why_5 kX10_176 mX7_houseAt (sX7_houseAt hS hC hO rfl hp) (Nat.le_of_ble_eq_true rfl) hS.k ⟨by decide, rfl⟩ hS.b0 rfl rfl (Nat.le_of_ble_eq_true rfl) ⟨Nat.le_refl _, Nat.le_refl _⟩ ?_
      refine aw_astore_n dX10_why_8 (by decide) rfl ?_
      refine aw_aload_n dX10_why_9 rfl ?_
      refine aw_getR (b := 1) dX10_why_10 fX10_10 hX.k hX.b rfl hX.r0 ?_
      refine aw_iload_n dX10_why_13 rfl ?_
      refine aw_cV dX10_why_14 kX10_132 mX7_homeAt (sX7_homeAt hS hC hO rfl hh) (Nat.le_of_ble_eq_true rfl) hS.k ⟨by decide, rfl⟩ hS.b0 rfl rfl (Nat.le_of_ble_eq_true rfl) ⟨Nat.le_refl _, Nat.le_refl _⟩ ?_
      refine aw_astore dX10_why_17 (by decide) rfl ?_
      refine aw_aload_n dX10_why_19 rfl ?_
      refine aw_ifnull dX10_why_20 ?_
      refine aw_aload dX10_why_23 rfl ?_
      refine aw_ifnonnull (tgt := 34) dX10_why_25 rfl ?_
      refine aw_aload_n dX10_why_34 rfl ?_
      refine aw_aload_n dX10_why_35 rfl ?_
      refine aw_getR (b := 1) dX10_why_36 fX10_10 hX.k hX.b rfl hX.r0 ?_
      refine aw_aload_n dX10_why_39 rfl ?_
      refine aw_aload dX10_why_40 rfl ?_
      refine aw_cV dX10_why_42 kX10_221 mX7_whyNot (sX7_whyNot hS hC hO hp hh) (Nat.le_of_ble_eq_true rfl) hS.k ⟨by decide, rfl⟩ hS.b0 rfl rfl (Nat.le_of_ble_eq_true rfl) ⟨Nat.le_refl _, Nat.le_refl _⟩ ?_
      refine aw_cV dX10_why_45 kX10_94 mX10_answer (sX10_answer hX) (Nat.le_of_ble_eq_true rfl) hX.k ⟨by decide, rfl⟩ hX.b rfl rfl (Nat.le_of_ble_eq_true rfl) ⟨Nat.le_refl _, Nat.le_refl _⟩ ?_
      refine aw_iret q rfl dX10_why_48 ⟨Nat.le_refl _, Nat.le_refl _⟩ ?_
      refine Ct.ok ?_
      unfold aWhy mOnes
      rw [h9x, h9y, e9p, e9h]
      rfl
set_option maxHeartbeats 4000000 in
set_option maxRecDepth 100000 in
theorem sX10_bids (hX : IsX n sh) (hC : CtS I L 1 N Q) (hIv : Iv N) {x y : Int32} : CM yX10_bids cX10_bids 5 (Option.some .int) 3 0 0 [.ref 0, .int x, .int y] z n sh I L (Ct (aBids N x y) z n sh I L) := by
  refine CM.go [some (.ref 0), some (.int x), some (.int y), none, none] rfl rfl (Nat.le_of_ble_eq_true rfl) (fun X g q => ?_)
  have hO := hIv.ok
  have hN := hO.1
  have hR := hO.2.1
  have hB := hO.2.2.1
  have hE := hO.2.2.2
  have h8 := hN.p8
  have h10 := hN.h10
  have hS := hX.now
  cases h9x : mFrom x 0 (N 231 - 1) with
  | false =>
    cases h9y : mFrom y 0 (N 230 - 1) with
    | false =>
      refine aw_aload_n dX10_bids_0 rfl ?_
      refine aw_getR (b := 1) dX10_bids_1 fX10_10 hX.k hX.b rfl hX.r0 ?_
      refine aw_iload_n dX10_bids_4 rfl ?_
      refine aw_cV dX10_bids_5 kX10_176 mX7_houseAt (sX7_houseAtN hS hC hO h9x) (Nat.le_of_ble_eq_true rfl) hS.k ⟨by decide, rfl⟩ hS.b0 rfl rfl (Nat.le_of_ble_eq_true rfl) ⟨Nat.le_refl _, Nat.le_refl _⟩ ?_
      refine aw_astore_nN dX10_bids_8 (by decide) rfl ?_
      refine aw_aload_n dX10_bids_9 rfl ?_
      refine aw_getR (b := 1) dX10_bids_10 fX10_10 hX.k hX.b rfl hX.r0 ?_
      refine aw_iload_n dX10_bids_13 rfl ?_
      refine aw_cV dX10_bids_14 kX10_132 mX7_homeAt (sX7_homeAtN hS hC hO h9y) (Nat.le_of_ble_eq_true rfl) hS.k ⟨by decide, rfl⟩ hS.b0 rfl rfl (Nat.le_of_ble_eq_true rfl) ⟨Nat.le_refl _, Nat.le_refl _⟩ ?_
      refine aw_astoreN dX10_bids_17 (by decide) rfl ?_
      refine aw_aload_nN dX10_bids_19 rfl ?_
      refine aw_ifnullN (tgt := 28) dX10_bids_20 rfl ?_
      refine aw_aload_n dX10_bids_28 rfl ?_
      refine aw_iconst (v := 2) dX10_bids_29 rfl ?_
      refine aw_cV dX10_bids_30 kX10_76 mX10_fail (sX10_fail hX) (Nat.le_of_ble_eq_true rfl) hX.k ⟨by decide, rfl⟩ hX.b rfl rfl (Nat.le_of_ble_eq_true rfl) ⟨Nat.le_refl _, Nat.le_refl _⟩ ?_
      refine aw_iret q rfl dX10_bids_33 ⟨Nat.le_refl _, Nat.le_refl _⟩ ?_
      refine Ct.no ?_
      unfold aBids mOnes
      rw [h9x, h9y]
      rfl
    | true =>
      obtain ⟨h, hh, rfl⟩ := from_ix hN.h (by omega) h9y
      have e9h : (nI h).toNatClampNeg = h := nI_clamp (by omega)
      refine aw_aload_n dX10_bids_0 rfl ?_
      refine aw_getR (b := 1) dX10_bids_1 fX10_10 hX.k hX.b rfl hX.r0 ?_
      refine aw_iload_n dX10_bids_4 rfl ?_
      refine aw_cV dX10_bids_5 kX10_176 mX7_houseAt (sX7_houseAtN hS hC hO h9x) (Nat.le_of_ble_eq_true rfl) hS.k ⟨by decide, rfl⟩ hS.b0 rfl rfl (Nat.le_of_ble_eq_true rfl) ⟨Nat.le_refl _, Nat.le_refl _⟩ ?_
      refine aw_astore_nN dX10_bids_8 (by decide) rfl ?_
      refine aw_aload_n dX10_bids_9 rfl ?_
      refine aw_getR (b := 1) dX10_bids_10 fX10_10 hX.k hX.b rfl hX.r0 ?_
      refine aw_iload_n dX10_bids_13 rfl ?_
      refine aw_cV dX10_bids_14 kX10_132 mX7_homeAt (sX7_homeAt hS hC hO rfl hh) (Nat.le_of_ble_eq_true rfl) hS.k ⟨by decide, rfl⟩ hS.b0 rfl rfl (Nat.le_of_ble_eq_true rfl) ⟨Nat.le_refl _, Nat.le_refl _⟩ ?_
      refine aw_astore dX10_bids_17 (by decide) rfl ?_
      refine aw_aload_nN dX10_bids_19 rfl ?_
      refine aw_ifnullN (tgt := 28) dX10_bids_20 rfl ?_
      refine aw_aload_n dX10_bids_28 rfl ?_
      refine aw_iconst (v := 2) dX10_bids_29 rfl ?_
      refine aw_cV dX10_bids_30 kX10_76 mX10_fail (sX10_fail hX) (Nat.le_of_ble_eq_true rfl) hX.k ⟨by decide, rfl⟩ hX.b rfl rfl (Nat.le_of_ble_eq_true rfl) ⟨Nat.le_refl _, Nat.le_refl _⟩ ?_
      refine aw_iret q rfl dX10_bids_33 ⟨Nat.le_refl _, Nat.le_refl _⟩ ?_
      refine Ct.no ?_
      unfold aBids mOnes
      rw [h9x, h9y]
      rfl
  | true =>
    obtain ⟨p, hp, rfl⟩ := from_ix hN.p (by omega) h9x
    have e9p : (nI p).toNatClampNeg = p := nI_clamp (by omega)
    cases h9y : mFrom y 0 (N 230 - 1) with
    | false =>
      refine aw_aload_n dX10_bids_0 rfl ?_
      refine aw_getR (b := 1) dX10_bids_1 fX10_10 hX.k hX.b rfl hX.r0 ?_
      refine aw_iload_n dX10_bids_4 rfl ?_
      refine aw_cV dX10_bids_5 kX10_176 mX7_houseAt (sX7_houseAt hS hC hO rfl hp) (Nat.le_of_ble_eq_true rfl) hS.k ⟨by decide, rfl⟩ hS.b0 rfl rfl (Nat.le_of_ble_eq_true rfl) ⟨Nat.le_refl _, Nat.le_refl _⟩ ?_
      refine aw_astore_n dX10_bids_8 (by decide) rfl ?_
      refine aw_aload_n dX10_bids_9 rfl ?_
      refine aw_getR (b := 1) dX10_bids_10 fX10_10 hX.k hX.b rfl hX.r0 ?_
      refine aw_iload_n dX10_bids_13 rfl ?_
      refine aw_cV dX10_bids_14 kX10_132 mX7_homeAt (sX7_homeAtN hS hC hO h9y) (Nat.le_of_ble_eq_true rfl) hS.k ⟨by decide, rfl⟩ hS.b0 rfl rfl (Nat.le_of_ble_eq_true rfl) ⟨Nat.le_refl _, Nat.le_refl _⟩ ?_
      refine aw_astoreN dX10_bids_17 (by decide) rfl ?_
      refine aw_aload_n dX10_bids_19 rfl ?_
      refine aw_ifnull dX10_bids_20 ?_
      refine aw_aloadN dX10_bids_23 rfl ?_
      refine aw_ifnonnullN dX10_bids_25 ?_
      refine aw_aload_n dX10_bids_28 rfl ?_
      refine aw_iconst (v := 2) dX10_bids_29 rfl ?_
      refine aw_cV dX10_bids_30 kX10_76 mX10_fail (sX10_fail hX) (Nat.le_of_ble_eq_true rfl) hX.k ⟨by decide, rfl⟩ hX.b rfl rfl (Nat.le_of_ble_eq_true rfl) ⟨Nat.le_refl _, Nat.le_refl _⟩ ?_
      refine aw_iret q rfl dX10_bids_33 ⟨Nat.le_refl _, Nat.le_refl _⟩ ?_
      refine Ct.no ?_
      unfold aBids mOnes
      rw [h9x, h9y]
      rfl
    | true =>
      obtain ⟨h, hh, rfl⟩ := from_ix hN.h (by omega) h9y
      have e9h : (nI h).toNatClampNeg = h := nI_clamp (by omega)
      refine aw_aload_n dX10_bids_0 rfl ?_
      refine aw_getR (b := 1) dX10_bids_1 fX10_10 hX.k hX.b rfl hX.r0 ?_
      refine aw_iload_n dX10_bids_4 rfl ?_
      refine aw_cV dX10_bids_5 kX10_176 mX7_houseAt (sX7_houseAt hS hC hO rfl hp) (Nat.le_of_ble_eq_true rfl) hS.k ⟨by decide, rfl⟩ hS.b0 rfl rfl (Nat.le_of_ble_eq_true rfl) ⟨Nat.le_refl _, Nat.le_refl _⟩ ?_
      refine aw_astore_n dX10_bids_8 (by decide) rfl ?_
      refine aw_aload_n dX10_bids_9 rfl ?_
      refine aw_getR (b := 1) dX10_bids_10 fX10_10 hX.k hX.b rfl hX.r0 ?_
      refine aw_iload_n dX10_bids_13 rfl ?_
      refine aw_cV dX10_bids_14 kX10_132 mX7_homeAt (sX7_homeAt hS hC hO rfl hh) (Nat.le_of_ble_eq_true rfl) hS.k ⟨by decide, rfl⟩ hS.b0 rfl rfl (Nat.le_of_ble_eq_true rfl) ⟨Nat.le_refl _, Nat.le_refl _⟩ ?_
      refine aw_astore dX10_bids_17 (by decide) rfl ?_
      refine aw_aload_n dX10_bids_19 rfl ?_
      refine aw_ifnull dX10_bids_20 ?_
      refine aw_aload dX10_bids_23 rfl ?_
      refine aw_ifnonnull (tgt := 34) dX10_bids_25 rfl ?_
      refine aw_aload_n dX10_bids_34 rfl ?_
      refine aw_aload_n dX10_bids_35 rfl ?_
      refine aw_aload dX10_bids_36 rfl ?_
      refine aw_cV dX10_bids_38 kX10_225 mX3_bidsFor (sX3_bidsFor hS hC hN hp (by omega)) (Nat.le_of_ble_eq_true rfl) (hS.po (by omega)) ⟨by decide, rfl⟩ (hS.pb (by omega)) rfl rfl (Nat.le_of_ble_eq_true rfl) ⟨Nat.le_refl _, Nat.le_refl _⟩ ?_
      refine aw_cV dX10_bids_41 kX10_154 mX10_answerFlag (sX10_answerFlag hX) (Nat.le_of_ble_eq_true rfl) hX.k ⟨by decide, rfl⟩ hX.b rfl rfl (Nat.le_of_ble_eq_true rfl) ⟨Nat.le_refl _, Nat.le_refl _⟩ ?_
      refine aw_iret q rfl dX10_bids_44 ⟨Nat.le_refl _, Nat.le_refl _⟩ ?_
      refine Ct.ok ?_
      unfold aBids mOnes
      rw [h9x, h9y, e9p]
      rfl
set_option maxHeartbeats 4000000 in
set_option maxRecDepth 100000 in
theorem sX10_turn (hX : IsX n sh) (hC : CtS I L 1 N Q) (hIv : Iv N) {x w : Int32} : CM yX10_turn cX10_turn 5 (Option.some .int) 4 0 0 [.ref 0, .int x, .int w] z n sh I L (Ct (aTurn N x w) z n sh I L) := by
  refine CM.go [some (.ref 0), some (.int x), some (.int w), none, none] rfl rfl (Nat.le_of_ble_eq_true rfl) (fun X g q => ?_)
  have hO := hIv.ok
  have hN := hO.1
  have hR := hO.2.1
  have hB := hO.2.2.1
  have hE := hO.2.2.2
  have h8 := hN.p8
  have h10 := hN.h10
  have hS := hX.now
  cases h9x : mFrom x 0 (N 230 - 1) with
  | false =>
    refine aw_iload_n dX10_turn_0 rfl ?_
    refine aw_if_lt (tgt := 9) dX10_turn_1 rfl (fun c1 => ?_) (fun c1 => ?_)
    · have hw := from_neg (b := 1) c1
      refine aw_aload_n dX10_turn_9 rfl ?_
      refine aw_iconst (v := 1) dX10_turn_10 rfl ?_
      refine aw_cV dX10_turn_11 kX10_76 mX10_fail (sX10_fail hX) (Nat.le_of_ble_eq_true rfl) hX.k ⟨by decide, rfl⟩ hX.b rfl rfl (Nat.le_of_ble_eq_true rfl) ⟨Nat.le_refl _, Nat.le_refl _⟩ ?_
      refine aw_iret q rfl dX10_turn_14 ⟨Nat.le_refl _, Nat.le_refl _⟩ ?_
      first | refine Ct.ok ?_ | refine Ct.no ?_
      simp [aTurn, h9x, hw]
    · skip
      refine aw_iload_n dX10_turn_4 rfl ?_
      refine aw_iconst (v := 1) dX10_turn_5 rfl ?_
      refine aw_icmp_le (tgt := 15) dX10_turn_6 rfl (fun c6 => ?_) (fun c6 => ?_)
      · have hw := from_in c1 c6
        refine aw_aload_n dX10_turn_15 rfl ?_
        refine aw_getR (b := 1) dX10_turn_16 fX10_10 hX.k hX.b rfl hX.r0 ?_
        refine aw_iload_n dX10_turn_19 rfl ?_
        refine aw_cV dX10_turn_20 kX10_132 mX7_homeAt (sX7_homeAtN hS hC hO h9x) (Nat.le_of_ble_eq_true rfl) hS.k ⟨by decide, rfl⟩ hS.b0 rfl rfl (Nat.le_of_ble_eq_true rfl) ⟨Nat.le_refl _, Nat.le_refl _⟩ ?_
        refine aw_astore_nN dX10_turn_23 (by decide) rfl ?_
        refine aw_aload_nN dX10_turn_24 rfl ?_
        refine aw_ifnonnullN dX10_turn_25 ?_
        refine aw_aload_n dX10_turn_28 rfl ?_
        refine aw_iconst (v := 2) dX10_turn_29 rfl ?_
        refine aw_cV dX10_turn_30 kX10_76 mX10_fail (sX10_fail hX) (Nat.le_of_ble_eq_true rfl) hX.k ⟨by decide, rfl⟩ hX.b rfl rfl (Nat.le_of_ble_eq_true rfl) ⟨Nat.le_refl _, Nat.le_refl _⟩ ?_
        refine aw_iret q rfl dX10_turn_33 ⟨Nat.le_refl _, Nat.le_refl _⟩ ?_
        first | refine Ct.ok ?_ | refine Ct.no ?_
        simp [aTurn, h9x, hw]
      · have hw := from_gt (a := 0) c6
        refine aw_aload_n dX10_turn_9 rfl ?_
        refine aw_iconst (v := 1) dX10_turn_10 rfl ?_
        refine aw_cV dX10_turn_11 kX10_76 mX10_fail (sX10_fail hX) (Nat.le_of_ble_eq_true rfl) hX.k ⟨by decide, rfl⟩ hX.b rfl rfl (Nat.le_of_ble_eq_true rfl) ⟨Nat.le_refl _, Nat.le_refl _⟩ ?_
        refine aw_iret q rfl dX10_turn_14 ⟨Nat.le_refl _, Nat.le_refl _⟩ ?_
        first | refine Ct.ok ?_ | refine Ct.no ?_
        simp [aTurn, h9x, hw]
  | true =>
    obtain ⟨h, hh, rfl⟩ := from_ix hN.h (by omega) h9x
    have e9h : (nI h).toNatClampNeg = h := nI_clamp (by omega)
    refine aw_iload_n dX10_turn_0 rfl ?_
    refine aw_if_lt (tgt := 9) dX10_turn_1 rfl (fun c1 => ?_) (fun c1 => ?_)
    · have hw := from_neg (b := 1) c1
      refine aw_aload_n dX10_turn_9 rfl ?_
      refine aw_iconst (v := 1) dX10_turn_10 rfl ?_
      refine aw_cV dX10_turn_11 kX10_76 mX10_fail (sX10_fail hX) (Nat.le_of_ble_eq_true rfl) hX.k ⟨by decide, rfl⟩ hX.b rfl rfl (Nat.le_of_ble_eq_true rfl) ⟨Nat.le_refl _, Nat.le_refl _⟩ ?_
      refine aw_iret q rfl dX10_turn_14 ⟨Nat.le_refl _, Nat.le_refl _⟩ ?_
      first | refine Ct.ok ?_ | refine Ct.no ?_
      simp [aTurn, h9x, e9h, hw]
    · skip
      refine aw_iload_n dX10_turn_4 rfl ?_
      refine aw_iconst (v := 1) dX10_turn_5 rfl ?_
      refine aw_icmp_le (tgt := 15) dX10_turn_6 rfl (fun c6 => ?_) (fun c6 => ?_)
      · have hw := from_in c1 c6
        refine aw_aload_n dX10_turn_15 rfl ?_
        refine aw_getR (b := 1) dX10_turn_16 fX10_10 hX.k hX.b rfl hX.r0 ?_
        refine aw_iload_n dX10_turn_19 rfl ?_
        refine aw_cV dX10_turn_20 kX10_132 mX7_homeAt (sX7_homeAt hS hC hO rfl hh) (Nat.le_of_ble_eq_true rfl) hS.k ⟨by decide, rfl⟩ hS.b0 rfl rfl (Nat.le_of_ble_eq_true rfl) ⟨Nat.le_refl _, Nat.le_refl _⟩ ?_
        refine aw_astore_n dX10_turn_23 (by decide) rfl ?_
        refine aw_aload_n dX10_turn_24 rfl ?_
        refine aw_ifnonnull (tgt := 34) dX10_turn_25 rfl ?_
        refine aw_iload_n dX10_turn_34 rfl ?_
        refine aw_if_ne (tgt := 42) dX10_turn_35 rfl (fun c35 => ?_) (fun c35 => ?_)
        · have hz : ¬ w = 0 := c35
          refine aw_iconst (v := 2) dX10_turn_42 rfl ?_
          refine aw_istore dX10_turn_43 (by decide) rfl ?_
          refine aw_aload_n dX10_turn_45 rfl ?_
          refine aw_aload_n dX10_turn_46 rfl ?_
          refine aw_getR (b := 1) dX10_turn_47 fX10_10 hX.k hX.b rfl hX.r0 ?_
          refine aw_aload_n dX10_turn_50 rfl ?_
          refine aw_cV dX10_turn_51 kX10_249 mX7_turnsAt (sX7_turnsAt hS hC hO hh) (Nat.le_of_ble_eq_true rfl) hS.k ⟨by decide, rfl⟩ hS.b0 rfl rfl (Nat.le_of_ble_eq_true rfl) ⟨Nat.le_refl _, Nat.le_refl _⟩ ?_
          refine aw_iload dX10_turn_54 rfl ?_
          refine aw_iand dX10_turn_56 ?_
          refine awt_if_eq (A := 1) (B := 0) dX10_turn_57 dX10_turn_60 dX10_turn_61 dX10_turn_64 rfl rfl ?_
          refine AW.top (trn_b2 (mLocal N h) (mQuota N)) ?_
          refine aw_cV dX10_turn_65 kX10_154 mX10_answerFlag (sX10_answerFlag hX) (Nat.le_of_ble_eq_true rfl) hX.k ⟨by decide, rfl⟩ hX.b rfl rfl (Nat.le_of_ble_eq_true rfl) ⟨Nat.le_refl _, Nat.le_refl _⟩ ?_
          refine aw_iret q rfl dX10_turn_68 ⟨Nat.le_refl _, Nat.le_refl _⟩ ?_
          refine Ct.ok ?_
          unfold aTurn
          rw [hw, h9x, e9h]
          simp [hz]
        · have hz : w = 0 := c35
          refine aw_iconst (v := 1) dX10_turn_38 rfl ?_
          refine aw_goto (tgt := 43) dX10_turn_39 rfl ?_
          refine aw_istore dX10_turn_43 (by decide) rfl ?_
          refine aw_aload_n dX10_turn_45 rfl ?_
          refine aw_aload_n dX10_turn_46 rfl ?_
          refine aw_getR (b := 1) dX10_turn_47 fX10_10 hX.k hX.b rfl hX.r0 ?_
          refine aw_aload_n dX10_turn_50 rfl ?_
          refine aw_cV dX10_turn_51 kX10_249 mX7_turnsAt (sX7_turnsAt hS hC hO hh) (Nat.le_of_ble_eq_true rfl) hS.k ⟨by decide, rfl⟩ hS.b0 rfl rfl (Nat.le_of_ble_eq_true rfl) ⟨Nat.le_refl _, Nat.le_refl _⟩ ?_
          refine aw_iload dX10_turn_54 rfl ?_
          refine aw_iand dX10_turn_56 ?_
          refine awt_if_eq (A := 1) (B := 0) dX10_turn_57 dX10_turn_60 dX10_turn_61 dX10_turn_64 rfl rfl ?_
          refine AW.top (trn_b1 (mLocal N h) (mQuota N)) ?_
          refine aw_cV dX10_turn_65 kX10_154 mX10_answerFlag (sX10_answerFlag hX) (Nat.le_of_ble_eq_true rfl) hX.k ⟨by decide, rfl⟩ hX.b rfl rfl (Nat.le_of_ble_eq_true rfl) ⟨Nat.le_refl _, Nat.le_refl _⟩ ?_
          refine aw_iret q rfl dX10_turn_68 ⟨Nat.le_refl _, Nat.le_refl _⟩ ?_
          refine Ct.ok ?_
          unfold aTurn
          rw [hw, h9x, e9h]
          simp [hz]
      · have hw := from_gt (a := 0) c6
        refine aw_aload_n dX10_turn_9 rfl ?_
        refine aw_iconst (v := 1) dX10_turn_10 rfl ?_
        refine aw_cV dX10_turn_11 kX10_76 mX10_fail (sX10_fail hX) (Nat.le_of_ble_eq_true rfl) hX.k ⟨by decide, rfl⟩ hX.b rfl rfl (Nat.le_of_ble_eq_true rfl) ⟨Nat.le_refl _, Nat.le_refl _⟩ ?_
        refine aw_iret q rfl dX10_turn_14 ⟨Nat.le_refl _, Nat.le_refl _⟩ ?_
        first | refine Ct.ok ?_ | refine Ct.no ?_
        simp [aTurn, h9x, e9h, hw]
set_option maxHeartbeats 4000000 in
set_option maxRecDepth 100000 in
theorem sX10_let (hX : IsX n sh) (hC : CtS I L 1 N Q) (hIv : Iv N) {k w : Int32} : CM yX10_let cX10_let 3 (Option.some .int) 2 0 0 [.ref 0, .int k, .int w] z n sh I L (Ct (aLet N k w) z n sh I L) := by
  refine CM.go [some (.ref 0), some (.int k), some (.int w)] rfl rfl (Nat.le_of_ble_eq_true rfl) (fun X g q => ?_)
  have hO := hIv.ok
  have hN := hO.1
  have hR := hO.2.1
  have hB := hO.2.2.1
  have hE := hO.2.2.2
  have h8 := hN.p8
  have h10 := hN.h10
  have hS := hX.now
  refine aw_iload_n dX10_let_0 rfl ?_
  refine aw_if_lt (tgt := 10) dX10_let_1 rfl (fun c1 => ?_) (fun c1 => ?_)
  · have hw := from_neg (b := 7) c1
    refine aw_aload_n dX10_let_10 rfl ?_
    refine aw_iconst (v := 1) dX10_let_11 rfl ?_
    refine aw_cV dX10_let_12 kX10_76 mX10_fail (sX10_fail hX) (Nat.le_of_ble_eq_true rfl) hX.k ⟨by decide, rfl⟩ hX.b rfl rfl (Nat.le_of_ble_eq_true rfl) ⟨Nat.le_refl _, Nat.le_refl _⟩ ?_
    refine aw_iret q rfl dX10_let_15 ⟨Nat.le_refl _, Nat.le_refl _⟩ ?_
    refine Ct.no ?_
    unfold aLet
    rw [hw]
    rfl
  · skip
    refine aw_iload_n dX10_let_4 rfl ?_
    refine aw_bipush (v := 7) dX10_let_5 rfl ?_
    refine aw_icmp_le (tgt := 16) dX10_let_7 rfl (fun c7 => ?_) (fun c7 => ?_)
    · have hw := from_in c1 c7
      refine aw_iload_n dX10_let_16 rfl ?_
      refine aw_if_lt (tgt := 34) dX10_let_17 rfl (fun c17 => ?_) (fun c17 => ?_)
      · have hk := from_neg (b := N 233 - 1) c17
        refine aw_aload_n dX10_let_34 rfl ?_
        refine aw_iconst (v := 2) dX10_let_35 rfl ?_
        refine aw_cV dX10_let_36 kX10_76 mX10_fail (sX10_fail hX) (Nat.le_of_ble_eq_true rfl) hX.k ⟨by decide, rfl⟩ hX.b rfl rfl (Nat.le_of_ble_eq_true rfl) ⟨Nat.le_refl _, Nat.le_refl _⟩ ?_
        refine aw_iret q rfl dX10_let_39 ⟨Nat.le_refl _, Nat.le_refl _⟩ ?_
        refine Ct.no ?_
        unfold aLet
        rw [hw, hk]
        rfl
      · skip
        refine aw_iload_n dX10_let_20 rfl ?_
        refine aw_aload_n dX10_let_21 rfl ?_
        refine aw_getR (b := 1) dX10_let_22 fX10_10 hX.k hX.b rfl hX.r0 ?_
        refine aw_getR (b := 1 + 30) dX10_let_25 fX10_109 hS.k hS.b0 rfl hS.r3 ?_
        refine aw_getI dX10_let_28 fX10_113 hS.tk (hS.lt (k := 30) (by decide)) rfl ?_
        refine AW.top (hC.nl.trans hN.l) ?_
        refine aw_icmp_lt (tgt := 40) dX10_let_31 rfl (fun c31 => ?_) (fun c31 => ?_)
        · have hk := lt_from hN.l (by have := hN.l8; omega) c17 c31
          refine aw_aload_n dX10_let_40 rfl ?_
          refine aw_aload_n dX10_let_41 rfl ?_
          refine aw_getR (b := 1) dX10_let_42 fX10_10 hX.k hX.b rfl hX.r0 ?_
          refine aw_getR (b := 1 + 30) dX10_let_45 fX10_109 hS.k hS.b0 rfl hS.r3 ?_
          refine aw_iload_n dX10_let_48 rfl ?_
          refine aw_iload_n dX10_let_49 rfl ?_
          have l8 := hN.l8
          obtain ⟨r, hr, rfl⟩ := from_ix hN.l (by omega) hk
          obtain ⟨u, hu, rfl⟩ := le_ix (B := 7) (by decide) c1 c7
          refine aw_cV dX10_let_50 kX10_252 mX8_at (sX8_at (hC.tbL hS hN) (r := r) (k := u) rfl (by omega) rfl (by omega)) (Nat.le_of_ble_eq_true rfl) hS.tk ⟨by decide, rfl⟩ (hS.lt (k := 30) (by decide)) rfl rfl (Nat.le_of_ble_eq_true rfl) ⟨Nat.le_refl _, Nat.le_refl _⟩ ?_
          refine aw_cV dX10_let_53 kX10_94 mX10_answer (sX10_answer hX) (Nat.le_of_ble_eq_true rfl) hX.k ⟨by decide, rfl⟩ hX.b rfl rfl (Nat.le_of_ble_eq_true rfl) ⟨Nat.le_refl _, Nat.le_refl _⟩ ?_
          refine aw_iret q rfl dX10_let_56 ⟨Nat.le_refl _, Nat.le_refl _⟩ ?_
          refine Ct.ok ?_
          unfold aLet
          rw [hw, hk, nI_clamp (by omega), nI_clamp (by omega)]
          have lt9 := hC.lt hr
          by_cases h5 : u = 5
          · subst h5
            show ok _ = ok _
            rw [if_pos (show nI 5 = (5 : Int32) from rfl)]
            exact (congrArg ok lt9.2.1).symm
          · show ok _ = ok _
            rw [if_neg (show ¬ nI u = (5 : Int32) from fun q => h5 ((nI_eq (b := 5) (by omega) (by decide)).mp q))]
            exact (congrArg ok (lt9.1 u (by omega) h5)).symm
        · have hk := ge_from hN.l (by have := hN.l8; omega) c31
          refine aw_aload_n dX10_let_34 rfl ?_
          refine aw_iconst (v := 2) dX10_let_35 rfl ?_
          refine aw_cV dX10_let_36 kX10_76 mX10_fail (sX10_fail hX) (Nat.le_of_ble_eq_true rfl) hX.k ⟨by decide, rfl⟩ hX.b rfl rfl (Nat.le_of_ble_eq_true rfl) ⟨Nat.le_refl _, Nat.le_refl _⟩ ?_
          refine aw_iret q rfl dX10_let_39 ⟨Nat.le_refl _, Nat.le_refl _⟩ ?_
          refine Ct.no ?_
          unfold aLet
          rw [hw, hk]
          rfl
    · have hw := from_gt (a := 0) c7
      refine aw_aload_n dX10_let_10 rfl ?_
      refine aw_iconst (v := 1) dX10_let_11 rfl ?_
      refine aw_cV dX10_let_12 kX10_76 mX10_fail (sX10_fail hX) (Nat.le_of_ble_eq_true rfl) hX.k ⟨by decide, rfl⟩ hX.b rfl rfl (Nat.le_of_ble_eq_true rfl) ⟨Nat.le_refl _, Nat.le_refl _⟩ ?_
      refine aw_iret q rfl dX10_let_15 ⟨Nat.le_refl _, Nat.le_refl _⟩ ?_
      refine Ct.no ?_
      unfold aLet
      rw [hw]
      rfl
set_option maxHeartbeats 4000000 in
set_option maxRecDepth 100000 in
theorem sX10_offer (hX : IsX n sh) (hC : CtS I L 1 N Q) (hIv : Iv N) {k w : Int32} : CM yX10_offer cX10_offer 3 (Option.some .int) 2 0 0 [.ref 0, .int k, .int w] z n sh I L (Ct (aOffer N k w) z n sh I L) := by
  refine CM.go [some (.ref 0), some (.int k), some (.int w)] rfl rfl (Nat.le_of_ble_eq_true rfl) (fun X g q => ?_)
  have hO := hIv.ok
  have hN := hO.1
  have hR := hO.2.1
  have hB := hO.2.2.1
  have hE := hO.2.2.2
  have h8 := hN.p8
  have h10 := hN.h10
  have hS := hX.now
  refine aw_iload_n dX10_offer_0 rfl ?_
  refine aw_if_lt (tgt := 9) dX10_offer_1 rfl (fun c1 => ?_) (fun c1 => ?_)
  · have hw := from_neg (b := 2) c1
    refine aw_aload_n dX10_offer_9 rfl ?_
    refine aw_iconst (v := 1) dX10_offer_10 rfl ?_
    refine aw_cV dX10_offer_11 kX10_76 mX10_fail (sX10_fail hX) (Nat.le_of_ble_eq_true rfl) hX.k ⟨by decide, rfl⟩ hX.b rfl rfl (Nat.le_of_ble_eq_true rfl) ⟨Nat.le_refl _, Nat.le_refl _⟩ ?_
    refine aw_iret q rfl dX10_offer_14 ⟨Nat.le_refl _, Nat.le_refl _⟩ ?_
    refine Ct.no ?_
    unfold aOffer
    rw [hw]
    rfl
  · skip
    refine aw_iload_n dX10_offer_4 rfl ?_
    refine aw_iconst (v := 2) dX10_offer_5 rfl ?_
    refine aw_icmp_le (tgt := 15) dX10_offer_6 rfl (fun c6 => ?_) (fun c6 => ?_)
    · have hw := from_in c1 c6
      refine aw_iload_n dX10_offer_15 rfl ?_
      refine aw_if_lt (tgt := 33) dX10_offer_16 rfl (fun c16 => ?_) (fun c16 => ?_)
      · have hk := from_neg (b := N 299 - 1) c16
        refine aw_aload_n dX10_offer_33 rfl ?_
        refine aw_iconst (v := 2) dX10_offer_34 rfl ?_
        refine aw_cV dX10_offer_35 kX10_76 mX10_fail (sX10_fail hX) (Nat.le_of_ble_eq_true rfl) hX.k ⟨by decide, rfl⟩ hX.b rfl rfl (Nat.le_of_ble_eq_true rfl) ⟨Nat.le_refl _, Nat.le_refl _⟩ ?_
        refine aw_iret q rfl dX10_offer_38 ⟨Nat.le_refl _, Nat.le_refl _⟩ ?_
        refine Ct.no ?_
        unfold aOffer
        rw [hw, hk]
        rfl
      · skip
        refine aw_iload_n dX10_offer_19 rfl ?_
        refine aw_aload_n dX10_offer_20 rfl ?_
        refine aw_getR (b := 1) dX10_offer_21 fX10_10 hX.k hX.b rfl hX.r0 ?_
        refine aw_getR (b := 1 + 32) dX10_offer_24 fX10_129 hS.k hS.b0 rfl hS.r4 ?_
        refine aw_getI dX10_offer_27 fX10_113 hS.ok (hS.lt (k := 32) (by decide)) rfl ?_
        refine AW.top (hC.no.trans hN.o) ?_
        refine aw_icmp_lt (tgt := 39) dX10_offer_30 rfl (fun c30 => ?_) (fun c30 => ?_)
        · have hk := lt_from hN.o (by have := hN.o30; omega) c16 c30
          refine aw_aload_n dX10_offer_39 rfl ?_
          refine aw_aload_n dX10_offer_40 rfl ?_
          refine aw_getR (b := 1) dX10_offer_41 fX10_10 hX.k hX.b rfl hX.r0 ?_
          refine aw_getR (b := 1 + 32) dX10_offer_44 fX10_129 hS.k hS.b0 rfl hS.r4 ?_
          refine aw_iload_n dX10_offer_47 rfl ?_
          refine aw_iload_n dX10_offer_48 rfl ?_
          have l8 := hN.o30
          obtain ⟨r, hr, rfl⟩ := from_ix hN.o (by omega) hk
          obtain ⟨u, hu, rfl⟩ := le_ix (B := 2) (by decide) c1 c6
          refine aw_cV dX10_offer_49 kX10_252 mX8_at (sX8_at (hC.tbO hS hN) (r := r) (k := u) rfl (by omega) rfl (by omega)) (Nat.le_of_ble_eq_true rfl) hS.ok ⟨by decide, rfl⟩ (hS.lt (k := 32) (by decide)) rfl rfl (Nat.le_of_ble_eq_true rfl) ⟨Nat.le_refl _, Nat.le_refl _⟩ ?_
          refine aw_cV dX10_offer_52 kX10_94 mX10_answer (sX10_answer hX) (Nat.le_of_ble_eq_true rfl) hX.k ⟨by decide, rfl⟩ hX.b rfl rfl (Nat.le_of_ble_eq_true rfl) ⟨Nat.le_refl _, Nat.le_refl _⟩ ?_
          refine aw_iret q rfl dX10_offer_55 ⟨Nat.le_refl _, Nat.le_refl _⟩ ?_
          refine Ct.ok ?_
          unfold aOffer
          rw [hw, hk, nI_clamp (by omega), nI_clamp (by omega)]
          exact (congrArg ok (hC.of hr (by omega))).symm
        · have hk := ge_from hN.o (by have := hN.o30; omega) c30
          refine aw_aload_n dX10_offer_33 rfl ?_
          refine aw_iconst (v := 2) dX10_offer_34 rfl ?_
          refine aw_cV dX10_offer_35 kX10_76 mX10_fail (sX10_fail hX) (Nat.le_of_ble_eq_true rfl) hX.k ⟨by decide, rfl⟩ hX.b rfl rfl (Nat.le_of_ble_eq_true rfl) ⟨Nat.le_refl _, Nat.le_refl _⟩ ?_
          refine aw_iret q rfl dX10_offer_38 ⟨Nat.le_refl _, Nat.le_refl _⟩ ?_
          refine Ct.no ?_
          unfold aOffer
          rw [hw, hk]
          rfl
    · have hw := from_gt (a := 0) c6
      refine aw_aload_n dX10_offer_9 rfl ?_
      refine aw_iconst (v := 1) dX10_offer_10 rfl ?_
      refine aw_cV dX10_offer_11 kX10_76 mX10_fail (sX10_fail hX) (Nat.le_of_ble_eq_true rfl) hX.k ⟨by decide, rfl⟩ hX.b rfl rfl (Nat.le_of_ble_eq_true rfl) ⟨Nat.le_refl _, Nat.le_refl _⟩ ?_
      refine aw_iret q rfl dX10_offer_14 ⟨Nat.le_refl _, Nat.le_refl _⟩ ?_
      refine Ct.no ?_
      unfold aOffer
      rw [hw]
      rfl
set_option maxHeartbeats 4000000 in
set_option maxRecDepth 100000 in
theorem sX10_lack (hX : IsX n sh) (hC : CtS I L 1 N Q) (hIv : Iv N) {x : Int32} : CM yX10_lack cX10_lack 2 (Option.some .int) 3 0 0 [.ref 0, .int x] z n sh I L (Ct (aLack N x) z n sh I L) := by
  refine CM.go [some (.ref 0), some (.int x)] rfl rfl (Nat.le_of_ble_eq_true rfl) (fun X g q => ?_)
  have hO := hIv.ok
  have hN := hO.1
  have hR := hO.2.1
  have hB := hO.2.2.1
  have hE := hO.2.2.2
  have h8 := hN.p8
  have h10 := hN.h10
  have hS := hX.now
  refine aw_iload_n dX10_lack_0 rfl ?_
  refine aw_iconst (v := 1) dX10_lack_1 rfl ?_
  refine aw_icmp_lt (tgt := 10) dX10_lack_2 rfl (fun c2 => ?_) (fun c2 => ?_)
  · have hw := from_lo (b := 4) c2
    refine aw_aload_n dX10_lack_10 rfl ?_
    refine aw_iconst (v := 1) dX10_lack_11 rfl ?_
    refine aw_cV dX10_lack_12 kX10_76 mX10_fail (sX10_fail hX) (Nat.le_of_ble_eq_true rfl) hX.k ⟨by decide, rfl⟩ hX.b rfl rfl (Nat.le_of_ble_eq_true rfl) ⟨Nat.le_refl _, Nat.le_refl _⟩ ?_
    refine aw_iret q rfl dX10_lack_15 ⟨Nat.le_refl _, Nat.le_refl _⟩ ?_
    first | refine Ct.ok ?_ | refine Ct.no ?_
    simp [aLack, hw]
  · skip
    refine aw_iload_n dX10_lack_5 rfl ?_
    refine aw_iconst (v := 4) dX10_lack_6 rfl ?_
    refine aw_icmp_le (tgt := 16) dX10_lack_7 rfl (fun c7 => ?_) (fun c7 => ?_)
    · have hw := from_in c2 c7
      refine aw_aload_n dX10_lack_16 rfl ?_
      refine aw_aload_n dX10_lack_17 rfl ?_
      refine aw_getR (b := 1) dX10_lack_18 fX10_10 hX.k hX.b rfl hX.r0 ?_
      refine aw_iload_n dX10_lack_21 rfl ?_
      refine aw_cV dX10_lack_22 kX10_265 mX7_lackOf (sX7_lackOf hS hC hO) (Nat.le_of_ble_eq_true rfl) hS.k ⟨by decide, rfl⟩ hS.b0 rfl rfl (Nat.le_of_ble_eq_true rfl) ⟨Nat.le_refl _, Nat.le_refl _⟩ ?_
      refine aw_cV dX10_lack_25 kX10_94 mX10_answer (sX10_answer hX) (Nat.le_of_ble_eq_true rfl) hX.k ⟨by decide, rfl⟩ hX.b rfl rfl (Nat.le_of_ble_eq_true rfl) ⟨Nat.le_refl _, Nat.le_refl _⟩ ?_
      refine aw_iret q rfl dX10_lack_28 ⟨Nat.le_refl _, Nat.le_refl _⟩ ?_
      first | refine Ct.ok ?_ | refine Ct.no ?_
      simp [aLack, hw]
    · have hw := from_gt (a := 1) c7
      refine aw_aload_n dX10_lack_10 rfl ?_
      refine aw_iconst (v := 1) dX10_lack_11 rfl ?_
      refine aw_cV dX10_lack_12 kX10_76 mX10_fail (sX10_fail hX) (Nat.le_of_ble_eq_true rfl) hX.k ⟨by decide, rfl⟩ hX.b rfl rfl (Nat.le_of_ble_eq_true rfl) ⟨Nat.le_refl _, Nat.le_refl _⟩ ?_
      refine aw_iret q rfl dX10_lack_15 ⟨Nat.le_refl _, Nat.le_refl _⟩ ?_
      first | refine Ct.ok ?_ | refine Ct.no ?_
      simp [aLack, hw]
theorem if_z01 (x y : Int32) : z01 (if x = y then (1 : Int32) else 0) := by
  by_cases h : x = y
  · rw [if_pos h]
    exact Or.inr rfl
  · rw [if_neg h]
    exact Or.inl rfl
set_option maxHeartbeats 4000000 in
set_option maxRecDepth 100000 in
theorem sX10_fits (hX : IsX n sh) (hC : CtS I L 1 N Q) (hIv : Iv N) {x w : Int32} : CM yX10_fits cX10_fits 4 (Option.some .int) 4 0 0 [.ref 0, .int x, .int w] z n sh I L (Ct (aFits N x w) z n sh I L) := by
  refine CM.go [some (.ref 0), some (.int x), some (.int w), none] rfl rfl (Nat.le_of_ble_eq_true rfl) (fun X g q => ?_)
  have hO := hIv.ok
  have hN := hO.1
  have hR := hO.2.1
  have hB := hO.2.2.1
  have hE := hO.2.2.2
  have h8 := hN.p8
  have h10 := hN.h10
  have hS := hX.now
  cases h9x : mFrom x 0 (N 231 - 1) with
  | false =>
    refine aw_iload_n dX10_fits_0 rfl ?_
    refine aw_if_lt (tgt := 9) dX10_fits_1 rfl (fun c1 => ?_) (fun c1 => ?_)
    · have hw := from_neg (b := 2) c1
      refine aw_aload_n dX10_fits_9 rfl ?_
      refine aw_iconst (v := 1) dX10_fits_10 rfl ?_
      refine aw_cV dX10_fits_11 kX10_76 mX10_fail (sX10_fail hX) (Nat.le_of_ble_eq_true rfl) hX.k ⟨by decide, rfl⟩ hX.b rfl rfl (Nat.le_of_ble_eq_true rfl) ⟨Nat.le_refl _, Nat.le_refl _⟩ ?_
      refine aw_iret q rfl dX10_fits_14 ⟨Nat.le_refl _, Nat.le_refl _⟩ ?_
      first | refine Ct.ok ?_ | refine Ct.no ?_
      simp [aFits, h9x, hw]
    · skip
      refine aw_iload_n dX10_fits_4 rfl ?_
      refine aw_iconst (v := 2) dX10_fits_5 rfl ?_
      refine aw_icmp_le (tgt := 15) dX10_fits_6 rfl (fun c6 => ?_) (fun c6 => ?_)
      · have hw := from_in c1 c6
        refine aw_aload_n dX10_fits_15 rfl ?_
        refine aw_getR (b := 1) dX10_fits_16 fX10_10 hX.k hX.b rfl hX.r0 ?_
        refine aw_iload_n dX10_fits_19 rfl ?_
        refine aw_cV dX10_fits_20 kX10_176 mX7_houseAt (sX7_houseAtN hS hC hO h9x) (Nat.le_of_ble_eq_true rfl) hS.k ⟨by decide, rfl⟩ hS.b0 rfl rfl (Nat.le_of_ble_eq_true rfl) ⟨Nat.le_refl _, Nat.le_refl _⟩ ?_
        refine aw_astore_nN dX10_fits_23 (by decide) rfl ?_
        refine aw_aload_nN dX10_fits_24 rfl ?_
        refine aw_ifnonnullN dX10_fits_25 ?_
        refine aw_aload_n dX10_fits_28 rfl ?_
        refine aw_iconst (v := 2) dX10_fits_29 rfl ?_
        refine aw_cV dX10_fits_30 kX10_76 mX10_fail (sX10_fail hX) (Nat.le_of_ble_eq_true rfl) hX.k ⟨by decide, rfl⟩ hX.b rfl rfl (Nat.le_of_ble_eq_true rfl) ⟨Nat.le_refl _, Nat.le_refl _⟩ ?_
        refine aw_iret q rfl dX10_fits_33 ⟨Nat.le_refl _, Nat.le_refl _⟩ ?_
        first | refine Ct.ok ?_ | refine Ct.no ?_
        simp [aFits, h9x, hw]
      · have hw := from_gt (a := 0) c6
        refine aw_aload_n dX10_fits_9 rfl ?_
        refine aw_iconst (v := 1) dX10_fits_10 rfl ?_
        refine aw_cV dX10_fits_11 kX10_76 mX10_fail (sX10_fail hX) (Nat.le_of_ble_eq_true rfl) hX.k ⟨by decide, rfl⟩ hX.b rfl rfl (Nat.le_of_ble_eq_true rfl) ⟨Nat.le_refl _, Nat.le_refl _⟩ ?_
        refine aw_iret q rfl dX10_fits_14 ⟨Nat.le_refl _, Nat.le_refl _⟩ ?_
        first | refine Ct.ok ?_ | refine Ct.no ?_
        simp [aFits, h9x, hw]
  | true =>
    obtain ⟨p, hp, rfl⟩ := from_ix hN.p (by omega) h9x
    have e9p : (nI p).toNatClampNeg = p := nI_clamp (by omega)
    refine aw_iload_n dX10_fits_0 rfl ?_
    refine aw_if_lt (tgt := 9) dX10_fits_1 rfl (fun c1 => ?_) (fun c1 => ?_)
    · have hw := from_neg (b := 2) c1
      refine aw_aload_n dX10_fits_9 rfl ?_
      refine aw_iconst (v := 1) dX10_fits_10 rfl ?_
      refine aw_cV dX10_fits_11 kX10_76 mX10_fail (sX10_fail hX) (Nat.le_of_ble_eq_true rfl) hX.k ⟨by decide, rfl⟩ hX.b rfl rfl (Nat.le_of_ble_eq_true rfl) ⟨Nat.le_refl _, Nat.le_refl _⟩ ?_
      refine aw_iret q rfl dX10_fits_14 ⟨Nat.le_refl _, Nat.le_refl _⟩ ?_
      first | refine Ct.ok ?_ | refine Ct.no ?_
      simp [aFits, h9x, e9p, hw]
    · skip
      refine aw_iload_n dX10_fits_4 rfl ?_
      refine aw_iconst (v := 2) dX10_fits_5 rfl ?_
      refine aw_icmp_le (tgt := 15) dX10_fits_6 rfl (fun c6 => ?_) (fun c6 => ?_)
      · have hw := from_in c1 c6
        refine aw_aload_n dX10_fits_15 rfl ?_
        refine aw_getR (b := 1) dX10_fits_16 fX10_10 hX.k hX.b rfl hX.r0 ?_
        refine aw_iload_n dX10_fits_19 rfl ?_
        refine aw_cV dX10_fits_20 kX10_176 mX7_houseAt (sX7_houseAt hS hC hO rfl hp) (Nat.le_of_ble_eq_true rfl) hS.k ⟨by decide, rfl⟩ hS.b0 rfl rfl (Nat.le_of_ble_eq_true rfl) ⟨Nat.le_refl _, Nat.le_refl _⟩ ?_
        refine aw_astore_n dX10_fits_23 (by decide) rfl ?_
        refine aw_aload_n dX10_fits_24 rfl ?_
        refine aw_ifnonnull (tgt := 34) dX10_fits_25 rfl ?_
        refine aw_aload_n dX10_fits_34 rfl ?_
        refine aw_aload_n dX10_fits_35 rfl ?_
        refine aw_getR (b := 1) dX10_fits_36 fX10_10 hX.k hX.b rfl hX.r0 ?_
        refine aw_aload_n dX10_fits_39 rfl ?_
        refine aw_iload_n dX10_fits_40 rfl ?_
        refine aw_iconst (v := 1) dX10_fits_41 rfl ?_
        refine awt_icmp_ne (A := 1) (B := 0) dX10_fits_42 dX10_fits_45 dX10_fits_46 dX10_fits_49 rfl rfl ?_
        refine aw_iload_n dX10_fits_50 rfl ?_
        refine aw_iconst (v := 2) dX10_fits_51 rfl ?_
        refine awt_icmp_ne (A := 1) (B := 0) dX10_fits_52 dX10_fits_55 dX10_fits_56 dX10_fits_59 rfl rfl ?_
        refine aw_cV dX10_fits_60 kX10_293 mX7_homesThatFit (sX7_homesThatFit hS hC hO hp (if_z01 _ _) (if_z01 _ _)) (Nat.le_of_ble_eq_true rfl) hS.k ⟨by decide, rfl⟩ hS.b0 rfl rfl (Nat.le_of_ble_eq_true rfl) ⟨Nat.le_refl _, Nat.le_refl _⟩ ?_
        refine aw_cV dX10_fits_63 kX10_94 mX10_answer (sX10_answer hX) (Nat.le_of_ble_eq_true rfl) hX.k ⟨by decide, rfl⟩ hX.b rfl rfl (Nat.le_of_ble_eq_true rfl) ⟨Nat.le_refl _, Nat.le_refl _⟩ ?_
        refine aw_iret q rfl dX10_fits_66 ⟨Nat.le_refl _, Nat.le_refl _⟩ ?_
        refine Ct.ok ?_
        unfold aFits
        rw [hw, h9x, e9p]
        show ok _ = ok _
        refine congrArg ok (iset_cong (fun k hk => ?_))
        obtain ⟨u, hu, rfl⟩ := le_ix (B := 2) (by decide) c1 c6
        unfold fitP
        have : u = 0 ∨ u = 1 ∨ u = 2 := by omega
        rcases this with e | e | e <;> subst e
        · simp [dec_b1, show ¬ (nI 0 : Int32) = 1 by decide, show ¬ (nI 0 : Int32) = 2 by decide, show (nI 0 : Int32) = 0 by decide]
        · simp [dec_b1, show (nI 1 : Int32) = 1 by decide, show ¬ (1 : Int32) = 2 by decide, show ¬ (1 : Int32) = 0 by decide]
        · simp [dec_b1, show (nI 2 : Int32) = 2 by decide, show ¬ (2 : Int32) = 1 by decide, show ¬ (2 : Int32) = 0 by decide]
      · have hw := from_gt (a := 0) c6
        refine aw_aload_n dX10_fits_9 rfl ?_
        refine aw_iconst (v := 1) dX10_fits_10 rfl ?_
        refine aw_cV dX10_fits_11 kX10_76 mX10_fail (sX10_fail hX) (Nat.le_of_ble_eq_true rfl) hX.k ⟨by decide, rfl⟩ hX.b rfl rfl (Nat.le_of_ble_eq_true rfl) ⟨Nat.le_refl _, Nat.le_refl _⟩ ?_
        refine aw_iret q rfl dX10_fits_14 ⟨Nat.le_refl _, Nat.le_refl _⟩ ?_
        first | refine Ct.ok ?_ | refine Ct.no ?_
        simp [aFits, h9x, e9p, hw]
end ClsS
