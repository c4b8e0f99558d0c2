/-! the class: kinds of what is read -/
theorem cTk_4 : ∀ k, k ≤ 4 → (cTk k = 4 ↔ k = 1) := by decide
theorem cTk_1 : ∀ k, k ≤ 4 → (cTk k = 1 ↔ k = 2) := by decide
theorem cTk_2 : ∀ k, k ≤ 4 → (cTk k = 2 ↔ k = 3) := by decide
theorem cTk_3 : ∀ k, k ≤ 4 → (cTk k = 3 ↔ k = 4) := by decide
theorem cTk_0 : ∀ k, k ≤ 4 → (cTk k = 0 ↔ k = 0) := by decide
theorem kwL_none {w : Int64} : ∀ n, n ≤ 10 → (kwL w n = -1 ↔ ∀ i, i < n → ¬ wdK9 (kwM i) = w)
  | 0, _ => ⟨fun _ i hi => absurd hi (Nat.not_lt_zero i), fun _ => rfl⟩
  | n + 1, hn => by
    have ih := kwL_none (w := w) n (by omega)
    rw [kwL]
    by_cases e : wdK9 (kwM n) = w
    · rw [if_pos e]
      exact ⟨fun z => absurd z (nI_ne_m1 (by omega)), fun z => absurd e (z n (by omega))⟩
    · rw [if_neg e, ih]
      constructor
      · intro z i hi
        by_cases q : i = n
        · rw [q]; exact e
        · exact z i (by omega)
      · exact fun z i hi => z i (by omega)
theorem kwM_to : ∀ i, i < 10 → ∃ j, j < 10 ∧ kwM j = i := by decide
theorem kwM_lt : ∀ i, i < 10 → kwM i < 10 := by decide
theorem wdK9_inj : ∀ i, i < 10 → ∀ j, j < 10 → wdK9 i = wdK9 j → i = j := by decide +kernel
theorem kwM_inj : ∀ i, i < 10 → ∀ j, j < 10 → kwM i = kwM j → i = j := by decide
theorem kwL_is {w : Int64} {i : Nat} : ∀ n, n ≤ 10 → i < n → wdK9 (kwM i) = w → kwL w n = nI i
  | n + 1, hn, hi, e => by
    rw [kwL]
    by_cases q : i = n
    · subst q
      rw [if_pos e]
    · rw [if_neg (fun z => q (kwM_inj i (by omega) n (by omega) (wdK9_inj _ (kwM_lt i (by omega)) _ (kwM_lt n (by omega)) (e.trans z.symm))))]
      exact kwL_is n (by omega) (by omega) e
theorem kwL_at {w : Int64} {i : Nat} (hi : i < 10) : kwL w 10 = nI i ↔ wdK9 (kwM i) = w := by
  constructor
  · intro h
    refine Classical.byContradiction (fun hne => ?_)
    by_cases hz : kwL w 10 = -1
    · rw [hz] at h
      exact absurd h.symm (nI_ne_m1 (by omega))
    · have : ¬ ∀ i, i < 10 → ¬ wdK9 (kwM i) = w := fun z => hz ((kwL_none 10 (Nat.le_refl _)).mpr z)
      refine this (fun j hj ej => ?_)
      rw [kwL_is 10 (Nat.le_refl _) hj ej] at h
      have := (nI_eq (by omega) (by omega)).mp h
      subst this
      exact hne ej
  · exact kwL_is 10 (Nat.le_refl _) hi
theorem tNm_iff {k : Tk} : tNm k = true ↔ k.2.2.1 = 2 ∧ kwL k.2.2.2.1 10 = -1 := by
  unfold tNm
  rw [Bool.and_eq_true, decide_eq_true_iff, decide_eq_true_iff, kwL_none 10 (Nat.le_refl _)]
  constructor
  · rintro ⟨h1, h2⟩
    refine ⟨h1, fun i hi e => ?_⟩
    have := fa_first_no (tWd k) 10 (kwM i) (by rw [h2]; exact kwM_lt i hi)
    unfold tWd at this
    rw [decide_eq_true h1, decide_eq_true e.symm] at this
    cases this
  · rintro ⟨h1, h2⟩
    refine ⟨h1, ff_full (fun hlt => ?_)⟩
    have := fa_first_yes (tWd k) 10 hlt
    obtain ⟨j, hj, ej⟩ := kwM_to _ hlt
    have e := of_decide_eq_true (andT this).2
    exact h2 j hj (by rw [ej]; exact e.symm)
/-- a fault told -/
def flC (I : MI) (c : Int32) (p : Nat) : MI := upI (upI I 479 3 c) 479 4 (nI p)
section ClsS
variable {z n : Nat} {sh : Shp} {I : MI} {L : ML} {N : Nat → Int32} {Q : Nat → Int64}
set_option maxHeartbeats 4000000 in
set_option maxRecDepth 100000 in
theorem sX6_misplaced (hX : IsX n sh) {T : Nat → Int32} {s : Nat} {k : Tk} (hA : AtC I L T s k) (hk : k.2.2.1 ≤ 4)  : CM yX6_misplaced cX6_misplaced 1 (Option.some .boolean) 2 0 0 [.ref 479] z n sh I L (Pst (some (.int (bI false))) z n sh (flC I (if k.2.2.1 = 1 then 1 else 2) k.1) L) := by
  refine CM.go [some (.ref 479)] rfl rfl (Nat.le_of_ble_eq_true rfl) (fun X g q => ?_)
  obtain ⟨a1, a2, a3, a4, a5, a6, a7⟩ := hA
  refine aw_aload_n dX6_misplaced_0 rfl ?_
  refine aw_aload_n dX6_misplaced_1 rfl ?_
  refine aw_getI dX6_misplaced_2 fX6_62 hX.rdr.1 (hX.lt (by decide)) rfl ?_
  refine AW.top a5 ?_
  refine aw_iconst (v := 4) dX6_misplaced_5 rfl ?_
  refine aw_icmp_ne (tgt := 13) dX6_misplaced_6 rfl (fun c6 => ?_) (fun c6 => ?_)
  · have hf : ¬ k.2.2.1 = 1 := fun z => c6 ((cTk_4 _ hk).mpr z)
    refine aw_iconst (v := 2) dX6_misplaced_13 rfl ?_
    refine aw_cV dX6_misplaced_14 kX6_90 mX6_wrong (sX6_wrong hX) (Nat.le_of_ble_eq_true rfl) hX.rdr.1 ⟨by decide, rfl⟩ (hX.lt (by decide)) rfl rfl (Nat.le_of_ble_eq_true rfl) ⟨Nat.le_refl _, Nat.le_refl _⟩ ?_
    refine aw_zret q rfl (Or.inl rfl) dX6_misplaced_17 ⟨Nat.le_refl _, Nat.le_refl _⟩ ?_
    refine ⟨rfl, rfl, rfl, rfl, ?_, rfl⟩
    unfold flC
    rw [a3, if_neg hf]
  · have hf : k.2.2.1 = 1 := (cTk_4 _ hk).mp c6
    refine aw_iconst (v := 1) dX6_misplaced_9 rfl ?_
    refine aw_goto (tgt := 14) dX6_misplaced_10 rfl ?_
    refine aw_cV dX6_misplaced_14 kX6_90 mX6_wrong (sX6_wrong hX) (Nat.le_of_ble_eq_true rfl) hX.rdr.1 ⟨by decide, rfl⟩ (hX.lt (by decide)) rfl rfl (Nat.le_of_ble_eq_true rfl) ⟨Nat.le_refl _, Nat.le_refl _⟩ ?_
    refine aw_zret q rfl (Or.inl rfl) dX6_misplaced_17 ⟨Nat.le_refl _, Nat.le_refl _⟩ ?_
    refine ⟨rfl, rfl, rfl, rfl, ?_, rfl⟩
    unfold flC
    rw [a3, if_pos hf]
set_option maxHeartbeats 4000000 in
set_option maxRecDepth 100000 in
theorem sX6_isName (hX : IsX n sh) {T : Nat → Int32} {s : Nat} {k : Tk} (hA : AtC I L T s k) (hk : k.2.2.1 ≤ 4)  : CM yX6_isName cX6_isName 1 (Option.some .boolean) 1 0 0 [.ref 479] z n sh I L (Pst (some (.int (bI (tNm k)))) z n sh I L) := by
  refine CM.go [some (.ref 479)] rfl rfl (Nat.le_of_ble_eq_true rfl) (fun X g q => ?_)
  obtain ⟨a1, a2, a3, a4, a5, a6, a7⟩ := hA
  refine aw_aload_n dX6_isName_0 rfl ?_
  refine aw_getI dX6_isName_1 fX6_62 hX.rdr.1 (hX.lt (by decide)) rfl ?_
  refine AW.top a5 ?_
  refine aw_iconst (v := 1) dX6_isName_4 rfl ?_
  refine aw_icmp_ne (tgt := 20) dX6_isName_5 rfl (fun c5 => ?_) (fun c5 => ?_)
  · have hf : tNm k = false := by
      cases b : tNm k with
      | false => rfl
      | true => exact absurd ((cTk_1 _ hk).mpr (tNm_iff.mp b).1) c5
    refine aw_iconst (v := 0) dX6_isName_20 rfl ?_
    refine aw_zret q rfl (by decide) dX6_isName_21 ⟨Nat.le_refl _, Nat.le_refl _⟩ ?_
    refine Pst.iv ?_
    rw [hf]
    rfl
  · have h2 := (cTk_1 _ hk).mp c5
    refine aw_aload_n dX6_isName_8 rfl ?_
    refine aw_getI dX6_isName_9 fX6_76 hX.rdr.1 (hX.lt (by decide)) rfl ?_
    refine AW.top (a6 h2).2 ?_
    refine aw_iconst (v := (-1)) dX6_isName_12 rfl ?_
    refine aw_icmp_ne (tgt := 20) dX6_isName_13 rfl (fun c13 => ?_) (fun c13 => ?_)
    · have hf : tNm k = false := by
        cases b : tNm k with
        | false => rfl
        | true => exact absurd (tNm_iff.mp b).2 c13
      refine aw_iconst (v := 0) dX6_isName_20 rfl ?_
      refine aw_zret q rfl (by decide) dX6_isName_21 ⟨Nat.le_refl _, Nat.le_refl _⟩ ?_
      refine Pst.iv ?_
      rw [hf]
      rfl
    · have hf : tNm k = true := tNm_iff.mpr ⟨h2, c13⟩
      refine aw_iconst (v := 1) dX6_isName_16 rfl ?_
      refine aw_goto (tgt := 21) dX6_isName_17 rfl ?_
      refine aw_zret q rfl (by decide) dX6_isName_21 ⟨Nat.le_refl _, Nat.le_refl _⟩ ?_
      refine Pst.iv ?_
      rw [hf]
      rfl
end ClsS
