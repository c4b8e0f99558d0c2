/-! every act, where it is done, keeps what a row keeps to -/
def AK (N : Nat → Int32) (a : Act) : Prop := ∀ w, a = .inr w → Iv w.2 ∧ Ex w.2 ∧ w.2 230 = N 230 ∧ w.2 231 = N 231
section AK9
variable {N : Nat → Int32}
theorem rg_lt {x : Int32} (r : rg x 0 999) (h : ¬ x = 999) : x < 999 := by
  obtain ⟨v, rfl, -, h2⟩ := r
  have hv : v ≠ 999 := fun z => h (by rw [z]; rfl)
  exact (nI_ltI (b := 999) (by omega) (by omega)).mpr (by omega)
theorem from_rg {v : Int32} (h : mFrom v 1 4 = true) : rg v 1 4 := by
  unfold mFrom at h
  rw [Bool.and_eq_true, decide_eq_true_eq, decide_eq_true_eq] at h
  have h0 : ¬ v < 0 := fun z => by
    have a1 := Int32.lt_iff_toInt_lt.mp z
    have a2 := Int32.le_iff_toInt_le.mp h.1
    have e0 : (0 : Int32).toInt = 0 := by decide
    have e1 : (1 : Int32).toInt = 1 := by decide
    omega
  obtain ⟨j, hj, rfl⟩ := nI_of h0
  exact ⟨j, rfl, (nI_leI (a := 1) (by omega) hj).mp h.1, (nI_leI (b := 4) hj (by omega)).mp h.2⟩
theorem bid_AK (iv : Iv N) (x : Ex N) {a b : Int32} : AK N (aBid N a b) := by
  intro w e
  unfold aBid at e
  split at e
  · cases e
  · rename_i ho
    split at e
    · cases e
    · rename_i hw
      cases e
      obtain ⟨p, h, hp, hh, p8, h10, rfl, rfl, e1, e2⟩ := ones_ix iv.1 (show mOnes N a b = true by simpa using ho)
      rw [e1, e2] at hw ⊢
      exact ⟨bidN_Iv iv p8 h10, bid_Ex x iv.1 iv.2.2.2.1 hp hh (Classical.not_not.mp hw), upd_ne (by omega), upd_ne (by omega)⟩
theorem unbid_AK (iv : Iv N) (x : Ex N) {a b : Int32} : AK N (aUnbid N a b) := by
  intro w e
  unfold aUnbid at e
  split at e
  · cases e
  · rename_i ho
    split at e
    · cases e
    · cases e
      obtain ⟨p, h, hp, hh, p8, h10, rfl, rfl, e1, e2⟩ := ones_ix iv.1 (show mOnes N a b = true by simpa using ho)
      rw [e1, e2]
      exact ⟨dropB_Iv iv p8 h10, dropB_Ex x iv.1 hp h10, upd_ne (by omega), upd_ne (by omega)⟩
theorem auto_AK (iv : Iv N) (x : Ex N) : AK N (aAuto N) := by
  intro w e
  unfold aAuto at e
  split at e
  · cases e
  · cases e
    exact ⟨allBid_Iv iv, allBid_Ex iv x, allBid_rd iv (fun q hq => by omega), allBid_rd iv (fun q hq => by omega)⟩
theorem week_lt (iv : Iv N) (h : ¬ N 232 = 999) : N 232 < 999 := by
  have r := iv.2.2.1.2.2.1
  exact rg_lt r h
theorem week_AK (iv : Iv N) (x : Ex N) : AK N (aWeek N) := by
  intro w e
  unfold aWeek at e
  split at e
  · cases e
  · rename_i hw
    cases e
    have k := week_Wk iv.1 iv.2.1
    exact ⟨week_Iv iv (week_lt iv hw), week_Ex iv x, k.2.2.1, k.2.2.2⟩
theorem wish_AK (iv : Iv N) (x : Ex N) {a b : Int32} : AK N (aWish N a b) := by
  intro w e
  unfold aWish at e
  split at e
  · cases e
  · rename_i ho
    split at e
    · cases e
    · split at e
      · cases e
      · rename_i h6
        cases e
        obtain ⟨p, h, hp, hh, p8, h10, rfl, rfl, e1, e2⟩ := ones_ix iv.1 (show mOnes N a b = true by simpa using ho)
        rw [e1] at h6
        rw [e1, e2]
        have l6 : nWi N p < 6 := by
          have := iv.1.w6 p8
          have : nWi N p ≠ 6 := fun z => h6 (by rw [iv.1.w p8, z]; rfl)
          omega
        have rd : ∀ j, (j < 80 + 18 * p + 11 ∨ 80 + 18 * p + 18 ≤ j) → wishN N p h j = N j := fun j hj => by
          unfold wishN mPuts
          rw [upd_ne (by omega), upd_ne (by omega)]
        exact ⟨wishN_Iv iv hp hh l6, wish_Ex x iv.1 p8 rd, rd _ (by omega), rd _ (by omega)⟩
theorem unwish_AK (iv : Iv N) (x : Ex N) {a b : Int32} : AK N (aUnwish N a b) := by
  intro w e
  unfold aUnwish at e
  split at e
  · cases e
  · rename_i ho
    split at e
    · cases e
    · rename_i hw
      cases e
      obtain ⟨p, h, hp, hh, p8, h10, rfl, rfl, e1, e2⟩ := ones_ix iv.1 (show mOnes N a b = true by simpa using ho)
      rw [e1] at hw ⊢
      have w6 := iv.1.w6 p8
      obtain ⟨k, hk, ek⟩ := mWish_ix w6 hw
      rw [ek, nI_clamp (by omega)]
      have rd : ∀ j, (j < 80 + 18 * p + 11 ∨ 80 + 18 * p + 18 ≤ j) → unwN N p k j = N j := fun j hj => by
        unfold unwN
        rw [show mPuts (unwL N p k (nWi N p - 1 - k)) p 11 (nI (nWi N p - 1)) j = unwL N p k (nWi N p - 1 - k) j from upd_ne (by omega)]
        exact unwL_rd _ (by omega)
      exact ⟨unwN_Iv iv hp hk, wish_Ex x iv.1 p8 rd, rd _ (by omega), rd _ (by omega)⟩
theorem leave_AK (iv : Iv N) (x : Ex N) {a : Int32} : AK N (aLeave N a) := by
  intro w e
  have h8 := iv.1.p8
  unfold aLeave at e
  split at e
  · cases e
  · rename_i ho
    split at e
    · cases e
    · cases e
      obtain ⟨p, hp, rfl⟩ := from_ix iv.1.p (by omega) (show mFrom a 0 (N 231 - 1) = true by simpa using ho)
      rw [nI_clamp (by omega)]
      have rd := (leaN_who iv hp).2.2
      exact ⟨leaN_Iv iv hp, lea_Ex iv x hp, rd _ (by omega) (by omega) (by omega) (by omega), rd _ (by omega) (by omega) (by omega) (by omega)⟩
theorem shut_AK (iv : Iv N) (x : Ex N) {a t : Int32} : AK N (aShut N a t) := by
  intro w e
  have h10 := iv.1.h10
  have h8 := iv.1.p8
  unfold aShut at e
  split at e
  · cases e
  · rename_i ho
    by_cases hc : (if N (8 * a.toNatClampNeg + 6) = 1 then (1 : Int32) else 0) = t
    · rw [if_pos hc] at e
      cases e
    · rw [if_neg hc] at e
      cases e
      obtain ⟨h, hh, rfl⟩ := from_ix iv.1.h (by omega) (show mFrom a 0 (N 230 - 1) = true by simpa using ho)
      rw [nI_clamp (by omega)]
      have iv2 := iv.putH (w := 6) (v := if t = 0 then 0 else 1) (show h < 10 by omega) (by decide) (by decide)
      have eP : nPo (mPutsH N h 6 (if t = 0 then 0 else 1)) = nPo N := by unfold nPo mPutsH; rw [upd_ne (by omega)]
      have r := (shuL_bits iv2.1 (show h < 10 by omega) (nPo N) (by rw [eP]; exact Nat.le_refl _)).1
      exact ⟨shuN_Iv iv (by omega), shu_Ex iv x (by omega), (r _ (fun q hq => by omega)).trans (upd_ne (by omega)), (r _ (fun q hq => by omega)).trans (upd_ne (by omega))⟩
theorem need_AK (iv : Iv N) (x : Ex N) {a v : Int32} : AK N (aNeed N a v) := by
  intro w e
  have h10 := iv.1.h10
  have h8 := iv.1.p8
  unfold aNeed at e
  split at e
  · cases e
  · rename_i hv
    split at e
    · cases e
    · rename_i ho
      split at e
      · cases e
      · cases e
        obtain ⟨p, hp, rfl⟩ := from_ix iv.1.p (by omega) (show mFrom a 0 (N 231 - 1) = true by simpa using ho)
        rw [nI_clamp (by omega)]
        have hv2 : rg v 1 4 := from_rg (show mFrom v 1 4 = true by simpa using hv)
        have iv2 := need_Iv iv hp hv2
        obtain ⟨k, hk, ek, -⟩ := neeL_bits (N := mPuts N p 1 v) iv2.1 (show p < 8 by omega) (nHo N) h10
        have rd : ∀ j, j ≠ 80 + 18 * p + 10 → j ≠ 80 + 18 * p + 1 → neeN N p v j = N j := fun j a1 a2 => by
          unfold neeN
          rw [ek]
          unfold mPuts
          rw [upd_ne a1, upd_ne a2]
        exact ⟨neeL_Iv iv2 (by omega) _ h10, nee_Ex iv x hp hv2, rd _ (by omega) (by omega), rd _ (by omega) (by omega)⟩
theorem rules_AK (iv : Iv N) (x : Ex N) {a v : Int32} : AK N (aRules N a v) := by
  intro w e
  unfold aRules at e
  split at e
  · cases e
  · rename_i ho
    split at e
    · cases e
    · cases e
      have h2 : mFrom a 0 5 = true ∧ mFrom v (rLeast a.toNatClampNeg) (rMost a.toNatClampNeg) = true := by
        rw [← Bool.and_eq_true]
        simpa using ho
      obtain ⟨r, hr, rfl⟩ := from_ix (y := 6) (B := 6) rfl (by decide) h2.1
      have h3 := h2.2
      rw [nI_clamp (by omega)] at h3 ⊢
      unfold mFrom at h3
      rw [Bool.and_eq_true, decide_eq_true_eq, decide_eq_true_eq] at h3
      exact ⟨rule_Iv iv hr h3, rule_Ex x iv.1 hr, upd_ne (by omega), upd_ne (by omega)⟩
end AK9
