/-! two ways to weigh: the same order -/
set_option maxRecDepth 100000 in
theorem ord_iff {a b d p a' b' d' p' : Nat} (h1 : 1 ≤ b) (h2 : b ≤ 4) (h3 : d ≤ 999) (h4 : p < 8) (h1' : 1 ≤ b') (h2' : b' ≤ 4) (h3' : d' ≤ 999) (h4' : p' < 8) :
    ((a * 5 + b) * 1000 + d) * 8 + p < ((a' * 5 + b') * 1000 + d') * 8 + p' ↔ ((a * 8 + b) * 1000 + d) * 8 + p < ((a' * 8 + b') * 1000 + d') * 8 + p' := by
  rcases Nat.lt_trichotomy a a' with h | h | h
  · constructor <;> intro _ <;> omega
  · subst h
    constructor <;> intro _ <;> omega
  · constructor <;> intro _ <;> omega
section Ord
variable {N : Nat → Int32} {p q h : Nat}
/-- a weight by numbers: turns, band, day -/
theorem wgt_n (hR : Rg N) (hp : p < nPo N) {lo qu : Bool} {c : Nat} (hc : c ≤ 4) : ∃ a d, a ≤ 3 ∧ d ≤ 999 ∧
    (((2 * bB (lo && !decide (N (80 + 18 * p + 2) = N (8 * h + 1))) + bB (qu && decide (N (80 + 18 * p + 4) = -1))) * 5 + nI c) * 1000 + N (80 + 18 * p + 3)) * 8 + nI p = nI (((a * 5 + c) * 1000 + d) * 8 + p) ∧
    cRk N p h lo qu (nI c) = nI (((a * 8 + c) * 1000 + d) * 8 + p) := by
  obtain ⟨d, ed, -, hd⟩ := (hR.1 p hp).2.2.2
  unfold cRk
  rw [ed]
  generalize (lo && !decide (N (80 + 18 * p + 2) = N (8 * h + 1))) = x
  generalize (qu && decide (N (80 + 18 * p + 4) = -1)) = y
  cases x <;> cases y
  · refine ⟨0, d, by omega, hd, ?_, ?_⟩
    · rw [show (2 * bB false + bB false : Int32) * 5 = nI (0 * 5) from by decide, nI_add, show (1000 : Int32) = nI 1000 from rfl, pk_mul, nI_add, show (8 : Int32) = nI 8 from rfl, pk_mul, nI_add]
    · rw [show (bB false * 2 + bB false : Int32) * 8 = nI (0 * 8) from by decide, nI_add, show (1000 : Int32) = nI 1000 from rfl, pk_mul, nI_add, show (8 : Int32) = nI 8 from rfl, pk_mul, nI_add]
  · refine ⟨1, d, by omega, hd, ?_, ?_⟩
    · rw [show (2 * bB false + bB true : Int32) * 5 = nI (1 * 5) from by decide, nI_add, show (1000 : Int32) = nI 1000 from rfl, pk_mul, nI_add, show (8 : Int32) = nI 8 from rfl, pk_mul, nI_add]
    · rw [show (bB false * 2 + bB true : Int32) * 8 = nI (1 * 8) from by decide, nI_add, show (1000 : Int32) = nI 1000 from rfl, pk_mul, nI_add, show (8 : Int32) = nI 8 from rfl, pk_mul, nI_add]
  · refine ⟨2, d, by omega, hd, ?_, ?_⟩
    · rw [show (2 * bB true + bB false : Int32) * 5 = nI (2 * 5) from by decide, nI_add, show (1000 : Int32) = nI 1000 from rfl, pk_mul, nI_add, show (8 : Int32) = nI 8 from rfl, pk_mul, nI_add]
    · rw [show (bB true * 2 + bB false : Int32) * 8 = nI (2 * 8) from by decide, nI_add, show (1000 : Int32) = nI 1000 from rfl, pk_mul, nI_add, show (8 : Int32) = nI 8 from rfl, pk_mul, nI_add]
  · refine ⟨3, d, by omega, hd, ?_, ?_⟩
    · rw [show (2 * bB true + bB true : Int32) * 5 = nI (3 * 5) from by decide, nI_add, show (1000 : Int32) = nI 1000 from rfl, pk_mul, nI_add, show (8 : Int32) = nI 8 from rfl, pk_mul, nI_add]
    · rw [show (bB true * 2 + bB true : Int32) * 8 = nI (3 * 8) from by decide, nI_add, show (1000 : Int32) = nI 1000 from rfl, pk_mul, nI_add, show (8 : Int32) = nI 8 from rfl, pk_mul, nI_add]
theorem wgt_lt (hR : Rg N) (h8 : nPo N ≤ 8) (hp : p < nPo N) (hq : q < nPo N) {c e : Nat} (hc : 1 ≤ c ∧ c ≤ 4) (he : 1 ≤ e ∧ e ≤ 4) : mWeight N p h (nI c) < mWeight N q h (nI e) ↔ cRk N p h (mLocal N h) (mQuota N) (nI c) < cRk N q h (mLocal N h) (mQuota N) (nI e) := by
  obtain ⟨a, d, a1, d1, e1, e2⟩ := wgt_n (h := h) (lo := mLocal N h) (qu := mQuota N) hR hp hc.2
  obtain ⟨a', d', a1', d1', e1', e2'⟩ := wgt_n (h := h) (lo := mLocal N h) (qu := mQuota N) hR hq he.2
  unfold mWeight
  rw [e1, e1', e2, e2', nI_ltI (by omega) (by omega), nI_ltI (by omega) (by omega)]
  exact ord_iff hc.1 hc.2 d1 (by omega) he.1 he.2 d1' (by omega)
theorem rk_lt (hR : Rg N) (h8 : nPo N ≤ 8) (hp : p < nPo N) (hq : q < nPo N) : mW N p h < mW N q h ↔ cRk N p h (mLocal N h) (mQuota N) (mBand N p) < cRk N q h (mLocal N h) (mQuota N) (mBand N q) := by
  obtain ⟨c, ec, c1, c2⟩ := mBand_rg hR hp
  obtain ⟨e, ee, e1, e2⟩ := mBand_rg hR hq
  unfold mW
  rw [ec, ee]
  exact wgt_lt hR h8 hp hq ⟨c1, c2⟩ ⟨e1, e2⟩
/-- weights differ -/
theorem rk_ne (hR : Rg N) (h8 : nPo N ≤ 8) (hp : p < nPo N) (hq : q < nPo N) {lo qu : Bool} {c e : Nat} (hc : c ≤ 4) (he : e ≤ 4) (hne : p ≠ q) : cRk N p h lo qu (nI c) ≠ cRk N q h lo qu (nI e) := by
  obtain ⟨a, d, a1, d1, e1, e2⟩ := wgt_n (h := h) (lo := lo) (qu := qu) hR hp hc
  obtain ⟨a', d', a1', d1', e1', e2'⟩ := wgt_n (h := h) (lo := lo) (qu := qu) hR hq he
  rw [e2, e2']
  intro w
  have := (nI_eq (by omega) (by omega)).mp w
  omega
end Ord
theorem fst_ord {w w' : Nat → Int32} {S : Nat → Bool} : ∀ {n : Nat}, (∀ i j, i < n → j < n → (w i < w j ↔ w' i < w' j)) → fst w S n = fst w' S n
  | 0, _ => rfl
  | n + 1, h => by
    have ih := fst_ord (w := w) (w' := w') (S := S) (n := n) (fun i j hi hj => h i j (by omega) (by omega))
    cases hs : S n with
    | false => rw [fst_no hs, fst_no hs, ih]
    | true =>
      cases hf : fst w S n with
      | none =>
        have hf' := hf
        rw [ih] at hf'
        rw [fst_new hs hf, fst_new hs hf']
      | some b =>
        have hf' := hf
        rw [ih] at hf'
        have hb := (fst_lt hf).1
        by_cases hw : w n < w b
        · rw [fst_less hs hf hw, fst_less hs hf' ((h n b (by omega) (by omega)).mp hw)]
        · rw [fst_ge hs hf hw, fst_ge hs hf' (fun q => hw ((h n b (by omega) (by omega)).mpr q))]
theorem fst_cong {w : Nat → Int32} {S T : Nat → Bool} : ∀ {n : Nat}, (∀ i, i < n → S i = T i) → fst w S n = fst w T n
  | 0, _ => rfl
  | n + 1, h => by
    have ih := fst_cong (w := w) (S := S) (T := T) (n := n) (fun i hi => h i (by omega))
    unfold fst
    rw [ih, h n (by omega)]
/-- the least, if it is the only least -/
theorem fst_uniq {w : Nat → Int32} {S : Nat → Bool} {n b : Nat} (hb : b < n) (hS : S b = true) (hm : ∀ i, i < n → S i = true → i ≠ b → w b < w i) : fst w S n = some b := by
  cases hf : fst w S n with
  | none => rw [fst_none hf b hb] at hS; cases hS
  | some c =>
    have hc := fst_lt hf
    by_cases e : c = b
    · rw [e]
    · have h1 := hm c hc.1 hc.2 e
      have h2 := fst_min hf b hb hS
      exact absurd h1 (Int32.not_lt.mpr h2)
theorem mFirst_rk {N : Nat → Int32} (hR : Rg N) (h8 : nPo N ≤ 8) {h : Nat} {x : Int32} : mFirst N h x = fst (fun p => cRk N p h (mLocal N h) (mQuota N) (mBand N p)) (bt x) (nPo N) :=
  fst_ord (fun i j hi hj => rk_lt hR h8 hi hj)
theorem sub_bit : ∀ v, v < 256 → ∀ p, p < 8 → v.testBit p = true → ∀ q, q < 8 → (v - 2 ^ p).testBit q = (v.testBit q && !decide (q = p)) := by decide +kernel
/-- among those of a set that may hope -/
theorem lets_hop {h : Nat} : ∀ (f : Nat) (N : Nat → Int32) (v k : Nat), Ok N → v < 2 ^ nPo N → pcn v < f → ¬ 3 ≤ k →
    ((∀ q, q < nPo N → v.testBit q = true → mHope N q = false) → letsL h f N v k = N) ∧
    (∀ p, fst (fun p => cRk N p h (mLocal N h) (mQuota N) (mBand N p)) (fun q => v.testBit q && mHope N q) (nPo N) = some p → ∃ f' v', pcn v' < f' ∧ v' < 2 ^ nPo N ∧ (∀ q, q < nPo N → mHope N q = true → v'.testBit q = (v.testBit q && !decide (q = p))) ∧
      letsL h f N v k = if mTake N p (nI h) then mTakes (mOffered N p h true) p h (nI (k + 1)) else letsL h f' (mRefuses (mOffered N p h false) p) v' (k + 1))
  | 0, N, v, k, ok, hv, hf, hk => absurd hf (Nat.not_lt_zero _)
  | f + 1, N, v, k, ok, hv, hf, hk => by
    have h8 := ok.1.p8
    have hv8 := p2_8 hv h8
    by_cases h0 : v = 0
    · refine ⟨fun _ => letsL_stop (Or.inl h0), fun p hp => ?_⟩
      have := (fst_lt hp).2
      rw [h0] at this
      simp at this
    · have hs : ¬ (v = 0 ∨ 3 ≤ k) := fun q => by rcases q with q | q; exact h0 q; exact hk q
      obtain ⟨p0, e0, hp0, ht0⟩ := first_some (h := h) hv h8 h0
      have hd : pcn (v - 2 ^ p0) < f := by
        have := (bit_all v (by omega) p0 (by omega)).2.2 ht0
        omega
      have hdv : v - 2 ^ p0 < 2 ^ nPo N := drop_lt hv
      have hbit : ∀ q, q < nPo N → (v - 2 ^ p0).testBit q = (v.testBit q && !decide (q = p0)) := fun q hq => by
        have h1 := sub_bit v hv8 p0 (by omega) ht0 q (by omega)
        exact h1
      by_cases hm : mHope N p0 = true
      · refine ⟨fun q => absurd (q p0 hp0 ht0) (by rw [hm]; exact Bool.noConfusion), fun p hp => ?_⟩
        have ep : p = p0 := by
          have h1 : fst (fun p => cRk N p h (mLocal N h) (mQuota N) (mBand N p)) (fun q => v.testBit q && mHope N q) (nPo N) = some p0 := by
            refine fst_uniq hp0 (by rw [ht0, hm]; rfl) (fun i hi hS hne => ?_)
            rw [mFirst_rk ok.2.1 h8] at e0
            simp only [Bool.and_eq_true] at hS
            have h2 := fst_min e0 i hi (by rw [(bit_all v (by omega) i (by omega)).1]; exact hS.1)
            obtain ⟨c, ec, c1, c2⟩ := mBand_rg ok.2.1 hp0
            obtain ⟨e, ee, e1, e2⟩ := mBand_rg ok.2.1 hi
            have h3 := rk_ne (h := h) (lo := mLocal N h) (qu := mQuota N) ok.2.1 h8 hp0 hi c2 e2 (fun q => hne q.symm)
            rw [← ec, ← ee] at h3
            exact fa_le_ne h2 h3
          rw [h1] at hp
          exact (Option.some.inj hp).symm
        subst ep
        refine ⟨f, v - 2 ^ p, hd, hdv, fun q hq _ => hbit q hq, ?_⟩
        by_cases htk : mTake N p (nI h) = true
        · rw [letsL_take hs e0 hm htk, if_pos htk]
        · rw [letsL_ref hs e0 hm htk, if_neg htk]
      · have hm' : mHope N p0 = false := by simpa using hm
        rw [letsL_skip hs e0 hm]
        obtain ⟨g1, g2⟩ := lets_hop (h := h) f N (v - 2 ^ p0) k ok hdv hd hk
        refine ⟨fun q => g1 (fun r hr hb => ?_), fun p hp => ?_⟩
        · rw [hbit r hr, Bool.and_eq_true] at hb
          exact q r hr hb.1
        · have e9 : fst (fun p => cRk N p h (mLocal N h) (mQuota N) (mBand N p)) (fun q => (v - 2 ^ p0).testBit q && mHope N q) (nPo N) = some p := by
            rw [← hp]
            refine fst_cong (fun i hi => ?_)
            rw [hbit i hi]
            by_cases e : i = p0
            · rw [e, hm']
              simp
            · simp [e]
          obtain ⟨f', v', a1, a2, a3, a4⟩ := g2 p e9
          refine ⟨f', v', a1, a2, fun q hq hh => ?_, a4⟩
          rw [a3 q hq hh, hbit q hq]
          by_cases e : q = p0
          · rw [e, hm'] at hh
            cases hh
          · simp [e]
