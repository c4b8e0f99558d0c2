/-! a home's round and the week's end: the row -/
theorem andT {a b : Bool} (h : (a && b) = true) : a = true ∧ b = true := by
  cases a <;> cases b <;> first | exact ⟨rfl, rfl⟩ | cases h
theorem mLocal_cg {N M : Nat → Int32} (hN : Cn N) {h : Nat} (hh : h < 10) (h226 : M 226 = N 226) (h233 : M 233 = N 233) (hw : ∀ i, i < 10 → M (8 * i + 1) = N (8 * i + 1)) (hl : ∀ k, k < 8 → M (234 + 8 * k + 1) = N (234 + 8 * k + 1)) : mLocal M h = mLocal N h := by
  have eL : nLe M = nLe N := by unfold nLe; rw [h233]
  have l8 := hN.l8
  unfold mLocal
  rw [eL, h226]
  congr 3
  congr 1
  congr 1
  refine isum_cong fun k hk => ?_
  obtain ⟨i, hi, e⟩ := hN.lh hk
  have e1 : lHo M k = lHo N k := by unfold lHo; rw [hl k (by omega)]
  have e2 : lHo N k = i := by unfold lHo; rw [e]; exact nI_clamp (by omega)
  rw [e1, e2, hw i hi, hw h hh]
theorem mQuota_cg {N M : Nat → Int32} (hN : Cn N) (h227 : M 227 = N 227) (h233 : M 233 = N 233) (hl : ∀ k, k < 8 → M (234 + 8 * k + 5) = N (234 + 8 * k + 5)) : mQuota M = mQuota N := by
  have eL : nLe M = nLe N := by unfold nLe; rw [h233]
  have l8 := hN.l8
  have e : mLived M = mLived N := by
    unfold mLived
    rw [eL]
    exact isum_cong fun k hk => by rw [hl k (by omega)]
  unfold mQuota
  rw [e, h227, h233]
section Rnd
variable {N M : Nat → Int32} {p h : Nat}
theorem Iv.off (i : Iv N) {t : Bool} (ho : nOf N < 30) : Iv (mOffered N p h t) :=
  ⟨off_Cn i.1 ho, i.2.1.cong i.1.p8 (off_rd (by omega)) (off_rd (by omega)) (fun p hp => off_rd (by omega)), off_Rst i.2.2 i.1⟩
theorem Iv.ref (i : Iv N) (hp : p < 8) : Iv (mRefuses N p) :=
  ⟨ref_Cn i.1 hp, i.2.1.cong i.1.p8 (ref_rd (by omega) (by omega) (by omega) (by omega)) (ref_rd (by omega) (by omega) (by omega) (by omega)) (fun q hq => ref_rd (by omega) (by omega) (by omega) (by omega)), ref_Rst i.2.2 i.1 hp⟩
theorem Iv.tak (i : Iv N) {o : Int32} (hp : p < nPo N) (hh : h < nHo N) (hf : N (8 * h + 2) = -1) (hi : mIn N p = true) : Iv (mTakes N p h o) := by
  have w : Wk (mTakes N p h o) (nOf N) := takes_Wk ⟨i.1, i.2.1, Nat.le_refl _⟩ hp (by have := i.1.h10; omega) hi
  exact ⟨w.1, w.2.1, takes_Rst i.2.2 i.1 hp hh hf (lo_lt i.1 i.2.1 hp hi)⟩
/-- an offer refused -/
def rfN (M : Nat → Int32) (p h : Nat) : Nat → Int32 := mRefuses (mOffered M p h false) p
theorem rfN_rd {j : Nat} (h5 : j ≠ 80 + 18 * p + 5) (h6 : j ≠ 80 + 18 * p + 6) (h7 : j ≠ 80 + 18 * p + 7) (hj : j < 298) : rfN M p h j = M j := (ref_rd h5 h6 h7 (by omega)).trans (off_rd (by omega))
theorem rfN_P (hp : p < 8) : nPo (rfN M p h) = nPo M := by unfold nPo; rw [rfN_rd (by omega) (by omega) (by omega) (by omega)]
theorem rfN_H (hp : p < 8) : nHo (rfN M p h) = nHo M := by unfold nHo; rw [rfN_rd (by omega) (by omega) (by omega) (by omega)]
theorem rfN_Iv (i : Iv M) (hp : p < 8) (ho : nOf M < 30) : Iv (rfN M p h) := (i.off ho).ref hp
theorem rfN_O (c : Cn M) (hp : p < 8) (ho : nOf M < 30) : nOf (rfN M p h) = nOf M + 1 := by
  have e : nOf (rfN M p h) = nOf (mOffered M p h false) := by
    show (mRefuses (mOffered M p h false) p 299).toNatClampNeg = _
    rw [ref_rd (by omega) (by omega) (by omega) (by omega)]
    rfl
  rw [e, off_cnt c ho]
theorem rfN_hope {q : Nat} (hq : q ≠ p) (h8 : q < 8) : mHope (rfN M p h) q = mHope M q := by
  unfold mHope mIn
  rw [rfN_rd (by omega) (by omega) (by omega) (by omega), rfN_rd (by omega) (by omega) (by omega) (by omega)]
theorem rfN_loc (c : Cn M) (hp : p < 8) {i : Nat} (hi : i < 10) : mLocal (rfN M p h) i = mLocal M i := mLocal_cg c hi (rfN_rd (by omega) (by omega) (by omega) (by omega)) (rfN_rd (by omega) (by omega) (by omega) (by omega)) (fun i hi => rfN_rd (by omega) (by omega) (by omega) (by omega)) (fun k hk => rfN_rd (by omega) (by omega) (by omega) (by omega))
theorem rfN_quo (c : Cn M) (hp : p < 8) : mQuota (rfN M p h) = mQuota M := mQuota_cg c (rfN_rd (by omega) (by omega) (by omega) (by omega)) (rfN_rd (by omega) (by omega) (by omega) (by omega)) (fun k hk => rfN_rd (by omega) (by omega) (by omega) (by omega))
theorem rfN_free (hp : p < 8) {i : Nat} (hi : i < 10) : mFree (rfN M p h) i = mFree M i := by
  unfold mFree
  rw [rfN_rd (by omega) (by omega) (by omega) (by omega), rfN_rd (by omega) (by omega) (by omega) (by omega), rfN_rd (by omega) (by omega) (by omega) (by omega)]
theorem off_free {t : Bool} {i : Nat} (hi : i < 10) : mFree (mOffered N p h t) i = mFree N i := by
  unfold mFree
  rw [off_rd (by omega), off_rd (by omega), off_rd (by omega)]
theorem off_P {t : Bool} : nPo (mOffered N p h t) = nPo N := by unfold nPo; rw [off_rd (by omega)]
theorem off_H {t : Bool} : nHo (mOffered N p h t) = nHo N := by unfold nHo; rw [off_rd (by omega)]
theorem off_in {t : Bool} {q : Nat} (hq : q < 8) : mIn (mOffered N p h t) q = mIn N q := by unfold mIn; rw [off_rd (by omega)]
theorem takes_free {o : Int32} {i : Nat} (c : Cn N) (co : Co N) (hp : p < nPo N) (hh : h < nHo N) (hf : N (8 * h + 2) = -1) (hi : i < nHo N) (hne : i ≠ h) : mFree (mTakes N p h o) i = mFree N i := by
  have h8 := c.p8
  have h10 := c.h10
  have rd : ∀ w, w < 8 → tkA N p h o (8 * i + w) = N (8 * i + w) := fun w hw => tkA_rd c (by omega) (by omega) (fun q hq => by omega) (by omega) (by omega) (by omega) (by omega) (by omega)
  unfold mTakes
  rcases co.1 p hp with e4 | ⟨u, hu, e4, eu⟩
  · rw [if_pos e4]
    unfold mFree
    rw [rd 2 (by decide), rd 3 (by decide), rd 6 (by decide)]
  · rw [if_neg (by rw [e4]; exact nI_ne_m1 (by omega)), e4, nI_clamp (by omega)]
    by_cases e : i = u
    · subst e
      have a : mLeaves (tkA N p h o) i (N (8 * h + 5) + 1) (8 * i + 3) = 1 := by unfold mLeaves mPutsH; rw [upd_ne (by omega), upd_eq]
      unfold mFree
      rw [a, eu, decide_eq_false (nI_ne_m1 (show p < 2 ^ 31 by omega)), show decide ((1 : Int32) = 0) = false from rfl]
      simp
    · unfold mFree
      rw [leaves_rd (by omega) (by omega) (by omega), leaves_rd (by omega) (by omega) (by omega), leaves_rd (by omega) (by omega) (by omega), rd 2 (by decide), rd 3 (by decide), rd 6 (by decide)]
theorem hope_in {q : Nat} (h : mHope N q = true) : mIn N q = true := by
  unfold mHope at h
  exact (andT h).1
end Rnd
/-- what a home's round keeps -/
theorem letsL_Iv (h : Nat) : ∀ (f : Nat) (N : Nat → Int32) (v k : Nat), Iv N → v < 2 ^ nPo N → nOf N + (3 - k) ≤ 30 → h < nHo N → N (8 * h + 2) = -1 → Iv (letsL h f N v k) ∧ ∀ i, i < nHo N → i ≠ h → mFree (letsL h f N v k) i = mFree N i
  | 0, N, v, k, iv, hv, ho, hh, hf => ⟨iv, fun _ _ _ => rfl⟩
  | f + 1, N, v, k, iv, hv, ho, hh, hf => by
    have h8 := iv.1.p8
    have h10 := iv.1.h10
    by_cases h0 : v = 0 ∨ 3 ≤ k
    · rw [letsL_stop h0]
      exact ⟨iv, fun _ _ _ => rfl⟩
    · obtain ⟨p, e, hp, ht⟩ := first_some (h := h) hv h8 (fun q => h0 (Or.inl q))
      have hk : ¬ 3 ≤ k := fun q => h0 (Or.inr q)
      by_cases hm : mHope N p = true
      · by_cases htk : mTake N p (nI h) = true
        · rw [letsL_take h0 e hm htk]
          have i1 : Iv (mOffered N p h true) := iv.off (by omega)
          have e1 : mOffered N p h true (8 * h + 2) = -1 := (off_rd (by omega)).trans hf
          have hi1 : mIn (mOffered N p h true) p = true := (off_in (by omega)).trans (hope_in hm)
          refine ⟨i1.tak (by rw [off_P]; exact hp) (by rw [off_H]; exact hh) e1 hi1, fun i hi hne => ?_⟩
          rw [takes_free i1.1 i1.co (by rw [off_P]; exact hp) (by rw [off_H]; exact hh) e1 (by rw [off_H]; exact hi) hne, off_free (by omega)]
        · rw [letsL_ref h0 e hm htk]
          have g := letsL_Iv h f (rfN N p h) (v - 2 ^ p) (k + 1) (rfN_Iv iv (by omega) (by omega)) (by rw [rfN_P (by omega)]; exact drop_lt hv) (by rw [rfN_O iv.1 (by omega) (by omega)]; omega) (by rw [rfN_H (by omega)]; exact hh) ((rfN_rd (by omega) (by omega) (by omega) (by omega)).trans hf)
          refine ⟨g.1, fun i hi hne => (g.2 i (by rw [rfN_H (by omega)]; exact hi) hne).trans (rfN_free (by omega) (by omega))⟩
      · rw [letsL_skip h0 e hm]
        exact letsL_Iv h f N (v - 2 ^ p) k iv (drop_lt hv) ho hh hf
/-- the round's state: row M, set u, k offers made -/
def RdI (N : Nat → Int32) (h B : Nat) (M : Nat → Int32) (u k : Nat) : Prop :=
  Iv M ∧ nHo M = nHo N ∧ nPo M = nPo N ∧ mLocal M h = mLocal N h ∧ mQuota M = mQuota N ∧ M (8 * h + 2) = -1 ∧ nOf M ≤ B + k ∧ u < 2 ^ nPo M ∧ ∃ f v, pcn v < f ∧ v < 2 ^ nPo M ∧ (∀ q, q < nPo M → u.testBit q = (v.testBit q && mHope M q)) ∧ mLets N h = letsL h f M v k
section RdIs
variable {N M : Nat → Int32} {h B u k : Nat}
theorem RdI.begin (iv : Iv N) (hf : N (8 * h + 2) = -1) : RdI N h (nOf N) N (nset (fun p => mBid N p (nI h) && mHope N p) (nPo N)) 0 := by
  have h8 := iv.1.p8
  have hv := nset_lt (fun p => mBid N p (nI h)) (nPo N)
  refine ⟨iv, rfl, rfl, rfl, rfl, hf, Nat.le_refl _, nset_lt _ _, 9, _, ?_, hv, fun q hq => ?_, rfl⟩
  · have := pcn_8 _ (p2_8 hv h8)
    omega
  · rw [nset_bit _ _ (by omega) q (by omega), nset_bit _ _ (by omega) q (by omega), decide_eq_true hq, Bool.true_and, Bool.true_and]
theorem fst_bits {w : Nat → Int32} {T : Nat → Bool} {n : Nat} (hn : n ≤ 8) (hu : u < 256) (a3 : ∀ q, q < n → u.testBit q = T q) : fst w (bt (nI u)) n = fst w T n :=
  fst_cong (fun i hi => by rw [(bit_all u (by omega) i (by omega)).1]; exact a3 i hi)
theorem RdI.none (r : RdI N h B M u k) (hk : k < 3) (e : fst (fun p => cRk M p h (mLocal M h) (mQuota M) (mBand M p)) (bt (nI u)) (nPo M) = none) : mLets N h = M := by
  obtain ⟨iv, -, -, -, -, -, -, hu, f, v, a1, a2, a3, a4⟩ := r
  have h8 := iv.1.p8
  rw [fst_bits h8 (p2_8 hu h8) a3] at e
  rw [a4]
  refine (lets_hop f M v k iv.ok a2 a1 (by omega)).1 (fun q hq hb => ?_)
  have := fst_none e q hq
  rw [hb, Bool.true_and] at this
  exact this
theorem RdI.stop (r : RdI N h B M u k) (hk : k = 3) : mLets N h = M := by
  obtain ⟨-, -, -, -, -, -, -, -, f, v, a1, a2, a3, a4⟩ := r
  rw [a4]
  cases f with
  | zero => exact absurd a1 (Nat.not_lt_zero _)
  | succ f => exact letsL_stop (Or.inr (by omega))
theorem RdI.some {p : Nat} (r : RdI N h B M u k) (hk : k < 3) (hh : h < nHo N) (hB : B + 3 ≤ 30) (e : fst (fun p => cRk M p h (mLocal M h) (mQuota M) (mBand M p)) (bt (nI u)) (nPo M) = some p) :
    p < nPo M ∧ mHope M p = true ∧ u.testBit p = true ∧ (mTake M p (nI h) = true → mLets N h = mTakes (mOffered M p h true) p h (nI (k + 1))) ∧ (mTake M p (nI h) = false → RdI N h B (rfN M p h) (u - 2 ^ p) (k + 1)) := by
  obtain ⟨iv, eH, eP, eL, eQ, hf, ho, hu, f, v, a1, a2, a3, a4⟩ := r
  have h8 := iv.1.p8
  have h10 := iv.1.h10
  have hu8 := p2_8 hu h8
  rw [fst_bits h8 hu8 a3] at e
  have hp := fst_lt e
  have hp8 : p < 8 := by omega
  have hb := andT hp.2
  have hub : u.testBit p = true := (a3 p hp.1).trans hp.2
  obtain ⟨f', v', b1, b2, b3, b4⟩ := (lets_hop f M v k iv.ok a2 a1 (by omega)).2 p e
  refine ⟨hp.1, hb.2, hub, fun ht => by rw [a4, b4, if_pos ht], fun ht => ?_⟩
  rw [if_neg (by rw [ht]; exact Bool.noConfusion)] at b4
  refine ⟨rfN_Iv iv hp8 (by omega), (rfN_H hp8).trans eH, (rfN_P hp8).trans eP, (rfN_loc iv.1 hp8 (by omega)).trans eL, (rfN_quo iv.1 hp8).trans eQ, (rfN_rd (by omega) (by omega) (by omega) (by omega)).trans hf, ?_, by rw [rfN_P hp8]; exact drop_lt hu, f', v', b1, by rw [rfN_P hp8]; exact b2, fun q hq => ?_, a4.trans b4⟩
  · rw [rfN_O iv.1 hp8 (by omega)]
    omega
  · rw [rfN_P hp8] at hq
    rw [sub_bit u hu8 p hp8 hub q (by omega)]
    by_cases hq2 : q = p
    · subst hq2
      rw [b3 q hq hb.2]
      simp
    · rw [rfN_hope hq2 (by omega), a3 q hq]
      cases hm : mHope M q with
      | true => rw [b3 q hq hm]; simp [hq2]
      | false => simp
end RdIs
/-! the week's end -/
section WkE
variable {N : Nat → Int32}
theorem Rst.putH {h w : Nat} {v : Int32} (r : Rst N) (c : Cn N) (hh : h < 10) (hw : w < 8) (h3 : 3 ≤ w) : Rst (mPutsH N h w v) := r.upd c (Or.inl ⟨by omega, by omega⟩)
theorem wkH_Iv (iv : Iv N) : ∀ i, i ≤ nHo N → Iv (wkH N i) ∧ (wkH N i 230 = N 230 ∧ wkH N i 231 = N 231) ∧ nOf (wkH N i) ≤ 3 * i ∧ ∀ h, i ≤ h → h < nHo N → mFree (wkH N i) h = mFree (wk0 N) h
  | 0, _ => by
    obtain ⟨w, e⟩ := wkH_Wk iv.1 iv.2.1 0 (Nat.zero_le _)
    exact ⟨⟨w.1, w.2.1, iv.2.2.upd iv.1 (Or.inr (Or.inr (by omega)))⟩, e, w.2.2, fun _ _ _ => rfl⟩
  | i + 1, hi => by
    have h10 := iv.1.h10
    obtain ⟨iw, ⟨e0, e1⟩, eo, ef⟩ := wkH_Iv iv i (by omega)
    obtain ⟨w2, e2⟩ := wkH_Wk iv.1 iv.2.1 (i + 1) hi
    have eH : nHo (wkH N i) = nHo N := by unfold nHo; rw [e0]
    have hb : (wkv N).testBit i = mFree (wk0 N) i := by
      unfold wkv
      rw [nset_bit _ _ h10 i (by omega), decide_eq_true (show i < nHo N by omega), Bool.true_and]
    by_cases ht : (wkv N).testBit i = true
    · have hfr : mFree (wkH N i) i = true := by rw [ef i (Nat.le_refl _) (by omega), ← hb]; exact ht
      have hwho : wkH N i (8 * i + 2) = -1 := by
        unfold mFree at hfr
        simp only [Bool.and_eq_true, decide_eq_true_eq] at hfr
        exact hfr.1.1
      obtain ⟨g1, g2⟩ := letsL_Iv i 9 (wkH N i) _ 0 iw (nset_lt (fun p => mBid (wkH N i) p (nI i)) _) (by omega) (by omega) hwho
      have e9 : wkH N (i + 1) = wkH1 (mLets (wkH N i) i) i := by rw [wkH, if_pos ht]
      refine ⟨⟨w2.1, w2.2.1, by rw [e9]; exact g1.2.2.putH g1.1 (by omega) (by decide) (by decide)⟩, e2, w2.2.2, fun h h1 h2 => ?_⟩
      rw [e9, ← ef h (by omega) h2, ← g2 h (by omega) (by omega)]
      unfold wkH1 mPutsH mFree
      rw [upd_ne (by omega), upd_ne (by omega), upd_ne (by omega)]
      rfl
    · have e9 : wkH N (i + 1) = wkH N i := by rw [wkH, if_neg ht]
      rw [e9]
      exact ⟨iw, ⟨e0, e1⟩, by omega, fun h h1 h2 => ef h (by omega) h2⟩
theorem wkL_Rst {R : Nat → Int32} {b : Nat} (w : Wk R b) (r : Rst R) : ∀ i, i ≤ 10 → Rst (wkL R i)
  | 0, _ => r
  | i + 1, hi => (wkL_Rst w r i (by omega)).putH (wkL_Wk w i (by omega)).1.1 (by omega) (by decide) (by decide)
theorem imax_0 : ∀ v, v < 60 → imax 0 (nI v - 1) = nI (v - 1) := by decide +kernel
theorem wkS_Rst {R : Nat → Int32} {p : Nat} (r : Rst R) (c : Cn R) (hp : p < 8) : Rst (wkS R p) := by
  have h8 := c.p8
  have e : ∀ j, j ≠ 80 + 18 * p + 6 → j ≠ 80 + 18 * p + 7 → j < 298 → ¬ irj j → wkS R p j = R j := fun j h6 h7 hj hi => wkS_rd h6 h7 (fun q => hi (by unfold irj; omega))
  refine ⟨r.1.cong c (e _ (by omega) (by omega) (by omega) (by unfold irj; omega)) (e _ (by omega) (by omega) (by omega) (by unfold irj; omega)) (fun q w hq hw => e _ (by omega) (by omega) (by omega) (by unfold irj; omega)) (fun i w hi hw => e _ (by omega) (by omega) (by omega) (by unfold irj; omega)) (e _ (by omega) (by omega) (by omega) (by unfold irj; omega)) (fun u hu => e _ (by omega) (by omega) (by omega) (by unfold irj; omega)), ?_,
    r.2.2.1.cong c (e _ (by omega) (by omega) (by omega) (by unfold irj; omega)) (fun k hk => e _ (by omega) (by omega) (by omega) (by unfold irj; omega)),
    r.2.2.2.cong c (e _ (by omega) (by omega) (by omega) (by unfold irj; omega)) (e _ (by omega) (by omega) (by omega) (by unfold irj; omega)) (fun q hq => e _ (by omega) (by omega) (by omega) (by unfold irj; omega)) (fun i hi => e _ (by omega) (by omega) (by omega) (by unfold irj; omega)) (fun q w hq h1 h2 => e _ (by omega) (by omega) (by omega) (by unfold irj; omega))⟩
  intro q hq
  have eP : nPo (wkS R p) = nPo R := by unfold nPo; rw [e _ (by omega) (by omega) (by omega) (by unfold irj; omega)]
  rw [eP] at hq
  by_cases ep : q = p
  · subst ep
    obtain ⟨v, u, h1, h2, e1, e2, h3⟩ := r.2.1 q hq
    unfold wkS wkS1
    by_cases h7 : R (80 + 18 * q + 7) = 0
    · rw [if_pos h7]
      unfold mPuts
      rw [upd_ne (by omega), upd_eq, upd_eq, e1, imax_0 v (by omega)]
      exact ⟨v - 1, 0, by omega, by omega, rfl, rfl, fun z => by omega⟩
    · rw [if_neg h7]
      unfold mPuts
      rw [upd_ne (by omega), upd_ne (by omega), upd_eq, e1]
      exact ⟨v, 0, by omega, by omega, rfl, rfl, fun z => by omega⟩
  · rw [wkS_rd (by omega) (by omega) (by omega), wkS_rd (by omega) (by omega) (by omega)]
    exact r.2.1 q hq
theorem wkP_Rst {R : Nat → Int32} {b : Nat} (w : Wk R b) (r : Rst R) : ∀ i, i ≤ 8 → Rst (wkP R i)
  | 0, _ => r
  | i + 1, hi => wkS_Rst (wkP_Rst w r i (by omega)) (wkP_Wk w i (by omega)).1.1 (by omega)
theorem wkS_k {R : Nat → Int32} {p j : Nat} (h1 : 224 ≤ j) (hp : p < 8) : wkS R p j = R j := wkS_rd (by omega) (by omega) (by omega)
theorem letsL_232 (h : Nat) (hh : h < 10) : ∀ (f : Nat) (N : Nat → Int32) (v k b : Nat), Wk N b → v < 2 ^ nPo N → b + (3 - k) ≤ 30 → letsL h f N v k 232 = N 232
  | 0, N, v, k, b, w, hv, hb => rfl
  | f + 1, N, v, k, b, w, hv, hb => by
    have h8 := w.1.p8
    by_cases h0 : v = 0 ∨ 3 ≤ k
    · rw [letsL_stop h0]
    · obtain ⟨p, e, hp, ht⟩ := first_some (h := h) hv h8 (fun q => h0 (Or.inl q))
      have hk : ¬ 3 ≤ k := fun q => h0 (Or.inr q)
      have hp8 : p < 8 := by omega
      by_cases hm : mHope N p = true
      · have w1 : ∀ t, Wk (mOffered N p h t) (b + 1) := fun t => off_Wk w (by omega)
        by_cases htk : mTake N p (nI h) = true
        · rw [letsL_take h0 e hm htk]
          have w2 := w1 true
          have hl := lo_lt w2.1 w2.2.1 (by rw [off_P]; exact hp) ((off_in hp8).trans (hope_in hm))
          rw [takes_rd w2.1 hp8 hh hl (by omega), tkA_rd w2.1 hh (by omega) (fun q hq => by omega) (by omega) (by omega) (by omega) (by omega) (by omega), off_rd (by omega)]
        · rw [letsL_ref h0 e hm htk]
          have g := letsL_232 h hh f (rfN N p h) (v - 2 ^ p) (k + 1) (b + 1) (ref_Wk (w1 false) hp8) (by rw [rfN_P hp8]; exact drop_lt hv) (by omega)
          exact g.trans (rfN_rd (by omega) (by omega) (by omega) (by omega))
      · rw [letsL_skip h0 e hm]
        exact letsL_232 h hh f N (v - 2 ^ p) k b w (drop_lt hv) hb
theorem wkH_232 (iv : Iv N) : ∀ i, i ≤ nHo N → wkH N i 232 = N 232
  | 0, _ => show upd N 299 0 232 = N 232 from upd_ne (by omega)
  | i + 1, hi => by
    have h10 := iv.1.h10
    have ih := wkH_232 iv i (by omega)
    obtain ⟨w, e0, e1⟩ := wkH_Wk iv.1 iv.2.1 i (by omega)
    rw [wkH]
    split
    · unfold wkH1 mPutsH mLets
      rw [upd_ne (by omega), letsL_232 i (by omega) 9 _ _ 0 (3 * i) w (nset_lt _ _) (by omega), ih]
    · exact ih
theorem wkL_k {R : Nat → Int32} {j : Nat} (hj : 80 ≤ j) : ∀ i, i ≤ 10 → wkL R i j = R j
  | 0, _ => rfl
  | i + 1, hi => by rw [wkL]; unfold mPutsH; rw [upd_ne (by omega), wkL_k hj i (by omega)]
theorem wkP_k {R : Nat → Int32} {j : Nat} (hj : 224 ≤ j) : ∀ i, i ≤ 8 → wkP R i j = R j
  | 0, _ => rfl
  | i + 1, hi => by rw [wkP, wkS_k hj (by omega), wkP_k hj i (by omega)]
theorem wkE_232 (iv : Iv N) : wkE N 232 = N 232 := by
  unfold wkE
  rw [wkP_k (by omega) _ iv.1.p8, wkL_k (by omega) _ iv.1.h10, wkH_232 iv _ (Nat.le_refl _)]
theorem wkE_Iv (iv : Iv N) : Iv (wkE N) := by
  obtain ⟨i1, -, -, -⟩ := wkH_Iv iv (nHo N) (Nat.le_refl _)
  obtain ⟨w1, -, -⟩ := wkH_Wk iv.1 iv.2.1 (nHo N) (Nat.le_refl _)
  obtain ⟨w2, -, -⟩ := wkL_Wk w1 (nHo N) iv.1.h10
  obtain ⟨w3, -, -⟩ := wkE_Wk iv.1 iv.2.1
  exact ⟨w3.1, w3.2.1, wkP_Rst w2 (wkL_Rst w1 i1.2.2 _ iv.1.h10) _ iv.1.p8⟩
theorem week_Iv (iv : Iv N) (hw : N 232 < 999) : Iv (mWeek N) := by
  obtain ⟨c, l, -, -⟩ := week_Wk iv.1 iv.2.1
  have ie := wkE_Iv iv
  refine ⟨c, l, ?_, ?_, ?_, ?_⟩
  · obtain ⟨v, ev, -, v9⟩ := iv.2.2.1.2.2.1
    have hv : v < 999 := by
      rw [ev] at hw
      exact (nI_ltI (a := v) (b := 999) (by omega) (by decide)).mp hw
    have rd : ∀ j, j ≠ 232 → mWeek N j = wkE N j := fun j hj => upd_ne hj
    have eP : nPo (mWeek N) = nPo (wkE N) := by unfold nPo; rw [rd _ (by omega)]
    have eH : nHo (mWeek N) = nHo (wkE N) := by unfold nHo; rw [rd _ (by omega)]
    have h8 := ie.1.p8
    have h10 := ie.1.h10
    refine ⟨fun p hp => ?_, fun h hh => ?_, ?_, fun r hr => ?_⟩
    · rw [eP] at hp
      rw [rd _ (by omega), rd _ (by omega), rd _ (by omega), rd _ (by omega)]
      exact ie.2.2.1.1 p hp
    · rw [eH] at hh
      rw [rd _ (by omega), rd _ (by omega)]
      exact ie.2.2.1.2.1 h hh
    · refine ⟨v + 1, ?_, by omega, by omega⟩
      unfold mWeek
      rw [upd_eq, wkE_232 iv, ev, nI_1]
    · rw [rd _ (by omega)]
      exact ie.2.2.1.2.2.2 r hr
  · exact ie.2.2.2.1.cong ie.1 (upd_ne (by omega)) (fun p hp => ⟨upd_ne (by omega), upd_ne (by omega)⟩)
  · exact ie.2.2.2.2.1.cong ie.1 (upd_ne (by omega)) (fun k hk => upd_ne (by omega))
  · exact ie.2.2.2.2.2.cong ie.1 (upd_ne (by omega)) (upd_ne (by omega)) (fun p hp => upd_ne (by omega)) (fun i hi => upd_ne (by omega)) (fun p w hp h1 h2 => upd_ne (by omega))
end WkE
