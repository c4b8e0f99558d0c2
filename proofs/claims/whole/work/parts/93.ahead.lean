/-! lets of a week, as rows -/
def WR (N M : Nat → Int32) : Prop := nLe N ≤ nLe M ∧ (∀ r, r < nLe N → ∀ w, w < 8 → M (234 + 8 * r + w) = N (234 + 8 * r + w)) ∧ (∀ p, p < 8 → mIn N p = false → mIn M p = false) ∧
  (∀ r, nLe N ≤ r → r < nLe M → mIn N (lPo M r) = true ∧ mIn M (lPo M r) = false ∧ M (234 + 8 * r + 2) = N 232 ∧ M (80 + 18 * lPo M r + 4) = M (234 + 8 * r + 1)) ∧
  (∀ p, p < nPo N → mIn N p = true → mIn M p = false → ∃ r, nLe N ≤ r ∧ r < nLe M ∧ lPo M r = p) ∧ nPo M = nPo N
section WRs
variable {N M : Nat → Int32}
theorem WR.rf : WR N N := ⟨Nat.le_refl _, fun _ _ _ _ => rfl, fun _ _ h => h, fun r h1 h2 => absurd h1 (by omega), fun p _ h1 h2 => (by rw [h1] at h2; cases h2), rfl⟩
theorem WR.cong {M' : Nat → Int32} (h : WR N M) (c : Cn M) (e1 : M' 231 = M 231) (e3 : ∀ j, 233 ≤ j → j < 298 → M' j = M j) (e8 : ∀ p, p < 8 → M' (80 + 18 * p + 8) = M (80 + 18 * p + 8) ∧ M' (80 + 18 * p + 4) = M (80 + 18 * p + 4)) : WR N M' := by
  have l8 := c.l8
  have h8 := c.p8
  have eL : nLe M' = nLe M := by unfold nLe; rw [e3 233 (by omega) (by omega)]
  have eP : nPo M' = nPo M := by unfold nPo; rw [e1]
  have ePo : ∀ r, r < 8 → lPo M' r = lPo M r := fun r hr => by unfold lPo; rw [e3 _ (by omega) (by omega)]
  have eI : ∀ p, p < 8 → mIn M' p = mIn M p := fun p hp => by unfold mIn; rw [(e8 p hp).1]
  obtain ⟨a1, a2, a3, a4, a5, a6⟩ := h
  refine ⟨by rw [eL]; exact a1, fun r hr w hw => by rw [e3 _ (by omega) (by omega)]; exact a2 r hr w hw, fun p hp q => by rw [eI p hp]; exact a3 p hp q, fun r h1 h2 => ?_, fun p hp h1 h2 => ?_, by rw [eP]; exact a6⟩
  · rw [eL] at h2
    have hl := lPo_lt c h2
    rw [ePo r (by omega), eI _ hl, e3 (234 + 8 * r + 2) (by omega) (by omega), e3 (234 + 8 * r + 1) (by omega) (by omega), (e8 _ hl).2]
    exact a4 r h1 h2
  · rw [eI p (by omega)] at h2
    obtain ⟨r, r1, r2, r3⟩ := a5 p hp h1 h2
    exact ⟨r, r1, by rw [eL]; exact r2, by rw [ePo r (by omega)]; exact r3⟩
theorem WR.take {p h : Nat} {o : Int32} (w : WR N M) (hw : M 232 = N 232) (c : Cn M) (hl : nLe M < 8) (hp : p < nPo M) (hh : h < 10) (hi : mIn M p = true) : WR N (mTakes M p h o) := by
  have h8 := c.p8
  have hp8 : p < 8 := by omega
  have rd : ∀ j, 80 ≤ j → mTakes M p h o j = tkA M p h o j := fun j hj => takes_rd c hp8 hh hl hj
  have rA : ∀ j, 80 ≤ j → j < 234 + 8 * nLe M → (∀ q, q < 8 → j ≠ 80 + 18 * q + 9) → j ≠ 233 → j ≠ 80 + 18 * p + 8 → j ≠ 80 + 18 * p + 4 → mTakes M p h o j = M j := fun j a b d e f g => (rd j a).trans (tkA_rd c hh b d e f g (by omega) (by omega))
  have e233 : mTakes M p h o 233 = nI (nLe M + 1) := by
    rw [rd _ (by omega)]
    unfold tkA mPutsH mPuts tk9
    rw [upd_ne (by omega), upd_ne (by omega), upd_ne (by omega), upd_ne (by omega), upd_eq, c.l, nI_1]
  have eL : nLe (mTakes M p h o) = nLe M + 1 := by
    unfold nLe at hl ⊢
    rw [e233]
    exact nI_clamp (by unfold nLe; omega)
  have eP : nPo (mTakes M p h o) = nPo M := by unfold nPo; rw [rA 231 (by omega) (by omega) (fun q hq => by omega) (by omega) (by omega) (by omega)]
  have row : ∀ k, k < 8 → mTakes M p h o (234 + 8 * nLe M + k) = tk8 M p h o (234 + 8 * nLe M + k) := fun k hk => (rd _ (by omega)).trans (tkA_let c hp8 hh hk)
  have eI : ∀ q, q < 8 → mIn (mTakes M p h o) q = if q = p then false else mIn M q := fun q hq => by
    unfold mIn
    by_cases e : q = p
    · subst e
      rw [if_pos rfl, rd _ (by omega)]
      unfold tkA mPutsH mPuts
      rw [upd_ne (by omega), upd_ne (by omega), upd_ne (by omega), upd_eq]
      rfl
    · rw [if_neg e, rA _ (by omega) (by omega) (fun r hr => by omega) (by omega) (by omega) (by omega)]
  have e4 : ∀ q, q < 8 → mTakes M p h o (80 + 18 * q + 4) = if q = p then nI h else M (80 + 18 * q + 4) := fun q hq => by
    by_cases e : q = p
    · subst e
      rw [if_pos rfl, rd _ (by omega)]
      unfold tkA mPutsH mPuts
      rw [upd_ne (by omega), upd_ne (by omega), upd_eq]
    · rw [if_neg e, rA _ (by omega) (by omega) (fun r hr => by omega) (by omega) (by omega) (by omega)]
  have old : ∀ r, r < nLe M → ∀ k, k < 8 → mTakes M p h o (234 + 8 * r + k) = M (234 + 8 * r + k) := fun r hr k hk => rA _ (by omega) (by omega) (fun q hq => by omega) (by omega) (by omega) (by omega)
  have ePo : ∀ r, r < nLe M → lPo (mTakes M p h o) r = lPo M r := fun r hr => by unfold lPo; rw [old r hr 0 (by decide)]
  have ePn : lPo (mTakes M p h o) (nLe M) = p := by
    unfold lPo
    rw [row 0 (by decide), tk8_row 0 (by decide)]
    exact nI_clamp (by omega)
  obtain ⟨a1, a2, a3, a4, a5, a6⟩ := w
  have hip : mIn N p = true := by
    cases hq : mIn N p with
    | true => rfl
    | false => rw [a3 p hp8 hq] at hi; cases hi
  refine ⟨by omega, fun r hr k hk => (old r (by omega) k hk).trans (a2 r hr k hk), fun q hq hz => ?_, fun r h1 h2 => ?_, fun q hq h1 h2 => ?_, eP.trans a6⟩
  · rw [eI q hq]
    by_cases e : q = p
    · rw [if_pos e]
    · rw [if_neg e]
      exact a3 q hq hz
  · rw [eL] at h2
    by_cases e : r = nLe M
    · subst e
      rw [ePn, eI p hp8, if_pos rfl, e4 p hp8, if_pos rfl, row 2 (by decide), row 1 (by decide), tk8_row 2 (by decide), tk8_row 1 (by decide)]
      exact ⟨hip, rfl, hw, rfl⟩
    · have hr : r < nLe M := by omega
      obtain ⟨b1, b2, b3, b4⟩ := a4 r h1 hr
      have hlp := lPo_lt c hr
      have hne : lPo M r ≠ p := fun q => by rw [q, hi] at b2; cases b2
      rw [ePo r hr, eI _ hlp, if_neg hne, e4 _ hlp, if_neg hne, old r hr 2 (by decide), old r hr 1 (by decide)]
      exact ⟨b1, b2, b3, b4⟩
  · by_cases e : q = p
    · subst e
      exact ⟨nLe M, a1, by omega, ePn⟩
    · have h8' := a6 ▸ hq
      rw [eI q (by omega), if_neg e] at h2
      obtain ⟨r, r1, r2, r3⟩ := a5 q hq h1 h2
      exact ⟨r, r1, by omega, by rw [ePo r r2]; exact r3⟩
theorem letsL_WR (h : Nat) (hh : h < 10) : ∀ (f : Nat) (M : Nat → Int32) (v k b : Nat), WR N M → M 232 = N 232 → Wk M b → v < 2 ^ nPo M → b + (3 - k) ≤ 30 → WR N (letsL h f M v k)
  | 0, M, v, k, b, r, h9, w, hv, hb => r
  | f + 1, M, v, k, b, r, h9, w, hv, hb => by
    have h8 := w.1.p8
    by_cases h0 : v = 0 ∨ 3 ≤ k
    · rw [letsL_stop h0]
      exact r
    · obtain ⟨p, e, hp, ht⟩ := first_some (h := h) hv h8 (fun q => h0 (Or.inl q))
      have hk : ¬ 3 ≤ k := fun q => h0 (Or.inr q)
      have hp8 : p < 8 := by omega
      by_cases hm : mHope M p = true
      · have w1 : ∀ t, Wk (mOffered M p h t) (b + 1) := fun t => off_Wk w (by omega)
        have r1 : ∀ t, WR N (mOffered M p h t) := fun t => r.cong w.1 (off_rd (by omega)) (fun j _ hj => off_rd (by omega)) (fun q hq => ⟨off_rd (by omega), off_rd (by omega)⟩)
        by_cases htk : mTake M p (nI h) = true
        · rw [letsL_take h0 e hm htk]
          have w2 := w1 true
          have hi : mIn (mOffered M p h true) p = true := (off_in hp8).trans (hope_in hm)
          have hl := lo_lt w2.1 w2.2.1 (by rw [off_P]; exact hp) hi
          exact (r1 true).take ((off_rd (by omega)).trans h9) w2.1 hl (by rw [off_P]; exact hp) hh hi
        · rw [letsL_ref h0 e hm htk]
          exact letsL_WR h hh f (rfN M p h) (v - 2 ^ p) (k + 1) (b + 1) ((r1 false).cong (w1 false).1 (ref_rd (by omega) (by omega) (by omega) (by omega)) (fun j _ hj => ref_rd (by omega) (by omega) (by omega) (by omega)) (fun q hq => ⟨ref_rd (by omega) (by omega) (by omega) (by omega), ref_rd (by omega) (by omega) (by omega) (by omega)⟩)) ((rfN_rd (by omega) (by omega) (by omega) (by omega)).trans h9) (ref_Wk (w1 false) hp8) (by rw [rfN_P hp8]; exact drop_lt hv) (by omega)
      · rw [letsL_skip h0 e hm]
        exact letsL_WR h hh f M (v - 2 ^ p) k b r h9 w (drop_lt hv) hb
theorem wkH_WR (iv : Iv N) : ∀ i, i ≤ nHo N → WR N (wkH N i)
  | 0, _ => show WR N (upd N 299 0) from WR.rf.cong iv.1 (upd_ne (by omega)) (fun j _ hj => upd_ne (by omega)) (fun p hp => ⟨upd_ne (by omega), upd_ne (by omega)⟩)
  | i + 1, hi => by
    have h10 := iv.1.h10
    have ih := wkH_WR iv i (by omega)
    obtain ⟨w, e0, e1⟩ := wkH_Wk iv.1 iv.2.1 i (by omega)
    rw [wkH]
    split
    · have hl := letsL_WR i (show i < 10 by omega) 9 (wkH N i) _ 0 (3 * i) ih (wkH_232 iv i (by omega)) w (nset_lt (fun p => mBid (wkH N i) p (nI i)) _) (by omega)
      have cl := (lets_Wk (h := i) (by omega) w (by omega)).1.1
      exact WR.cong (M := mLets (wkH N i) i) hl cl (upd_ne (by omega)) (fun j h1 h2 => upd_ne (by omega)) (fun p hp => ⟨upd_ne (by omega), upd_ne (by omega)⟩)
    · exact ih
theorem wkP_k2 {R : Nat → Int32} {q w : Nat} (hq : q < 8) (hw : w = 8 ∨ w = 4) : ∀ i, i ≤ 8 → wkP R i (80 + 18 * q + w) = R (80 + 18 * q + w)
  | 0, _ => rfl
  | i + 1, hi => by rw [wkP, wkS_rd (by omega) (by omega) (by omega), wkP_k2 hq hw i (by omega)]
theorem week_WR (iv : Iv N) : WR N (mWeek N) := by
  have h8 := iv.1.p8
  have h10 := iv.1.h10
  obtain ⟨w1, a0, a1⟩ := wkH_Wk iv.1 iv.2.1 (nHo N) (Nat.le_refl _)
  have e : ∀ j, 224 ≤ j → j ≠ 232 → mWeek N j = wkH N (nHo N) j := fun j hj h2 => by
    unfold mWeek wkE
    rw [upd_ne h2, wkP_k hj _ h8, wkL_k (by omega) _ h10]
  refine (wkH_WR iv _ (Nat.le_refl _)).cong w1.1 (e _ (by omega) (by omega)) (fun j h1 h2 => e j (by omega) (by omega)) (fun p hp => ⟨?_, ?_⟩)
  · unfold mWeek wkE
    rw [upd_ne (by omega), wkP_k2 hp (Or.inl rfl) _ h8, wkL_k (by omega) _ h10]
  · unfold mWeek wkE
    rw [upd_ne (by omega), wkP_k2 hp (Or.inr rfl) _ h8, wkL_k (by omega) _ h10]
theorem step_WR (iv : Iv N) : WR N (cStep N) := by
  unfold cStep
  split
  · have ia := allBid_Iv iv
    have rd : ∀ j, (∀ q, q < 8 → j ≠ 80 + 18 * q + 10) → (mAllBid N).1 j = N j := fun j hj => allBid_rd iv hj
    have w := week_WR ia
    have eL : nLe (mAllBid N).1 = nLe N := by unfold nLe; rw [rd _ (fun q hq => by omega)]
    have eP : nPo (mAllBid N).1 = nPo N := by unfold nPo; rw [rd _ (fun q hq => by omega)]
    have eI : ∀ p, mIn (mAllBid N).1 p = mIn N p := fun p => by unfold mIn; rw [rd _ (fun q hq => by omega)]
    have l8 := iv.1.l8
    obtain ⟨a1, a2, a3, a4, a5, a6⟩ := w
    rw [eL] at a1 a2 a4 a5
    rw [eP] at a5 a6
    refine ⟨a1, fun r hr k hk => (a2 r hr k hk).trans (rd _ (fun q hq => by omega)), fun p hp q => a3 p hp (by rw [eI]; exact q), fun r h1 h2 => ?_, fun p hp h1 h2 => a5 p hp (by rw [eI]; exact h1) h2, a6⟩
    have := a4 r h1 h2
    rw [eI, rd 232 (fun q hq => by omega)] at this
    exact this
  · exact WR.rf
/-- whose let it was is out -/
def OuL (N : Nat → Int32) : Prop := ∀ r, r < nLe N → mIn N (lPo N r) = false
theorem WR.ou (w : WR N M) (c : Cn N) (h : OuL N) : OuL M := by
  intro r hr
  by_cases e : r < nLe N
  · have hl := lPo_lt c e
    have : lPo M r = lPo N r := by unfold lPo; rw [w.2.1 r e 0 (by decide)]
    rw [this]
    exact w.2.2.1 _ hl (h r e)
  · exact (w.2.2.2.1 r (by omega) hr).2.1
theorem run_nLe (iv : Iv N) : ∀ k, nLe N ≤ nLe (itr cStep k N)
  | 0 => Nat.le_refl _
  | k + 1 => by
    rw [itr_succ]
    exact Nat.le_trans (run_nLe iv k) (step_WR (cRun_Iv iv k).1).1
/-- what a run ahead tells of one house -/
def WhI (N K : Nat → Int32) (p : Nat) (t v : Int32) : Prop := OuL K ∧ ((mIn K p = true ∧ v = -1) ∨ (mIn K p = false ∧ ¬ v = -1 ∧ (∃ r, r < nLe K ∧ lPo K r = p) ∧ ∀ r, r < nLe K → lPo K r = p → v = if t = 0 then K (234 + 8 * r + 2) else K (234 + 8 * r + 1)))
theorem when_run (iv : Iv N) (ho : OuL N) {p : Nat} {t : Int32} (hp : p < nPo N) (hi : mIn N p = true) : ∀ k, WhI N (itr cStep k N) p t (whenV N p t k)
  | 0 => ⟨ho, Or.inl ⟨hi, rfl⟩⟩
  | k + 1 => by
    have h8 := iv.1.p8
    obtain ⟨i1, f0, f1⟩ := cRun_Iv iv k
    obtain ⟨i2, g0, g1⟩ := cRun_Iv iv (k + 1)
    have w := step_WR i1
    rw [← itr_succ cStep k N] at w
    obtain ⟨o1, hd⟩ := when_run (t := t) iv ho hp hi k
    have o2 := w.ou i1.1 o1
    have eIn : ∀ j, mIn (itr mOneMore j N) p = mIn (itr cStep j N) p := fun j => by unfold mIn; rw [cRun_rd iv j (fun q hq => by omega)]
    have eP : nPo (itr cStep k N) = nPo N := by unfold nPo; rw [f1]
    refine ⟨o2, ?_⟩
    have ePo : ∀ r, r < nLe (itr cStep k N) → lPo (itr cStep (k + 1) N) r = lPo (itr cStep k N) r := fun r hr => by unfold lPo; rw [w.2.1 r hr 0 (by decide)]
    rcases hd with ⟨hk, hv⟩ | ⟨hk, hv, ⟨r0, hr0, er0⟩, hall⟩
    · rw [whenV, if_neg (fun q => q hv), eIn]
      cases hk2 : mIn (itr cStep (k + 1) N) p with
      | true => exact Or.inl ⟨rfl, by rw [if_pos rfl]⟩
      | false =>
        refine Or.inr ⟨rfl, ?_, ?_, ?_⟩
        · rw [if_neg (by decide)]
          split
          · rw [cRun_rd iv k (fun q hq => by omega)]
            obtain ⟨x, ex, -, hx⟩ := i1.2.2.1.2.2.1
            rw [ex]
            exact nI_ne_m1 (by omega)
          · rw [cRun_rd iv (k + 1) (fun q hq => by omega)]
            obtain ⟨r, r1, r2, r3⟩ := w.2.2.2.2.1 p (by omega) hk hk2
            obtain ⟨-, -, -, b4⟩ := w.2.2.2.1 r r1 r2
            rw [r3] at b4
            rw [b4]
            obtain ⟨x, hx, ex⟩ := i2.1.lh r2
            rw [ex]
            exact nI_ne_m1 (by omega)
        · obtain ⟨r, r1, r2, r3⟩ := w.2.2.2.2.1 p (by omega) hk hk2
          exact ⟨r, r2, r3⟩
        · intro r hr er
          rw [if_neg (by decide)]
          have hge : nLe (itr cStep k N) ≤ r := by
            rcases Nat.lt_or_ge r (nLe (itr cStep k N)) with q | q
            · have := o1 r q
              rw [← ePo r q, er, hk] at this
              cases this
            · exact q
          obtain ⟨-, -, b3, b4⟩ := w.2.2.2.1 r hge hr
          rw [er] at b4
          rw [cRun_rd iv k (fun q hq => by omega), cRun_rd iv (k + 1) (fun q hq => by omega), b3, b4]
    · have ew : whenV N p t (k + 1) = whenV N p t k := by rw [whenV, if_pos hv]
      rw [ew]
      refine Or.inr ⟨w.2.2.1 p (by omega) hk, hv, ⟨r0, Nat.lt_of_lt_of_le hr0 w.1, (ePo r0 hr0).trans er0⟩, fun r hr er => ?_⟩
      rcases Nat.lt_or_ge r (nLe (itr cStep k N)) with q | q
      · rw [w.2.1 r q 2 (by decide), w.2.1 r q 1 (by decide)]
        exact hall r q (by rw [← ePo r q]; exact er)
      · obtain ⟨b1, -, -, -⟩ := w.2.2.2.1 r q hr
        rw [er, hk] at b1
        cases b1
/-- as the class looks it up -/
theorem when_eq (iv : Iv N) (ho : OuL N) {p : Nat} {t : Int32} (hp : p < nPo N) (hi : mIn N p = true) (k : Nat) :
    (fa_first (fun r => decide (itr cStep k N (234 + 8 * r + 0) = nI p)) (nLe (itr cStep k N)) < nLe (itr cStep k N) → whenV N p t k = (if t = 0 then itr cStep k N (234 + 8 * fa_first (fun r => decide (itr cStep k N (234 + 8 * r + 0) = nI p)) (nLe (itr cStep k N)) + 2) else itr cStep k N (234 + 8 * fa_first (fun r => decide (itr cStep k N (234 + 8 * r + 0) = nI p)) (nLe (itr cStep k N)) + 1)) ∧ ¬ whenV N p t k = -1) ∧
    (¬ fa_first (fun r => decide (itr cStep k N (234 + 8 * r + 0) = nI p)) (nLe (itr cStep k N)) < nLe (itr cStep k N) → whenV N p t k = -1) := by
  have h8 := iv.1.p8
  obtain ⟨i1, f0, f1⟩ := cRun_Iv iv k
  obtain ⟨o1, hd⟩ := when_run (t := t) iv ho hp hi k
  have key : ∀ r, r < nLe (itr cStep k N) → (itr cStep k N (234 + 8 * r + 0) = nI p ↔ lPo (itr cStep k N) r = p) := fun r hr => by
    obtain ⟨j, hj, e⟩ := i1.1.lp hr
    unfold lPo
    rw [e, nI_clamp (by omega)]
    exact nI_eq (by omega) (by omega)
  constructor
  · intro q
    have hy := of_decide_eq_true (fa_first_yes _ _ q)
    have hl := (key _ q).mp hy
    rcases hd with ⟨hk, hv⟩ | ⟨hk, hv, -, hall⟩
    · have := o1 _ q
      rw [hl, hk] at this
      cases this
    · exact ⟨hall _ q hl, hv⟩
  · intro q
    rcases hd with ⟨hk, hv⟩ | ⟨hk, hv, ⟨r0, hr0, er0⟩, -⟩
    · exact hv
    · exact absurd (ff_lt hr0 (decide_eq_true ((key r0 hr0).mpr er0))) q
end WRs
