/-! one that bids for a single home is offered once at most -/
def NO9 (M : Nat → Int32) (p : Nat) : Prop := ∀ a, a < nOf M → ¬ M (300 + 3 * a) = nI p
def UO9 (M : Nat → Int32) (p : Nat) : Prop := ∀ a b, a < nOf M → b < nOf M → M (300 + 3 * a) = nI p → M (300 + 3 * b) = nI p → a = b
section UOs
variable {N M : Nat → Int32} {p : Nat}
theorem NO9.uo (h : NO9 M p) : UO9 M p := fun a b ha _ ea _ => absurd ea (h a ha)
theorem NO9.cong {M' : Nat → Int32} (h : NO9 M p) (e : ∀ j, 299 ≤ j → M' j = M j) : NO9 M' p := by
  intro a ha
  have eO : nOf M' = nOf M := by unfold nOf; rw [e _ (by omega)]
  rw [eO] at ha
  rw [e _ (by omega)]
  exact h a ha
theorem UO9.cong {M' : Nat → Int32} (h : UO9 M p) (e : ∀ j, 299 ≤ j → M' j = M j) : UO9 M' p := by
  intro a b ha hb
  have eO : nOf M' = nOf M := by unfold nOf; rw [e _ (by omega)]
  rw [eO] at ha hb
  rw [e _ (by omega), e _ (by omega)]
  exact h a b ha hb
theorem off_old {q h a : Nat} {t : Bool} (ha : a < nOf M) : mOffered M q h t (300 + 3 * a) = M (300 + 3 * a) := by
  unfold mOffered mOff1
  rw [upd_ne (by omega), upd_ne (by omega), upd_ne (by omega), upd_ne (by omega)]
theorem off_new {q h : Nat} {t : Bool} : mOffered M q h t (300 + 3 * nOf M) = nI q := by
  unfold mOffered mOff1
  rw [upd_ne (by omega), upd_ne (by omega), upd_ne (by omega), upd_eq]
theorem NO9.off {q h : Nat} {t : Bool} (n : NO9 M p) (c : Cn M) (ho : nOf M < 30) (hq : q < 8) (hp : p < 8) (hne : q ≠ p) : NO9 (mOffered M q h t) p := by
  intro a ha
  rw [off_cnt c ho] at ha
  by_cases e : a = nOf M
  · subst e
    rw [off_new]
    exact fun z => hne ((nI_eq (by omega) (by omega)).mp z)
  · rw [off_old (by omega)]
    exact n a (by omega)
theorem UO9.off {q h : Nat} {t : Bool} (n : UO9 M p) (c : Cn M) (ho : nOf M < 30) (hq : q < 8) (hp : p < 8) (hne : q ≠ p) : UO9 (mOffered M q h t) p := by
  intro a b ha hb ea eb
  rw [off_cnt c ho] at ha hb
  have key : ∀ x, x < nOf M + 1 → mOffered M q h t (300 + 3 * x) = nI p → x < nOf M ∧ M (300 + 3 * x) = nI p := fun x hx ex => by
    by_cases e : x = nOf M
    · subst e
      rw [off_new] at ex
      exact absurd ((nI_eq (by omega) (by omega)).mp ex) hne
    · have hlt : x < nOf M := by omega
      rw [off_old hlt] at ex
      exact ⟨hlt, ex⟩
  obtain ⟨a1, a2⟩ := key a ha ea
  obtain ⟨b1, b2⟩ := key b hb eb
  exact n a b a1 b1 a2 b2
theorem NO9.one {h : Nat} {t : Bool} (n : NO9 M p) (c : Cn M) (ho : nOf M < 30) : UO9 (mOffered M p h t) p := by
  intro a b ha hb ea eb
  rw [off_cnt c ho] at ha hb
  have key : ∀ x, x < nOf M + 1 → mOffered M p h t (300 + 3 * x) = nI p → x = nOf M := fun x hx ex => by
    by_cases e : x = nOf M
    · exact e
    · rw [off_old (by omega)] at ex
      exact absurd ex (n x (by omega))
  rw [key a ha ea, key b hb eb]
theorem ref_299 {q j : Nat} (hq : q < 8) (hj : 299 ≤ j) : mRefuses M q j = M j := ref_rd (by omega) (by omega) (by omega) (by omega)
theorem tak_299 {q h j : Nat} {o : Int32} (c : Cn M) (hq : q < 8) (hh : h < 10) (hl : nLe M < 8) (hj : 299 ≤ j) : mTakes M q h o j = M j := (takes_rd c hq hh hl (by omega)).trans (tkA_hi c hq hh (by omega))
theorem letsL_UO (h : Nat) (hh : h < 10) (hp : p < 8) : ∀ (f : Nat) (M : Nat → Int32) (v k b : Nat), Wk M b → v < 2 ^ nPo M → b + (3 - k) ≤ 30 →
    (v.testBit p = false → NO9 M p → NO9 (letsL h f M v k) p) ∧ (v.testBit p = false → UO9 M p → UO9 (letsL h f M v k) p) ∧ (NO9 M p → UO9 (letsL h f M v k) p)
  | 0, M, v, k, b, w, hv, hb => ⟨fun _ n => n, fun _ n => n, fun n => n.uo⟩
  | f + 1, M, v, k, b, w, hv, hb => by
    have h8 := w.1.p8
    have hv8 := p2_8 hv h8
    have ob := w.2.2
    by_cases h0 : v = 0 ∨ 3 ≤ k
    · rw [letsL_stop h0]
      exact ⟨fun _ n => n, fun _ n => n, fun n => n.uo⟩
    · obtain ⟨q, e, hq, ht⟩ := first_some (h := h) hv h8 (fun z => h0 (Or.inl z))
      have hk : ¬ 3 ≤ k := fun z => h0 (Or.inr z)
      have hq8 : q < 8 := by omega
      have hsb := sub_bit v hv8 q hq8 ht p hp
      have hnq : v.testBit p = false → q ≠ p := fun z y => by rw [y, z] at ht; cases ht
      by_cases hm : mHope M q = true
      · have w1 : ∀ t, Wk (mOffered M q h t) (b + 1) := fun t => off_Wk w (by omega)
        by_cases htk : mTake M q (nI h) = true
        · rw [letsL_take h0 e hm htk]
          have w2 := w1 true
          have hi : mIn (mOffered M q h true) q = true := (off_in hq8).trans (hope_in hm)
          have hl := lo_lt w2.1 w2.2.1 (by rw [off_P]; exact hq) hi
          have ee : ∀ j, 299 ≤ j → mTakes (mOffered M q h true) q h (nI (k + 1)) j = mOffered M q h true j := fun j hj => tak_299 w2.1 hq8 hh hl hj
          refine ⟨fun z n => (n.off w.1 (by omega) hq8 hp (hnq z)).cong ee, fun z n => (n.off w.1 (by omega) hq8 hp (hnq z)).cong ee, fun n => ?_⟩
          by_cases eq : q = p
          · subst eq
            exact (n.one w.1 (by omega)).cong ee
          · exact (n.off w.1 (by omega) hq8 hp eq).uo.cong ee
        · rw [letsL_ref h0 e hm htk]
          obtain ⟨i1, i2, i3⟩ := letsL_UO h hh hp f (rfN M q h) (v - 2 ^ q) (k + 1) (b + 1) (ref_Wk (w1 false) hq8) (by rw [rfN_P hq8]; exact drop_lt hv) (by omega)
          have ee : ∀ j, 299 ≤ j → rfN M q h j = mOffered M q h false j := fun j hj => ref_299 hq8 hj
          refine ⟨fun z n => i1 (by rw [hsb, z]; rfl) ((n.off w.1 (by omega) hq8 hp (hnq z)).cong ee), fun z n => i2 (by rw [hsb, z]; rfl) ((n.off w.1 (by omega) hq8 hp (hnq z)).cong ee), fun n => ?_⟩
          by_cases eq : q = p
          · subst eq
            exact i2 (by rw [hsb]; simp) ((n.one w.1 (by omega)).cong ee)
          · exact i3 ((n.off w.1 (by omega) hq8 hp eq).cong ee)
      · rw [letsL_skip h0 e hm]
        obtain ⟨i1, i2, i3⟩ := letsL_UO h hh hp f M (v - 2 ^ q) k b w (drop_lt hv) hb
        exact ⟨fun z n => i1 (by rw [hsb, z]; rfl) n, fun z n => i2 (by rw [hsb, z]; rfl) n, i3⟩
theorem letsL_bid (h : Nat) (hh : h < 10) (hp : p < 8) : ∀ (f : Nat) (M : Nat → Int32) (v k b : Nat), Wk M b → v < 2 ^ nPo M → b + (3 - k) ≤ 30 → letsL h f M v k (80 + 18 * p + 10) = M (80 + 18 * p + 10)
  | 0, M, v, k, b, w, hv, hb => rfl
  | f + 1, M, v, k, b, w, hv, hb => by
    have h8 := w.1.p8
    by_cases h0 : v = 0 ∨ 3 ≤ k
    · rw [letsL_stop h0]
    · obtain ⟨q, e, hq, ht⟩ := first_some (h := h) hv h8 (fun z => h0 (Or.inl z))
      have hk : ¬ 3 ≤ k := fun z => h0 (Or.inr z)
      have hq8 : q < 8 := by omega
      by_cases hm : mHope M q = true
      · have w1 : ∀ t, Wk (mOffered M q h t) (b + 1) := fun t => off_Wk w (by omega)
        by_cases htk : mTake M q (nI h) = true
        · rw [letsL_take h0 e hm htk]
          have w2 := w1 true
          have hl := lo_lt w2.1 w2.2.1 (by rw [off_P]; exact hq) ((off_in hq8).trans (hope_in hm))
          rw [takes_rd w2.1 hq8 hh hl (by omega), tkA_rd w2.1 hh (by omega) (fun z hz => by omega) (by omega) (by omega) (by omega) (by omega) (by omega), off_rd (by omega)]
        · rw [letsL_ref h0 e hm htk]
          have g := letsL_bid h hh hp f (rfN M q h) (v - 2 ^ q) (k + 1) (b + 1) (ref_Wk (w1 false) hq8) (by rw [rfN_P hq8]; exact drop_lt hv) (by omega)
          exact g.trans (rfN_rd (by omega) (by omega) (by omega) (by omega))
      · rw [letsL_skip h0 e hm]
        exact letsL_bid h hh hp f M (v - 2 ^ q) k b w (drop_lt hv) hb
theorem wkH_UO (iv : Iv N) (hp : p < nPo N) {h : Nat} (hb : ∀ i, i < nHo N → i ≠ h → mBid N p (nI i) = false) : ∀ i, i ≤ nHo N → wkH N i (80 + 18 * p + 10) = N (80 + 18 * p + 10) ∧ (i ≤ h → NO9 (wkH N i) p) ∧ UO9 (wkH N i) p
  | 0, _ => by
    have h0 : nOf (wk0 N) = 0 := by unfold nOf wk0; rw [upd_eq]; decide
    have n0 : NO9 (wk0 N) p := fun a ha => by omega
    exact ⟨upd_ne (by have := iv.1.p8; omega), fun _ => n0, n0.uo⟩
  | i + 1, hi => by
    have h8 := iv.1.p8
    have h10 := iv.1.h10
    obtain ⟨i1, i2, i3⟩ := wkH_UO iv hp hb i (by omega)
    obtain ⟨w, e0, e1⟩ := wkH_Wk iv.1 iv.2.1 i (by omega)
    have eP : nPo (wkH N i) = nPo N := by unfold nPo; rw [e1]
    have hv := nset_lt (fun q => mBid (wkH N i) q (nI i)) (nPo (wkH N i))
    rw [wkH]
    split
    · obtain ⟨a1, a2, a3⟩ := letsL_UO i (show i < 10 by omega) (show p < 8 by omega) 9 (wkH N i) _ 0 (3 * i) w hv (by omega)
      have ab := letsL_bid i (show i < 10 by omega) (show p < 8 by omega) 9 (wkH N i) _ 0 (3 * i) w hv (by omega)
      have ee : ∀ j, 80 ≤ j → wkH1 (mLets (wkH N i) i) i j = mLets (wkH N i) i j := fun j hj => upd_ne (by omega)
      have hz : i ≠ h → (nset (fun q => mBid (wkH N i) q (nI i)) (nPo (wkH N i))).testBit p = false := fun hne => by
        rw [nset_bit _ _ (by omega) p (by omega), show mBid (wkH N i) p (nI i) = mBid N p (nI i) from by unfold mBid; rw [i1], hb i (by omega) hne, Bool.and_false]
      refine ⟨(ee _ (by omega)).trans (ab.trans i1), fun hle => ?_, ?_⟩
      · exact NO9.cong (M := mLets (wkH N i) i) (a1 (hz (by omega)) (i2 (by omega))) (fun j hj => ee j (by omega))
      · refine UO9.cong (M := mLets (wkH N i) i) ?_ (fun j hj => ee j (by omega))
        by_cases e : i = h
        · exact a3 (i2 (by omega))
        · exact a2 (hz e) i3
    · exact ⟨i1, fun hle => i2 (by omega), i3⟩
theorem week_UO (iv : Iv N) (hp : p < nPo N) {h : Nat} (hb : ∀ i, i < nHo N → i ≠ h → mBid N p (nI i) = false) : UO9 (mWeek N) p := by
  refine (wkH_UO iv hp hb (nHo N) (Nat.le_refl _)).2.2.cong (fun j hj => ?_)
  unfold mWeek wkE
  rw [upd_ne (by omega), wkP_k (by omega) _ iv.1.p8, wkL_k (by omega) _ iv.1.h10]
theorem wouldV_no {x : Int32} : ∀ n, (∀ a, a < n → ¬ M (300 + 3 * a) = x) → wouldV M x n = 0
  | 0, _ => rfl
  | n + 1, h => by rw [wouldV, if_neg (h n (by omega)), wouldV_no n (fun a ha => h a (by omega))]
theorem wouldV_at {x : Int32} {k : Nat} (hk : M (300 + 3 * k) = x) : ∀ n, k < n → (∀ a, a < n → M (300 + 3 * a) = x → a = k) → wouldV M x n = if M (300 + 3 * k + 2) = 1 then 1 else 2
  | 0, h, _ => absurd h (Nat.not_lt_zero _)
  | n + 1, h, hu => by
    rw [wouldV]
    by_cases e : n = k
    · subst e
      rw [if_pos hk]
    · rw [if_neg (fun z => e (hu n (by omega) z)), wouldV_at hk n (by omega) (fun a ha => hu a (by omega))]
end UOs
theorem one_bit : ∀ h, h < 10 → ∀ i, i < 10 → i ≠ h → (((1 : Int32) <<< (nI h &&& 31)) >>> (nI i &&& 31)) &&& 1 = 0 := by decide +kernel
theorem wouldN_b {N : Nat → Int32} {p h : Nat} (hh : h < 10) : ∀ i, i < 10 → i ≠ h → mBid (wouldN N p h) p (nI i) = false := fun i hi hne => by
  unfold mBid wouldN mPuts
  rw [upd_eq, one_bit h hh i hi hne]
  rfl
theorem weeks_eq {N : Nat → Int32} (iv : Iv N) (k : Nat) (w : Int32) : weeksV N (itr mOneMore k N) w = weeksV N (itr cStep k N) w := by
  have rd : ∀ j, (∀ q, q < 8 → j ≠ 80 + 18 * q + 10) → itr mOneMore k N j = itr cStep k N j := fun j hj => cRun_rd iv k hj
  obtain ⟨i1, f0, f1⟩ := cRun_Iv iv k
  have h8 := i1.1.p8
  have h10 := i1.1.h10
  have l8 := i1.1.l8
  have eH : nHo (itr mOneMore k N) = nHo (itr cStep k N) := by unfold nHo; rw [rd _ (fun q hq => by omega)]
  have eP : nPo (itr mOneMore k N) = nPo (itr cStep k N) := by unfold nPo; rw [rd _ (fun q hq => by omega)]
  have eL : nLe (itr mOneMore k N) = nLe (itr cStep k N) := by unfold nLe; rw [rd _ (fun q hq => by omega)]
  have eC : ∀ n, n ≤ 8 → imaxf (fun k2 => itr mOneMore k N (234 + 8 * k2 + 3)) n = imaxf (fun k2 => itr cStep k N (234 + 8 * k2 + 3)) n := by
    intro n hn
    induction n with
    | zero => rfl
    | succ n ih => rw [imaxf, imaxf, ih (by omega), rd _ (fun q hq => by omega)]
  unfold weeksV mFrees mIns mChain mPassed
  rw [eH, eP, eL, rd 233 (fun q hq => by omega), rd 298 (fun q hq => by omega), eC _ l8, isum_cong (fun h hh => by unfold mFree; rw [rd _ (fun q hq => by omega), rd _ (fun q hq => by omega), rd _ (fun q hq => by omega)] : ∀ h, h < nHo (itr cStep k N) → bI (mFree (itr mOneMore k N) h) = bI (mFree (itr cStep k N) h)), isum_cong (fun p hp => by unfold mIn; rw [rd _ (fun q hq => by omega)] : ∀ p, p < nPo (itr cStep k N) → bI (mIn (itr mOneMore k N) p) = bI (mIn (itr cStep k N) p)), isum_cong (fun p hp => rd _ (fun q hq => by omega) : ∀ p, p < nPo (itr cStep k N) → itr mOneMore k N (80 + 18 * p + 9) = itr cStep k N (80 + 18 * p + 9))]
