/-! words and what a line keeps to -/
theorem lshl5 {k : Nat} (hk : k < 2 ^ 58) : lN k <<< ((5 : Int32).toInt64 &&& 63) = lN (32 * k) := by
  have e5 : ((5 : Int32).toInt64 &&& 63) = 5 := by decide
  rw [e5]
  apply Int64.toBitVec_inj.mp
  apply BitVec.eq_of_toNat_eq
  have e : ((5 : Int64).toBitVec.smod 64).toNat = 5 := by decide
  show ((lN k).toBitVec <<< ((5 : Int64).toBitVec.smod 64).toNat).toNat = (BitVec.ofNat 64 (32 * k)).toNat
  rw [e, BitVec.toNat_shiftLeft, Nat.shiftLeft_eq]
  show (BitVec.ofNat 64 k).toNat * 2 ^ 5 % 2 ^ 64 = (BitVec.ofNat 64 (32 * k)).toNat
  rw [BitVec.toNat_ofNat, BitVec.toNat_ofNat, Nat.mod_eq_of_lt (by omega : k < 2 ^ 64), Nat.mul_comm]
theorem lor_N {k c : Nat} (hk : k < 2 ^ 58) (hc : c < 32) : lN (32 * k) ||| lN c = lN (32 * k + c) := by
  apply Int64.toBitVec_inj.mp
  apply BitVec.eq_of_toNat_eq
  rw [Int64.toBitVec_or, BitVec.toNat_or]
  show (BitVec.ofNat 64 (32 * k)).toNat ||| (BitVec.ofNat 64 c).toNat = (BitVec.ofNat 64 (32 * k + c)).toNat
  rw [BitVec.toNat_ofNat, BitVec.toNat_ofNat, BitVec.toNat_ofNat, Nat.mod_eq_of_lt (by omega : 32 * k < 2 ^ 64), Nat.mod_eq_of_lt (by omega : c < 2 ^ 64), Nat.mod_eq_of_lt (by omega : 32 * k + c < 2 ^ 64)]
  have h := Nat.shiftLeft_add_eq_or_of_lt (i := 5) (b := c) hc k
  rw [Nat.shiftLeft_eq] at h
  rw [Nat.mul_comm 32 k]
  exact h.symm
theorem let_of {c : Int32} (h : isLet c = true) : ∃ j, 1 ≤ j ∧ j ≤ 26 ∧ c = nI (96 + j) := by
  unfold isLet at h
  simp at h
  obtain ⟨k, k1, k2, k3⟩ := rng (x := 97) (y := 122) (by decide) h.1 h.2 (by decide)
  exact ⟨k - 96, by omega, by omega, by rw [k1]; congr 1; omega⟩
theorem jnd_N {k j : Nat} (hk : k < 2 ^ 58) (hj : j < 32) : jnd (lN k) (nI (96 + j)) = lN (32 * k + j) := by
  unfold jnd
  have e : (nI (96 + j)).toInt64 - 96 = lN j := by
    rw [nI_l (by omega)]
    show lN (96 + j) - lN 96 = _
    rw [lN_sub (by omega)]
    congr 1
    omega
  rw [lshl5 hk, e, lor_N hk hj]
theorem runF_all {P : Int32 → Bool} {T : Nat → Int32} {s : Nat} : ∀ d t i, t ≤ i → i < runF P T s d t → P (tb T s i) = true := by
  intro d
  induction d with
  | zero =>
    intro t i h1 h2
    have h2 : i < t := h2
    omega
  | succ d ih =>
    intro t i h1 h2
    have h2 : i < (if P (tb T s t) then runF P T s d (t + 1) else t) := h2
    by_cases hp : P (tb T s t) = true
    · rw [if_pos hp] at h2
      by_cases e : t = i
      · subst e
        exact hp
      · exact ih (t + 1) i (by omega) h2
    · rw [if_neg hp] at h2
      omega
theorem runT_all {P : Int32 → Bool} {T : Nat → Int32} {s t i : Nat} (h : t ≤ i) (h2 : i < runT P T s t) : P (tb T s i) = true := runF_all _ _ _ h h2
theorem wrd_N {T : Nat → Int32} {s f : Nat} : ∀ i, i ≤ 8 → (∀ k, k < i → isLet (tb T s (f + k)) = true) → ∃ k, k < 2 ^ (5 * i) ∧ wrd T s f i = lN k := by
  intro i
  induction i with
  | zero => intro _ _; exact ⟨0, by decide, rfl⟩
  | succ i ih =>
    intro hi h
    obtain ⟨k, k1, k2⟩ := ih (by omega) (fun k hk => h k (by omega))
    obtain ⟨j, j1, j2, j3⟩ := let_of (h i (by omega))
    have h58 : k < 2 ^ 58 := Nat.lt_of_lt_of_le k1 (Nat.pow_le_pow_right (by decide) (by omega))
    refine ⟨32 * k + j, ?_, ?_⟩
    · have e : 2 ^ (5 * (i + 1)) = 32 * 2 ^ (5 * i) := by
        rw [show 5 * (i + 1) = 5 + 5 * i by omega, Nat.pow_add]
      rw [e]
      omega
    · show jnd (wrd T s f i) (tb T s (f + i)) = _
      rw [k2, j3, jnd_N h58 (by omega)]
def NmO (w : Int64) : Prop := ∃ k, k < 2 ^ 40 ∧ w = lN k
def Tq (T : Nat → Int32) (s : Nat) (k : Tk) : Prop := ∃ t, t ≤ s ∧ k = tok T s t
theorem Tq.o {T : Nat → Int32} {s : Nat} {k : Tk} (h : Tq T s k) : TkO s k := by
  obtain ⟨t, ht, rfl⟩ := h
  exact TkO.tok ht
theorem Tq.n {T : Nat → Int32} {s : Nat} {k : Tk} (h : Tq T s k) : Tq T s (nx T s k) ∧ k.1 ≤ (nx T s k).1 ∧ k.2.1 ≤ (nx T s k).1 := by
  have o := h.o
  refine ⟨⟨k.2.1, o.2.1, rfl⟩, ?_, (tok_le o.2.1).1⟩
  exact Nat.le_trans o.1 (tok_le o.2.1).1
theorem Tq.gt {T : Nat → Int32} {s : Nat} {k : Tk} (h : Tq T s k) (hk : k.2.2.1 ≠ 0) : k.1 < (nx T s k).1 := by
  have h2 := h.n.2.2
  obtain ⟨t, ht, rfl⟩ := h
  exact Nat.lt_of_lt_of_le ((tok_le ht).2.2.2.1 hk) h2
theorem Tq.nm {T : Nat → Int32} {s : Nat} {k : Tk} (h : Tq T s k) (hk : k.2.2.1 = 2) : NmO k.2.2.2.1 := by
  obtain ⟨t, ht, rfl⟩ := h
  unfold tok tokAt at hk ⊢
  generalize runT isSpc T s t = f at hk
  by_cases c1 : tb T s f = -1
  · rw [if_pos c1] at hk
    exact absurd hk (show ¬ (0 : Nat) = 2 by decide)
  · rw [if_neg c1] at hk ⊢
    by_cases c2 : isLet (tb T s f) = true
    · rw [if_pos c2] at hk ⊢
      show NmO (wrd T s f (min 8 (runT isLet T s f - f)))
      obtain ⟨w, w1, w2⟩ := wrd_N (T := T) (s := s) (f := f) (min 8 (runT isLet T s f - f)) (Nat.min_le_left _ _) (fun i hi => runT_all (Nat.le_add_right f i) (by omega))
      exact ⟨w, Nat.lt_of_lt_of_le w1 (Nat.pow_le_pow_right (by decide) (by omega)), w2⟩
    · rw [if_neg c2] at hk
      by_cases c3 : isDig (tb T s f) = true
      · rw [if_pos c3] at hk
        have hk : (if 3 < runT isDig T s f - f then 1 else 3) = 2 := hk
        split at hk <;> exact absurd hk (by decide)
      · rw [if_neg c3] at hk
        have hk : (if tb T s f = 59 then 4 else 1) = 2 := hk
        split at hk <;> exact absurd hk (by decide)
def PI (T : Nat → Int32) (s : Nat) (p : PSt) : Prop := Tq T s p.1 ∧ PcO p.2.1 ∧ PG p.2.1 (cH p.2.1) (cP p.2.1) ∧ (∀ h, h < cH p.2.1 → NmO (p.2.2 h)) ∧ ∀ q, q < cP p.2.1 → NmO (p.2.2 (10 + q))
theorem tWd_k {k : Tk} {i : Nat} (h : tWd k i = true) : k.2.2.1 = 2 := by
  unfold tWd at h
  simp at h
  exact h.1
theorem cH_eq {R : Nat → Int32} {a : Nat} (h : R 230 = nI a) (ha : a < 2 ^ 31) : cH R = a := by
  unfold cH
  rw [h]
  exact nI_clamp ha
theorem cP_eq {R : Nat → Int32} {a : Nat} (h : R 231 = nI a) (ha : a < 2 ^ 31) : cP R = a := by
  unfold cP
  rw [h]
  exact nI_clamp ha
theorem cW_eq {R : Nat → Int32} {q a : Nat} (h : R (80 + 18 * q + 11) = nI a) (ha : a < 2 ^ 31) : cW R q = a := by
  unfold cW
  rw [h]
  exact nI_clamp ha
theorem pEnd_row {T : Nat → Int32} {s : Nat} {p p' : PSt} (h : pEnd T s p = .inr p') : p' = (nx T s p.1, p.2.1, p.2.2) := by
  unfold pEnd at h
  split at h
  · exact (Sum.inr.inj h).symm
  · cases h
theorem pB_in {r : PRs} {f : PSt → PRs} {p' : PSt} (h : pB r f = .inr p') : ∃ p, r = .inr p ∧ f p = .inr p' := by
  cases r with
  | inl e => cases h
  | inr p => exact ⟨p, rfl, h⟩
theorem pHome_in {T : Nat → Int32} {s : Nat} {p p' : PSt} (h : PI T s p) (e : pHome T s p = .inr p') : PI T s p' ∧ p.1.1 ≤ p'.1.1 ∧ (p.1.2.2.1 ≠ 0 → p.1.1 < p'.1.1) := by
  obtain ⟨ht, hc, hg, n1, n2⟩ := h
  unfold pHome at e
  split at e
  · cases e
  · rename_i ha
    have ha10 : cH p.2.1 < 10 := by have := hc.2.1; omega
    obtain ⟨p2, e2, e⟩ := pB_in e
    obtain ⟨p3, e3, e⟩ := pB_in e
    obtain ⟨p4, e4, e⟩ := pB_in e
    have r5 := pEnd_row e
    obtain ⟨r2, t2, -⟩ := pName_row e2
    obtain ⟨r3, l3, u3, -⟩ := pNum_row e3
    obtain ⟨r4, l4, u4, -⟩ := pNum_row e4
    have q1 := ht.n
    have q2 := q1.1.n
    have q3 : Tq T s p3.1 ∧ p2.1.1 ≤ p3.1.1 := by rw [r3]; rw [r2]; exact ⟨q2.1.n.1, q2.1.n.2.1⟩
    have q4 : Tq T s p4.1 ∧ p3.1.1 ≤ p4.1.1 := by rw [r4]; exact ⟨q3.1.n.1, q3.1.n.2.1⟩
    have m2 : (nx T s p.1).1 ≤ p2.1.1 := by rw [r2]; exact q2.2.1
    have m5 : p4.1.1 ≤ p'.1.1 := by rw [r5]; exact q4.1.n.2.1
    have R2 : p2.2.1 = p.2.1 := by rw [r2]
    have R3 : p3.2.1 = upd p.2.1 (8 * cH p.2.1) p2.1.2.2.2.2 := by rw [r3, R2]
    have R4 : p4.2.1 = upd (upd p.2.1 (8 * cH p.2.1) p2.1.2.2.2.2) (8 * cH p.2.1 + 1) p3.1.2.2.2.2 := by rw [r4, R3]
    have R5 : p'.2.1 = upd (upd p4.2.1 (8 * cH p.2.1 + 2) (-1)) 230 (nI (cH p.2.1 + 1)) := by rw [r5]
    have Q5 : p'.2.2 = vp_updL p.2.2 (cH p.2.1) (nx T s p.1).2.2.2.1 := by rw [r5, r4, r3, r2]
    have v2 := rng (x := 1) (y := 4) (by decide) l3 u3 (by decide)
    have v3 := rng (x := 0) (y := 7) (by decide) l4 u4 (by decide)
    have c230 : p'.2.1 230 = nI (cH p.2.1 + 1) := by rw [R5]; exact pk_us
    have c231 : p'.2.1 231 = nI (cP p.2.1) := by
      rw [R5, R4, pk_un (by omega), pk_un (by omega), pk_un (by omega), pk_un (by omega)]
      exact hc.2.2.1
    have eH : cH p'.2.1 = cH p.2.1 + 1 := cH_eq c230 (by omega)
    have eP : cP p'.2.1 = cP p.2.1 := cP_eq c231 (by have := hc.2.2.2; omega)
    refine ⟨⟨by rw [r5]; exact q4.1.n.1, ⟨by rw [eH]; exact c230, by rw [eH]; omega, by rw [eP]; exact c231, by rw [eP]; exact hc.2.2.2⟩, ?_, fun h hh => ?_, fun q hq => ?_⟩, ?_, fun hk => ?_⟩
    · rw [eH, eP]
      refine PG.home hg ha10 (fun k h1 h2 => ?_) ?_ ?_ ?_
      · rw [R5, R4, pk_un (by omega), pk_un (by omega), pk_un (by omega), pk_un (by omega)]
      · rw [R5, R4, pk_un (by omega), pk_un (by omega), pk_un (by omega), pk_us]
        obtain ⟨v, x1, x2, x3⟩ := v2
        exact ⟨v, x1, x2, x3⟩
      · rw [R5, R4, pk_un (by omega), pk_un (by omega), pk_us]
        obtain ⟨v, x1, x2, x3⟩ := v3
        exact ⟨v, x1, x3⟩
      · rw [R5, pk_un (by omega), pk_us]
    · rw [Q5]
      by_cases eh : h = cH p.2.1
      · subst eh
        rw [pk_uLs]
        exact q1.1.nm (tNm2 t2)
      · rw [pk_uLn eh]
        exact n1 h (by omega)
    · rw [eP] at hq
      rw [Q5, pk_uLn (by omega)]
      exact n2 q hq
    · have := q1.2.1
      omega
    · have := ht.gt hk
      omega
theorem pRule_in {T : Nat → Int32} {s : Nat} {p p' : PSt} (h : PI T s p) (e : pRule T s p = .inr p') : PI T s p' ∧ p.1.1 ≤ p'.1.1 ∧ (p.1.2.2.1 ≠ 0 → p.1.1 < p'.1.1) := by
  obtain ⟨ht, hc, hg, n1, n2⟩ := h
  unfold pRule at e
  split at e
  · cases e
  · rename_i hr
    have hr6 : fa_first (tWd (nx T s p.1)) 6 < 6 := by have := fa_first_le (tWd (nx T s p.1)) 6; omega
    obtain ⟨p2, e2, e⟩ := pB_in e
    have r3 := pEnd_row e
    obtain ⟨r2, l2, u2, -⟩ := pNum_row e2
    have q1 := ht.n
    have q2 := q1.1.n
    have q3 : Tq T s p2.1 ∧ (nx T s (nx T s p.1)).1 ≤ p2.1.1 := by rw [r2]; exact ⟨q2.1.n.1, q2.1.n.2.1⟩
    have m3 : p2.1.1 ≤ p'.1.1 := by rw [r3]; exact q3.1.n.2.1
    have R3 : p'.2.1 = upd p.2.1 (224 + fa_first (tWd (nx T s p.1)) 6) (nx T s (nx T s p.1)).2.2.2.2 := by rw [r3, r2]
    have Q3 : p'.2.2 = p.2.2 := by rw [r3, r2]
    have hC := hc.up (i := 224 + fa_first (tWd (nx T s p.1)) 6) (v := (nx T s (nx T s p.1)).2.2.2.2) (by omega) (by omega)
    rw [← R3] at hC
    refine ⟨⟨by rw [r3]; exact q3.1.n.1, hC.1, ?_, fun h hh => ?_, fun q hq => ?_⟩, ?_, fun hk => ?_⟩
    · rw [hC.2.1, hC.2.2]
      refine PG.rule hg hr6 (fun k hk => by rw [R3]; exact pk_un hk) ?_
      rw [R3, pk_us]
      exact ⟨l2, u2⟩
    · rw [Q3]
      exact n1 h (by rw [← hC.2.1]; exact hh)
    · rw [Q3]
      exact n2 q (by rw [← hC.2.2]; exact hq)
    · have := q1.2.1
      have := q2.2.1
      omega
    · have := ht.gt hk
      have := q2.2.1
      omega
theorem pWhere_in {T : Nat → Int32} {s a b : Nat} {p p' : PSt} (ht : Tq T s p.1) (hg : PG p.2.1 a (b + 1)) (ha : cH p.2.1 = a) (hb : p.2.1 (80 + 18 * b + 4) = -1) (hw : p.2.1 (80 + 18 * b + 11) = 0) (e : pWhere T s b p = .inr p') :
    Tq T s p'.1 ∧ p.1.1 ≤ p'.1.1 ∧ PG p'.2.1 a (b + 1) ∧ p'.2.1 230 = p.2.1 230 ∧ p'.2.1 231 = p.2.1 231 ∧ p'.2.1 (80 + 18 * b + 11) = 0 ∧ p'.2.2 = p.2.2 := by
  unfold pWhere at e
  split at e
  · obtain ⟨h, h1, h2, r⟩ := pIn_row e
    have q1 := ht.n
    have q2 := q1.1.n
    have R : p'.2.1 = upd (upd p.2.1 (80 + 18 * b + 4) (nI h)) (8 * h + 2) (nI b) := by rw [r]
    have ha10 := hg.1.1
    have hb8 := hg.1.2
    refine ⟨by rw [r]; exact q2.1, by rw [r]; exact Nat.le_trans q1.2.1 q2.2.1, ?_, ?_, ?_, ?_, by rw [r]⟩
    · refine PG.live hg (ha ▸ h1) h2 hb (fun k k1 k2 => ?_) ?_ ?_
      · rw [R, pk_un k2, pk_un k1]
      · rw [R, pk_un (by omega), pk_us]
      · rw [R, pk_us]
    · rw [R, pk_un (by omega), pk_un (by omega)]
    · rw [R, pk_un (by omega), pk_un (by omega)]
    · rw [R, pk_un (by omega), pk_un (by omega)]
      exact hw
  · have e := Sum.inr.inj e
    subst e
    exact ⟨ht, Nat.le_refl _, hg, rfl, rfl, hw, rfl⟩
theorem pWish_in {T : Nat → Int32} {s a b w : Nat} {p p' : PSt} (ht : Tq T s p.1) (hg : PG p.2.1 a (b + 1)) (ha : cH p.2.1 = a) (hw : p.2.1 (80 + 18 * b + 11) = nI w) (hw6 : w ≤ 6) (e : pWish T s b p = .inr p') :
    Tq T s p'.1 ∧ p.1.1 ≤ p'.1.1 ∧ PG p'.2.1 a (b + 1) ∧ p'.2.1 230 = p.2.1 230 ∧ p'.2.1 231 = p.2.1 231 ∧ p'.2.1 (80 + 18 * b + 11) = nI (w + 1) ∧ w < 6 ∧ p'.2.2 = p.2.2 := by
  obtain ⟨h, h1, h2, h3, r⟩ := pWish_row e
  have eW : cW p.2.1 b = w := cW_eq hw (by omega)
  rw [eW] at h2 h3 r
  have q1 := ht.n
  have R : p'.2.1 = upd (upd p.2.1 (80 + 18 * b + (12 + w)) (nI h)) (80 + 18 * b + 11) (nI (w + 1)) := by rw [r]
  have hb8 := hg.1.2
  refine ⟨by rw [r]; exact q1.1, by rw [r]; exact q1.2.1, ?_, ?_, ?_, ?_, by omega, by rw [r]⟩
  · refine PG.wish hg (ha ▸ h1) hw (by omega) h2 (fun k k1 k2 => ?_) ?_ ?_
    · rw [R, pk_un k1, pk_un k2]
    · rw [R, pk_un (by omega), pk_us]
    · rw [R, pk_us]
  · rw [R, pk_un (by omega), pk_un (by omega)]
  · rw [R, pk_un (by omega), pk_un (by omega)]
  · rw [R, pk_us]
theorem pWishes_in {T : Nat → Int32} {s a b : Nat} : ∀ d w (p p' : PSt), Tq T s p.1 → PG p.2.1 a (b + 1) → cH p.2.1 = a → p.2.1 (80 + 18 * b + 11) = nI w → w ≤ 6 → pWishes T s b d p = .inr p' →
    Tq T s p'.1 ∧ p.1.1 ≤ p'.1.1 ∧ PG p'.2.1 a (b + 1) ∧ p'.2.1 230 = p.2.1 230 ∧ p'.2.1 231 = p.2.1 231 ∧ p'.2.2 = p.2.2 := by
  intro d
  induction d with
  | zero =>
    intro w p p' ht hg ha hw hw6 e
    have e : p = p' := Sum.inr.inj e
    subst e
    exact ⟨ht, Nat.le_refl _, hg, rfl, rfl, rfl⟩
  | succ d ih =>
    intro w p p' ht hg ha hw hw6 e
    have e : (if tNm p.1 then pB (pWish T s b p) (pWishes T s b d) else .inr p) = .inr p' := e
    by_cases hn : tNm p.1 = true
    · rw [if_pos hn] at e
      obtain ⟨p2, e2, e⟩ := pB_in e
      obtain ⟨a1, a2, a3, a4, a5, a6, a7, a8⟩ := pWish_in ht hg ha hw hw6 e2
      have ha2 : cH p2.2.1 = a := by
        unfold cH
        rw [a4]
        exact ha
      obtain ⟨b1, b2, b3, b4, b5, b6⟩ := ih (w + 1) p2 p' a1 a3 ha2 a6 a7 e
      exact ⟨b1, Nat.le_trans a2 b2, b3, b4.trans a4, b5.trans a5, b6.trans a8⟩
    · rw [if_neg hn] at e
      have e : p = p' := Sum.inr.inj e
      subst e
      exact ⟨ht, Nat.le_refl _, hg, rfl, rfl, rfl⟩
theorem pHouse_in {T : Nat → Int32} {s : Nat} {p p' : PSt} (h : PI T s p) (e : pHouse T s p = .inr p') : PI T s p' ∧ p.1.1 ≤ p'.1.1 ∧ (p.1.2.2.1 ≠ 0 → p.1.1 < p'.1.1) := by
  obtain ⟨ht, hc, hg, n1, n2⟩ := h
  unfold pHouse at e
  split at e
  · cases e
  · rename_i hb
    have hb8 : cP p.2.1 < 8 := by have := hc.2.2.2; omega
    have ha10 := hc.2.1
    obtain ⟨p2, e2, e⟩ := pB_in e
    obtain ⟨p3, e3, e⟩ := pB_in e
    obtain ⟨p4, e4, e⟩ := pB_in e
    obtain ⟨p5, e5, e⟩ := pB_in e
    obtain ⟨p6, e6, e⟩ := pB_in e
    obtain ⟨p7, e7, e⟩ := pB_in e
    obtain ⟨p8, e8, e⟩ := pB_in e
    have r9 := pEnd_row e
    obtain ⟨r2, t2, -⟩ := pName_row e2
    obtain ⟨r3, l3, u3, -⟩ := pNum_row e3
    obtain ⟨r4, l4, u4, -⟩ := pNum_row e4
    obtain ⟨r5, l5, u5, -⟩ := pNum_row e5
    obtain ⟨r6, l6, u6, -⟩ := pNum_row e6
    have q1 := ht.n
    have q2 : Tq T s p2.1 ∧ (nx T s p.1).1 ≤ p2.1.1 := by rw [r2]; exact ⟨q1.1.n.1, q1.1.n.2.1⟩
    have q3 : Tq T s p3.1 ∧ p2.1.1 ≤ p3.1.1 := by rw [r3]; exact ⟨q2.1.n.1, q2.1.n.2.1⟩
    have q4 : Tq T s p4.1 ∧ p3.1.1 ≤ p4.1.1 := by rw [r4]; exact ⟨q3.1.n.1, q3.1.n.2.1⟩
    have q5 : Tq T s p5.1 ∧ p4.1.1 ≤ p5.1.1 := by rw [r5]; exact ⟨q4.1.n.1, q4.1.n.2.1⟩
    have q6 : Tq T s p6.1 ∧ p5.1.1 ≤ p6.1.1 := by rw [r6]; exact ⟨q5.1.n.1, q5.1.n.2.1⟩
    have R2 : p2.2.1 = p.2.1 := by rw [r2]
    have R3 : p3.2.1 = upd p.2.1 (80 + 18 * cP p.2.1) p2.1.2.2.2.2 := by rw [r3, R2]
    have R4 : p4.2.1 = upd p3.2.1 (80 + 18 * cP p.2.1 + 1) p3.1.2.2.2.2 := by rw [r4]
    have R5 : p5.2.1 = upd p4.2.1 (80 + 18 * cP p.2.1 + 2) p4.1.2.2.2.2 := by rw [r5]
    have R6 : p6.2.1 = upd p5.2.1 (80 + 18 * cP p.2.1 + 3) p5.1.2.2.2.2 := by rw [r6]
    have Q6 : p6.2.2 = vp_updL p.2.2 (10 + cP p.2.1) (nx T s p.1).2.2.2.1 := by rw [r6, r5, r4, r3, r2]
    obtain ⟨v2, x2, y2, z2⟩ := rng (x := 1) (y := 4) (by decide) l3 u3 (by decide)
    obtain ⟨v3, x3, y3, z3⟩ := rng (x := 1) (y := 4) (by decide) l4 u4 (by decide)
    obtain ⟨v4, x4, y4, z4⟩ := rng (x := 0) (y := 7) (by decide) l5 u5 (by decide)
    obtain ⟨v5, x5, y5, z5⟩ := rng (x := 0) (y := 999) (by decide) l6 u6 (by decide)
    have rest : ∀ k, (k < 80 + 18 * cP p.2.1 ∨ 80 + 18 * cP p.2.1 + 5 ≤ k) → upd p6.2.1 (80 + 18 * cP p.2.1 + 4) (-1) k = p.2.1 k := by
      intro k hk
      rw [R6, R5, R4, R3, pk_un (by omega), pk_un (by omega), pk_un (by omega), pk_un (by omega), pk_un (by omega)]
    have g7 : PG (upd p6.2.1 (80 + 18 * cP p.2.1 + 4) (-1)) (cH p.2.1) (cP p.2.1 + 1) := by
      refine PG.house hg hb8 rest ⟨v2, ?_, y2, z2⟩ ⟨v3, ?_, y3, z3⟩ ⟨v4, ?_, z4⟩ ⟨v5, ?_, z5⟩ pk_us
      · rw [R6, R5, R4, R3, pk_un (by omega), pk_un (by omega), pk_un (by omega), pk_un (by omega), pk_us]
        exact x2
      · rw [R6, R5, R4, pk_un (by omega), pk_un (by omega), pk_un (by omega), pk_us]
        exact x3
      · rw [R6, R5, pk_un (by omega), pk_un (by omega), pk_us]
        exact x4
      · rw [R6, pk_un (by omega), pk_us]
        exact x5
    have ha7 : cH (upd p6.2.1 (80 + 18 * cP p.2.1 + 4) (-1)) = cH p.2.1 := by
      unfold cH
      rw [rest 230 (by omega)]
    obtain ⟨a1, a2, a3, a4, a5, a6, a7⟩ := pWhere_in (b := cP p.2.1) (p := (p6.1, upd p6.2.1 (80 + 18 * cP p.2.1 + 4) (-1), p6.2.2)) q6.1 g7 ha7 pk_us (by rw [show (p6.1, upd p6.2.1 (80 + 18 * cP p.2.1 + 4) (-1), p6.2.2).2.1 = upd p6.2.1 (80 + 18 * cP p.2.1 + 4) (-1) from rfl, rest _ (by omega)]; exact hg.2.2.2.2.1 _ (by omega) (by omega)) e7
    have ha8 : cH p7.2.1 = cH p.2.1 := by
      unfold cH
      rw [a4]
      exact congrArg _ (rest 230 (by omega))
    obtain ⟨b1, b2, b3, b4, b5, b6⟩ := pWishes_in 7 0 p7 p8 a1 a3 ha8 a6 (by omega) e8
    have R9 : p'.2.1 = upd p8.2.1 231 (nI (cP p.2.1 + 1)) := by rw [r9]
    have c231 : p'.2.1 231 = nI (cP p.2.1 + 1) := by rw [R9, pk_us]
    have c230 : p'.2.1 230 = nI (cH p.2.1) := by
      rw [R9, pk_un (by omega), b4, a4]
      exact (rest 230 (by omega)).trans hc.1
    have eH : cH p'.2.1 = cH p.2.1 := cH_eq c230 (by omega)
    have eP : cP p'.2.1 = cP p.2.1 + 1 := cP_eq c231 (by omega)
    have Q9 : p'.2.2 = vp_updL p.2.2 (10 + cP p.2.1) (nx T s p.1).2.2.2.1 := by
      rw [r9]
      show p8.2.2 = _
      rw [b6, a7]
      exact Q6
    have m9 : p8.1.1 ≤ p'.1.1 := by rw [r9]; exact b1.n.2.1
    have a2 : p6.1.1 ≤ p7.1.1 := a2
    refine ⟨⟨by rw [r9]; exact b1.n.1, ⟨by rw [eH]; exact c230, by rw [eH]; omega, by rw [eP]; exact c231, by rw [eP]; omega⟩, ?_, fun h hh => ?_, fun q hq => ?_⟩, ?_, fun hk => ?_⟩
    · rw [eH, eP]
      exact PG.cnt b3 (fun k _ k2 => by rw [R9]; exact pk_un k2)
    · rw [eH] at hh
      rw [Q9, pk_uLn (by omega)]
      exact n1 h hh
    · rw [Q9]
      by_cases eq : q = cP p.2.1
      · subst eq
        rw [pk_uLs]
        exact q1.1.nm (tNm2 t2)
      · rw [pk_uLn (by omega)]
        exact n2 q (by omega)
    · have := q1.2.1
      omega
    · have := ht.gt hk
      omega
theorem pLine_in {T : Nat → Int32} {s : Nat} {p p' : PSt} (h : PI T s p) (e : pLine T s p = .inr p') : PI T s p' ∧ p.1.1 < p'.1.1 := by
  unfold pLine at e
  split at e
  · rename_i c
    have := pHome_in h e
    exact ⟨this.1, this.2.2 (by rw [tWd_k c]; decide)⟩
  · split at e
    · rename_i c
      have := pHouse_in h e
      exact ⟨this.1, this.2.2 (by rw [tWd_k c]; decide)⟩
    · split at e
      · rename_i c
        have := pRule_in h e
        exact ⟨this.1, this.2.2 (by rw [tWd_k c]; decide)⟩
      · cases e
