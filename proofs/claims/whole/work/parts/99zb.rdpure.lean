/-! the class's reader: a home, a house begun; lines without their ends -/
def bumpH (c : Nat) (R : Nat → Int32) : Nat → Int32 := upd (upd R (8 * c + 2) (-1)) 230 (nI (c + 1))
def bumpI (c : Nat) (R : Nat → Int32) : Nat → Int32 := upd R (80 + 18 * c + 4) (-1)
def bumpC (c : Nat) (R : Nat → Int32) : Nat → Int32 := upd R 231 (nI (c + 1))
theorem uL_n {Q : Nat → Int64} {k i : Nat} {w : Int64} (h : i ≠ k) : vp_updL Q k w i = Q i := if_neg h
theorem uL_s {Q : Nat → Int64} {k : Nat} {w : Int64} : vp_updL Q k w k = w := if_pos rfl
theorem bgH_f {I : MI} {a : Nat} : bgH I a a 0 = I a 0 ∧ bgH I a a 1 = I a 1 ∧ bgH I a a 3 = 0 ∧ bgH I a a 4 = 0 ∧ bgH I a a 5 = -1 ∧ bgH I a a 6 = 0 ∧ bgH I a a 7 = 0 ∧ bgH I a a 8 = 0 ∧ bgH I a a 9 = 0 ∧ bgH I a a 10 = 0 := by
  unfold bgH
  simp [upI_rd]
theorem bgP_f {I : MI} {a : Nat} : bgP I a a 0 = I a 0 ∧ bgP I a a 1 = I a 1 ∧ bgP I a a 3 = 0 ∧ bgP I a a 5 = 0 ∧ bgP I a a 6 = 0 ∧ bgP I a a 7 = 0 ∧ bgP I a a 8 = 0 ∧ bgP I a a 9 = -1 ∧ bgP I a a 10 = 0 ∧ bgP I a a 11 = 0 ∧ bgP I a a 12 = 0 ∧ bgP I a a 13 = 0 ∧ bgP I a a 14 = 0 := by
  unfold bgP
  simp [upI_rd]
theorem ct_home0 {I : MI} {L : ML} {b c : Nat} {R : Nat → Int32} {Q : Nat → Int64} {w : Int64} (hC : CtS I L b R Q) (hN : Cn R) (hc : nHo R = c) (hc9 : c < 10) (hL : nLe R = 0) (hz : ∀ j, j < 8 → R (8 * c + j) = 0) :
    CtS (upI (bgH I (b + 2 + c)) b 5 (nI (c + 1))) (upL L (b + 2 + c) 2 w) b (bumpH c R) (vp_updL Q c w) := by
  obtain ⟨b0, b1, b3, b4, b5, b6, b7, b8, b9, b10⟩ := bgH_f (I := I) (a := b + 2 + c)
  have er : upI (bgH I (b + 2 + c)) b 5 (nI (c + 1)) (b + 2 + c) = bgH I (b + 2 + c) (b + 2 + c) := upI_row2 (by omega)
  have hz2 : ∀ j, j < 8 → j ≠ 2 → bumpH c R (8 * c + j) = 0 := fun j hj h2 => (upd_ne (by omega)).trans ((upd_ne (by omega)).trans (hz j hj))
  refine ct_home hC hN hc hc9 hL upd_eq (fun j h1 h2 => (upd_ne h1).trans (upd_ne (by omega))) (fun i hi => uL_n hi) ?_ (fun x h1 h2 => (upI_row2 h1).trans (bgH_n h2)) (fun f hf => (upI_n (Or.inr hf)).trans (congrFun (bgH_n (by omega)) f)) upI_s (fun w hw => ?_) ?_ (fun x hx => upL_n hx)
  · rw [upL_s, uL_s]
  · rw [er]
    match w, hw with
    | 0, _ => exact b3.trans (hz2 0 (by decide) (by decide)).symm
    | 1, _ => exact b4.trans (hz2 1 (by decide) (by decide)).symm
    | 2, _ => exact b5.trans ((upd_ne (by omega)).trans upd_eq).symm
    | 3, _ => exact b6.trans (hz2 3 (by decide) (by decide)).symm
    | 4, _ => exact b8.trans (hz2 4 (by decide) (by decide)).symm
    | 5, _ => exact b10.trans (hz2 5 (by decide) (by decide)).symm
    | 6, _ => exact b7.trans (hz2 6 (by decide) (by decide)).symm
    | 7, _ => exact b9.trans (hz2 7 (by decide) (by decide)).symm
  · rw [er]
    exact ⟨b0, b1, Or.inl b6, Or.inl b7⟩
theorem ct_house0 {I : MI} {L : ML} {b c : Nat} {R : Nat → Int32} {Q : Nat → Int64} {w : Int64} (hC : CtS I L b R Q) (hN : Cn R) (hc : nPo R = c) (hc8 : c < 8) (hL : nLe R = 0) (hz : ∀ j, j < 18 → R (80 + 18 * c + j) = 0) :
    CtS (upI (bgP I (b + 13 + 2 * c)) b 6 (nI (c + 1))) (upL L (b + 13 + 2 * c) 4 w) b (bumpC c (bumpI c R)) (vp_updL Q (10 + c) w) := by
  obtain ⟨b0, b1, b3, b5, b6, b7, b8, b9, b10, b11, b12, b13, b14⟩ := bgP_f (I := I) (a := b + 13 + 2 * c)
  have er : upI (bgP I (b + 13 + 2 * c)) b 6 (nI (c + 1)) (b + 13 + 2 * c) = bgP I (b + 13 + 2 * c) (b + 13 + 2 * c) := upI_row2 (by omega)
  have hz2 : ∀ j, j < 18 → j ≠ 4 → bumpC c (bumpI c R) (80 + 18 * c + j) = 0 := fun j hj h2 => (upd_ne (by omega)).trans ((upd_ne (by omega)).trans (hz j hj))
  refine ct_house hC hN hc hc8 hL upd_eq (fun j h1 h2 => (upd_ne h1).trans (upd_ne (by omega))) (hz2 11 (by decide) (by decide)) ⟨hz2 6 (by decide) (by decide), hz2 7 (by decide) (by decide)⟩ (fun i hi => uL_n hi) ?_ (fun x h1 h2 => (upI_row2 h1).trans (bgP_n h2)) (fun f hf => (upI_n (Or.inr hf)).trans (congrFun (bgP_n (by omega)) f)) upI_s (fun w hw h6 h7 => ?_) (by rw [er]; exact b11) ?_ (fun x hx => upL_n hx)
  · rw [upL_s, uL_s]
  · rw [er]
    match w, hw with
    | 0, _ => exact b5.trans (hz2 0 (by decide) (by decide)).symm
    | 1, _ => exact b6.trans (hz2 1 (by decide) (by decide)).symm
    | 2, _ => exact b7.trans (hz2 2 (by decide) (by decide)).symm
    | 3, _ => exact b8.trans (hz2 3 (by decide) (by decide)).symm
    | 4, _ => exact b9.trans ((upd_ne (by omega)).trans upd_eq).symm
    | 5, _ => exact b10.trans (hz2 5 (by decide) (by decide)).symm
    | 6, _ => exact absurd rfl h6
    | 7, _ => exact absurd rfl h7
    | 8, _ => exact b12.trans (hz2 8 (by decide) (by decide)).symm
    | 9, _ => exact b14.trans (hz2 9 (by decide) (by decide)).symm
    | 10, _ => exact b13.trans (hz2 10 (by decide) (by decide)).symm
    | 11, _ => exact b3.trans (hz2 11 (by decide) (by decide)).symm
  · rw [er]
    exact ⟨b0, b1, Or.inl b12⟩
/-! lines without their ends -/
def pMap (f : (Nat → Int32) → Nat → Int32) (r : PRs) : PRs := pB r (fun p => .inr (p.1, f p.2.1, p.2.2))
theorem pB_as {r : PRs} {f g : PSt → PRs} : pB (pB r f) g = pB r (fun p => pB (f p) g) := by cases r <;> rfl
theorem pB_map {f : (Nat → Int32) → Nat → Int32} {r : PRs} {g : PSt → PRs} : pB (pMap f r) g = pB r (fun p => g (p.1, f p.2.1, p.2.2)) := by cases r <;> rfl
theorem pB_bad {k : Tk} {c : Nat} {g : PSt → PRs} : pB (pBad k c) g = pBad k c := rfl
theorem pNum_map {f : (Nat → Int32) → Nat → Int32} {T : Nat → Int32} {s i : Nat} {lo mo : Int32} {p : PSt} (hf : ∀ v, upd (f p.2.1) i v = f (upd p.2.1 i v)) : pNum T s i lo mo (p.1, f p.2.1, p.2.2) = pMap f (pNum T s i lo mo p) := by
  obtain ⟨k, R, Q⟩ := p
  have hf : ∀ v, upd (f R) i v = f (upd R i v) := hf
  show (if k.2.2.1 = 3 then (if lo ≤ k.2.2.2.2 ∧ k.2.2.2.2 ≤ mo then Sum.inr (nx T s k, upd (f R) i k.2.2.2.2, Q) else pBad k 3) else pBad k 2) = pMap f (if k.2.2.1 = 3 then (if lo ≤ k.2.2.2.2 ∧ k.2.2.2.2 ≤ mo then Sum.inr (nx T s k, upd R i k.2.2.2.2, Q) else pBad k 3) else pBad k 2)
  by_cases h1 : k.2.2.1 = 3
  · rw [if_pos h1, if_pos h1]
    by_cases h2 : lo ≤ k.2.2.2.2 ∧ k.2.2.2.2 ≤ mo
    · rw [if_pos h2, if_pos h2, hf]
      rfl
    · rw [if_neg h2, if_neg h2]
      rfl
  · rw [if_neg h1, if_neg h1]
    rfl
theorem upd_comm {R : Nat → Int32} {i j : Nat} {v w : Int32} (h : i ≠ j) : upd (upd R i v) j w = upd (upd R j w) i v := by
  funext k
  unfold upd
  by_cases a : k = i
  · subst a
    rw [if_neg h, if_pos rfl, if_pos rfl]
  · by_cases c : k = j
    · subst c
      rw [if_pos rfl, if_neg a, if_pos rfl]
    · rw [if_neg c, if_neg a, if_neg a, if_neg c]
theorem bumpH_u {R : Nat → Int32} {c i : Nat} {v : Int32} (h1 : i ≠ 8 * c + 2) (h2 : i ≠ 230) : upd (bumpH c R) i v = bumpH c (upd R i v) := by
  unfold bumpH
  rw [upd_comm (fun q => h2 q.symm), upd_comm (fun q => h1 q.symm)]
theorem bumpI_u {R : Nat → Int32} {c i : Nat} {v : Int32} (h1 : i ≠ 80 + 18 * c + 4) : upd (bumpI c R) i v = bumpI c (upd R i v) := upd_comm (fun q => h1 q.symm)
theorem bumpC_u {R : Nat → Int32} {c i : Nat} {v : Int32} (h1 : i ≠ 231) : upd (bumpC c R) i v = bumpC c (upd R i v) := upd_comm (fun q => h1 q.symm)
def cHome (T : Nat → Int32) (s : Nat) (p : PSt) : PRs :=
  if cH p.2.1 = 10 then pBad p.1 5 else
  pB (pName T s (cH p.2.1) (nx T s p.1, p.2.1, p.2.2)) fun p2 => pB (pNum T s (8 * cH p.2.1) 1 4 (p2.1, bumpH (cH p.2.1) p2.2.1, p2.2.2)) fun p3 => pNum T s (8 * cH p.2.1 + 1) 0 7 p3
theorem cHome_eq {T : Nat → Int32} {s : Nat} {p : PSt} (hc : cH p.2.1 ≤ 10) : pB (cHome T s p) (pEnd T s) = pHome T s p := by
  unfold cHome pHome
  by_cases h : cH p.2.1 = 10
  · rw [if_pos h, if_pos h]
    rfl
  · rw [if_neg h, if_neg h, pB_as]
    congr 1
    funext p2
    rw [pNum_map (fun v => bumpH_u (by omega) (by omega)), pB_map, pB_as]
    congr 1
    funext p3
    rw [pNum_map (fun v => bumpH_u (by omega) (by omega)), pB_map]
    rfl
def cNums (T : Nat → Int32) (s c : Nat) (p : PSt) : PRs :=
  pB (pNum T s (80 + 18 * c) 1 4 p) fun p3 => pB (pNum T s (80 + 18 * c + 1) 1 4 p3) fun p4 => pB (pNum T s (80 + 18 * c + 2) 0 7 p4) fun p5 => pNum T s (80 + 18 * c + 3) 0 999 p5
def cHouse (T : Nat → Int32) (s : Nat) (p : PSt) : PRs :=
  if cP p.2.1 = 8 then pBad p.1 5 else
  pB (pName T s (10 + cP p.2.1) (nx T s p.1, p.2.1, p.2.2)) fun p2 => pB (cNums T s (cP p.2.1) (p2.1, bumpC (cP p.2.1) (bumpI (cP p.2.1) p2.2.1), p2.2.2)) fun p6 =>
  pB (pWhere T s (cP p.2.1) p6) fun p7 => pWishes T s (cP p.2.1) 7 p7
theorem cH_C {R : Nat → Int32} {c : Nat} : cH (bumpC c R) = cH R := by
  unfold cH bumpC
  rw [upd_ne (by decide)]
theorem cW_C {R : Nat → Int32} {c q : Nat} : cW (bumpC c R) q = cW R q := by
  unfold cW bumpC
  rw [upd_ne (by omega)]
theorem pIn_map {T : Nat → Int32} {s c : Nat} {p : PSt} (hc : c < 8) : pIn T s c (p.1, bumpC c p.2.1, p.2.2) = pMap (bumpC c) (pIn T s c p) := by
  unfold pIn
  show (if tNm (nx T s p.1) then (if pHere p.2.2 (nx T s p.1).2.2.2.1 (cH (bumpC c p.2.1)) < cH (bumpC c p.2.1) ∧ bumpC c p.2.1 (8 * pHere p.2.2 (nx T s p.1).2.2.2.1 (cH (bumpC c p.2.1)) + 2) = -1 then
      Sum.inr (nx T s (nx T s p.1), upd (upd (bumpC c p.2.1) (80 + 18 * c + 4) (nI (pHere p.2.2 (nx T s p.1).2.2.2.1 (cH (bumpC c p.2.1))))) (8 * pHere p.2.2 (nx T s p.1).2.2.2.1 (cH (bumpC c p.2.1)) + 2) (nI c), p.2.2)
     else pBad (nx T s p.1) 4)
  else pBad (nx T s p.1) 2) = _
  rw [cH_C]
  generalize pHere p.2.2 (nx T s p.1).2.2.2.1 (cH p.2.1) = h
  have e : bumpC c p.2.1 (8 * h + 2) = p.2.1 (8 * h + 2) := upd_ne (by omega)
  rw [e]
  by_cases h1 : tNm (nx T s p.1) = true
  · rw [if_pos h1, if_pos h1]
    by_cases h2 : h < cH p.2.1 ∧ p.2.1 (8 * h + 2) = -1
    · rw [if_pos h2, if_pos h2, bumpC_u (by omega), bumpC_u (by omega)]
      rfl
    · rw [if_neg h2, if_neg h2]
      rfl
  · rw [if_neg h1, if_neg h1]
    rfl
theorem pWhere_map {T : Nat → Int32} {s c : Nat} {p : PSt} (hc : c < 8) : pWhere T s c (p.1, bumpC c p.2.1, p.2.2) = pMap (bumpC c) (pWhere T s c p) := by
  have h := pIn_map (T := T) (s := s) (p := p) hc
  obtain ⟨k, R, Q⟩ := p
  show (if tWd k 9 then pIn T s c (k, bumpC c R, Q) else Sum.inr (k, bumpC c R, Q)) = pMap (bumpC c) (if tWd k 9 then pIn T s c (k, R, Q) else Sum.inr (k, R, Q))
  by_cases h1 : tWd k 9 = true
  · rw [if_pos h1, if_pos h1]
    exact h
  · rw [if_neg h1, if_neg h1]
    rfl
theorem fa_first_cg {f g : Nat → Bool} : ∀ n, (∀ k, k < n → f k = g k) → fa_first f n = fa_first g n
  | 0, _ => rfl
  | n + 1, h => by
    have ih := fa_first_cg n (fun k hk => h k (by omega))
    show (if fa_first f n < n then fa_first f n else if f n then n else n + 1) = (if fa_first g n < n then fa_first g n else if g n then n else n + 1)
    rw [ih, h n (by omega)]
theorem pWish_map {T : Nat → Int32} {s c : Nat} {p : PSt} (hc : c < 8) (hw : cW p.2.1 c ≤ 6) : pWish T s c (p.1, bumpC c p.2.1, p.2.2) = pMap (bumpC c) (pWish T s c p) := by
  unfold pWish
  show (if pHere p.2.2 p.1.2.2.2.1 (cH (bumpC c p.2.1)) < cH (bumpC c p.2.1) then
    (if fa_first (fun k => decide (bumpC c p.2.1 (80 + 18 * c + (12 + k)) = nI (pHere p.2.2 p.1.2.2.2.1 (cH (bumpC c p.2.1))))) (cW (bumpC c p.2.1) c) < cW (bumpC c p.2.1) c then pBad p.1 4
     else if cW (bumpC c p.2.1) c = 6 then pBad p.1 5
     else Sum.inr (nx T s p.1, upd (upd (bumpC c p.2.1) (80 + 18 * c + (12 + cW (bumpC c p.2.1) c)) (nI (pHere p.2.2 p.1.2.2.2.1 (cH (bumpC c p.2.1))))) (80 + 18 * c + 11) (nI (cW (bumpC c p.2.1) c + 1)), p.2.2))
  else pBad p.1 4) = _
  rw [cH_C, cW_C]
  generalize pHere p.2.2 p.1.2.2.2.1 (cH p.2.1) = h
  have e : fa_first (fun k => decide (bumpC c p.2.1 (80 + 18 * c + (12 + k)) = nI h)) (cW p.2.1 c) = fa_first (fun k => decide (p.2.1 (80 + 18 * c + (12 + k)) = nI h)) (cW p.2.1 c) := by
    refine fa_first_cg _ (fun k hk => ?_)
    have : bumpC c p.2.1 (80 + 18 * c + (12 + k)) = p.2.1 (80 + 18 * c + (12 + k)) := upd_ne (by omega)
    rw [this]
  rw [e]
  by_cases h1 : h < cH p.2.1
  · rw [if_pos h1, if_pos h1]
    by_cases h2 : fa_first (fun k => decide (p.2.1 (80 + 18 * c + (12 + k)) = nI h)) (cW p.2.1 c) < cW p.2.1 c
    · rw [if_pos h2, if_pos h2]
      rfl
    · rw [if_neg h2, if_neg h2]
      by_cases h3 : cW p.2.1 c = 6
      · rw [if_pos h3, if_pos h3]
        rfl
      · rw [if_neg h3, if_neg h3, bumpC_u (by omega), bumpC_u (by omega)]
        rfl
  · rw [if_neg h1, if_neg h1]
    rfl
theorem pWishes_map {T : Nat → Int32} {s c : Nat} (hc : c < 8) : ∀ d (p : PSt), cW p.2.1 c ≤ 6 → pWishes T s c d (p.1, bumpC c p.2.1, p.2.2) = pMap (bumpC c) (pWishes T s c d p)
  | 0, p, _ => rfl
  | d + 1, p, hw => by
    by_cases h1 : tNm p.1 = true
    · rw [pWs_t h1, pWs_t (p := (p.1, bumpC c p.2.1, p.2.2)) h1, pWish_map hc hw, pB_map]
      cases hr : pWish T s c p with
      | inl e => rfl
      | inr p2 =>
        obtain ⟨hh, x1, x2, x3, x4⟩ := pWish_row hr
        show pWishes T s c d (p2.1, bumpC c p2.2.1, p2.2.2) = pMap (bumpC c) (pWishes T s c d p2)
        refine pWishes_map hc d p2 ?_
        have y1 : p2.2.1 (80 + 18 * c + 11) = nI (cW p.2.1 c + 1) := by rw [x4]; exact upd_eq
        rw [cW_eq y1 (by omega)]
        omega
    · have h1 : tNm p.1 = false := by cases h : tNm p.1 <;> simp_all
      rw [pWs_f h1, pWs_f (p := (p.1, bumpC c p.2.1, p.2.2)) h1]
      rfl
theorem cHouse_eq {T : Nat → Int32} {s : Nat} {p : PSt} (hc : cP p.2.1 ≤ 8) (hz : ∀ q, cP p.2.1 ≤ q → q < 8 → p.2.1 (80 + 18 * q + 11) = 0) (ha : cH p.2.1 ≤ 10) : pB (cHouse T s p) (pEnd T s) = pHouse T s p := by
  unfold cHouse pHouse cNums
  by_cases h : cP p.2.1 = 8
  · rw [if_pos h, if_pos h]
    rfl
  · rw [if_neg h, if_neg h, pB_as]
    cases h2 : pName T s (10 + cP p.2.1) (nx T s p.1, p.2.1, p.2.2) with
    | inl e => rfl
    | inr p2 =>
    show pB (pB (pB (pNum T s (80 + 18 * cP p.2.1) 1 4 (p2.1, bumpC (cP p.2.1) (bumpI (cP p.2.1) p2.2.1), p2.2.2)) _) _) _ = pB (pNum T s (80 + 18 * cP p.2.1) 1 4 p2) _
    have z2 : p2.2.1 (80 + 18 * cP p.2.1 + 11) = 0 := by rw [(pName_row h2).1]; exact hz _ (Nat.le_refl _) (by omega)
    have cm : ∀ i, i ≠ 80 + 18 * cP p.2.1 + 4 → i ≠ 231 → ∀ (R : Nat → Int32) (v : Int32), upd (bumpC (cP p.2.1) (bumpI (cP p.2.1) R)) i v = bumpC (cP p.2.1) (bumpI (cP p.2.1) (upd R i v)) := fun i h1 h2 R v => by rw [bumpC_u h2, bumpI_u h1]
    rw [pNum_map (f := fun R => bumpC (cP p.2.1) (bumpI (cP p.2.1) R)) (p := p2) (fun v => cm _ (by omega) (by omega) _ v), pB_map]
    cases h3 : pNum T s (80 + 18 * cP p.2.1) 1 4 p2 with
    | inl e => rfl
    | inr p3 =>
    have z3 := pNum_c h3 (k := 80 + 18 * cP p.2.1 + 11) (by omega) z2
    show pB (pB (pB (pNum T s (80 + 18 * cP p.2.1 + 1) 1 4 (p3.1, bumpC (cP p.2.1) (bumpI (cP p.2.1) p3.2.1), p3.2.2)) _) _) _ = pB (pNum T s (80 + 18 * cP p.2.1 + 1) 1 4 p3) _
    rw [pNum_map (f := fun R => bumpC (cP p.2.1) (bumpI (cP p.2.1) R)) (p := p3) (fun v => cm _ (by omega) (by omega) _ v), pB_map]
    cases h4 : pNum T s (80 + 18 * cP p.2.1 + 1) 1 4 p3 with
    | inl e => rfl
    | inr p4 =>
    have z4 := pNum_c h4 (k := 80 + 18 * cP p.2.1 + 11) (by omega) z3
    show pB (pB (pB (pNum T s (80 + 18 * cP p.2.1 + 2) 0 7 (p4.1, bumpC (cP p.2.1) (bumpI (cP p.2.1) p4.2.1), p4.2.2)) _) _) _ = pB (pNum T s (80 + 18 * cP p.2.1 + 2) 0 7 p4) _
    rw [pNum_map (f := fun R => bumpC (cP p.2.1) (bumpI (cP p.2.1) R)) (p := p4) (fun v => cm _ (by omega) (by omega) _ v), pB_map]
    cases h5 : pNum T s (80 + 18 * cP p.2.1 + 2) 0 7 p4 with
    | inl e => rfl
    | inr p5 =>
    have z5 := pNum_c h5 (k := 80 + 18 * cP p.2.1 + 11) (by omega) z4
    show pB (pB (pNum T s (80 + 18 * cP p.2.1 + 3) 0 999 (p5.1, bumpC (cP p.2.1) (bumpI (cP p.2.1) p5.2.1), p5.2.2)) _) _ = pB (pNum T s (80 + 18 * cP p.2.1 + 3) 0 999 p5) _
    rw [pNum_map (f := fun R => bumpC (cP p.2.1) (bumpI (cP p.2.1) R)) (p := p5) (fun v => cm _ (by omega) (by omega) _ v), pB_map]
    cases h6 : pNum T s (80 + 18 * cP p.2.1 + 3) 0 999 p5 with
    | inl e => rfl
    | inr p6 =>
    have z6 := pNum_c h6 (k := 80 + 18 * cP p.2.1 + 11) (by omega) z5
    show pB (pB (pWhere T s (cP p.2.1) (p6.1, bumpC (cP p.2.1) (bumpI (cP p.2.1) p6.2.1), p6.2.2)) _) _ = pB (pWhere T s (cP p.2.1) (p6.1, bumpI (cP p.2.1) p6.2.1, p6.2.2)) _
    rw [pWhere_map (p := (p6.1, bumpI (cP p.2.1) p6.2.1, p6.2.2)) (by omega), pB_map]
    have z7 : bumpI (cP p.2.1) p6.2.1 (80 + 18 * cP p.2.1 + 11) = 0 := (upd_ne (by omega)).trans z6
    cases h7 : pWhere T s (cP p.2.1) (p6.1, bumpI (cP p.2.1) p6.2.1, p6.2.2) with
    | inl e => rfl
    | inr p7 =>
    show pB (pWishes T s (cP p.2.1) 7 (p7.1, bumpC (cP p.2.1) p7.2.1, p7.2.2)) _ = pB (pWishes T s (cP p.2.1) 7 p7) _
    have z8 : p7.2.1 (80 + 18 * cP p.2.1 + 11) = 0 := by
      unfold pWhere at h7
      split at h7
      · obtain ⟨hh, x1, x2, x3⟩ := pIn_row h7
        rw [x3]
        have x1 : hh < cH (bumpI (cP p.2.1) p6.2.1) := x1
        show upd (upd (bumpI (cP p.2.1) p6.2.1) _ _) (8 * hh + 2) _ _ = 0
        have hh10 : hh < 10 := by
          have e : cH (bumpI (cP p.2.1) p6.2.1) = cH p.2.1 := by
            unfold cH bumpI
            rw [upd_ne (by omega), pNum_c h6 (k := 230) (by omega) rfl, pNum_c h5 (k := 230) (by omega) rfl, pNum_c h4 (k := 230) (by omega) rfl, pNum_c h3 (k := 230) (by omega) rfl, (pName_row h2).1]
          omega
        rw [upd_ne (by omega), upd_ne (by omega)]
        exact z7
      · have e : (p6.1, bumpI (cP p.2.1) p6.2.1, p6.2.2) = p7 := Sum.inr.inj h7
        rw [← e]
        exact z7
    have w0 : cW p7.2.1 (cP p.2.1) = 0 := cW_eq (a := 0) z8 (by decide)
    rw [pWishes_map (by omega) 7 p7 (by omega), pB_map]
    rfl
def cRule (T : Nat → Int32) (s : Nat) (p : PSt) : PRs :=
  if fa_first (tWd (nx T s p.1)) 6 = 6 then pBad (nx T s p.1) 2 else
  pNum T s (224 + fa_first (tWd (nx T s p.1)) 6) (rLeast (fa_first (tWd (nx T s p.1)) 6)) (rMost (fa_first (tWd (nx T s p.1)) 6)) (nx T s (nx T s p.1), p.2.1, p.2.2)
theorem cRule_eq {T : Nat → Int32} {s : Nat} {p : PSt} : pB (cRule T s p) (pEnd T s) = pRule T s p := by
  unfold cRule pRule
  split
  · rfl
  · rfl
def cLine (T : Nat → Int32) (s : Nat) (p : PSt) : PRs :=
  if tWd p.1 6 then cHome T s p else if tWd p.1 7 then cHouse T s p else if tWd p.1 8 then cRule T s p else pBad p.1 2
theorem cLine_eq {T : Nat → Int32} {s : Nat} {p : PSt} (h : PI T s p) : pB (cLine T s p) (pEnd T s) = pLine T s p := by
  have hC := h.2.1
  unfold cLine pLine
  split
  · exact cHome_eq hC.2.1
  · split
    · exact cHouse_eq hC.2.2.2 h.z hC.2.1
    · split
      · exact cRule_eq
      · rfl
