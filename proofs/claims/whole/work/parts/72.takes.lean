/-! a home taken: the row -/
section Tk2
variable {N M : Nat → Int32} {p h : Nat} {o : Int32}
def tkQ (N : Nat → Int32) (p h : Nat) (o : Int32) (i : Nat) : Nat → Int32 := upd (tkP N p h o i) 233 (N 233 + 1)
theorem tkQ_0 : tkQ N p h o 0 = tkN N p h o := rfl
theorem tkQ_M (c : Cn N) : ∀ i, i ≤ 8 → LtM N (tkQ N p h o i) p h o
  | 0, _ => LtM.one
  | i + 1, hi => by
    have ih := tkQ_M c i (by omega)
    have hl := c.l8
    unfold tkQ tkP
    split
    · have := ih.pas (q := i) (v := N (80 + 18 * i + 9) + 1) (by omega)
      unfold tkQ mPuts at this
      unfold mPuts
      rw [fa_upd_swap _ (by omega)]
      exact this
    · exact ih
theorem tkQ_9 (c : Cn N) {i : Nat} (hi : i < 8) : tkQ N p h o i (80 + 18 * i + 9) = N (80 + 18 * i + 9) := by
  unfold tkQ
  rw [upd_ne (by omega)]
  exact tkP_9 (by omega) i (Nat.le_refl _)
theorem tkQ_step {i : Nat} (hi : i < 8) : tkQ N p h o (i + 1) = if psd N p h i then mPuts (tkQ N p h o i) i 9 (N (80 + 18 * i + 9) + 1) else tkQ N p h o i := by
  unfold tkQ
  rw [tkP]
  split
  · unfold mPuts
    exact fa_upd_swap _ (by omega) _ _
  · rfl
theorem LtM.pd (m : LtM N M p h o) (c : Cn N) {q : Nat} (hq : q < 8) : (mBid M q (nI h) && mHope M q && decide (mBand M q < mBand N p)) = psd N p h q ∧ mBand M q = mBand N q := by
  have g : ∀ j, j < 233 → (∀ q, q < 8 → j ≠ 80 + 18 * q + 9) → M j = N j := fun j h1 h2 => m.1 j (by omega) (by omega) h2
  have eb : mBand M q = mBand N q := mBand_cong (g _ (by omega) (fun r hr => by omega)) (g _ (by omega) (fun r hr => by omega)) (g _ (by omega) (fun r hr => by omega)) (g _ (by omega) (fun r hr => by omega))
  refine ⟨?_, eb⟩
  rw [eb]
  unfold psd mBid mHope mIn
  rw [g _ (by omega) (fun r hr => by omega), g _ (by omega) (fun r hr => by omega), g _ (by omega) (fun r hr => by omega)]
/-- in the class's order -/
theorem takes_cls1 (e : N (80 + 18 * p + 4) = -1) (hp : p < 8) (hh : h < 10) : mPutsH (mPutsH (mPuts (mPuts (mPuts (tk9 N p h o) p 4 (-1)) p 4 (nI h)) p 8 1) h 2 (nI p)) h 4 (N (8 * h + 4) + 1) = mTakes N p h o := by
  unfold mTakes
  rw [if_pos e]
  unfold tkA mPuts
  rw [fa_upd_twice, fa_upd_swap _ (show 80 + 18 * p + 4 ≠ 80 + 18 * p + 8 by omega)]
theorem takes_cls2 {u : Nat} (e : N (80 + 18 * p + 4) = nI u) (hu : u < 10) (hne : u ≠ h) (hp : p < 8) (hh : h < 10) : mPutsH (mPutsH (mPuts (mPuts (mPuts (mLeaves (tk9 N p h o) u (N (8 * h + 5) + 1)) p 4 (-1)) p 4 (nI h)) p 8 1) h 2 (nI p)) h 4 (N (8 * h + 4) + 1) = mTakes N p h o := by
  unfold mTakes
  rw [if_neg (by rw [e]; exact nI_ne_m1 (by omega)), e, nI_clamp (by omega)]
  unfold tkA mLeaves mPutsH mPuts
  rw [fa_upd_twice, fa_upd_swap _ (show 80 + 18 * p + 4 ≠ 80 + 18 * p + 8 by omega)]
  funext j
  by_cases a1 : j = 8 * h + 4
  · subst a1
    rw [upd_eq, upd_ne (by omega), upd_ne (by omega), upd_ne (by omega), upd_eq]
  · rw [upd_ne a1]
    by_cases a2 : j = 8 * h + 2
    · subst a2
      rw [upd_eq, upd_ne (by omega), upd_ne (by omega), upd_ne (by omega), upd_ne (by omega), upd_eq]
    · rw [upd_ne a2]
      by_cases a3 : j = 80 + 18 * p + 4
      · subst a3
        rw [upd_eq, upd_ne (by omega), upd_ne (by omega), upd_ne (by omega), upd_ne (by omega), upd_ne (by omega), upd_eq]
      · rw [upd_ne a3]
        by_cases a4 : j = 80 + 18 * p + 8
        · subst a4
          rw [upd_eq, upd_ne (by omega), upd_ne (by omega), upd_ne (by omega), upd_ne (by omega), upd_ne (by omega), upd_ne (by omega), upd_eq]
        · rw [upd_ne a4]
          by_cases b1 : j = 8 * u + 5
          · subst b1
            rw [upd_eq, upd_eq]
          · rw [upd_ne b1, upd_ne b1]
            by_cases b2 : j = 8 * u + 3
            · subst b2
              rw [upd_eq, upd_eq]
            · rw [upd_ne b2, upd_ne b2]
              by_cases b3 : j = 8 * u + 2
              · subst b3
                rw [upd_eq, upd_eq]
              · rw [upd_ne b3, upd_ne b3, upd_ne a1, upd_ne a2, upd_ne a3, upd_ne a4]
/-- who lives where once a home is taken -/
theorem takes_who (c : Cn N) (co : Co N) (hp : p < nPo N) (hh : h < nHo N) (hf : N (8 * h + 2) = -1) (hl : nLe N < 8) :
    (∀ q, q < 8 → mTakes N p h o (80 + 18 * q + 4) = if q = p then nI h else N (80 + 18 * q + 4)) ∧ (∀ i, i < nHo N → mTakes N p h o (8 * i + 2) = if i = h then nI p else if N (8 * i + 2) = nI p then -1 else N (8 * i + 2)) := by
  have h8 := c.p8
  have h10 := c.h10
  have rd : ∀ j, j < 233 → (∀ q, q < 8 → j ≠ 80 + 18 * q + 9) → j ≠ 80 + 18 * p + 8 → j ≠ 80 + 18 * p + 4 → j ≠ 8 * h + 2 → j ≠ 8 * h + 4 → tkA N p h o j = N j := fun j a b d e f g => tkA_rd c (by omega) (by omega) b (by omega) d e f g
  refine ⟨fun q hq => ?_, fun i hi => ?_⟩
  · rw [takes_rd c (by omega) (by omega) hl (by omega)]
    by_cases e : q = p
    · subst e
      rw [if_pos rfl]
      unfold tkA mPutsH mPuts
      rw [upd_ne (by omega), upd_ne (by omega), upd_eq]
    · rw [if_neg e]
      exact rd _ (by omega) (fun r hr => by omega) (by omega) (by omega) (by omega) (by omega)
  · have eA : tkA N p h o (8 * i + 2) = if i = h then nI p else N (8 * i + 2) := by
      by_cases e : i = h
      · subst e
        rw [if_pos rfl]
        unfold tkA mPutsH mPuts
        rw [upd_ne (by omega), upd_eq]
      · rw [if_neg e]
        exact rd _ (by omega) (fun r hr => by omega) (by omega) (by omega) (by omega) (by omega)
    unfold mTakes
    rcases co.1 p hp with e4 | ⟨u, hu, e4, eu⟩
    · rw [if_pos e4, eA]
      by_cases e : i = h
      · rw [if_pos e, if_pos e]
      · rw [if_neg e, if_neg e, if_neg]
        intro q
        rcases co.2.1 i hi with w | ⟨r, hr, w1, w2⟩
        · rw [w] at q
          exact nI_ne_m1 (by omega) q.symm
        · rw [w1] at q
          have := (nI_eq (by omega) (by omega)).mp q
          subst this
          rw [e4] at w2
          exact nI_ne_m1 (by omega) w2.symm
    · rw [if_neg (by rw [e4]; exact nI_ne_m1 (by omega)), e4, nI_clamp (by omega)]
      have hne : u ≠ h := fun q => by
        rw [q, hf] at eu
        exact nI_ne_m1 (by omega) eu.symm
      by_cases ei : i = u
      · subst ei
        rw [if_neg hne, if_pos eu]
        unfold mLeaves mPutsH
        rw [upd_ne (by omega), upd_ne (by omega), upd_eq]
      · rw [leaves_rd (by omega) (by omega) (by omega), eA]
        by_cases e : i = h
        · rw [if_pos e, if_pos e]
        · rw [if_neg e, if_neg e, if_neg]
          intro q
          rcases co.2.1 i hi with w | ⟨r, hr, w1, w2⟩
          · rw [w] at q
            exact nI_ne_m1 (by omega) q.symm
          · rw [w1] at q
            have := (nI_eq (by omega) (by omega)).mp q
            subst this
            rw [e4] at w2
            have := (nI_eq (by omega) (by omega)).mp w2
            omega
theorem takes_Rst (r : Rst N) (c : Cn N) (hp : p < nPo N) (hh : h < nHo N) (hf : N (8 * h + 2) = -1) (hl : nLe N < 8) : Rst (mTakes N p h o) := by
  have h8 := c.p8
  have h10 := c.h10
  have rd : ∀ j, j < 233 → (∀ q, q < 8 → j ≠ 80 + 18 * q + 9) → j ≠ 80 + 18 * p + 8 → j ≠ 80 + 18 * p + 4 → (80 ≤ j ∨ j % 8 < 2) → mTakes N p h o j = N j := fun j a b d e f => by
    unfold mTakes
    split
    · exact tkA_rd c (by omega) (by omega) b (by omega) d e (by omega) (by omega)
    · rcases c.ho (show p < 8 by omega) with w | ⟨u, hu, w⟩
      · rename_i q
        exact absurd w q
      · rw [w, nI_clamp (by omega), leaves_rd (by omega) (by omega) (by omega)]
        exact tkA_rd c (by omega) (by omega) b (by omega) d e (by omega) (by omega)
  have e0 := rd 230 (by omega) (fun q hq => by omega) (by omega) (by omega) (by omega)
  have e1 := rd 231 (by omega) (fun q hq => by omega) (by omega) (by omega) (by omega)
  have eP : nPo (mTakes N p h o) = nPo N := by unfold nPo; rw [e1]
  have eH : nHo (mTakes N p h o) = nHo N := by unfold nHo; rw [e0]
  refine ⟨r.1.cong c e0 e1 (fun q w hq hw => rd _ (by omega) (fun r hr => by omega) (by omega) (by omega) (by omega)) (fun i w hi hw => rd _ (by omega) (fun r hr => by omega) (by omega) (by omega) (by omega)) (rd _ (by omega) (fun r hr => by omega) (by omega) (by omega) (by omega)) (fun u hu => rd _ (by omega) (fun r hr => by omega) (by omega) (by omega) (by omega)),
    r.2.1.cong c e1 (fun q hq => ⟨rd _ (by omega) (fun r hr => by omega) (by omega) (by omega) (by omega), rd _ (by omega) (fun r hr => by omega) (by omega) (by omega) (by omega)⟩), fun k hk => ?_, ?_⟩
  · have hA : ∀ j, 80 ≤ j → mTakes N p h o j = tkA N p h o j := fun j hj => takes_rd c (by omega) (by omega) hl hj
    have e233 : mTakes N p h o 233 = nI (nLe N + 1) := by
      rw [hA _ (by omega)]
      unfold tkA mPutsH mPuts tk9
      rw [upd_ne (by omega), upd_ne (by omega), upd_ne (by omega), upd_ne (by omega), upd_eq, c.l, nI_1]
    have eL : nLe (mTakes N p h o) = nLe N + 1 := by unfold nLe; rw [e233]; exact nI_clamp (by omega)
    rw [eL] at hk
    rw [hA _ (by omega)]
    by_cases e : k = nLe N
    · subst e
      rw [tkA_let c (by omega) (by omega) (by decide), tk8_row 5 (by decide), if_pos rfl]
      cases mQuota N <;> by_cases e4 : N (80 + 18 * p + 4) = -1
      · rw [if_pos e4]; exact ⟨0, by decide, rfl⟩
      · rw [if_neg e4]; exact ⟨2, by decide, rfl⟩
      · rw [if_pos e4]; exact ⟨1, by decide, rfl⟩
      · rw [if_neg e4]; exact ⟨3, by decide, rfl⟩
    · rw [tkA_rd c (by omega) (by omega) (fun q hq => by omega) (by omega) (by omega) (by omega) (by omega) (by omega)]
      exact r.2.2.1 k (by omega)
  · have co := r.2.2.2
    obtain ⟨w1, w2⟩ := takes_who (o := o) c co hp hh hf hl
    refine ⟨fun q hq => ?_, fun i hi => ?_, fun q hq k hk => ?_⟩
    · rw [eP] at hq
      rw [w1 q (by omega), eH]
      by_cases e : q = p
      · subst e
        rw [if_pos rfl]
        exact Or.inr ⟨h, hh, rfl, by rw [w2 h hh, if_pos rfl]⟩
      · rw [if_neg e]
        rcases co.1 q hq with a | ⟨i, a1, a2, a3⟩
        · exact Or.inl a
        · refine Or.inr ⟨i, a1, a2, ?_⟩
          rw [w2 i a1, if_neg (fun q2 => by rw [q2, hf] at a3; exact nI_ne_m1 (by omega) a3.symm), if_neg (fun q2 => by
            rw [a3] at q2
            have := (nI_eq (by omega) (by omega)).mp q2
            exact e this)]
          exact a3
    · rw [eH] at hi
      rw [w2 i hi, eP]
      by_cases e : i = h
      · subst e
        rw [if_pos rfl]
        exact Or.inr ⟨p, hp, rfl, by rw [w1 p (by omega), if_pos rfl]⟩
      · rw [if_neg e]
        by_cases e2 : N (8 * i + 2) = nI p
        · rw [if_pos e2]
          exact Or.inl rfl
        · rw [if_neg e2]
          rcases co.2.1 i hi with a | ⟨q, a1, a2, a3⟩
          · exact Or.inl a
          · refine Or.inr ⟨q, a1, a2, ?_⟩
            rw [w1 q (by omega), if_neg (fun q2 => e2 (by rw [a2, q2]))]
            exact a3
    · rw [eP] at hq
      have eW : nWi (mTakes N p h o) q = nWi N q := by unfold nWi; rw [rd _ (by omega) (fun r hr => by omega) (by omega) (by omega) (by omega)]
      rw [eW] at hk
      have h6 := c.w6 (show q < 8 by omega)
      rw [rd _ (by omega) (fun r hr => by omega) (by omega) (by omega) (by omega), eH]
      exact co.2.2 q hq k hk
end Tk2
