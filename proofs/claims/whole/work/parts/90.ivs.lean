/-! what a row keeps to stays so through every act -/
section Iv9
variable {N : Nat → Int32} {p h : Nat}
theorem Iv.bids (iv : Iv N) (hp : p < 8) {a : Nat} {v : Int32} (hv : v = nI a) (ha : a < 1024) : Iv (mPuts N p 10 v) := by
  have w := Wk.bids (b := 30) (v := v) ⟨iv.1, iv.2.1, iv.1.o30⟩ hp hv ha
  exact ⟨w.1, w.2.1, iv.2.2.upd iv.1 (by unfold irj; omega)⟩
theorem Iv.putH (iv : Iv N) (hh : h < 10) {w : Nat} {v : Int32} (hw : w < 8) (h3 : 3 ≤ w) : Iv (mPutsH N h w v) := by
  have k := Wk.putsH (b := 30) (v := v) ⟨iv.1, iv.2.1, iv.1.o30⟩ hh hw (by omega)
  exact ⟨k.1, k.2.1, iv.2.2.putH iv.1 hh hw h3⟩
theorem dropB_Iv (iv : Iv N) (hp : p < 8) (hh : h < 10) : Iv (mDropB N p h) := by
  obtain ⟨u, hu, eu⟩ := dropB_v (iv.1.bi10 hp) hh
  exact iv.bids hp (a := u) (by rw [iv.1.bi hp]; exact eu) hu
theorem bidN_Iv (iv : Iv N) (hp : p < 8) (hh : h < 10) : Iv (bidN N p h) := by
  have hor := or_bits (iv.1.bi10 hp) hh
  exact iv.bids hp (a := nBi N p ||| 2 ^ h) (by rw [iv.1.bi hp]; exact hor.1) hor.2
theorem shuL_Iv (iv : Iv N) (hh : h < 10) : ∀ i, i ≤ 8 → Iv (shuL N h i)
  | 0, _ => iv
  | i + 1, hi => dropB_Iv (shuL_Iv iv hh i (by omega)) (by omega) hh
theorem shuN_Iv (iv : Iv N) (hh : h < 10) {t : Int32} : Iv (shuN N h t) := shuL_Iv (iv.putH hh (by decide) (by decide)) hh _ iv.1.p8
theorem need_Iv (iv : Iv N) (hp : p < nPo N) {v : Int32} (hv : rg v 1 4) : Iv (mPuts N p 1 v) := by
  have h8 := iv.1.p8
  have h10 := iv.1.h10
  have k := Wk.puts (b := 30) (v := v) (w := 1) ⟨iv.1, iv.2.1, iv.1.o30⟩ (show p < 8 by omega) (by decide) (by decide) (by decide)
  have u : ∀ i, i ≠ 80 + 18 * p + 1 → mPuts N p 1 v i = N i := fun i hi => upd_ne hi
  have eP : nPo (mPuts N p 1 v) = nPo N := by unfold nPo; rw [u _ (by omega)]
  have eH : nHo (mPuts N p 1 v) = nHo N := by unfold nHo; rw [u _ (by omega)]
  refine ⟨k.1, k.2.1, ⟨fun q hq => ?_, fun i hi => ?_, by rw [u _ (by omega)]; exact iv.2.2.1.2.2.1, fun r hr => by rw [u _ (by omega)]; exact iv.2.2.1.2.2.2 r hr⟩, ?_, ?_, ?_⟩
  · rw [eP] at hq
    obtain ⟨a1, a2, a3, a4⟩ := iv.2.2.1.1 q hq
    rw [u (80 + 18 * q + 0) (by omega), u (80 + 18 * q + 2) (by omega), u (80 + 18 * q + 3) (by omega)]
    refine ⟨a1, ?_, a3, a4⟩
    by_cases e : q = p
    · subst e
      unfold mPuts
      rw [upd_eq]
      exact hv
    · rw [u _ (by omega)]
      exact a2
  · rw [eH] at hi
    rw [u _ (by omega), u _ (by omega)]
    exact iv.2.2.1.2.1 i hi
  · exact iv.2.2.2.1.cong iv.1 (u _ (by omega)) (fun q hq => ⟨u _ (by omega), u _ (by omega)⟩)
  · exact iv.2.2.2.2.1.cong iv.1 (u _ (by omega)) (fun k hk => u _ (by omega))
  · exact iv.2.2.2.2.2.cong iv.1 (u _ (by omega)) (u _ (by omega)) (fun q hq => u _ (by omega)) (fun i hi => u _ (by omega)) (fun q w hq h1 h2 => u _ (by omega))
theorem neeL_Iv (iv : Iv N) (hp : p < 8) : ∀ i, i ≤ 10 → Iv (neeL N p i)
  | 0, _ => iv
  | i + 1, hi => by
    rw [neeL]
    split
    · exact neeL_Iv iv hp i (by omega)
    · exact dropB_Iv (neeL_Iv iv hp i (by omega)) hp (by omega)
theorem rule_Iv (iv : Iv N) {r : Nat} {v : Int32} (hr : r < 6) (hv : rLeast r ≤ v ∧ v ≤ rMost r) : Iv (upd N (224 + r) v) := by
  have hl := iv.1.l8
  have h8 := iv.1.p8
  have h10 := iv.1.h10
  have u : ∀ i, i ≠ 224 + r → upd N (224 + r) v i = N i := fun i hi => upd_ne hi
  have hage : r = 4 → ¬ v = 0 := fun e q => by
    subst e
    subst q
    exact absurd hv.1 (by decide)
  have c : Cn (upd N (224 + r) v) := iv.1.upd' (by omega) (by omega) (by omega) (by omega) (fun e => hage (by omega)) (fun q hq => ⟨by omega, fun z => by omega, fun z => by omega, fun k hk z => by have := iv.1.w6 hq; omega⟩) (fun i hi z => by omega) (fun k hk => ⟨fun z => by omega, fun z => by omega⟩)
  have eP : nPo (upd N (224 + r) v) = nPo N := by unfold nPo; rw [u _ (by omega)]
  have eH : nHo (upd N (224 + r) v) = nHo N := by unfold nHo; rw [u _ (by omega)]
  refine ⟨c, iv.2.1.cong h8 (u _ (by omega)) (u _ (by omega)) (fun q hq => u _ (by omega)), ⟨fun q hq => ?_, fun i hi => ?_, by rw [u _ (by omega)]; exact iv.2.2.1.2.2.1, fun s hs => ?_⟩, ?_, ?_, ?_⟩
  · rw [eP] at hq
    rw [u _ (by omega), u _ (by omega), u _ (by omega), u _ (by omega)]
    exact iv.2.2.1.1 q hq
  · rw [eH] at hi
    rw [u _ (by omega), u _ (by omega)]
    exact iv.2.2.1.2.1 i hi
  · by_cases e : s = r
    · subst e
      rw [upd_eq]
      exact hv
    · rw [u _ (by omega)]
      exact iv.2.2.1.2.2.2 s hs
  · exact iv.2.2.2.1.cong iv.1 (u _ (by omega)) (fun q hq => ⟨u _ (by omega), u _ (by omega)⟩)
  · exact iv.2.2.2.2.1.cong iv.1 (u _ (by omega)) (fun k hk => u _ (by omega))
  · exact iv.2.2.2.2.2.cong iv.1 (u _ (by omega)) (u _ (by omega)) (fun q hq => u _ (by omega)) (fun i hi => u _ (by omega)) (fun q w hq h1 h2 => u _ (by omega))
/-- one leaves: who lives where -/
theorem leaN_who (iv : Iv N) (hp : p < nPo N) : (∀ q, q < 8 → leaN N p (80 + 18 * q + 4) = if q = p then -1 else N (80 + 18 * q + 4)) ∧ (∀ i, i < nHo N → leaN N p (8 * i + 2) = if N (8 * i + 2) = nI p then -1 else N (8 * i + 2)) ∧ ∀ j, (80 ≤ j ∨ j % 8 < 2) → j ≠ 80 + 18 * p + 4 → j ≠ 80 + 18 * p + 8 → j ≠ 80 + 18 * p + 10 → leaN N p j = N j := by
  have h8 := iv.1.p8
  have h10 := iv.1.h10
  have co := iv.co
  rcases co.1 p hp with e4 | ⟨u, hu, e4, eu⟩
  · have rd : ∀ j, j ≠ 80 + 18 * p + 4 → j ≠ 80 + 18 * p + 8 → j ≠ 80 + 18 * p + 10 → leaN N p j = N j := fun j a b c => by
      unfold leaN
      rw [if_pos e4]
      unfold leaN1 mPuts
      rw [upd_ne a, upd_ne b, upd_ne c]
    refine ⟨fun q hq => ?_, fun i hi => ?_, fun j _ a b c => rd j a b c⟩
    · by_cases e : q = p
      · subst e
        rw [if_pos rfl]
        unfold leaN mPuts
        exact upd_eq
      · rw [if_neg e]
        exact rd _ (by omega) (by omega) (by omega)
    · rw [rd _ (by omega) (by omega) (by omega), if_neg]
      intro z
      rcases co.2.1 i hi with w | ⟨r, hr, w1, w2⟩
      · rw [w] at z
        exact nI_ne_m1 (by omega) z.symm
      · rw [w1] at z
        have := (nI_eq (by omega) (by omega)).mp z
        subst this
        rw [e4] at w2
        exact nI_ne_m1 (by omega) w2.symm
  · have hne : ¬ N (80 + 18 * p + 4) = -1 := by rw [e4]; exact nI_ne_m1 (by omega)
    have eL : leaN N p = mPuts (mLeaves (leaN1 N p) u 0) p 4 (-1) := by
      unfold leaN
      rw [if_neg hne, e4, nI_clamp (by omega)]
    have rd : ∀ j, j ≠ 8 * u + 2 → j ≠ 8 * u + 3 → j ≠ 8 * u + 5 → j ≠ 80 + 18 * p + 4 → j ≠ 80 + 18 * p + 8 → j ≠ 80 + 18 * p + 10 → leaN N p j = N j := fun j a1 a2 a3 a b c => by
      rw [eL]
      unfold mPuts
      rw [upd_ne a, leaves_rd a1 a2 a3]
      unfold leaN1 mPuts
      rw [upd_ne b, upd_ne c]
    refine ⟨fun q hq => ?_, fun i hi => ?_, fun j hj a b c => rd j (by omega) (by omega) (by omega) a b c⟩
    · by_cases e : q = p
      · subst e
        rw [if_pos rfl, eL]
        unfold mPuts
        exact upd_eq
      · rw [if_neg e]
        exact rd _ (by omega) (by omega) (by omega) (by omega) (by omega) (by omega)
    · by_cases e : i = u
      · subst e
        rw [if_pos eu, eL]
        unfold mPuts mLeaves mPutsH
        rw [upd_ne (by omega), upd_ne (by omega), upd_ne (by omega), upd_eq]
      · rw [rd _ (by omega) (by omega) (by omega) (by omega) (by omega) (by omega), if_neg]
        intro z
        rcases co.2.1 i hi with w | ⟨r, hr, w1, w2⟩
        · rw [w] at z
          exact nI_ne_m1 (by omega) z.symm
        · rw [w1] at z
          have := (nI_eq (by omega) (by omega)).mp z
          subst this
          rw [e4] at w2
          have := (nI_eq (by omega) (by omega)).mp w2
          omega
theorem leaN_Iv (iv : Iv N) (hp : p < nPo N) : Iv (leaN N p) := by
  have h8 := iv.1.p8
  have h10 := iv.1.h10
  obtain ⟨c, l⟩ := leaN_Cn iv.1 iv.2.1 (show p < 8 by omega)
  obtain ⟨w1, w2, rd⟩ := leaN_who iv hp
  have e0 := rd 230 (by omega) (by omega) (by omega) (by omega)
  have e1 := rd 231 (by omega) (by omega) (by omega) (by omega)
  have eP : nPo (leaN N p) = nPo N := by unfold nPo; rw [e1]
  have eH : nHo (leaN N p) = nHo N := by unfold nHo; rw [e0]
  have co := iv.co
  refine ⟨c, l, iv.2.2.1.cong iv.1 e0 e1 (fun q w hq hw => rd _ (by omega) (by omega) (by omega) (by omega)) (fun i w hi hw => rd _ (by omega) (by omega) (by omega) (by omega)) (rd _ (by omega) (by omega) (by omega) (by omega)) (fun r hr => rd _ (by omega) (by omega) (by omega) (by omega)),
    iv.2.2.2.1.cong iv.1 e1 (fun q hq => ⟨rd _ (by omega) (by omega) (by omega) (by omega), rd _ (by omega) (by omega) (by omega) (by omega)⟩),
    iv.2.2.2.2.1.cong iv.1 (rd _ (by omega) (by omega) (by omega) (by omega)) (fun k hk => rd _ (by omega) (by omega) (by omega) (by omega)), fun q hq => ?_, fun i hi => ?_, fun q hq k hk => ?_⟩
  · rw [eP] at hq
    rw [w1 q (by omega), eH]
    by_cases e : q = p
    · rw [if_pos e]
      exact Or.inl rfl
    · rw [if_neg e]
      rcases co.1 q hq with a | ⟨i, a1, a2, a3⟩
      · exact Or.inl a
      · refine Or.inr ⟨i, a1, a2, ?_⟩
        rw [w2 i a1, if_neg (fun z => by rw [a3] at z; exact e ((nI_eq (by omega) (by omega)).mp z))]
        exact a3
  · rw [eH] at hi
    rw [w2 i hi, eP]
    by_cases e : N (8 * i + 2) = nI p
    · rw [if_pos e]
      exact Or.inl rfl
    · rw [if_neg e]
      rcases co.2.1 i hi with a | ⟨q, a1, a2, a3⟩
      · exact Or.inl a
      · refine Or.inr ⟨q, a1, a2, ?_⟩
        rw [w1 q (by omega), if_neg (fun z => e (by rw [a2, z]))]
        exact a3
  · rw [eP] at hq
    have eW : nWi (leaN N p) q = nWi N q := by unfold nWi; rw [rd _ (by omega) (by omega) (by omega) (by omega)]
    rw [eW] at hk
    have h6 := iv.1.w6 (show q < 8 by omega)
    rw [rd _ (by omega) (by omega) (by omega) (by omega), eH]
    exact co.2.2 q hq k hk
/-- wishes: one place written, how many written -/
theorem wishC2 (c : Cn N) {i j : Nat} {v : Int32} (hp : p < 8) (hi : i < 6) (hv : v = nI j) (hj : j < 10) : Cn (mPuts N p (12 + i) v) := by
  have hl := c.l8
  have u : ∀ x, x ≠ 80 + 18 * p + (12 + i) → mPuts N p (12 + i) v x = N x := fun x hx => upd_ne hx
  have eH : nHo (mPuts N p (12 + i) v) = nHo N := by unfold nHo; rw [u _ (by omega)]
  have eP : nPo (mPuts N p (12 + i) v) = nPo N := by unfold nPo; rw [u _ (by omega)]
  have eL : nLe (mPuts N p (12 + i) v) = nLe N := by unfold nLe; rw [u _ (by omega)]
  have eO : nOf (mPuts N p (12 + i) v) = nOf N := by unfold nOf; rw [u _ (by omega)]
  have eW : ∀ q, q < 8 → nWi (mPuts N p (12 + i) v) q = nWi N q := fun q hq => by unfold nWi; rw [u _ (by omega)]
  have eB : ∀ q, q < 8 → nBi (mPuts N p (12 + i) v) q = nBi N q := fun q hq => by unfold nBi; rw [u _ (by omega)]
  refine ⟨⟨by rw [eH, u _ (by omega)]; exact c.h, by rw [eH]; exact c.h10⟩, ⟨by rw [eP, u _ (by omega)]; exact c.p, by rw [eP]; exact c.p8⟩, ⟨by rw [eL, u _ (by omega)]; exact c.l, by rw [eL]; exact c.l8⟩, ⟨by rw [eO, u _ (by omega)]; exact c.o, by rw [eO]; exact c.o30⟩, by rw [u _ (by omega)]; exact c.age, fun q hq => ⟨⟨by rw [eW q hq, u _ (by omega)]; exact c.w hq, by rw [eW q hq]; exact c.w6 hq⟩, ⟨by rw [eB q hq, u _ (by omega)]; exact c.bi hq, by rw [eB q hq]; exact c.bi10 hq⟩, by rw [u _ (by omega)]; exact c.ho hq, fun k hk => ?_⟩, fun h hh => by rw [u _ (by omega)]; exact c.who hh, fun k hk => ?_⟩
  · rw [eW q hq] at hk
    have := c.w6 hq
    by_cases e : 80 + 18 * q + (12 + k) = 80 + 18 * p + (12 + i)
    · unfold mPuts
      rw [e, upd_eq]
      exact ⟨j, hj, hv⟩
    · rw [u _ e]
      exact c.wi hq hk
  · rw [eL] at hk
    rw [u _ (by omega), u _ (by omega)]
    exact ⟨c.lp hk, c.lh hk⟩
theorem wishCc (c : Cn N) {k : Nat} (hp : p < 8) (hk : k ≤ 6) (hw : ∀ i, i < k → ∃ j, j < 10 ∧ N (80 + 18 * p + (12 + i)) = nI j) : Cn (mPuts N p 11 (nI k)) := by
  have hl := c.l8
  have u : ∀ x, x ≠ 80 + 18 * p + 11 → mPuts N p 11 (nI k) x = N x := fun x hx => upd_ne hx
  have eH : nHo (mPuts N p 11 (nI k)) = nHo N := by unfold nHo; rw [u _ (by omega)]
  have eP : nPo (mPuts N p 11 (nI k)) = nPo N := by unfold nPo; rw [u _ (by omega)]
  have eL : nLe (mPuts N p 11 (nI k)) = nLe N := by unfold nLe; rw [u _ (by omega)]
  have eO : nOf (mPuts N p 11 (nI k)) = nOf N := by unfold nOf; rw [u _ (by omega)]
  have eB : ∀ q, q < 8 → nBi (mPuts N p 11 (nI k)) q = nBi N q := fun q hq => by unfold nBi; rw [u _ (by omega)]
  have eV : mPuts N p 11 (nI k) (80 + 18 * p + 11) = nI k := upd_eq
  have eW : ∀ q, q < 8 → nWi (mPuts N p 11 (nI k)) q = if q = p then k else nWi N q := fun q hq => by
    unfold nWi
    by_cases e : q = p
    · subst e
      rw [eV, if_pos rfl]
      exact nI_clamp (by omega)
    · rw [u _ (by omega), if_neg e]
  refine ⟨⟨by rw [eH, u _ (by omega)]; exact c.h, by rw [eH]; exact c.h10⟩, ⟨by rw [eP, u _ (by omega)]; exact c.p, by rw [eP]; exact c.p8⟩, ⟨by rw [eL, u _ (by omega)]; exact c.l, by rw [eL]; exact c.l8⟩, ⟨by rw [eO, u _ (by omega)]; exact c.o, by rw [eO]; exact c.o30⟩, by rw [u _ (by omega)]; exact c.age, fun q hq => ⟨⟨?_, ?_⟩, ⟨by rw [eB q hq, u _ (by omega)]; exact c.bi hq, by rw [eB q hq]; exact c.bi10 hq⟩, by rw [u _ (by omega)]; exact c.ho hq, fun i hi => ?_⟩, fun h hh => by rw [u _ (by omega)]; exact c.who hh, fun i hi => ?_⟩
  · rw [eW q hq]
    by_cases e : q = p
    · subst e
      rw [eV, if_pos rfl]
    · rw [u _ (by omega), if_neg e]
      exact c.w hq
  · rw [eW q hq]
    by_cases e : q = p
    · rw [if_pos e]; exact hk
    · rw [if_neg e]; exact c.w6 hq
  · rw [eW q hq] at hi
    by_cases e : q = p
    · subst e
      rw [if_pos rfl] at hi
      rw [u _ (by omega)]
      exact hw i hi
    · rw [if_neg e] at hi
      have := c.w6 hq
      rw [u _ (by omega)]
      exact c.wi hq hi
  · rw [eL] at hi
    rw [u _ (by omega), u _ (by omega)]
    exact ⟨c.lp hi, c.lh hi⟩
/-- wishes alone changed -/
theorem wish_Iv {M : Nat → Int32} (iv : Iv N) (hp : p < nPo N) (c : Cn M) (hr : ∀ j, (j < 80 + 18 * p + 11 ∨ 80 + 18 * p + 18 ≤ j) → M j = N j) (hw : ∀ k, k < nWi M p → ∃ h, h < nHo N ∧ M (80 + 18 * p + (12 + k)) = nI h) : Iv M := by
  have h8 := iv.1.p8
  have h10 := iv.1.h10
  have co := iv.co
  have e0 := hr 230 (by omega)
  have e1 := hr 231 (by omega)
  have eP : nPo M = nPo N := by unfold nPo; rw [e1]
  have eH : nHo M = nHo N := by unfold nHo; rw [e0]
  refine ⟨c, iv.2.1.cong h8 (hr _ (by omega)) e1 (fun q hq => hr _ (by omega)), iv.2.2.1.cong iv.1 e0 e1 (fun q w hq hw => hr _ (by omega)) (fun i w hi hw => hr _ (by omega)) (hr _ (by omega)) (fun r hr2 => hr _ (by omega)),
    iv.2.2.2.1.cong iv.1 e1 (fun q hq => ⟨hr _ (by omega), hr _ (by omega)⟩), iv.2.2.2.2.1.cong iv.1 (hr _ (by omega)) (fun k hk => hr _ (by omega)), fun q hq => ?_, fun i hi => ?_, fun q hq k hk => ?_⟩
  · rw [eP] at hq
    rw [hr _ (by omega), eH]
    rcases co.1 q hq with a | ⟨i, a1, a2, a3⟩
    · exact Or.inl a
    · exact Or.inr ⟨i, a1, a2, by rw [hr _ (by omega)]; exact a3⟩
  · rw [eH] at hi
    rw [hr _ (by omega), eP]
    rcases co.2.1 i hi with a | ⟨q, a1, a2, a3⟩
    · exact Or.inl a
    · exact Or.inr ⟨q, a1, a2, by rw [hr _ (by omega)]; exact a3⟩
  · rw [eP] at hq
    rw [eH]
    by_cases e : q = p
    · subst e
      exact hw k hk
    · have eW : nWi M q = nWi N q := by unfold nWi; rw [hr _ (by omega)]
      rw [eW] at hk
      have h6 := iv.1.w6 (show q < 8 by omega)
      rw [hr _ (by omega)]
      exact co.2.2 q hq k hk
theorem wishN_Iv (iv : Iv N) (hp : p < nPo N) (hh : h < nHo N) (h6 : nWi N p < 6) : Iv (wishN N p h) := by
  have h8 := iv.1.p8
  have h10 := iv.1.h10
  have u1 : ∀ x, x ≠ 80 + 18 * p + (12 + nWi N p) → mPuts N p (12 + nWi N p) (nI h) x = N x := fun x hx => upd_ne hx
  have c1 : Cn (mPuts N p (12 + nWi N p) (nI h)) := wishC2 iv.1 (by omega) h6 rfl (show h < 10 by omega)
  have v1 : ∀ i, i < nWi N p + 1 → ∃ j, j < nHo N ∧ mPuts N p (12 + nWi N p) (nI h) (80 + 18 * p + (12 + i)) = nI j := fun i hi => by
    by_cases e : i = nWi N p
    · subst e
      exact ⟨h, hh, upd_eq⟩
    · rw [u1 _ (by omega)]
      exact iv.co.2.2 p hp i (by omega)
  have c2 : Cn (wishN N p h) := wishCc c1 (by omega) (by omega) (fun i hi => by obtain ⟨j, a, b⟩ := v1 i hi; exact ⟨j, by omega, b⟩)
  have eV : wishN N p h (80 + 18 * p + 11) = nI (nWi N p + 1) := upd_eq
  refine wish_Iv iv hp c2 (fun j hj => ?_) (fun k hk => ?_)
  · unfold wishN
    rw [show mPuts (mPuts N p (12 + nWi N p) (nI h)) p 11 (nI (nWi N p + 1)) j = mPuts N p (12 + nWi N p) (nI h) j from upd_ne (by omega)]
    exact u1 j (by omega)
  · have : nWi (wishN N p h) p = nWi N p + 1 := by
      show (wishN N p h (80 + 18 * p + 11)).toNatClampNeg = _
      rw [eV]
      exact nI_clamp (by omega)
    rw [this] at hk
    obtain ⟨j, a, b⟩ := v1 k hk
    refine ⟨j, a, ?_⟩
    unfold wishN
    rw [show mPuts (mPuts N p (12 + nWi N p) (nI h)) p 11 (nI (nWi N p + 1)) (80 + 18 * p + (12 + k)) = mPuts N p (12 + nWi N p) (nI h) (80 + 18 * p + (12 + k)) from upd_ne (by omega)]
    exact b
theorem unwL_at {a : Nat} : ∀ k i, unwL N p a k (80 + 18 * p + (12 + i)) = if a ≤ i ∧ i < a + k then N (80 + 18 * p + (12 + (i + 1))) else N (80 + 18 * p + (12 + i))
  | 0, i => by rw [if_neg (by omega)]; rfl
  | k + 1, i => by
    rw [unwL]
    unfold mPuts
    by_cases e : i = a + k
    · subst e
      rw [upd_eq, if_pos (by omega)]
    · rw [upd_ne (by omega), unwL_at k i]
      by_cases h : a ≤ i ∧ i < a + k
      · rw [if_pos h, if_pos (by omega)]
      · rw [if_neg h, if_neg (by omega)]
theorem unwL_Cn (iv : Iv N) {a : Nat} (hp : p < nPo N) : ∀ k, a + k < nWi N p → Cn (unwL N p a k) ∧ nWi (unwL N p a k) p = nWi N p
  | 0, _ => ⟨iv.1, rfl⟩
  | k + 1, hk => by
    have h8 := iv.1.p8
    have h6 := iv.1.w6 (show p < 8 by omega)
    obtain ⟨c, e⟩ := unwL_Cn iv (a := a) hp k (by omega)
    obtain ⟨j, hj, ej⟩ := iv.1.wi (show p < 8 by omega) (k := a + k + 1) (by omega)
    refine ⟨?_, ?_⟩
    · rw [unwL]
      exact wishC2 c (by omega) (by omega) ej hj
    · rw [unwL, ← e]
      unfold nWi mPuts
      rw [upd_ne (by omega)]
theorem unwN_Iv (iv : Iv N) {a : Nat} (hp : p < nPo N) (ha : a < nWi N p) : Iv (unwN N p a) := by
  have h8 := iv.1.p8
  have h10 := iv.1.h10
  have h6 := iv.1.w6 (show p < 8 by omega)
  obtain ⟨c, -⟩ := unwL_Cn iv (a := a) hp (nWi N p - 1 - a) (by omega)
  have v1 : ∀ i, i < nWi N p - 1 → ∃ j, j < nHo N ∧ unwL N p a (nWi N p - 1 - a) (80 + 18 * p + (12 + i)) = nI j := fun i hi => by
    rw [unwL_at]
    split
    · exact iv.co.2.2 p hp (i + 1) (by omega)
    · exact iv.co.2.2 p hp i (by omega)
  have c2 : Cn (unwN N p a) := wishCc c (by omega) (by omega) (fun i hi => by obtain ⟨j, x, y⟩ := v1 i hi; exact ⟨j, by omega, y⟩)
  have eV : unwN N p a (80 + 18 * p + 11) = nI (nWi N p - 1) := upd_eq
  refine wish_Iv iv hp c2 (fun j hj => ?_) (fun k hk => ?_)
  · unfold unwN
    rw [show mPuts (unwL N p a (nWi N p - 1 - a)) p 11 (nI (nWi N p - 1)) j = unwL N p a (nWi N p - 1 - a) j from upd_ne (by omega)]
    exact unwL_rd _ (by omega)
  · have : nWi (unwN N p a) p = nWi N p - 1 := by
      show (unwN N p a (80 + 18 * p + 11)).toNatClampNeg = _
      rw [eV]
      exact nI_clamp (by omega)
    rw [this] at hk
    obtain ⟨j, x, y⟩ := v1 k hk
    refine ⟨j, x, ?_⟩
    unfold unwN
    rw [show mPuts (unwL N p a (nWi N p - 1 - a)) p 11 (nI (nWi N p - 1)) (80 + 18 * p + (12 + k)) = unwL N p a (nWi N p - 1 - a) (80 + 18 * p + (12 + k)) from upd_ne (by omega)]
    exact y
end Iv9
