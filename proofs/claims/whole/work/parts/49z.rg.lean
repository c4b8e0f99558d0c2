/-! numbers in their ranges -/
def rg (x : Int32) (lo hi : Nat) : Prop := ∃ v, x = nI v ∧ lo ≤ v ∧ v ≤ hi
def Rg (N : Nat → Int32) : Prop :=
  (∀ p, p < nPo N → rg (N (80 + 18 * p + 0)) 1 4 ∧ rg (N (80 + 18 * p + 1)) 1 4 ∧ rg (N (80 + 18 * p + 2)) 0 7 ∧ rg (N (80 + 18 * p + 3)) 0 999) ∧
  (∀ h, h < nHo N → rg (N (8 * h + 0)) 1 4 ∧ rg (N (8 * h + 1)) 0 7) ∧ rg (N 232) 0 999 ∧ ∀ r, r < 6 → rLeast r ≤ N (224 + r) ∧ N (224 + r) ≤ rMost r
theorem Rg.k4 {N : Nat → Int32} (h : Rg N) {p k : Nat} (hp : p < nPo N) (hk : k < 4) : rg (N (80 + 18 * p + k)) 0 999 := by
  obtain ⟨⟨a, a1, a2, a3⟩, ⟨b, b1, b2, b3⟩, ⟨c, c1, c2, c3⟩, d⟩ := h.1 p hp
  match k, hk with
  | 0, _ => exact ⟨a, a1, by omega, by omega⟩
  | 1, _ => exact ⟨b, b1, by omega, by omega⟩
  | 2, _ => exact ⟨c, c1, by omega, by omega⟩
  | 3, _ => exact d
theorem Rg.rule {N : Nat → Int32} (h : Rg N) {r : Nat} (hr : r < 6) : rg (N (224 + r)) 0 999 := by
  have q := h.2.2.2 r hr
  have e : ∀ r, r < 6 → nI 0 ≤ rLeast r ∧ rMost r ≤ nI 999 := by decide
  obtain ⟨k, k1, k2, k3⟩ := rng (x := 0) (y := 999) (v := N (224 + r)) (by decide) (by
    have := (e r hr).1
    rw [fa_le] at this ⊢
    have := (fa_le _ _).mp q.1
    omega) (by
    have := (e r hr).2
    rw [fa_le] at this ⊢
    have := (fa_le _ _).mp q.2
    omega) (by decide)
  exact ⟨k, k1, k2, k3⟩
theorem txHome_len {N : Nat → Int32} {Q : Nat → Int64} {h : Nat} : (txHm N Q h).length ≤ 28 := by
  unfold txHm
  split
  · unfold txHome
    have := wtx_len (wdK9 6)
    have := nmt_len (Q h)
    have := ntx_len (N (8 * h + 0))
    have := ntx_len (N (8 * h + 1))
    simp only [List.length_append, List.length_singleton]
    omega
  · exact Nat.zero_le _
theorem txRule_len {N : Nat → Int32} {k : Nat} : (txRule N k).length ≤ 24 := by
  unfold txRule
  have := wtx_len (wdK9 8)
  have := wtx_len (wdK9 k)
  have := ntx_len (N (224 + k))
  simp only [List.length_append, List.length_singleton]
  omega
theorem txHouse_len {N : Nat → Int32} {Q : Nat → Int64} {p : Nat} (hw : nWi N p ≤ 6) : (txHs N Q p).length ≤ 116 := by
  unfold txHs
  split
  · unfold txHouse
    have h1 := wtx_len (wdK9 7)
    have h2 := nmt_len (Q (10 + p))
    have h3 := lcat_len (fun k => ntx_len (N (80 + 18 * p + k))) 4
    have h4 : (if mLives N p then [32] ++ wtx (wdK9 9) ++ nmt (Q (nHm N p)) else []).length ≤ 20 := by
      split
      · have := wtx_len (wdK9 9)
        have := nmt_len (Q (nHm N p))
        simp only [List.length_append, List.length_singleton]
        omega
      · exact Nat.zero_le _
    have h5 := lcat_len (P := fun k => if mTold N (wiN N p k) then nmt (Q (wiN N p k)) else []) (B := 10) (fun k => by
      show (if mTold N (wiN N p k) then nmt (Q (wiN N p k)) else []).length ≤ 10
      split
      · exact nmt_len _
      · exact Nat.zero_le _) (nWi N p)
    simp only [List.length_append, List.length_singleton]
    omega
  · exact Nat.zero_le _
def PrtP (z n : Nat) (sh : Shp) (I : MI) (L : ML) (m : Nat) (B : List Int32) : PoT := fun v z' n' sh' I' M => v = some (.int (nI B.length)) ∧ z' = z ∧ n' = n ∧ sh' = sh ∧ M = L ∧ ∃ J, PrF m I J ∧ Prt J m B ∧ I' = stt J m 0
