/-! the class: where a state's cells lie, and what they hold of a row -/
def IsS (n : Nat) (sh : Shp) (b : Nat) : Prop := b + 34 ≤ n ∧ (sh b).1 = 7 ∧
  ((sh b).2.2 0 = some (b + 1) ∧ (sh b).2.2 1 = some (b + 12) ∧ (sh b).2.2 2 = some (b + 29) ∧ (sh b).2.2 3 = some (b + 30) ∧ (sh b).2.2 4 = some (b + 32)) ∧
  ((sh (b + 1)).1 = 104 ∧ (sh (b + 1)).2.1 = 10 ∧ ∀ i, i < 10 → (sh (b + 1)).2.2 i = some (b + 2 + i) ∧ (sh (b + 2 + i)).1 = 2) ∧
  ((sh (b + 12)).1 = 105 ∧ (sh (b + 12)).2.1 = 8 ∧ ∀ i, i < 8 → (sh (b + 12)).2.2 i = some (b + 13 + 2 * i) ∧ (sh (b + 13 + 2 * i)).1 = 3 ∧ (sh (b + 13 + 2 * i)).2.2 2 = some (b + 14 + 2 * i) ∧ (sh (b + 14 + 2 * i)).1 = 100 ∧ (sh (b + 14 + 2 * i)).2.1 = 6) ∧
  ((sh (b + 29)).1 = 100 ∧ (sh (b + 29)).2.1 = 6) ∧
  ((sh (b + 30)).1 = 8 ∧ (sh (b + 30)).2.2 1 = some (b + 31) ∧ (sh (b + 31)).1 = 100 ∧ (sh (b + 31)).2.1 = 88) ∧
  ((sh (b + 32)).1 = 8 ∧ (sh (b + 32)).2.2 1 = some (b + 33) ∧ (sh (b + 33)).1 = 100 ∧ (sh (b + 33)).2.1 = 90)
section IsSs
variable {n b : Nat} {sh : Shp}
theorem IsS.lt (h : IsS n sh b) {k : Nat} (hk : k < 34) : b + k < n := by have := h.1; omega
theorem IsS.k (h : IsS n sh b) : (sh b).1 = 7 := h.2.1
theorem IsS.b0 (h : IsS n sh b) : b < n := by have := h.1; omega
theorem IsS.r0 (h : IsS n sh b) : (sh b).2.2 0 = some (b + 1) := h.2.2.1.1
theorem IsS.r1 (h : IsS n sh b) : (sh b).2.2 1 = some (b + 12) := h.2.2.1.2.1
theorem IsS.r2 (h : IsS n sh b) : (sh b).2.2 2 = some (b + 29) := h.2.2.1.2.2.1
theorem IsS.r3 (h : IsS n sh b) : (sh b).2.2 3 = some (b + 30) := h.2.2.1.2.2.2.1
theorem IsS.r4 (h : IsS n sh b) : (sh b).2.2 4 = some (b + 32) := h.2.2.1.2.2.2.2
theorem IsS.hk (h : IsS n sh b) : (sh (b + 1)).1 = 104 := h.2.2.2.1.1
theorem IsS.hl (h : IsS n sh b) : (sh (b + 1)).2.1 = 10 := h.2.2.2.1.2.1
theorem IsS.hr (h : IsS n sh b) {i : Nat} (hi : i < 10) : (sh (b + 1)).2.2 i = some (b + 2 + i) := (h.2.2.2.1.2.2 i hi).1
theorem IsS.ho (h : IsS n sh b) {i : Nat} (hi : i < 10) : (sh (b + 2 + i)).1 = 2 := (h.2.2.2.1.2.2 i hi).2
theorem IsS.hb (h : IsS n sh b) {i : Nat} (hi : i < 10) : b + 2 + i < n := by have := h.1; omega
theorem IsS.pk (h : IsS n sh b) : (sh (b + 12)).1 = 105 := h.2.2.2.2.1.1
theorem IsS.pl (h : IsS n sh b) : (sh (b + 12)).2.1 = 8 := h.2.2.2.2.1.2.1
theorem IsS.pr (h : IsS n sh b) {i : Nat} (hi : i < 8) : (sh (b + 12)).2.2 i = some (b + 13 + 2 * i) := (h.2.2.2.2.1.2.2 i hi).1
theorem IsS.po (h : IsS n sh b) {i : Nat} (hi : i < 8) : (sh (b + 13 + 2 * i)).1 = 3 := (h.2.2.2.2.1.2.2 i hi).2.1
theorem IsS.pb (h : IsS n sh b) {i : Nat} (hi : i < 8) : b + 13 + 2 * i < n := by have := h.1; omega
theorem IsS.pw (h : IsS n sh b) {i : Nat} (hi : i < 8) : (sh (b + 13 + 2 * i)).2.2 2 = some (b + 14 + 2 * i) := (h.2.2.2.2.1.2.2 i hi).2.2.1
theorem IsS.wk (h : IsS n sh b) {i : Nat} (hi : i < 8) : (sh (b + 14 + 2 * i)).1 = 100 := (h.2.2.2.2.1.2.2 i hi).2.2.2.1
theorem IsS.wl (h : IsS n sh b) {i : Nat} (hi : i < 8) : (sh (b + 14 + 2 * i)).2.1 = 6 := (h.2.2.2.2.1.2.2 i hi).2.2.2.2
theorem IsS.wb (h : IsS n sh b) {i : Nat} (hi : i < 8) : b + 14 + 2 * i < n := by have := h.1; omega
theorem IsS.uk (h : IsS n sh b) : (sh (b + 29)).1 = 100 := h.2.2.2.2.2.1.1
theorem IsS.ul (h : IsS n sh b) : (sh (b + 29)).2.1 = 6 := h.2.2.2.2.2.1.2
theorem IsS.tk (h : IsS n sh b) : (sh (b + 30)).1 = 8 := h.2.2.2.2.2.2.1.1
theorem IsS.tr (h : IsS n sh b) : (sh (b + 30)).2.2 1 = some (b + 31) := h.2.2.2.2.2.2.1.2.1
theorem IsS.tc (h : IsS n sh b) : (sh (b + 31)).1 = 100 := h.2.2.2.2.2.2.1.2.2.1
theorem IsS.tl (h : IsS n sh b) : (sh (b + 31)).2.1 = 88 := h.2.2.2.2.2.2.1.2.2.2
theorem IsS.ok (h : IsS n sh b) : (sh (b + 32)).1 = 8 := h.2.2.2.2.2.2.2.1
theorem IsS.or (h : IsS n sh b) : (sh (b + 32)).2.2 1 = some (b + 33) := h.2.2.2.2.2.2.2.2.1
theorem IsS.oc (h : IsS n sh b) : (sh (b + 33)).1 = 100 := h.2.2.2.2.2.2.2.2.2.1
theorem IsS.ol (h : IsS n sh b) : (sh (b + 33)).2.1 = 90 := h.2.2.2.2.2.2.2.2.2.2
end IsSs
/-- a row's number in a state: which of its cells, which field or element there -/
def hK (w : Nat) : Nat := match w with
  | 0 => 3
  | 1 => 4
  | 2 => 5
  | 3 => 6
  | 4 => 8
  | 5 => 10
  | 6 => 7
  | _ => 9
def sK (w : Nat) : Nat := match w with
  | 0 => 5
  | 1 => 6
  | 2 => 7
  | 3 => 8
  | 4 => 9
  | 5 => 10
  | 6 => 11
  | 7 => 11
  | 8 => 12
  | 9 => 14
  | 10 => 13
  | _ => 3
def oA (j : Nat) : Nat := if j < 80 then 2 + j / 8 else if j < 224 then (if (j - 80) % 18 < 12 then 13 + 2 * ((j - 80) / 18) else 14 + 2 * ((j - 80) / 18)) else if j < 230 then 29 else if j = 233 then 30 else if j = 299 then 32 else if 300 ≤ j then 33 else 0
def oK (j : Nat) : Nat := if j < 80 then hK (j % 8) else if j < 224 then (if (j - 80) % 18 < 12 then sK ((j - 80) % 18) else (j - 80) % 18 - 12) else if j < 230 then j - 224 else if j = 230 then 5 else if j = 231 then 6 else if j = 232 then 7 else if j = 298 then 8 else if 300 ≤ j then j - 300 else 2
def lvj (N : Nat → Int32) (j : Nat) : Prop :=
  (j < 80 ∧ j / 8 < nHo N) ∨ (80 ≤ j ∧ j < 224 ∧ (j - 80) / 18 < nPo N ∧ (j - 80) % 18 ≠ 6 ∧ (j - 80) % 18 ≠ 7 ∧ (j - 80) % 18 < 12 + nWi N ((j - 80) / 18)) ∨ (224 ≤ j ∧ j < 234) ∨ j = 298 ∨ j = 299 ∨ (300 ≤ j ∧ j < 300 + 3 * nOf N)
def LtO (I : MI) (b : Nat) (N : Nat → Int32) (k : Nat) : Prop :=
  (∀ w, w < 8 → w ≠ 5 → I (b + 31) (11 * k + w) = N (234 + 8 * k + w)) ∧ I (b + 31) (11 * k + 5) = N (234 + 8 * k + 5) &&& 1 ∧ I (b + 31) (11 * k + 8) = N (234 + 8 * k + 5) >>> (1 &&& 31) ∧ I (b + 31) (11 * k + 9) = bB (decide (N (80 + 18 * lPo N k + 2) = N (8 * lHo N k + 1))) ∧ I (b + 31) (11 * k + 10) = N (8 * lHo N k + 1)
def z01 (x : Int32) : Prop := x = 0 ∨ x = 1
def FxS (I : MI) (b : Nat) : Prop := (∀ i, i < 10 → I (b + 2 + i) 0 = nI i ∧ I (b + 2 + i) 1 = nI (2 ^ i) ∧ z01 (I (b + 2 + i) 6) ∧ z01 (I (b + 2 + i) 7)) ∧ (∀ i, i < 8 → I (b + 13 + 2 * i) 0 = nI i ∧ I (b + 13 + 2 * i) 1 = nI (2 ^ i) ∧ z01 (I (b + 13 + 2 * i) 12)) ∧ I (b + 30) 0 = 11 ∧ I (b + 32) 0 = 3
def CtS (I : MI) (L : ML) (b : Nat) (N : Nat → Int32) (Q : Nat → Int64) : Prop :=
  FxS I b ∧ (∀ j, lvj N j → I (b + oA j) (oK j) = N j) ∧ (∀ p, p < nPo N → I (b + 13 + 2 * p) 11 = N (80 + 18 * p + 6) + N (80 + 18 * p + 7)) ∧ (∀ k, k < nLe N → LtO I b N k) ∧ (∀ h, h < nHo N → L (b + 2 + h) 2 = Q h) ∧ ∀ p, p < nPo N → L (b + 13 + 2 * p) 4 = Q (10 + p)
theorem oA_h {h w : Nat} (hh : h < 10) (hw : w < 8) : oA (8 * h + w) = 2 + h := by
  unfold oA
  rw [if_pos (by omega)]
  omega
theorem oK_h {h w : Nat} (hh : h < 10) (hw : w < 8) : oK (8 * h + w) = hK w := by
  unfold oK
  rw [if_pos (by omega), show (8 * h + w) % 8 = w by omega]
theorem oA_p {p w : Nat} (hp : p < 8) (hw : w < 12) : oA (80 + 18 * p + w) = 13 + 2 * p := by
  unfold oA
  rw [if_neg (by omega), if_pos (by omega), if_pos (by omega)]
  omega
theorem oK_p {p w : Nat} (hp : p < 8) (hw : w < 12) : oK (80 + 18 * p + w) = sK w := by
  unfold oK
  rw [if_neg (by omega), if_pos (by omega), if_pos (by omega), show (80 + 18 * p + w - 80) % 18 = w by omega]
theorem oA_w {p k : Nat} (hp : p < 8) (hk : k < 6) : oA (80 + 18 * p + (12 + k)) = 14 + 2 * p := by
  unfold oA
  rw [if_neg (by omega), if_pos (by omega), if_neg (by omega)]
  omega
theorem oK_w {p k : Nat} (hp : p < 8) (hk : k < 6) : oK (80 + 18 * p + (12 + k)) = k := by
  unfold oK
  rw [if_neg (by omega), if_pos (by omega), if_neg (by omega)]
  omega
theorem oA_u {r : Nat} (hr : r < 6) : oA (224 + r) = 29 := by
  unfold oA
  rw [if_neg (by omega), if_neg (by omega), if_pos (by omega)]
theorem oK_u {r : Nat} (hr : r < 6) : oK (224 + r) = r := by
  unfold oK
  rw [if_neg (by omega), if_neg (by omega), if_pos (by omega)]
  omega
theorem oA_o {k : Nat} : oA (300 + k) = 33 := by
  unfold oA
  rw [if_neg (by omega), if_neg (by omega), if_neg (by omega), if_neg (by omega), if_neg (by omega), if_pos (by omega)]
theorem oK_o {k : Nat} : oK (300 + k) = k := by
  unfold oK
  rw [if_neg (by omega), if_neg (by omega), if_neg (by omega), if_neg (by omega), if_neg (by omega), if_neg (by omega), if_neg (by omega), if_pos (by omega)]
  omega
section CtSs
variable {I : MI} {L : ML} {b : Nat} {N : Nat → Int32} {Q : Nat → Int64}
theorem CtS.hf (c : CtS I L b N Q) (h10 : nHo N ≤ 10) {h w : Nat} (hh : h < nHo N) (hw : w < 8) : I (b + 2 + h) (hK w) = N (8 * h + w) := by
  have := c.2.1 (8 * h + w) (Or.inl ⟨by omega, by omega⟩)
  rw [oA_h (by omega) hw, oK_h (by omega) hw] at this
  rw [← this]
  congr 1
  omega
theorem CtS.pf (c : CtS I L b N Q) (h8 : nPo N ≤ 8) {p w : Nat} (hp : p < nPo N) (hw : w < 12) (h6 : w ≠ 6) (h7 : w ≠ 7) : I (b + 13 + 2 * p) (sK w) = N (80 + 18 * p + w) := by
  have := c.2.1 (80 + 18 * p + w) (Or.inr (Or.inl ⟨by omega, by omega, by omega, by omega, by omega, by omega⟩))
  rw [oA_p (by omega) hw, oK_p (by omega) hw] at this
  rw [← this]
  congr 1
  omega
theorem CtS.wf (c : CtS I L b N Q) (h8 : nPo N ≤ 8) {p k : Nat} (hp : p < nPo N) (hk : k < nWi N p) (h6 : k < 6) : I (b + 14 + 2 * p) k = N (80 + 18 * p + (12 + k)) := by
  have := c.2.1 (80 + 18 * p + (12 + k)) (Or.inr (Or.inl ⟨by omega, by omega, by omega, by omega, by omega, by
    rw [show (80 + 18 * p + (12 + k) - 80) / 18 = p by omega]
    omega⟩))
  rw [oA_w (by omega) h6, oK_w (by omega) h6] at this
  rw [← this]
  congr 1
  omega
theorem CtS.uf (c : CtS I L b N Q) {r : Nat} (hr : r < 6) : I (b + 29) r = N (224 + r) := by
  have := c.2.1 (224 + r) (Or.inr (Or.inr (Or.inl ⟨by omega, by omega⟩)))
  rw [oA_u hr, oK_u hr] at this
  exact this
theorem CtS.nh (c : CtS I L b N Q) : I b 5 = N 230 := c.2.1 230 (Or.inr (Or.inr (Or.inl ⟨by omega, by omega⟩)))
theorem CtS.np (c : CtS I L b N Q) : I b 6 = N 231 := c.2.1 231 (Or.inr (Or.inr (Or.inl ⟨by omega, by omega⟩)))
theorem CtS.wk (c : CtS I L b N Q) : I b 7 = N 232 := c.2.1 232 (Or.inr (Or.inr (Or.inl ⟨by omega, by omega⟩)))
theorem CtS.nl (c : CtS I L b N Q) : I (b + 30) 2 = N 233 := c.2.1 233 (Or.inr (Or.inr (Or.inl ⟨by omega, by omega⟩)))
theorem CtS.rf (c : CtS I L b N Q) : I b 8 = N 298 := c.2.1 298 (Or.inr (Or.inr (Or.inr (Or.inl rfl))))
theorem CtS.no (c : CtS I L b N Q) : I (b + 32) 2 = N 299 := c.2.1 299 (Or.inr (Or.inr (Or.inr (Or.inr (Or.inl rfl)))))
theorem CtS.of (c : CtS I L b N Q) {k w : Nat} (hk : k < nOf N) (hw : w < 3) : I (b + 33) (3 * k + w) = N (300 + 3 * k + w) := by
  have := c.2.1 (300 + (3 * k + w)) (Or.inr (Or.inr (Or.inr (Or.inr (Or.inr ⟨by omega, by omega⟩)))))
  rw [oA_o, oK_o] at this
  rw [this]
  congr 1
  omega
theorem CtS.br (c : CtS I L b N Q) {p : Nat} (hp : p < nPo N) : I (b + 13 + 2 * p) 11 = N (80 + 18 * p + 6) + N (80 + 18 * p + 7) := c.2.2.1 p hp
theorem CtS.lt (c : CtS I L b N Q) {k : Nat} (hk : k < nLe N) : LtO I b N k := c.2.2.2.1 k hk
theorem CtS.qh (c : CtS I L b N Q) {h : Nat} (hh : h < nHo N) : L (b + 2 + h) 2 = Q h := c.2.2.2.2.1 h hh
theorem CtS.qp (c : CtS I L b N Q) {p : Nat} (hp : p < nPo N) : L (b + 13 + 2 * p) 4 = Q (10 + p) := c.2.2.2.2.2 p hp
theorem CtS.hn (c : CtS I L b N Q) {h : Nat} (hh : h < 10) : I (b + 2 + h) 0 = nI h := (c.1.1 h hh).1
theorem CtS.hi (c : CtS I L b N Q) {h : Nat} (hh : h < 10) : I (b + 2 + h) 1 = nI (2 ^ h) := (c.1.1 h hh).2.1
theorem CtS.pn (c : CtS I L b N Q) {p : Nat} (hp : p < 8) : I (b + 13 + 2 * p) 0 = nI p := (c.1.2.1 p hp).1
theorem CtS.pi (c : CtS I L b N Q) {p : Nat} (hp : p < 8) : I (b + 13 + 2 * p) 1 = nI (2 ^ p) := (c.1.2.1 p hp).2.1
theorem CtS.tw (c : CtS I L b N Q) : I (b + 30) 0 = 11 := c.1.2.2.1
theorem CtS.ow (c : CtS I L b N Q) : I (b + 32) 0 = 3 := c.1.2.2.2
end CtSs
