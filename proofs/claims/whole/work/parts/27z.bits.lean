/-! bits of small numbers, by counting through them -/
theorem bit_all : ∀ v, v < 1024 → ∀ p, p < 10 → bt (nI v) p = v.testBit p ∧ (((nI v >>> (nI p &&& 31)) &&& 1 = 0) ↔ v.testBit p = false) ∧ (v.testBit p = true → iDrop (nI v) (nI p) = nI (v - 2 ^ p) ∧ pcn (v - 2 ^ p) + 1 = pcn v ∧ 2 ^ p ≤ v) := by decide +kernel
theorem bit_drop : ∀ v, v < 256 → ∀ p, p < 8 → v.testBit p = true → ∀ q, q < 8 → (v - 2 ^ p).testBit q = (v.testBit q && !decide (q = p)) := by decide +kernel
theorem bit_zero : ∀ v, v < 1024 → (∀ p, p < 10 → v.testBit p = false) → v = 0 := by decide +kernel
theorem pcn_8 : ∀ v, v < 256 → pcn v ≤ 8 := by decide +kernel
