/-! the text that is printed -/
def wsh (i : Nat) : Int32 := 40 - 5 * nI i
def wpv (w : Int64) (i : Nat) : Int64 := (w >>> ((wsh i).toInt64 &&& 63)) &&& 31
def wpc (w : Int64) (i : Nat) : List Int32 := if wpv w i = 0 then [] else [(wpv w i).toInt32 + 96]
def lcat (P : Nat → List Int32) : Nat → List Int32
  | 0 => []
  | i + 1 => lcat P i ++ P i
def wtx (w : Int64) : List Int32 := lcat (wpc w) 9
def ntx (v : Int32) : List Int32 := [32] ++ (if 99 < v then [48 + v / 100] else []) ++ (if 9 < v then [48 + irem (v / 10) 10] else []) ++ [48 + irem v 10]
def nmt (w : Int64) : List Int32 := [32] ++ wtx w
def mTold (N : Nat → Int32) (h : Nat) : Bool := decide (N (8 * h + 6) = 0) && (decide (N (8 * h + 2) = -1) || mIn N (N (8 * h + 2)).toNatClampNeg)
def nHm (N : Nat → Int32) (p : Nat) : Nat := (N (80 + 18 * p + 4)).toNatClampNeg
def wiN (N : Nat → Int32) (p k : Nat) : Nat := (N (80 + 18 * p + (12 + k))).toNatClampNeg
def mLives (N : Nat → Int32) (p : Nat) : Bool := !decide (N (80 + 18 * p + 4) = -1) && mTold N (nHm N p)
def txHouse (N : Nat → Int32) (Q : Nat → Int64) (p : Nat) : List Int32 :=
  wtx (wdK9 7) ++ nmt (Q (10 + p)) ++ lcat (fun k => ntx (N (80 + 18 * p + k))) 4 ++ (if mLives N p then [32] ++ wtx (wdK9 9) ++ nmt (Q (nHm N p)) else []) ++ lcat (fun k => if mTold N (wiN N p k) then nmt (Q (wiN N p k)) else []) (nWi N p) ++ [59]
def txHome (N : Nat → Int32) (Q : Nat → Int64) (h : Nat) : List Int32 := wtx (wdK9 6) ++ nmt (Q h) ++ ntx (N (8 * h + 0)) ++ ntx (N (8 * h + 1)) ++ [59]
def txRule (N : Nat → Int32) (k : Nat) : List Int32 := wtx (wdK9 8) ++ [32] ++ wtx (wdK9 k) ++ ntx (N (224 + k)) ++ [59]
def txHm (N : Nat → Int32) (Q : Nat → Int64) (h : Nat) : List Int32 := if mTold N h then txHome N Q h else []
def txHs (N : Nat → Int32) (Q : Nat → Int64) (p : Nat) : List Int32 := if mIn N p then txHouse N Q p else []
def txAll (N : Nat → Int32) (Q : Nat → Int64) : List Int32 := lcat (txRule N) 6 ++ lcat (txHm N Q) (nHo N) ++ lcat (txHs N Q) (nPo N)
theorem lcat_len {P : Nat → List Int32} {B : Nat} (h : ∀ i, (P i).length ≤ B) : ∀ n, (lcat P n).length ≤ B * n
  | 0 => Nat.zero_le _
  | n + 1 => by
    have := lcat_len h n
    have := h n
    show (lcat P n ++ P n).length ≤ _
    rw [List.length_append, Nat.mul_succ]
    omega
theorem wpc_len (w : Int64) (i : Nat) : (wpc w i).length ≤ 1 := by
  unfold wpc
  split
  · exact Nat.zero_le _
  · exact Nat.le_refl _
theorem wtx_len (w : Int64) : (wtx w).length ≤ 9 := by
  have := lcat_len (wpc_len w) 9
  unfold wtx
  omega
theorem nmt_len (w : Int64) : (nmt w).length ≤ 10 := by
  have := wtx_len w
  unfold nmt
  rw [List.length_append]
  show 1 + _ ≤ _
  omega
theorem ntx_len (v : Int32) : (ntx v).length ≤ 4 := by
  unfold ntx
  split <;> split <;> simp
theorem and31 (x : Int64) : ∃ j, j < 32 ∧ x &&& 31 = lN j := by
  refine ⟨x.toBitVec.toNat % 32, Nat.mod_lt _ (by decide), ?_⟩
  apply Int64.toBitVec_inj.mp
  apply BitVec.eq_of_toNat_eq
  rw [Int64.toBitVec_and, BitVec.toNat_and, show (31 : Int64).toBitVec.toNat = 2 ^ 5 - 1 by decide, Nat.and_two_pow_sub_one_eq_mod]
  show _ = (BitVec.ofNat 64 _).toNat
  rw [BitVec.toNat_ofNat]
  exact (Nat.mod_eq_of_lt (Nat.lt_of_lt_of_le (Nat.mod_lt _ (by decide)) (by decide))).symm
theorem wpv_of (w : Int64) (i : Nat) : ∃ j, j < 32 ∧ wpv w i = lN j ∧ (wpv w i).toInt32 + 96 = nI (j + 96) := by
  obtain ⟨j, h1, h2⟩ := and31 (w >>> ((wsh i).toInt64 &&& 63))
  refine ⟨j, h1, h2, ?_⟩
  unfold wpv
  rw [h2, lN_i]
  exact nI_add j 96
theorem wsh_lt : ∀ i, i ≤ 9 → (wsh i < 0 ↔ i = 9) := by decide
theorem wsh_s : ∀ i, i < 9 → wsh i + Int32.ofInt (-5) = wsh (i + 1) := by decide
theorem nar_b : ∀ c, c < 128 → vp_nar .byte ((nI c).toInt8.toInt32) = nI c := by decide +kernel
/-! how the reference holds it -/
def Prt (I : MI) (m : Nat) (B : List Int32) : Prop := I m 32 = nI B.length ∧ ∀ i, i < B.length → I (m + 14) i = B.getD i 0
def PrF (m : Nat) (I J : MI) : Prop := (∀ a, a ≠ m → a ≠ m + 14 → J a = I a) ∧ ∀ k, k ≠ 32 → J m k = I m k
def PtP (z n : Nat) (sh : Shp) (I : MI) (L : ML) (m : Nat) (B : List Int32) : PoT := fun v z' n' sh' J M => v = none ∧ z' = z ∧ n' = n ∧ sh' = sh ∧ L = M ∧ PrF m I J ∧ Prt J m B
theorem PrF.rf {m : Nat} {I : MI} : PrF m I I := ⟨fun _ _ _ => rfl, fun _ _ => rfl⟩
theorem PrF.tr {m : Nat} {I J K : MI} (h : PrF m I J) (h2 : PrF m J K) : PrF m I K := ⟨fun a a1 a2 => (h2.1 a a1 a2).trans (h.1 a a1 a2), fun k k1 => (h2.2 k k1).trans (h.2 k k1)⟩
theorem PrF.now {m : Nat} {I J : MI} {N : Nat → Int32} (h : PrF m I J) (hN : I (m + 1) = N) : J (m + 1) = N := (h.1 _ (by omega) (by omega)).trans hN
theorem getD_app {B : List Int32} {x : Int32} {i : Nat} (h : i < B.length) : (B ++ [x]).getD i 0 = B.getD i 0 := by
  simp [List.getD, List.getElem?_append_left h]
theorem getD_end {B : List Int32} {x : Int32} : (B ++ [x]).getD B.length 0 = x := by
  simp [List.getD]
theorem len_app1 {B : List Int32} {x : Int32} : (B ++ [x]).length = B.length + 1 := by simp
