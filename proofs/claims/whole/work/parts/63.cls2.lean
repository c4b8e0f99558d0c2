/-! the class: tables; what a row of the class's states keeps to -/
/-- of a let's fifth number two bits -/
def LeO (N : Nat → Int32) : Prop := ∀ k, k < nLe N → ∃ v, v < 4 ∧ N (234 + 8 * k + 5) = nI v
def Ok (N : Nat → Int32) : Prop := Cn N ∧ Rg N ∧ BrO N ∧ LeO N
def TbO (n : Nat) (sh : Shp) (I : MI) (t len w c : Nat) : Prop := (sh t).1 = 8 ∧ t + 1 < n ∧ (sh t).2.2 1 = some (t + 1) ∧ (sh (t + 1)).1 = 100 ∧ (sh (t + 1)).2.1 = len ∧ I t 0 = nI w ∧ I t 2 = nI c ∧ c * w ≤ len ∧ len < 2 ^ 30 ∧ c < 2 ^ 30 ∧ w < 2 ^ 30
section TbOs
variable {n t len w c : Nat} {sh : Shp} {I : MI}
theorem TbO.k (h : TbO n sh I t len w c) : (sh t).1 = 8 := h.1
theorem TbO.b (h : TbO n sh I t len w c) : t < n := by have := h.2.1; omega
theorem TbO.cb (h : TbO n sh I t len w c) : t + 1 < n := h.2.1
theorem TbO.r (h : TbO n sh I t len w c) : (sh t).2.2 1 = some (t + 1) := h.2.2.1
theorem TbO.ck (h : TbO n sh I t len w c) : (sh (t + 1)).1 = 100 := h.2.2.2.1
theorem TbO.cl (h : TbO n sh I t len w c) : (sh (t + 1)).2.1 = len := h.2.2.2.2.1
theorem TbO.wd (h : TbO n sh I t len w c) : I t 0 = nI w := h.2.2.2.2.2.1
theorem TbO.ct (h : TbO n sh I t len w c) : I t 2 = nI c := h.2.2.2.2.2.2.1
theorem TbO.le (h : TbO n sh I t len w c) : c * w ≤ len := h.2.2.2.2.2.2.2.1
theorem TbO.ll (h : TbO n sh I t len w c) : len < 2 ^ 30 := h.2.2.2.2.2.2.2.2.1
theorem TbO.lc (h : TbO n sh I t len w c) : c < 2 ^ 30 := h.2.2.2.2.2.2.2.2.2.1
theorem TbO.lw (h : TbO n sh I t len w c) : w < 2 ^ 30 := h.2.2.2.2.2.2.2.2.2.2
theorem TbO.lt (h : TbO n sh I t len w c) {r k : Nat} (hr : r < c) (hk : k < w) : w * r + k < len := by
  have h1 := h.le
  have h2 : (r + 1) * w ≤ c * w := Nat.mul_le_mul_right w hr
  rw [Nat.succ_mul] at h2
  rw [Nat.mul_comm]
  omega
end TbOs
theorem CtS.tbL {n b : Nat} {sh : Shp} {I : MI} {L : ML} {N : Nat → Int32} {Q : Nat → Int64} (hC : CtS I L b N Q) (hS : IsS n sh b) (hN : Cn N) : TbO n sh I (b + 30) 88 11 (nLe N) :=
  ⟨hS.tk, hS.lt (k := 31) (by decide), hS.tr, hS.tc, hS.tl, hC.tw, hC.nl.trans hN.l, by have := hN.l8; omega, by decide, by have := hN.l8; omega, by decide⟩
theorem CtS.tbO {n b : Nat} {sh : Shp} {I : MI} {L : ML} {N : Nat → Int32} {Q : Nat → Int64} (hC : CtS I L b N Q) (hS : IsS n sh b) (hN : Cn N) : TbO n sh I (b + 32) 90 3 (nOf N) :=
  ⟨hS.ok, hS.lt (k := 33) (by decide), hS.or, hS.oc, hS.ol, hC.ow, hC.no.trans hN.o, by have := hN.o30; omega, by decide, by have := hN.o30; omega, by decide⟩
section ClsS
variable {z n b : Nat} {sh : Shp} {I : MI} {L : ML} {N : Nat → Int32} {Q : Nat → Int64}
set_option maxHeartbeats 4000000 in
set_option maxRecDepth 100000 in
theorem sX8_at {t len w c : Nat} (hT : TbO n sh I t len w c) {x y : Int32} {r k : Nat} (hx : x = nI r) (hr : r < c) (hy : y = nI k) (hk : k < w)  : CM yX8_at cX8_at 3 (Option.some .int) 1 0 0 [.ref t, .int x, .int y] z n sh I L (Pst (some (.int (I (t + 1) (w * r + k)))) z n sh I L) := by
  refine CM.go [some (.ref t), some (.int x), some (.int y)] rfl rfl (Nat.le_of_ble_eq_true rfl) (fun X g q => ?_)
  have hlt := hT.lt hr hk
  have hll := hT.ll
  have hlc := hT.lc
  have hlw := hT.lw
  refine aw_iload_n dX8_at_0 rfl ?_
  refine aw_if_lt (tgt := 24) dX8_at_1 rfl (fun c1 => ?_) (fun c1 => ?_)
  · rw [hx] at c1
    exact absurd c1 (nI_pos (by omega))
  · skip
    refine aw_iload_n dX8_at_4 rfl ?_
    refine aw_aload_n dX8_at_5 rfl ?_
    refine aw_getI dX8_at_6 fX8_19 hT.k hT.b rfl ?_
    refine AW.top hT.ct ?_
    refine aw_icmp_ge (tgt := 24) dX8_at_9 rfl (fun c9 => ?_) (fun c9 => ?_)
    · rw [hx] at c9
      exact absurd ((nI_leI (by omega) (by omega)).mp c9) (by omega)
    · skip
      refine aw_iload_n dX8_at_12 rfl ?_
      refine aw_if_lt (tgt := 24) dX8_at_13 rfl (fun c13 => ?_) (fun c13 => ?_)
      · rw [hy] at c13
        exact absurd c13 (nI_pos (by omega))
      · skip
        refine aw_iload_n dX8_at_16 rfl ?_
        refine aw_aload_n dX8_at_17 rfl ?_
        refine aw_getI dX8_at_18 fX8_9 hT.k hT.b rfl ?_
        refine AW.top hT.wd ?_
        refine aw_icmp_lt (tgt := 26) dX8_at_21 rfl (fun c21 => ?_) (fun c21 => ?_)
        · skip
          refine aw_aload_n dX8_at_26 rfl ?_
          refine aw_getR (b := t + 1) dX8_at_27 fX8_15 hT.k hT.b rfl hT.r ?_
          refine aw_iload_n dX8_at_30 rfl ?_
          refine aw_aload_n dX8_at_31 rfl ?_
          refine aw_getI dX8_at_32 fX8_9 hT.k hT.b rfl ?_
          refine AW.top hT.wd ?_
          refine aw_imul dX8_at_35 ?_
          refine aw_iload_n dX8_at_36 rfl ?_
          refine aw_iadd dX8_at_37 ?_
          refine AW.top (y := nI (w * r + k)) (by rw [hx, hy, Nat.mul_comm w r, ← nI_add, ← pk_mul]) ?_
          refine aw_ialdN (k := (w * r + k)) dX8_at_38 hT.ck hT.cb hT.cl rfl hlt (by omega) ?_
          refine aw_iret q rfl dX8_at_39 ⟨Nat.le_refl _, Nat.le_refl _⟩ ?_
          exact Pst.rf
        · rw [hy] at c21
          exact absurd (nI_lt hk (by omega)) c21
set_option maxHeartbeats 4000000 in
set_option maxRecDepth 100000 in
theorem sX8_atN {t len w c : Nat} (hT : TbO n sh I t len w c) {x y : Int32} (hx : x < 0)  : CM yX8_at cX8_at 3 (Option.some .int) 1 0 0 [.ref t, .int x, .int y] z n sh I L (Pst (some (.int (-1))) z n sh I L) := by
  refine CM.go [some (.ref t), some (.int x), some (.int y)] rfl rfl (Nat.le_of_ble_eq_true rfl) (fun X g q => ?_)
  refine aw_iload_n dX8_at_0 rfl ?_
  refine aw_if_lt (tgt := 24) dX8_at_1 rfl (fun c1 => ?_) (fun c1 => ?_)
  · skip
    refine aw_iconst (v := (-1)) dX8_at_24 rfl ?_
    refine aw_iret q rfl dX8_at_25 ⟨Nat.le_refl _, Nat.le_refl _⟩ ?_
    exact Pst.rf
  · exact absurd hx c1
set_option maxHeartbeats 4000000 in
set_option maxRecDepth 100000 in
theorem sX8_countWith {t len w c : Nat} (hT : TbO n sh I t len w c) {y v : Int32} {k : Nat} (hy : y = nI k) (hk : k < w)  : CM yX8_countWith cX8_countWith 5 (Option.some .int) 2 0 0 [.ref t, .int y, .int v] z n sh I L (Pst (some (.int (nI (fa_cnt (fun r => decide (I (t + 1) (w * r + k) = v)) c)))) z n sh I L) := by
  refine CM.go [some (.ref t), some (.int y), some (.int v), none, none] rfl rfl (Nat.le_of_ble_eq_true rfl) (fun X g q => ?_)
  have hlc := hT.lc
  have loop : ∀ i, i ≤ c → AW X g RX8 cX8_countWith 5 (2, 0, 0) (z, n, sh, 0, 0) (I) (L) 5 [some (.ref t), some (.int y), some (.int v), some (.int (nI (fa_cnt (fun r => decide (I (t + 1) (w * r + k) = v)) i))), some (.int (nI i))] [] := by
    refine up_loop (fun i hi ih => ?_)
    refine aw_iload dX8_countWith_5 rfl ?_
    refine aw_aload_n dX8_countWith_7 rfl ?_
    refine aw_getI dX8_countWith_8 fX8_19 hT.k hT.b rfl ?_
    refine AW.top hT.ct ?_
    refine aw_icmp_ge (tgt := 34) dX8_countWith_11 rfl (fun c11 => ?_) (fun c11 => ?_)
    · have e := ge_t rfl (by omega) hi c11
      subst e
      refine aw_iload_n dX8_countWith_34 rfl ?_
      refine aw_iret q rfl dX8_countWith_35 ⟨Nat.le_refl _, Nat.le_refl _⟩ ?_
      exact Pst.rf
    · have hlt := ge_f rfl (by omega) hi c11
      refine aw_aload_n dX8_countWith_14 rfl ?_
      refine aw_iload dX8_countWith_15 rfl ?_
      refine aw_iload_n dX8_countWith_17 rfl ?_
      refine aw_cV dX8_countWith_18 kX8_22 mX8_at (sX8_at hT (r := i) (k := k) rfl hlt hy hk) (Nat.le_of_ble_eq_true rfl) hT.k ⟨by decide, rfl⟩ hT.b rfl rfl (Nat.le_of_ble_eq_true rfl) ⟨Nat.le_refl _, Nat.le_refl _⟩ ?_
      refine aw_iload_n dX8_countWith_21 rfl ?_
      refine aw_icmp_ne (tgt := 28) dX8_countWith_22 rfl (fun c22 => ?_) (fun c22 => ?_)
      · refine aw_iinc dX8_countWith_28 rfl (ginc rfl) (by decide) rfl ?_
        refine aw_goto (tgt := 5) dX8_countWith_31 rfl ?_
        have := ih hlt
        rw [fa_cnt_no (by simpa using c22)] at this
        exact this
      · refine aw_iinc dX8_countWith_25 rfl (ginc rfl) (by decide) rfl ?_
        refine aw_iinc dX8_countWith_28 rfl (ginc rfl) (by decide) rfl ?_
        refine aw_goto (tgt := 5) dX8_countWith_31 rfl ?_
        have := ih hlt
        rw [fa_cnt_yes (by simpa using c22)] at this
        exact this
  refine aw_iconst (v := 0) dX8_countWith_0 rfl ?_
  refine aw_istore_n dX8_countWith_1 (by decide) rfl ?_
  refine aw_iconst (v := 0) dX8_countWith_2 rfl ?_
  refine aw_istore dX8_countWith_3 (by decide) rfl ?_
  exact loop 0 (Nat.zero_le _)
set_option maxHeartbeats 4000000 in
set_option maxRecDepth 100000 in
theorem sX8_find {t len w c : Nat} (hT : TbO n sh I t len w c) {y v : Int32} {k : Nat} (hy : y = nI k) (hk : k < w)  : CM yX8_find cX8_find 4 (Option.some .int) 2 0 0 [.ref t, .int y, .int v] z n sh I L (Pst (some (.int (iFirst (fun r => decide (I (t + 1) (w * r + k) = v)) c))) z n sh I L) := by
  refine CM.go [some (.ref t), some (.int y), some (.int v), none] rfl rfl (Nat.le_of_ble_eq_true rfl) (fun X g q => ?_)
  have hlc := hT.lc
  have loop : ∀ i, i ≤ c → fa_first (fun r => decide (I (t + 1) (w * r + k) = v)) i = i → AW X g RX8 cX8_find 4 (2, 0, 0) (z, n, sh, 0, 0) (I) (L) 2 [some (.ref t), some (.int y), some (.int v), some (.int (nI i))] [] := by
    refine up_loop (fun i hi ih hfi => ?_)
    refine aw_iload_n dX8_find_2 rfl ?_
    refine aw_aload_n dX8_find_3 rfl ?_
    refine aw_getI dX8_find_4 fX8_19 hT.k hT.b rfl ?_
    refine AW.top hT.ct ?_
    refine aw_icmp_ge (tgt := 28) dX8_find_7 rfl (fun c7 => ?_) (fun c7 => ?_)
    · have e := ge_t rfl (by omega) hi c7
      subst e
      refine aw_iconst (v := (-1)) dX8_find_28 rfl ?_
      refine aw_iret q rfl dX8_find_29 ⟨Nat.le_refl _, Nat.le_refl _⟩ ?_
      refine Pst.iv ?_
      unfold iFirst
      rw [hfi, if_neg (Nat.lt_irrefl _)]
    · have hlt := ge_f rfl (by omega) hi c7
      refine aw_aload_n dX8_find_10 rfl ?_
      refine aw_iload_n dX8_find_11 rfl ?_
      refine aw_iload_n dX8_find_12 rfl ?_
      refine aw_cV dX8_find_13 kX8_22 mX8_at (sX8_at hT (r := i) (k := k) rfl hlt hy hk) (Nat.le_of_ble_eq_true rfl) hT.k ⟨by decide, rfl⟩ hT.b rfl rfl (Nat.le_of_ble_eq_true rfl) ⟨Nat.le_refl _, Nat.le_refl _⟩ ?_
      refine aw_iload_n dX8_find_16 rfl ?_
      refine aw_icmp_ne (tgt := 22) dX8_find_17 rfl (fun c17 => ?_) (fun c17 => ?_)
      · refine aw_iinc dX8_find_22 rfl (ginc rfl) (by decide) rfl ?_
        refine aw_goto (tgt := 2) dX8_find_25 rfl ?_
        exact ih hlt (fa_first_no1 hfi (by simpa using c17))
      · refine aw_iload_n dX8_find_20 rfl ?_
        refine aw_iret q rfl dX8_find_21 ⟨Nat.le_refl _, Nat.le_refl _⟩ ?_
        refine Pst.iv ?_
        have e9 : fa_first (fun r => decide (I (t + 1) (w * r + k) = v)) c = i := fa_first_yes1 hfi (by simpa using c17) hlt
        unfold iFirst
        rw [e9, if_pos hlt]
  refine aw_iconst (v := 0) dX8_find_0 rfl ?_
  refine aw_istore_n dX8_find_1 (by decide) rfl ?_
  exact loop 0 (Nat.zero_le _) rfl
theorem isB_cnt (P : Nat → Bool) : ∀ n, isum (fun k => bB (P k)) n = nI (fa_cnt P n)
  | 0 => rfl
  | n + 1 => by
    rw [isum, isB_cnt P n]
    cases h : P n with
    | true => rw [fa_cnt_yes h]; exact nI_1 _
    | false => rw [fa_cnt_no h]; exact Int32.add_zero _
theorem isum_cntI (P : Nat → Bool) (n : Nat) : isum (fun k => bI (P k)) n = nI (fa_cnt P n) := isB_cnt P n
theorem iset_and {S : Nat → Bool} {n i : Nat} (hn : n ≤ 8) (hi : i < 8) : iset S n &&& nI (2 ^ i) = 0 ↔ ¬ bt (iset S n) i = true := by
  rw [iset_n S n (by omega)]
  have h := nset_lt S n
  have h2 : 2 ^ n ≤ 2 ^ 8 := Nat.pow_le_pow_right (by decide) hn
  rw [and_bit _ (by omega) i (by omega)]
  unfold bt
  rw [decide_eq_true_eq]
theorem bt_and {x : Int32} {v i : Nat} (hx : x = nI v) (hv : v < 1024) (hi : i < 10) : x &&& nI (2 ^ i) = 0 ↔ bt x i = false := by
  subst hx
  rw [and_bit _ hv i hi]
  unfold bt
  rw [decide_eq_false_iff_not]
theorem iset_or {S : Nat → Bool} {n : Nat} (hn : n < 10) : iset S (n + 1) = if S n then iset S n ||| nI (2 ^ n) else iset S n := by
  rw [iset]
  by_cases h : S n = true
  · rw [if_pos h, if_pos h, shl_bit n hn]
  · rw [if_neg h, if_neg h, Int32.or_zero]
theorem cnt_cut {S : Nat → Bool} {n : Nat} : ∀ m, n ≤ m → fa_cnt (fun j => decide (j < n) && S j) m = fa_cnt S n
  | 0, h => by
    have : n = 0 := by omega
    subst this
    rfl
  | m + 1, h => by
    by_cases e : n = m + 1
    · subst e
      exact fa_cnt_cong (fun k hk => by simp [hk])
    · rw [fa_cnt_no (by simp; omega)]
      exact cnt_cut m (by omega)
theorem pcn_nset {S : Nat → Bool} {n : Nat} (hn : n ≤ 10) : pcn (nset S n) = fa_cnt S n := by
  unfold pcn
  rw [fa_cnt_cong (q := fun j => decide (j < n) && S j) (fun k hk => nset_bit S n hn k hk)]
  exact cnt_cut 10 hn
set_option maxHeartbeats 4000000 in
set_option maxRecDepth 100000 in
theorem sX7_homeAt (hS : IsS n sh b) (hC : CtS I L b N Q) (hO : Ok N) {x : Int32} {h : Nat} (hx : x = nI h) (hh : h < nHo N)  : CM yX7_homeAt cX7_homeAt 2 (Option.some (.object "HomesQueue$Home")) 1 0 0 [.ref b, .int x] z n sh I L (Pst (some (.ref (b + 2 + h))) z n sh I L) := by
  refine CM.go [some (.ref b), some (.int x)] rfl rfl (Nat.le_of_ble_eq_true rfl) (fun X g q => ?_)
  have hN := hO.1
  have hR := hO.2.1
  have hB := hO.2.2.1
  have hE := hO.2.2.2
  have h8 := hN.p8
  have h10 := hN.h10
  refine aw_iload_n dX7_homeAt_0 rfl ?_
  refine aw_if_lt (tgt := 12) dX7_homeAt_1 rfl (fun c1 => ?_) (fun c1 => ?_)
  · rw [hx] at c1
    exact absurd c1 (nI_pos (by omega))
  · skip
    refine aw_iload_n dX7_homeAt_4 rfl ?_
    refine aw_aload_n dX7_homeAt_5 rfl ?_
    refine aw_getI dX7_homeAt_6 fX7_59 hS.k hS.b0 rfl ?_
    refine AW.top (hC.nh.trans hN.h) ?_
    refine aw_icmp_lt (tgt := 16) dX7_homeAt_9 rfl (fun c9 => ?_) (fun c9 => ?_)
    · skip
      refine aw_aload_n dX7_homeAt_16 rfl ?_
      refine aw_getR (b := b + 1) dX7_homeAt_17 fX7_11 hS.k hS.b0 rfl hS.r0 ?_
      refine aw_iload_n dX7_homeAt_20 rfl ?_
      refine aw_homes (h := h) hS hx (by omega) dX7_homeAt_21 ?_
      refine aw_aret q rfl (Or.inr ⟨_, rfl⟩) dX7_homeAt_22 ⟨Nat.le_refl _, Nat.le_refl _⟩ ?_
      exact Pst.rf
    · rw [hx] at c9
      exact absurd (nI_lt hh (by omega)) c9
set_option maxHeartbeats 4000000 in
set_option maxRecDepth 100000 in
theorem sX7_homeAtN (hS : IsS n sh b) (hC : CtS I L b N Q) (hO : Ok N) {x : Int32} (hx : mFrom x 0 (N 230 - 1) = false)  : CM yX7_homeAt cX7_homeAt 2 (Option.some (.object "HomesQueue$Home")) 1 0 0 [.ref b, .int x] z n sh I L (Pst (some .null) z n sh I L) := by
  refine CM.go [some (.ref b), some (.int x)] rfl rfl (Nat.le_of_ble_eq_true rfl) (fun X g q => ?_)
  have hN := hO.1
  have hR := hO.2.1
  have hB := hO.2.2.1
  have hE := hO.2.2.2
  have h8 := hN.p8
  have h10 := hN.h10
  have hl := from_lt (x := x) (k := nHo N) (by omega)
  rw [← hN.h, hx] at hl
  simp at hl
  rw [hN.h] at hl
  refine aw_iload_n dX7_homeAt_0 rfl ?_
  refine aw_if_lt (tgt := 12) dX7_homeAt_1 rfl (fun c1 => ?_) (fun c1 => ?_)
  · refine aw_null dX7_homeAt_12 ?_
    refine aw_goto (tgt := 22) dX7_homeAt_13 rfl ?_
    refine aw_aret q rfl (Or.inl rfl) dX7_homeAt_22 ⟨Nat.le_refl _, Nat.le_refl _⟩ ?_
    exact Pst.rf
  · refine aw_iload_n dX7_homeAt_4 rfl ?_
    refine aw_aload_n dX7_homeAt_5 rfl ?_
    refine aw_getI dX7_homeAt_6 fX7_59 hS.k hS.b0 rfl ?_
    refine AW.top (hC.nh.trans hN.h) ?_
    refine aw_icmp_lt (tgt := 16) dX7_homeAt_9 rfl (fun c9 => ?_) (fun c9 => ?_)
    · exact absurd c9 (Int32.not_lt.mpr (hl (Int32.not_lt.mp c1)))
    · skip
      refine aw_null dX7_homeAt_12 ?_
      refine aw_goto (tgt := 22) dX7_homeAt_13 rfl ?_
      refine aw_aret q rfl (Or.inl rfl) dX7_homeAt_22 ⟨Nat.le_refl _, Nat.le_refl _⟩ ?_
      exact Pst.rf
set_option maxHeartbeats 4000000 in
set_option maxRecDepth 100000 in
theorem sX7_houseAt (hS : IsS n sh b) (hC : CtS I L b N Q) (hO : Ok N) {x : Int32} {p : Nat} (hx : x = nI p) (hp : p < nPo N)  : CM yX7_houseAt cX7_houseAt 2 (Option.some (.object "HomesQueue$House")) 1 0 0 [.ref b, .int x] z n sh I L (Pst (some (.ref (b + 13 + 2 * p))) z n sh I L) := by
  refine CM.go [some (.ref b), some (.int x)] rfl rfl (Nat.le_of_ble_eq_true rfl) (fun X g q => ?_)
  have hN := hO.1
  have hR := hO.2.1
  have hB := hO.2.2.1
  have hE := hO.2.2.2
  have h8 := hN.p8
  have h10 := hN.h10
  refine aw_iload_n dX7_houseAt_0 rfl ?_
  refine aw_if_lt (tgt := 12) dX7_houseAt_1 rfl (fun c1 => ?_) (fun c1 => ?_)
  · rw [hx] at c1
    exact absurd c1 (nI_pos (by omega))
  · skip
    refine aw_iload_n dX7_houseAt_4 rfl ?_
    refine aw_aload_n dX7_houseAt_5 rfl ?_
    refine aw_getI dX7_houseAt_6 fX7_62 hS.k hS.b0 rfl ?_
    refine AW.top (hC.np.trans hN.p) ?_
    refine aw_icmp_lt (tgt := 16) dX7_houseAt_9 rfl (fun c9 => ?_) (fun c9 => ?_)
    · skip
      refine aw_aload_n dX7_houseAt_16 rfl ?_
      refine aw_getR (b := b + 12) dX7_houseAt_17 fX7_22 hS.k hS.b0 rfl hS.r1 ?_
      refine aw_iload_n dX7_houseAt_20 rfl ?_
      refine aw_houses (p := p) hS hx (by omega) dX7_houseAt_21 ?_
      refine aw_aret q rfl (Or.inr ⟨_, rfl⟩) dX7_houseAt_22 ⟨Nat.le_refl _, Nat.le_refl _⟩ ?_
      exact Pst.rf
    · rw [hx] at c9
      exact absurd (nI_lt hp (by omega)) c9
set_option maxHeartbeats 4000000 in
set_option maxRecDepth 100000 in
theorem sX7_houseAtN (hS : IsS n sh b) (hC : CtS I L b N Q) (hO : Ok N) {x : Int32} (hx : mFrom x 0 (N 231 - 1) = false)  : CM yX7_houseAt cX7_houseAt 2 (Option.some (.object "HomesQueue$House")) 1 0 0 [.ref b, .int x] z n sh I L (Pst (some .null) z n sh I L) := by
  refine CM.go [some (.ref b), some (.int x)] rfl rfl (Nat.le_of_ble_eq_true rfl) (fun X g q => ?_)
  have hN := hO.1
  have hR := hO.2.1
  have hB := hO.2.2.1
  have hE := hO.2.2.2
  have h8 := hN.p8
  have h10 := hN.h10
  have hl := from_lt (x := x) (k := nPo N) (by omega)
  rw [← hN.p, hx] at hl
  simp at hl
  rw [hN.p] at hl
  refine aw_iload_n dX7_houseAt_0 rfl ?_
  refine aw_if_lt (tgt := 12) dX7_houseAt_1 rfl (fun c1 => ?_) (fun c1 => ?_)
  · refine aw_null dX7_houseAt_12 ?_
    refine aw_goto (tgt := 22) dX7_houseAt_13 rfl ?_
    refine aw_aret q rfl (Or.inl rfl) dX7_houseAt_22 ⟨Nat.le_refl _, Nat.le_refl _⟩ ?_
    exact Pst.rf
  · refine aw_iload_n dX7_houseAt_4 rfl ?_
    refine aw_aload_n dX7_houseAt_5 rfl ?_
    refine aw_getI dX7_houseAt_6 fX7_62 hS.k hS.b0 rfl ?_
    refine AW.top (hC.np.trans hN.p) ?_
    refine aw_icmp_lt (tgt := 16) dX7_houseAt_9 rfl (fun c9 => ?_) (fun c9 => ?_)
    · exact absurd c9 (Int32.not_lt.mpr (hl (Int32.not_lt.mp c1)))
    · skip
      refine aw_null dX7_houseAt_12 ?_
      refine aw_goto (tgt := 22) dX7_houseAt_13 rfl ?_
      refine aw_aret q rfl (Or.inl rfl) dX7_houseAt_22 ⟨Nat.le_refl _, Nat.le_refl _⟩ ?_
      exact Pst.rf
set_option maxHeartbeats 4000000 in
set_option maxRecDepth 100000 in
theorem sX7_ruleAt (hS : IsS n sh b) (hC : CtS I L b N Q) (hO : Ok N) {x : Int32} {r : Nat} (hx : x = nI r) (hr : r < 6)  : CM yX7_ruleAt cX7_ruleAt 2 (Option.some .int) 1 0 0 [.ref b, .int x] z n sh I L (Pst (some (.int (N (224 + r)))) z n sh I L) := by
  refine CM.go [some (.ref b), some (.int x)] rfl rfl (Nat.le_of_ble_eq_true rfl) (fun X g q => ?_)
  have hN := hO.1
  have hR := hO.2.1
  have hB := hO.2.2.1
  have hE := hO.2.2.2
  have h8 := hN.p8
  have h10 := hN.h10
  refine aw_iload_n dX7_ruleAt_0 rfl ?_
  refine aw_if_lt (tgt := 10) dX7_ruleAt_1 rfl (fun c1 => ?_) (fun c1 => ?_)
  · rw [hx] at c1
    exact absurd c1 (nI_pos (by omega))
  · skip
    refine aw_iload_n dX7_ruleAt_4 rfl ?_
    refine aw_bipush (v := 6) dX7_ruleAt_5 rfl ?_
    refine aw_icmp_lt (tgt := 14) dX7_ruleAt_7 rfl (fun c7 => ?_) (fun c7 => ?_)
    · skip
      refine aw_aload_n dX7_ruleAt_14 rfl ?_
      refine aw_getR (b := b + 29) dX7_ruleAt_15 fX7_27 hS.k hS.b0 rfl hS.r2 ?_
      refine aw_iload_n dX7_ruleAt_18 rfl ?_
      refine aw_ialdN (k := r) dX7_ruleAt_19 hS.uk (hS.lt (k := 29) (by decide)) hS.ul hx (by omega) (by decide) ?_
      refine AW.top (hC.uf (by omega)) ?_
      refine aw_iret q rfl dX7_ruleAt_20 ⟨Nat.le_refl _, Nat.le_refl _⟩ ?_
      exact Pst.rf
    · rw [hx] at c7
      exact absurd (nI_lt (b := 6) hr (by decide)) c7
set_option maxHeartbeats 4000000 in
set_option maxRecDepth 100000 in
theorem sX7_countFree (hS : IsS n sh b) (hC : CtS I L b N Q) (hO : Ok N)  : CM yX7_countFree cX7_countFree 3 (Option.some .int) 2 0 0 [.ref b] z n sh I L (Pst (some (.int (mFrees N))) z n sh I L) := by
  refine CM.go [some (.ref b), none, none] rfl rfl (Nat.le_of_ble_eq_true rfl) (fun X g q => ?_)
  have hN := hO.1
  have hR := hO.2.1
  have hB := hO.2.2.1
  have hE := hO.2.2.2
  have h8 := hN.p8
  have h10 := hN.h10
  have loop : ∀ i, i ≤ nHo N → AW X g RX7 cX7_countFree 3 (2, 0, 0) (z, n, sh, 0, 0) (I) (L) 4 [some (.ref b), some (.int (nI (fa_cnt (mFree N) i))), some (.int (nI i))] [] := by
    refine up_loop (fun i hi ih => ?_)
    refine aw_iload_n dX7_countFree_4 rfl ?_
    refine aw_aload_n dX7_countFree_5 rfl ?_
    refine aw_getI dX7_countFree_6 fX7_59 hS.k hS.b0 rfl ?_
    refine AW.top (hC.nh.trans hN.h) ?_
    refine aw_icmp_ge (tgt := 33) dX7_countFree_9 rfl (fun c9 => ?_) (fun c9 => ?_)
    · have e := ge_t rfl (by omega) hi c9
      subst e
      refine aw_iload_n dX7_countFree_33 rfl ?_
      refine aw_iret q rfl dX7_countFree_34 ⟨Nat.le_refl _, Nat.le_refl _⟩ ?_
      exact Pst.iv (isum_cntI _ _).symm
    · have hlt := ge_f rfl (by omega) hi c9
      refine aw_aload_n dX7_countFree_12 rfl ?_
      refine aw_getR (b := b + 1) dX7_countFree_13 fX7_11 hS.k hS.b0 rfl hS.r0 ?_
      refine aw_iload_n dX7_countFree_16 rfl ?_
      refine aw_homes (h := i) hS rfl (by omega) dX7_countFree_17 ?_
      refine aw_cV dX7_countFree_18 kX7_95 mX2_isFree (sX2_isFree hS hC hN hlt) (Nat.le_of_ble_eq_true rfl) (hS.ho (by omega)) ⟨by decide, rfl⟩ (hS.hb (by omega)) rfl rfl (Nat.le_of_ble_eq_true rfl) ⟨Nat.le_refl _, Nat.le_refl _⟩ ?_
      refine aw_if_eq (tgt := 27) dX7_countFree_21 rfl (fun c21 => ?_) (fun c21 => ?_)
      · refine aw_iinc dX7_countFree_27 rfl (ginc rfl) (by decide) rfl ?_
        refine aw_goto (tgt := 4) dX7_countFree_30 rfl ?_
        have := ih hlt
        rw [fa_cnt_no (bI0.mp c21)] at this
        exact this
      · refine aw_iinc dX7_countFree_24 rfl (nI_1 _) (by decide) rfl ?_
        refine aw_iinc dX7_countFree_27 rfl (ginc rfl) (by decide) rfl ?_
        refine aw_goto (tgt := 4) dX7_countFree_30 rfl ?_
        have := ih hlt
        rw [fa_cnt_yes (bI1.mp c21)] at this
        exact this
  refine aw_iconst (v := 0) dX7_countFree_0 rfl ?_
  refine aw_istore_n dX7_countFree_1 (by decide) rfl ?_
  refine aw_iconst (v := 0) dX7_countFree_2 rfl ?_
  refine aw_istore_n dX7_countFree_3 (by decide) rfl ?_
  exact loop 0 (Nat.zero_le _)
set_option maxHeartbeats 4000000 in
set_option maxRecDepth 100000 in
theorem sX7_waiting (hS : IsS n sh b) (hC : CtS I L b N Q) (hO : Ok N)  : CM yX7_waiting cX7_waiting 3 (Option.some .int) 1 0 0 [.ref b] z n sh I L (Pst (some (.int (iset (mIn N) (nPo N)))) z n sh I L) := by
  refine CM.go [some (.ref b), none, none] rfl rfl (Nat.le_of_ble_eq_true rfl) (fun X g q => ?_)
  have hN := hO.1
  have hR := hO.2.1
  have hB := hO.2.2.1
  have hE := hO.2.2.2
  have h8 := hN.p8
  have h10 := hN.h10
  have loop : ∀ i, i ≤ nPo N → AW X g RX7 cX7_waiting 3 (1, 0, 0) (z, n, sh, 0, 0) (I) (L) 4 [some (.ref b), some (.int (iset (mIn N) i)), some (.int (nI i))] [] := by
    refine up_loop (fun i hi ih => ?_)
    refine aw_iload_n dX7_waiting_4 rfl ?_
    refine aw_aload_n dX7_waiting_5 rfl ?_
    refine aw_getI dX7_waiting_6 fX7_62 hS.k hS.b0 rfl ?_
    refine AW.top (hC.np.trans hN.p) ?_
    refine aw_icmp_ge (tgt := 42) dX7_waiting_9 rfl (fun c9 => ?_) (fun c9 => ?_)
    · have e := ge_t rfl (by omega) hi c9
      subst e
      refine aw_iload_n dX7_waiting_42 rfl ?_
      refine aw_iret q rfl dX7_waiting_43 ⟨Nat.le_refl _, Nat.le_refl _⟩ ?_
      exact Pst.rf
    · have hlt := ge_f rfl (by omega) hi c9
      refine aw_aload_n dX7_waiting_12 rfl ?_
      refine aw_getR (b := b + 12) dX7_waiting_13 fX7_22 hS.k hS.b0 rfl hS.r1 ?_
      refine aw_iload_n dX7_waiting_16 rfl ?_
      refine aw_houses (p := i) hS rfl (by omega) dX7_waiting_17 ?_
      refine aw_getI dX7_waiting_18 fX7_99 (hS.po (by omega)) (hS.pb (by omega)) rfl ?_
      refine AW.top (hC.pf h8 (p := i) (w := 8) (by omega) (by decide) (by decide) (by decide)) ?_
      refine aw_if_ne (tgt := 36) dX7_waiting_21 rfl (fun c21 => ?_) (fun c21 => ?_)
      · refine aw_iinc dX7_waiting_36 rfl (ginc rfl) (by decide) rfl ?_
        refine aw_goto (tgt := 4) dX7_waiting_39 rfl ?_
        have := ih hlt
        rw [iset_or (by omega), if_neg (by unfold mIn; simpa using c21)] at this
        exact this
      · refine aw_iload_n dX7_waiting_24 rfl ?_
        refine aw_aload_n dX7_waiting_25 rfl ?_
        refine aw_getR (b := b + 12) dX7_waiting_26 fX7_22 hS.k hS.b0 rfl hS.r1 ?_
        refine aw_iload_n dX7_waiting_29 rfl ?_
        refine aw_houses (p := i) hS rfl (by omega) dX7_waiting_30 ?_
        refine aw_getI dX7_waiting_31 fX7_103 (hS.po (by omega)) (hS.pb (by omega)) rfl ?_
        refine AW.top (hC.pi (by omega)) ?_
        refine aw_ior dX7_waiting_34 ?_
        refine aw_istore_n dX7_waiting_35 (by decide) rfl ?_
        refine aw_iinc dX7_waiting_36 rfl (ginc rfl) (by decide) rfl ?_
        refine aw_goto (tgt := 4) dX7_waiting_39 rfl ?_
        have := ih hlt
        rw [iset_or (by omega), if_pos (by unfold mIn; simpa using c21)] at this
        exact this
  refine aw_iconst (v := 0) dX7_waiting_0 rfl ?_
  refine aw_istore_n dX7_waiting_1 (by decide) rfl ?_
  refine aw_iconst (v := 0) dX7_waiting_2 rfl ?_
  refine aw_istore_n dX7_waiting_3 (by decide) rfl ?_
  exact loop 0 (Nat.zero_le _)
set_option maxHeartbeats 4000000 in
set_option maxRecDepth 100000 in
theorem sX7_countWaiting (hS : IsS n sh b) (hC : CtS I L b N Q) (hO : Ok N)  : CM yX7_countWaiting cX7_countWaiting 1 (Option.some .int) 2 0 0 [.ref b] z n sh I L (Pst (some (.int (mIns N))) z n sh I L) := by
  refine CM.go [some (.ref b)] rfl rfl (Nat.le_of_ble_eq_true rfl) (fun X g q => ?_)
  have hN := hO.1
  have hR := hO.2.1
  have hB := hO.2.2.1
  have hE := hO.2.2.2
  have h8 := hN.p8
  have h10 := hN.h10
  refine aw_aload_n dX7_countWaiting_0 rfl ?_
  refine aw_cV dX7_countWaiting_1 kX7_106 mX7_waiting (sX7_waiting hS hC hO) (Nat.le_of_ble_eq_true rfl) hS.k ⟨by decide, rfl⟩ hS.b0 rfl rfl (Nat.le_of_ble_eq_true rfl) ⟨Nat.le_refl _, Nat.le_refl _⟩ ?_
  refine aw_cS dX7_countWaiting_4 kX7_110 mJ6_bitCount_0f7a4 (sJ6_bitCount (iset_n _ _ (by omega)) (by have := nset_lt (mIn N) (nPo N); have : 2 ^ nPo N ≤ 2 ^ 8 := Nat.pow_le_pow_right (by decide) h8; omega)) (Nat.le_of_ble_eq_true rfl) rfl rfl (Nat.le_of_ble_eq_true rfl) ⟨Nat.le_refl _, Nat.le_refl _⟩ ?_
  refine aw_iret q rfl dX7_countWaiting_7 ⟨Nat.le_refl _, Nat.le_refl _⟩ ?_
  refine Pst.iv ?_
  show nI (pcn (nset (mIn N) (nPo N))) = mIns N
  unfold mIns
  rw [isum_cntI, pcn_nset (by omega)]
set_option maxHeartbeats 4000000 in
set_option maxRecDepth 100000 in
theorem sX7_countBids (hS : IsS n sh b) (hC : CtS I L b N Q) (hO : Ok N)  : CM yX7_countBids cX7_countBids 3 (Option.some .int) 3 0 0 [.ref b] z n sh I L (Pst (some (.int (isum (fun p => nI (pcn (nBi N p))) (nPo N)))) z n sh I L) := by
  refine CM.go [some (.ref b), none, none] rfl rfl (Nat.le_of_ble_eq_true rfl) (fun X g q => ?_)
  have hN := hO.1
  have hR := hO.2.1
  have hB := hO.2.2.1
  have hE := hO.2.2.2
  have h8 := hN.p8
  have h10 := hN.h10
  have loop : ∀ i, i ≤ nPo N → AW X g RX7 cX7_countBids 3 (3, 0, 0) (z, n, sh, 0, 0) (I) (L) 4 [some (.ref b), some (.int (isum (fun p => nI (pcn (nBi N p))) i)), some (.int (nI i))] [] := by
    refine up_loop (fun i hi ih => ?_)
    refine aw_iload_n dX7_countBids_4 rfl ?_
    refine aw_aload_n dX7_countBids_5 rfl ?_
    refine aw_getI dX7_countBids_6 fX7_62 hS.k hS.b0 rfl ?_
    refine AW.top (hC.np.trans hN.p) ?_
    refine aw_icmp_ge (tgt := 30) dX7_countBids_9 rfl (fun c9 => ?_) (fun c9 => ?_)
    · have e := ge_t rfl (by omega) hi c9
      subst e
      refine aw_iload_n dX7_countBids_30 rfl ?_
      refine aw_iret q rfl dX7_countBids_31 ⟨Nat.le_refl _, Nat.le_refl _⟩ ?_
      exact Pst.rf
    · have hlt := ge_f rfl (by omega) hi c9
      refine aw_iload_n dX7_countBids_12 rfl ?_
      refine aw_aload_n dX7_countBids_13 rfl ?_
      refine aw_getR (b := b + 12) dX7_countBids_14 fX7_22 hS.k hS.b0 rfl hS.r1 ?_
      refine aw_iload_n dX7_countBids_17 rfl ?_
      refine aw_houses (p := i) hS rfl (by omega) dX7_countBids_18 ?_
      refine aw_cV dX7_countBids_19 kX7_116 mX3_countBids (sX3_countBids hS hC hN hlt) (Nat.le_of_ble_eq_true rfl) (hS.po (by omega)) ⟨by decide, rfl⟩ (hS.pb (by omega)) rfl rfl (Nat.le_of_ble_eq_true rfl) ⟨Nat.le_refl _, Nat.le_refl _⟩ ?_
      refine aw_iadd dX7_countBids_22 ?_
      refine aw_istore_n dX7_countBids_23 (by decide) rfl ?_
      refine aw_iinc dX7_countBids_24 rfl (ginc rfl) (by decide) rfl ?_
      refine aw_goto (tgt := 4) dX7_countBids_27 rfl ?_
      exact ih hlt
  refine aw_iconst (v := 0) dX7_countBids_0 rfl ?_
  refine aw_istore_n dX7_countBids_1 (by decide) rfl ?_
  refine aw_iconst (v := 0) dX7_countBids_2 rfl ?_
  refine aw_istore_n dX7_countBids_3 (by decide) rfl ?_
  exact loop 0 (Nat.zero_le _)
set_option maxHeartbeats 4000000 in
set_option maxRecDepth 100000 in
theorem sX7_countPassed (hS : IsS n sh b) (hC : CtS I L b N Q) (hO : Ok N)  : CM yX7_countPassed cX7_countPassed 3 (Option.some .int) 1 0 0 [.ref b] z n sh I L (Pst (some (.int (mPassed N))) z n sh I L) := by
  refine CM.go [some (.ref b), none, none] rfl rfl (Nat.le_of_ble_eq_true rfl) (fun X g q => ?_)
  have hN := hO.1
  have hR := hO.2.1
  have hB := hO.2.2.1
  have hE := hO.2.2.2
  have h8 := hN.p8
  have h10 := hN.h10
  have loop : ∀ i, i ≤ nPo N → AW X g RX7 cX7_countPassed 3 (1, 0, 0) (z, n, sh, 0, 0) (I) (L) 4 [some (.ref b), some (.int (isum (fun p => N (80 + 18 * p + 9)) i)), some (.int (nI i))] [] := by
    refine up_loop (fun i hi ih => ?_)
    refine aw_iload_n dX7_countPassed_4 rfl ?_
    refine aw_aload_n dX7_countPassed_5 rfl ?_
    refine aw_getI dX7_countPassed_6 fX7_62 hS.k hS.b0 rfl ?_
    refine AW.top (hC.np.trans hN.p) ?_
    refine aw_icmp_ge (tgt := 30) dX7_countPassed_9 rfl (fun c9 => ?_) (fun c9 => ?_)
    · have e := ge_t rfl (by omega) hi c9
      subst e
      refine aw_iload_n dX7_countPassed_30 rfl ?_
      refine aw_iret q rfl dX7_countPassed_31 ⟨Nat.le_refl _, Nat.le_refl _⟩ ?_
      exact Pst.rf
    · have hlt := ge_f rfl (by omega) hi c9
      refine aw_iload_n dX7_countPassed_12 rfl ?_
      refine aw_aload_n dX7_countPassed_13 rfl ?_
      refine aw_getR (b := b + 12) dX7_countPassed_14 fX7_22 hS.k hS.b0 rfl hS.r1 ?_
      refine aw_iload_n dX7_countPassed_17 rfl ?_
      refine aw_houses (p := i) hS rfl (by omega) dX7_countPassed_18 ?_
      refine aw_getI dX7_countPassed_19 fX7_119 (hS.po (by omega)) (hS.pb (by omega)) rfl ?_
      refine AW.top (hC.pf h8 (p := i) (w := 9) (by omega) (by decide) (by decide) (by decide)) ?_
      refine aw_iadd dX7_countPassed_22 ?_
      refine aw_istore_n dX7_countPassed_23 (by decide) rfl ?_
      refine aw_iinc dX7_countPassed_24 rfl (ginc rfl) (by decide) rfl ?_
      refine aw_goto (tgt := 4) dX7_countPassed_27 rfl ?_
      exact ih hlt
  refine aw_iconst (v := 0) dX7_countPassed_0 rfl ?_
  refine aw_istore_n dX7_countPassed_1 (by decide) rfl ?_
  refine aw_iconst (v := 0) dX7_countPassed_2 rfl ?_
  refine aw_istore_n dX7_countPassed_3 (by decide) rfl ?_
  exact loop 0 (Nat.zero_le _)
set_option maxHeartbeats 4000000 in
set_option maxRecDepth 100000 in
theorem sX7_greatestChain (hS : IsS n sh b) (hC : CtS I L b N Q) (hO : Ok N)  : CM yX7_greatestChain cX7_greatestChain 3 (Option.some .int) 2 0 0 [.ref b] z n sh I L (Pst (some (.int (mChain N))) z n sh I L) := by
  refine CM.go [some (.ref b), none, none] rfl rfl (Nat.le_of_ble_eq_true rfl) (fun X g q => ?_)
  have hN := hO.1
  have hR := hO.2.1
  have hB := hO.2.2.1
  have hE := hO.2.2.2
  have h8 := hN.p8
  have h10 := hN.h10
  have hl8 := hN.l8
  have loop : ∀ i, i ≤ nLe N → AW X g RX7 cX7_greatestChain 3 (2, 0, 0) (z, n, sh, 0, 0) (I) (L) 4 [some (.ref b), some (.int (imaxf (fun k => N (234 + 8 * k + 3)) i)), some (.int (nI i))] [] := by
    refine up_loop (fun i hi ih => ?_)
    refine aw_iload_n dX7_greatestChain_4 rfl ?_
    refine aw_aload_n dX7_greatestChain_5 rfl ?_
    refine aw_getR (b := b + 30) dX7_greatestChain_6 fX7_36 hS.k hS.b0 rfl hS.r3 ?_
    refine aw_getI dX7_greatestChain_9 fX7_55 hS.tk (hS.lt (k := 30) (by decide)) rfl ?_
    refine AW.top (hC.nl.trans hN.l) ?_
    refine aw_icmp_ge (tgt := 35) dX7_greatestChain_12 rfl (fun c12 => ?_) (fun c12 => ?_)
    · have e := ge_t rfl (by omega) hi c12
      subst e
      refine aw_iload_n dX7_greatestChain_35 rfl ?_
      refine aw_iret q rfl dX7_greatestChain_36 ⟨Nat.le_refl _, Nat.le_refl _⟩ ?_
      exact Pst.rf
    · have hlt := ge_f rfl (by omega) hi c12
      refine aw_iload_n dX7_greatestChain_15 rfl ?_
      refine aw_aload_n dX7_greatestChain_16 rfl ?_
      refine aw_getR (b := b + 30) dX7_greatestChain_17 fX7_36 hS.k hS.b0 rfl hS.r3 ?_
      refine aw_iload_n dX7_greatestChain_20 rfl ?_
      refine aw_iconst (v := 3) dX7_greatestChain_21 rfl ?_
      refine aw_cV dX7_greatestChain_22 kX7_122 mX8_at (sX8_at (hC.tbL hS hN) (r := i) (k := 3) rfl hlt rfl (by decide)) (Nat.le_of_ble_eq_true rfl) hS.tk ⟨by decide, rfl⟩ (hS.lt (k := 30) (by decide)) rfl rfl (Nat.le_of_ble_eq_true rfl) ⟨Nat.le_refl _, Nat.le_refl _⟩ ?_
      refine AW.top ((hC.lt hlt).1 3 (by decide) (by decide)) ?_
      refine aw_mmax dX7_greatestChain_25 kX7_126 (Nat.le_of_ble_eq_true rfl) (Nat.le_of_ble_eq_true rfl) ⟨Nat.le_refl _, Nat.le_refl _⟩ ?_
      refine aw_istore_n dX7_greatestChain_28 (by decide) rfl ?_
      refine aw_iinc dX7_greatestChain_29 rfl (ginc rfl) (by decide) rfl ?_
      refine aw_goto (tgt := 4) dX7_greatestChain_32 rfl ?_
      exact ih hlt
  refine aw_iconst (v := 0) dX7_greatestChain_0 rfl ?_
  refine aw_istore_n dX7_greatestChain_1 (by decide) rfl ?_
  refine aw_iconst (v := 0) dX7_greatestChain_2 rfl ?_
  refine aw_istore_n dX7_greatestChain_3 (by decide) rfl ?_
  exact loop 0 (Nat.zero_le _)
end ClsS
