/-! the reference: most, gift -/
theorem imax_nn {a b : Nat} (ha : a < 2 ^ 31) (hb : b < 2 ^ 31) : imax (nI a) (nI b) = nI (max a b) := by
  unfold imax
  by_cases h : a < b
  · rw [if_pos (nI_lt h hb)]
    congr 1
    omega
  · rw [if_neg (nI_nlt (by omega) ha)]
    congr 1
    omega
def GvF (m : Nat) (I J : MI) : Prop := ∀ a, a ≠ m + 8 → J a = I a
def GvP (z n : Nat) (sh : Shp) (I : MI) (L : ML) (m : Nat) (N : Nat → Int32) : PoT := fun v z' n' sh' J M => v = some (.int (nI (mGv N 0 0))) ∧ z' = z ∧ n' = n ∧ sh' = sh ∧ L = M ∧ GvF m I J ∧ GvT N (J (m + 8)) 0
theorem GvF.rsc {m : Nat} {I J : MI} (h : GvF m I J) : RSc m I J := ⟨fun a a1 a2 a3 => h a (by omega), fun k _ _ _ => congrFun (h m (by omega)) k⟩
theorem GvF.put {m k : Nat} {I J : MI} {v : Int32} (h : GvF m I J) : GvF m I (upI J (m + 8) k v) := fun a ha => (if_neg ha).trans (h a ha)
theorem tb8 {J : MI} {m k j : Nat} {v : Int32} (h : j ≠ k) : upI J (m + 8) k v (m + 8) j = J (m + 8) j := by
  rw [upI_row rfl, pk_un h]
theorem tb8s {J : MI} {m k : Nat} {v : Int32} : upI J (m + 8) k v (m + 8) k = v := by
  rw [upI_row rfl, pk_us]
section RefS
variable {z n m : Nat} {sh : Shp} {I : MI} {L : ML}
set_option maxHeartbeats 4000000 in
set_option maxRecDepth 100000 in
theorem sX11_gave (hM : IsM n sh m) {x y : Int32} {p k : Nat} (hx : x = nI p) (hy : y = nI k) (hb : 1024 * p + k < 9216) : CM yX11_gave cX11_gave 3 (Option.some .int) 1 0 0 [.ref m, .int x, .int y] z n sh I L (Pst (some (.int (I (m + 8) (1024 * p + k)))) z n sh I L) := by
  refine CM.go [some (.ref m), some (.int x), some (.int y)] rfl rfl (Nat.le_of_ble_eq_true rfl) (fun X g q => ?_)
  refine aw_aload_n dX11_gave_0 rfl ?_
  refine aw_getR (b := m + 8) dX11_gave_1 fX11_39 hM.k hM.b rfl hM.r7 ?_
  refine aw_sipush (v := 1024) dX11_gave_4 rfl ?_
  refine aw_iload_n dX11_gave_7 rfl ?_
  refine aw_imul dX11_gave_8 ?_
  refine aw_iload_n dX11_gave_9 rfl ?_
  refine aw_iadd dX11_gave_10 ?_
  refine aw_ialdN (k := ((1024 * p) + k)) dX11_gave_11 hM.k7 hM.b7 hM.l7 (gadd (gmul rfl hx) hy) (by omega) (by decide) ?_
  refine aw_iret q rfl dX11_gave_12 ⟨Nat.le_refl _, Nat.le_refl _⟩ ?_
  exact Pst.rf
set_option maxHeartbeats 4000000 in
set_option maxRecDepth 100000 in
theorem rX11_laysGifts (hM : IsM n sh m) {N : Nat → Int32} (hI : I (m + 1) = N) (hN : Cn N) : CM yX11_laysGifts cX11_laysGifts 5 (Option.some .int) 7 0 0 [.ref m] z n sh I L (GvP z n sh I L m N) := by
  refine CM.go [some (.ref m), none, none, none, none] rfl rfl (Nat.le_of_ble_eq_true rfl) (fun X g q => ?_)
  have h8 := hN.p8
  have h10 := hN.h10
  have l4 : ∀ (p k : Nat) (J : MI), p < nPo N → k < 1024 → GvF m I J → GvT N (J (m + 8)) (p + 1) → (∀ a3 a4, AW X g RX11 cX11_laysGifts 5 (7, 0, 0) (z, n, sh, 0, 0) (upI J (m + 8) (1024 * p + k) (nI (mGv N p k))) (L) 52 [some (.ref m), some (.int (nI p)), some (.int (nI (k + 1))), a3, a4] []) → ∀ h, h ≤ nHo N → AW X g RX11 cX11_laysGifts 5 (7, 0, 0) (z, n, sh, 0, 0) (J) (L) 71 [some (.ref m), some (.int (nI p)), some (.int (nI k)), some (.int (nI (gvB (mCan N p) (mGv N (p + 1)) k h))), some (.int (nI h))] [] := by
    intro p k J hp hk hF hT nxt
    have hI3 : J (m + 1) = N := (hF _ (by omega)).trans hI
    refine up_loop (fun h hh ih => ?_)
    refine aw_iload dX11_laysGifts_71 rfl ?_
    refine aw_aload_n dX11_laysGifts_73 rfl ?_
    refine aw_getR (b := m + 1) dX11_laysGifts_74 fX11_7 hM.k hM.b rfl hM.r0 ?_
    refine aw_sipush (v := 230) dX11_laysGifts_77 rfl ?_
    refine aw_ialdN (k := 230) dX11_laysGifts_80 hM.k0 hM.b0 hM.l0 rfl (by decide) (by decide) ?_
    refine aw_icmp_ge (tgt := 129) dX11_laysGifts_81 rfl (fun c81 => ?_) (fun c81 => ?_)
    · rw [hI3] at c81
      have e := ge_t hN.h (by omega) hh c81
      subst e
      refine aw_aload_n dX11_laysGifts_129 rfl ?_
      refine aw_getR (b := m + 8) dX11_laysGifts_130 fX11_39 hM.k hM.b rfl hM.r7 ?_
      refine aw_sipush (v := 1024) dX11_laysGifts_133 rfl ?_
      refine aw_iload_n dX11_laysGifts_136 rfl ?_
      refine aw_imul dX11_laysGifts_137 ?_
      refine aw_iload_n dX11_laysGifts_138 rfl ?_
      refine AW.top rfl ?_
      refine aw_iadd dX11_laysGifts_139 ?_
      refine aw_iload_n dX11_laysGifts_140 rfl ?_
      refine aw_iastN (k := ((1024 * p) + k)) dX11_laysGifts_141 hM.k7 hM.b7 hM.l7 (gadd (gmul rfl rfl) rfl) (by omega) (by decide) ?_
      refine aw_iinc dX11_laysGifts_142 rfl (ginc rfl) (by decide) rfl ?_
      refine aw_goto (tgt := 52) dX11_laysGifts_145 rfl ?_
      have e := mGv_step (g := k) hp
      rw [← e]
      exact nxt _ _
    · rw [hI3] at c81
      have hlt := ge_f hN.h (by omega) hh c81
      have hb := (bit_all k hk h (by omega)).2.1
      refine aw_iload_n dX11_laysGifts_84 rfl ?_
      refine aw_iload dX11_laysGifts_85 rfl ?_
      refine aw_ishr dX11_laysGifts_87 ?_
      refine aw_iconst (v := 1) dX11_laysGifts_88 rfl ?_
      refine aw_iand dX11_laysGifts_89 ?_
      refine aw_if_ne (tgt := 123) dX11_laysGifts_90 rfl (fun c90 => ?_) (fun c90 => ?_)
      · have t9 : k.testBit h = true := by
          cases t : k.testBit h with
          | true => rfl
          | false => exact absurd (hb.mpr t) c90
        refine aw_iinc dX11_laysGifts_123 rfl (ginc rfl) (by decide) rfl ?_
        refine aw_goto (tgt := 71) dX11_laysGifts_126 rfl ?_
        have := ih hlt
        rw [show gvB (mCan N p) (mGv N (p + 1)) k (h + 1) = gvB (mCan N p) (mGv N (p + 1)) k h from if_neg (by rw [t9]; exact Bool.false_ne_true)] at this
        exact this
      · have t9 := hb.mp c90
        obtain ⟨o1, o2⟩ := gv_or k hk h (by omega) t9
        refine aw_aload_n dX11_laysGifts_93 rfl ?_
        refine aw_iload_n dX11_laysGifts_94 rfl ?_
        refine aw_iload dX11_laysGifts_95 rfl ?_
        refine aw_cV dX11_laysGifts_97 kX11_343 mX11_canGive (rX11_canGive (p := p) (h := h) hM hI3 hN rfl rfl (by omega) (by omega)) (Nat.le_of_ble_eq_true rfl) hM.k ⟨by decide, rfl⟩ hM.b rfl rfl (Nat.le_of_ble_eq_true rfl) ⟨Nat.le_refl _, Nat.le_refl _⟩ ?_
        refine aw_if_eq (tgt := 123) dX11_laysGifts_100 rfl (fun c100 => ?_) (fun c100 => ?_)
        · have f9 := bI0.mp c100
          refine aw_iinc dX11_laysGifts_123 rfl (ginc rfl) (by decide) rfl ?_
          refine aw_goto (tgt := 71) dX11_laysGifts_126 rfl ?_
          have := ih hlt
          rw [show gvB (mCan N p) (mGv N (p + 1)) k (h + 1) = gvB (mCan N p) (mGv N (p + 1)) k h from if_neg (by rw [f9]; simp)] at this
          exact this
        · have f9 := bI1.mp c100
          refine aw_iload_n dX11_laysGifts_103 rfl ?_
          refine aw_iconst (v := 1) dX11_laysGifts_104 rfl ?_
          refine aw_aload_n dX11_laysGifts_105 rfl ?_
          refine aw_iload_n dX11_laysGifts_106 rfl ?_
          refine aw_iconst (v := 1) dX11_laysGifts_107 rfl ?_
          refine aw_iadd dX11_laysGifts_108 ?_
          refine AW.top (gadd rfl rfl) ?_
          refine aw_iload_n dX11_laysGifts_109 rfl ?_
          refine aw_iconst (v := 1) dX11_laysGifts_110 rfl ?_
          refine aw_iload dX11_laysGifts_111 rfl ?_
          refine aw_ishl dX11_laysGifts_113 ?_
          refine aw_ior dX11_laysGifts_114 ?_
          refine AW.top o1 ?_
          refine aw_cV dX11_laysGifts_115 kX11_340 mX11_gave (sX11_gave (p := p + 1) (k := k + 2 ^ h) hM rfl rfl (by omega)) (Nat.le_of_ble_eq_true rfl) hM.k ⟨by decide, rfl⟩ hM.b rfl rfl (Nat.le_of_ble_eq_true rfl) ⟨Nat.le_refl _, Nat.le_refl _⟩ ?_
          rw [hT (p + 1) (k + 2 ^ h) (Nat.le_refl _) hp o2]
          refine aw_iadd dX11_laysGifts_118 ?_
          refine AW.top (nI_add 1 _) ?_
          refine aw_mmax dX11_laysGifts_119 kX11_211 (Nat.le_of_ble_eq_true rfl) (Nat.le_of_ble_eq_true rfl) ⟨Nat.le_refl _, Nat.le_refl _⟩ ?_
          refine aw_istore_n dX11_laysGifts_122 (by decide) rfl ?_
          refine aw_iinc dX11_laysGifts_123 rfl (ginc rfl) (by decide) rfl ?_
          refine aw_goto (tgt := 71) dX11_laysGifts_126 rfl ?_
          have := ih hlt
          rw [show gvB (mCan N p) (mGv N (p + 1)) k (h + 1) = max (gvB (mCan N p) (mGv N (p + 1)) k h) (1 + mGv N (p + 1) (k + 2 ^ h)) from if_pos (by rw [t9, f9]; rfl)] at this
          rw [imax_nn (by have := mGv_le (N := N) (p := p + 1) (g := k + 2 ^ h); have := gvB_le (C := mCan N p) (f := mGv N (p + 1)) (g := k) (B := 8) (fun q => by have := mGv_le (N := N) (p := p + 1) (g := q); omega) h; omega) (by have := mGv_le (N := N) (p := p + 1) (g := k + 2 ^ h); have := gvB_le (C := mCan N p) (f := mGv N (p + 1)) (g := k) (B := 8) (fun q => by have := mGv_le (N := N) (p := p + 1) (g := q); omega) h; omega)]
          exact this
  have l3 : ∀ (p : Nat), p < nPo N → (∀ (J : MI) a2 a3 a4, GvF m I J → GvT N (J (m + 8)) p → AW X g RX11 cX11_laysGifts 5 (7, 0, 0) (z, n, sh, 0, 0) (J) (L) 46 [some (.ref m), some (.int (nI p + (-1))), a2, a3, a4] []) → ∀ k, k ≤ 1024 → ∀ (J : MI) a3 a4, GvF m I J → GvT N (J (m + 8)) (p + 1) → (∀ j, j < k → J (m + 8) (1024 * p + j) = nI (mGv N p j)) → AW X g RX11 cX11_laysGifts 5 (7, 0, 0) (z, n, sh, 0, 0) (J) (L) 52 [some (.ref m), some (.int (nI p)), some (.int (nI k)), a3, a4] [] := by
    intro p hp nxt
    refine up_loop (fun k hk ih J a3 a4 hF hT hrow => ?_)
    refine aw_iload_n dX11_laysGifts_52 rfl ?_
    refine aw_sipush (v := 1024) dX11_laysGifts_53 rfl ?_
    refine aw_icmp_ge (tgt := 148) dX11_laysGifts_56 rfl (fun c56 => ?_) (fun c56 => ?_)
    · have e := ge_t (B := 1024) rfl (by decide) hk c56
      subst e
      refine aw_iinc dX11_laysGifts_148 rfl rfl (by decide) rfl ?_
      refine aw_goto (tgt := 46) dX11_laysGifts_151 rfl ?_
      refine nxt J _ _ _ hF (fun q j q1 q2 q3 => ?_)
      by_cases e : q = p
      · subst e
        exact hrow j q3
      · exact hT q j (by omega) q2 q3
    · have hlt := ge_f (B := 1024) rfl (by decide) hk c56
      refine aw_aload_n dX11_laysGifts_59 rfl ?_
      refine aw_iload_n dX11_laysGifts_60 rfl ?_
      refine aw_iconst (v := 1) dX11_laysGifts_61 rfl ?_
      refine aw_iadd dX11_laysGifts_62 ?_
      refine AW.top (gadd rfl rfl) ?_
      refine aw_iload_n dX11_laysGifts_63 rfl ?_
      refine aw_cV dX11_laysGifts_64 kX11_340 mX11_gave (sX11_gave (p := p + 1) (k := k) hM rfl rfl (by omega)) (Nat.le_of_ble_eq_true rfl) hM.k ⟨by decide, rfl⟩ hM.b rfl rfl (Nat.le_of_ble_eq_true rfl) ⟨Nat.le_refl _, Nat.le_refl _⟩ ?_
      rw [hT (p + 1) k (Nat.le_refl _) hp hlt]
      refine aw_istore_n dX11_laysGifts_67 (by decide) rfl ?_
      refine aw_iconst (v := 0) dX11_laysGifts_68 rfl ?_
      refine aw_istore dX11_laysGifts_69 (by decide) rfl ?_
      refine l4 p k J hp hlt hF hT (fun a3 a4 => ih hlt _ a3 a4 hF.put (fun q j q1 q2 q3 => ?_) (fun j hj => ?_)) 0 (Nat.zero_le _)
      · rw [tb8 (by omega)]
        exact hT q j q1 q2 q3
      · by_cases e : j = k
        · subst e
          exact tb8s
        · rw [tb8 (by omega)]
          exact hrow j (by omega)
  have l2 : ∀ p, p ≤ nPo N → ∀ (J : MI) a2 a3 a4, GvF m I J → GvT N (J (m + 8)) p → AW X g RX11 cX11_laysGifts 5 (7, 0, 0) (z, n, sh, 0, 0) (J) (L) 46 [some (.ref m), some (.int (nI p + (-1))), a2, a3, a4] [] := by
    intro p
    induction p with
    | zero =>
      intro hp J a2 a3 a4 hF hT
      refine aw_iload_n dX11_laysGifts_46 rfl ?_
      refine aw_if_lt (tgt := 154) dX11_laysGifts_47 rfl (fun c47 => ?_) (fun c47 => ?_)
      · skip
        refine aw_aload_n dX11_laysGifts_154 rfl ?_
        refine aw_iconst (v := 0) dX11_laysGifts_155 rfl ?_
        refine aw_iconst (v := 0) dX11_laysGifts_156 rfl ?_
        refine aw_cV dX11_laysGifts_157 kX11_340 mX11_gave (sX11_gave (p := 0) (k := 0) hM rfl rfl (by decide)) (Nat.le_of_ble_eq_true rfl) hM.k ⟨by decide, rfl⟩ hM.b rfl rfl (Nat.le_of_ble_eq_true rfl) ⟨Nat.le_refl _, Nat.le_refl _⟩ ?_
        rw [hT 0 0 (Nat.le_refl _) (Nat.zero_le _) (by decide)]
        refine aw_iret q rfl dX11_laysGifts_160 ⟨Nat.le_refl _, Nat.le_refl _⟩ ?_
        exact ⟨rfl, rfl, rfl, rfl, rfl, hF, hT⟩
      · exact absurd (show nI 0 + (-1) < (0 : Int32) by decide) c47
    | succ p ih =>
      intro hp J a2 a3 a4 hF hT
      have e1 : nI (p + 1) + (-1) = nI p := pk_m1 p
      rw [e1]
      refine aw_iload_n dX11_laysGifts_46 rfl ?_
      refine aw_if_lt (tgt := 154) dX11_laysGifts_47 rfl (fun c47 => ?_) (fun c47 => ?_)
      · exact absurd c47 (nI_pos (by omega))
      · skip
        refine aw_iconst (v := 0) dX11_laysGifts_50 rfl ?_
        refine aw_istore_n dX11_laysGifts_51 (by decide) rfl ?_
        exact l3 p (by omega) (fun J a2 a3 a4 hF hT => ih (by omega) J a2 a3 a4 hF hT) 0 (Nat.zero_le _) J _ _ hF hT (fun j hj => absurd hj (Nat.not_lt_zero j))
  have l1 : ∀ k, k ≤ 1024 → ∀ (J : MI), GvF m I J → (∀ j, j < k → J (m + 8) (1024 * nPo N + j) = 0) → AW X g RX11 cX11_laysGifts 5 (7, 0, 0) (z, n, sh, 0, 0) (J) (L) 2 [some (.ref m), some (.int (nI k)), none, none, none] [] := by
    refine up_loop (fun k hk ih J hF hrow => ?_)
    have hI3 : J (m + 1) = N := (hF _ (by omega)).trans hI
    refine aw_iload_n dX11_laysGifts_2 rfl ?_
    refine aw_sipush (v := 1024) dX11_laysGifts_3 rfl ?_
    refine aw_icmp_ge (tgt := 35) dX11_laysGifts_6 rfl (fun c6 => ?_) (fun c6 => ?_)
    · have e := ge_t (B := 1024) rfl (by decide) hk c6
      subst e
      refine aw_aload_n dX11_laysGifts_35 rfl ?_
      refine aw_getR (b := m + 1) dX11_laysGifts_36 fX11_7 hM.k hM.b rfl hM.r0 ?_
      refine aw_sipush (v := 231) dX11_laysGifts_39 rfl ?_
      refine aw_ialdN (k := 231) dX11_laysGifts_42 hM.k0 hM.b0 hM.l0 rfl (by decide) (by decide) ?_
      refine AW.top (y := nI (nPo N)) (by rw [hI3]; exact hN.p) ?_
      refine aw_iconst (v := 1) dX11_laysGifts_43 rfl ?_
      refine aw_isub dX11_laysGifts_44 ?_
      refine aw_istore_n dX11_laysGifts_45 (by decide) rfl ?_
      have := l2 (nPo N) (Nat.le_refl _) J none none none hF (fun q j q1 q2 q3 => by
        have e : q = nPo N := by omega
        subst e
        rw [hrow j q3, mGv_end]
        rfl)
      rw [show nI (nPo N) + (-1) = nI (nPo N) - 1 by rw [Int32.sub_eq_add_neg]] at this
      exact this
    · have hlt := ge_f (B := 1024) rfl (by decide) hk c6
      refine aw_aload_n dX11_laysGifts_9 rfl ?_
      refine aw_getR (b := m + 8) dX11_laysGifts_10 fX11_39 hM.k hM.b rfl hM.r7 ?_
      refine aw_sipush (v := 1024) dX11_laysGifts_13 rfl ?_
      refine aw_aload_n dX11_laysGifts_16 rfl ?_
      refine aw_getR (b := m + 1) dX11_laysGifts_17 fX11_7 hM.k hM.b rfl hM.r0 ?_
      refine aw_sipush (v := 231) dX11_laysGifts_20 rfl ?_
      refine aw_ialdN (k := 231) dX11_laysGifts_23 hM.k0 hM.b0 hM.l0 rfl (by decide) (by decide) ?_
      refine AW.top (y := nI (nPo N)) (by rw [hI3]; exact hN.p) ?_
      refine aw_imul dX11_laysGifts_24 ?_
      refine aw_iload_n dX11_laysGifts_25 rfl ?_
      refine aw_iadd dX11_laysGifts_26 ?_
      refine AW.top (gadd (gmul rfl rfl) rfl) ?_
      refine aw_iconst (v := 0) dX11_laysGifts_27 rfl ?_
      refine aw_iastN (k := ((1024 * (nPo N)) + k)) dX11_laysGifts_28 hM.k7 hM.b7 hM.l7 rfl (by omega) (by decide) ?_
      refine aw_iinc dX11_laysGifts_29 rfl (ginc rfl) (by decide) rfl ?_
      refine aw_goto (tgt := 2) dX11_laysGifts_32 rfl ?_
      refine ih hlt _ hF.put (fun j hj => ?_)
      by_cases e : j = k
      · subst e
        exact tb8s
      · rw [tb8 (by omega)]
        exact hrow j (by omega)
  refine aw_iconst (v := 0) dX11_laysGifts_0 rfl ?_
  refine aw_istore_n dX11_laysGifts_1 (by decide) rfl ?_
  exact l1 0 (Nat.zero_le _) I (fun _ _ => rfl) (fun j hj => absurd hj (Nat.not_lt_zero j))
set_option maxHeartbeats 4000000 in
set_option maxRecDepth 100000 in
theorem rX11_most (hM : IsM n sh m) {N : Nat → Int32} (hI : I (m + 1) = N) (hN : Cn N)  : CM yX11_most cX11_most 1 (Option.some .int) 8 0 0 [.ref m] z n sh I L (TlS (aMost N) z n sh I L m) := by
  refine CM.go [some (.ref m)] rfl rfl (Nat.le_of_ble_eq_true rfl) (fun X g q => ?_)
  refine aw_aload_n dX11_most_0 rfl ?_
  refine aw_aload_n dX11_most_1 rfl ?_
  refine aw_callV dX11_most_2 kX11_346 mX11_laysGifts (rX11_laysGifts hM hI hN) (Nat.le_of_ble_eq_true rfl) hM.k ⟨by decide, rfl⟩ hM.b rfl rfl (Nat.le_of_ble_eq_true rfl) ⟨Nat.le_refl _, Nat.le_refl _⟩ (fun v1 z1 n1 sh1 J1 M1 hp1 => ?_)
  obtain ⟨rfl, rfl, rfl, rfl, rfl, hF1, hT1⟩ := hp1
  refine aw_cV dX11_most_5 kX11_199 mX11_gives (sX11_gives hM) (Nat.le_of_ble_eq_true rfl) hM.k ⟨by decide, rfl⟩ hM.b rfl rfl (Nat.le_of_ble_eq_true rfl) ⟨Nat.le_refl _, Nat.le_refl _⟩ ?_
  refine aw_iret q rfl dX11_most_8 ⟨Nat.le_refl _, Nat.le_refl _⟩ ?_
  exact TlS.ok rfl hF1.rsc
theorem from_n {x : Int32} {r B : Nat} (hx : x = nI B) (hr : r < B) (hB : B < 2 ^ 31) : mFrom (nI r) 0 (x - 1) = true := by
  have e : x - 1 = nI (B - 1) := by
    rw [hx]
    exact pk_sub (a := B) (b := 1) (by omega)
  unfold mFrom
  rw [e]
  simp only [Bool.and_eq_true, decide_eq_true_eq]
  exact ⟨nI_pos' (by omega), nI_le (by omega) (by omega)⟩
set_option maxHeartbeats 4000000 in
set_option maxRecDepth 100000 in
theorem rX11_gift (hM : IsM n sh m) {N : Nat → Int32} (hI : I (m + 1) = N) (hN : Cn N) {x : Int32} : CM yX11_gift cX11_gift 6 (Option.some .int) 8 0 0 [.ref m, .int x] z n sh I L (TlS (aGift N x) z n sh I L m) := by
  refine CM.go [some (.ref m), some (.int x), none, none, none, none] rfl rfl (Nat.le_of_ble_eq_true rfl) (fun X g q => ?_)
  have h8 := hN.p8
  have h10 := hN.h10
  have af : ∀ (p : Nat) (J : MI) (r : Option Nat), p < nPo N → gfO N p (gfG N p) = r → (∀ a5, AW X g RX11 cX11_gift 6 (8, 0, 0) (z, n, sh, 0, 0) (J) (L) 26 [some (.ref m), some (.int x), some (.int (nI (gfG N (p + 1)))), some (.int (oN (gfO N p (gfG N p)))), some (.int (nI (p + 1))), a5] []) → ∀ a5, AW X g RX11 cX11_gift 6 (8, 0, 0) (z, n, sh, 0, 0) (J) (L) 110 [some (.ref m), some (.int x), some (.int (nI (gfG N p))), some (.int (oN r)), some (.int (nI p)), a5] [] := by
    intro p J r hp hr nxt a5
    have hg := gfG_lt h10 p
    cases r with
    | none =>
      have e9 := gfG_none hr
      rw [hr, e9] at nxt
      refine aw_iload_n dX11_gift_110 rfl ?_
      refine aw_iload_n dX11_gift_111 rfl ?_
      refine aw_iconst (v := (-1)) dX11_gift_112 rfl ?_
      refine aw_icmp_ne (tgt := 120) dX11_gift_113 rfl (fun c113 => ?_) (fun c113 => ?_)
      · exact absurd rfl c113
      · skip
        refine aw_iconst (v := 0) dX11_gift_116 rfl ?_
        refine aw_goto (tgt := 123) dX11_gift_117 rfl ?_
        refine aw_ior dX11_gift_123 ?_
        refine aw_istore_n dX11_gift_124 (by decide) rfl ?_
        refine aw_iinc dX11_gift_125 rfl (ginc rfl) (by decide) rfl ?_
        refine aw_goto (tgt := 26) dX11_gift_128 rfl ?_
        rw [Int32.or_zero]
        exact nxt _
    | some h =>
      have hs := gfI_some hr
      have e9 := gfG_some hr
      rw [hr, e9] at nxt
      have eo := (gv_or _ hg h (by omega) hs.2.1).1
      refine aw_iload_n dX11_gift_110 rfl ?_
      refine aw_iload_n dX11_gift_111 rfl ?_
      refine aw_iconst (v := (-1)) dX11_gift_112 rfl ?_
      refine aw_icmp_ne (tgt := 120) dX11_gift_113 rfl (fun c113 => ?_) (fun c113 => ?_)
      · skip
        refine aw_iconst (v := 1) dX11_gift_120 rfl ?_
        refine aw_iload_n dX11_gift_121 rfl ?_
        refine aw_ishl dX11_gift_122 ?_
        refine aw_ior dX11_gift_123 ?_
        refine aw_istore_n dX11_gift_124 (by decide) rfl ?_
        refine aw_iinc dX11_gift_125 rfl (ginc rfl) (by decide) rfl ?_
        refine aw_goto (tgt := 26) dX11_gift_128 rfl ?_
        have := nxt a5
        rw [← eo] at this
        exact this
      · exact absurd c113 (nI_ne_m1 (by omega))
  have inn : ∀ (p : Nat) (J : MI), p < nPo N → GvF m I J → GvT N (J (m + 8)) 0 → (∀ a5, AW X g RX11 cX11_gift 6 (8, 0, 0) (z, n, sh, 0, 0) (J) (L) 26 [some (.ref m), some (.int x), some (.int (nI (gfG N (p + 1)))), some (.int (oN (gfO N p (gfG N p)))), some (.int (nI (p + 1))), a5] []) → ∀ h, h ≤ nHo N → AW X g RX11 cX11_gift 6 (8, 0, 0) (z, n, sh, 0, 0) (J) (L) 37 [some (.ref m), some (.int x), some (.int (nI (gfG N p))), some (.int (oN (gfI N p (gfG N p) h))), some (.int (nI p)), some (.int (nI h))] [] := by
    intro p J hp hF hT nxt
    have hI3 : J (m + 1) = N := (hF _ (by omega)).trans hI
    have hg := gfG_lt h10 p
    refine up_loop (fun h hh ih => ?_)
    refine aw_iload dX11_gift_37 rfl ?_
    refine aw_aload_n dX11_gift_39 rfl ?_
    refine aw_getR (b := m + 1) dX11_gift_40 fX11_7 hM.k hM.b rfl hM.r0 ?_
    refine aw_sipush (v := 230) dX11_gift_43 rfl ?_
    refine aw_ialdN (k := 230) dX11_gift_46 hM.k0 hM.b0 hM.l0 rfl (by decide) (by decide) ?_
    refine aw_icmp_ge (tgt := 110) dX11_gift_47 rfl (fun c47 => ?_) (fun c47 => ?_)
    · rw [hI3] at c47
      have e := ge_t hN.h (by omega) hh c47
      subst e
      exact af p J _ hp rfl nxt _
    · rw [hI3] at c47
      have hlt := ge_f hN.h (by omega) hh c47
      have hb := (bit_all (gfG N p) hg h (by omega)).2.1
      refine aw_iload_n dX11_gift_50 rfl ?_
      refine aw_iconst (v := (-1)) dX11_gift_51 rfl ?_
      refine aw_icmp_ne (tgt := 110) dX11_gift_52 rfl (fun c52 => ?_) (fun c52 => ?_)
      · obtain ⟨b, en⟩ : ∃ b, gfI N p (gfG N p) h = some b := by
          cases en : gfI N p (gfG N p) h with
          | none =>
            rw [en] at c52
            exact absurd rfl c52
          | some b => exact ⟨b, rfl⟩
        rw [en]
        exact af p J (some b) hp (by have := gfI_keep en (nHo N - h); rw [show h + (nHo N - h) = nHo N by omega] at this; exact this) nxt _
      · have en : gfI N p (gfG N p) h = none := by
          cases en : gfI N p (gfG N p) h with
          | none => rfl
          | some b =>
            rw [en] at c52
            exact absurd c52 (nI_ne_m1 (by have := (gfI_some en).1; omega))
        refine aw_iload_n dX11_gift_55 rfl ?_
        refine aw_iload dX11_gift_56 rfl ?_
        refine aw_ishr dX11_gift_58 ?_
        refine aw_iconst (v := 1) dX11_gift_59 rfl ?_
        refine aw_iand dX11_gift_60 ?_
        refine aw_if_ne (tgt := 104) dX11_gift_61 rfl (fun c61 => ?_) (fun c61 => ?_)
        · have t9 : (gfG N p).testBit h = true := by
            cases t : (gfG N p).testBit h with
            | true => rfl
            | false => exact absurd (hb.mpr t) c61
          refine aw_iinc dX11_gift_104 rfl (ginc rfl) (by decide) rfl ?_
          refine aw_goto (tgt := 37) dX11_gift_107 rfl ?_
          have := ih hlt
          rw [gfI_not en (by rw [t9]; rfl), ← en] at this
          exact this
        · have t9 := hb.mp c61
          obtain ⟨o1, o2⟩ := gv_or _ hg h (by omega) t9
          refine aw_aload_n dX11_gift_64 rfl ?_
          refine aw_iload dX11_gift_65 rfl ?_
          refine aw_iload dX11_gift_67 rfl ?_
          refine aw_cV dX11_gift_69 kX11_343 mX11_canGive (rX11_canGive (p := p) (h := h) hM hI3 hN rfl rfl (by omega) (by omega)) (Nat.le_of_ble_eq_true rfl) hM.k ⟨by decide, rfl⟩ hM.b rfl rfl (Nat.le_of_ble_eq_true rfl) ⟨Nat.le_refl _, Nat.le_refl _⟩ ?_
          refine aw_if_eq (tgt := 104) dX11_gift_72 rfl (fun c72 => ?_) (fun c72 => ?_)
          · have f9 := bI0.mp c72
            refine aw_iinc dX11_gift_104 rfl (ginc rfl) (by decide) rfl ?_
            refine aw_goto (tgt := 37) dX11_gift_107 rfl ?_
            have := ih hlt
            rw [gfI_not en (by rw [f9]; simp), ← en] at this
            exact this
          · have f9 := bI1.mp c72
            refine aw_iconst (v := 1) dX11_gift_75 rfl ?_
            refine aw_aload_n dX11_gift_76 rfl ?_
            refine aw_iload dX11_gift_77 rfl ?_
            refine aw_iconst (v := 1) dX11_gift_79 rfl ?_
            refine aw_iadd dX11_gift_80 ?_
            refine AW.top (gadd rfl rfl) ?_
            refine aw_iload_n dX11_gift_81 rfl ?_
            refine aw_iconst (v := 1) dX11_gift_82 rfl ?_
            refine aw_iload dX11_gift_83 rfl ?_
            refine aw_ishl dX11_gift_85 ?_
            refine aw_ior dX11_gift_86 ?_
            refine AW.top o1 ?_
            refine aw_cV dX11_gift_87 kX11_340 mX11_gave (sX11_gave (p := p + 1) (k := gfG N p + 2 ^ h) hM rfl rfl (by omega)) (Nat.le_of_ble_eq_true rfl) hM.k ⟨by decide, rfl⟩ hM.b rfl rfl (Nat.le_of_ble_eq_true rfl) ⟨Nat.le_refl _, Nat.le_refl _⟩ ?_
            rw [hT (p + 1) (gfG N p + 2 ^ h) (Nat.zero_le _) hp o2]
            refine aw_iadd dX11_gift_90 ?_
            refine AW.top (nI_add 1 _) ?_
            refine aw_aload_n dX11_gift_91 rfl ?_
            refine aw_iload dX11_gift_92 rfl ?_
            refine aw_iload_n dX11_gift_94 rfl ?_
            refine aw_cV dX11_gift_95 kX11_340 mX11_gave (sX11_gave (p := p) (k := gfG N p) hM rfl rfl (by omega)) (Nat.le_of_ble_eq_true rfl) hM.k ⟨by decide, rfl⟩ hM.b rfl rfl (Nat.le_of_ble_eq_true rfl) ⟨Nat.le_refl _, Nat.le_refl _⟩ ?_
            rw [hT p (gfG N p) (Nat.zero_le _) (by omega) hg]
            refine aw_icmp_ne (tgt := 104) dX11_gift_98 rfl (fun c98 => ?_) (fun c98 => ?_)
            · have d9 := mt (nI_eq (a := 1 + mGv N (p + 1) (gfG N p + 2 ^ h)) (b := mGv N p (gfG N p)) (by have := mGv_le (N := N) (p := p + 1) (g := gfG N p + 2 ^ h); omega) (by have := mGv_le (N := N) (p := p) (g := gfG N p); omega)).mpr c98
              refine aw_iinc dX11_gift_104 rfl (ginc rfl) (by decide) rfl ?_
              refine aw_goto (tgt := 37) dX11_gift_107 rfl ?_
              have := ih hlt
              rw [gfI_not en (by simp [d9]), ← en] at this
              exact this
            · have d9 := (nI_eq (a := 1 + mGv N (p + 1) (gfG N p + 2 ^ h)) (b := mGv N p (gfG N p)) (by have := mGv_le (N := N) (p := p + 1) (g := gfG N p + 2 ^ h); omega) (by have := mGv_le (N := N) (p := p) (g := gfG N p); omega)).mp c98
              refine aw_iload dX11_gift_101 rfl ?_
              refine aw_istore_n dX11_gift_103 (by decide) rfl ?_
              refine aw_iinc dX11_gift_104 rfl (ginc rfl) (by decide) rfl ?_
              refine aw_goto (tgt := 37) dX11_gift_107 rfl ?_
              have := ih hlt
              rw [gfI_new en (by rw [t9, f9]; simp [d9])] at this
              exact this
  have loop : ∀ (r : Nat) (J : MI), r < nPo N → x = nI r → GvF m I J → GvT N (J (m + 8)) 0 → ∀ p, p ≤ r + 1 → ∀ (v : Int32) a5, (0 < p → v = oN (gfO N (p - 1) (gfG N (p - 1)))) → AW X g RX11 cX11_gift 6 (8, 0, 0) (z, n, sh, 0, 0) (J) (L) 26 [some (.ref m), some (.int x), some (.int (nI (gfG N p))), some (.int v), some (.int (nI p)), a5] [] := by
    intro r J hr hx hF hT
    have fr8 : mFrom (nI r) 0 (N 231 - 1) = true := from_n hN.p hr (by omega)
    refine up_loop (fun p hp ih v a5 hv => ?_)
    refine aw_iload dX11_gift_26 rfl ?_
    refine aw_iload_n dX11_gift_28 rfl ?_
    refine aw_icmp_gt (tgt := 131) dX11_gift_29 rfl (fun c29 => ?_) (fun c29 => ?_)
    · have e : p = r + 1 := by
        rw [hx] at c29
        have := (nI_ltI (by omega) (by omega)).mp c29
        omega
      subst e
      rw [hv (by omega)]
      refine aw_iload_n dX11_gift_131 rfl ?_
      refine aw_iconst (v := (-1)) dX11_gift_132 rfl ?_
      refine aw_icmp_ne (tgt := 144) dX11_gift_133 rfl (fun c133 => ?_) (fun c133 => ?_)
      · obtain ⟨h, e9⟩ : ∃ h, gfO N r (gfG N r) = some h := by
          cases e9 : gfO N r (gfG N r) with
          | none =>
            have c133 : ¬ oN (gfO N r (gfG N r)) = -1 := c133
            rw [e9] at c133
            exact absurd rfl c133
          | some h => exact ⟨h, rfl⟩
        refine aw_aload_n dX11_gift_144 rfl ?_
        refine aw_iload_n dX11_gift_145 rfl ?_
        refine aw_cV dX11_gift_146 kX11_199 mX11_gives (sX11_gives hM) (Nat.le_of_ble_eq_true rfl) hM.k ⟨by decide, rfl⟩ hM.b rfl rfl (Nat.le_of_ble_eq_true rfl) ⟨Nat.le_refl _, Nat.le_refl _⟩ ?_
        refine aw_iret q rfl dX11_gift_149 ⟨Nat.le_refl _, Nat.le_refl _⟩ ?_
        rw [show oN (gfO N (r + 1 - 1) (gfG N (r + 1 - 1))) = nI h from by rw [show r + 1 - 1 = r from rfl, e9]; rfl]
        refine TlS.ok ?_ hF.rsc
        unfold aGift
        rw [hx, fr8]
        rw [nI_clamp (by omega), e9]
        rfl
      · have e9 : gfO N r (gfG N r) = none := by
          cases e9 : gfO N r (gfG N r) with
          | none => rfl
          | some h =>
            have c133 : oN (gfO N r (gfG N r)) = -1 := c133
            rw [e9] at c133
            exact absurd c133 (nI_ne_m1 (by have := (gfI_some e9).1; omega))
        refine aw_aload_n dX11_gift_136 rfl ?_
        refine aw_iconst (v := 5) dX11_gift_137 rfl ?_
        refine aw_cV dX11_gift_138 kX11_186 mX11_refuse (sX11_refuse hM) (Nat.le_of_ble_eq_true rfl) hM.k ⟨by decide, rfl⟩ hM.b rfl rfl (Nat.le_of_ble_eq_true rfl) ⟨Nat.le_refl _, Nat.le_refl _⟩ ?_
        refine aw_goto (tgt := 149) dX11_gift_141 rfl ?_
        refine aw_iret q rfl dX11_gift_149 ⟨Nat.le_refl _, Nat.le_refl _⟩ ?_
        refine TlS.no ?_ hF.rsc
        unfold aGift
        rw [hx, fr8]
        rw [nI_clamp (by omega), e9]
        rfl
    · have hlt : p < r + 1 := by
        rw [hx] at c29
        have := mt (nI_ltI (by omega) (by omega)).mpr c29
        omega
      refine aw_iconst (v := (-1)) dX11_gift_32 rfl ?_
      refine aw_istore_n dX11_gift_33 (by decide) rfl ?_
      refine aw_iconst (v := 0) dX11_gift_34 rfl ?_
      refine aw_istore dX11_gift_35 (by decide) rfl ?_
      exact inn p J (by omega) hF hT (fun a5 => ih hlt _ a5 (fun _ => rfl)) 0 (Nat.zero_le _)
  refine aw_aload_n dX11_gift_0 rfl ?_
  refine aw_iload_n dX11_gift_1 rfl ?_
  refine aw_cV dX11_gift_2 kX11_244 mX11_isHouse (rX11_isHouse hM hI) (Nat.le_of_ble_eq_true rfl) hM.k ⟨by decide, rfl⟩ hM.b rfl rfl (Nat.le_of_ble_eq_true rfl) ⟨Nat.le_refl _, Nat.le_refl _⟩ ?_
  refine aw_if_ne (tgt := 14) dX11_gift_5 rfl (fun c5 => ?_) (fun c5 => ?_)
  · have f5 := bI1.mp c5
    obtain ⟨p, hpn, rfl⟩ := from_ix hN.p (by have := hN.p8; omega) f5
    have hp8 : p < 8 := by have := hN.p8; omega
    have ep := nI_clamp (show p < 2 ^ 31 by omega)
    refine aw_aload_n dX11_gift_14 rfl ?_
    refine aw_callV dX11_gift_15 kX11_346 mX11_laysGifts (rX11_laysGifts hM hI hN) (Nat.le_of_ble_eq_true rfl) hM.k ⟨by decide, rfl⟩ hM.b rfl rfl (Nat.le_of_ble_eq_true rfl) ⟨Nat.le_refl _, Nat.le_refl _⟩ (fun v1 z1 n1 sh1 J1 M1 hp1 => ?_)
    obtain ⟨rfl, rfl, rfl, rfl, rfl, hF1, hT1⟩ := hp1
    refine aw_pop dX11_gift_18 rfl ?_
    refine aw_iconst (v := 0) dX11_gift_19 rfl ?_
    refine aw_istore_n dX11_gift_20 (by decide) rfl ?_
    refine aw_iconst (v := (-1)) dX11_gift_21 rfl ?_
    refine aw_istore_n dX11_gift_22 (by decide) rfl ?_
    refine aw_iconst (v := 0) dX11_gift_23 rfl ?_
    refine aw_istore dX11_gift_24 (by decide) rfl ?_
    exact loop p _ hpn rfl hF1 hT1 0 (Nat.zero_le _) (-1) none (fun q => absurd q (Nat.lt_irrefl 0))
  · have d9 := bI0.mp c5
    refine aw_aload_n dX11_gift_8 rfl ?_
    refine aw_iconst (v := 2) dX11_gift_9 rfl ?_
    refine aw_cV dX11_gift_10 kX11_186 mX11_refuse (sX11_refuse hM) (Nat.le_of_ble_eq_true rfl) hM.k ⟨by decide, rfl⟩ hM.b rfl rfl (Nat.le_of_ble_eq_true rfl) ⟨Nat.le_refl _, Nat.le_refl _⟩ ?_
    refine aw_iret q rfl dX11_gift_13 ⟨Nat.le_refl _, Nat.le_refl _⟩ ?_
    refine TlS.no ?_ (RSc.rf)
    unfold aGift
    rw [d9]
    rfl
end RefS
