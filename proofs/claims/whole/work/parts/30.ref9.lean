/-! the reference: rows copied, bids as they would, one week more -/
theorem likes_0 {N : Nat → Int32} {p : Nat} (c : Cn N) (h : N (80 + 18 * p + 11) = 0) : N 230 = nI (nLikes N p) := by unfold nLikes; rw [if_pos h]; exact c.h
theorem likes_1 {N : Nat → Int32} {p : Nat} (c : Cn N) (hp : p < 8) (h : ¬ N (80 + 18 * p + 11) = 0) : N (80 + 18 * p + 11) = nI (nLikes N p) := by unfold nLikes; rw [if_neg h]; exact c.w hp
theorem like_0 {N : Nat → Int32} {p k : Nat} (h : N (80 + 18 * p + 11) = 0) : nI k = nI (mLikes N p k) := by unfold mLikes; rw [if_pos h]
theorem like_1 {N : Nat → Int32} {p k : Nat} (c : Cn N) (hp : p < 8) (hk : k < nLikes N p) (h : ¬ N (80 + 18 * p + 11) = 0) : N (80 + 18 * p + (12 + k)) = nI (mLikes N p k) := by
  unfold mLikes
  rw [if_neg h]
  unfold nLikes at hk
  rw [if_neg h] at hk
  obtain ⟨j, hj, e⟩ := c.wi hp hk
  rw [e, nI_clamp (by omega)]
theorem like_10 {N : Nat → Int32} {p k : Nat} (c : Cn N) (hp : p < 8) (hk : k < nLikes N p) : mLikes N p k < 10 := by
  unfold mLikes
  unfold nLikes at hk
  split
  · rename_i h
    rw [if_pos h] at hk
    have := c.h10
    omega
  · rename_i h
    rw [if_neg h] at hk
    obtain ⟨j, hj, e⟩ := c.wi hp hk
    rw [e, nI_clamp (by omega)]
    exact hj
theorem likes_10 {N : Nat → Int32} {p : Nat} (c : Cn N) (hp : p < 8) : nLikes N p ≤ 10 := by
  unfold nLikes
  have := c.h10
  have := c.w6 hp
  split <;> omega
theorem or_bits {a h : Nat} (ha : a < 1024) (hh : h < 10) : nI a ||| ((1 : Int32) <<< (nI h &&& 31)) = nI (a ||| 2 ^ h) ∧ a ||| 2 ^ h < 1024 := by
  rw [shl_all h (by omega), fa_or]
  exact ⟨rfl, Nat.or_lt_two_pow (n := 10) ha (Nat.pow_lt_pow_right (by decide) hh)⟩
theorem bidsL_inv {N : Nat → Int32} {p b : Nat} (w : Wk N b) (hp : p < 8) : ∀ k, k ≤ nLikes N p → Wk (mBidsL N p k).1 b ∧ (∀ j, j ≠ 80 + 18 * p + 10 → (mBidsL N p k).1 j = N j) ∧ (mBidsL N p k).2 ≤ k
  | 0, _ => ⟨w, fun _ _ => rfl, Nat.le_refl _⟩
  | k + 1, hk => by
    obtain ⟨w2, r, hc⟩ := bidsL_inv w hp k (by omega)
    rw [mBidsL]
    split
    · have hl := like_10 w.1 hp (show k < nLikes N p by omega)
      obtain ⟨e1, e2⟩ := or_bits (w2.1.bi10 hp) hl
      refine ⟨w2.bids hp (by rw [w2.1.bi hp]; exact e1) e2, fun j hj => ?_, by show (mBidsL N p k).2 + 1 ≤ k + 1; omega⟩
      show mPuts _ p 10 _ j = N j
      unfold mPuts
      rw [upd_ne hj, r j hj]
    · exact ⟨w2, r, by omega⟩
theorem bidsBy_inv {N : Nat → Int32} {p b : Nat} (w : Wk N b) (hp : p < 8) : Wk (mBidsBy N p).1 b ∧ (∀ j, j ≠ 80 + 18 * p + 10 → (mBidsBy N p).1 j = N j) ∧ (mBidsBy N p).2 ≤ 10 := by
  obtain ⟨a, b, c⟩ := bidsL_inv w hp (nLikes N p) (Nat.le_refl _)
  exact ⟨a, b, Nat.le_trans c (likes_10 w.1 hp)⟩
theorem allL_inv {N : Nat → Int32} {b : Nat} (w : Wk N b) : ∀ i, i ≤ 8 → Wk (mAllL N i).1 b ∧ (∀ j, (∀ q, q < 8 → j ≠ 80 + 18 * q + 10) → (mAllL N i).1 j = N j)
  | 0, _ => ⟨w, fun _ _ => rfl⟩
  | i + 1, hi => by
    obtain ⟨w2, r⟩ := allL_inv w i (by omega)
    obtain ⟨w3, r3, -⟩ := bidsBy_inv w2 (show i < 8 by omega)
    exact ⟨w3, fun j hj => by rw [mAllL]; exact (r3 j (hj i (by omega))).trans (r j hj)⟩
theorem allBid_inv {N : Nat → Int32} {b : Nat} (w : Wk N b) : Wk (mAllBid N).1 b ∧ (∀ j, (∀ q, q < 8 → j ≠ 80 + 18 * q + 10) → (mAllBid N).1 j = N j) := allL_inv w _ w.1.p8
theorem oneMore_inv {N : Nat → Int32} (c : Cn N) (l : Lo N) : Cn (mOneMore N) ∧ Lo (mOneMore N) ∧ mOneMore N 230 = N 230 ∧ mOneMore N 231 = N 231 := by
  obtain ⟨w, r⟩ := allBid_inv ⟨c, l, c.o30⟩
  unfold mOneMore
  split
  · obtain ⟨a1, a2, a3, a4⟩ := week_Wk w.1 w.2.1
    exact ⟨a1, a2, by rw [a3, r _ (fun q hq => by omega)], by rw [a4, r _ (fun q hq => by omega)]⟩
  · exact ⟨w.1, w.2.1, r _ (fun q hq => by omega), r _ (fun q hq => by omega)⟩
def mCopy (f g : Nat → Int32) : Nat → Int32 := fa_fill f g 390
def mPlain (f : Nat → Int32) : Nat → Int32 := upd (upd (upd (upd (fa_fill (fun _ => 0) f 390) 224 3) 225 4) 228 999) 229 2
section RefS
variable {z n m : Nat} {sh : Shp} {I : MI} {L : ML}
set_option maxHeartbeats 4000000 in
set_option maxRecDepth 100000 in
theorem rX11_copies {a b : Nat} (ka : (sh a).1 = 100) (ba : a < n) (la : (sh a).2.1 = 390) (kb : (sh b).1 = 100) (bb : b < n) (lb : (sh b).2.1 = 390) (hab : a ≠ b) : CM yX11_copies cX11_copies 3 (Option.none : Option FieldType) 1 0 0 [.ref a, .ref b] z n sh I L (Pst none z n sh (upA I b (mCopy (I a) (I b))) L) := by
  refine CM.go [some (.ref a), some (.ref b), none] rfl rfl (Nat.le_of_ble_eq_true rfl) (fun X g q => ?_)
  have loop : ∀ i, i ≤ 390 → AW X g RX11 cX11_copies 3 (1, 0, 0) (z, n, sh, 0, 0) (upA I b (fa_fill (I a) (I b) i)) (L) 2 [some (.ref a), some (.ref b), some (.int (nI i))] [] := by
    refine up_loop (fun i hi ih => ?_)
    refine aw_iload_n dX11_copies_2 rfl ?_
    refine aw_sipush (v := 390) dX11_copies_3 rfl ?_
    refine aw_icmp_ge (tgt := 21) dX11_copies_6 rfl (fun c6 => ?_) (fun c6 => ?_)
    · have e := ge_t (B := 390) rfl (by decide) hi c6
      subst e
      refine aw_vret q rfl dX11_copies_21 ⟨Nat.le_refl _, Nat.le_refl _⟩ ?_
      exact Pst.rf
    · have hlt := ge_f (B := 390) rfl (by decide) hi c6
      refine aw_aload_n dX11_copies_9 rfl ?_
      refine aw_iload_n dX11_copies_10 rfl ?_
      refine aw_aload_n dX11_copies_11 rfl ?_
      refine aw_iload_n dX11_copies_12 rfl ?_
      refine aw_ialdH (k := i) (upA_off hab rfl) dX11_copies_13 ka ba la rfl (by omega) (by decide) ?_
      refine aw_iastN (k := i) dX11_copies_14 kb bb lb rfl (by omega) (by decide) ?_
      refine aw_iinc dX11_copies_15 rfl (ginc rfl) (by decide) rfl ?_
      refine aw_goto (tgt := 2) dX11_copies_18 rfl ?_
      have := ih hlt
      rw [← fa_fill_succ] at this
      refine AW.mem ?_ this
      simp only [upI_upA, upA_upA, upA_self]
  refine aw_iconst (v := 0) dX11_copies_0 rfl ?_
  refine aw_istore_n dX11_copies_1 (by decide) rfl ?_
  refine AW.mem ?_ (loop 0 (Nat.zero_le _))
  rw [fa_fill_0, upA_me]
set_option maxHeartbeats 4000000 in
set_option maxRecDepth 100000 in
theorem rX11_plain {a : Nat} (ka : (sh a).1 = 100) (ba : a < n) (la : (sh a).2.1 = 390) : CM yX11_plain cX11_plain 2 (Option.none : Option FieldType) 1 0 0 [.ref a] z n sh I L (Pst none z n sh (upA I a (mPlain (I a))) L) := by
  refine CM.go [some (.ref a), none] rfl rfl (Nat.le_of_ble_eq_true rfl) (fun X g q => ?_)
  have loop : ∀ i, i ≤ 390 → AW X g RX11 cX11_plain 2 (1, 0, 0) (z, n, sh, 0, 0) (upA I a (fa_fill (fun _ => 0) (I a) i)) (L) 2 [some (.ref a), some (.int (nI i))] [] := by
    refine up_loop (fun i hi ih => ?_)
    refine aw_iload_n dX11_plain_2 rfl ?_
    refine aw_sipush (v := 390) dX11_plain_3 rfl ?_
    refine aw_icmp_ge (tgt := 19) dX11_plain_6 rfl (fun c6 => ?_) (fun c6 => ?_)
    · have e := ge_t (B := 390) rfl (by decide) hi c6
      subst e
      refine aw_aload_n dX11_plain_19 rfl ?_
      refine aw_sipush (v := 224) dX11_plain_20 rfl ?_
      refine aw_iconst (v := 3) dX11_plain_23 rfl ?_
      refine aw_iastN (k := 224) dX11_plain_24 ka ba la rfl (by decide) (by decide) ?_
      refine aw_aload_n dX11_plain_25 rfl ?_
      refine aw_sipush (v := 225) dX11_plain_26 rfl ?_
      refine aw_iconst (v := 4) dX11_plain_29 rfl ?_
      refine aw_iastN (k := 225) dX11_plain_30 ka ba la rfl (by decide) (by decide) ?_
      refine aw_aload_n dX11_plain_31 rfl ?_
      refine aw_sipush (v := 228) dX11_plain_32 rfl ?_
      refine aw_sipush (v := 999) dX11_plain_35 rfl ?_
      refine aw_iastN (k := 228) dX11_plain_38 ka ba la rfl (by decide) (by decide) ?_
      refine aw_aload_n dX11_plain_39 rfl ?_
      refine aw_sipush (v := 229) dX11_plain_40 rfl ?_
      refine aw_iconst (v := 2) dX11_plain_43 rfl ?_
      refine aw_iastN (k := 229) dX11_plain_44 ka ba la rfl (by decide) (by decide) ?_
      refine aw_vret q rfl dX11_plain_45 ⟨Nat.le_refl _, Nat.le_refl _⟩ ?_
      refine Pst.mem ?_
      simp only [upI_upA, upA_upA, upA_self, mPlain]
    · have hlt := ge_f (B := 390) rfl (by decide) hi c6
      refine aw_aload_n dX11_plain_9 rfl ?_
      refine aw_iload_n dX11_plain_10 rfl ?_
      refine aw_iconst (v := 0) dX11_plain_11 rfl ?_
      refine aw_iastN (k := i) dX11_plain_12 ka ba la rfl (by omega) (by decide) ?_
      refine aw_iinc dX11_plain_13 rfl (ginc rfl) (by decide) rfl ?_
      refine aw_goto (tgt := 2) dX11_plain_16 rfl ?_
      have := ih hlt
      rw [← fa_fill_succ] at this
      refine AW.mem ?_ this
      simp only [upI_upA, upA_upA, upA_self]
  refine aw_iconst (v := 0) dX11_plain_0 rfl ?_
  refine aw_istore_n dX11_plain_1 (by decide) rfl ?_
  refine AW.mem ?_ (loop 0 (Nat.zero_le _))
  rw [fa_fill_0, upA_me]
set_option maxHeartbeats 4000000 in
set_option maxRecDepth 100000 in
theorem rX11_bidsBy (hM : IsM n sh m) {N : Nat → Int32} (hI : I (m + 1) = N) (hN : Cn N) (hl : Lo N) {x : Int32} {p : Nat} (hx : x = nI p) (hp : p < 8) : CM yX11_bidsBy cX11_bidsBy 6 (Option.some .int) 5 0 0 [.ref m, .int x] z n sh I L (Pst (some (.int (nI (mBidsBy N p).2))) z n sh (upA I (m + 1) (mBidsBy N p).1) L) := by
  subst hx
  refine CM.go [some (.ref m), some (.int (nI p)), none, none, none, none] rfl rfl (Nat.le_of_ble_eq_true rfl) (fun X g q => ?_)
  have hl10 := likes_10 hN hp
  have loop : ∀ i, i ≤ nLikes N p → ∀ a5 : Option Value, AW X g RX11 cX11_bidsBy 6 (5, 0, 0) (z, n, sh, 0, 0) (upA I (m + 1) (mBidsL N p i).1) (L) 34 [some (.ref m), some (.int (nI p)), some (.int (nI (mBidsL N p i).2)), some (.int (nI (nLikes N p))), some (.int (nI i)), a5] [] := by
    refine up_loop (fun i hi ih a5 => ?_)
    obtain ⟨wI, rI, cI⟩ := bidsL_inv ⟨hN, hl, hN.o30⟩ hp i hi
    refine aw_iload dX11_bidsBy_34 rfl ?_
    refine aw_iload_n dX11_bidsBy_36 rfl ?_
    refine aw_icmp_ge (tgt := 108) dX11_bidsBy_37 rfl (fun c37 => ?_) (fun c37 => ?_)
    · have e := ge_t (B := nLikes N p) rfl (by omega) hi c37
      subst e
      refine aw_iload_n dX11_bidsBy_108 rfl ?_
      refine aw_iret q rfl dX11_bidsBy_109 ⟨Nat.le_refl _, Nat.le_refl _⟩ ?_
      exact Pst.rf
    · have hlt := ge_f (B := nLikes N p) rfl (by omega) hi c37
      have h10 := like_10 hN hp hlt
      refine aw_aload_n dX11_bidsBy_40 rfl ?_
      refine aw_iload_n dX11_bidsBy_41 rfl ?_
      refine aw_bipush (v := 11) dX11_bidsBy_42 rfl ?_
      refine aw_cV dX11_bidsBy_44 kX11_205 mX11_of (rX11_of (p := p) (w := 11) hM upA_self rfl rfl (by omega)) (Nat.le_of_ble_eq_true rfl) hM.k ⟨by decide, rfl⟩ hM.b rfl rfl (Nat.le_of_ble_eq_true rfl) ⟨Nat.le_refl _, Nat.le_refl _⟩ ?_
      rw [rI _ (by omega)]
      refine aw_if_ne (tgt := 55) dX11_bidsBy_47 rfl (fun c47 => ?_) (fun c47 => ?_)
      · refine aw_aload_n dX11_bidsBy_55 rfl ?_
        refine aw_iload_n dX11_bidsBy_56 rfl ?_
        refine aw_bipush (v := 12) dX11_bidsBy_57 rfl ?_
        refine aw_iload dX11_bidsBy_59 rfl ?_
        refine aw_iadd dX11_bidsBy_61 ?_
        refine aw_cV dX11_bidsBy_62 kX11_205 mX11_of (rX11_of (p := p) (w := 12 + i) hM upA_self rfl (gadd rfl rfl) (by omega)) (Nat.le_of_ble_eq_true rfl) hM.k ⟨by decide, rfl⟩ hM.b rfl rfl (Nat.le_of_ble_eq_true rfl) ⟨Nat.le_refl _, Nat.le_refl _⟩ ?_
        rw [rI _ (by omega)]
        first | refine AW.top (like_0 c47) ?_ | refine AW.top (like_1 hN hp hlt c47) ?_
        refine aw_istore dX11_bidsBy_65 (by decide) rfl ?_
        refine aw_aload_n dX11_bidsBy_67 rfl ?_
        refine aw_iload_n dX11_bidsBy_68 rfl ?_
        refine aw_iload dX11_bidsBy_69 rfl ?_
        refine aw_cV dX11_bidsBy_71 kX11_256 mX11_whyNot (rX11_whyNot (p := p) (h := mLikes N p i) hM upA_self wI.1 rfl rfl hp h10) (Nat.le_of_ble_eq_true rfl) hM.k ⟨by decide, rfl⟩ hM.b rfl rfl (Nat.le_of_ble_eq_true rfl) ⟨Nat.le_refl _, Nat.le_refl _⟩ ?_
        refine aw_if_eq (tgt := 80) dX11_bidsBy_74 rfl (fun c74 => ?_) (fun c74 => ?_)
        · refine aw_aload_n dX11_bidsBy_80 rfl ?_
          refine aw_iload_n dX11_bidsBy_81 rfl ?_
          refine aw_bipush (v := 10) dX11_bidsBy_82 rfl ?_
          refine aw_aload_n dX11_bidsBy_84 rfl ?_
          refine aw_iload_n dX11_bidsBy_85 rfl ?_
          refine aw_bipush (v := 10) dX11_bidsBy_86 rfl ?_
          refine aw_cV dX11_bidsBy_88 kX11_205 mX11_of (rX11_of (p := p) (w := 10) hM upA_self rfl rfl (by omega)) (Nat.le_of_ble_eq_true rfl) hM.k ⟨by decide, rfl⟩ hM.b rfl rfl (Nat.le_of_ble_eq_true rfl) ⟨Nat.le_refl _, Nat.le_refl _⟩ ?_
          refine aw_iconst (v := 1) dX11_bidsBy_91 rfl ?_
          refine aw_iload dX11_bidsBy_92 rfl ?_
          refine aw_ishl dX11_bidsBy_94 ?_
          refine aw_ior dX11_bidsBy_95 ?_
          refine aw_cV dX11_bidsBy_96 kX11_289 mX11_puts (rX11_puts (p := p) (w := 10) hM upA_self rfl rfl (by omega)) (Nat.le_of_ble_eq_true rfl) hM.k ⟨by decide, rfl⟩ hM.b rfl rfl (Nat.le_of_ble_eq_true rfl) ⟨Nat.le_refl _, Nat.le_refl _⟩ ?_
          refine aw_iinc dX11_bidsBy_99 rfl (ginc rfl) (by decide) rfl ?_
          refine aw_iinc dX11_bidsBy_102 rfl (ginc rfl) (by decide) rfl ?_
          refine aw_goto (tgt := 34) dX11_bidsBy_105 rfl ?_
          have := ih hlt (some (.int (nI (mLikes N p i))))
          rw [mBidsL, if_pos c74] at this
          refine AW.mem ?_ this
          simp only [upA_upA]
        · refine aw_goto (tgt := 102) dX11_bidsBy_77 rfl ?_
          refine aw_iinc dX11_bidsBy_102 rfl (ginc rfl) (by decide) rfl ?_
          refine aw_goto (tgt := 34) dX11_bidsBy_105 rfl ?_
          have := ih hlt (some (.int (nI (mLikes N p i))))
          rw [mBidsL, if_neg c74] at this
          exact this
      · refine aw_iload dX11_bidsBy_50 rfl ?_
        refine aw_goto (tgt := 65) dX11_bidsBy_52 rfl ?_
        first | refine AW.top (like_0 c47) ?_ | refine AW.top (like_1 hN hp hlt c47) ?_
        refine aw_istore dX11_bidsBy_65 (by decide) rfl ?_
        refine aw_aload_n dX11_bidsBy_67 rfl ?_
        refine aw_iload_n dX11_bidsBy_68 rfl ?_
        refine aw_iload dX11_bidsBy_69 rfl ?_
        refine aw_cV dX11_bidsBy_71 kX11_256 mX11_whyNot (rX11_whyNot (p := p) (h := mLikes N p i) hM upA_self wI.1 rfl rfl hp h10) (Nat.le_of_ble_eq_true rfl) hM.k ⟨by decide, rfl⟩ hM.b rfl rfl (Nat.le_of_ble_eq_true rfl) ⟨Nat.le_refl _, Nat.le_refl _⟩ ?_
        refine aw_if_eq (tgt := 80) dX11_bidsBy_74 rfl (fun c74 => ?_) (fun c74 => ?_)
        · refine aw_aload_n dX11_bidsBy_80 rfl ?_
          refine aw_iload_n dX11_bidsBy_81 rfl ?_
          refine aw_bipush (v := 10) dX11_bidsBy_82 rfl ?_
          refine aw_aload_n dX11_bidsBy_84 rfl ?_
          refine aw_iload_n dX11_bidsBy_85 rfl ?_
          refine aw_bipush (v := 10) dX11_bidsBy_86 rfl ?_
          refine aw_cV dX11_bidsBy_88 kX11_205 mX11_of (rX11_of (p := p) (w := 10) hM upA_self rfl rfl (by omega)) (Nat.le_of_ble_eq_true rfl) hM.k ⟨by decide, rfl⟩ hM.b rfl rfl (Nat.le_of_ble_eq_true rfl) ⟨Nat.le_refl _, Nat.le_refl _⟩ ?_
          refine aw_iconst (v := 1) dX11_bidsBy_91 rfl ?_
          refine aw_iload dX11_bidsBy_92 rfl ?_
          refine aw_ishl dX11_bidsBy_94 ?_
          refine aw_ior dX11_bidsBy_95 ?_
          refine aw_cV dX11_bidsBy_96 kX11_289 mX11_puts (rX11_puts (p := p) (w := 10) hM upA_self rfl rfl (by omega)) (Nat.le_of_ble_eq_true rfl) hM.k ⟨by decide, rfl⟩ hM.b rfl rfl (Nat.le_of_ble_eq_true rfl) ⟨Nat.le_refl _, Nat.le_refl _⟩ ?_
          refine aw_iinc dX11_bidsBy_99 rfl (ginc rfl) (by decide) rfl ?_
          refine aw_iinc dX11_bidsBy_102 rfl (ginc rfl) (by decide) rfl ?_
          refine aw_goto (tgt := 34) dX11_bidsBy_105 rfl ?_
          have := ih hlt (some (.int (nI (mLikes N p i))))
          rw [mBidsL, if_pos c74] at this
          refine AW.mem ?_ this
          simp only [upA_upA]
        · refine aw_goto (tgt := 102) dX11_bidsBy_77 rfl ?_
          refine aw_iinc dX11_bidsBy_102 rfl (ginc rfl) (by decide) rfl ?_
          refine aw_goto (tgt := 34) dX11_bidsBy_105 rfl ?_
          have := ih hlt (some (.int (nI (mLikes N p i))))
          rw [mBidsL, if_neg c74] at this
          exact this
  refine aw_iconst (v := 0) dX11_bidsBy_0 rfl ?_
  refine aw_istore_n dX11_bidsBy_1 (by decide) rfl ?_
  refine aw_aload_n dX11_bidsBy_2 rfl ?_
  refine aw_iload_n dX11_bidsBy_3 rfl ?_
  refine aw_bipush (v := 11) dX11_bidsBy_4 rfl ?_
  refine aw_cV dX11_bidsBy_6 kX11_205 mX11_of (rX11_of (p := p) (w := 11) hM hI rfl rfl (by omega)) (Nat.le_of_ble_eq_true rfl) hM.k ⟨by decide, rfl⟩ hM.b rfl rfl (Nat.le_of_ble_eq_true rfl) ⟨Nat.le_refl _, Nat.le_refl _⟩ ?_
  refine aw_if_ne (tgt := 23) dX11_bidsBy_9 rfl (fun c9 => ?_) (fun c9 => ?_)
  · refine aw_aload_n dX11_bidsBy_23 rfl ?_
    refine aw_iload_n dX11_bidsBy_24 rfl ?_
    refine aw_bipush (v := 11) dX11_bidsBy_25 rfl ?_
    refine aw_cV dX11_bidsBy_27 kX11_205 mX11_of (rX11_of (p := p) (w := 11) hM hI rfl rfl (by omega)) (Nat.le_of_ble_eq_true rfl) hM.k ⟨by decide, rfl⟩ hM.b rfl rfl (Nat.le_of_ble_eq_true rfl) ⟨Nat.le_refl _, Nat.le_refl _⟩ ?_
    first | refine AW.top (likes_0 hN c9) ?_ | refine AW.top (likes_1 hN hp c9) ?_
    refine aw_istore_n dX11_bidsBy_30 (by decide) rfl ?_
    refine aw_iconst (v := 0) dX11_bidsBy_31 rfl ?_
    refine aw_istore dX11_bidsBy_32 (by decide) rfl ?_
    refine AW.mem ?_ (loop 0 (Nat.zero_le _) none)
    exact (by rw [← hI, upA_me] : I = upA I (m + 1) N)
  · refine aw_aload_n dX11_bidsBy_12 rfl ?_
    refine aw_getR (b := m + 1) dX11_bidsBy_13 fX11_7 hM.k hM.b rfl hM.r0 ?_
    refine aw_sipush (v := 230) dX11_bidsBy_16 rfl ?_
    refine aw_ialdH (k := 230) hI dX11_bidsBy_19 hM.k0 hM.b0 hM.l0 rfl (by decide) (by decide) ?_
    refine aw_goto (tgt := 30) dX11_bidsBy_20 rfl ?_
    first | refine AW.top (likes_0 hN c9) ?_ | refine AW.top (likes_1 hN hp c9) ?_
    refine aw_istore_n dX11_bidsBy_30 (by decide) rfl ?_
    refine aw_iconst (v := 0) dX11_bidsBy_31 rfl ?_
    refine aw_istore dX11_bidsBy_32 (by decide) rfl ?_
    refine AW.mem ?_ (loop 0 (Nat.zero_le _) none)
    exact (by rw [← hI, upA_me] : I = upA I (m + 1) N)
set_option maxHeartbeats 4000000 in
set_option maxRecDepth 100000 in
theorem rX11_allBid (hM : IsM n sh m) {N : Nat → Int32} (hI : I (m + 1) = N) (hN : Cn N) (hl : Lo N) : CM yX11_allBid cX11_allBid 3 (Option.some .int) 6 0 0 [.ref m] z n sh I L (Pst (some (.int (mAllBid N).2)) z n sh (upA I (m + 1) (mAllBid N).1) L) := by
  refine CM.go [some (.ref m), none, none] rfl rfl (Nat.le_of_ble_eq_true rfl) (fun X g q => ?_)
  have h8 := hN.p8
  have loop : ∀ i, i ≤ nPo N → AW X g RX11 cX11_allBid 3 (6, 0, 0) (z, n, sh, 0, 0) (upA I (m + 1) (mAllL N i).1) (L) 4 [some (.ref m), some (.int (mAllL N i).2), some (.int (nI i))] [] := by
    refine up_loop (fun i hi ih => ?_)
    obtain ⟨wI, rI⟩ := allL_inv ⟨hN, hl, hN.o30⟩ i (by omega)
    refine aw_iload_n dX11_allBid_4 rfl ?_
    refine aw_aload_n dX11_allBid_5 rfl ?_
    refine aw_getR (b := m + 1) dX11_allBid_6 fX11_7 hM.k hM.b rfl hM.r0 ?_
    refine aw_sipush (v := 231) dX11_allBid_9 rfl ?_
    refine aw_ialdH (k := 231) upA_self dX11_allBid_12 hM.k0 hM.b0 hM.l0 rfl (by decide) (by decide) ?_
    rw [rI _ (fun q hq => by omega)]
    refine aw_icmp_ge (tgt := 30) dX11_allBid_13 rfl (fun c13 => ?_) (fun c13 => ?_)
    · have e := ge_t hN.p (by omega) hi c13
      subst e
      refine aw_iload_n dX11_allBid_30 rfl ?_
      refine aw_iret q rfl dX11_allBid_31 ⟨Nat.le_refl _, Nat.le_refl _⟩ ?_
      exact Pst.rf
    · have hlt := ge_f hN.p (by omega) hi c13
      refine aw_iload_n dX11_allBid_16 rfl ?_
      refine aw_aload_n dX11_allBid_17 rfl ?_
      refine aw_iload_n dX11_allBid_18 rfl ?_
      refine aw_cV dX11_allBid_19 kX11_316 mX11_bidsBy (rX11_bidsBy (p := i) hM upA_self wI.1 wI.2.1 rfl (by omega)) (Nat.le_of_ble_eq_true rfl) hM.k ⟨by decide, rfl⟩ hM.b rfl rfl (Nat.le_of_ble_eq_true rfl) ⟨Nat.le_refl _, Nat.le_refl _⟩ ?_
      refine aw_iadd dX11_allBid_22 ?_
      refine aw_istore_n dX11_allBid_23 (by decide) rfl ?_
      refine aw_iinc dX11_allBid_24 rfl (ginc rfl) (by decide) rfl ?_
      refine aw_goto (tgt := 4) dX11_allBid_27 rfl ?_
      have := ih hlt
      refine AW.mem ?_ this
      simp only [upA_upA, mAllL]
  refine aw_iconst (v := 0) dX11_allBid_0 rfl ?_
  refine aw_istore_n dX11_allBid_1 (by decide) rfl ?_
  refine aw_iconst (v := 0) dX11_allBid_2 rfl ?_
  refine aw_istore_n dX11_allBid_3 (by decide) rfl ?_
  refine AW.mem ?_ (loop 0 (Nat.zero_le _))
  exact (by rw [← hI, upA_me] : I = upA I (m + 1) N)
set_option maxHeartbeats 4000000 in
set_option maxRecDepth 100000 in
theorem rX11_oneMore (hM : IsM n sh m) {N : Nat → Int32} (hI : I (m + 1) = N) (hN : Cn N) (hl : Lo N) : CM yX11_oneMore cX11_oneMore 1 (Option.none : Option FieldType) 9 0 0 [.ref m] z n sh I L (Pst none z n sh (upA I (m + 1) (mOneMore N)) L) := by
  refine CM.go [some (.ref m)] rfl rfl (Nat.le_of_ble_eq_true rfl) (fun X g q => ?_)
  obtain ⟨wA, rA⟩ := allBid_inv ⟨hN, hl, hN.o30⟩
  refine aw_aload_n dX11_oneMore_0 rfl ?_
  refine aw_cV dX11_oneMore_1 kX11_325 mX11_allBid (rX11_allBid hM hI hN hl) (Nat.le_of_ble_eq_true rfl) hM.k ⟨by decide, rfl⟩ hM.b rfl rfl (Nat.le_of_ble_eq_true rfl) ⟨Nat.le_refl _, Nat.le_refl _⟩ ?_
  refine aw_pop dX11_oneMore_4 rfl ?_
  refine aw_aload_n dX11_oneMore_5 rfl ?_
  refine aw_getR (b := m + 1) dX11_oneMore_6 fX11_7 hM.k hM.b rfl hM.r0 ?_
  refine aw_sipush (v := 232) dX11_oneMore_9 rfl ?_
  refine aw_ialdH (k := 232) upA_self dX11_oneMore_12 hM.k0 hM.b0 hM.l0 rfl (by decide) (by decide) ?_
  rw [rA _ (fun q hq => by omega)]
  refine aw_sipush (v := 999) dX11_oneMore_13 rfl ?_
  refine aw_icmp_ge (tgt := 24) dX11_oneMore_16 rfl (fun c16 => ?_) (fun c16 => ?_)
  · refine aw_vret q rfl dX11_oneMore_24 ⟨Nat.le_refl _, Nat.le_refl _⟩ ?_
    refine Pst.mem ?_
    unfold mOneMore
    rw [if_neg (Int32.not_lt.mpr c16)]
  · refine aw_aload_n dX11_oneMore_19 rfl ?_
    refine aw_cV dX11_oneMore_20 kX11_328 mX11_weekEnds (rX11_weekEnds hM upA_self wA.1 wA.2.1) (Nat.le_of_ble_eq_true rfl) hM.k ⟨by decide, rfl⟩ hM.b rfl rfl (Nat.le_of_ble_eq_true rfl) ⟨Nat.le_refl _, Nat.le_refl _⟩ ?_
    refine aw_pop dX11_oneMore_23 rfl ?_
    refine aw_vret q rfl dX11_oneMore_24 ⟨Nat.le_refl _, Nat.le_refl _⟩ ?_
    refine Pst.mem ?_
    unfold mOneMore
    rw [if_pos (fa_of_nle c16), upA_upA]
end RefS
