/-! the class: words read -/
def pkL (v : Int64) (c : Int32) : Int64 := v * 32 + (c - 97 + 1).toInt64
def wC (T : Nat → Int32) (s f : Nat) : Nat → Int64
  | 0 => 0
  | i + 1 => pkL (wC T s f i) (tb T s (f + i))
theorem pk_j : ∀ k, k < 123 → 97 ≤ k → (nI k - 97 + 1).toInt64 = lN (k - 96) := by decide +kernel
theorem wC_eq {T : Nat → Int32} {s f : Nat} : ∀ i, i ≤ 8 → (∀ k, k < i → isLet (tb T s (f + k)) = true) → wC T s f i = wrd T s f i
  | 0, _, _ => rfl
  | i + 1, hi, h => by
    have ih := wC_eq (T := T) (s := s) (f := f) i (by omega) (fun k hk => h k (by omega))
    obtain ⟨k, hk, ek⟩ := wrd_N (T := T) (s := s) (f := f) i (by omega) (fun k hk => h k (by omega))
    have hc := h i (by omega)
    unfold isLet at hc
    obtain ⟨c1, c2⟩ := andT hc
    obtain ⟨j, ej, j1, j2⟩ := rng (x := 97) (y := 122) (by decide) (of_decide_eq_true c1) (of_decide_eq_true c2) (by decide)
    have hk58 : k < 2 ^ 58 := Nat.lt_of_lt_of_le hk (Nat.pow_le_pow_right (n := 2) (by decide) (by omega))
    show pkL (wC T s f i) (tb T s (f + i)) = jnd (wrd T s f i) (tb T s (f + i))
    rw [ih, ek, ej]
    have e2 := jnd_N (k := k) (j := j - 96) hk58 (by omega)
    rw [show 96 + (j - 96) = j by omega] at e2
    rw [e2]
    unfold pkL
    rw [pk_j j (by omega) j1, Nat.mul_comm 32 k]
    exact ((Int64.ofNat_add (k * 32) (j - 96)).trans (congrArg (· + lN (j - 96)) (Int64.ofNat_mul k 32))).symm
def kwM (i : Nat) : Nat := if i < 4 then i + 6 else i - 4
def kwL (w : Int64) : Nat → Int32
  | 0 => -1
  | i + 1 => if wdK9 (kwM i) = w then nI i else kwL w i
/-- the words as the reader keeps them -/
def KwO (L : ML) : Prop := ∀ i, i < 10 → L 481 i = wdK9 (kwM i)
def NxL (L M : ML) : Prop := ∀ a, a ≠ 479 → M a = L a
theorem NxL.rf {L : ML} : NxL L L := fun _ _ => rfl
theorem NxL.put {L M : ML} {k : Nat} {v : Int64} (h : NxL L M) : NxL L (upL M 479 k v) := fun a ha => (upL_n ha).trans (h a ha)
theorem upL_st {L : ML} {a k : Nat} {v : Int64} : upL L a k v a k = v := upL_s
section ClsS
variable {z n : Nat} {sh : Shp} {I : MI} {L : ML} {N : Nat → Int32} {Q : Nat → Int64}
set_option maxHeartbeats 4000000 in
set_option maxRecDepth 100000 in
theorem sX6_packLetter {v : Int64} {c : Int32} : CM yX6_packLetter cX6_packLetter 3 (Option.some .long) 1 0 0 [.long v, .int c] z n sh I L (Pst (some (.long (pkL v c))) z n sh I L) := by
  refine CM.go [some (.long v), none, some (.int c)] rfl rfl (Nat.le_of_ble_eq_true rfl) (fun X g q => ?_)
  refine aw_lload_n dX6_packLetter_0 rfl ?_
  refine aw_ldc2 dX6_packLetter_1 qX6_44 ?_
  refine aw_lmul dX6_packLetter_4 ?_
  refine aw_iload_n dX6_packLetter_5 rfl ?_
  refine aw_bipush (v := 97) dX6_packLetter_6 rfl ?_
  refine aw_isub dX6_packLetter_8 ?_
  refine aw_iconst (v := 1) dX6_packLetter_9 rfl ?_
  refine aw_iadd dX6_packLetter_10 ?_
  refine aw_i2l dX6_packLetter_11 ?_
  refine aw_ladd dX6_packLetter_12 ?_
  refine aw_lret q rfl dX6_packLetter_13 ⟨Nat.le_refl _, Nat.le_refl _⟩ ?_
  exact Pst.rf
set_option maxHeartbeats 4000000 in
set_option maxRecDepth 100000 in
theorem sX6_nextWord (hX : IsX n sh) {T : Nat → Int32} (hT : I 480 = T) {s f : Nat} (hs : I 479 5 = nI s) (hs9 : s ≤ 900) (h6 : I 479 6 = nI f) (h8 : I 479 8 = nI f) (hf : f ≤ s) (hKw : KwO L)  : CM yX6_nextWord cX6_nextWord 2 (Option.none : Option FieldType) 2 0 0 [.ref 479] z n sh I L (Eh none (fun J M => NxF I J ∧ NxL L M ∧ J 479 6 = nI (tokW T s f).2.1 ∧ J 479 7 = cTk (tokW T s f).2.2.1 ∧ ((tokW T s f).2.2.1 = 2 → M 479 9 = (tokW T s f).2.2.2.1 ∧ J 479 11 = kwL (tokW T s f).2.2.2.1 10) ∧ J 479 8 = nI f) z n sh) := by
  refine CM.go [some (.ref 479), none] rfl rfl (Nat.le_of_ble_eq_true rfl) (fun X g q => ?_)
  have kl : ∀ (kd : Nat) (M : ML) (w : Int64), kd = (tokW T s f).2.2.1 → NxL L M → M 479 9 = w → (kd = 2 → w = (tokW T s f).2.2.2.1) → ∀ i, i ≤ 10 → ∀ (J : MI), NxF I J → J 479 6 = nI (tokW T s f).2.1 → J 479 7 = cTk (tokW T s f).2.2.1 → J 479 11 = kwL w i → J 479 8 = nI f → AW X g RX6 cX6_nextWord 2 (2, 0, 0) (z, n, sh, 0, 0) (J) (M) 92 [some (.ref 479), some (.int (nI i))] [] := by
    intro kd M w hkd hG hw hww
    refine up_loop (fun i hi ih J hF h6 h7 h11 h8k => ?_)
    refine aw_iload_n dX6_nextWord_92 rfl ?_
    refine aw_bipush (v := 10) dX6_nextWord_93 rfl ?_
    refine aw_icmp_ge (tgt := 123) dX6_nextWord_95 rfl (fun c95 => ?_) (fun c95 => ?_)
    · have e := ge_t (y := 10) (B := 10) rfl (by decide) hi c95
      subst e
      refine aw_vret q rfl dX6_nextWord_123 ⟨Nat.le_refl _, Nat.le_refl _⟩ ?_
      exact ⟨rfl, rfl, rfl, rfl, hF, hG, h6, h7, fun z => ⟨hw.trans (hww (hkd.trans z)), (hww (hkd.trans z)) ▸ h11⟩, h8k⟩
    · have hlt := ge_f (y := 10) (B := 10) rfl (by decide) hi c95
      refine aw_aload_n dX6_nextWord_98 rfl ?_
      refine aw_getR (b := 481) dX6_nextWord_99 fX6_15 hX.rdr.1 (hX.lt (by decide)) rfl hX.rdr.2.2.1 ?_
      refine aw_iload_n dX6_nextWord_102 rfl ?_
      refine aw_laldN (k := i) dX6_nextWord_103 hX.rdr.2.2.2.2.1 (hX.lt (by decide)) hX.rdr.2.2.2.2.2 rfl (by omega) (by decide) ?_
      refine AW.topL ((congrFun (hG 481 (by decide)) i).trans (hKw i hlt)) ?_
      refine aw_aload_n dX6_nextWord_104 rfl ?_
      refine aw_getL dX6_nextWord_105 fX6_97 hX.rdr.1 (hX.lt (by decide)) rfl ?_
      refine AW.topL hw ?_
      refine aw_lcmp dX6_nextWord_108 ?_
      refine aw_if_ne (tgt := 117) dX6_nextWord_109 rfl (fun c109 => ?_) (fun c109 => ?_)
      · skip
        refine aw_iinc dX6_nextWord_117 rfl (ginc rfl) (by decide) rfl ?_
        refine aw_goto (tgt := 92) dX6_nextWord_120 rfl ?_
        refine ih hlt J hF h6 h7 (h11.trans ?_) h8k
        rw [kwL, if_neg (fun z => c109 (lg_cmp0.mpr z))]
      · skip
        refine aw_aload_n dX6_nextWord_112 rfl ?_
        refine aw_iload_n dX6_nextWord_113 rfl ?_
        refine aw_putI dX6_nextWord_114 fX6_76 hX.rdr.1 (hX.lt (by decide)) rfl rfl ?_
        refine aw_iinc dX6_nextWord_117 rfl (ginc rfl) (by decide) rfl ?_
        refine aw_goto (tgt := 92) dX6_nextWord_120 rfl ?_
        refine ih hlt _ (hF.put (by omega)) ((upI_n (Or.inr (by decide))).trans h6) ((upI_n (Or.inr (by decide))).trans h7) (upI_s.trans ?_) ((upI_n (Or.inr (by decide))).trans h8k)
        rw [kwL, if_pos (lg_cmp0.mp c109)]
  have loop : ∀ i, i ≤ runT isLet T s f - f → ∀ (J : MI) (M : ML), NxF I J → NxL L M → J 479 6 = nI (f + i) → M 479 9 = wC T s f i → J 479 8 = nI f → runT isLet T s (f + i) = runT isLet T s f → AW X g RX6 cX6_nextWord 2 (2, 0, 0) (z, n, sh, 0, 0) (J) (M) 5 [some (.ref 479), none] [] := by
    refine up_loop (fun i hi ih J M hF hG ha hw hst8 hr => ?_)
    have hT2 : J 480 = T := (hF.1 480 (by decide)).trans hT
    have hs2 : J 479 5 = nI s := (hF.2 5 (by decide) (by decide) (by decide) (by decide) (by decide)).trans hs
    have hrg := runT_ge (P := isLet) (T := T) (s := s) (t := f)
    have hrl := runT_le (P := isLet) (T := T) hf
    refine aw_aload_n dX6_nextWord_5 rfl ?_
    refine aw_getI dX6_nextWord_6 fX6_56 hX.rdr.1 (hX.lt (by decide)) rfl ?_
    refine AW.top ha ?_
    refine aw_aload_n dX6_nextWord_9 rfl ?_
    refine aw_getI dX6_nextWord_10 fX6_53 hX.rdr.1 (hX.lt (by decide)) rfl ?_
    refine AW.top hs2 ?_
    refine aw_icmp_ge (tgt := 62) dX6_nextWord_13 rfl (fun c13 => ?_) (fun c13 => ?_)
    · have hge := (nI_leI (a := s) (b := f + i) (by omega) (by omega)).mp c13
      have hei : f + i = runT isLet T s f := by omega
      refine aw_aload_n dX6_nextWord_62 rfl ?_
      refine aw_aload_n dX6_nextWord_63 rfl ?_
      refine aw_getI dX6_nextWord_64 fX6_56 hX.rdr.1 (hX.lt (by decide)) rfl ?_
      refine AW.top ha ?_
      refine aw_aload_n dX6_nextWord_67 rfl ?_
      refine aw_getI dX6_nextWord_68 fX6_188 hX.rdr.1 (hX.lt (by decide)) rfl ?_
      refine AW.top hst8 ?_
      refine aw_isub dX6_nextWord_71 ?_
      refine AW.top (nI_less (a := f + i) (b := f) (by omega)) ?_
      refine aw_bipush (v := 8) dX6_nextWord_72 rfl ?_
      refine aw_icmp_gt (tgt := 81) dX6_nextWord_74 rfl (fun c74 => ?_) (fun c74 => ?_)
      · have hgt3 : 8 < runT isLet T s f - f := by
          have := (nI_ltI (a := 8) (b := f + i - f) (by decide) (by omega)).mp c74
          omega
        have hk7 : (4 : Int32) = cTk (tokW T s f).2.2.1 := by
          show _ = cTk (if 8 < runT isLet T s f - f then 1 else 2)
          rw [if_pos hgt3]
          rfl
        refine aw_iconst (v := 4) dX6_nextWord_81 rfl ?_
        refine aw_putI dX6_nextWord_82 fX6_62 hX.rdr.1 (hX.lt (by decide)) rfl rfl ?_
        refine aw_aload_n dX6_nextWord_85 rfl ?_
        refine aw_iconst (v := (-1)) dX6_nextWord_86 rfl ?_
        refine aw_putI dX6_nextWord_87 fX6_76 hX.rdr.1 (hX.lt (by decide)) rfl rfl ?_
        refine aw_iconst (v := 0) dX6_nextWord_90 rfl ?_
        refine aw_istore_n dX6_nextWord_91 (by decide) rfl ?_
        have hei2 : i = runT isLet T s f - f := by omega
        refine kl (tokW T s f).2.2.1 M (wC T s f i) rfl hG hw (fun z => ?_) 0 (Nat.zero_le _) _ ((hF.put (by omega)).put (by omega)) ((upI_n (Or.inr (by decide))).trans ((upI_n (Or.inr (by decide))).trans (ha.trans (by rw [hei]; rfl)))) ((upI_n (Or.inr (by decide))).trans (upI_s.trans hk7)) upI_s ((upI_n (Or.inr (by decide))).trans ((upI_n (Or.inr (by decide))).trans hst8))
        have z : (if 8 < runT isLet T s f - f then 1 else 2) = 2 := z
        rw [if_pos hgt3] at z
        exact absurd z (by decide)
      · have hgt3 : ¬ 8 < runT isLet T s f - f := by
          have := mt (nI_ltI (a := 8) (b := f + i - f) (by decide) (by omega)).mpr c74
          omega
        have hk7 : (1 : Int32) = cTk (tokW T s f).2.2.1 := by
          show _ = cTk (if 8 < runT isLet T s f - f then 1 else 2)
          rw [if_neg hgt3]
          rfl
        refine aw_iconst (v := 1) dX6_nextWord_77 rfl ?_
        refine aw_goto (tgt := 82) dX6_nextWord_78 rfl ?_
        refine aw_putI dX6_nextWord_82 fX6_62 hX.rdr.1 (hX.lt (by decide)) rfl rfl ?_
        refine aw_aload_n dX6_nextWord_85 rfl ?_
        refine aw_iconst (v := (-1)) dX6_nextWord_86 rfl ?_
        refine aw_putI dX6_nextWord_87 fX6_76 hX.rdr.1 (hX.lt (by decide)) rfl rfl ?_
        refine aw_iconst (v := 0) dX6_nextWord_90 rfl ?_
        refine aw_istore_n dX6_nextWord_91 (by decide) rfl ?_
        have hei2 : i = runT isLet T s f - f := by omega
        refine kl (tokW T s f).2.2.1 M (wC T s f i) rfl hG hw (fun z => ?_) 0 (Nat.zero_le _) _ ((hF.put (by omega)).put (by omega)) ((upI_n (Or.inr (by decide))).trans ((upI_n (Or.inr (by decide))).trans (ha.trans (by rw [hei]; rfl)))) ((upI_n (Or.inr (by decide))).trans (upI_s.trans hk7)) upI_s ((upI_n (Or.inr (by decide))).trans ((upI_n (Or.inr (by decide))).trans hst8))
        show _ = wrd T s f (min 8 (runT isLet T s f - f))
        rw [Nat.min_eq_right (by omega), ← hei2]
        exact wC_eq i (by omega) (fun k hk => runT_all (P := isLet) (t := f) (by omega) (by omega))
    · have hls : f + i < s := by
        have := mt (nI_leI (a := s) (b := f + i) (by omega) (by omega)).mpr c13
        omega
      refine aw_aload_n dX6_nextWord_16 rfl ?_
      refine aw_aload_n dX6_nextWord_17 rfl ?_
      refine aw_getI dX6_nextWord_18 fX6_56 hX.rdr.1 (hX.lt (by decide)) rfl ?_
      refine AW.top ha ?_
      refine aw_cV dX6_nextWord_21 kX6_191 mX6_byteAt (sX6_byteAt hX hT2 hs2 hs9 rfl (by omega)) (Nat.le_of_ble_eq_true rfl) hX.rdr.1 ⟨by decide, rfl⟩ (hX.lt (by decide)) rfl rfl (Nat.le_of_ble_eq_true rfl) ⟨Nat.le_refl _, Nat.le_refl _⟩ ?_
      refine aw_cS dX6_nextWord_24 kX6_194 mX6_isLetter (sX6_isLetter) (Nat.le_of_ble_eq_true rfl) rfl rfl (Nat.le_of_ble_eq_true rfl) ⟨Nat.le_refl _, Nat.le_refl _⟩ ?_
      refine aw_if_eq (tgt := 62) dX6_nextWord_27 rfl (fun c27 => ?_) (fun c27 => ?_)
      · have hei : f + i = runT isLet T s f := by
          rw [← hr]
          exact (runT_f (bI0.mp c27)).symm
        refine aw_aload_n dX6_nextWord_62 rfl ?_
        refine aw_aload_n dX6_nextWord_63 rfl ?_
        refine aw_getI dX6_nextWord_64 fX6_56 hX.rdr.1 (hX.lt (by decide)) rfl ?_
        refine AW.top ha ?_
        refine aw_aload_n dX6_nextWord_67 rfl ?_
        refine aw_getI dX6_nextWord_68 fX6_188 hX.rdr.1 (hX.lt (by decide)) rfl ?_
        refine AW.top hst8 ?_
        refine aw_isub dX6_nextWord_71 ?_
        refine AW.top (nI_less (a := f + i) (b := f) (by omega)) ?_
        refine aw_bipush (v := 8) dX6_nextWord_72 rfl ?_
        refine aw_icmp_gt (tgt := 81) dX6_nextWord_74 rfl (fun c74 => ?_) (fun c74 => ?_)
        · have hgt3 : 8 < runT isLet T s f - f := by
            have := (nI_ltI (a := 8) (b := f + i - f) (by decide) (by omega)).mp c74
            omega
          have hk7 : (4 : Int32) = cTk (tokW T s f).2.2.1 := by
            show _ = cTk (if 8 < runT isLet T s f - f then 1 else 2)
            rw [if_pos hgt3]
            rfl
          refine aw_iconst (v := 4) dX6_nextWord_81 rfl ?_
          refine aw_putI dX6_nextWord_82 fX6_62 hX.rdr.1 (hX.lt (by decide)) rfl rfl ?_
          refine aw_aload_n dX6_nextWord_85 rfl ?_
          refine aw_iconst (v := (-1)) dX6_nextWord_86 rfl ?_
          refine aw_putI dX6_nextWord_87 fX6_76 hX.rdr.1 (hX.lt (by decide)) rfl rfl ?_
          refine aw_iconst (v := 0) dX6_nextWord_90 rfl ?_
          refine aw_istore_n dX6_nextWord_91 (by decide) rfl ?_
          have hei2 : i = runT isLet T s f - f := by omega
          refine kl (tokW T s f).2.2.1 M (wC T s f i) rfl hG hw (fun z => ?_) 0 (Nat.zero_le _) _ ((hF.put (by omega)).put (by omega)) ((upI_n (Or.inr (by decide))).trans ((upI_n (Or.inr (by decide))).trans (ha.trans (by rw [hei]; rfl)))) ((upI_n (Or.inr (by decide))).trans (upI_s.trans hk7)) upI_s ((upI_n (Or.inr (by decide))).trans ((upI_n (Or.inr (by decide))).trans hst8))
          have z : (if 8 < runT isLet T s f - f then 1 else 2) = 2 := z
          rw [if_pos hgt3] at z
          exact absurd z (by decide)
        · have hgt3 : ¬ 8 < runT isLet T s f - f := by
            have := mt (nI_ltI (a := 8) (b := f + i - f) (by decide) (by omega)).mpr c74
            omega
          have hk7 : (1 : Int32) = cTk (tokW T s f).2.2.1 := by
            show _ = cTk (if 8 < runT isLet T s f - f then 1 else 2)
            rw [if_neg hgt3]
            rfl
          refine aw_iconst (v := 1) dX6_nextWord_77 rfl ?_
          refine aw_goto (tgt := 82) dX6_nextWord_78 rfl ?_
          refine aw_putI dX6_nextWord_82 fX6_62 hX.rdr.1 (hX.lt (by decide)) rfl rfl ?_
          refine aw_aload_n dX6_nextWord_85 rfl ?_
          refine aw_iconst (v := (-1)) dX6_nextWord_86 rfl ?_
          refine aw_putI dX6_nextWord_87 fX6_76 hX.rdr.1 (hX.lt (by decide)) rfl rfl ?_
          refine aw_iconst (v := 0) dX6_nextWord_90 rfl ?_
          refine aw_istore_n dX6_nextWord_91 (by decide) rfl ?_
          have hei2 : i = runT isLet T s f - f := by omega
          refine kl (tokW T s f).2.2.1 M (wC T s f i) rfl hG hw (fun z => ?_) 0 (Nat.zero_le _) _ ((hF.put (by omega)).put (by omega)) ((upI_n (Or.inr (by decide))).trans ((upI_n (Or.inr (by decide))).trans (ha.trans (by rw [hei]; rfl)))) ((upI_n (Or.inr (by decide))).trans (upI_s.trans hk7)) upI_s ((upI_n (Or.inr (by decide))).trans ((upI_n (Or.inr (by decide))).trans hst8))
          show _ = wrd T s f (min 8 (runT isLet T s f - f))
          rw [Nat.min_eq_right (by omega), ← hei2]
          exact wC_eq i (by omega) (fun k hk => runT_all (P := isLet) (t := f) (by omega) (by omega))
      · have hbt := bI1.mp c27
        have hgt := runT_gt hbt (by decide)
        have hst := runT_t hbt (by decide)
        rw [hr] at hgt
        have hlt : i < runT isLet T s f - f := by omega
        refine aw_aload_n dX6_nextWord_30 rfl ?_
        refine aw_aload_n dX6_nextWord_31 rfl ?_
        refine aw_getL dX6_nextWord_32 fX6_97 hX.rdr.1 (hX.lt (by decide)) rfl ?_
        refine AW.topL hw ?_
        refine aw_aload_n dX6_nextWord_35 rfl ?_
        refine aw_aload_n dX6_nextWord_36 rfl ?_
        refine aw_getI dX6_nextWord_37 fX6_56 hX.rdr.1 (hX.lt (by decide)) rfl ?_
        refine AW.top ha ?_
        refine aw_cV dX6_nextWord_40 kX6_191 mX6_byteAt (sX6_byteAt hX hT2 hs2 hs9 rfl (by omega)) (Nat.le_of_ble_eq_true rfl) hX.rdr.1 ⟨by decide, rfl⟩ (hX.lt (by decide)) rfl rfl (Nat.le_of_ble_eq_true rfl) ⟨Nat.le_refl _, Nat.le_refl _⟩ ?_
        refine aw_cS dX6_nextWord_43 kX6_33 mX6_packLetter (sX6_packLetter) (Nat.le_of_ble_eq_true rfl) rfl rfl (Nat.le_of_ble_eq_true rfl) ⟨Nat.le_refl _, Nat.le_refl _⟩ ?_
        refine aw_putL dX6_nextWord_46 fX6_97 hX.rdr.1 (hX.lt (by decide)) rfl rfl ?_
        refine aw_aload_n dX6_nextWord_49 rfl ?_
        refine aw_dup dX6_nextWord_50 rfl ?_
        refine aw_getI dX6_nextWord_51 fX6_56 hX.rdr.1 (hX.lt (by decide)) rfl ?_
        refine AW.top ha ?_
        refine aw_iconst (v := 1) dX6_nextWord_54 rfl ?_
        refine aw_iadd dX6_nextWord_55 ?_
        refine AW.top (y := nI (f + (i + 1))) (nI_sum _ 1) ?_
        refine aw_putI dX6_nextWord_56 fX6_56 hX.rdr.1 (hX.lt (by decide)) rfl rfl ?_
        refine aw_goto (tgt := 5) dX6_nextWord_59 rfl ?_
        refine ih hlt _ _ (hF.put (by omega)) hG.put upI_s upL_st ((upI_n (Or.inr (by decide))).trans hst8) ?_
        rw [← hr, hst]
        rfl
  refine aw_aload_n dX6_nextWord_0 rfl ?_
  refine aw_lconst (v := 0) dX6_nextWord_1 rfl ?_
  refine aw_putL dX6_nextWord_2 fX6_97 hX.rdr.1 (hX.lt (by decide)) rfl rfl ?_
  exact loop 0 (Nat.zero_le _) I _ NxF.rf NxL.rf.put h6 upL_st h8 rfl
end ClsS
