/-! the class: whys, tips, gaps, wards, lots, envy -/
/-- a home's cell, or none -/
def oB (b : Nat) (f : Option Nat) : Value := match f with
  | none => .null
  | some h => .ref (b + 2 + h)
/-- as the class takes its tips -/
def tpL (N : Nat → Int32) (p : Nat) : Nat → Int32 × Nat
  | 0 => (-1, 8)
  | k + 1 => if (mBid N p (nI (mLikes N p k)) || decide (mWhy N p (mLikes N p k) = 0)) && decide (cAh N p (mLikes N p k) (mBand N p) (iset (fun q => mBid N q (nI (mLikes N p k)) && mHope N q) (nPo N)) < (tpL N p k).2)
    then (nI (mLikes N p k), cAh N p (mLikes N p k) (mBand N p) (iset (fun q => mBid N q (nI (mLikes N p k)) && mHope N q) (nPo N))) else tpL N p k
theorem cAh_8 {N : Nat → Int32} (hN : Cn N) {p h : Nat} {band x : Int32} : cAh N p h band x ≤ 8 := Nat.le_trans (fa_cnt_le _ _) hN.p8
theorem tpL_8 {N : Nat → Int32} (hN : Cn N) {p : Nat} : ∀ k, (tpL N p k).2 ≤ 8
  | 0 => Nat.le_refl 8
  | k + 1 => by
    rw [tpL]
    split
    · exact cAh_8 hN
    · exact tpL_8 hN k
theorem iset_lt (S : Nat → Bool) {n : Nat} (hn : n ≤ 8) : iset S n = nI (nset S n) ∧ nset S n < 1024 := by
  have h := nset_lt S n
  have h2 : 2 ^ n ≤ 2 ^ 8 := Nat.pow_le_pow_right (by decide) hn
  exact ⟨iset_n S n (by omega), by omega⟩
/-- as the class finds its ward -/
def wdL (N : Nat → Int32) : Nat → Int32
  | 0 => -1
  | i + 1 => if decide (wdL N i = -1) || decide (0 < mWant N (N (8 * i + 1)) - mWant N (wdL N i)) || (decide (mWant N (N (8 * i + 1)) - mWant N (wdL N i) = 0) && decide (N (8 * i + 1) < wdL N i)) then N (8 * i + 1) else wdL N i
/-- wishes are of homes that are there -/
def WiO (N : Nat → Int32) : Prop := ∀ p, p < nPo N → ∀ k, k < nWi N p → ∃ h, h < nHo N ∧ N (80 + 18 * p + (12 + k)) = nI h
theorem likes_lt {N : Nat → Int32} (hN : Cn N) (hW : WiO N) {p k : Nat} (hp : p < nPo N) (hk : k < nLikes N p) : mLikes N p k < nHo N := by
  have h10 := hN.h10
  have h8 := hN.p8
  unfold nLikes at hk
  unfold mLikes
  split
  · rename_i e
    rw [if_pos e] at hk
    exact hk
  · rename_i e
    rw [if_neg e] at hk
    obtain ⟨h, h1, h2⟩ := hW p hp k hk
    rw [h2, nI_clamp (by omega)]
    exact h1
theorem nLikes_10 {N : Nat → Int32} (hN : Cn N) {p : Nat} (hp : p < nPo N) : nLikes N p ≤ 10 := by
  have h10 := hN.h10
  have h8 := hN.p8
  have := hN.w6 (show p < 8 by omega)
  unfold nLikes
  split <;> omega
section ClsS
variable {z n b : Nat} {sh : Shp} {I : MI} {L : ML} {N : Nat → Int32} {Q : Nat → Int64}
set_option maxHeartbeats 4000000 in
set_option maxRecDepth 100000 in
theorem sX7_whyNot (hS : IsS n sh b) (hC : CtS I L b N Q) (hO : Ok N) {p : Nat} (hp : p < nPo N) {h : Nat} (hh : h < nHo N)  : CM yX7_whyNot cX7_whyNot 3 (Option.some .int) 3 0 0 [.ref b, .ref (b + 13 + 2 * p), .ref (b + 2 + h)] z n sh I L (Pst (some (.int (mWhy N p h))) z n sh I L) := by
  refine CM.go [some (.ref b), some (.ref (b + 13 + 2 * p)), some (.ref (b + 2 + h))] rfl rfl (Nat.le_of_ble_eq_true rfl) (fun X g q => ?_)
  have hN := hO.1
  have hR := hO.2.1
  have hB := hO.2.2.1
  have hE := hO.2.2.2
  have h8 := hN.p8
  have h10 := hN.h10
  refine aw_aload_n dX7_whyNot_0 rfl ?_
  refine aw_getI dX7_whyNot_1 fX7_99 (hS.po (by omega)) (hS.pb (by omega)) rfl ?_
  refine AW.top (hC.pf h8 (p := p) (w := 8) (by omega) (by decide) (by decide) (by decide)) ?_
  refine aw_if_eq (tgt := 9) dX7_whyNot_4 rfl (fun c4 => ?_) (fun c4 => ?_)
  · refine aw_aload_n dX7_whyNot_9 rfl ?_
    refine aw_getI dX7_whyNot_10 fX7_203 (hS.po (by omega)) (hS.pb (by omega)) rfl ?_
    refine AW.top (hC.br (by omega)) ?_
    refine aw_if_le (tgt := 18) dX7_whyNot_13 rfl (fun c13 => ?_) (fun c13 => ?_)
    · refine aw_aload_n dX7_whyNot_18 rfl ?_
      refine aw_cV dX7_whyNot_19 kX7_95 mX2_isFree (sX2_isFree hS hC hN hh) (Nat.le_of_ble_eq_true rfl) (hS.ho (by omega)) ⟨by decide, rfl⟩ (hS.hb (by omega)) rfl rfl (Nat.le_of_ble_eq_true rfl) ⟨Nat.le_refl _, Nat.le_refl _⟩ ?_
      refine aw_if_ne (tgt := 27) dX7_whyNot_22 rfl (fun c22 => ?_) (fun c22 => ?_)
      · refine aw_aload_n dX7_whyNot_27 rfl ?_
        refine aw_aload_n dX7_whyNot_28 rfl ?_
        refine aw_cV dX7_whyNot_29 kX7_150 mX3_suits (sX3_suits hS hC hN hp hh hR) (Nat.le_of_ble_eq_true rfl) (hS.po (by omega)) ⟨by decide, rfl⟩ (hS.pb (by omega)) rfl rfl (Nat.le_of_ble_eq_true rfl) ⟨Nat.le_refl _, Nat.le_refl _⟩ ?_
        refine aw_if_ne (tgt := 37) dX7_whyNot_32 rfl (fun c32 => ?_) (fun c32 => ?_)
        · refine aw_aload_n dX7_whyNot_37 rfl ?_
          refine aw_aload_n dX7_whyNot_38 rfl ?_
          refine aw_cV dX7_whyNot_39 kX7_164 mX3_bidsFor (sX3_bidsFor hS hC hN hp (by omega)) (Nat.le_of_ble_eq_true rfl) (hS.po (by omega)) ⟨by decide, rfl⟩ (hS.pb (by omega)) rfl rfl (Nat.le_of_ble_eq_true rfl) ⟨Nat.le_refl _, Nat.le_refl _⟩ ?_
          refine aw_if_eq (tgt := 47) dX7_whyNot_42 rfl (fun c42 => ?_) (fun c42 => ?_)
          · refine aw_aload_n dX7_whyNot_47 rfl ?_
            refine aw_cV dX7_whyNot_48 kX7_116 mX3_countBids (sX3_countBids hS hC hN hp) (Nat.le_of_ble_eq_true rfl) (hS.po (by omega)) ⟨by decide, rfl⟩ (hS.pb (by omega)) rfl rfl (Nat.le_of_ble_eq_true rfl) ⟨Nat.le_refl _, Nat.le_refl _⟩ ?_
            refine aw_aload_n dX7_whyNot_51 rfl ?_
            refine aw_getR (b := b + 29) dX7_whyNot_52 fX7_27 hS.k hS.b0 rfl hS.r2 ?_
            refine aw_iconst (v := 5) dX7_whyNot_55 rfl ?_
            refine aw_ialdN (k := 5) dX7_whyNot_56 hS.uk (hS.lt (k := 29) (by decide)) hS.ul rfl (by decide) (by decide) ?_
            refine AW.top (hC.uf (by omega)) ?_
            refine aw_icmp_lt (tgt := 65) dX7_whyNot_57 rfl (fun c57 => ?_) (fun c57 => ?_)
            · refine aw_iconst (v := 0) dX7_whyNot_65 rfl ?_
              refine aw_iret q rfl dX7_whyNot_66 ⟨Nat.le_refl _, Nat.le_refl _⟩ ?_
              refine Pst.iv ?_
              rw [hB.pos hp] at c13
              have c13 := Int32.not_lt.mpr c13
              simp -failIfUnchanged only [bI0, bI1] at c22 c32 c42
              unfold mWhy
              simp [mIn, c4, c13, c22, c32, c42, c57]
            · refine aw_bipush (v := 6) dX7_whyNot_60 rfl ?_
              refine aw_goto (tgt := 66) dX7_whyNot_62 rfl ?_
              refine aw_iret q rfl dX7_whyNot_66 ⟨Nat.le_refl _, Nat.le_refl _⟩ ?_
              refine Pst.iv ?_
              rw [hB.pos hp] at c13
              have c13 := Int32.not_lt.mpr c13
              simp -failIfUnchanged only [bI0, bI1] at c22 c32 c42
              unfold mWhy
              simp [mIn, c4, c13, c22, c32, c42, c57]
          · refine aw_iconst (v := 5) dX7_whyNot_45 rfl ?_
            refine aw_iret q rfl dX7_whyNot_46 ⟨Nat.le_refl _, Nat.le_refl _⟩ ?_
            refine Pst.iv ?_
            rw [hB.pos hp] at c13
            have c13 := Int32.not_lt.mpr c13
            simp -failIfUnchanged only [bI0, bI1] at c22 c32 c42
            unfold mWhy
            simp [mIn, c4, c13, c22, c32, c42]
        · refine aw_iconst (v := 4) dX7_whyNot_35 rfl ?_
          refine aw_iret q rfl dX7_whyNot_36 ⟨Nat.le_refl _, Nat.le_refl _⟩ ?_
          refine Pst.iv ?_
          rw [hB.pos hp] at c13
          have c13 := Int32.not_lt.mpr c13
          simp -failIfUnchanged only [bI0, bI1] at c22 c32
          unfold mWhy
          simp [mIn, c4, c13, c22, c32]
      · refine aw_iconst (v := 3) dX7_whyNot_25 rfl ?_
        refine aw_iret q rfl dX7_whyNot_26 ⟨Nat.le_refl _, Nat.le_refl _⟩ ?_
        refine Pst.iv ?_
        rw [hB.pos hp] at c13
        have c13 := Int32.not_lt.mpr c13
        simp -failIfUnchanged only [bI0, bI1] at c22
        unfold mWhy
        simp [mIn, c4, c13, c22]
    · refine aw_iconst (v := 2) dX7_whyNot_16 rfl ?_
      refine aw_iret q rfl dX7_whyNot_17 ⟨Nat.le_refl _, Nat.le_refl _⟩ ?_
      refine Pst.iv ?_
      rw [hB.pos hp] at c13
      have c13 := fa_of_nle c13
      unfold mWhy
      simp [mIn, c4, c13]
  · refine aw_iconst (v := 1) dX7_whyNot_7 rfl ?_
    refine aw_iret q rfl dX7_whyNot_8 ⟨Nat.le_refl _, Nat.le_refl _⟩ ?_
    refine Pst.iv ?_
    unfold mWhy
    simp [mIn, c4]
set_option maxHeartbeats 4000000 in
set_option maxRecDepth 100000 in
theorem sX7_countLiked (hS : IsS n sh b) (hC : CtS I L b N Q) (hO : Ok N) {p : Nat} (hp : p < nPo N)  : CM yX7_countLiked cX7_countLiked 2 (Option.some .int) 1 0 0 [.ref b, .ref (b + 13 + 2 * p)] z n sh I L (Pst (some (.int (nI (nLikes N p)))) z n sh I L) := by
  refine CM.go [some (.ref b), some (.ref (b + 13 + 2 * p))] rfl rfl (Nat.le_of_ble_eq_true rfl) (fun X g q => ?_)
  have hN := hO.1
  have hR := hO.2.1
  have hB := hO.2.2.1
  have hE := hO.2.2.2
  have h8 := hN.p8
  have h10 := hN.h10
  have hw6 := hN.w6 (show p < 8 by omega)
  have ew := hN.w (show p < 8 by omega)
  refine aw_aload_n dX7_countLiked_0 rfl ?_
  refine aw_getI dX7_countLiked_1 fX7_206 (hS.po (by omega)) (hS.pb (by omega)) rfl ?_
  refine AW.top ((hC.pf h8 (p := p) (w := 11) (by omega) (by decide) (by decide) (by decide)).trans (hN.w (by omega))) ?_
  refine aw_if_ne (tgt := 14) dX7_countLiked_4 rfl (fun c4 => ?_) (fun c4 => ?_)
  · refine aw_aload_n dX7_countLiked_14 rfl ?_
    refine aw_getI dX7_countLiked_15 fX7_206 (hS.po (by omega)) (hS.pb (by omega)) rfl ?_
    refine AW.top ((hC.pf h8 (p := p) (w := 11) (by omega) (by decide) (by decide) (by decide)).trans (hN.w (by omega))) ?_
    refine aw_iret q rfl dX7_countLiked_18 ⟨Nat.le_refl _, Nat.le_refl _⟩ ?_
    refine Pst.iv ?_
    unfold nLikes
    rw [if_neg (by rw [ew]; exact c4)]
  · refine aw_aload_n dX7_countLiked_7 rfl ?_
    refine aw_getI dX7_countLiked_8 fX7_59 hS.k hS.b0 rfl ?_
    refine AW.top (hC.nh.trans hN.h) ?_
    refine aw_goto (tgt := 18) dX7_countLiked_11 rfl ?_
    refine aw_iret q rfl dX7_countLiked_18 ⟨Nat.le_refl _, Nat.le_refl _⟩ ?_
    refine Pst.iv ?_
    unfold nLikes
    rw [if_pos (by rw [ew]; exact c4)]
set_option maxHeartbeats 4000000 in
set_option maxRecDepth 100000 in
theorem sX7_liked (hS : IsS n sh b) (hC : CtS I L b N Q) (hO : Ok N) (hW : WiO N) {p : Nat} (hp : p < nPo N) {y : Int32} {k : Nat} (hy : y = nI k) (hk : k < nLikes N p)  : CM yX7_liked cX7_liked 3 (Option.some (.object "HomesQueue$Home")) 2 0 0 [.ref b, .ref (b + 13 + 2 * p), .int y] z n sh I L (Pst (some (.ref (b + 2 + mLikes N p k))) z n sh I L) := by
  refine CM.go [some (.ref b), some (.ref (b + 13 + 2 * p)), some (.int y)] rfl rfl (Nat.le_of_ble_eq_true rfl) (fun X g q => ?_)
  have hN := hO.1
  have hR := hO.2.1
  have hB := hO.2.2.1
  have hE := hO.2.2.2
  have h8 := hN.p8
  have h10 := hN.h10
  have hw6 := hN.w6 (show p < 8 by omega)
  have ew := hN.w (show p < 8 by omega)
  have hm := likes_lt hN hW hp hk
  have el : mLikes N p k = mLikes N p k := rfl
  unfold nLikes at hk
  conv at el => rhs; unfold mLikes
  refine aw_aload_n dX7_liked_0 rfl ?_
  refine aw_aload_n dX7_liked_1 rfl ?_
  refine aw_getI dX7_liked_2 fX7_206 (hS.po (by omega)) (hS.pb (by omega)) rfl ?_
  refine AW.top ((hC.pf h8 (p := p) (w := 11) (by omega) (by decide) (by decide) (by decide)).trans (hN.w (by omega))) ?_
  refine aw_if_ne (tgt := 12) dX7_liked_5 rfl (fun c5 => ?_) (fun c5 => ?_)
  · have d9 : ¬ N (80 + 18 * p + 11) = 0 := by rw [ew]; exact c5
    rw [if_neg d9] at hk el
    obtain ⟨h, h1, h2⟩ := hW p hp k hk
    rw [h2, nI_clamp (by omega)] at el
    refine aw_aload_n dX7_liked_12 rfl ?_
    refine aw_iload_n dX7_liked_13 rfl ?_
    refine aw_cV dX7_liked_14 kX7_209 mX3_wishAt (sX3_wishAt hS hC hN hp hy hk) (Nat.le_of_ble_eq_true rfl) (hS.po (by omega)) ⟨by decide, rfl⟩ (hS.pb (by omega)) rfl rfl (Nat.le_of_ble_eq_true rfl) ⟨Nat.le_refl _, Nat.le_refl _⟩ ?_
    refine aw_cV dX7_liked_17 kX7_212 mX7_homeAt (sX7_homeAt hS hC hO (h := mLikes N p k) (by rw [el]; exact h2) hm) (Nat.le_of_ble_eq_true rfl) hS.k ⟨by decide, rfl⟩ hS.b0 rfl rfl (Nat.le_of_ble_eq_true rfl) ⟨Nat.le_refl _, Nat.le_refl _⟩ ?_
    refine aw_aret q rfl (Or.inr ⟨_, rfl⟩) dX7_liked_20 ⟨Nat.le_refl _, Nat.le_refl _⟩ ?_
    exact Pst.rf
  · have d9 : N (80 + 18 * p + 11) = 0 := by rw [ew]; exact c5
    rw [if_pos d9] at hk el
    refine aw_iload_n dX7_liked_8 rfl ?_
    refine aw_goto (tgt := 17) dX7_liked_9 rfl ?_
    refine aw_cV dX7_liked_17 kX7_212 mX7_homeAt (sX7_homeAt hS hC hO (h := mLikes N p k) (by rw [el]; exact hy) hm) (Nat.le_of_ble_eq_true rfl) hS.k ⟨by decide, rfl⟩ hS.b0 rfl rfl (Nat.le_of_ble_eq_true rfl) ⟨Nat.le_refl _, Nat.le_refl _⟩ ?_
    refine aw_aret q rfl (Or.inr ⟨_, rfl⟩) dX7_liked_20 ⟨Nat.le_refl _, Nat.le_refl _⟩ ?_
    exact Pst.rf
set_option maxHeartbeats 4000000 in
set_option maxRecDepth 100000 in
theorem sX7_bestTip (hS : IsS n sh b) (hC : CtS I L b N Q) (hO : Ok N) (hW : WiO N) {p : Nat} (hp : p < nPo N)  : CM yX7_bestTip cX7_bestTip 8 (Option.some .int) 5 0 0 [.ref b, .ref (b + 13 + 2 * p)] z n sh I L (Pst (some (.int ((tpL N p (nLikes N p)).1))) z n sh I L) := by
  refine CM.go [some (.ref b), some (.ref (b + 13 + 2 * p)), none, none, none, none, none, none] rfl rfl (Nat.le_of_ble_eq_true rfl) (fun X g q => ?_)
  have hN := hO.1
  have hR := hO.2.1
  have hB := hO.2.2.1
  have hE := hO.2.2.2
  have h8 := hN.p8
  have h10 := hN.h10
  have hk10 := nLikes_10 hN hp
  have loop : ∀ i, i ≤ nLikes N p → ∀ a6 a7, AW X g RX7 cX7_bestTip 8 (5, 0, 0) (z, n, sh, 0, 0) (I) (L) 15 [some (.ref b), some (.ref (b + 13 + 2 * p)), some (.int (tpL N p i).1), some (.int (nI (tpL N p i).2)), some (.int (nI (nLikes N p))), some (.int (nI i)), a6, a7] [] := by
    refine up_loop (fun i hi ih a6 a7 => ?_)
    have h98 := tpL_8 hN (p := p) i
    have h97 := cAh_8 hN (p := p) (h := mLikes N p i) (band := mBand N p) (x := (iset (fun q => mBid N q (nI (mLikes N p i)) && mHope N q) (nPo N)))
    obtain ⟨es, hs⟩ := iset_lt (fun q => mBid N q (nI (mLikes N p i)) && mHope N q) h8
    refine aw_iload dX7_bestTip_15 rfl ?_
    refine aw_iload dX7_bestTip_17 rfl ?_
    refine aw_icmp_ge (tgt := 99) dX7_bestTip_19 rfl (fun c19 => ?_) (fun c19 => ?_)
    · have e := ge_t rfl (by omega) hi c19
      subst e
      refine aw_iload_n dX7_bestTip_99 rfl ?_
      refine aw_iret q rfl dX7_bestTip_100 ⟨Nat.le_refl _, Nat.le_refl _⟩ ?_
      exact Pst.rf
    · have hlt := ge_f rfl (by omega) hi c19
      have hm := likes_lt hN hW hp hlt
      refine aw_aload_n dX7_bestTip_22 rfl ?_
      refine aw_aload_n dX7_bestTip_23 rfl ?_
      refine aw_iload dX7_bestTip_24 rfl ?_
      refine aw_cV dX7_bestTip_26 kX7_222 mX7_liked (sX7_liked hS hC hO hW hp rfl hlt) (Nat.le_of_ble_eq_true rfl) hS.k ⟨by decide, rfl⟩ hS.b0 rfl rfl (Nat.le_of_ble_eq_true rfl) ⟨Nat.le_refl _, Nat.le_refl _⟩ ?_
      refine aw_astore dX7_bestTip_29 (by decide) rfl ?_
      refine aw_aload dX7_bestTip_31 rfl ?_
      refine aw_ifnull dX7_bestTip_33 ?_
      refine aw_aload_n dX7_bestTip_36 rfl ?_
      refine aw_aload dX7_bestTip_37 rfl ?_
      refine aw_cV dX7_bestTip_39 kX7_164 mX3_bidsFor (sX3_bidsFor hS hC hN hp (by omega)) (Nat.le_of_ble_eq_true rfl) (hS.po (by omega)) ⟨by decide, rfl⟩ (hS.pb (by omega)) rfl rfl (Nat.le_of_ble_eq_true rfl) ⟨Nat.le_refl _, Nat.le_refl _⟩ ?_
      refine aw_if_ne (tgt := 58) dX7_bestTip_42 rfl (fun c42 => ?_) (fun c42 => ?_)
      · refine aw_aload_n dX7_bestTip_58 rfl ?_
        refine aw_aload_n dX7_bestTip_59 rfl ?_
        refine aw_aload dX7_bestTip_60 rfl ?_
        refine aw_aload_n dX7_bestTip_62 rfl ?_
        refine aw_aload_n dX7_bestTip_63 rfl ?_
        refine aw_cV dX7_bestTip_64 kX7_182 mX7_bandNow (sX7_bandNow hS hC hO hp) (Nat.le_of_ble_eq_true rfl) hS.k ⟨by decide, rfl⟩ hS.b0 rfl rfl (Nat.le_of_ble_eq_true rfl) ⟨Nat.le_refl _, Nat.le_refl _⟩ ?_
        refine aw_aload_n dX7_bestTip_67 rfl ?_
        refine aw_aload dX7_bestTip_68 rfl ?_
        refine aw_cV dX7_bestTip_70 kX7_197 mX7_biddersFor (sX7_biddersFor hS hC hO hm) (Nat.le_of_ble_eq_true rfl) hS.k ⟨by decide, rfl⟩ hS.b0 rfl rfl (Nat.le_of_ble_eq_true rfl) ⟨Nat.le_refl _, Nat.le_refl _⟩ ?_
        refine aw_cV dX7_bestTip_73 kX7_200 mX7_countAhead (sX7_countAhead hS hC hO hp hm es hs) (Nat.le_of_ble_eq_true rfl) hS.k ⟨by decide, rfl⟩ hS.b0 rfl rfl (Nat.le_of_ble_eq_true rfl) ⟨Nat.le_refl _, Nat.le_refl _⟩ ?_
        refine aw_istore dX7_bestTip_76 (by decide) rfl ?_
        refine aw_iload dX7_bestTip_78 rfl ?_
        refine aw_iload_n dX7_bestTip_80 rfl ?_
        refine aw_icmp_ge (tgt := 93) dX7_bestTip_81 rfl (fun c81 => ?_) (fun c81 => ?_)
        · refine aw_iinc dX7_bestTip_93 rfl (ginc rfl) (by decide) rfl ?_
          refine aw_goto (tgt := 15) dX7_bestTip_96 rfl ?_
          have f42 := bI1.mp c42
          have d9 : ¬ cAh N p (mLikes N p i) (mBand N p) (iset (fun q => mBid N q (nI (mLikes N p i)) && mHope N q) (nPo N)) < (tpL N p i).2 := by
            have := (nI_leI (by omega) (by omega)).mp c81
            omega
          have e9 : tpL N p (i + 1) = tpL N p i := by
            rw [tpL, if_neg (by simp [d9])]
          have := ih hlt
          rw [e9] at this
          exact this _ _
        · refine aw_aload dX7_bestTip_84 rfl ?_
          refine aw_getI dX7_bestTip_86 fX7_237 (hS.ho (by omega)) (hS.hb (by omega)) rfl ?_
          refine AW.top (hC.hn (by omega)) ?_
          refine aw_istore_n dX7_bestTip_89 (by decide) rfl ?_
          refine aw_iload dX7_bestTip_90 rfl ?_
          refine aw_istore_n dX7_bestTip_92 (by decide) rfl ?_
          refine aw_iinc dX7_bestTip_93 rfl (ginc rfl) (by decide) rfl ?_
          refine aw_goto (tgt := 15) dX7_bestTip_96 rfl ?_
          have f42 := bI1.mp c42
          have d9 : cAh N p (mLikes N p i) (mBand N p) (iset (fun q => mBid N q (nI (mLikes N p i)) && mHope N q) (nPo N)) < (tpL N p i).2 := by
            have := mt (nI_leI (by omega) (by omega)).mpr c81
            omega
          have e9 : tpL N p (i + 1) = (nI (mLikes N p i), cAh N p (mLikes N p i) (mBand N p) (iset (fun q => mBid N q (nI (mLikes N p i)) && mHope N q) (nPo N))) := by
            rw [tpL, if_pos (by simp [d9, f42])]
          have := ih hlt
          rw [e9] at this
          exact this _ _
      · refine aw_aload_n dX7_bestTip_45 rfl ?_
        refine aw_aload_n dX7_bestTip_46 rfl ?_
        refine aw_aload dX7_bestTip_47 rfl ?_
        refine aw_cV dX7_bestTip_49 kX7_226 mX7_whyNot (sX7_whyNot hS hC hO hp hm) (Nat.le_of_ble_eq_true rfl) hS.k ⟨by decide, rfl⟩ hS.b0 rfl rfl (Nat.le_of_ble_eq_true rfl) ⟨Nat.le_refl _, Nat.le_refl _⟩ ?_
        refine aw_if_eq (tgt := 58) dX7_bestTip_52 rfl (fun c52 => ?_) (fun c52 => ?_)
        · refine aw_aload_n dX7_bestTip_58 rfl ?_
          refine aw_aload_n dX7_bestTip_59 rfl ?_
          refine aw_aload dX7_bestTip_60 rfl ?_
          refine aw_aload_n dX7_bestTip_62 rfl ?_
          refine aw_aload_n dX7_bestTip_63 rfl ?_
          refine aw_cV dX7_bestTip_64 kX7_182 mX7_bandNow (sX7_bandNow hS hC hO hp) (Nat.le_of_ble_eq_true rfl) hS.k ⟨by decide, rfl⟩ hS.b0 rfl rfl (Nat.le_of_ble_eq_true rfl) ⟨Nat.le_refl _, Nat.le_refl _⟩ ?_
          refine aw_aload_n dX7_bestTip_67 rfl ?_
          refine aw_aload dX7_bestTip_68 rfl ?_
          refine aw_cV dX7_bestTip_70 kX7_197 mX7_biddersFor (sX7_biddersFor hS hC hO hm) (Nat.le_of_ble_eq_true rfl) hS.k ⟨by decide, rfl⟩ hS.b0 rfl rfl (Nat.le_of_ble_eq_true rfl) ⟨Nat.le_refl _, Nat.le_refl _⟩ ?_
          refine aw_cV dX7_bestTip_73 kX7_200 mX7_countAhead (sX7_countAhead hS hC hO hp hm es hs) (Nat.le_of_ble_eq_true rfl) hS.k ⟨by decide, rfl⟩ hS.b0 rfl rfl (Nat.le_of_ble_eq_true rfl) ⟨Nat.le_refl _, Nat.le_refl _⟩ ?_
          refine aw_istore dX7_bestTip_76 (by decide) rfl ?_
          refine aw_iload dX7_bestTip_78 rfl ?_
          refine aw_iload_n dX7_bestTip_80 rfl ?_
          refine aw_icmp_ge (tgt := 93) dX7_bestTip_81 rfl (fun c81 => ?_) (fun c81 => ?_)
          · refine aw_iinc dX7_bestTip_93 rfl (ginc rfl) (by decide) rfl ?_
            refine aw_goto (tgt := 15) dX7_bestTip_96 rfl ?_
            have f42 := bI0.mp c42
            have d9 : ¬ cAh N p (mLikes N p i) (mBand N p) (iset (fun q => mBid N q (nI (mLikes N p i)) && mHope N q) (nPo N)) < (tpL N p i).2 := by
              have := (nI_leI (by omega) (by omega)).mp c81
              omega
            have e9 : tpL N p (i + 1) = tpL N p i := by
              rw [tpL, if_neg (by simp [d9])]
            have := ih hlt
            rw [e9] at this
            exact this _ _
          · refine aw_aload dX7_bestTip_84 rfl ?_
            refine aw_getI dX7_bestTip_86 fX7_237 (hS.ho (by omega)) (hS.hb (by omega)) rfl ?_
            refine AW.top (hC.hn (by omega)) ?_
            refine aw_istore_n dX7_bestTip_89 (by decide) rfl ?_
            refine aw_iload dX7_bestTip_90 rfl ?_
            refine aw_istore_n dX7_bestTip_92 (by decide) rfl ?_
            refine aw_iinc dX7_bestTip_93 rfl (ginc rfl) (by decide) rfl ?_
            refine aw_goto (tgt := 15) dX7_bestTip_96 rfl ?_
            have f42 := bI0.mp c42
            have d9 : cAh N p (mLikes N p i) (mBand N p) (iset (fun q => mBid N q (nI (mLikes N p i)) && mHope N q) (nPo N)) < (tpL N p i).2 := by
              have := mt (nI_leI (by omega) (by omega)).mpr c81
              omega
            have e9 : tpL N p (i + 1) = (nI (mLikes N p i), cAh N p (mLikes N p i) (mBand N p) (iset (fun q => mBid N q (nI (mLikes N p i)) && mHope N q) (nPo N))) := by
              rw [tpL, if_pos (by simp [d9, c52])]
            have := ih hlt
            rw [e9] at this
            exact this _ _
        · refine aw_goto (tgt := 93) dX7_bestTip_55 rfl ?_
          refine aw_iinc dX7_bestTip_93 rfl (ginc rfl) (by decide) rfl ?_
          refine aw_goto (tgt := 15) dX7_bestTip_96 rfl ?_
          have f42 := bI0.mp c42
          have e9 : tpL N p (i + 1) = tpL N p i := by
            rw [tpL, if_neg (by simp [f42, c52])]
          have := ih hlt
          rw [e9] at this
          exact this _ _
  refine aw_iconst (v := (-1)) dX7_bestTip_0 rfl ?_
  refine aw_istore_n dX7_bestTip_1 (by decide) rfl ?_
  refine aw_bipush (v := 8) dX7_bestTip_2 rfl ?_
  refine aw_istore_n dX7_bestTip_4 (by decide) rfl ?_
  refine aw_aload_n dX7_bestTip_5 rfl ?_
  refine aw_aload_n dX7_bestTip_6 rfl ?_
  refine aw_cV dX7_bestTip_7 kX7_219 mX7_countLiked (sX7_countLiked hS hC hO hp) (Nat.le_of_ble_eq_true rfl) hS.k ⟨by decide, rfl⟩ hS.b0 rfl rfl (Nat.le_of_ble_eq_true rfl) ⟨Nat.le_refl _, Nat.le_refl _⟩ ?_
  refine aw_istore dX7_bestTip_10 (by decide) rfl ?_
  refine aw_iconst (v := 0) dX7_bestTip_12 rfl ?_
  refine aw_istore dX7_bestTip_13 (by decide) rfl ?_
  exact loop 0 (Nat.zero_le _) none none
set_option maxHeartbeats 4000000 in
set_option maxRecDepth 100000 in
theorem sX7_bandsToBeFirst (hS : IsS n sh b) (hC : CtS I L b N Q) (hO : Ok N) {p : Nat} (hp : p < nPo N) {h : Nat} (hh : h < nHo N)  : CM yX7_bandsToBeFirst cX7_bandsToBeFirst 6 (Option.some .int) 5 0 0 [.ref b, .ref (b + 13 + 2 * p), .ref (b + 2 + h)] z n sh I L (Pst (some (.int (iFirst (fun l => decide (cAh N p h (mBand N p - nI l) (iset (fun q => mBid N q (nI h) && mHope N q) (nPo N)) = 0)) (mBand N p).toNatClampNeg))) z n sh I L) := by
  refine CM.go [some (.ref b), some (.ref (b + 13 + 2 * p)), some (.ref (b + 2 + h)), none, none, none] rfl rfl (Nat.le_of_ble_eq_true rfl) (fun X g q => ?_)
  have hN := hO.1
  have hR := hO.2.1
  have hB := hO.2.2.1
  have hE := hO.2.2.2
  have h8 := hN.p8
  have h10 := hN.h10
  obtain ⟨bd, eb, hb1, hb2⟩ := mBand_rg hR hp
  have ec : (mBand N p).toNatClampNeg = bd := by rw [eb]; exact nI_clamp (by omega)
  obtain ⟨es, hs⟩ := iset_lt (fun q => mBid N q (nI h) && mHope N q) h8
  have loop : ∀ i, i ≤ (mBand N p).toNatClampNeg → fa_first (fun l => decide (cAh N p h (mBand N p - nI l) (iset (fun q => mBid N q (nI h) && mHope N q) (nPo N)) = 0)) i = i → AW X g RX7 cX7_bandsToBeFirst 6 (5, 0, 0) (z, n, sh, 0, 0) (I) (L) 16 [some (.ref b), some (.ref (b + 13 + 2 * p)), some (.ref (b + 2 + h)), some (.int (iset (fun q => mBid N q (nI h) && mHope N q) (nPo N))), some (.int (mBand N p)), some (.int (nI i))] [] := by
    refine up_loop (fun i hi ih hfi => ?_)
    refine aw_iload dX7_bandsToBeFirst_16 rfl ?_
    refine aw_iload dX7_bandsToBeFirst_18 rfl ?_
    refine aw_icmp_ge (tgt := 53) dX7_bandsToBeFirst_20 rfl (fun c20 => ?_) (fun c20 => ?_)
    · rw [ec] at hi
      rw [eb] at c20
      have e := ge_t rfl (by omega) hi c20
      subst e
      refine aw_iconst (v := (-1)) dX7_bandsToBeFirst_53 rfl ?_
      refine aw_iret q rfl dX7_bandsToBeFirst_54 ⟨Nat.le_refl _, Nat.le_refl _⟩ ?_
      refine Pst.iv ?_
      unfold iFirst
      rw [ec, hfi, if_neg (Nat.lt_irrefl _)]
    · have hlt : i < (mBand N p).toNatClampNeg := by
        rw [ec] at hi ⊢
        rw [eb] at c20
        exact ge_f rfl (by omega) hi c20
      refine aw_iload dX7_bandsToBeFirst_23 rfl ?_
      refine aw_iconst (v := 4) dX7_bandsToBeFirst_25 rfl ?_
      refine aw_icmp_ge (tgt := 53) dX7_bandsToBeFirst_26 rfl (fun c26 => ?_) (fun c26 => ?_)
      · exact absurd ((nI_leI (a := 4) (by decide) (by omega)).mp c26) (by omega)
      · skip
        refine aw_aload_n dX7_bandsToBeFirst_29 rfl ?_
        refine aw_aload_n dX7_bandsToBeFirst_30 rfl ?_
        refine aw_aload_n dX7_bandsToBeFirst_31 rfl ?_
        refine aw_iload dX7_bandsToBeFirst_32 rfl ?_
        refine aw_iload dX7_bandsToBeFirst_34 rfl ?_
        refine aw_isub dX7_bandsToBeFirst_36 ?_
        refine aw_iload_n dX7_bandsToBeFirst_37 rfl ?_
        refine aw_cV dX7_bandsToBeFirst_38 kX7_200 mX7_countAhead (sX7_countAhead hS hC hO hp hh es hs) (Nat.le_of_ble_eq_true rfl) hS.k ⟨by decide, rfl⟩ hS.b0 rfl rfl (Nat.le_of_ble_eq_true rfl) ⟨Nat.le_refl _, Nat.le_refl _⟩ ?_
        refine aw_if_ne (tgt := 47) dX7_bandsToBeFirst_41 rfl (fun c41 => ?_) (fun c41 => ?_)
        · have d41 : ¬ cAh N p h (mBand N p - nI i) (iset (fun q => mBid N q (nI h) && mHope N q) (nPo N)) = 0 := fun q => c41 (by rw [q]; rfl)
          refine aw_iinc dX7_bandsToBeFirst_47 rfl (ginc rfl) (by decide) rfl ?_
          refine aw_goto (tgt := 16) dX7_bandsToBeFirst_50 rfl ?_
          exact ih hlt (fa_first_no1 hfi (by simpa using d41))
        · have d41 : cAh N p h (mBand N p - nI i) (iset (fun q => mBid N q (nI h) && mHope N q) (nPo N)) = 0 := (nI_eq (b := 0) (by have := cAh_8 hN (p := p) (h := h) (band := mBand N p - nI i) (x := (iset (fun q => mBid N q (nI h) && mHope N q) (nPo N))); omega) (by decide)).mp c41
          refine aw_iload dX7_bandsToBeFirst_44 rfl ?_
          refine aw_iret q rfl dX7_bandsToBeFirst_46 ⟨Nat.le_refl _, Nat.le_refl _⟩ ?_
          refine Pst.iv ?_
          have e9 : fa_first (fun l => decide (cAh N p h (mBand N p - nI l) (iset (fun q => mBid N q (nI h) && mHope N q) (nPo N)) = 0)) (mBand N p).toNatClampNeg = i := fa_first_yes1 hfi (by simpa using d41) hlt
          unfold iFirst
          rw [e9, if_pos hlt]
  refine aw_aload_n dX7_bandsToBeFirst_0 rfl ?_
  refine aw_aload_n dX7_bandsToBeFirst_1 rfl ?_
  refine aw_cV dX7_bandsToBeFirst_2 kX7_197 mX7_biddersFor (sX7_biddersFor hS hC hO hh) (Nat.le_of_ble_eq_true rfl) hS.k ⟨by decide, rfl⟩ hS.b0 rfl rfl (Nat.le_of_ble_eq_true rfl) ⟨Nat.le_refl _, Nat.le_refl _⟩ ?_
  refine aw_istore_n dX7_bandsToBeFirst_5 (by decide) rfl ?_
  refine aw_aload_n dX7_bandsToBeFirst_6 rfl ?_
  refine aw_aload_n dX7_bandsToBeFirst_7 rfl ?_
  refine aw_cV dX7_bandsToBeFirst_8 kX7_182 mX7_bandNow (sX7_bandNow hS hC hO hp) (Nat.le_of_ble_eq_true rfl) hS.k ⟨by decide, rfl⟩ hS.b0 rfl rfl (Nat.le_of_ble_eq_true rfl) ⟨Nat.le_refl _, Nat.le_refl _⟩ ?_
  refine aw_istore dX7_bandsToBeFirst_11 (by decide) rfl ?_
  refine aw_iconst (v := 0) dX7_bandsToBeFirst_13 rfl ?_
  refine aw_istore dX7_bandsToBeFirst_14 (by decide) rfl ?_
  exact loop 0 (Nat.zero_le _) rfl
set_option maxHeartbeats 4000000 in
set_option maxRecDepth 100000 in
theorem sX7_shortestWard (hS : IsS n sh b) (hC : CtS I L b N Q) (hO : Ok N)  : CM yX7_shortestWard cX7_shortestWard 5 (Option.some .int) 3 0 0 [.ref b] z n sh I L (Pst (some (.int (wdL N (nHo N)))) z n sh I L) := by
  refine CM.go [some (.ref b), none, none, none, none] rfl rfl (Nat.le_of_ble_eq_true rfl) (fun X g q => ?_)
  have hN := hO.1
  have hR := hO.2.1
  have hB := hO.2.2.1
  have hE := hO.2.2.2
  have h8 := hN.p8
  have h10 := hN.h10
  have loop : ∀ i, i ≤ nHo N → ∀ a3 a4, AW X g RX7 cX7_shortestWard 5 (3, 0, 0) (z, n, sh, 0, 0) (I) (L) 4 [some (.ref b), some (.int (wdL N i)), some (.int (nI i)), a3, a4] [] := by
    refine up_loop (fun i hi ih a3 a4 => ?_)
    refine aw_iload_n dX7_shortestWard_4 rfl ?_
    refine aw_aload_n dX7_shortestWard_5 rfl ?_
    refine aw_getI dX7_shortestWard_6 fX7_59 hS.k hS.b0 rfl ?_
    refine AW.top (hC.nh.trans hN.h) ?_
    refine aw_icmp_ge (tgt := 67) dX7_shortestWard_9 rfl (fun c9 => ?_) (fun c9 => ?_)
    · have e := ge_t rfl (by omega) hi c9
      subst e
      refine aw_iload_n dX7_shortestWard_67 rfl ?_
      refine aw_iret q rfl dX7_shortestWard_68 ⟨Nat.le_refl _, Nat.le_refl _⟩ ?_
      exact Pst.rf
    · have hlt := ge_f rfl (by omega) hi c9
      refine aw_aload_n dX7_shortestWard_12 rfl ?_
      refine aw_getR (b := b + 1) dX7_shortestWard_13 fX7_11 hS.k hS.b0 rfl hS.r0 ?_
      refine aw_iload_n dX7_shortestWard_16 rfl ?_
      refine aw_homes (h := i) hS rfl (by omega) dX7_shortestWard_17 ?_
      refine aw_getI dX7_shortestWard_18 fX7_140 (hS.ho (by omega)) (hS.hb (by omega)) rfl ?_
      refine AW.top (hC.hf h10 (h := i) (w := 1) (by omega) (by decide)) ?_
      refine aw_istore_n dX7_shortestWard_21 (by decide) rfl ?_
      refine aw_iload_n dX7_shortestWard_22 rfl ?_
      refine aw_iconst (v := (-1)) dX7_shortestWard_23 rfl ?_
      refine aw_icmp_ne (tgt := 31) dX7_shortestWard_24 rfl (fun c24 => ?_) (fun c24 => ?_)
      · refine aw_aload_n dX7_shortestWard_31 rfl ?_
        refine aw_iload_n dX7_shortestWard_32 rfl ?_
        refine aw_cV dX7_shortestWard_33 kX7_143 mX7_wantOf (sX7_wantOf hS hC hO) (Nat.le_of_ble_eq_true rfl) hS.k ⟨by decide, rfl⟩ hS.b0 rfl rfl (Nat.le_of_ble_eq_true rfl) ⟨Nat.le_refl _, Nat.le_refl _⟩ ?_
        refine aw_aload_n dX7_shortestWard_36 rfl ?_
        refine aw_iload_n dX7_shortestWard_37 rfl ?_
        refine aw_cV dX7_shortestWard_38 kX7_143 mX7_wantOf (sX7_wantOf hS hC hO) (Nat.le_of_ble_eq_true rfl) hS.k ⟨by decide, rfl⟩ hS.b0 rfl rfl (Nat.le_of_ble_eq_true rfl) ⟨Nat.le_refl _, Nat.le_refl _⟩ ?_
        refine aw_isub dX7_shortestWard_41 ?_
        refine aw_istore dX7_shortestWard_42 (by decide) rfl ?_
        refine aw_iload dX7_shortestWard_44 rfl ?_
        refine aw_if_gt (tgt := 59) dX7_shortestWard_46 rfl (fun c46 => ?_) (fun c46 => ?_)
        · refine aw_iload_n dX7_shortestWard_59 rfl ?_
          refine aw_istore_n dX7_shortestWard_60 (by decide) rfl ?_
          refine aw_iinc dX7_shortestWard_61 rfl (ginc rfl) (by decide) rfl ?_
          refine aw_goto (tgt := 4) dX7_shortestWard_64 rfl ?_
          have e9 : wdL N (i + 1) = N (8 * i + 1) := by
            rw [wdL, if_pos (by simp [c46])]
          have := ih hlt
          rw [e9] at this
          exact this _ _
        · refine aw_iload dX7_shortestWard_49 rfl ?_
          refine aw_if_ne (tgt := 61) dX7_shortestWard_51 rfl (fun c51 => ?_) (fun c51 => ?_)
          · refine aw_iinc dX7_shortestWard_61 rfl (ginc rfl) (by decide) rfl ?_
            refine aw_goto (tgt := 4) dX7_shortestWard_64 rfl ?_
            have e9 : wdL N (i + 1) = wdL N i := by
              rw [wdL, if_neg (by simp [c24, c46, c51])]
            have := ih hlt
            rw [e9] at this
            exact this _ _
          · refine aw_iload_n dX7_shortestWard_54 rfl ?_
            refine aw_iload_n dX7_shortestWard_55 rfl ?_
            refine aw_icmp_ge (tgt := 61) dX7_shortestWard_56 rfl (fun c56 => ?_) (fun c56 => ?_)
            · refine aw_iinc dX7_shortestWard_61 rfl (ginc rfl) (by decide) rfl ?_
              refine aw_goto (tgt := 4) dX7_shortestWard_64 rfl ?_
              have c56 := Int32.not_lt.mpr c56
              have e9 : wdL N (i + 1) = wdL N i := by
                rw [wdL, if_neg (by simp [c24, c46, c56])]
              have := ih hlt
              rw [e9] at this
              exact this _ _
            · refine aw_iload_n dX7_shortestWard_59 rfl ?_
              refine aw_istore_n dX7_shortestWard_60 (by decide) rfl ?_
              refine aw_iinc dX7_shortestWard_61 rfl (ginc rfl) (by decide) rfl ?_
              refine aw_goto (tgt := 4) dX7_shortestWard_64 rfl ?_
              have c56 := fa_of_nle c56
              have e9 : wdL N (i + 1) = N (8 * i + 1) := by
                rw [wdL, if_pos (by simp [c51, c56])]
              have := ih hlt
              rw [e9] at this
              exact this _ _
      · refine aw_iconst (v := 1) dX7_shortestWard_27 rfl ?_
        refine aw_goto (tgt := 42) dX7_shortestWard_28 rfl ?_
        refine aw_istore dX7_shortestWard_42 (by decide) rfl ?_
        refine aw_iload dX7_shortestWard_44 rfl ?_
        refine aw_if_gt (tgt := 59) dX7_shortestWard_46 rfl (fun c46 => ?_) (fun c46 => ?_)
        · skip
          refine aw_iload_n dX7_shortestWard_59 rfl ?_
          refine aw_istore_n dX7_shortestWard_60 (by decide) rfl ?_
          refine aw_iinc dX7_shortestWard_61 rfl (ginc rfl) (by decide) rfl ?_
          refine aw_goto (tgt := 4) dX7_shortestWard_64 rfl ?_
          have e9 : wdL N (i + 1) = N (8 * i + 1) := by
            rw [wdL, if_pos (by simp [c24])]
          have := ih hlt
          rw [e9] at this
          exact this _ _
        · exact absurd (by decide) c46
  refine aw_iconst (v := (-1)) dX7_shortestWard_0 rfl ?_
  refine aw_istore_n dX7_shortestWard_1 (by decide) rfl ?_
  refine aw_iconst (v := 0) dX7_shortestWard_2 rfl ?_
  refine aw_istore_n dX7_shortestWard_3 (by decide) rfl ?_
  exact loop 0 (Nat.zero_le _) none none
end ClsS
