/-! the class: bids as they would, weeks ahead -/
section Bds
variable {N : Nat → Int32} {p : Nat}
theorem bidsL_Iv (iv : Iv N) (hp : p < 8) {k : Nat} (hk : k ≤ nLikes N p) : Iv (mBidsL N p k).1 := by
  obtain ⟨w, e, -⟩ := bidsL_inv (b := 30) ⟨iv.1, iv.2.1, iv.1.o30⟩ hp k hk
  exact ⟨w.1, w.2.1, iv.2.2.cong iv.1 (fun j _ hj => e j (fun q => hj (by unfold irj; omega)))⟩
theorem bidsBy_Iv (iv : Iv N) (hp : p < 8) : Iv (mBidsBy N p).1 := bidsL_Iv iv hp (Nat.le_refl _)
theorem allL_Iv (iv : Iv N) : ∀ i, i ≤ 8 → Iv (mAllL N i).1
  | 0, _ => iv
  | i + 1, hi => bidsBy_Iv (allL_Iv iv i (by omega)) (by omega)
theorem allBid_Iv (iv : Iv N) : Iv (mAllBid N).1 := allL_Iv iv _ iv.1.p8
theorem why_no {h : Nat} (hB : BrO N) (hp : p < nPo N) (hh : mHope N p = false) : ¬ mWhy N p h = 0 := by
  unfold mWhy
  cases hi : mIn N p with
  | false => simp
  | true =>
    unfold mHope at hh
    rw [hi, Bool.true_and] at hh
    obtain ⟨v, u, v1, u1, ev, eu, hv⟩ := hB p hp
    have h0 : ¬ N (80 + 18 * p + 6) = 0 := by simpa using hh
    have h1 : ¬ N (80 + 18 * p + 6) ≤ 0 := by
      rw [ev] at h0 ⊢
      intro q
      have := (nI_leI (a := v) (b := 0) (by omega) (by decide)).mp q
      exact h0 (by rw [show v = 0 by omega]; rfl)
    rw [if_neg (by simp), if_pos h1]
    decide
theorem why_full {h : Nat} (hf : ¬ nI (pcn (nBi N p)) < N 229) : ¬ mWhy N p h = 0 := by
  unfold mWhy
  rw [if_neg hf]
  split
  · decide
  · split
    · decide
    · split
      · decide
      · split
        · decide
        · split <;> decide
theorem bidsL_none (hB : BrO N) (hp : p < nPo N) (hh : mHope N p = false) : ∀ k, mBidsL N p k = (N, 0)
  | 0 => rfl
  | k + 1 => by
    rw [mBidsL, bidsL_none hB hp hh k, if_neg (why_no hB hp hh)]
theorem bidsL_full {k : Nat} (hf : ¬ nI (pcn (nBi (mBidsL N p k).1 p)) < (mBidsL N p k).1 229) : ∀ d, mBidsL N p (k + d) = mBidsL N p k
  | 0 => rfl
  | d + 1 => by
    rw [show k + (d + 1) = (k + d) + 1 from rfl, mBidsL, bidsL_full hf d, if_neg (why_full hf)]
/-- one week ahead, as the class goes on -/
def cStep (N : Nat → Int32) : Nat → Int32 := if N 232 < 999 then mWeek (mAllBid N).1 else N
theorem cStep_y (h : N 232 < 999) : cStep N = mWeek (mAllBid N).1 := if_pos h
theorem oneM_y (h : N 232 < 999) : mOneMore N = mWeek (mAllBid N).1 := if_pos h
theorem oneM_n (h : ¬ N 232 < 999) : mOneMore N = (mAllBid N).1 := if_neg h
theorem allBid_rd (iv : Iv N) {j : Nat} (hj : ∀ q, q < 8 → j ≠ 80 + 18 * q + 10) : (mAllBid N).1 j = N j := (allBid_inv (b := 30) ⟨iv.1, iv.2.1, iv.1.o30⟩).2 j hj
theorem cStep_Iv (iv : Iv N) : Iv (cStep N) ∧ cStep N 230 = N 230 ∧ cStep N 231 = N 231 := by
  unfold cStep
  split
  · rename_i hw
    have ia := allBid_Iv iv
    obtain ⟨-, -, e0, e1⟩ := week_Wk ia.1 ia.2.1
    refine ⟨week_Iv ia (by rw [allBid_rd iv (fun q hq => by omega)]; exact hw), ?_, ?_⟩
    · rw [e0, allBid_rd iv (fun q hq => by omega)]
    · rw [e1, allBid_rd iv (fun q hq => by omega)]
  · exact ⟨iv, rfl, rfl⟩
theorem cRun_Iv (iv : Iv N) : ∀ k, Iv (itr cStep k N) ∧ itr cStep k N 230 = N 230 ∧ itr cStep k N 231 = N 231
  | 0 => ⟨iv, rfl, rfl⟩
  | k + 1 => by
    obtain ⟨i, e0, e1⟩ := cRun_Iv iv k
    obtain ⟨j, f0, f1⟩ := cStep_Iv i
    rw [itr_succ]
    exact ⟨j, f0.trans e0, f1.trans e1⟩
theorem cRun_stop (h : ¬ N 232 < 999) : ∀ k, itr cStep k N = N
  | 0 => rfl
  | k + 1 => by rw [itr, show cStep N = N from if_neg h]; exact cRun_stop h k
/-- the two agree but for bids of the last week -/
theorem cRun_eq (iv : Iv N) : ∀ k, itr cStep k N = itr mOneMore k N ∨ (¬ itr cStep k N 232 < 999 ∧ ∀ j, (∀ q, q < 8 → j ≠ 80 + 18 * q + 10) → itr mOneMore k N j = itr cStep k N j)
  | 0 => Or.inl rfl
  | k + 1 => by
    have ic := (cRun_Iv iv k).1
    have im := ahead_inv iv.1 iv.2.1 k
    rw [itr_succ, itr_succ]
    rcases cRun_eq iv k with e | ⟨h9, e⟩
    · rw [← e]
      by_cases hw : itr cStep k N 232 < 999
      · refine Or.inl ?_
        rw [cStep_y hw, oneM_y hw]
      · refine Or.inr ?_
        rw [show cStep (itr cStep k N) = itr cStep k N from if_neg hw]
        refine ⟨hw, fun j hj => ?_⟩
        rw [oneM_n hw]
        exact allBid_rd ic hj
    · refine Or.inr ?_
      rw [show cStep (itr cStep k N) = itr cStep k N from if_neg h9]
      refine ⟨h9, fun j hj => ?_⟩
      have hw : ¬ itr mOneMore k N 232 < 999 := by rw [e 232 (fun q hq => by omega)]; exact h9
      rw [oneM_n hw]
      exact ((allBid_inv (b := 30) ⟨im.1, im.2.1, im.1.o30⟩).2 j hj).trans (e j hj)
theorem cRun_rd (iv : Iv N) (k : Nat) {j : Nat} (hj : ∀ q, q < 8 → j ≠ 80 + 18 * q + 10) : itr mOneMore k N j = itr cStep k N j := by
  rcases cRun_eq iv k with e | ⟨-, e⟩
  · rw [e]
  · exact e j hj
end Bds
section ClsS
variable {z n b : Nat} {sh : Shp} {I : MI} {L : ML} {N : Nat → Int32} {Q : Nat → Int64}
set_option maxHeartbeats 4000000 in
set_option maxRecDepth 100000 in
theorem sX7_bidAsItWould (hS : IsS n sh b) (hC : CtS I L b N Q) (hIv : Iv N) {p : Nat} (hp : p < nPo N) : CM yX7_bidAsItWould cX7_bidAsItWould 6 (Option.some .int) 4 0 0 [.ref b, .ref (b + 13 + 2 * p)] z n sh I L (Mut (some (.int (nI (mBidsBy N p).2))) b (mBidsBy N p).1 Q z n sh I L) := by
  refine CM.go [some (.ref b), some (.ref (b + 13 + 2 * p)), none, none, none, none] rfl rfl (Nat.le_of_ble_eq_true rfl) (fun X g q => ?_)
  have hO := hIv.ok
  have hN := hO.1
  have hR := hO.2.1
  have hB := hO.2.2.1
  have hE := hO.2.2.2
  have h8 := hN.p8
  have h10 := hN.h10
  have loop : ∀ i, i ≤ nLikes N p → ∀ (J : MI) a5, Fr b I J → CtS J L b (mBidsL N p i).1 Q → AW X g RX7 cX7_bidAsItWould 6 (4, 0, 0) (z, n, sh, 0, 0) (J) (L) 22 [some (.ref b), some (.ref (b + 13 + 2 * p)), some (.int (nI (mBidsL N p i).2)), some (.int (nI (nLikes N p))), some (.int (nI i)), a5] [] := by
    refine up_loop (fun i hi ih J a5 hF hJ => ?_)
    obtain ⟨wk, er, k10⟩ := bidsL_inv (b := 30) ⟨hN, hIv.2.1, hN.o30⟩ (show p < 8 by omega) i hi
    have iK := bidsL_Iv hIv (show p < 8 by omega) hi
    obtain ⟨K, eK⟩ : ∃ K, K = mBidsL N p i := ⟨_, rfl⟩
    rw [← eK] at wk er k10 iK hJ
    have hM := iK.1
    have g8 := hM.p8
    have g10 := hM.h10
    have eP : nPo K.1 = nPo N := by unfold nPo; rw [er _ (by omega)]
    have eH : nHo K.1 = nHo N := by unfold nHo; rw [er _ (by omega)]
    have eW : nWi K.1 p = nWi N p := by unfold nWi; rw [er _ (by omega)]
    have eL : nLikes K.1 p = nLikes N p := by unfold nLikes; rw [er _ (by omega), eH, eW]
    have n10 := nLikes_10 hN hp
    have h6 := hN.w6 (show p < 8 by omega)
    have eR : i < nLikes N p → mLikes K.1 p i = mLikes N p i := fun q => by
      unfold mLikes
      rw [er _ (by omega)]
      split
      · rfl
      · rename_i hz
        have : i < 6 := by
          unfold nLikes at q
          rw [if_neg hz] at q
          omega
        rw [er _ (by omega)]
    have hlk : i < nLikes N p → mLikes N p i < nHo N := fun q => likes_lt hN hIv.co.wi hp q
    rw [← eK]
    refine aw_iload dX7_bidAsItWould_22 rfl ?_
    refine aw_iload_n dX7_bidAsItWould_24 rfl ?_
    refine aw_icmp_ge (tgt := 88) dX7_bidAsItWould_25 rfl (fun c25 => ?_) (fun c25 => ?_)
    · have e := ge_t rfl (by omega) hi c25
      subst e
      refine aw_iload_n dX7_bidAsItWould_88 rfl ?_
      refine aw_iret q rfl dX7_bidAsItWould_89 ⟨Nat.le_refl _, Nat.le_refl _⟩ ?_
      unfold mBidsBy
      rw [← eK]
      exact ⟨rfl, rfl, rfl, rfl, rfl, hF, hJ⟩
    · have hlt := ge_f rfl (by omega) hi c25
      have hl2 := hlk hlt
      refine aw_aload_n dX7_bidAsItWould_28 rfl ?_
      refine aw_cV dX7_bidAsItWould_29 kX7_116 mX3_countBids (sX3_countBids hS hJ hM (by omega)) (Nat.le_of_ble_eq_true rfl) (hS.po (by omega)) ⟨by decide, rfl⟩ (hS.pb (by omega)) rfl rfl (Nat.le_of_ble_eq_true rfl) ⟨Nat.le_refl _, Nat.le_refl _⟩ ?_
      refine aw_aload_n dX7_bidAsItWould_32 rfl ?_
      refine aw_getR (b := b + 29) dX7_bidAsItWould_33 fX7_27 hS.k hS.b0 rfl hS.r2 ?_
      refine aw_iconst (v := 5) dX7_bidAsItWould_36 rfl ?_
      refine aw_ialdN (k := 5) dX7_bidAsItWould_37 hS.uk (hS.lt (k := 29) (by decide)) hS.ul rfl (by decide) (by decide) ?_
      refine AW.top (hJ.uf (by omega)) ?_
      refine aw_icmp_ge (tgt := 88) dX7_bidAsItWould_38 rfl (fun c38 => ?_) (fun c38 => ?_)
      · have e9 := bidsL_full (N := N) (p := p) (k := i) (by rw [← eK]; exact Int32.not_lt.mpr c38) (nLikes N p - i)
        rw [show i + (nLikes N p - i) = nLikes N p by omega, ← eK] at e9
        refine aw_iload_n dX7_bidAsItWould_88 rfl ?_
        refine aw_iret q rfl dX7_bidAsItWould_89 ⟨Nat.le_refl _, Nat.le_refl _⟩ ?_
        unfold mBidsBy
        rw [e9]
        exact ⟨rfl, rfl, rfl, rfl, rfl, hF, hJ⟩
      · skip
        refine aw_aload_n dX7_bidAsItWould_41 rfl ?_
        refine aw_aload_n dX7_bidAsItWould_42 rfl ?_
        refine aw_iload dX7_bidAsItWould_43 rfl ?_
        refine aw_cV dX7_bidAsItWould_45 kX7_222 mX7_liked (show CM yX7_liked cX7_liked 3 (Option.some (.object "HomesQueue$Home")) 2 0 0 [.ref b, .ref (b + 13 + 2 * p), .int (nI i)] z n sh J L (Pst (some (.ref (b + 2 + mLikes N p i))) z n sh J L) from by rw [← eR hlt]; exact sX7_liked hS hJ iK.ok iK.co.wi (by omega) rfl (by omega)) (Nat.le_of_ble_eq_true rfl) hS.k ⟨by decide, rfl⟩ hS.b0 rfl rfl (Nat.le_of_ble_eq_true rfl) ⟨Nat.le_refl _, Nat.le_refl _⟩ ?_
        refine aw_astore dX7_bidAsItWould_48 (by decide) rfl ?_
        refine aw_aload dX7_bidAsItWould_50 rfl ?_
        refine aw_ifnull dX7_bidAsItWould_52 ?_
        refine aw_aload_n dX7_bidAsItWould_55 rfl ?_
        refine aw_aload_n dX7_bidAsItWould_56 rfl ?_
        refine aw_aload dX7_bidAsItWould_57 rfl ?_
        refine aw_cV dX7_bidAsItWould_59 kX7_226 mX7_whyNot (sX7_whyNot hS hJ iK.ok (by omega) (h := mLikes N p i) (by omega)) (Nat.le_of_ble_eq_true rfl) hS.k ⟨by decide, rfl⟩ hS.b0 rfl rfl (Nat.le_of_ble_eq_true rfl) ⟨Nat.le_refl _, Nat.le_refl _⟩ ?_
        refine aw_if_ne (tgt := 82) dX7_bidAsItWould_62 rfl (fun c62 => ?_) (fun c62 => ?_)
        · refine aw_iinc dX7_bidAsItWould_82 rfl (ginc rfl) (by decide) rfl ?_
          refine aw_goto (tgt := 22) dX7_bidAsItWould_85 rfl ?_
          have e9 : mBidsL N p (i + 1) = K := by
            rw [mBidsL, ← eK, if_neg c62]
          have := ih hlt
          rw [e9] at this
          exact this J _ hF hJ
        · refine aw_aload_n dX7_bidAsItWould_65 rfl ?_
          refine aw_dup dX7_bidAsItWould_66 rfl ?_
          refine aw_getI dX7_bidAsItWould_67 fX7_230 (hS.po (by omega)) (hS.pb (by omega)) rfl ?_
          refine AW.top (hJ.pf g8 (p := p) (w := 10) (by omega) (by decide) (by decide) (by decide)) ?_
          refine aw_aload dX7_bidAsItWould_70 rfl ?_
          refine aw_getI dX7_bidAsItWould_72 fX7_153 (hS.ho (by omega)) (hS.hb (by omega)) rfl ?_
          refine AW.top (hJ.hi (h := mLikes N p i) (by omega)) ?_
          refine aw_ior dX7_bidAsItWould_75 ?_
          refine aw_putI dX7_bidAsItWould_76 fX7_230 (hS.po (by omega)) (hS.pb (by omega)) rfl rfl ?_
          refine aw_iinc dX7_bidAsItWould_79 rfl (ginc rfl) (by decide) rfl ?_
          refine aw_iinc dX7_bidAsItWould_82 rfl (ginc rfl) (by decide) rfl ?_
          refine aw_goto (tgt := 22) dX7_bidAsItWould_85 rfl ?_
          have e9 : mBidsL N p (i + 1) = (mPuts K.1 p 10 (K.1 (80 + 18 * p + 10) ||| ((1 : Int32) <<< (nI (mLikes N p i) &&& 31))), K.2 + 1) := by
            rw [mBidsL, ← eK, if_pos c62]
          have := ih hlt
          rw [e9] at this
          refine this _ _ (hF.put (by omega)) ?_
          rw [shl_bit _ (by omega)]
          exact hJ.putP hM (p := p) (w := 10) (by omega) (by decide) (by decide) (by decide) (by decide) (by decide) (fun q => absurd q (by decide))
  refine aw_iconst (v := 0) dX7_bidAsItWould_0 rfl ?_
  refine aw_istore_n dX7_bidAsItWould_1 (by decide) rfl ?_
  refine aw_aload_n dX7_bidAsItWould_2 rfl ?_
  refine aw_cV dX7_bidAsItWould_3 kX7_167 mX3_isAble (sX3_isAble hS hC hN hp hB) (Nat.le_of_ble_eq_true rfl) (hS.po (by omega)) ⟨by decide, rfl⟩ (hS.pb (by omega)) rfl rfl (Nat.le_of_ble_eq_true rfl) ⟨Nat.le_refl _, Nat.le_refl _⟩ ?_
  refine aw_if_eq (tgt := 17) dX7_bidAsItWould_6 rfl (fun c6 => ?_) (fun c6 => ?_)
  · refine aw_iconst (v := 0) dX7_bidAsItWould_17 rfl ?_
    refine aw_istore_n dX7_bidAsItWould_18 (by decide) rfl ?_
    refine aw_iconst (v := 0) dX7_bidAsItWould_19 rfl ?_
    refine aw_istore dX7_bidAsItWould_20 (by decide) rfl ?_
    refine aw_iload dX7_bidAsItWould_22 rfl ?_
    refine aw_iload_n dX7_bidAsItWould_24 rfl ?_
    refine aw_icmp_ge (tgt := 88) dX7_bidAsItWould_25 rfl (fun c25 => ?_) (fun c25 => ?_)
    · skip
      refine aw_iload_n dX7_bidAsItWould_88 rfl ?_
      refine aw_iret q rfl dX7_bidAsItWould_89 ⟨Nat.le_refl _, Nat.le_refl _⟩ ?_
      simp -failIfUnchanged only [bI0] at c6
      have e9 := bidsL_none hB hp c6
      unfold mBidsBy
      rw [e9]
      exact ⟨rfl, rfl, rfl, rfl, rfl, Fr.rf, hC⟩
    · exact absurd (by decide) c25
  · refine aw_aload_n dX7_bidAsItWould_9 rfl ?_
    refine aw_aload_n dX7_bidAsItWould_10 rfl ?_
    refine aw_cV dX7_bidAsItWould_11 kX7_219 mX7_countLiked (sX7_countLiked hS hC hO hp) (Nat.le_of_ble_eq_true rfl) hS.k ⟨by decide, rfl⟩ hS.b0 rfl rfl (Nat.le_of_ble_eq_true rfl) ⟨Nat.le_refl _, Nat.le_refl _⟩ ?_
    refine aw_goto (tgt := 18) dX7_bidAsItWould_14 rfl ?_
    refine aw_istore_n dX7_bidAsItWould_18 (by decide) rfl ?_
    refine aw_iconst (v := 0) dX7_bidAsItWould_19 rfl ?_
    refine aw_istore dX7_bidAsItWould_20 (by decide) rfl ?_
    exact loop 0 (Nat.zero_le _) I none Fr.rf hC
set_option maxHeartbeats 4000000 in
set_option maxRecDepth 100000 in
theorem sX7_bidAsTheyWould (hS : IsS n sh b) (hC : CtS I L b N Q) (hIv : Iv N)  : CM yX7_bidAsTheyWould cX7_bidAsTheyWould 3 (Option.some .int) 5 0 0 [.ref b] z n sh I L (Mut (some (.int (mAllBid N).2)) b (mAllBid N).1 Q z n sh I L) := by
  refine CM.go [some (.ref b), none, none] rfl rfl (Nat.le_of_ble_eq_true rfl) (fun X g q => ?_)
  have hO := hIv.ok
  have hN := hO.1
  have hR := hO.2.1
  have hB := hO.2.2.1
  have hE := hO.2.2.2
  have h8 := hN.p8
  have h10 := hN.h10
  have loop : ∀ i, i ≤ nPo N → ∀ (J : MI), Fr b I J → CtS J L b (mAllL N i).1 Q → AW X g RX7 cX7_bidAsTheyWould 3 (5, 0, 0) (z, n, sh, 0, 0) (J) (L) 4 [some (.ref b), some (.int (mAllL N i).2), some (.int (nI i))] [] := by
    refine up_loop (fun i hi ih J hF hJ => ?_)
    have iK := allL_Iv hIv i (by omega)
    have er := (allL_inv (b := 30) ⟨hN, hIv.2.1, hN.o30⟩ i (by omega)).2
    have eP : nPo (mAllL N i).1 = nPo N := by unfold nPo; rw [er _ (fun q hq => by omega)]
    refine aw_iload_n dX7_bidAsTheyWould_4 rfl ?_
    refine aw_aload_n dX7_bidAsTheyWould_5 rfl ?_
    refine aw_getI dX7_bidAsTheyWould_6 fX7_62 hS.k hS.b0 rfl ?_
    refine AW.top ((hJ.np.trans (er _ (fun q hq => by omega))).trans hN.p) ?_
    refine aw_icmp_ge (tgt := 31) dX7_bidAsTheyWould_9 rfl (fun c9 => ?_) (fun c9 => ?_)
    · have e := ge_t rfl (by omega) hi c9
      subst e
      refine aw_iload_n dX7_bidAsTheyWould_31 rfl ?_
      refine aw_iret q rfl dX7_bidAsTheyWould_32 ⟨Nat.le_refl _, Nat.le_refl _⟩ ?_
      exact ⟨rfl, rfl, rfl, rfl, rfl, hF, hJ⟩
    · have hlt := ge_f rfl (by omega) hi c9
      refine aw_iload_n dX7_bidAsTheyWould_12 rfl ?_
      refine aw_aload_n dX7_bidAsTheyWould_13 rfl ?_
      refine aw_aload_n dX7_bidAsTheyWould_14 rfl ?_
      refine aw_getR (b := b + 12) dX7_bidAsTheyWould_15 fX7_22 hS.k hS.b0 rfl hS.r1 ?_
      refine aw_iload_n dX7_bidAsTheyWould_18 rfl ?_
      refine aw_houses (p := i) hS rfl (by omega) dX7_bidAsTheyWould_19 ?_
      refine aw_mV dX7_bidAsTheyWould_20 kX7_216 mX7_bidAsItWould (sX7_bidAsItWould hS hJ iK (p := i) (by omega)) (Nat.le_of_ble_eq_true rfl) hS.k ⟨by decide, rfl⟩ hS.b0 rfl rfl (Nat.le_of_ble_eq_true rfl) ⟨Nat.le_refl _, Nat.le_refl _⟩ (fun J1 hF1 hJ1 => ?_)
      
      refine aw_iadd dX7_bidAsTheyWould_23 ?_
      refine aw_istore_n dX7_bidAsTheyWould_24 (by decide) rfl ?_
      refine aw_iinc dX7_bidAsTheyWould_25 rfl (ginc rfl) (by decide) rfl ?_
      refine aw_goto (tgt := 4) dX7_bidAsTheyWould_28 rfl ?_
      exact ih hlt _ (hF.tr hF1) hJ1
  refine aw_iconst (v := 0) dX7_bidAsTheyWould_0 rfl ?_
  refine aw_istore_n dX7_bidAsTheyWould_1 (by decide) rfl ?_
  refine aw_iconst (v := 0) dX7_bidAsTheyWould_2 rfl ?_
  refine aw_istore_n dX7_bidAsTheyWould_3 (by decide) rfl ?_
  exact loop 0 (Nat.zero_le _) I Fr.rf hC
set_option maxHeartbeats 4000000 in
set_option maxRecDepth 100000 in
theorem sX7_runAhead (hS : IsS n sh b) (hC : CtS I L b N Q) (hIv : Iv N) {x : Int32} {kk : Nat} (hx : x = nI kk) (hk : kk < 31)  : CM yX7_runAhead cX7_runAhead 3 (Option.none : Option FieldType) 6 0 0 [.ref b, .int x] z n sh I L (Mut none b (itr cStep kk N) Q z n sh I L) := by
  refine CM.go [some (.ref b), some (.int x), none] rfl rfl (Nat.le_of_ble_eq_true rfl) (fun X g q => ?_)
  have hO := hIv.ok
  have hN := hO.1
  have hR := hO.2.1
  have hB := hO.2.2.1
  have hE := hO.2.2.2
  have h8 := hN.p8
  have h10 := hN.h10
  have loop : ∀ i, i ≤ kk → ∀ (J : MI), Fr b I J → CtS J L b (itr cStep i N) Q → AW X g RX7 cX7_runAhead 3 (6, 0, 0) (z, n, sh, 0, 0) (J) (L) 2 [some (.ref b), some (.int x), some (.int (nI i))] [] := by
    refine up_loop (fun i hi ih J hF hJ => ?_)
    have iK := (cRun_Iv hIv i).1
    refine aw_iload_n dX7_runAhead_2 rfl ?_
    refine aw_iload_n dX7_runAhead_3 rfl ?_
    refine aw_icmp_ge (tgt := 33) dX7_runAhead_4 rfl (fun c4 => ?_) (fun c4 => ?_)
    · have e := ge_t hx (by omega) hi c4
      subst e
      refine aw_vret q rfl dX7_runAhead_33 ⟨Nat.le_refl _, Nat.le_refl _⟩ ?_
      exact ⟨rfl, rfl, rfl, rfl, rfl, hF, hJ⟩
    · have hlt := ge_f hx (by omega) hi c4
      refine aw_aload_n dX7_runAhead_7 rfl ?_
      refine aw_getI dX7_runAhead_8 fX7_65 hS.k hS.b0 rfl ?_
      refine AW.top hJ.wk ?_
      refine aw_sipush (v := 999) dX7_runAhead_11 rfl ?_
      refine aw_icmp_ge (tgt := 33) dX7_runAhead_14 rfl (fun c14 => ?_) (fun c14 => ?_)
      · skip
        refine aw_vret q rfl dX7_runAhead_33 ⟨Nat.le_refl _, Nat.le_refl _⟩ ?_
        rw [show kk = i + (kk - i) by omega, itr_add, cRun_stop (Int32.not_lt.mpr c14)]
        exact ⟨rfl, rfl, rfl, rfl, rfl, hF, hJ⟩
      · have c14 := Int32.not_le.mp c14
        refine aw_aload_n dX7_runAhead_17 rfl ?_
        refine aw_mV dX7_runAhead_18 kX7_238 mX7_bidAsTheyWould (sX7_bidAsTheyWould hS hJ iK) (Nat.le_of_ble_eq_true rfl) hS.k ⟨by decide, rfl⟩ hS.b0 rfl rfl (Nat.le_of_ble_eq_true rfl) ⟨Nat.le_refl _, Nat.le_refl _⟩ (fun J1 hF1 hJ1 => ?_)
        
        refine aw_pop dX7_runAhead_21 rfl ?_
        refine aw_aload_n dX7_runAhead_22 rfl ?_
        refine aw_mV dX7_runAhead_23 kX7_241 mX7_endWeek (sX7_endWeek hS hJ1 (allBid_Iv iK)) (Nat.le_of_ble_eq_true rfl) hS.k ⟨by decide, rfl⟩ hS.b0 rfl rfl (Nat.le_of_ble_eq_true rfl) ⟨Nat.le_refl _, Nat.le_refl _⟩ (fun J2 hF2 hJ2 => ?_)
        
        refine aw_pop dX7_runAhead_26 rfl ?_
        refine aw_iinc dX7_runAhead_27 rfl (ginc rfl) (by decide) rfl ?_
        refine aw_goto (tgt := 2) dX7_runAhead_30 rfl ?_
        refine ih hlt _ ((hF.tr hF1).tr hF2) ?_
        rw [itr_succ, cStep_y c14]
        exact hJ2
  refine aw_iconst (v := 0) dX7_runAhead_0 rfl ?_
  refine aw_istore_n dX7_runAhead_1 (by decide) rfl ?_
  exact loop 0 (Nat.zero_le _) I Fr.rf hC
end ClsS
