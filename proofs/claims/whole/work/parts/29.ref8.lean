/-! the reference: a week's end, bids as they would -/
section RefS
variable {z n m : Nat} {sh : Shp} {I : MI} {L : ML}
set_option maxHeartbeats 4000000 in
set_option maxRecDepth 100000 in
theorem rX11_lets (hM : IsM n sh m) {N : Nat → Int32} (hI : I (m + 1) = N) (hN : Cn N) {x : Int32} {h b : Nat} (hx : x = nI h) (hh : h < 10) (hl : Lo N) (hob : nOf N ≤ b) (hb : b + 3 ≤ 30) : CM yX11_lets cX11_lets 6 (Option.none : Option FieldType) 7 0 0 [.ref m, .int x] z n sh I L (Pst none z n sh (upA I (m + 1) (mLets N h)) L) := by
  subst hx
  refine CM.go [some (.ref m), some (.int (nI h)), none, none, none, none] rfl rfl (Nat.le_of_ble_eq_true rfl) (fun X g q => ?_)
  have loop : ∀ (f : Nat) (M : Nat → Int32) (v k b : Nat) (a4 a5 : Option Value), Wk M b → v < 2 ^ nPo M → k ≤ 3 → b + (3 - k) ≤ 30 → pcn v < f → letsL h f M v k = mLets N h → AW X g RX11 cX11_lets 6 (7, 0, 0) (z, n, sh, 0, 0) (upA I (m + 1) M) (L) 8 [some (.ref m), some (.int (nI h)), some (.int (nI v)), some (.int (nI k)), a4, a5] [] := by
    intro f
    induction f with
    | zero => intro M v k b a4 a5 _ _ _ _ h0; omega
    | succ f ih =>
      intro M v k b a4 a5 wM hv hk3 hb hf hL
      have hv256 := p2_8 hv wM.1.p8
      refine aw_iload_n dX11_lets_8 rfl ?_
      refine aw_if_eq (tgt := 90) dX11_lets_9 rfl (fun c9 => ?_) (fun c9 => ?_)
      · have v0 : v = 0 := (nI_eq (by omega) (by decide)).mp c9
        refine aw_vret q rfl dX11_lets_90 ⟨Nat.le_refl _, Nat.le_refl _⟩ ?_
        refine Pst.mem ?_
        rw [← hL, letsL_stop (Or.inl v0)]
      · have v0 : ¬ v = 0 := fun e => c9 (by rw [e]; rfl)
        refine aw_iload_n dX11_lets_12 rfl ?_
        refine aw_iconst (v := 3) dX11_lets_13 rfl ?_
        refine aw_icmp_ge (tgt := 90) dX11_lets_14 rfl (fun c14 => ?_) (fun c14 => ?_)
        · have k3 : 3 ≤ k := (nI_leI (a := 3) (by decide) (by omega)).mp c14
          refine aw_vret q rfl dX11_lets_90 ⟨Nat.le_refl _, Nat.le_refl _⟩ ?_
          refine Pst.mem ?_
          rw [← hL, letsL_stop (Or.inr k3)]
        · have k3 : ¬ 3 ≤ k := fun e => c14 (nI_le (a := 3) e (by omega))
          have h0 : ¬ (v = 0 ∨ 3 ≤ k) := fun e => e.elim v0 k3
          obtain ⟨p, e, hp, ht⟩ := first_some (h := h) hv wM.1.p8 v0
          have hp8 : p < 8 := by have := wM.1.p8; omega
          obtain ⟨b1, b2, b3⟩ := (bit_all v (by omega) p (by omega)).2.2 ht
          have ho : nOf M < 30 := by have := wM.2.2; omega
          refine aw_aload_n dX11_lets_17 rfl ?_
          refine aw_iload_n dX11_lets_18 rfl ?_
          refine aw_iload_n dX11_lets_19 rfl ?_
          refine aw_cV dX11_lets_20 kX11_280 mX11_firstOf (rX11_firstOf (h := h) hM upA_self wM.1 rfl hh) (Nat.le_of_ble_eq_true rfl) hM.k ⟨by decide, rfl⟩ hM.b rfl rfl (Nat.le_of_ble_eq_true rfl) ⟨Nat.le_refl _, Nat.le_refl _⟩ ?_
          rw [show oN (mFirst M h (nI v)) = nI p from by rw [e]; rfl]
          refine aw_istore dX11_lets_23 (by decide) rfl ?_
          refine aw_iload_n dX11_lets_25 rfl ?_
          refine aw_iconst (v := 1) dX11_lets_26 rfl ?_
          refine aw_iload dX11_lets_27 rfl ?_
          refine aw_ishl dX11_lets_29 ?_
          refine aw_iconst (v := (-1)) dX11_lets_30 rfl ?_
          refine aw_ixor dX11_lets_31 ?_
          refine aw_iand dX11_lets_32 ?_
          refine AW.top (y := nI (v - 2 ^ p)) b1 ?_
          refine aw_istore_n dX11_lets_33 (by decide) rfl ?_
          refine aw_aload_n dX11_lets_34 rfl ?_
          refine aw_iload dX11_lets_35 rfl ?_
          refine aw_cV dX11_lets_37 kX11_283 mX11_mayHope (rX11_mayHope (p := p) hM upA_self rfl (by omega)) (Nat.le_of_ble_eq_true rfl) hM.k ⟨by decide, rfl⟩ hM.b rfl rfl (Nat.le_of_ble_eq_true rfl) ⟨Nat.le_refl _, Nat.le_refl _⟩ ?_
          refine aw_if_ne (tgt := 46) dX11_lets_40 rfl (fun c40 => ?_) (fun c40 => ?_)
          · have hm := bI1.mp c40
            refine aw_iinc dX11_lets_46 rfl (ginc rfl) (by decide) rfl ?_
            refine aw_aload_n dX11_lets_49 rfl ?_
            refine aw_iload dX11_lets_50 rfl ?_
            refine aw_iload_n dX11_lets_52 rfl ?_
            refine aw_cV dX11_lets_53 kX11_300 mX11_wouldTake (rX11_wouldTake (p := p) hM upA_self rfl hp8 (wM.1.w hp8) (wM.1.w6 hp8)) (Nat.le_of_ble_eq_true rfl) hM.k ⟨by decide, rfl⟩ hM.b rfl rfl (Nat.le_of_ble_eq_true rfl) ⟨Nat.le_refl _, Nat.le_refl _⟩ ?_
            refine aw_istore dX11_lets_56 (by decide) rfl ?_
            refine aw_aload_n dX11_lets_58 rfl ?_
            refine aw_iload dX11_lets_59 rfl ?_
            refine aw_iload_n dX11_lets_61 rfl ?_
            refine aw_iload dX11_lets_62 rfl ?_
            refine aw_cV dX11_lets_64 kX11_303 mX11_offered (rX11_offered (p := p) (h := h) (b := mTake M p (nI h)) hM upA_self wM.1 rfl rfl rfl ho) (Nat.le_of_ble_eq_true rfl) hM.k ⟨by decide, rfl⟩ hM.b rfl rfl (Nat.le_of_ble_eq_true rfl) ⟨Nat.le_refl _, Nat.le_refl _⟩ ?_
            refine aw_iload dX11_lets_67 rfl ?_
            refine aw_if_eq (tgt := 81) dX11_lets_69 rfl (fun c69 => ?_) (fun c69 => ?_)
            · have htk : mTake M p (nI h) = false := bI0.mp c69
              rw [htk]
              have cO := off_Cn (p := p) (h := h) (t := false) wM.1 ho
              refine aw_aload_n dX11_lets_81 rfl ?_
              refine aw_iload dX11_lets_82 rfl ?_
              refine aw_cV dX11_lets_84 kX11_310 mX11_refuses (rX11_refuses (p := p) hM upA_self cO rfl hp8) (Nat.le_of_ble_eq_true rfl) hM.k ⟨by decide, rfl⟩ hM.b rfl rfl (Nat.le_of_ble_eq_true rfl) ⟨Nat.le_refl _, Nat.le_refl _⟩ ?_
              refine aw_goto (tgt := 8) dX11_lets_87 rfl ?_
              refine AW.mem (I2 := upA I (m + 1) (mRefuses (mOffered M p h false) p)) (by simp only [upA_upA]) ?_
              have w2 := ref_Wk (off_Wk (p := p) (h := h) (t := false) wM (show b < 30 by omega)) hp8
              refine ih (mRefuses (mOffered M p h false) p) (v - 2 ^ p) (k + 1) (b + 1) _ _ w2 ?_ (by omega) (by omega) (by omega) ?_
              · rw [show nPo (mRefuses (mOffered M p h false) p) = nPo M from by unfold nPo; rw [ref_rd (by omega) (by omega) (by omega) (by omega), off_rd (by omega)]]
                exact drop_lt hv
              · rw [← hL, letsL_ref h0 e hm (by rw [htk]; decide)]
            · have htk : mTake M p (nI h) = true := bI1.mp c69
              rw [htk]
              have w1 := off_Wk (p := p) (h := h) (t := true) wM (show b < 30 by omega)
              have hi2 : mIn (mOffered M p h true) p = true := by
                have hm2 := hm
                unfold mHope at hm2
                rw [Bool.and_eq_true] at hm2
                unfold mIn
                rw [off_rd (by omega)]
                exact hm2.1
              have hl := lo_lt w1.1 w1.2.1 (by unfold nPo; rw [off_rd (by omega)]; exact hp) hi2
              refine aw_aload_n dX11_lets_72 rfl ?_
              refine aw_iload dX11_lets_73 rfl ?_
              refine aw_iload_n dX11_lets_75 rfl ?_
              refine aw_iload_n dX11_lets_76 rfl ?_
              refine aw_cV dX11_lets_77 kX11_307 mX11_takes (rX11_takes (p := p) (h := h) hM upA_self w1.1 rfl rfl hp8 hh hl) (Nat.le_of_ble_eq_true rfl) hM.k ⟨by decide, rfl⟩ hM.b rfl rfl (Nat.le_of_ble_eq_true rfl) ⟨Nat.le_refl _, Nat.le_refl _⟩ ?_
              refine aw_vret q rfl dX11_lets_80 ⟨Nat.le_refl _, Nat.le_refl _⟩ ?_
              refine Pst.mem ?_
              simp only [upA_upA]
              rw [← hL, letsL_take h0 e hm htk]
          · have hm := bI0.mp c40
            refine aw_goto (tgt := 8) dX11_lets_43 rfl ?_
            refine ih M (v - 2 ^ p) k b _ _ wM (drop_lt hv) hk3 hb (by omega) ?_
            rw [← hL, letsL_skip h0 e (by rw [hm]; decide)]
  refine aw_aload_n dX11_lets_0 rfl ?_
  refine aw_iload_n dX11_lets_1 rfl ?_
  refine aw_cV dX11_lets_2 kX11_277 mX11_biddersOf (rX11_biddersOf (h := h) hM hI hN rfl) (Nat.le_of_ble_eq_true rfl) hM.k ⟨by decide, rfl⟩ hM.b rfl rfl (Nat.le_of_ble_eq_true rfl) ⟨Nat.le_refl _, Nat.le_refl _⟩ ?_
  rw [show mBidders N h = nI (nset (fun p => mBid N p (nI h)) (nPo N)) from (bid_n hN h).1]
  refine aw_istore_n dX11_lets_5 (by decide) rfl ?_
  refine aw_iconst (v := 0) dX11_lets_6 rfl ?_
  refine aw_istore_n dX11_lets_7 (by decide) rfl ?_
  refine AW.mem (I2 := upA I (m + 1) N) (by rw [← hI, upA_me]) ?_
  exact loop 9 N _ 0 b none none ⟨hN, hl, hob⟩ (nset_lt _ _) (by decide) (by omega) (Nat.lt_succ_of_le (pcn_8 _ (p2_8 (nset_lt _ _) hN.p8))) rfl
set_option maxHeartbeats 4000000 in
set_option maxRecDepth 100000 in
theorem rX11_weekEnds (hM : IsM n sh m) {N : Nat → Int32} (hI : I (m + 1) = N) (hN : Cn N) (hl : Lo N) : CM yX11_weekEnds cX11_weekEnds 4 (Option.some .int) 8 0 0 [.ref m] z n sh I L (Pst (some (.int (mWeek N 233 - N 233))) z n sh (upA I (m + 1) (mWeek N)) L) := by
  refine CM.go [some (.ref m), none, none, none] rfl rfl (Nat.le_of_ble_eq_true rfl) (fun X g q => ?_)
  have h10 := hN.h10
  have p8 := hN.p8
  have fH := fun i (hi : i ≤ nHo N) => wkH_Wk hN hl i hi
  have fL := fun i (hi : i ≤ 10) => wkL_Wk (fH (nHo N) (Nat.le_refl _)).1 i hi
  have fP := fun i (hi : i ≤ 8) => wkP_Wk (fL (nHo N) h10).1 i hi
  have loop4 : ∀ i, i ≤ nPo N → ∀ a2 : Int32, AW X g RX11 cX11_weekEnds 4 (8, 0, 0) (z, n, sh, 0, 0) (upA I (m + 1) (wkP (wkL (wkH N (nHo N)) (nHo N)) i)) (L) 153 [some (.ref m), some (.int (N 233)), some (.int a2), some (.int (nI i))] [] := by
    refine up_loop (fun i hi ih a2 => ?_)
    have e1 := (fP i (by omega)).2.2
    rw [(fL (nHo N) h10).2.2, (fH (nHo N) (Nat.le_refl _)).2.2] at e1
    refine aw_iload_n dX11_weekEnds_153 rfl ?_
    refine aw_aload_n dX11_weekEnds_154 rfl ?_
    refine aw_getR (b := m + 1) dX11_weekEnds_155 fX11_7 hM.k hM.b rfl hM.r0 ?_
    refine aw_sipush (v := 231) dX11_weekEnds_158 rfl ?_
    refine aw_ialdH (k := 231) upA_self dX11_weekEnds_161 hM.k0 hM.b0 hM.l0 rfl (by decide) (by decide) ?_
    rw [e1]
    refine aw_icmp_ge (tgt := 217) dX11_weekEnds_162 rfl (fun c162 => ?_) (fun c162 => ?_)
    · have e := ge_t hN.p (by omega) hi c162
      subst e
      refine aw_aload_n dX11_weekEnds_217 rfl ?_
      refine aw_getR (b := m + 1) dX11_weekEnds_218 fX11_7 hM.k hM.b rfl hM.r0 ?_
      refine aw_sipush (v := 232) dX11_weekEnds_221 rfl ?_
      refine aw_dup2 dX11_weekEnds_224 rfl rfl ?_
      refine aw_ialdH (k := 232) upA_self dX11_weekEnds_225 hM.k0 hM.b0 hM.l0 rfl (by decide) (by decide) ?_
      have eE : wkP (wkL (wkH N (nHo N)) (nHo N)) (nPo N) = wkE N := rfl
      rw [eE]
      refine aw_iconst (v := 1) dX11_weekEnds_226 rfl ?_
      refine aw_iadd dX11_weekEnds_227 ?_
      refine aw_iastN (k := 232) dX11_weekEnds_228 hM.k0 hM.b0 hM.l0 rfl (by decide) (by decide) ?_
      refine AW.mem (I2 := upA I (m + 1) (mWeek N)) (by simp only [upI_upA, upA_upA, upA_self, mWeek, eE]) ?_
      refine aw_aload_n dX11_weekEnds_229 rfl ?_
      refine aw_getR (b := m + 1) dX11_weekEnds_230 fX11_7 hM.k hM.b rfl hM.r0 ?_
      refine aw_sipush (v := 233) dX11_weekEnds_233 rfl ?_
      refine aw_ialdH (k := 233) upA_self dX11_weekEnds_236 hM.k0 hM.b0 hM.l0 rfl (by decide) (by decide) ?_
      refine aw_iload_n dX11_weekEnds_237 rfl ?_
      refine aw_isub dX11_weekEnds_238 ?_
      refine aw_iret q rfl dX11_weekEnds_239 ⟨Nat.le_refl _, Nat.le_refl _⟩ ?_
      exact Pst.rf
    · have hlt := ge_f hN.p (by omega) hi c162
      refine aw_aload_n dX11_weekEnds_165 rfl ?_
      refine aw_iload_n dX11_weekEnds_166 rfl ?_
      refine aw_bipush (v := 10) dX11_weekEnds_167 rfl ?_
      refine aw_iconst (v := 0) dX11_weekEnds_169 rfl ?_
      refine aw_cV dX11_weekEnds_170 kX11_289 mX11_puts (rX11_puts (p := i) (w := 10) hM upA_self rfl rfl (by omega)) (Nat.le_of_ble_eq_true rfl) hM.k ⟨by decide, rfl⟩ hM.b rfl rfl (Nat.le_of_ble_eq_true rfl) ⟨Nat.le_refl _, Nat.le_refl _⟩ ?_
      refine aw_aload_n dX11_weekEnds_173 rfl ?_
      refine aw_iload_n dX11_weekEnds_174 rfl ?_
      refine aw_bipush (v := 7) dX11_weekEnds_175 rfl ?_
      refine aw_cV dX11_weekEnds_177 kX11_205 mX11_of (rX11_of (p := i) (w := 7) hM upA_self rfl rfl (by omega)) (Nat.le_of_ble_eq_true rfl) hM.k ⟨by decide, rfl⟩ hM.b rfl rfl (Nat.le_of_ble_eq_true rfl) ⟨Nat.le_refl _, Nat.le_refl _⟩ ?_
      rw [show mPuts (wkP (wkL (wkH N (nHo N)) (nHo N)) i) i 10 0 (80 + 18 * i + 7) = (wkP (wkL (wkH N (nHo N)) (nHo N)) i) (80 + 18 * i + 7) from upd_ne (by omega)]
      refine aw_if_ne (tgt := 203) dX11_weekEnds_180 rfl (fun c180 => ?_) (fun c180 => ?_)
      · refine aw_aload_n dX11_weekEnds_203 rfl ?_
        refine aw_iload_n dX11_weekEnds_204 rfl ?_
        refine aw_bipush (v := 7) dX11_weekEnds_205 rfl ?_
        refine aw_iconst (v := 0) dX11_weekEnds_207 rfl ?_
        refine aw_cV dX11_weekEnds_208 kX11_289 mX11_puts (rX11_puts (p := i) (w := 7) hM upA_self rfl rfl (by omega)) (Nat.le_of_ble_eq_true rfl) hM.k ⟨by decide, rfl⟩ hM.b rfl rfl (Nat.le_of_ble_eq_true rfl) ⟨Nat.le_refl _, Nat.le_refl _⟩ ?_
        refine aw_iinc dX11_weekEnds_211 rfl (ginc rfl) (by decide) rfl ?_
        refine aw_goto (tgt := 153) dX11_weekEnds_214 rfl ?_
        have := ih hlt a2
        rw [wkP] at this
        refine AW.mem (I2 := upA I (m + 1) (wkS (wkP (wkL (wkH N (nHo N)) (nHo N)) i) i)) ?_ this
        unfold wkS wkS1
        rw [if_neg c180]
        simp only [upA_upA]
      · refine aw_aload_n dX11_weekEnds_183 rfl ?_
        refine aw_iload_n dX11_weekEnds_184 rfl ?_
        refine aw_bipush (v := 6) dX11_weekEnds_185 rfl ?_
        refine aw_iconst (v := 0) dX11_weekEnds_187 rfl ?_
        refine aw_aload_n dX11_weekEnds_188 rfl ?_
        refine aw_iload_n dX11_weekEnds_189 rfl ?_
        refine aw_bipush (v := 6) dX11_weekEnds_190 rfl ?_
        refine aw_cV dX11_weekEnds_192 kX11_205 mX11_of (rX11_of (p := i) (w := 6) hM upA_self rfl rfl (by omega)) (Nat.le_of_ble_eq_true rfl) hM.k ⟨by decide, rfl⟩ hM.b rfl rfl (Nat.le_of_ble_eq_true rfl) ⟨Nat.le_refl _, Nat.le_refl _⟩ ?_
        rw [show mPuts (wkP (wkL (wkH N (nHo N)) (nHo N)) i) i 10 0 (80 + 18 * i + 6) = (wkP (wkL (wkH N (nHo N)) (nHo N)) i) (80 + 18 * i + 6) from upd_ne (by omega)]
        refine aw_iconst (v := 1) dX11_weekEnds_195 rfl ?_
        refine aw_isub dX11_weekEnds_196 ?_
        refine aw_mmax dX11_weekEnds_197 kX11_211 (Nat.le_of_ble_eq_true rfl) (Nat.le_of_ble_eq_true rfl) ⟨Nat.le_refl _, Nat.le_refl _⟩ ?_
        refine aw_cV dX11_weekEnds_200 kX11_289 mX11_puts (rX11_puts (p := i) (w := 6) hM upA_self rfl rfl (by omega)) (Nat.le_of_ble_eq_true rfl) hM.k ⟨by decide, rfl⟩ hM.b rfl rfl (Nat.le_of_ble_eq_true rfl) ⟨Nat.le_refl _, Nat.le_refl _⟩ ?_
        refine aw_aload_n dX11_weekEnds_203 rfl ?_
        refine aw_iload_n dX11_weekEnds_204 rfl ?_
        refine aw_bipush (v := 7) dX11_weekEnds_205 rfl ?_
        refine aw_iconst (v := 0) dX11_weekEnds_207 rfl ?_
        refine aw_cV dX11_weekEnds_208 kX11_289 mX11_puts (rX11_puts (p := i) (w := 7) hM upA_self rfl rfl (by omega)) (Nat.le_of_ble_eq_true rfl) hM.k ⟨by decide, rfl⟩ hM.b rfl rfl (Nat.le_of_ble_eq_true rfl) ⟨Nat.le_refl _, Nat.le_refl _⟩ ?_
        refine aw_iinc dX11_weekEnds_211 rfl (ginc rfl) (by decide) rfl ?_
        refine aw_goto (tgt := 153) dX11_weekEnds_214 rfl ?_
        have := ih hlt a2
        rw [wkP] at this
        refine AW.mem (I2 := upA I (m + 1) (wkS (wkP (wkL (wkH N (nHo N)) (nHo N)) i) i)) ?_ this
        unfold wkS wkS1
        rw [if_pos c180]
        simp only [upA_upA]
  have loop3 : ∀ i, i ≤ nHo N → ∀ a2 : Int32, AW X g RX11 cX11_weekEnds 4 (8, 0, 0) (z, n, sh, 0, 0) (upA I (m + 1) (wkL (wkH N (nHo N)) i)) (L) 126 [some (.ref m), some (.int (N 233)), some (.int a2), some (.int (nI i))] [] := by
    refine up_loop (fun i hi ih a2 => ?_)
    have e0 := (fL i (by omega)).2.1
    rw [(fH (nHo N) (Nat.le_refl _)).2.1] at e0
    refine aw_iload_n dX11_weekEnds_126 rfl ?_
    refine aw_aload_n dX11_weekEnds_127 rfl ?_
    refine aw_getR (b := m + 1) dX11_weekEnds_128 fX11_7 hM.k hM.b rfl hM.r0 ?_
    refine aw_sipush (v := 230) dX11_weekEnds_131 rfl ?_
    refine aw_ialdH (k := 230) upA_self dX11_weekEnds_134 hM.k0 hM.b0 hM.l0 rfl (by decide) (by decide) ?_
    rw [e0]
    refine aw_icmp_ge (tgt := 151) dX11_weekEnds_135 rfl (fun c135 => ?_) (fun c135 => ?_)
    · have e := ge_t hN.h (by omega) hi c135
      subst e
      refine aw_iconst (v := 0) dX11_weekEnds_151 rfl ?_
      refine aw_istore_n dX11_weekEnds_152 (by decide) rfl ?_
      exact loop4 0 (Nat.zero_le _) a2
    · have hlt := ge_f hN.h (by omega) hi c135
      refine aw_aload_n dX11_weekEnds_138 rfl ?_
      refine aw_iload_n dX11_weekEnds_139 rfl ?_
      refine aw_iconst (v := 3) dX11_weekEnds_140 rfl ?_
      refine aw_iconst (v := 0) dX11_weekEnds_141 rfl ?_
      refine aw_cV dX11_weekEnds_142 kX11_293 mX11_putsHome (rX11_putsHome (h := i) (w := 3) hM upA_self rfl rfl (by omega)) (Nat.le_of_ble_eq_true rfl) hM.k ⟨by decide, rfl⟩ hM.b rfl rfl (Nat.le_of_ble_eq_true rfl) ⟨Nat.le_refl _, Nat.le_refl _⟩ ?_
      refine aw_iinc dX11_weekEnds_145 rfl (ginc rfl) (by decide) rfl ?_
      refine aw_goto (tgt := 126) dX11_weekEnds_148 rfl ?_
      have := ih hlt a2
      rw [wkL] at this
      refine AW.mem (I2 := upA I (m + 1) (mPutsH (wkL (wkH N (nHo N)) i) i 3 0)) ?_ this
      simp only [upA_upA]
  have hwv : wkv N < 1024 := Nat.lt_of_lt_of_le (nset_lt _ _) (Nat.le_trans (Nat.pow_le_pow_right (by decide) h10) (by decide))
  have loop2 : ∀ i, i ≤ nHo N → AW X g RX11 cX11_weekEnds 4 (8, 0, 0) (z, n, sh, 0, 0) (upA I (m + 1) (wkH N i)) (L) 60 [some (.ref m), some (.int (N 233)), some (.int (nI (wkv N))), some (.int (nI i))] [] := by
    refine up_loop (fun i hi ih => ?_)
    obtain ⟨wI, e0, -⟩ := fH i hi
    refine aw_iload_n dX11_weekEnds_60 rfl ?_
    refine aw_aload_n dX11_weekEnds_61 rfl ?_
    refine aw_getR (b := m + 1) dX11_weekEnds_62 fX11_7 hM.k hM.b rfl hM.r0 ?_
    refine aw_sipush (v := 230) dX11_weekEnds_65 rfl ?_
    refine aw_ialdH (k := 230) upA_self dX11_weekEnds_68 hM.k0 hM.b0 hM.l0 rfl (by decide) (by decide) ?_
    rw [e0]
    refine aw_icmp_ge (tgt := 124) dX11_weekEnds_69 rfl (fun c69 => ?_) (fun c69 => ?_)
    · have e := ge_t hN.h (by omega) hi c69
      subst e
      refine aw_iconst (v := 0) dX11_weekEnds_124 rfl ?_
      refine aw_istore_n dX11_weekEnds_125 (by decide) rfl ?_
      exact loop3 0 (Nat.zero_le _) _
    · have hlt := ge_f hN.h (by omega) hi c69
      refine aw_iload_n dX11_weekEnds_72 rfl ?_
      refine aw_iload_n dX11_weekEnds_73 rfl ?_
      refine aw_ishr dX11_weekEnds_74 ?_
      refine aw_iconst (v := 1) dX11_weekEnds_75 rfl ?_
      refine aw_iand dX11_weekEnds_76 ?_
      refine aw_if_ne (tgt := 83) dX11_weekEnds_77 rfl (fun c77 => ?_) (fun c77 => ?_)
      · have tb : (wkv N).testBit i = true := by
          have := mt (bit_all (wkv N) hwv i (by omega)).2.1.mpr c77
          simpa using this
        refine aw_aload_n dX11_weekEnds_83 rfl ?_
        refine aw_iload_n dX11_weekEnds_84 rfl ?_
        refine aw_cV dX11_weekEnds_85 kX11_313 mX11_lets (rX11_lets (h := i) (b := 3 * i) hM upA_self wI.1 rfl (by omega) wI.2.1 wI.2.2 (by omega)) (Nat.le_of_ble_eq_true rfl) hM.k ⟨by decide, rfl⟩ hM.b rfl rfl (Nat.le_of_ble_eq_true rfl) ⟨Nat.le_refl _, Nat.le_refl _⟩ ?_
        refine aw_aload_n dX11_weekEnds_88 rfl ?_
        refine aw_iload_n dX11_weekEnds_89 rfl ?_
        refine aw_bipush (v := 7) dX11_weekEnds_90 rfl ?_
        refine aw_aload_n dX11_weekEnds_92 rfl ?_
        refine aw_iload_n dX11_weekEnds_93 rfl ?_
        refine aw_bipush (v := 7) dX11_weekEnds_94 rfl ?_
        refine aw_cV dX11_weekEnds_96 kX11_202 mX11_home0 (rX11_home0 (h := i) (w := 7) hM upA_self rfl rfl (by omega)) (Nat.le_of_ble_eq_true rfl) hM.k ⟨by decide, rfl⟩ hM.b rfl rfl (Nat.le_of_ble_eq_true rfl) ⟨Nat.le_refl _, Nat.le_refl _⟩ ?_
        refine aw_aload_n dX11_weekEnds_99 rfl ?_
        refine aw_iload_n dX11_weekEnds_100 rfl ?_
        refine aw_iconst (v := 2) dX11_weekEnds_101 rfl ?_
        refine aw_cV dX11_weekEnds_102 kX11_202 mX11_home0 (rX11_home0 (h := i) (w := 2) hM upA_self rfl rfl (by omega)) (Nat.le_of_ble_eq_true rfl) hM.k ⟨by decide, rfl⟩ hM.b rfl rfl (Nat.le_of_ble_eq_true rfl) ⟨Nat.le_refl _, Nat.le_refl _⟩ ?_
        refine aw_iconst (v := (-1)) dX11_weekEnds_105 rfl ?_
        refine awt_icmp_ne (A := 1) (B := 0) dX11_weekEnds_106 dX11_weekEnds_109 dX11_weekEnds_110 dX11_weekEnds_113 rfl rfl ?_
        refine aw_iadd dX11_weekEnds_114 ?_
        refine aw_cV dX11_weekEnds_115 kX11_293 mX11_putsHome (rX11_putsHome (h := i) (w := 7) hM upA_self rfl rfl (by omega)) (Nat.le_of_ble_eq_true rfl) hM.k ⟨by decide, rfl⟩ hM.b rfl rfl (Nat.le_of_ble_eq_true rfl) ⟨Nat.le_refl _, Nat.le_refl _⟩ ?_
        refine aw_iinc dX11_weekEnds_118 rfl (ginc rfl) (by decide) rfl ?_
        refine aw_goto (tgt := 60) dX11_weekEnds_121 rfl ?_
        have := ih hlt
        rw [wkH, tb] at this
        refine AW.mem (I2 := upA I (m + 1) (wkH1 (mLets (wkH N i) i) i)) ?_ this
        unfold wkH1
        simp only [upA_upA]
      · have tb : (wkv N).testBit i = false := (bit_all (wkv N) hwv i (by omega)).2.1.mp c77
        refine aw_goto (tgt := 118) dX11_weekEnds_80 rfl ?_
        refine aw_iinc dX11_weekEnds_118 rfl (ginc rfl) (by decide) rfl ?_
        refine aw_goto (tgt := 60) dX11_weekEnds_121 rfl ?_
        have := ih hlt
        rw [wkH, tb] at this
        exact this
  have loop1 : ∀ i, i ≤ nHo N → ∀ acc : Int32, acc = iset (fun h => mFree (wk0 N) h) i → AW X g RX11 cX11_weekEnds 4 (8, 0, 0) (z, n, sh, 0, 0) (upA I (m + 1) (wk0 N)) (L) 22 [some (.ref m), some (.int (N 233)), some (.int acc), some (.int (nI i))] [] := by
    refine up_loop (fun i hi ih acc ha => ?_)
    have e0 : wk0 N 230 = N 230 := upd_ne (by omega)
    refine aw_iload_n dX11_weekEnds_22 rfl ?_
    refine aw_aload_n dX11_weekEnds_23 rfl ?_
    refine aw_getR (b := m + 1) dX11_weekEnds_24 fX11_7 hM.k hM.b rfl hM.r0 ?_
    refine aw_sipush (v := 230) dX11_weekEnds_27 rfl ?_
    refine aw_ialdH (k := 230) upA_self dX11_weekEnds_30 hM.k0 hM.b0 hM.l0 rfl (by decide) (by decide) ?_
    rw [e0]
    refine aw_icmp_ge (tgt := 58) dX11_weekEnds_31 rfl (fun c31 => ?_) (fun c31 => ?_)
    · have e := ge_t hN.h (by omega) hi c31
      subst e
      refine aw_iconst (v := 0) dX11_weekEnds_58 rfl ?_
      refine aw_istore_n dX11_weekEnds_59 (by decide) rfl ?_
      rw [ha, iset_n _ _ (by omega)]
      exact loop2 0 (Nat.zero_le _)
    · have hlt := ge_f hN.h (by omega) hi c31
      refine aw_iload_n dX11_weekEnds_34 rfl ?_
      refine aw_aload_n dX11_weekEnds_35 rfl ?_
      refine aw_iload_n dX11_weekEnds_36 rfl ?_
      refine aw_cV dX11_weekEnds_37 kX11_219 mX11_isFree (rX11_isFree (h := i) hM upA_self rfl (by omega)) (Nat.le_of_ble_eq_true rfl) hM.k ⟨by decide, rfl⟩ hM.b rfl rfl (Nat.le_of_ble_eq_true rfl) ⟨Nat.le_refl _, Nat.le_refl _⟩ ?_
      refine aw_if_eq (tgt := 49) dX11_weekEnds_40 rfl (fun c40 => ?_) (fun c40 => ?_)
      · refine aw_iconst (v := 0) dX11_weekEnds_49 rfl ?_
        refine aw_ior dX11_weekEnds_50 ?_
        refine aw_istore_n dX11_weekEnds_51 (by decide) rfl ?_
        refine aw_iinc dX11_weekEnds_52 rfl (ginc rfl) (by decide) rfl ?_
        refine aw_goto (tgt := 22) dX11_weekEnds_55 rfl ?_
        refine ih hlt _ ?_
        rw [iset, ← ha]
        simp [bI0.mp c40]
      · refine aw_iconst (v := 1) dX11_weekEnds_43 rfl ?_
        refine aw_iload_n dX11_weekEnds_44 rfl ?_
        refine aw_ishl dX11_weekEnds_45 ?_
        refine aw_goto (tgt := 50) dX11_weekEnds_46 rfl ?_
        refine aw_ior dX11_weekEnds_50 ?_
        refine aw_istore_n dX11_weekEnds_51 (by decide) rfl ?_
        refine aw_iinc dX11_weekEnds_52 rfl (ginc rfl) (by decide) rfl ?_
        refine aw_goto (tgt := 22) dX11_weekEnds_55 rfl ?_
        refine ih hlt _ ?_
        rw [iset, ← ha]
        simp [bI1.mp c40]
  refine aw_aload_n dX11_weekEnds_0 rfl ?_
  refine aw_getR (b := m + 1) dX11_weekEnds_1 fX11_7 hM.k hM.b rfl hM.r0 ?_
  refine aw_sipush (v := 233) dX11_weekEnds_4 rfl ?_
  refine aw_ialdH (k := 233) hI dX11_weekEnds_7 hM.k0 hM.b0 hM.l0 rfl (by decide) (by decide) ?_
  refine aw_istore_n dX11_weekEnds_8 (by decide) rfl ?_
  refine aw_iconst (v := 0) dX11_weekEnds_9 rfl ?_
  refine aw_istore_n dX11_weekEnds_10 (by decide) rfl ?_
  refine aw_aload_n dX11_weekEnds_11 rfl ?_
  refine aw_getR (b := m + 1) dX11_weekEnds_12 fX11_7 hM.k hM.b rfl hM.r0 ?_
  refine aw_sipush (v := 299) dX11_weekEnds_15 rfl ?_
  refine aw_iconst (v := 0) dX11_weekEnds_18 rfl ?_
  refine aw_iastN (k := 299) dX11_weekEnds_19 hM.k0 hM.b0 hM.l0 rfl (by decide) (by decide) ?_
  refine AW.mem (I2 := upA I (m + 1) (wk0 N)) (by simp only [upI_upA, hI, wk0]) ?_
  refine aw_iconst (v := 0) dX11_weekEnds_20 rfl ?_
  refine aw_istore_n dX11_weekEnds_21 (by decide) rfl ?_
  exact loop1 0 (Nat.zero_le _) 0 rfl
end RefS
