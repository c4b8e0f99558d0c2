/-! the class: acts within a state -/
theorem TbO.cnt {n t len w c d : Nat} {sh : Shp} {I : MI} (h : TbO n sh I t len w c) (hd : d * w ≤ len) (h2 : d < 2 ^ 30) : TbO n sh (upI I t 2 (nI d)) t len w d :=
  ⟨h.1, h.2.1, h.r, h.ck, h.cl, (upI_n (Or.inr (by decide))).trans h.wd, upI_s, hd, h.ll, h2, h.lw⟩
theorem TbO.set {n t len w c i : Nat} {sh : Shp} {I : MI} {v : Int32} (h : TbO n sh I t len w c) : TbO n sh (upI I (t + 1) i v) t len w c :=
  ⟨h.1, h.2.1, h.r, h.ck, h.cl, (upI_n (Or.inl (by omega))).trans h.wd, (upI_n (Or.inl (by omega))).trans h.ct, h.le, h.ll, h.lc, h.lw⟩
theorem drop_bit {x : Int32} {h : Nat} (hh : h < 10) : x &&& (nI (2 ^ h) ^^^ (-1)) = iDrop x (nI h) := by
  unfold iDrop
  rw [shl_bit h hh]
section ClsS
variable {z n b : Nat} {sh : Shp} {I : MI} {L : ML} {N : Nat → Int32} {Q : Nat → Int64}
set_option maxHeartbeats 4000000 in
set_option maxRecDepth 100000 in
theorem sX8_addRow {t len w c : Nat} (hT : TbO n sh I t len w c) (hl : (c + 1) * w ≤ len)  : CM yX8_addRow cX8_addRow 1 (Option.some .int) 1 0 0 [.ref t] z n sh I L (Pst (some (.int (nI c))) z n sh (upI I t 2 (nI (c + 1))) L) := by
  refine CM.go [some (.ref t)] rfl rfl (Nat.le_of_ble_eq_true rfl) (fun X g q => ?_)
  have hll := hT.ll
  have hlc := hT.lc
  have hlw := hT.lw
  refine aw_aload_n dX8_addRow_0 rfl ?_
  refine aw_getI dX8_addRow_1 fX8_19 hT.k hT.b rfl ?_
  refine AW.top hT.ct ?_
  refine aw_iconst (v := 1) dX8_addRow_4 rfl ?_
  refine aw_iadd dX8_addRow_5 ?_
  refine aw_aload_n dX8_addRow_6 rfl ?_
  refine aw_getI dX8_addRow_7 fX8_9 hT.k hT.b rfl ?_
  refine AW.top hT.wd ?_
  refine aw_imul dX8_addRow_10 ?_
  refine AW.top (y := nI ((c + 1) * w)) (by rw [show nI c + 1 = nI (c + 1) from nI_1 c, pk_mul]) ?_
  refine aw_aload_n dX8_addRow_11 rfl ?_
  refine aw_getR (b := t + 1) dX8_addRow_12 fX8_15 hT.k hT.b rfl hT.r ?_
  refine aw_alen dX8_addRow_15 hT.ck hT.cb ?_
  refine AW.top (y := nI len) (by rw [hT.cl]; rfl) ?_
  refine aw_icmp_le (tgt := 21) dX8_addRow_16 rfl (fun c16 => ?_) (fun c16 => ?_)
  · skip
    refine aw_aload_n dX8_addRow_21 rfl ?_
    refine aw_dup dX8_addRow_22 rfl ?_
    refine aw_getI dX8_addRow_23 fX8_19 hT.k hT.b rfl ?_
    refine AW.top hT.ct ?_
    refine aw_iconst (v := 1) dX8_addRow_26 rfl ?_
    refine aw_iadd dX8_addRow_27 ?_
    refine AW.top (nI_1 c) ?_
    refine aw_putI dX8_addRow_28 fX8_19 hT.k hT.b rfl rfl ?_
    refine aw_aload_n dX8_addRow_31 rfl ?_
    refine aw_getI dX8_addRow_32 fX8_19 hT.k hT.b rfl ?_
    refine AW.top upI_s ?_
    refine aw_iconst (v := 1) dX8_addRow_35 rfl ?_
    refine aw_isub dX8_addRow_36 ?_
    refine AW.top (y := nI c) (nI_pred c) ?_
    refine aw_iret q rfl dX8_addRow_37 ⟨Nat.le_refl _, Nat.le_refl _⟩ ?_
    exact Pst.rf
  · exact absurd ((nI_leI (by omega) (by omega)).mpr hl) c16
set_option maxHeartbeats 4000000 in
set_option maxRecDepth 100000 in
theorem sX8_set {t len w c : Nat} (hT : TbO n sh I t len w c) {x y v : Int32} {r k : Nat} (hx : x = nI r) (hr : r < c) (hy : y = nI k) (hk : k < w)  : CM yX8_set cX8_set 4 (Option.none : Option FieldType) 1 0 0 [.ref t, .int x, .int y, .int v] z n sh I L (Pst none z n sh (upI I (t + 1) (w * r + k) v) L) := by
  refine CM.go [some (.ref t), some (.int x), some (.int y), some (.int v)] rfl rfl (Nat.le_of_ble_eq_true rfl) (fun X g q => ?_)
  have hlt := hT.lt hr hk
  have hll := hT.ll
  have hlc := hT.lc
  have hlw := hT.lw
  refine aw_iload_n dX8_set_0 rfl ?_
  refine aw_if_lt (tgt := 38) dX8_set_1 rfl (fun c1 => ?_) (fun c1 => ?_)
  · rw [hx] at c1
    exact absurd c1 (nI_pos (by omega))
  · skip
    refine aw_iload_n dX8_set_4 rfl ?_
    refine aw_aload_n dX8_set_5 rfl ?_
    refine aw_getI dX8_set_6 fX8_19 hT.k hT.b rfl ?_
    refine AW.top hT.ct ?_
    refine aw_icmp_ge (tgt := 38) dX8_set_9 rfl (fun c9 => ?_) (fun c9 => ?_)
    · rw [hx] at c9
      exact absurd ((nI_leI (by omega) (by omega)).mp c9) (by omega)
    · skip
      refine aw_iload_n dX8_set_12 rfl ?_
      refine aw_if_lt (tgt := 38) dX8_set_13 rfl (fun c13 => ?_) (fun c13 => ?_)
      · rw [hy] at c13
        exact absurd c13 (nI_pos (by omega))
      · skip
        refine aw_iload_n dX8_set_16 rfl ?_
        refine aw_aload_n dX8_set_17 rfl ?_
        refine aw_getI dX8_set_18 fX8_9 hT.k hT.b rfl ?_
        refine AW.top hT.wd ?_
        refine aw_icmp_ge (tgt := 38) dX8_set_21 rfl (fun c21 => ?_) (fun c21 => ?_)
        · rw [hy] at c21
          exact absurd ((nI_leI (by omega) (by omega)).mp c21) (by omega)
        · skip
          refine aw_aload_n dX8_set_24 rfl ?_
          refine aw_getR (b := t + 1) dX8_set_25 fX8_15 hT.k hT.b rfl hT.r ?_
          refine aw_iload_n dX8_set_28 rfl ?_
          refine aw_aload_n dX8_set_29 rfl ?_
          refine aw_getI dX8_set_30 fX8_9 hT.k hT.b rfl ?_
          refine AW.top hT.wd ?_
          refine aw_imul dX8_set_33 ?_
          refine aw_iload_n dX8_set_34 rfl ?_
          refine aw_iadd dX8_set_35 ?_
          refine AW.top (y := nI (w * r + k)) (by rw [hx, hy, Nat.mul_comm w r, ← nI_add, ← pk_mul]) ?_
          refine aw_iload_n dX8_set_36 rfl ?_
          refine aw_iastN (k := (w * r + k)) dX8_set_37 hT.ck hT.cb hT.cl rfl hlt (by omega) ?_
          refine aw_vret q rfl dX8_set_38 ⟨Nat.le_refl _, Nat.le_refl _⟩ ?_
          exact Pst.rf
set_option maxHeartbeats 4000000 in
set_option maxRecDepth 100000 in
theorem sX7_setRule (hS : IsS n sh b) (hC : CtS I L b N Q) (hO : Ok N) {x v : Int32} {r : Nat} (hx : x = nI r) (hr : r < 6)  : CM yX7_setRule cX7_setRule 3 (Option.none : Option FieldType) 1 0 0 [.ref b, .int x, .int v] z n sh I L (Mut none b (upd N (224 + r) v) Q z n sh I L) := by
  refine CM.go [some (.ref b), some (.int x), some (.int v)] rfl rfl (Nat.le_of_ble_eq_true rfl) (fun X g q => ?_)
  have hN := hO.1
  have hR := hO.2.1
  have hB := hO.2.2.1
  have hE := hO.2.2.2
  have h8 := hN.p8
  have h10 := hN.h10
  refine aw_iload_n dX7_setRule_0 rfl ?_
  refine aw_if_lt (tgt := 17) dX7_setRule_1 rfl (fun c1 => ?_) (fun c1 => ?_)
  · rw [hx] at c1
    exact absurd c1 (nI_pos (by omega))
  · skip
    refine aw_iload_n dX7_setRule_4 rfl ?_
    refine aw_bipush (v := 6) dX7_setRule_5 rfl ?_
    refine aw_icmp_ge (tgt := 17) dX7_setRule_7 rfl (fun c7 => ?_) (fun c7 => ?_)
    · rw [hx] at c7
      exact absurd ((nI_leI (a := 6) (by decide) (by omega)).mp c7) (by omega)
    · skip
      refine aw_aload_n dX7_setRule_10 rfl ?_
      refine aw_getR (b := b + 29) dX7_setRule_11 fX7_27 hS.k hS.b0 rfl hS.r2 ?_
      refine aw_iload_n dX7_setRule_14 rfl ?_
      refine aw_iload_n dX7_setRule_15 rfl ?_
      refine aw_iastN (k := r) dX7_setRule_16 hS.uk (hS.lt (k := 29) (by decide)) hS.ul hx (by omega) (by decide) ?_
      refine aw_vret q rfl dX7_setRule_17 ⟨Nat.le_refl _, Nat.le_refl _⟩ ?_
      exact ⟨rfl, rfl, rfl, rfl, rfl, Fr.rf.put (by omega), hC.putU hN hr⟩
set_option maxHeartbeats 4000000 in
set_option maxRecDepth 100000 in
theorem sX7_bidAlone (hS : IsS n sh b) (hC : CtS I L b N Q) (hO : Ok N) {c h : Nat} (hS2 : IsS n sh c) (hF2 : FxS I c) (hh : h < 10) {x : Int32} {p : Nat} (hx : x = nI p) (hp : p < nPo N)  : CM yX7_bidAlone cX7_bidAlone 4 (Option.none : Option FieldType) 2 0 0 [.ref b, .int x, .ref (c + 2 + h)] z n sh I L (Mut none b (wouldN N p h) Q z n sh I L) := by
  refine CM.go [some (.ref b), some (.int x), some (.ref (c + 2 + h)), none] rfl rfl (Nat.le_of_ble_eq_true rfl) (fun X g q => ?_)
  have hN := hO.1
  have hR := hO.2.1
  have hB := hO.2.2.1
  have hE := hO.2.2.2
  have h8 := hN.p8
  have h10 := hN.h10
  refine aw_aload_n dX7_bidAlone_0 rfl ?_
  refine aw_iload_n dX7_bidAlone_1 rfl ?_
  refine aw_cV dX7_bidAlone_2 kX7_233 mX7_houseAt (sX7_houseAt hS hC hO hx hp) (Nat.le_of_ble_eq_true rfl) hS.k ⟨by decide, rfl⟩ hS.b0 rfl rfl (Nat.le_of_ble_eq_true rfl) ⟨Nat.le_refl _, Nat.le_refl _⟩ ?_
  refine aw_astore_n dX7_bidAlone_5 (by decide) rfl ?_
  refine aw_aload_n dX7_bidAlone_6 rfl ?_
  refine aw_ifnull dX7_bidAlone_7 ?_
  refine aw_aload_n dX7_bidAlone_10 rfl ?_
  refine aw_aload_n dX7_bidAlone_11 rfl ?_
  refine aw_getI dX7_bidAlone_12 fX7_153 (hS2.ho (by omega)) (hS2.hb (by omega)) rfl ?_
  refine AW.top (hF2.1 h hh).2.1 ?_
  refine aw_putI dX7_bidAlone_15 fX7_230 (hS.po (by omega)) (hS.pb (by omega)) rfl rfl ?_
  refine aw_vret q rfl dX7_bidAlone_18 ⟨Nat.le_refl _, Nat.le_refl _⟩ ?_
  refine ⟨rfl, rfl, rfl, rfl, rfl, Fr.rf.put (by omega), ?_⟩
  unfold wouldN
  rw [shl_bit h hh]
  exact hC.putP hN (p := p) (w := 10) (by omega) (by decide) (by decide) (by decide) (by decide) (by decide) (fun q => absurd q (by decide))
set_option maxHeartbeats 4000000 in
set_option maxRecDepth 100000 in
theorem sX7_dropBidsFor (hS : IsS n sh b) (hC : CtS I L b N Q) (hO : Ok N) {d : Nat} (hL : Lo N) {h : Nat} (hh : h < nHo N)  : CM yX7_dropBidsFor cX7_dropBidsFor 3 (Option.none : Option FieldType) 1 0 0 [.ref b, .ref (b + 2 + h)] z n sh I L (Mut none b (shuL N h (nPo N)) Q z n sh I L) := by
  refine CM.go [some (.ref b), some (.ref (b + 2 + h)), none] rfl rfl (Nat.le_of_ble_eq_true rfl) (fun X g q => ?_)
  have hN := hO.1
  have hR := hO.2.1
  have hB := hO.2.2.1
  have hE := hO.2.2.2
  have h8 := hN.p8
  have h10 := hN.h10
  have loop : ∀ i, i ≤ nPo N → ∀ (J : MI), Fr b I J → CtS J L b (shuL N h i) Q → AW X g RX7 cX7_dropBidsFor 3 (1, 0, 0) (z, n, sh, 0, 0) (J) (L) 2 [some (.ref b), some (.ref (b + 2 + h)), some (.int (nI i))] [] := by
    refine up_loop (fun i hi ih J hF hJ => ?_)
    obtain ⟨wk, eP, eH⟩ := shuL_Wk (N := N) (b := 30) (h := h) ⟨hN, hL, hN.o30⟩ (by omega) i (by omega)
    have hM := wk.1
    obtain ⟨M, eM⟩ : ∃ M, M = shuL N h i := ⟨_, rfl⟩
    rw [← eM] at hJ hM eP eH
    have eP : nPo M = nPo N := by unfold nPo; rw [eP]
    have eH : nHo M = nHo N := by unfold nHo; rw [eH]
    have g8 := hM.p8
    have g10 := hM.h10
    refine aw_iload_n dX7_dropBidsFor_2 rfl ?_
    refine aw_aload_n dX7_dropBidsFor_3 rfl ?_
    refine aw_getI dX7_dropBidsFor_4 fX7_62 hS.k hS.b0 rfl ?_
    refine AW.top (hJ.np.trans hM.p) ?_
    refine aw_icmp_ge (tgt := 36) dX7_dropBidsFor_7 rfl (fun c7 => ?_) (fun c7 => ?_)
    · rw [eP] at c7
      have e := ge_t rfl (by omega) hi c7
      subst e
      refine aw_vret q rfl dX7_dropBidsFor_36 ⟨Nat.le_refl _, Nat.le_refl _⟩ ?_
      exact ⟨rfl, rfl, rfl, rfl, rfl, hF, by rw [← eM]; exact hJ⟩
    · rw [eP] at c7
      have hlt := ge_f rfl (by omega) hi c7
      refine aw_aload_n dX7_dropBidsFor_10 rfl ?_
      refine aw_getR (b := b + 12) dX7_dropBidsFor_11 fX7_22 hS.k hS.b0 rfl hS.r1 ?_
      refine aw_iload_n dX7_dropBidsFor_14 rfl ?_
      refine aw_houses (p := i) hS rfl (by omega) dX7_dropBidsFor_15 ?_
      refine aw_dup dX7_dropBidsFor_16 rfl ?_
      refine aw_getI dX7_dropBidsFor_17 fX7_230 (hS.po (by omega)) (hS.pb (by omega)) rfl ?_
      refine AW.top (hJ.pf g8 (p := i) (w := 10) (by omega) (by decide) (by decide) (by decide)) ?_
      refine aw_aload_n dX7_dropBidsFor_20 rfl ?_
      refine aw_getI dX7_dropBidsFor_21 fX7_153 (hS.ho (by omega)) (hS.hb (by omega)) rfl ?_
      refine AW.top (hJ.hi (by omega)) ?_
      refine aw_iconst (v := (-1)) dX7_dropBidsFor_24 rfl ?_
      refine aw_ixor dX7_dropBidsFor_25 ?_
      refine aw_iand dX7_dropBidsFor_26 ?_
      refine aw_putI dX7_dropBidsFor_27 fX7_230 (hS.po (by omega)) (hS.pb (by omega)) rfl rfl ?_
      refine aw_iinc dX7_dropBidsFor_30 rfl (ginc rfl) (by decide) rfl ?_
      refine aw_goto (tgt := 2) dX7_dropBidsFor_33 rfl ?_
      refine ih hlt _ (hF.put (by omega)) ?_
      have e9 := drop_bit (x := M (80 + 18 * i + 10)) (show h < 10 by omega)
      rw [e9]
      have := hJ.putP hM (p := i) (w := 10) (v := iDrop (M (80 + 18 * i + 10)) (nI h)) (by omega) (by decide) (by decide) (by decide) (by decide) (by decide) (fun q => absurd q (by decide))
      rw [shuL, ← eM]
      exact this
  refine aw_iconst (v := 0) dX7_dropBidsFor_0 rfl ?_
  refine aw_istore_n dX7_dropBidsFor_1 (by decide) rfl ?_
  exact loop 0 (Nat.zero_le _) I Fr.rf hC
set_option maxHeartbeats 4000000 in
set_option maxRecDepth 100000 in
theorem sX7_vacateN (hS : IsS n sh b) (hC : CtS I L b N Q) (hO : Ok N) {p : Nat} (hp : p < nPo N) (e4 : N (80 + 18 * p + 4) = -1) {v : Int32}  : CM yX7_vacate cX7_vacate 4 (Option.none : Option FieldType) 2 0 0 [.ref b, .ref (b + 13 + 2 * p), .int v] z n sh I L (Mut none b (mPuts N p 4 (-1)) Q z n sh I L) := by
  refine CM.go [some (.ref b), some (.ref (b + 13 + 2 * p)), some (.int v), none] rfl rfl (Nat.le_of_ble_eq_true rfl) (fun X g q => ?_)
  have hN := hO.1
  have hR := hO.2.1
  have hB := hO.2.2.1
  have hE := hO.2.2.2
  have h8 := hN.p8
  have h10 := hN.h10
  refine aw_aload_n dX7_vacate_0 rfl ?_
  refine aw_aload_n dX7_vacate_1 rfl ?_
  refine aw_getI dX7_vacate_2 fX7_176 (hS.po (by omega)) (hS.pb (by omega)) rfl ?_
  refine AW.top (hC.pf h8 (p := p) (w := 4) (by omega) (by decide) (by decide) (by decide)) ?_
  refine aw_cV dX7_vacate_5 kX7_212 mX7_homeAt (sX7_homeAtN hS hC hO (by rw [e4]; exact from_m1)) (Nat.le_of_ble_eq_true rfl) hS.k ⟨by decide, rfl⟩ hS.b0 rfl rfl (Nat.le_of_ble_eq_true rfl) ⟨Nat.le_refl _, Nat.le_refl _⟩ ?_
  refine aw_astore_nN dX7_vacate_8 (by decide) rfl ?_
  refine aw_aload_nN dX7_vacate_9 rfl ?_
  refine aw_ifnullN (tgt := 28) dX7_vacate_10 rfl ?_
  refine aw_aload_n dX7_vacate_28 rfl ?_
  refine aw_iconst (v := (-1)) dX7_vacate_29 rfl ?_
  refine aw_putI dX7_vacate_30 fX7_176 (hS.po (by omega)) (hS.pb (by omega)) rfl rfl ?_
  refine aw_vret q rfl dX7_vacate_33 ⟨Nat.le_refl _, Nat.le_refl _⟩ ?_
  exact ⟨rfl, rfl, rfl, rfl, rfl, Fr.rf.put (by omega), hC.putP hN (p := p) (w := 4) (by omega) (by decide) (by decide) (by decide) (by decide) (by decide) (fun q => absurd q (by decide))⟩
set_option maxHeartbeats 4000000 in
set_option maxRecDepth 100000 in
theorem sX7_vacate (hS : IsS n sh b) (hC : CtS I L b N Q) (hO : Ok N) {p : Nat} (hp : p < nPo N) {u : Nat} (hu : u < nHo N) (e4 : N (80 + 18 * p + 4) = nI u) {v : Int32}  : CM yX7_vacate cX7_vacate 4 (Option.none : Option FieldType) 2 0 0 [.ref b, .ref (b + 13 + 2 * p), .int v] z n sh I L (Mut none b (mPuts (mLeaves N u v) p 4 (-1)) Q z n sh I L) := by
  refine CM.go [some (.ref b), some (.ref (b + 13 + 2 * p)), some (.int v), none] rfl rfl (Nat.le_of_ble_eq_true rfl) (fun X g q => ?_)
  have hN := hO.1
  have hR := hO.2.1
  have hB := hO.2.2.1
  have hE := hO.2.2.2
  have h8 := hN.p8
  have h10 := hN.h10
  refine aw_aload_n dX7_vacate_0 rfl ?_
  refine aw_aload_n dX7_vacate_1 rfl ?_
  refine aw_getI dX7_vacate_2 fX7_176 (hS.po (by omega)) (hS.pb (by omega)) rfl ?_
  refine AW.top (hC.pf h8 (p := p) (w := 4) (by omega) (by decide) (by decide) (by decide)) ?_
  refine aw_cV dX7_vacate_5 kX7_212 mX7_homeAt (sX7_homeAt hS hC hO e4 hu) (Nat.le_of_ble_eq_true rfl) hS.k ⟨by decide, rfl⟩ hS.b0 rfl rfl (Nat.le_of_ble_eq_true rfl) ⟨Nat.le_refl _, Nat.le_refl _⟩ ?_
  refine aw_astore_n dX7_vacate_8 (by decide) rfl ?_
  refine aw_aload_n dX7_vacate_9 rfl ?_
  refine aw_ifnull dX7_vacate_10 ?_
  refine aw_aload_n dX7_vacate_13 rfl ?_
  refine aw_iconst (v := (-1)) dX7_vacate_14 rfl ?_
  refine aw_putI dX7_vacate_15 fX7_283 (hS.ho (by omega)) (hS.hb (by omega)) rfl rfl ?_
  refine aw_aload_n dX7_vacate_18 rfl ?_
  refine aw_iconst (v := 1) dX7_vacate_19 rfl ?_
  refine aw_putZ dX7_vacate_20 fX7_288 (hS.ho (by omega)) (hS.hb (by omega)) rfl rfl (by decide) ?_
  refine aw_aload_n dX7_vacate_23 rfl ?_
  refine aw_iload_n dX7_vacate_24 rfl ?_
  refine aw_putI dX7_vacate_25 fX7_276 (hS.ho (by omega)) (hS.hb (by omega)) rfl rfl ?_
  refine aw_aload_n dX7_vacate_28 rfl ?_
  refine aw_iconst (v := (-1)) dX7_vacate_29 rfl ?_
  refine aw_putI dX7_vacate_30 fX7_176 (hS.po (by omega)) (hS.pb (by omega)) rfl rfl ?_
  refine aw_vret q rfl dX7_vacate_33 ⟨Nat.le_refl _, Nat.le_refl _⟩ ?_
  have c1 : Cn (mPutsH N u 2 (-1)) := hN.who' (by omega) (Or.inl rfl)
  have c2 : Cn (mPutsH (mPutsH N u 2 (-1)) u 3 1) := c1.free (free_home (by omega) (by decide) (by decide))
  have c3 : Cn (mLeaves N u v) := c2.free (free_home (by omega) (by decide) (by decide))
  have k1 := hC.putH hN (h := u) (w := 2) (v := -1) (by omega) (by decide) (by decide) (fun q => absurd q (by decide))
  have k2 := k1.putH c1 (h := u) (w := 3) (v := 1) (by omega) (by decide) (by decide) (fun _ => Or.inr rfl)
  have k3 := k2.putH c2 (h := u) (w := 5) (v := v) (by omega) (by decide) (by decide) (fun q => absurd q (by decide))
  exact ⟨rfl, rfl, rfl, rfl, rfl, (((Fr.rf.put (by omega)).put (by omega)).put (by omega)).put (by omega), k3.putP c3 (p := p) (w := 4) (by omega) (by decide) (by decide) (by decide) (by decide) (by decide) (fun q => absurd q (by decide))⟩
set_option maxHeartbeats 4000000 in
set_option maxRecDepth 100000 in
theorem sX7_refuseHome (hS : IsS n sh b) (hC : CtS I L b N Q) (hO : Ok N) {p : Nat} (hp : p < nPo N)  : CM yX7_refuseHome cX7_refuseHome 2 (Option.none : Option FieldType) 1 0 0 [.ref b, .ref (b + 13 + 2 * p)] z n sh I L (Mut none b (mRefuses N p) Q z n sh I L) := by
  refine CM.go [some (.ref b), some (.ref (b + 13 + 2 * p))] rfl rfl (Nat.le_of_ble_eq_true rfl) (fun X g q => ?_)
  have hN := hO.1
  have hR := hO.2.1
  have hB := hO.2.2.1
  have hE := hO.2.2.2
  have h8 := hN.p8
  have h10 := hN.h10
  have c1 : Cn (mPuts N p 5 (N (80 + 18 * p + 5) + 1)) := hN.free (free_house (by omega) (by decide) (by decide) hN.l8)
  have d1 : Cn (upd N 298 (N 298 + 1)) := hN.free (free_let (by have := hN.l8; omega) (by omega))
  have c2 : Cn (mRef1 N p) := c1.free (free_let (by have := c1.l8; omega) (by omega))
  have eP2 : nPo (mRef1 N p) = nPo N := by unfold nPo mRef1 mPuts; rw [upd_ne (by omega), upd_ne (by omega)]
  have k2 : CtS (upI (upI I b 8 (N 298 + 1)) (b + 13 + 2 * p) 10 (N (80 + 18 * p + 5) + 1)) L b (mRef1 N p) Q := by
    have k1 := hC.put8 (v := N 298 + 1) hN
    have := k1.putP d1 (p := p) (w := 5) (v := N (80 + 18 * p + 5) + 1) (by omega) (by decide) (by decide) (by decide) (by decide) (by decide) (fun q => absurd q (by decide))
    refine this.cong ?_
    unfold mRef1 mPuts
    exact fa_upd_swap N (by omega) _ _
  refine aw_aload_n dX7_refuseHome_0 rfl ?_
  refine aw_dup dX7_refuseHome_1 rfl ?_
  refine aw_getI dX7_refuseHome_2 fX7_68 hS.k hS.b0 rfl ?_
  refine AW.top hC.rf ?_
  refine aw_iconst (v := 1) dX7_refuseHome_5 rfl ?_
  refine aw_iadd dX7_refuseHome_6 ?_
  refine aw_putI dX7_refuseHome_7 fX7_68 hS.k hS.b0 rfl rfl ?_
  refine aw_aload_n dX7_refuseHome_10 rfl ?_
  refine aw_dup dX7_refuseHome_11 rfl ?_
  refine aw_getI dX7_refuseHome_12 fX7_271 (hS.po (by omega)) (hS.pb (by omega)) rfl ?_
  refine AW.top ((upI_n (Or.inl (by omega))).trans (hC.pf h8 (p := p) (w := 5) (by omega) (by decide) (by decide) (by decide))) ?_
  refine aw_iconst (v := 1) dX7_refuseHome_15 rfl ?_
  refine aw_iadd dX7_refuseHome_16 ?_
  refine aw_putI dX7_refuseHome_17 fX7_271 (hS.po (by omega)) (hS.pb (by omega)) rfl rfl ?_
  refine AW.gen (fun J => Fr b I J ∧ CtS J L b (mRef1 N p) Q) ⟨(Fr.rf.put (by omega)).put (by omega), k2⟩ (fun J hJ => ?_)
  obtain ⟨hF, hJ⟩ := hJ
  refine aw_aload_n dX7_refuseHome_20 rfl ?_
  refine aw_getI dX7_refuseHome_21 fX7_271 (hS.po (by omega)) (hS.pb (by omega)) rfl ?_
  refine AW.top (y := N (80 + 18 * p + 5) + 1) ((hJ.pf (N := mRef1 N p) c2.p8 (p := p) (w := 5) (by rw [eP2]; exact hp) (by decide) (by decide) (by decide)).trans (by unfold mRef1 mPuts; rw [upd_ne (by omega), upd_eq])) ?_
  refine aw_aload_n dX7_refuseHome_24 rfl ?_
  refine aw_getR (b := b + 29) dX7_refuseHome_25 fX7_27 hS.k hS.b0 rfl hS.r2 ?_
  refine aw_iconst (v := 0) dX7_refuseHome_28 rfl ?_
  refine aw_ialdN (k := 0) dX7_refuseHome_29 hS.uk (hS.lt (k := 29) (by decide)) hS.ul rfl (by decide) (by decide) ?_
  refine AW.top (y := N 224) ((hJ.uf (r := 0) (by decide)).trans (by unfold mRef1 mPuts; rw [upd_ne (by omega), upd_ne (by omega)])) ?_
  refine aw_icmp_lt (tgt := 50) dX7_refuseHome_30 rfl (fun c30 => ?_) (fun c30 => ?_)
  · refine aw_vret q rfl dX7_refuseHome_50 ⟨Nat.le_refl _, Nat.le_refl _⟩ ?_
    exact ⟨rfl, rfl, rfl, rfl, rfl, hF, by unfold mRefuses; rw [if_pos c30]; exact hJ⟩
  · refine aw_aload_n dX7_refuseHome_33 rfl ?_
    refine aw_iconst (v := 0) dX7_refuseHome_34 rfl ?_
    refine aw_putI dX7_refuseHome_35 fX7_271 (hS.po (by omega)) (hS.pb (by omega)) rfl rfl ?_
    refine aw_aload_n dX7_refuseHome_38 rfl ?_
    refine aw_aload_n dX7_refuseHome_39 rfl ?_
    refine aw_getR (b := b + 29) dX7_refuseHome_40 fX7_27 hS.k hS.b0 rfl hS.r2 ?_
    refine aw_iconst (v := 1) dX7_refuseHome_43 rfl ?_
    refine aw_ialdN (k := 1) dX7_refuseHome_44 hS.uk (hS.lt (k := 29) (by decide)) hS.ul rfl (by decide) (by decide) ?_
    refine AW.top (y := N 225) ((upI_n (Or.inl (by omega))).trans ((hJ.uf (r := 1) (by decide)).trans (by unfold mRef1 mPuts; rw [upd_ne (by omega), upd_ne (by omega)]))) ?_
    refine aw_iconst (v := 1) dX7_refuseHome_45 rfl ?_
    refine aw_iadd dX7_refuseHome_46 ?_
    refine aw_putI dX7_refuseHome_47 fX7_203 (hS.po (by omega)) (hS.pb (by omega)) rfl rfl ?_
    refine aw_vret q rfl dX7_refuseHome_50 ⟨Nat.le_refl _, Nat.le_refl _⟩ ?_
    have c3 : Cn (mPuts (mRef1 N p) p 5 0) := c2.free (free_house (by omega) (by decide) (by decide) c2.l8)
    have k3 := hJ.putP c2 (p := p) (w := 5) (v := 0) (by omega) (by decide) (by decide) (by decide) (by decide) (by decide) (fun q => absurd q (by decide))
    refine ⟨rfl, rfl, rfl, rfl, rfl, (hF.put (by omega)).put (by omega), ?_⟩
    unfold mRefuses
    rw [if_neg c30]
    exact k3.putB c3 (p := p) (by omega) rfl
end ClsS
