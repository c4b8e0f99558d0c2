/-! the class: trades -/
/-- an end that tells what the ints hold -/
def Ef (r : Option Value) (P : MI → Prop) (z n : Nat) (sh : Shp) (L : ML) : PoT := fun v z' n' sh' J M => v = r ∧ z' = z ∧ n' = n ∧ sh' = sh ∧ M = L ∧ P J
section AEf
variable {X : Cx} {g : Gd} {own : String} {cc : ByteArray} {nL : Nat} {Bd : Nat × Nat × Nat} {E : En} {I : MI} {L : ML} {pc : Nat} {Lc : List (Option Value)} {st : List Value}
theorem aw_eV {idx ci b : Nat} {y : MethodName} {cc2 : ByteArray} {nL2 : Nat} {ret2 : Option FieldType} {np d : Nat} {As : List Value} {st0 : List Value} {r : Option Value} {P : MI → Prop} (dg : decode cc pc = .ok (.invokevirtual idx, 3)) (hl : Cond.methodLink own idx y ∈ tblG) (hm : mV y cc2 nL2 ret2 np) (hM : CM y cc2 nL2 ret2 d 0 0 (.ref b :: As) E.1 E.2.1 E.2.2.1 I L (Ef r P E.1 E.2.1 E.2.2.1 L))
    (hd : d + 1 ≤ Bd.1) (hk : (E.2.2.1 b).1 = ci) (hci : ci < 12 ∧ clR ci = y.cls) (hb : b < E.2.1) (hst : st0 = As.reverse ++ .ref b :: st) (hn : As.length = np) (hw : (st.map fun v => v.category).sum ≤ 8) (hf : E.2.2.2.1 ≤ Bd.2.1 ∧ E.2.2.2.2 ≤ Bd.2.2)
    (k : ∀ J, P J → AW X g own cc nL Bd E J L (pc + 3) Lc (r.toList ++ st)) : AW X g own cc nL Bd E I L pc Lc st0 :=
  aw_callV dg hl hm hM hd hk hci hb hst hn hw hf (fun v z n sh I3 L3 q => by
    obtain ⟨h1, h2, h3, h4, h5, h6⟩ := q
    subst h1 h2 h3 h4
    have h8 : L = L3 := h5.symm
    subst h8
    exact k _ h6)
theorem aw_eS {idx : Nat} {y : MethodName} {cc2 : ByteArray} {nL2 : Nat} {ret2 : Option FieldType} {np d : Nat} {As : List Value} {st0 : List Value} {r : Option Value} {P : MI → Prop} (dg : decode cc pc = .ok (.invokestatic idx, 3)) (hl : Cond.methodLink own idx y ∈ tblG) (hm : mS y cc2 nL2 ret2 np) (hM : CM y cc2 nL2 ret2 d 0 0 As E.1 E.2.1 E.2.2.1 I L (Ef r P E.1 E.2.1 E.2.2.1 L))
    (hd : d + 1 ≤ Bd.1) (hst : st0 = As.reverse ++ st) (hn : As.length = np) (hw : (st.map fun v => v.category).sum ≤ 8) (hf : E.2.2.2.1 ≤ Bd.2.1 ∧ E.2.2.2.2 ≤ Bd.2.2)
    (k : ∀ J, P J → AW X g own cc nL Bd E J L (pc + 3) Lc (r.toList ++ st)) : AW X g own cc nL Bd E I L pc Lc st0 :=
  aw_callS dg hl hm hM hd hst hn hw hf (fun v z n sh I3 L3 q => by
    obtain ⟨h1, h2, h3, h4, h5, h6⟩ := q
    subst h1 h2 h3 h4
    have h8 : L = L3 := h5.symm
    subst h8
    exact k _ h6)
end AEf
/-- the trades' cells alone changed -/
def TdF (I J : MI) : Prop := ∀ x, x ≠ 493 → x ≠ 494 → x ≠ 495 → J x = I x
theorem TdF.rf {I : MI} : TdF I I := fun _ _ _ _ => rfl
theorem TdF.put {I J : MI} {a k : Nat} {v : Int32} (h : TdF I J) (ha : a = 493 ∨ a = 494 ∨ a = 495) : TdF I (upI J a k v) := fun x h1 h2 h3 => (if_neg (by omega)).trans (h x h1 h2 h3)
theorem TdF.tr {I J K : MI} (h : TdF I J) (h2 : TdF J K) : TdF I K := fun x a b c => (h2 x a b c).trans (h x a b c)
theorem TdF.ct {I J : MI} {L : ML} {N : Nat → Int32} {Q : Nat → Int64} (h : TdF I J) (hC : CtS I L 1 N Q) (hN : Cn N) : CtS J L 1 N Q := hC.fr hN (fun a ha => h _ (by omega) (by omega) (by omega)) (fun a ha => rfl)
def LkA (N : Nat → Int32) (v : Nat) (J : MI) : Prop := ∀ q, q < 8 → v.testBit q = true → J 494 q = nI (tnx N v q)
theorem shl_8 : ∀ i, i < 8 → (1 : Int32) <<< (nI i &&& 31) = nI (2 ^ i) := by decide +kernel
theorem bt_and8 {v k : Nat} (hv : v < 256) (hk : k < 8) : nI v &&& nI (2 ^ k) = 0 ↔ v.testBit k = false := by
  rw [bt_and rfl (by omega) (by omega), (bit_all v (by omega) k (by omega)).1]
section ClsS
variable {z n : Nat} {sh : Shp} {I : MI} {L : ML} {N : Nat → Int32} {Q : Nat → Int64}
set_option maxHeartbeats 4000000 in
set_option maxRecDepth 100000 in
theorem sX9_isIn (hX : IsX n sh) {v : Nat} (hv : I 493 2 = nI v) (hv8 : v < 256) {x : Int32} {k : Nat} (hx : x = nI k) (hk : k < 8)  : CM yX9_isIn cX9_isIn 2 (Option.some .boolean) 1 0 0 [.ref 493, .int x] z n sh I L (Pst (some (.int (bI (v.testBit k)))) z n sh I L) := by
  refine CM.go [some (.ref 493), some (.int x)] rfl rfl (Nat.le_of_ble_eq_true rfl) (fun X g q => ?_)
  subst hx
  refine aw_iload_n dX9_isIn_0 rfl ?_
  refine aw_if_lt (tgt := 25) dX9_isIn_1 rfl (fun c1 => ?_) (fun c1 => ?_)
  · exact absurd c1 (nI_pos (by omega))
  · skip
    refine aw_iload_n dX9_isIn_4 rfl ?_
    refine aw_bipush (v := 8) dX9_isIn_5 rfl ?_
    refine aw_icmp_ge (tgt := 25) dX9_isIn_7 rfl (fun c7 => ?_) (fun c7 => ?_)
    · exact absurd ((nI_leI (a := 8) (b := k) (by decide) (by omega)).mp c7) (by omega)
    · skip
      refine aw_aload_n dX9_isIn_10 rfl ?_
      refine aw_getI dX9_isIn_11 fX9_18 hX.trd.1 (hX.lt (by decide)) rfl ?_
      refine AW.top hv ?_
      refine aw_iconst (v := 1) dX9_isIn_14 rfl ?_
      refine aw_iload_n dX9_isIn_15 rfl ?_
      refine aw_ishl dX9_isIn_16 ?_
      refine AW.top (shl_8 k hk) ?_
      refine aw_iand dX9_isIn_17 ?_
      refine aw_if_eq (tgt := 25) dX9_isIn_18 rfl (fun c18 => ?_) (fun c18 => ?_)
      · refine aw_iconst (v := 0) dX9_isIn_25 rfl ?_
        refine aw_zret q rfl (by decide) dX9_isIn_26 ⟨Nat.le_refl _, Nat.le_refl _⟩ ?_
        refine Pst.iv ?_
        rw [(bt_and8 hv8 hk).mp c18]
        rfl
      · refine aw_iconst (v := 1) dX9_isIn_21 rfl ?_
        refine aw_goto (tgt := 26) dX9_isIn_22 rfl ?_
        refine aw_zret q rfl (by decide) dX9_isIn_26 ⟨Nat.le_refl _, Nat.le_refl _⟩ ?_
        refine Pst.iv ?_
        rw [show v.testBit k = true from by
          cases hb : v.testBit k with
          | true => rfl
          | false => exact absurd ((bt_and8 hv8 hk).mpr hb) c18]
        rfl
set_option maxHeartbeats 4000000 in
set_option maxRecDepth 100000 in
theorem sX9_isInN (hX : IsX n sh) {x : Int32} (hx : x = -1)  : CM yX9_isIn cX9_isIn 2 (Option.some .boolean) 1 0 0 [.ref 493, .int x] z n sh I L (Pst (some (.int (bI false))) z n sh I L) := by
  refine CM.go [some (.ref 493), some (.int x)] rfl rfl (Nat.le_of_ble_eq_true rfl) (fun X g q => ?_)
  subst hx
  refine aw_iload_n dX9_isIn_0 rfl ?_
  refine aw_if_lt (tgt := 25) dX9_isIn_1 rfl (fun c1 => ?_) (fun c1 => ?_)
  · skip
    refine aw_iconst (v := 0) dX9_isIn_25 rfl ?_
    refine aw_zret q rfl (by decide) dX9_isIn_26 ⟨Nat.le_refl _, Nat.le_refl _⟩ ?_
    exact Pst.rf
  · exact absurd (by decide) c1
theorem sX9_isInO (hX : IsX n sh) {v : Nat} (hv : I 493 2 = nI v) (hv8 : v < 256) {x : Int32} (hx : oI x 8) : CM yX9_isIn cX9_isIn 2 (Option.some .boolean) 1 0 0 [.ref 493, .int x] z n sh I L (Pst (some (.int (bI (!decide (x = -1) && v.testBit x.toNatClampNeg)))) z n sh I L) := by
  rcases hx with e | ⟨k, hk, e⟩
  · rw [show (!decide (x = -1) && v.testBit x.toNatClampNeg) = false from by rw [decide_eq_true e]; rfl]
    exact sX9_isInN hX e
  · rw [show (!decide (x = -1) && v.testBit x.toNatClampNeg) = v.testBit k from by rw [e, decide_eq_false (nI_ne_m1 (by omega)), nI_clamp (by omega)]; rfl]
    exact sX9_isIn hX hv hv8 e hk
set_option maxHeartbeats 4000000 in
set_option maxRecDepth 100000 in
theorem sX9_lookOf (hX : IsX n sh) {x : Int32} {k : Nat} (hx : x = nI k) (hk : k < 8)  : CM yX9_lookOf cX9_lookOf 2 (Option.some .int) 1 0 0 [.ref 493, .int x] z n sh I L (Pst (some (.int (I 494 k))) z n sh I L) := by
  refine CM.go [some (.ref 493), some (.int x)] rfl rfl (Nat.le_of_ble_eq_true rfl) (fun X g q => ?_)
  subst hx
  refine aw_iload_n dX9_lookOf_0 rfl ?_
  refine aw_if_lt (tgt := 10) dX9_lookOf_1 rfl (fun c1 => ?_) (fun c1 => ?_)
  · exact absurd c1 (nI_pos (by omega))
  · skip
    refine aw_iload_n dX9_lookOf_4 rfl ?_
    refine aw_bipush (v := 8) dX9_lookOf_5 rfl ?_
    refine aw_icmp_lt (tgt := 14) dX9_lookOf_7 rfl (fun c7 => ?_) (fun c7 => ?_)
    · skip
      refine aw_aload_n dX9_lookOf_14 rfl ?_
      refine aw_getR (b := 494) dX9_lookOf_15 fX9_9 hX.trd.1 (hX.lt (by decide)) rfl hX.trd.2.1 ?_
      refine aw_iload_n dX9_lookOf_18 rfl ?_
      refine aw_ialdN (k := k) dX9_lookOf_19 hX.trd.2.2.2.1.1 (hX.lt (by decide)) hX.trd.2.2.2.1.2 rfl (by omega) (by decide) ?_
      refine aw_iret q rfl dX9_lookOf_20 ⟨Nat.le_refl _, Nat.le_refl _⟩ ?_
      exact Pst.rf
    · exact absurd ((nI_ltI (a := k) (b := 8) (by omega) (by decide)).mpr hk) c7
set_option maxHeartbeats 4000000 in
set_option maxRecDepth 100000 in
theorem sX9_gotBy (hX : IsX n sh) {x : Int32} {k : Nat} (hx : x = nI k) (hk : k < 8)  : CM yX9_gotBy cX9_gotBy 2 (Option.some .int) 1 0 0 [.ref 493, .int x] z n sh I L (Pst (some (.int (I 495 k))) z n sh I L) := by
  refine CM.go [some (.ref 493), some (.int x)] rfl rfl (Nat.le_of_ble_eq_true rfl) (fun X g q => ?_)
  subst hx
  refine aw_iload_n dX9_gotBy_0 rfl ?_
  refine aw_if_lt (tgt := 10) dX9_gotBy_1 rfl (fun c1 => ?_) (fun c1 => ?_)
  · exact absurd c1 (nI_pos (by omega))
  · skip
    refine aw_iload_n dX9_gotBy_4 rfl ?_
    refine aw_bipush (v := 8) dX9_gotBy_5 rfl ?_
    refine aw_icmp_lt (tgt := 14) dX9_gotBy_7 rfl (fun c7 => ?_) (fun c7 => ?_)
    · skip
      refine aw_aload_n dX9_gotBy_14 rfl ?_
      refine aw_getR (b := 495) dX9_gotBy_15 fX9_15 hX.trd.1 (hX.lt (by decide)) rfl hX.trd.2.2.1 ?_
      refine aw_iload_n dX9_gotBy_18 rfl ?_
      refine aw_ialdN (k := k) dX9_gotBy_19 hX.trd.2.2.2.2.1 (hX.lt (by decide)) hX.trd.2.2.2.2.2 rfl (by omega) (by decide) ?_
      refine aw_iret q rfl dX9_gotBy_20 ⟨Nat.le_refl _, Nat.le_refl _⟩ ?_
      exact Pst.rf
    · exact absurd ((nI_ltI (a := k) (b := 8) (by omega) (by decide)).mpr hk) c7
set_option maxHeartbeats 4000000 in
set_option maxRecDepth 100000 in
theorem sX9_lookOfOne (hX : IsX n sh) (hC : CtS I L 1 N Q) (hIv : Iv N) {v : Nat} (hv : I 493 2 = nI v) (hL : Liv N v) {p : Nat} (hp : p < nPo N) (hb : v.testBit p = true)  : CM yX9_lookOfOne cX9_lookOfOne 5 (Option.some .int) 2 0 0 [.ref 493, .ref 1, .ref (1 + 13 + 2 * p)] z n sh I L (Pst (some (.int (nI (tnx N v p)))) z n sh I L) := by
  refine CM.go [some (.ref 493), some (.ref 1), some (.ref (1 + 13 + 2 * p)), none, none] rfl rfl (Nat.le_of_ble_eq_true rfl) (fun X g q => ?_)
  have hO := hIv.ok
  have hN := hO.1
  have hR := hO.2.1
  have hB := hO.2.2.1
  have hE := hO.2.2.2
  have h8 := hN.p8
  have h10 := hN.h10
  have hS := hX.now
  have hCo := hIv.co
  have hv8 := hL.1
  have w6 := hN.w6 (show p < 8 by omega)
  have loop : ∀ i, i ≤ nWi N p → ∀ a4, fa_first (fun k => lkW N v p (wiN N p k)) i = i → AW X g RX9 cX9_lookOfOne 5 (2, 0, 0) (z, n, sh, 0, 0) (I) (L) 2 [some (.ref 493), some (.ref 1), some (.ref (1 + 13 + 2 * p)), some (.int (nI i)), a4] [] := by
    refine up_loop (fun i hi ih a4 hf => ?_)
    refine aw_iload_n dX9_lookOfOne_2 rfl ?_
    refine aw_aload_n dX9_lookOfOne_3 rfl ?_
    refine aw_getI dX9_lookOfOne_4 fX9_65 (hS.po (by omega)) (hS.pb (by omega)) rfl ?_
    refine AW.top ((hC.pf h8 (p := p) (w := 11) (by omega) (by decide) (by decide) (by decide)).trans (hN.w (by omega))) ?_
    refine aw_icmp_ge (tgt := 59) dX9_lookOfOne_7 rfl (fun c7 => ?_) (fun c7 => ?_)
    · have e := ge_t rfl (by omega) hi c7
      subst e
      refine aw_aload_n dX9_lookOfOne_59 rfl ?_
      refine aw_getI dX9_lookOfOne_60 fX9_85 (hS.po (by omega)) (hS.pb (by omega)) rfl ?_
      refine AW.top (hC.pn (by omega)) ?_
      refine aw_iret q rfl dX9_lookOfOne_63 ⟨Nat.le_refl _, Nat.le_refl _⟩ ?_
      have e1 : lkK N v p = nWi N p := hf
      have e2 : lkH N v p = nHm N p := by unfold lkH; rw [e1, if_neg (Nat.lt_irrefl _)]
      refine Pst.iv (congrArg nI ?_)
      refine ((own_iff hCo hN hL (by omega) hb).mpr ?_).symm
      rw [e2]
      unfold nHm
      rcases hCo.1 p hp with q | ⟨h, h1, h2, -⟩
      · exact absurd q (hL.2 p (by omega) hb).2
      · rw [h2, nI_clamp (by omega)]
    · have hlt := ge_f rfl (by omega) hi c7
      obtain ⟨h, hh, eh⟩ := hCo.2.2 p hp i hlt
      have ew : wiN N p i = h := by unfold wiN; rw [eh]; exact nI_clamp (by omega)
      refine aw_aload_n dX9_lookOfOne_10 rfl ?_
      refine aw_aload_n dX9_lookOfOne_11 rfl ?_
      refine aw_iload_n dX9_lookOfOne_12 rfl ?_
      refine aw_cV dX9_lookOfOne_13 kX9_68 mX3_wishAt (sX3_wishAt hS hC hN hp rfl hlt) (Nat.le_of_ble_eq_true rfl) (hS.po (by omega)) ⟨by decide, rfl⟩ (hS.pb (by omega)) rfl rfl (Nat.le_of_ble_eq_true rfl) ⟨Nat.le_refl _, Nat.le_refl _⟩ ?_
      refine aw_cV dX9_lookOfOne_16 kX9_72 mX7_homeAt (sX7_homeAt hS hC hO eh hh) (Nat.le_of_ble_eq_true rfl) hS.k ⟨by decide, rfl⟩ hS.b0 rfl rfl (Nat.le_of_ble_eq_true rfl) ⟨Nat.le_refl _, Nat.le_refl _⟩ ?_
      refine aw_astore dX9_lookOfOne_19 (by decide) rfl ?_
      refine aw_aload dX9_lookOfOne_21 rfl ?_
      refine aw_ifnull dX9_lookOfOne_23 ?_
      refine aw_aload_n dX9_lookOfOne_26 rfl ?_
      refine aw_aload dX9_lookOfOne_27 rfl ?_
      refine aw_cV dX9_lookOfOne_29 kX9_76 mX3_suits (sX3_suits hS hC hN hp hh hR) (Nat.le_of_ble_eq_true rfl) (hS.po (by omega)) ⟨by decide, rfl⟩ (hS.pb (by omega)) rfl rfl (Nat.le_of_ble_eq_true rfl) ⟨Nat.le_refl _, Nat.le_refl _⟩ ?_
      refine aw_if_eq (tgt := 53) dX9_lookOfOne_32 rfl (fun c32 => ?_) (fun c32 => ?_)
      · refine aw_iinc dX9_lookOfOne_53 rfl (ginc rfl) (by decide) rfl ?_
        refine aw_goto (tgt := 2) dX9_lookOfOne_56 rfl ?_
        have b9 : lkW N v p (wiN N p i) = false := by
          unfold lkW
          rw [ew, bI0.mp c32, Bool.and_false]
        exact ih hlt _ (fa_first_no1 hf (by rw [b9]; exact Bool.noConfusion))
      · refine aw_aload_n dX9_lookOfOne_35 rfl ?_
        refine aw_aload dX9_lookOfOne_36 rfl ?_
        refine aw_getI dX9_lookOfOne_38 fX9_80 (hS.ho (by omega)) (hS.hb (by omega)) rfl ?_
        refine AW.top (hC.hf h10 (h := h) (w := 2) (by omega) (by decide)) ?_
        refine aw_cV dX9_lookOfOne_41 kX9_57 mX9_isIn (sX9_isInO hX hv hv8 (hN.who (by omega))) (Nat.le_of_ble_eq_true rfl) hX.trd.1 ⟨by decide, rfl⟩ (hX.lt (by decide)) rfl rfl (Nat.le_of_ble_eq_true rfl) ⟨Nat.le_refl _, Nat.le_refl _⟩ ?_
        refine aw_if_eq (tgt := 53) dX9_lookOfOne_44 rfl (fun c44 => ?_) (fun c44 => ?_)
        · refine aw_iinc dX9_lookOfOne_53 rfl (ginc rfl) (by decide) rfl ?_
          refine aw_goto (tgt := 2) dX9_lookOfOne_56 rfl ?_
          have b9 : lkW N v p (wiN N p i) = false := by
            unfold lkW
            rw [ew, bI0.mp c44, Bool.false_and]
          exact ih hlt _ (fa_first_no1 hf (by rw [b9]; exact Bool.noConfusion))
        · refine aw_aload dX9_lookOfOne_47 rfl ?_
          refine aw_getI dX9_lookOfOne_49 fX9_80 (hS.ho (by omega)) (hS.hb (by omega)) rfl ?_
          refine AW.top (hC.hf h10 (h := h) (w := 2) (by omega) (by decide)) ?_
          refine aw_iret q rfl dX9_lookOfOne_52 ⟨Nat.le_refl _, Nat.le_refl _⟩ ?_
          have b9 : lkW N v p (wiN N p i) = true := by
            unfold lkW
            rw [ew, bI1.mp c44, bI1.mp c32]
            rfl
          have e1 : lkK N v p = i := fa_first_yes1 hf b9 hlt
          have e2 : lkH N v p = h := by unfold lkH; rw [e1, if_pos hlt, ew]
          refine Pst.iv ?_
          unfold tnx
          rw [e2]
          rcases hN.who (show h < 10 by omega) with q | ⟨r, hr, er⟩
          · have := andT (bI1.mp c44)
            rw [q] at this
            exact absurd this.1 (by decide)
          · rw [er, nI_clamp (by omega)]
  refine aw_iconst (v := 0) dX9_lookOfOne_0 rfl ?_
  refine aw_istore_n dX9_lookOfOne_1 (by decide) rfl ?_
  exact loop 0 (Nat.zero_le _) none rfl
set_option maxHeartbeats 4000000 in
set_option maxRecDepth 100000 in
theorem sX9_lookRound (hX : IsX n sh) (hC : CtS I L 1 N Q) (hIv : Iv N) {v : Nat} (hv : I 493 2 = nI v) (hL : Liv N v)  : CM yX9_lookRound cX9_lookRound 3 (Option.none : Option FieldType) 3 0 0 [.ref 493, .ref 1] z n sh I L (Ef none (fun J => (∀ x, x ≠ 494 → J x = I x) ∧ LkA N v J) z n sh L) := by
  refine CM.go [some (.ref 493), some (.ref 1), none] rfl rfl (Nat.le_of_ble_eq_true rfl) (fun X g q => ?_)
  have hO := hIv.ok
  have hN := hO.1
  have hR := hO.2.1
  have hB := hO.2.2.1
  have hE := hO.2.2.2
  have h8 := hN.p8
  have h10 := hN.h10
  have hS := hX.now
  have hCo := hIv.co
  have hv8 := hL.1
  have loop : ∀ i, i ≤ nPo N → ∀ (J : MI), (∀ x, x ≠ 494 → J x = I x) → J 493 2 = nI v → (∀ q, q < i → v.testBit q = true → J 494 q = nI (tnx N v q)) → AW X g RX9 cX9_lookRound 3 (3, 0, 0) (z, n, sh, 0, 0) (J) (L) 2 [some (.ref 493), some (.ref 1), some (.int (nI i))] [] := by
    refine up_loop (fun i hi ih J hF hv2 hA => ?_)
    have hJ : CtS J L 1 N Q := hC.fr hN (fun a ha => hF _ (by omega)) (fun a ha => rfl)
    refine aw_iload_n dX9_lookRound_2 rfl ?_
    refine aw_aload_n dX9_lookRound_3 rfl ?_
    refine aw_getI dX9_lookRound_4 fX9_31 hS.k hS.b0 rfl ?_
    refine AW.top (hJ.np.trans hN.p) ?_
    refine aw_icmp_ge (tgt := 41) dX9_lookRound_7 rfl (fun c7 => ?_) (fun c7 => ?_)
    · have e := ge_t rfl (by omega) hi c7
      subst e
      refine aw_vret q rfl dX9_lookRound_41 ⟨Nat.le_refl _, Nat.le_refl _⟩ ?_
      exact ⟨rfl, rfl, rfl, rfl, rfl, hF, fun q hq hb => hA q (hL.2 q hq hb).1 hb⟩
    · have hlt := ge_f rfl (by omega) hi c7
      refine aw_aload_n dX9_lookRound_10 rfl ?_
      refine aw_iload_n dX9_lookRound_11 rfl ?_
      refine aw_cV dX9_lookRound_12 kX9_57 mX9_isIn (sX9_isIn hX hv2 hv8 rfl (by omega)) (Nat.le_of_ble_eq_true rfl) hX.trd.1 ⟨by decide, rfl⟩ (hX.lt (by decide)) rfl rfl (Nat.le_of_ble_eq_true rfl) ⟨Nat.le_refl _, Nat.le_refl _⟩ ?_
      refine aw_if_eq (tgt := 35) dX9_lookRound_15 rfl (fun c15 => ?_) (fun c15 => ?_)
      · refine aw_iinc dX9_lookRound_35 rfl (ginc rfl) (by decide) rfl ?_
        refine aw_goto (tgt := 2) dX9_lookRound_38 rfl ?_
        have hbf := bI0.mp c15
        exact ih hlt J hF hv2 (fun q hq hb => by
          by_cases e : q = i
          · rw [e, hbf] at hb; cases hb
          · exact hA q (by omega) hb)
      · refine aw_aload_n dX9_lookRound_18 rfl ?_
        refine aw_getR (b := 494) dX9_lookRound_19 fX9_9 hX.trd.1 (hX.lt (by decide)) rfl hX.trd.2.1 ?_
        refine aw_iload_n dX9_lookRound_22 rfl ?_
        refine aw_aload_n dX9_lookRound_23 rfl ?_
        refine aw_aload_n dX9_lookRound_24 rfl ?_
        refine aw_aload_n dX9_lookRound_25 rfl ?_
        refine aw_getR (b := 1 + 12) dX9_lookRound_26 fX9_36 hS.k hS.b0 rfl hS.r1 ?_
        refine aw_iload_n dX9_lookRound_29 rfl ?_
        refine aw_houses (p := i) hS rfl (by omega) dX9_lookRound_30 ?_
        refine aw_cV dX9_lookRound_31 kX9_61 mX9_lookOfOne (sX9_lookOfOne hX hJ hIv hv2 hL hlt (bI1.mp c15)) (Nat.le_of_ble_eq_true rfl) hX.trd.1 ⟨by decide, rfl⟩ (hX.lt (by decide)) rfl rfl (Nat.le_of_ble_eq_true rfl) ⟨Nat.le_refl _, Nat.le_refl _⟩ ?_
        refine aw_iastN (k := i) dX9_lookRound_34 hX.trd.2.2.2.1.1 (hX.lt (by decide)) hX.trd.2.2.2.1.2 rfl (by omega) (by decide) ?_
        refine aw_iinc dX9_lookRound_35 rfl (ginc rfl) (by decide) rfl ?_
        refine aw_goto (tgt := 2) dX9_lookRound_38 rfl ?_
        refine ih hlt _ (fun x hx => (if_neg hx).trans (hF x hx)) ((congrFun (if_neg (by decide)) 2).trans hv2) (fun q hq hb => ?_)
        by_cases e : q = i
        · subst e
          exact upI_s
        · rw [upI_n (Or.inr e)]
          exact hA q (by omega) hb
  refine aw_iconst (v := 0) dX9_lookRound_0 rfl ?_
  refine aw_istore_n dX9_lookRound_1 (by decide) rfl ?_
  exact loop 0 (Nat.zero_le _) I (fun _ _ => rfl) hv (fun q hq _ => absurd hq (Nat.not_lt_zero q))
set_option maxHeartbeats 4000000 in
set_option maxRecDepth 100000 in
theorem sX9_someoneInCircle (hX : IsX n sh) (hC : CtS I L 1 N Q) (hIv : Iv N) {v : Nat} (hv : I 493 2 = nI v) (hL : Liv N v) (hlk : LkA N v I) (h0 : ¬ v = 0)  : CM yX9_someoneInCircle cX9_someoneInCircle 3 (Option.some .int) 2 0 0 [.ref 493] z n sh I L (Pst (some (.int (nI (itr (tnx N v) 8 (ctz v))))) z n sh I L) := by
  refine CM.go [some (.ref 493), none, none] rfl rfl (Nat.le_of_ble_eq_true rfl) (fun X g q => ?_)
  have hO := hIv.ok
  have hN := hO.1
  have hR := hO.2.1
  have hB := hO.2.2.1
  have hE := hO.2.2.2
  have h8 := hN.p8
  have h10 := hN.h10
  have hS := hX.now
  have hCo := hIv.co
  have hv8 := hL.1
  obtain ⟨z1, z2, -⟩ := ctz_all v hv8 h0
  have loop : ∀ i, i ≤ 8 → AW X g RX9 cX9_someoneInCircle 3 (2, 0, 0) (z, n, sh, 0, 0) (I) (L) 10 [some (.ref 493), some (.int (nI (itr (tnx N v) i (ctz v)))), some (.int (nI i))] [] := by
    refine up_loop (fun i hi ih => ?_)
    have hin := itr_in hCo hN hL i (ctz v) z1 z2
    refine aw_iload_n dX9_someoneInCircle_10 rfl ?_
    refine aw_bipush (v := 8) dX9_someoneInCircle_11 rfl ?_
    refine aw_icmp_ge (tgt := 28) dX9_someoneInCircle_13 rfl (fun c13 => ?_) (fun c13 => ?_)
    · have e := ge_t (y := 8) (B := 8) rfl (by decide) hi c13
      subst e
      refine aw_iload_n dX9_someoneInCircle_28 rfl ?_
      refine aw_iret q rfl dX9_someoneInCircle_29 ⟨Nat.le_refl _, Nat.le_refl _⟩ ?_
      exact Pst.rf
    · have hlt := ge_f (y := 8) (B := 8) rfl (by decide) hi c13
      refine aw_aload_n dX9_someoneInCircle_16 rfl ?_
      refine aw_iload_n dX9_someoneInCircle_17 rfl ?_
      refine aw_cV dX9_someoneInCircle_18 kX9_93 mX9_lookOf (sX9_lookOf hX rfl hin.1) (Nat.le_of_ble_eq_true rfl) hX.trd.1 ⟨by decide, rfl⟩ (hX.lt (by decide)) rfl rfl (Nat.le_of_ble_eq_true rfl) ⟨Nat.le_refl _, Nat.le_refl _⟩ ?_
      refine AW.top (hlk _ hin.1 hin.2) ?_
      refine aw_istore_n dX9_someoneInCircle_21 (by decide) rfl ?_
      refine aw_iinc dX9_someoneInCircle_22 rfl (ginc rfl) (by decide) rfl ?_
      refine aw_goto (tgt := 10) dX9_someoneInCircle_25 rfl ?_
      have := ih hlt
      rw [itr_succ] at this
      exact this
  refine aw_aload_n dX9_someoneInCircle_0 rfl ?_
  refine aw_getI dX9_someoneInCircle_1 fX9_18 hX.trd.1 (hX.lt (by decide)) rfl ?_
  refine AW.top hv ?_
  refine aw_cS dX9_someoneInCircle_4 kX9_88 mJ6_numberOfTrailingZeros_0f7a4 (sJ6_ntz rfl hv8 h0) (Nat.le_of_ble_eq_true rfl) rfl rfl (Nat.le_of_ble_eq_true rfl) ⟨Nat.le_refl _, Nat.le_refl _⟩ ?_
  refine aw_istore_n dX9_someoneInCircle_7 (by decide) rfl ?_
  refine aw_iconst (v := 0) dX9_someoneInCircle_8 rfl ?_
  refine aw_istore_n dX9_someoneInCircle_9 (by decide) rfl ?_
  exact loop 0 (Nat.zero_le _)
end ClsS
