/-! the class: offers and lets noted, a home taken -/
theorem trn_b1 (x y : Bool) : (if trn x y &&& 1 = 0 then (0 : Int32) else 1) = bI x := by cases x <;> cases y <;> decide
theorem trn_b2 (x y : Bool) : (if trn x y &&& 2 = 0 then (0 : Int32) else 1) = bI y := by cases x <;> cases y <;> decide
theorem dec_b0 (x y : Int32) : (if x = y then (0 : Int32) else 1) = bI (!decide (x = y)) := by
  by_cases h : x = y
  · rw [if_pos h, decide_eq_true h]; rfl
  · rw [if_neg h, decide_eq_false h]; rfl
theorem dec_b1 (x y : Int32) : (if x = y then (1 : Int32) else 0) = bI (decide (x = y)) := by
  by_cases h : x = y
  · rw [if_pos h, decide_eq_true h]; rfl
  · rw [if_neg h, decide_eq_false h]; rfl
section AMut
variable {X : Cx} {g : Gd} {own : String} {cc : ByteArray} {nL : Nat} {Bd : Nat × Nat × Nat} {E : En} {I : MI} {L : ML} {pc : Nat} {Lc : List (Option Value)} {st : List Value}
/-- a call that changes a state alone -/
theorem aw_mV {idx ci b s : Nat} {y : MethodName} {cc2 : ByteArray} {nL2 : Nat} {ret2 : Option FieldType} {np d : Nat} {As : List Value} {st0 : List Value} {r : Option Value} {M : Nat → Int32} {Q : Nat → Int64} (dg : decode cc pc = .ok (.invokevirtual idx, 3)) (hl : Cond.methodLink own idx y ∈ tblG) (hm : mV y cc2 nL2 ret2 np) (hM : CM y cc2 nL2 ret2 d 0 0 (.ref b :: As) E.1 E.2.1 E.2.2.1 I L (Mut r s M Q E.1 E.2.1 E.2.2.1 I L))
    (hd : d + 1 ≤ Bd.1) (hk : (E.2.2.1 b).1 = ci) (hci : ci < 12 ∧ clR ci = y.cls) (hb : b < E.2.1) (hst : st0 = As.reverse ++ .ref b :: st) (hn : As.length = np) (hw : (st.map fun v => v.category).sum ≤ 8) (hf : E.2.2.2.1 ≤ Bd.2.1 ∧ E.2.2.2.2 ≤ Bd.2.2)
    (k : ∀ J, Fr s I J → CtS J L s M Q → AW X g own cc nL Bd E J L (pc + 3) Lc (r.toList ++ st)) : AW X g own cc nL Bd E I L pc Lc st0 :=
  aw_callV dg hl hm hM hd hk hci hb hst hn hw hf (fun v z n sh I3 L3 q => by
    obtain ⟨h1, h2, h3, h4, h5, h6, h7⟩ := q
    subst h1 h2 h3 h4
    have h8 : L = L3 := h5.symm
    subst h8
    exact k _ h6 h7)
end AMut
section ClsS
variable {z n b : Nat} {sh : Shp} {I : MI} {L : ML} {N : Nat → Int32} {Q : Nat → Int64}
set_option maxHeartbeats 4000000 in
set_option maxRecDepth 100000 in
theorem sX7_noteOffer (hS : IsS n sh b) (hC : CtS I L b N Q) (hO : Ok N) {p : Nat} (hp : p < nPo N) {h : Nat} (hh : h < nHo N) (ho : nOf N < 30) {t : Bool}  : CM yX7_noteOffer cX7_noteOffer 5 (Option.none : Option FieldType) 2 0 0 [.ref b, .ref (b + 13 + 2 * p), .ref (b + 2 + h), .int (bI t)] z n sh I L (Mut none b (mOffered N p h t) Q z n sh I L) := by
  refine CM.go [some (.ref b), some (.ref (b + 13 + 2 * p)), some (.ref (b + 2 + h)), some (.int (bI t)), none] rfl rfl (Nat.le_of_ble_eq_true rfl) (fun X g q => ?_)
  have hN := hO.1
  have hR := hO.2.1
  have hB := hO.2.2.1
  have hE := hO.2.2.2
  have h8 := hN.p8
  have h10 := hN.h10
  refine aw_aload_n dX7_noteOffer_0 rfl ?_
  refine aw_getR (b := b + 32) dX7_noteOffer_1 fX7_40 hS.k hS.b0 rfl hS.r4 ?_
  refine aw_cV dX7_noteOffer_4 kX7_264 mX8_addRow (sX8_addRow (hC.tbO hS hN) (by omega)) (Nat.le_of_ble_eq_true rfl) hS.ok ⟨by decide, rfl⟩ (hS.lt (k := 32) (by decide)) rfl rfl (Nat.le_of_ble_eq_true rfl) ⟨Nat.le_refl _, Nat.le_refl _⟩ ?_
  refine aw_istore dX7_noteOffer_7 (by decide) rfl ?_
  refine aw_aload_n dX7_noteOffer_9 rfl ?_
  refine aw_getR (b := b + 32) dX7_noteOffer_10 fX7_40 hS.k hS.b0 rfl hS.r4 ?_
  refine aw_iload dX7_noteOffer_13 rfl ?_
  refine aw_iconst (v := 0) dX7_noteOffer_15 rfl ?_
  refine aw_aload_n dX7_noteOffer_16 rfl ?_
  refine aw_getI dX7_noteOffer_17 fX7_179 (hS.po (by omega)) (hS.pb (by omega)) rfl ?_
  refine AW.top ((upI_n (Or.inl (by omega))).trans (hC.pn (by omega))) ?_
  refine aw_cV dX7_noteOffer_20 kX7_267 mX8_set (sX8_set (r := nOf N) (k := 0) ((hC.tbO hS hN).cnt (d := nOf N + 1) (by omega) (by omega)) rfl (by omega) rfl (by decide)) (Nat.le_of_ble_eq_true rfl) hS.ok ⟨by decide, rfl⟩ (hS.lt (k := 32) (by decide)) rfl rfl (Nat.le_of_ble_eq_true rfl) ⟨Nat.le_refl _, Nat.le_refl _⟩ ?_
  refine aw_aload_n dX7_noteOffer_23 rfl ?_
  refine aw_getR (b := b + 32) dX7_noteOffer_24 fX7_40 hS.k hS.b0 rfl hS.r4 ?_
  refine aw_iload dX7_noteOffer_27 rfl ?_
  refine aw_iconst (v := 1) dX7_noteOffer_29 rfl ?_
  refine aw_aload_n dX7_noteOffer_30 rfl ?_
  refine aw_getI dX7_noteOffer_31 fX7_237 (hS.ho (by omega)) (hS.hb (by omega)) rfl ?_
  refine AW.top ((upI_n (Or.inl (by omega))).trans ((upI_n (Or.inl (by omega))).trans (hC.hn (by omega)))) ?_
  refine aw_cV dX7_noteOffer_34 kX7_267 mX8_set (sX8_set (r := nOf N) (k := 1) ((hC.tbO hS hN).cnt (d := nOf N + 1) (by omega) (by omega)).set rfl (by omega) rfl (by decide)) (Nat.le_of_ble_eq_true rfl) hS.ok ⟨by decide, rfl⟩ (hS.lt (k := 32) (by decide)) rfl rfl (Nat.le_of_ble_eq_true rfl) ⟨Nat.le_refl _, Nat.le_refl _⟩ ?_
  refine aw_aload_n dX7_noteOffer_37 rfl ?_
  refine aw_getR (b := b + 32) dX7_noteOffer_38 fX7_40 hS.k hS.b0 rfl hS.r4 ?_
  refine aw_iload dX7_noteOffer_41 rfl ?_
  refine aw_iconst (v := 2) dX7_noteOffer_43 rfl ?_
  refine aw_iload_n dX7_noteOffer_44 rfl ?_
  refine awt_if_eq (A := 1) (B := 0) dX7_noteOffer_45 dX7_noteOffer_48 dX7_noteOffer_49 dX7_noteOffer_52 rfl rfl ?_
  refine AW.top (tern_bI t) ?_
  refine aw_cV dX7_noteOffer_53 kX7_267 mX8_set (sX8_set (r := nOf N) (k := 2) ((hC.tbO hS hN).cnt (d := nOf N + 1) (by omega) (by omega)).set.set rfl (by omega) rfl (by decide)) (Nat.le_of_ble_eq_true rfl) hS.ok ⟨by decide, rfl⟩ (hS.lt (k := 32) (by decide)) rfl rfl (Nat.le_of_ble_eq_true rfl) ⟨Nat.le_refl _, Nat.le_refl _⟩ ?_
  refine aw_vret q rfl dX7_noteOffer_56 ⟨Nat.le_refl _, Nat.le_refl _⟩ ?_
  exact ⟨rfl, rfl, rfl, rfl, rfl, (((Fr.rf.put (by omega)).put (by omega)).put (by omega)).put (by omega), hC.offer hN ho⟩
set_option maxHeartbeats 4000000 in
set_option maxRecDepth 100000 in
theorem sX7_noteLet (hS : IsS n sh b) (hC : CtS I L b N Q) (hO : Ok N) {p : Nat} (hp : p < nPo N) {h : Nat} (hh : h < nHo N) (hl : nLe N < 8) {o : Int32}  : CM yX7_noteLet cX7_noteLet 7 (Option.none : Option FieldType) 2 0 0 [.ref b, .ref (b + 13 + 2 * p), .ref (b + 2 + h), .int (cTrn N h), .int o, .int (mBand N p)] z n sh I L (Mut none b (tkN N p h o) Q z n sh I L) := by
  refine CM.go [some (.ref b), some (.ref (b + 13 + 2 * p)), some (.ref (b + 2 + h)), some (.int (cTrn N h)), some (.int o), some (.int (mBand N p)), none] rfl rfl (Nat.le_of_ble_eq_true rfl) (fun X g q => ?_)
  have hN := hO.1
  have hR := hO.2.1
  have hB := hO.2.2.1
  have hE := hO.2.2.2
  have h8 := hN.p8
  have h10 := hN.h10
  refine aw_aload_n dX7_noteLet_0 rfl ?_
  refine aw_getR (b := b + 30) dX7_noteLet_1 fX7_36 hS.k hS.b0 rfl hS.r3 ?_
  refine aw_cV dX7_noteLet_4 kX7_264 mX8_addRow (sX8_addRow (hC.tbL hS hN) (by omega)) (Nat.le_of_ble_eq_true rfl) hS.tk ⟨by decide, rfl⟩ (hS.lt (k := 30) (by decide)) rfl rfl (Nat.le_of_ble_eq_true rfl) ⟨Nat.le_refl _, Nat.le_refl _⟩ ?_
  refine AW.gen (fun J => LtP n sh I J b (nLe N) 0 (letV N p h o)) (LtP.begin (hC.tbL hS hN) hl) (fun J hP => ?_)
  refine aw_istore dX7_noteLet_7 (by decide) rfl ?_
  refine aw_aload_n dX7_noteLet_9 rfl ?_
  refine aw_getR (b := b + 30) dX7_noteLet_10 fX7_36 hS.k hS.b0 rfl hS.r3 ?_
  refine aw_iload dX7_noteLet_13 rfl ?_
  refine aw_iconst (v := 0) dX7_noteLet_15 rfl ?_
  refine aw_aload_n dX7_noteLet_16 rfl ?_
  refine aw_getI dX7_noteLet_17 fX7_179 (hS.po (by omega)) (hS.pb (by omega)) rfl ?_
  refine AW.top ((congrFun (hP.1 _ (by omega) (by omega)) _).trans (hC.pn (by omega))) ?_
  refine aw_cV dX7_noteLet_20 kX7_267 mX8_set (sX8_set (r := nLe N) (k := 0) hP.2.1 rfl (by omega) rfl (by decide)) (Nat.le_of_ble_eq_true rfl) hS.tk ⟨by decide, rfl⟩ (hS.lt (k := 30) (by decide)) rfl rfl (Nat.le_of_ble_eq_true rfl) ⟨Nat.le_refl _, Nat.le_refl _⟩ ?_
  refine AW.gen (fun J => LtP n sh I J b (nLe N) 1 (letV N p h o)) (hP.step rfl) (fun J hP => ?_)
  refine aw_aload_n dX7_noteLet_23 rfl ?_
  refine aw_getR (b := b + 30) dX7_noteLet_24 fX7_36 hS.k hS.b0 rfl hS.r3 ?_
  refine aw_iload dX7_noteLet_27 rfl ?_
  refine aw_iconst (v := 1) dX7_noteLet_29 rfl ?_
  refine aw_aload_n dX7_noteLet_30 rfl ?_
  refine aw_getI dX7_noteLet_31 fX7_237 (hS.ho (by omega)) (hS.hb (by omega)) rfl ?_
  refine AW.top ((congrFun (hP.1 _ (by omega) (by omega)) _).trans (hC.hn (by omega))) ?_
  refine aw_cV dX7_noteLet_34 kX7_267 mX8_set (sX8_set (r := nLe N) (k := 1) hP.2.1 rfl (by omega) rfl (by decide)) (Nat.le_of_ble_eq_true rfl) hS.tk ⟨by decide, rfl⟩ (hS.lt (k := 30) (by decide)) rfl rfl (Nat.le_of_ble_eq_true rfl) ⟨Nat.le_refl _, Nat.le_refl _⟩ ?_
  refine AW.gen (fun J => LtP n sh I J b (nLe N) 2 (letV N p h o)) (hP.step rfl) (fun J hP => ?_)
  refine aw_aload_n dX7_noteLet_37 rfl ?_
  refine aw_getR (b := b + 30) dX7_noteLet_38 fX7_36 hS.k hS.b0 rfl hS.r3 ?_
  refine aw_iload dX7_noteLet_41 rfl ?_
  refine aw_iconst (v := 2) dX7_noteLet_43 rfl ?_
  refine aw_aload_n dX7_noteLet_44 rfl ?_
  refine aw_getI dX7_noteLet_45 fX7_65 hS.k hS.b0 rfl ?_
  refine AW.top ((congrFun (hP.1 _ (by omega) (by omega)) _).trans hC.wk) ?_
  refine aw_cV dX7_noteLet_48 kX7_267 mX8_set (sX8_set (r := nLe N) (k := 2) hP.2.1 rfl (by omega) rfl (by decide)) (Nat.le_of_ble_eq_true rfl) hS.tk ⟨by decide, rfl⟩ (hS.lt (k := 30) (by decide)) rfl rfl (Nat.le_of_ble_eq_true rfl) ⟨Nat.le_refl _, Nat.le_refl _⟩ ?_
  refine AW.gen (fun J => LtP n sh I J b (nLe N) 3 (letV N p h o)) (hP.step rfl) (fun J hP => ?_)
  refine aw_aload_n dX7_noteLet_51 rfl ?_
  refine aw_getR (b := b + 30) dX7_noteLet_52 fX7_36 hS.k hS.b0 rfl hS.r3 ?_
  refine aw_iload dX7_noteLet_55 rfl ?_
  refine aw_iconst (v := 3) dX7_noteLet_57 rfl ?_
  refine aw_aload_n dX7_noteLet_58 rfl ?_
  refine aw_getI dX7_noteLet_59 fX7_276 (hS.ho (by omega)) (hS.hb (by omega)) rfl ?_
  refine AW.top ((congrFun (hP.1 _ (by omega) (by omega)) _).trans (hC.hf h10 (h := h) (w := 5) (by omega) (by decide))) ?_
  refine aw_iconst (v := 1) dX7_noteLet_62 rfl ?_
  refine aw_iadd dX7_noteLet_63 ?_
  refine aw_cV dX7_noteLet_64 kX7_267 mX8_set (sX8_set (r := nLe N) (k := 3) hP.2.1 rfl (by omega) rfl (by decide)) (Nat.le_of_ble_eq_true rfl) hS.tk ⟨by decide, rfl⟩ (hS.lt (k := 30) (by decide)) rfl rfl (Nat.le_of_ble_eq_true rfl) ⟨Nat.le_refl _, Nat.le_refl _⟩ ?_
  refine AW.gen (fun J => LtP n sh I J b (nLe N) 4 (letV N p h o)) (hP.step rfl) (fun J hP => ?_)
  refine aw_aload_n dX7_noteLet_67 rfl ?_
  refine aw_getR (b := b + 30) dX7_noteLet_68 fX7_36 hS.k hS.b0 rfl hS.r3 ?_
  refine aw_iload dX7_noteLet_71 rfl ?_
  refine aw_iconst (v := 4) dX7_noteLet_73 rfl ?_
  refine aw_iload_n dX7_noteLet_74 rfl ?_
  refine aw_iconst (v := 1) dX7_noteLet_75 rfl ?_
  refine aw_iand dX7_noteLet_76 ?_
  refine awt_if_eq (A := 1) (B := 0) dX7_noteLet_77 dX7_noteLet_80 dX7_noteLet_81 dX7_noteLet_84 rfl rfl ?_
  refine AW.top (trn_b1 (mLocal N h) (mQuota N)) ?_
  refine aw_cV dX7_noteLet_85 kX7_267 mX8_set (sX8_set (r := nLe N) (k := 4) hP.2.1 rfl (by omega) rfl (by decide)) (Nat.le_of_ble_eq_true rfl) hS.tk ⟨by decide, rfl⟩ (hS.lt (k := 30) (by decide)) rfl rfl (Nat.le_of_ble_eq_true rfl) ⟨Nat.le_refl _, Nat.le_refl _⟩ ?_
  refine AW.gen (fun J => LtP n sh I J b (nLe N) 5 (letV N p h o)) (hP.step rfl) (fun J hP => ?_)
  refine aw_aload_n dX7_noteLet_88 rfl ?_
  refine aw_getR (b := b + 30) dX7_noteLet_89 fX7_36 hS.k hS.b0 rfl hS.r3 ?_
  refine aw_iload dX7_noteLet_92 rfl ?_
  refine aw_iconst (v := 5) dX7_noteLet_94 rfl ?_
  refine aw_iload_n dX7_noteLet_95 rfl ?_
  refine aw_iconst (v := 2) dX7_noteLet_96 rfl ?_
  refine aw_iand dX7_noteLet_97 ?_
  refine awt_if_eq (A := 1) (B := 0) dX7_noteLet_98 dX7_noteLet_101 dX7_noteLet_102 dX7_noteLet_105 rfl rfl ?_
  refine AW.top (trn_b2 (mLocal N h) (mQuota N)) ?_
  refine aw_cV dX7_noteLet_106 kX7_267 mX8_set (sX8_set (r := nLe N) (k := 5) hP.2.1 rfl (by omega) rfl (by decide)) (Nat.le_of_ble_eq_true rfl) hS.tk ⟨by decide, rfl⟩ (hS.lt (k := 30) (by decide)) rfl rfl (Nat.le_of_ble_eq_true rfl) ⟨Nat.le_refl _, Nat.le_refl _⟩ ?_
  refine AW.gen (fun J => LtP n sh I J b (nLe N) 6 (letV N p h o)) (hP.step rfl) (fun J hP => ?_)
  refine aw_aload_n dX7_noteLet_109 rfl ?_
  refine aw_getR (b := b + 30) dX7_noteLet_110 fX7_36 hS.k hS.b0 rfl hS.r3 ?_
  refine aw_iload dX7_noteLet_113 rfl ?_
  refine aw_bipush (v := 6) dX7_noteLet_115 rfl ?_
  refine aw_iload dX7_noteLet_117 rfl ?_
  refine aw_cV dX7_noteLet_119 kX7_267 mX8_set (sX8_set (r := nLe N) (k := 6) hP.2.1 rfl (by omega) rfl (by decide)) (Nat.le_of_ble_eq_true rfl) hS.tk ⟨by decide, rfl⟩ (hS.lt (k := 30) (by decide)) rfl rfl (Nat.le_of_ble_eq_true rfl) ⟨Nat.le_refl _, Nat.le_refl _⟩ ?_
  refine AW.gen (fun J => LtP n sh I J b (nLe N) 7 (letV N p h o)) (hP.step rfl) (fun J hP => ?_)
  refine aw_aload_n dX7_noteLet_122 rfl ?_
  refine aw_getR (b := b + 30) dX7_noteLet_123 fX7_36 hS.k hS.b0 rfl hS.r3 ?_
  refine aw_iload dX7_noteLet_126 rfl ?_
  refine aw_bipush (v := 7) dX7_noteLet_128 rfl ?_
  refine aw_iload dX7_noteLet_130 rfl ?_
  refine aw_cV dX7_noteLet_132 kX7_267 mX8_set (sX8_set (r := nLe N) (k := 7) hP.2.1 rfl (by omega) rfl (by decide)) (Nat.le_of_ble_eq_true rfl) hS.tk ⟨by decide, rfl⟩ (hS.lt (k := 30) (by decide)) rfl rfl (Nat.le_of_ble_eq_true rfl) ⟨Nat.le_refl _, Nat.le_refl _⟩ ?_
  refine AW.gen (fun J => LtP n sh I J b (nLe N) 8 (letV N p h o)) (hP.step rfl) (fun J hP => ?_)
  refine aw_aload_n dX7_noteLet_135 rfl ?_
  refine aw_getR (b := b + 30) dX7_noteLet_136 fX7_36 hS.k hS.b0 rfl hS.r3 ?_
  refine aw_iload dX7_noteLet_139 rfl ?_
  refine aw_bipush (v := 8) dX7_noteLet_141 rfl ?_
  refine aw_aload_n dX7_noteLet_143 rfl ?_
  refine aw_getI dX7_noteLet_144 fX7_176 (hS.po (by omega)) (hS.pb (by omega)) rfl ?_
  refine AW.top ((congrFun (hP.1 _ (by omega) (by omega)) _).trans (hC.pf h8 (p := p) (w := 4) (by omega) (by decide) (by decide) (by decide))) ?_
  refine aw_iconst (v := (-1)) dX7_noteLet_147 rfl ?_
  refine awt_icmp_eq (A := 1) (B := 0) dX7_noteLet_148 dX7_noteLet_151 dX7_noteLet_152 dX7_noteLet_155 rfl rfl ?_
  refine AW.top (dec_b0 _ _) ?_
  refine aw_cV dX7_noteLet_156 kX7_267 mX8_set (sX8_set (r := nLe N) (k := 8) hP.2.1 rfl (by omega) rfl (by decide)) (Nat.le_of_ble_eq_true rfl) hS.tk ⟨by decide, rfl⟩ (hS.lt (k := 30) (by decide)) rfl rfl (Nat.le_of_ble_eq_true rfl) ⟨Nat.le_refl _, Nat.le_refl _⟩ ?_
  refine AW.gen (fun J => LtP n sh I J b (nLe N) 9 (letV N p h o)) (hP.step rfl) (fun J hP => ?_)
  refine aw_aload_n dX7_noteLet_159 rfl ?_
  refine aw_getR (b := b + 30) dX7_noteLet_160 fX7_36 hS.k hS.b0 rfl hS.r3 ?_
  refine aw_iload dX7_noteLet_163 rfl ?_
  refine aw_bipush (v := 9) dX7_noteLet_165 rfl ?_
  refine aw_aload_n dX7_noteLet_167 rfl ?_
  refine aw_getI dX7_noteLet_168 fX7_137 (hS.po (by omega)) (hS.pb (by omega)) rfl ?_
  refine AW.top ((congrFun (hP.1 _ (by omega) (by omega)) _).trans (hC.pf h8 (p := p) (w := 2) (by omega) (by decide) (by decide) (by decide))) ?_
  refine aw_aload_n dX7_noteLet_171 rfl ?_
  refine aw_getI dX7_noteLet_172 fX7_140 (hS.ho (by omega)) (hS.hb (by omega)) rfl ?_
  refine AW.top ((congrFun (hP.1 _ (by omega) (by omega)) _).trans (hC.hf h10 (h := h) (w := 1) (by omega) (by decide))) ?_
  refine awt_icmp_ne (A := 1) (B := 0) dX7_noteLet_175 dX7_noteLet_178 dX7_noteLet_179 dX7_noteLet_182 rfl rfl ?_
  refine AW.top (dec_b1 _ _) ?_
  refine aw_cV dX7_noteLet_183 kX7_267 mX8_set (sX8_set (r := nLe N) (k := 9) hP.2.1 rfl (by omega) rfl (by decide)) (Nat.le_of_ble_eq_true rfl) hS.tk ⟨by decide, rfl⟩ (hS.lt (k := 30) (by decide)) rfl rfl (Nat.le_of_ble_eq_true rfl) ⟨Nat.le_refl _, Nat.le_refl _⟩ ?_
  refine AW.gen (fun J => LtP n sh I J b (nLe N) 10 (letV N p h o)) (hP.step rfl) (fun J hP => ?_)
  refine aw_aload_n dX7_noteLet_186 rfl ?_
  refine aw_getR (b := b + 30) dX7_noteLet_187 fX7_36 hS.k hS.b0 rfl hS.r3 ?_
  refine aw_iload dX7_noteLet_190 rfl ?_
  refine aw_bipush (v := 10) dX7_noteLet_192 rfl ?_
  refine aw_aload_n dX7_noteLet_194 rfl ?_
  refine aw_getI dX7_noteLet_195 fX7_140 (hS.ho (by omega)) (hS.hb (by omega)) rfl ?_
  refine AW.top ((congrFun (hP.1 _ (by omega) (by omega)) _).trans (hC.hf h10 (h := h) (w := 1) (by omega) (by decide))) ?_
  refine aw_cV dX7_noteLet_198 kX7_267 mX8_set (sX8_set (r := nLe N) (k := 10) hP.2.1 rfl (by omega) rfl (by decide)) (Nat.le_of_ble_eq_true rfl) hS.tk ⟨by decide, rfl⟩ (hS.lt (k := 30) (by decide)) rfl rfl (Nat.le_of_ble_eq_true rfl) ⟨Nat.le_refl _, Nat.le_refl _⟩ ?_
  refine AW.gen (fun J => LtP n sh I J b (nLe N) 11 (letV N p h o)) (hP.step rfl) (fun J hP => ?_)
  refine aw_vret q rfl dX7_noteLet_201 ⟨Nat.le_refl _, Nat.le_refl _⟩ ?_
  exact ⟨rfl, rfl, rfl, rfl, rfl, fun a ha => hP.1 a (by omega) (by omega), hC.addLet hN hl (by omega) (by omega) hP⟩
set_option maxHeartbeats 4000000 in
set_option maxRecDepth 100000 in
theorem sX7_takeHome (hS : IsS n sh b) (hC : CtS I L b N Q) (hO : Ok N) {p : Nat} (hp : p < nPo N) {h : Nat} (hh : h < nHo N) (hL : Lo N) (hCo : Co N) (hi0 : mIn N p = true) (hf : N (8 * h + 2) = -1) {o : Int32}  : CM yX7_takeHome cX7_takeHome 8 (Option.none : Option FieldType) 3 0 0 [.ref b, .ref (b + 13 + 2 * p), .ref (b + 2 + h), .int (cTrn N h), .int o] z n sh I L (Mut none b (mTakes N p h o) Q z n sh I L) := by
  refine CM.go [some (.ref b), some (.ref (b + 13 + 2 * p)), some (.ref (b + 2 + h)), some (.int (cTrn N h)), some (.int o), none, none, none] rfl rfl (Nat.le_of_ble_eq_true rfl) (fun X g q => ?_)
  have hN := hO.1
  have hR := hO.2.1
  have hB := hO.2.2.1
  have hE := hO.2.2.2
  have h8 := hN.p8
  have h10 := hN.h10
  have hl : nLe N < 8 := lo_lt hN hL hp hi0
  have loop : ∀ i, i ≤ nPo N → ∀ a7 (J : MI), Fr b I J → CtS J L b (tkQ N p h o i) Q → AW X g RX7 cX7_takeHome 8 (3, 0, 0) (z, n, sh, 0, 0) (J) (L) 21 [some (.ref b), some (.ref (b + 13 + 2 * p)), some (.ref (b + 2 + h)), some (.int (cTrn N h)), some (.int o), some (.int (mBand N p)), some (.int (nI i)), a7] [] := by
    refine up_loop (fun i hi ih a7 J hF hJ => ?_)
    have m9 := tkQ_M (p := p) (h := h) (o := o) hN i (by omega)
    obtain ⟨M, eM⟩ : ∃ M, M = tkQ N p h o i := ⟨_, rfl⟩
    rw [← eM] at hJ m9
    obtain ⟨hM, eH, eP, -, -⟩ := m9.cn hN hl (by omega) (by omega)
    have hOM := m9.ok hO hl (by omega) (by omega)
    have g8 := hM.p8
    have g10 := hM.h10
    refine aw_iload dX7_takeHome_21 rfl ?_
    refine aw_aload_n dX7_takeHome_23 rfl ?_
    refine aw_getI dX7_takeHome_24 fX7_62 hS.k hS.b0 rfl ?_
    refine AW.top (hJ.np.trans hM.p) ?_
    refine aw_icmp_ge (tgt := 84) dX7_takeHome_27 rfl (fun c27 => ?_) (fun c27 => ?_)
    · rw [eP] at c27
      have e := ge_t rfl (by omega) hi c27
      subst e
      have m9 := tkQ_M (p := p) (h := h) (o := o) hN (nPo N) h8
      have e9 : M = tk9 N p h o := eM
      subst e9
      have r0 : tk9 N p h o 230 = N 230 := m9.1 230 (by omega) (by omega) (fun q hq => by omega)
      have r4 : tk9 N p h o (80 + 18 * p + 4) = N (80 + 18 * p + 4) := m9.1 _ (by omega) (by omega) (fun q hq => by omega)
      have r5 : tk9 N p h o (8 * h + 5) = N (8 * h + 5) := m9.1 _ (by omega) (by omega) (fun q hq => by omega)
      have r44 : tk9 N p h o (8 * h + 4) = N (8 * h + 4) := m9.1 _ (by omega) (by omega) (fun q hq => by omega)
      rcases hCo.1 p hp with e4 | ⟨u, hu, e4, eu⟩
      · refine aw_aload_n dX7_takeHome_84 rfl ?_
        refine aw_aload_n dX7_takeHome_85 rfl ?_
        refine aw_aload_n dX7_takeHome_86 rfl ?_
        refine aw_getI dX7_takeHome_87 fX7_276 (hS.ho (by omega)) (hS.hb (by omega)) rfl ?_
        refine AW.top (hJ.hf g10 (h := h) (w := 5) (by omega) (by decide)) ?_
        refine AW.top r5 ?_
        refine aw_iconst (v := 1) dX7_takeHome_90 rfl ?_
        refine aw_iadd dX7_takeHome_91 ?_
        refine aw_mV dX7_takeHome_92 kX7_279 mX7_vacate (sX7_vacateN hS hJ hOM (by omega) (r4.trans e4)) (Nat.le_of_ble_eq_true rfl) hS.k ⟨by decide, rfl⟩ hS.b0 rfl rfl (Nat.le_of_ble_eq_true rfl) ⟨Nat.le_refl _, Nat.le_refl _⟩ (fun J2 hF2 hJ2 => ?_)
        have c2 : Cn (mPuts (tk9 N p h o) p 4 (-1)) := hM.home' (by omega) (Or.inl rfl)
        have rr : ∀ j, j = 230 ∨ j = 8 * h + 4 → (mPuts (tk9 N p h o) p 4 (-1)) j = tk9 N p h o j := fun j hj => upd_ne (by omega)
        generalize eM2 : mPuts (tk9 N p h o) p 4 (-1) = M2 at c2 rr hJ2
        have c3 : Cn (mPuts M2 p 4 (nI h)) := c2.home' (by omega) (Or.inr ⟨h, by omega, rfl⟩)
        have c4 : Cn (mPuts (mPuts M2 p 4 (nI h)) p 8 1) := c3.free (free_house (by omega) (by decide) (by decide) c3.l8)
        have c5 : Cn (mPutsH (mPuts (mPuts M2 p 4 (nI h)) p 8 1) h 2 (nI p)) := c4.who' (by omega) (Or.inr ⟨p, by omega, rfl⟩)
        have eH5 : nHo (mPutsH (mPuts (mPuts M2 p 4 (nI h)) p 8 1) h 2 (nI p)) = nHo N := by
          unfold nHo mPutsH mPuts
          rw [upd_ne (by omega), upd_ne (by omega), upd_ne (by omega), rr _ (Or.inl rfl), r0]
        have e45 : mPutsH (mPuts (mPuts M2 p 4 (nI h)) p 8 1) h 2 (nI p) (8 * h + 4) = N (8 * h + 4) := by
          unfold mPutsH mPuts
          rw [upd_ne (by omega), upd_ne (by omega), upd_ne (by omega), rr _ (Or.inr rfl), r44]
        refine aw_aload_n dX7_takeHome_95 rfl ?_
        refine aw_aload_n dX7_takeHome_96 rfl ?_
        refine aw_getI dX7_takeHome_97 fX7_237 (hS.ho (by omega)) (hS.hb (by omega)) rfl ?_
        refine AW.top (hJ2.hn (by omega)) ?_
        refine aw_putI dX7_takeHome_100 fX7_176 (hS.po (by omega)) (hS.pb (by omega)) rfl rfl ?_
        refine AW.gen (fun K => Fr b I K ∧ CtS K L b (mPuts M2 p 4 (nI h)) Q) ⟨(hF.tr hF2).put (by omega), hJ2.putP c2 (p := p) (w := 4) (by omega) (by decide) (by decide) (by decide) (by decide) (by decide) (fun q => absurd q (by decide))⟩ (fun K3 hK3 => ?_)
        refine aw_aload_n dX7_takeHome_103 rfl ?_
        refine aw_iconst (v := 1) dX7_takeHome_104 rfl ?_
        refine aw_putZ dX7_takeHome_105 fX7_99 (hS.po (by omega)) (hS.pb (by omega)) rfl rfl (by decide) ?_
        refine AW.gen (fun K => Fr b I K ∧ CtS K L b (mPuts (mPuts M2 p 4 (nI h)) p 8 1) Q) ⟨hK3.1.put (by omega), hK3.2.putP c3 (p := p) (w := 8) (by omega) (by decide) (by decide) (by decide) (by decide) (by decide) (fun _ => Or.inr rfl)⟩ (fun K4 hK4 => ?_)
        refine aw_aload_n dX7_takeHome_108 rfl ?_
        refine aw_aload_n dX7_takeHome_109 rfl ?_
        refine aw_getI dX7_takeHome_110 fX7_179 (hS.po (by omega)) (hS.pb (by omega)) rfl ?_
        refine AW.top (hK4.2.pn (by omega)) ?_
        refine aw_putI dX7_takeHome_113 fX7_283 (hS.ho (by omega)) (hS.hb (by omega)) rfl rfl ?_
        refine AW.gen (fun K => Fr b I K ∧ CtS K L b (mPutsH (mPuts (mPuts M2 p 4 (nI h)) p 8 1) h 2 (nI p)) Q) ⟨hK4.1.put (by omega), hK4.2.putH c4 (h := h) (w := 2) (by omega) (by decide) (by decide) (fun q => absurd q (by decide))⟩ (fun K5 hK5 => ?_)
        refine aw_aload_n dX7_takeHome_116 rfl ?_
        refine aw_dup dX7_takeHome_117 rfl ?_
        refine aw_getI dX7_takeHome_118 fX7_286 (hS.ho (by omega)) (hS.hb (by omega)) rfl ?_
        refine AW.top ((hK5.2.hf c5.h10 (h := h) (w := 4) (by omega) (by decide)).trans e45) ?_
        refine aw_iconst (v := 1) dX7_takeHome_121 rfl ?_
        refine aw_iadd dX7_takeHome_122 ?_
        refine aw_putI dX7_takeHome_123 fX7_286 (hS.ho (by omega)) (hS.hb (by omega)) rfl rfl ?_
        refine aw_vret q rfl dX7_takeHome_126 ⟨Nat.le_refl _, Nat.le_refl _⟩ ?_
        refine ⟨rfl, rfl, rfl, rfl, rfl, hK5.1.put (by omega), ?_⟩
        refine CtS.cong (hK5.2.putH c5 (h := h) (w := 4) (by omega) (by decide) (by decide) (fun q => absurd q (by decide))) ?_
        subst eM2
        exact takes_cls1 e4 (by omega) (by omega)
      · have hne : u ≠ h := fun q => by
          rw [q, hf] at eu
          exact nI_ne_m1 (by omega) eu.symm
        refine aw_aload_n dX7_takeHome_84 rfl ?_
        refine aw_aload_n dX7_takeHome_85 rfl ?_
        refine aw_aload_n dX7_takeHome_86 rfl ?_
        refine aw_getI dX7_takeHome_87 fX7_276 (hS.ho (by omega)) (hS.hb (by omega)) rfl ?_
        refine AW.top (hJ.hf g10 (h := h) (w := 5) (by omega) (by decide)) ?_
        refine AW.top r5 ?_
        refine aw_iconst (v := 1) dX7_takeHome_90 rfl ?_
        refine aw_iadd dX7_takeHome_91 ?_
        refine aw_mV dX7_takeHome_92 kX7_279 mX7_vacate (sX7_vacate hS hJ hOM (by omega) (u := u) (by omega) (r4.trans e4)) (Nat.le_of_ble_eq_true rfl) hS.k ⟨by decide, rfl⟩ hS.b0 rfl rfl (Nat.le_of_ble_eq_true rfl) ⟨Nat.le_refl _, Nat.le_refl _⟩ (fun J2 hF2 hJ2 => ?_)
        have c2 : Cn (mPuts (mLeaves (tk9 N p h o) u (N (8 * h + 5) + 1)) p 4 (-1)) := (leaves_Cn hM (by omega)).home' (by omega) (Or.inl rfl)
        have rr : ∀ j, j = 230 ∨ j = 8 * h + 4 → (mPuts (mLeaves (tk9 N p h o) u (N (8 * h + 5) + 1)) p 4 (-1)) j = tk9 N p h o j := fun j hj => (upd_ne (by omega)).trans (leaves_rd (by omega) (by omega) (by omega))
        generalize eM2 : mPuts (mLeaves (tk9 N p h o) u (N (8 * h + 5) + 1)) p 4 (-1) = M2 at c2 rr hJ2
        have c3 : Cn (mPuts M2 p 4 (nI h)) := c2.home' (by omega) (Or.inr ⟨h, by omega, rfl⟩)
        have c4 : Cn (mPuts (mPuts M2 p 4 (nI h)) p 8 1) := c3.free (free_house (by omega) (by decide) (by decide) c3.l8)
        have c5 : Cn (mPutsH (mPuts (mPuts M2 p 4 (nI h)) p 8 1) h 2 (nI p)) := c4.who' (by omega) (Or.inr ⟨p, by omega, rfl⟩)
        have eH5 : nHo (mPutsH (mPuts (mPuts M2 p 4 (nI h)) p 8 1) h 2 (nI p)) = nHo N := by
          unfold nHo mPutsH mPuts
          rw [upd_ne (by omega), upd_ne (by omega), upd_ne (by omega), rr _ (Or.inl rfl), r0]
        have e45 : mPutsH (mPuts (mPuts M2 p 4 (nI h)) p 8 1) h 2 (nI p) (8 * h + 4) = N (8 * h + 4) := by
          unfold mPutsH mPuts
          rw [upd_ne (by omega), upd_ne (by omega), upd_ne (by omega), rr _ (Or.inr rfl), r44]
        refine aw_aload_n dX7_takeHome_95 rfl ?_
        refine aw_aload_n dX7_takeHome_96 rfl ?_
        refine aw_getI dX7_takeHome_97 fX7_237 (hS.ho (by omega)) (hS.hb (by omega)) rfl ?_
        refine AW.top (hJ2.hn (by omega)) ?_
        refine aw_putI dX7_takeHome_100 fX7_176 (hS.po (by omega)) (hS.pb (by omega)) rfl rfl ?_
        refine AW.gen (fun K => Fr b I K ∧ CtS K L b (mPuts M2 p 4 (nI h)) Q) ⟨(hF.tr hF2).put (by omega), hJ2.putP c2 (p := p) (w := 4) (by omega) (by decide) (by decide) (by decide) (by decide) (by decide) (fun q => absurd q (by decide))⟩ (fun K3 hK3 => ?_)
        refine aw_aload_n dX7_takeHome_103 rfl ?_
        refine aw_iconst (v := 1) dX7_takeHome_104 rfl ?_
        refine aw_putZ dX7_takeHome_105 fX7_99 (hS.po (by omega)) (hS.pb (by omega)) rfl rfl (by decide) ?_
        refine AW.gen (fun K => Fr b I K ∧ CtS K L b (mPuts (mPuts M2 p 4 (nI h)) p 8 1) Q) ⟨hK3.1.put (by omega), hK3.2.putP c3 (p := p) (w := 8) (by omega) (by decide) (by decide) (by decide) (by decide) (by decide) (fun _ => Or.inr rfl)⟩ (fun K4 hK4 => ?_)
        refine aw_aload_n dX7_takeHome_108 rfl ?_
        refine aw_aload_n dX7_takeHome_109 rfl ?_
        refine aw_getI dX7_takeHome_110 fX7_179 (hS.po (by omega)) (hS.pb (by omega)) rfl ?_
        refine AW.top (hK4.2.pn (by omega)) ?_
        refine aw_putI dX7_takeHome_113 fX7_283 (hS.ho (by omega)) (hS.hb (by omega)) rfl rfl ?_
        refine AW.gen (fun K => Fr b I K ∧ CtS K L b (mPutsH (mPuts (mPuts M2 p 4 (nI h)) p 8 1) h 2 (nI p)) Q) ⟨hK4.1.put (by omega), hK4.2.putH c4 (h := h) (w := 2) (by omega) (by decide) (by decide) (fun q => absurd q (by decide))⟩ (fun K5 hK5 => ?_)
        refine aw_aload_n dX7_takeHome_116 rfl ?_
        refine aw_dup dX7_takeHome_117 rfl ?_
        refine aw_getI dX7_takeHome_118 fX7_286 (hS.ho (by omega)) (hS.hb (by omega)) rfl ?_
        refine AW.top ((hK5.2.hf c5.h10 (h := h) (w := 4) (by omega) (by decide)).trans e45) ?_
        refine aw_iconst (v := 1) dX7_takeHome_121 rfl ?_
        refine aw_iadd dX7_takeHome_122 ?_
        refine aw_putI dX7_takeHome_123 fX7_286 (hS.ho (by omega)) (hS.hb (by omega)) rfl rfl ?_
        refine aw_vret q rfl dX7_takeHome_126 ⟨Nat.le_refl _, Nat.le_refl _⟩ ?_
        refine ⟨rfl, rfl, rfl, rfl, rfl, hK5.1.put (by omega), ?_⟩
        refine CtS.cong (hK5.2.putH c5 (h := h) (w := 4) (by omega) (by decide) (by decide) (fun q => absurd q (by decide))) ?_
        subst eM2
        exact takes_cls2 e4 (by omega) hne (by omega) (by omega)
    · rw [eP] at c27
      have hlt := ge_f rfl (by omega) hi c27
      refine aw_aload_n dX7_takeHome_30 rfl ?_
      refine aw_getR (b := b + 12) dX7_takeHome_31 fX7_22 hS.k hS.b0 rfl hS.r1 ?_
      refine aw_iload dX7_takeHome_34 rfl ?_
      refine aw_houses (p := i) hS rfl (by omega) dX7_takeHome_36 ?_
      refine aw_astore dX7_takeHome_37 (by decide) rfl ?_
      refine aw_aload dX7_takeHome_39 rfl ?_
      refine aw_cV dX7_takeHome_41 kX7_167 mX3_isAble (sX3_isAble hS hJ hM (by omega) hOM.2.2.1) (Nat.le_of_ble_eq_true rfl) (hS.po (by omega)) ⟨by decide, rfl⟩ (hS.pb (by omega)) rfl rfl (Nat.le_of_ble_eq_true rfl) ⟨Nat.le_refl _, Nat.le_refl _⟩ ?_
      refine aw_if_eq (tgt := 78) dX7_takeHome_44 rfl (fun c44 => ?_) (fun c44 => ?_)
      · refine aw_iinc dX7_takeHome_78 rfl (ginc rfl) (by decide) rfl ?_
        refine aw_goto (tgt := 21) dX7_takeHome_81 rfl ?_
        obtain ⟨pd, eb⟩ := m9.pd hN (q := i) (by omega)
        have c44 := bI0.mp c44
        rw [c44, Bool.and_false, Bool.false_and] at pd
        refine ih hlt _ _ hF ?_
        rw [tkQ_step (by omega), if_neg (by rw [← pd]; exact Bool.noConfusion), ← eM]
        exact hJ
      · refine aw_aload dX7_takeHome_47 rfl ?_
        refine aw_aload_n dX7_takeHome_49 rfl ?_
        refine aw_cV dX7_takeHome_50 kX7_164 mX3_bidsFor (sX3_bidsFor hS hJ hM (by omega) (by omega)) (Nat.le_of_ble_eq_true rfl) (hS.po (by omega)) ⟨by decide, rfl⟩ (hS.pb (by omega)) rfl rfl (Nat.le_of_ble_eq_true rfl) ⟨Nat.le_refl _, Nat.le_refl _⟩ ?_
        refine aw_if_eq (tgt := 78) dX7_takeHome_53 rfl (fun c53 => ?_) (fun c53 => ?_)
        · refine aw_iinc dX7_takeHome_78 rfl (ginc rfl) (by decide) rfl ?_
          refine aw_goto (tgt := 21) dX7_takeHome_81 rfl ?_
          obtain ⟨pd, eb⟩ := m9.pd hN (q := i) (by omega)
          have c44 := bI1.mp c44
          have c53 := bI0.mp c53
          rw [c53, Bool.false_and, Bool.false_and] at pd
          refine ih hlt _ _ hF ?_
          rw [tkQ_step (by omega), if_neg (by rw [← pd]; exact Bool.noConfusion), ← eM]
          exact hJ
        · refine aw_aload_n dX7_takeHome_56 rfl ?_
          refine aw_aload dX7_takeHome_57 rfl ?_
          refine aw_cV dX7_takeHome_59 kX7_182 mX7_bandNow (sX7_bandNow hS hJ hOM (by omega)) (Nat.le_of_ble_eq_true rfl) hS.k ⟨by decide, rfl⟩ hS.b0 rfl rfl (Nat.le_of_ble_eq_true rfl) ⟨Nat.le_refl _, Nat.le_refl _⟩ ?_
          refine aw_iload dX7_takeHome_62 rfl ?_
          refine aw_icmp_ge (tgt := 78) dX7_takeHome_64 rfl (fun c64 => ?_) (fun c64 => ?_)
          · refine aw_iinc dX7_takeHome_78 rfl (ginc rfl) (by decide) rfl ?_
            refine aw_goto (tgt := 21) dX7_takeHome_81 rfl ?_
            obtain ⟨pd, eb⟩ := m9.pd hN (q := i) (by omega)
            have c44 := bI1.mp c44
            have c53 := bI1.mp c53
            rw [decide_eq_false (Int32.not_lt.mpr c64), Bool.and_false] at pd
            refine ih hlt _ _ hF ?_
            rw [tkQ_step (by omega), if_neg (by rw [← pd]; exact Bool.noConfusion), ← eM]
            exact hJ
          · refine aw_aload dX7_takeHome_67 rfl ?_
            refine aw_dup dX7_takeHome_69 rfl ?_
            refine aw_getI dX7_takeHome_70 fX7_119 (hS.po (by omega)) (hS.pb (by omega)) rfl ?_
            refine AW.top (hJ.pf g8 (p := i) (w := 9) (by omega) (by decide) (by decide) (by decide)) ?_
            refine aw_iconst (v := 1) dX7_takeHome_73 rfl ?_
            refine aw_iadd dX7_takeHome_74 ?_
            refine aw_putI dX7_takeHome_75 fX7_119 (hS.po (by omega)) (hS.pb (by omega)) rfl rfl ?_
            refine aw_iinc dX7_takeHome_78 rfl (ginc rfl) (by decide) rfl ?_
            refine aw_goto (tgt := 21) dX7_takeHome_81 rfl ?_
            obtain ⟨pd, eb⟩ := m9.pd hN (q := i) (by omega)
            have c44 := bI1.mp c44
            have c53 := bI1.mp c53
            have c64 := Int32.not_le.mp c64
            rw [decide_eq_true c64, c44, c53] at pd
            have pd : psd N p h i = true := pd.symm
            refine ih hlt _ _ (hF.put (by omega)) ?_
            rw [tkQ_step (by omega), if_pos pd]
            have e9 := tkQ_9 (N := N) (p := p) (h := h) (o := o) hN (show i < 8 by omega)
            rw [← eM] at e9
            rw [← eM, ← e9]
            exact hJ.putP hM (p := i) (w := 9) (by omega) (by decide) (by decide) (by decide) (by decide) (by decide) (fun q => absurd q (by decide))
  refine aw_aload_n dX7_takeHome_0 rfl ?_
  refine aw_aload_n dX7_takeHome_1 rfl ?_
  refine aw_cV dX7_takeHome_2 kX7_182 mX7_bandNow (sX7_bandNow hS hC hO hp) (Nat.le_of_ble_eq_true rfl) hS.k ⟨by decide, rfl⟩ hS.b0 rfl rfl (Nat.le_of_ble_eq_true rfl) ⟨Nat.le_refl _, Nat.le_refl _⟩ ?_
  refine aw_istore dX7_takeHome_5 (by decide) rfl ?_
  refine aw_aload_n dX7_takeHome_7 rfl ?_
  refine aw_aload_n dX7_takeHome_8 rfl ?_
  refine aw_aload_n dX7_takeHome_9 rfl ?_
  refine aw_iload_n dX7_takeHome_10 rfl ?_
  refine aw_iload dX7_takeHome_11 rfl ?_
  refine aw_iload dX7_takeHome_13 rfl ?_
  refine aw_mV dX7_takeHome_15 kX7_272 mX7_noteLet (sX7_noteLet hS hC hO hp hh hl) (Nat.le_of_ble_eq_true rfl) hS.k ⟨by decide, rfl⟩ hS.b0 rfl rfl (Nat.le_of_ble_eq_true rfl) ⟨Nat.le_refl _, Nat.le_refl _⟩ (fun J1 hF1 hJ1 => ?_)
  
  refine aw_iconst (v := 0) dX7_takeHome_18 rfl ?_
  refine aw_istore dX7_takeHome_19 (by decide) rfl ?_
  exact loop 0 (Nat.zero_le _) none J1 hF1 hJ1
end ClsS
