/-! texts: constants, their length and letters -/
def strT (i : Nat) : List Int32 := strByt.getD i []
def strC (i k : Nat) : Int32 := (strByt.getD i []).getD k 0
theorem strL_eq : ∀ i, i < 12 → strLen.getD i 0 = (strT i).length ∧ (strT i).length ≤ 20 := by decide
theorem strC_eq : ∀ i, i < 12 → ∀ k, k < strLen.getD i 0 → ((strC i k &&& 255).toUInt32 % 65536).toInt32 = strC i k ∧ narrow .char (.int (strC i k)) = .int (strC i k) := by decide +kernel
section AWS
variable {X : Cx} {g : Gd} {own : String} {cc : ByteArray} {nL : Nat} {Bd : Nat × Nat × Nat} {E : En} {I : MI} {L : ML} {pc : Nat} {Lc : List (Option Value)} {st : List Value}
theorem adr_hi {g : Gd} {k : Nat} (h : 1000000 ≤ k) : adr g k = g.2.1 k := if_neg (by omega)
theorem cv_hi {g : Gd} {k : Nat} (h : 1000000 ≤ k) : cvK g (.ref k) = .ref (g.2.1 k) := congrArg Value.ref (adr_hi h)
theorem aw_ldcS {idx i : Nat} {tx : String} (hq : (own, idx, tx, i) ∈ strR) (d : decode cc pc = .ok (.ldc idx, 2)) (kk : AW X g own cc nL Bd E I L (pc + 2) Lc (.ref (1000100 + i) :: st)) : AW X g own cc nL Bd E I L pc Lc st := by
  intro F H locs ls h1 h2 h3 h4 h5
  have K := kk F H locs ls h1 h2 h3 h4 h5
  rw [List.map_cons, cv_hi (by omega)] at K
  exact va_ldcS F.1 F.2.1 F.2.2.2.1 (F.2.2.2.2.2.2.1.2.2.2.1 _ hq) d K
theorem aw_ldcSW {idx i : Nat} {tx : String} (hq : (own, idx, tx, i) ∈ strR) (d : decode cc pc = .ok (.ldc_w idx, 3)) (kk : AW X g own cc nL Bd E I L (pc + 3) Lc (.ref (1000100 + i) :: st)) : AW X g own cc nL Bd E I L pc Lc st := by
  intro F H locs ls h1 h2 h3 h4 h5
  have K := kk F H locs ls h1 h2 h3 h4 h5
  rw [List.map_cons, cv_hi (by omega)] at K
  have hZ := F.2.2.2.2.2.2.1.2.2.2.1 _ hq
  intro T hT XX
  obtain ⟨t, a1, b1⟩ := K T hT XX
  exact ⟨t, XX.ldcStringW F.1 F.2.2.2.1 (text := tx) (a := g.2.1 (1000100 + i)) hZ.1 hZ.2 (g := F0 (xM X) pc ls (st.map (cvK g))) rfl (by rw [F.2.1]; exact d) t a1, b1⟩
theorem aw_callT {idx i : Nat} {y : MethodName} {cc2 : ByteArray} {nL2 : Nat} {ret2 : Option FieldType} {np d mc ms : Nat} {As : List Value} {st0 : List Value} {Po : PoT} (dg : decode cc pc = .ok (.invokevirtual idx, 3)) (hl : Cond.methodLink own idx y ∈ tblG) (hm : mV y cc2 nL2 ret2 np) (hcl : y.cls = "java/lang/String") (hM : CM y cc2 nL2 ret2 d mc ms (.ref (1000100 + i) :: As) E.1 E.2.1 E.2.2.1 I L Po)
    (hd : d + 1 ≤ Bd.1) (hi : i < 12) (hst : st0 = As.reverse ++ .ref (1000100 + i) :: st) (hn : As.length = np) (hw : (st.map fun v => v.category).sum ≤ 8) (hf : E.2.2.2.1 + mc ≤ Bd.2.1 ∧ E.2.2.2.2 + ms ≤ Bd.2.2)
    (kk : ∀ (v : Option Value) (z n : Nat) (sh : Shp) (I2 : MI) (L2 : ML), Po v z n sh I2 L2 → AW X g own cc nL Bd (z, n, sh, E.2.2.2.1 + mc, E.2.2.2.2 + ms) I2 L2 (pc + 3) Lc (v.toList ++ st)) : AW X g own cc nL Bd E I L pc Lc st0 := by
  intro F H locs ls h1 h2 h3 h4 h5
  obtain ⟨hx, hbc, hml, ho, hts, hK, hSt, hlk, ⟨r1, r2, r3, r4⟩, hB⟩ := id F
  subst hst
  have hrecv := vk_recv hSt.2.2.2.2.1 hi h4
  rw [← hcl] at hrecv
  have hs0 : (As.reverse ++ .ref (1000100 + i) :: st).map (cvK g) = (As.map (cvK g)).reverse ++ .ref (g.2.1 (1000100 + i)) :: st.map (cvK g) := by
    rw [List.map_append, List.map_cons, List.map_reverse, cv_hi (by omega)]
  rw [hs0]
  have hpc := PcK_start (vs := .ref (1000100 + i) :: As) hK hSt h1 h2 h3 h4
  rw [List.map_cons, cv_hi (by omega)] at hpc
  refine call_end F h4 h5 (va_runV (C := y.cls) (b := g.2.1 (1000100 + i)) (As := As.map (cvK g)) ⟨hx, hbc, hml, ho, hts⟩ (hM (xL X) g) ⟨callB_K hts hm.1 hl hd ⟨r1, r2⟩, hts _ hm.2.1, hts _ hm.2.2⟩ ⟨PcK_blind, hrecv, hpc⟩ rfl (by rw [List.length_map]; exact hn) h5.2.1 rfl ?_ dg ⟨by rw [← r3]; exact hf.1, by rw [← r4]; exact hf.2⟩) kk
  exact lv_room (by rw [cvK_cats]; exact hw)
theorem aw_cT {idx i : Nat} {y : MethodName} {cc2 : ByteArray} {nL2 : Nat} {ret2 : Option FieldType} {np d : Nat} {As : List Value} {st0 : List Value} {r : Option Value} {I2 : MI} {L2 : ML} (dg : decode cc pc = .ok (.invokevirtual idx, 3)) (hl : Cond.methodLink own idx y ∈ tblG) (hm : mV y cc2 nL2 ret2 np) (hcl : y.cls = "java/lang/String") (hM : CM y cc2 nL2 ret2 d 0 0 (.ref (1000100 + i) :: As) E.1 E.2.1 E.2.2.1 I L (Pst r E.1 E.2.1 E.2.2.1 I2 L2))
    (hd : d + 1 ≤ Bd.1) (hi : i < 12) (hst : st0 = As.reverse ++ .ref (1000100 + i) :: st) (hn : As.length = np) (hw : (st.map fun v => v.category).sum ≤ 8) (hf : E.2.2.2.1 ≤ Bd.2.1 ∧ E.2.2.2.2 ≤ Bd.2.2)
    (k : AW X g own cc nL Bd E I2 L2 (pc + 3) Lc (r.toList ++ st)) : AW X g own cc nL Bd E I L pc Lc st0 :=
  aw_callT dg hl hm hcl hM hd hi hst hn hw hf (fun v z n sh I3 L3 q => by obtain ⟨rfl, rfl, rfl, rfl, rfl, rfl⟩ := q; exact k)
theorem aw_getTV {idx i : Nat} (hi : i < 12) (d : decode cc pc = .ok (.getfield idx, 3)) (hl : Cond.fieldLink own idx "java/lang/String" "value" "[B" ∈ tblG) (kk : AW X g own cc nL Bd E I L (pc + 3) Lc (.ref (1000200 + i) :: st)) : AW X g own cc nL Bd E I L pc Lc (.ref (1000100 + i) :: st) := by
  intro F H locs ls h1 h2 h3 h4 h5
  have K := kk F H locs ls h1 h2 h3 h4 h5
  rw [List.map_cons, cv_hi (by omega)] at K ⊢
  exact vk_getf F.1 F.2.1 (F.2.2.2.2.2.2.1.2.2.2.2.1.1 i hi).2.2.1 h4 F.2.2.2.1 (F.2.2.2.2.1 _ hl) (fun _ h => h) d K
theorem aw_getTC {idx i : Nat} (hi : i < 12) (d : decode cc pc = .ok (.getfield idx, 3)) (hl : Cond.fieldLink own idx "java/lang/String" "coder" "B" ∈ tblG) (kk : AW X g own cc nL Bd E I L (pc + 3) Lc (.int 0 :: st)) : AW X g own cc nL Bd E I L pc Lc (.ref (1000100 + i) :: st) := by
  intro F H locs ls h1 h2 h3 h4 h5
  have K := kk F H locs ls h1 h2 h3 h4 h5
  rw [List.map_cons] at K ⊢
  rw [cv_hi (by omega)]
  exact vk_getf F.1 F.2.1 (F.2.2.2.2.2.2.1.2.2.2.2.1.1 i hi).2.1 h4 F.2.2.2.1 (F.2.2.2.2.1 _ hl) (fun _ h => h) d K
theorem aw_lenT {i : Nat} (hi : i < 12) (d : decode cc pc = .ok (.arraylength, 1)) (kk : AW X g own cc nL Bd E I L (pc + 1) Lc (.int (nI (strLen.getD i 0)) :: st)) : AW X g own cc nL Bd E I L pc Lc (.ref (1000200 + i) :: st) := by
  intro F H locs ls h1 h2 h3 h4 h5
  have K := kk F H locs ls h1 h2 h3 h4 h5
  rw [List.map_cons] at K ⊢
  rw [cv_hi (by omega)]
  exact va_tlen F.1 F.2.1 (F.2.2.2.2.2.2.1.2.2.2.2.1.1 i hi).2.2.2 h4 rfl d K
theorem aw_baldT {i k : Nat} {x : Int32} (hi : i < 12) (hx : x = nI k) (hk : k < strLen.getD i 0) (d : decode cc pc = .ok (.baload, 1)) (kk : AW X g own cc nL Bd E I L (pc + 1) Lc (.int (strC i k) :: st)) : AW X g own cc nL Bd E I L pc Lc (.int x :: .ref (1000200 + i) :: st) := by
  intro F H locs ls h1 h2 h3 h4 h5
  have K := kk F H locs ls h1 h2 h3 h4 h5
  have hL := strL_eq i hi
  subst hx
  rw [List.map_cons] at K
  rw [List.map_cons, List.map_cons, cv_hi (by omega)]
  refine va_tb F.1 F.2.1 (F.2.2.2.2.2.2.1.2.2.2.2.1.1 i hi).2.2.2 h4 (vp_in_nI hk (by omega)) ?_ d K
  show Value.int ((strByt.getD i []).getD (nI k).toNatClampNeg 0) = .int (strC i k)
  rw [nI_clamp (by omega)]
  rfl
theorem aw_gsC {idx : Nat} (d : decode cc pc = .ok (.getstatic idx, 3)) (hl : Cond.fieldLink own idx "java/lang/String" "COMPACT_STRINGS" "Z" ∈ tblG) (kk : AW X g own cc nL Bd E I L (pc + 3) Lc (.int 1 :: st)) : AW X g own cc nL Bd E I L pc Lc st := by
  intro F H locs ls h1 h2 h3 h4 h5
  have K := kk F H locs ls h1 h2 h3 h4 h5
  rw [List.map_cons] at K
  exact va_gets F.1 F.2.1 F.2.2.2.2.2.2.1.2.2.2.2.2.2.2.1 h4 F.2.2.2.1 (F.2.2.2.2.1 _ hl) (fun _ h9 => h9) d K
theorem aw_gsF {idx : Nat} (d : decode cc pc = .ok (.getstatic idx, 3)) (hl : Cond.fieldLink own idx "jdk/internal/util/Preconditions" "SIOOBE_FORMATTER" "Ljava/util/function/BiFunction;" ∈ tblG) (kr : AW X g own cc nL Bd E I L (pc + 3) Lc (.ref 1000003 :: st)) (kn : AW X g own cc nL Bd E I L (pc + 3) Lc (.null :: st)) : AW X g own cc nL Bd E I L pc Lc st := by
  intro F H locs ls h1 h2 h3 h4 h5
  have K1 := kr F H locs ls h1 h2 h3 h4 h5
  have K2 := kn F H locs ls h1 h2 h3 h4 h5
  rw [List.map_cons, cv_hi (by decide)] at K1
  rw [List.map_cons] at K2
  rcases F.2.2.2.2.2.2.1.2.2.2.2.2.2.2.2.1 with hZ | hZ
  · exact va_gets F.1 F.2.1 hZ h4 F.2.2.2.1 (F.2.2.2.2.1 _ hl) (fun _ h9 => h9) d K1
  · exact va_gets F.1 F.2.1 hZ h4 F.2.2.2.1 (F.2.2.2.2.1 _ hl) (fun _ h9 => h9) d K2
theorem aw_i2c {x : Int32} (d : decode cc pc = .ok (.i2c, 1)) (k : AW X g own cc nL Bd E I L (pc + 1) Lc (.int ((x.toUInt32 % 65536).toInt32) :: st)) : AW X g own cc nL Bd E I L pc Lc (.int x :: st) := fun F H locs ls h1 h2 h3 h4 h5 => lv_i2c F.1 F.2.1 d rfl (k F H locs ls h1 h2 h3 h4 h5)
theorem aw_nret {v : Int32} {ty : FieldType} {ret : Option FieldType} {Po : PoT} (q : XQ X g ret Bd Po) (hr : ret = some ty) (hv : narrow ty (.int v) = .int v) (d : decode cc pc = .ok (.ireturn, 1)) (hc : E.2.2.2.1 ≤ Bd.2.1 ∧ E.2.2.2.2 ≤ Bd.2.2) (hp : Po (some (.int v)) E.1 E.2.1 E.2.2.1 I L) : AW X g own cc nL Bd E I L pc Lc [.int v] := by
  intro F H locs ls h1 h2 h3 h4 h5
  rw [q.1]
  subst hr
  refine W.widen (k := Bd.2.1) (n := Bd.2.2) hc.1 hc.2 ?_
  exact W.zret F.1 F.2.1 q.2 hv (fun t ht hW => ⟨⟨some (.int v), _, _, _, I, L, rfl, hp, by rw [ht]; exact h1, h2, by rw [ht]; exact h3⟩, h4.F ht⟩) h4.2.2 d F.2.2.2.2.2.2.2.1
end AWS
theorem fJ0_38 : Cond.fieldLink "java/lang/String" 38 "java/lang/String" "COMPACT_STRINGS" "Z" ∈ tblG := t2 (i := 91) rfl rfl
theorem fJ0_1053 : Cond.fieldLink "java/lang/String" 1053 "jdk/internal/util/Preconditions" "SIOOBE_FORMATTER" "Ljava/util/function/BiFunction;" ∈ tblG := t2 (i := 107) rfl rfl
theorem fJ0_9 : Cond.fieldLink "java/lang/String" 9 "java/lang/String" "value" "[B" ∈ tblG := t9 (i := 174) rfl rfl
theorem fJ0_15 : Cond.fieldLink "java/lang/String" 15 "java/lang/String" "coder" "B" ∈ tblG := t9 (i := 175) rfl rfl
section JdkS
variable {z n : Nat} {sh : Shp} {I : MI} {L : ML} {i k : Nat}
theorem sJ0_coder (hi : i < 12) : CM yJ0_coder_7d493 cJ0_coder_7d493 1 (Option.some .byte) 1 0 0 [.ref (1000100 + i)] z n sh I L (Pst (some (.int 0)) z n sh I L) := by
  refine CM.go [some (.ref (1000100 + i))] rfl rfl (Nat.le_of_ble_eq_true rfl) (fun X g q => ?_)
  refine aw_gsC dJ0_coder_7d493_0 fJ0_38 ?_
  refine aw_if_eq (tgt := 13) dJ0_coder_7d493_3 rfl (fun c3 => absurd c3 (by decide)) (fun c3 => ?_)
  refine aw_aload_n dJ0_coder_7d493_6 rfl ?_
  refine aw_getTC hi dJ0_coder_7d493_7 fJ0_15 ?_
  refine aw_goto (tgt := 14) dJ0_coder_7d493_10 rfl ?_
  exact aw_nret q rfl rfl dJ0_coder_7d493_14 ⟨Nat.le_refl _, Nat.le_refl _⟩ Pst.rf
theorem sJ0_isLatin1 (hi : i < 12) : CM yJ0_isLatin1_aae02 cJ0_isLatin1_aae02 1 (Option.some .boolean) 1 0 0 [.ref (1000100 + i)] z n sh I L (Pst (some (.int 1)) z n sh I L) := by
  refine CM.go [some (.ref (1000100 + i))] rfl rfl (Nat.le_of_ble_eq_true rfl) (fun X g q => ?_)
  refine aw_gsC dJ0_isLatin1_aae02_0 fJ0_38 ?_
  refine aw_if_eq (tgt := 17) dJ0_isLatin1_aae02_3 rfl (fun c3 => absurd c3 (by decide)) (fun c3 => ?_)
  refine aw_aload_n dJ0_isLatin1_aae02_6 rfl ?_
  refine aw_getTC hi dJ0_isLatin1_aae02_7 fJ0_15 ?_
  refine aw_if_ne (tgt := 17) dJ0_isLatin1_aae02_10 rfl (fun c3 => absurd rfl c3) (fun c3 => ?_)
  refine aw_iconst (v := 1) dJ0_isLatin1_aae02_13 rfl ?_
  refine aw_goto (tgt := 18) dJ0_isLatin1_aae02_14 rfl ?_
  exact aw_nret q rfl rfl dJ0_isLatin1_aae02_18 ⟨Nat.le_refl _, Nat.le_refl _⟩ Pst.rf
theorem sJ0_length (hi : i < 12) : CM yJ0_length_8abf5 cJ0_length_8abf5 1 (Option.some .int) 2 0 0 [.ref (1000100 + i)] z n sh I L (Pst (some (.int (nI (strLen.getD i 0)))) z n sh I L) := by
  refine CM.go [some (.ref (1000100 + i))] rfl rfl (Nat.le_of_ble_eq_true rfl) (fun X g q => ?_)
  refine aw_aload_n dJ0_length_8abf5_0 rfl ?_
  refine aw_getTV hi dJ0_length_8abf5_1 fJ0_9 ?_
  refine aw_lenT hi dJ0_length_8abf5_4 ?_
  refine aw_aload_n dJ0_length_8abf5_5 rfl ?_
  refine aw_cT dJ0_length_8abf5_6 kJ0_335 mJ0_coder_7d493 rfl (sJ0_coder hi) (Nat.le_of_ble_eq_true rfl) hi rfl rfl (Nat.le_of_ble_eq_true rfl) ⟨Nat.le_refl _, Nat.le_refl _⟩ ?_
  refine aw_ishr dJ0_length_8abf5_9 ?_
  refine AW.top (y := nI (strLen.getD i 0)) ?_ ?_
  · have e : ∀ i, i < 12 → nI (strLen.getD i 0) >>> ((0 : Int32) &&& 31) = nI (strLen.getD i 0) := by decide +kernel
    exact e i hi
  exact aw_iret q rfl dJ0_length_8abf5_10 ⟨Nat.le_refl _, Nat.le_refl _⟩ Pst.rf
theorem sJ3_checkIndex {u : Value} (hu : u = .ref 1000003 ∨ u = .null) {m : Nat} (hk : k < m) (hm : m < 1000) : CM yJ3_checkIndex_8e157 cJ3_checkIndex_8e157 3 (Option.some .int) 1 0 0 [.int (nI k), .int (nI m), u] z n sh I L (Pst (some (.int (nI k))) z n sh I L) := by
  have hL : ent 3 [.int (nI k), .int (nI m), u] = [some (.int (nI k)), some (.int (nI m)), some u] := by rcases hu with rfl | rfl <;> rfl
  refine CM.go [some (.int (nI k)), some (.int (nI m)), some u] hL rfl (by rcases hu with rfl | rfl <;> exact Nat.le_of_ble_eq_true rfl) (fun X g q => ?_)
  refine aw_iload_n dJ3_checkIndex_8e157_0 rfl ?_
  refine aw_if_lt (tgt := 9) dJ3_checkIndex_8e157_1 rfl (fun c1 => absurd c1 (nI_pos (by omega))) (fun c1 => ?_)
  refine aw_iload_n dJ3_checkIndex_8e157_4 rfl ?_
  refine aw_iload_n dJ3_checkIndex_8e157_5 rfl ?_
  refine aw_icmp_lt (tgt := 16) dJ3_checkIndex_8e157_6 rfl (fun c6 => ?_) (fun c6 => absurd ((nI_ltI (by omega) (by omega)).mpr hk) c6)
  refine aw_iload_n dJ3_checkIndex_8e157_16 rfl ?_
  exact aw_iret q rfl dJ3_checkIndex_8e157_17 ⟨Nat.le_refl _, Nat.le_refl _⟩ Pst.rf
theorem sJ0_checkIndex {m : Nat} (hk : k < m) (hm : m < 1000) : CM yJ0_checkIndex_df160 cJ0_checkIndex_df160 2 (Option.none : Option FieldType) 2 0 0 [.int (nI k), .int (nI m)] z n sh I L (Pst none z n sh I L) := by
  refine CM.go [some (.int (nI k)), some (.int (nI m))] rfl rfl (Nat.le_of_ble_eq_true rfl) (fun X g q => ?_)
  refine aw_iload_n dJ0_checkIndex_df160_0 rfl ?_
  refine aw_iload_n dJ0_checkIndex_df160_1 rfl ?_
  refine aw_gsF dJ0_checkIndex_df160_2 fJ0_1053 ?_ ?_
  · refine aw_cS (As := [.int (nI k), .int (nI m), .ref 1000003]) dJ0_checkIndex_df160_5 kJ0_1059 mJ3_checkIndex_8e157 (sJ3_checkIndex (Or.inl rfl) hk hm) (Nat.le_of_ble_eq_true rfl) rfl rfl (Nat.le_of_ble_eq_true rfl) ⟨Nat.le_refl _, Nat.le_refl _⟩ ?_
    refine aw_pop dJ0_checkIndex_df160_8 rfl ?_
    exact aw_vret q rfl dJ0_checkIndex_df160_9 ⟨Nat.le_refl _, Nat.le_refl _⟩ Pst.rf
  · refine aw_cS (As := [.int (nI k), .int (nI m), .null]) dJ0_checkIndex_df160_5 kJ0_1059 mJ3_checkIndex_8e157 (sJ3_checkIndex (Or.inr rfl) hk hm) (Nat.le_of_ble_eq_true rfl) rfl rfl (Nat.le_of_ble_eq_true rfl) ⟨Nat.le_refl _, Nat.le_refl _⟩ ?_
    refine aw_pop dJ0_checkIndex_df160_8 rfl ?_
    exact aw_vret q rfl dJ0_checkIndex_df160_9 ⟨Nat.le_refl _, Nat.le_refl _⟩ Pst.rf
theorem sJ1_charAt (hi : i < 12) (hk : k < strLen.getD i 0) : CM yJ1_charAt_3b067 cJ1_charAt_3b067 2 (Option.some .char) 3 0 0 [.ref (1000200 + i), .int (nI k)] z n sh I L (Pst (some (.int (strC i k))) z n sh I L) := by
  have hL := strL_eq i hi
  have hC := strC_eq i hi k hk
  refine CM.go [some (.ref (1000200 + i)), some (.int (nI k))] rfl rfl (Nat.le_of_ble_eq_true rfl) (fun X g q => ?_)
  refine aw_iload_n dJ1_charAt_3b067_0 rfl ?_
  refine aw_aload_n dJ1_charAt_3b067_1 rfl ?_
  refine aw_lenT hi dJ1_charAt_3b067_2 ?_
  refine aw_cS (As := [.int (nI k), .int (nI (strLen.getD i 0))]) dJ1_charAt_3b067_3 kJ1_9 mJ0_checkIndex_df160 (sJ0_checkIndex hk (by omega)) (Nat.le_of_ble_eq_true rfl) rfl rfl (Nat.le_of_ble_eq_true rfl) ⟨Nat.le_refl _, Nat.le_refl _⟩ ?_
  refine aw_aload_n dJ1_charAt_3b067_6 rfl ?_
  refine aw_iload_n dJ1_charAt_3b067_7 rfl ?_
  refine aw_baldT hi rfl hk dJ1_charAt_3b067_8 ?_
  refine aw_sipush (v := 255) dJ1_charAt_3b067_9 rfl ?_
  refine aw_iand dJ1_charAt_3b067_12 ?_
  refine aw_i2c dJ1_charAt_3b067_13 ?_
  refine AW.top hC.1 ?_
  exact aw_nret q rfl hC.2 dJ1_charAt_3b067_14 ⟨Nat.le_refl _, Nat.le_refl _⟩ Pst.rf
theorem sJ0_charAt (hi : i < 12) (hk : k < strLen.getD i 0) : CM yJ0_charAt_5068e cJ0_charAt_5068e 2 (Option.some .char) 4 0 0 [.ref (1000100 + i), .int (nI k)] z n sh I L (Pst (some (.int (strC i k))) z n sh I L) := by
  have hC := strC_eq i hi k hk
  refine CM.go [some (.ref (1000100 + i)), some (.int (nI k))] rfl rfl (Nat.le_of_ble_eq_true rfl) (fun X g q => ?_)
  refine aw_aload_n dJ0_charAt_5068e_0 rfl ?_
  refine aw_cT dJ0_charAt_5068e_1 kJ0_492 mJ0_isLatin1_aae02 rfl (sJ0_isLatin1 hi) (Nat.le_of_ble_eq_true rfl) hi rfl rfl (Nat.le_of_ble_eq_true rfl) ⟨Nat.le_refl _, Nat.le_refl _⟩ ?_
  refine aw_if_eq (tgt := 16) dJ0_charAt_5068e_4 rfl (fun c3 => absurd c3 (by decide)) (fun c3 => ?_)
  refine aw_aload_n dJ0_charAt_5068e_7 rfl ?_
  refine aw_getTV hi dJ0_charAt_5068e_8 fJ0_9 ?_
  refine aw_iload_n dJ0_charAt_5068e_11 rfl ?_
  refine aw_cS (As := [.ref (1000200 + i), .int (nI k)]) dJ0_charAt_5068e_12 kJ0_495 mJ1_charAt_3b067 (sJ1_charAt hi hk) (Nat.le_of_ble_eq_true rfl) rfl rfl (Nat.le_of_ble_eq_true rfl) ⟨Nat.le_refl _, Nat.le_refl _⟩ ?_
  exact aw_nret q rfl hC.2 dJ0_charAt_5068e_15 ⟨Nat.le_refl _, Nat.le_refl _⟩ Pst.rf
end JdkS
