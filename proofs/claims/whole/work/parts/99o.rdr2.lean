/-! the class: numbers and words read -/
/-- an end that tells what ints and longs hold -/
def Eh (r : Option Value) (P : MI → ML → Prop) (z n : Nat) (sh : Shp) : PoT := fun v z' n' sh' J M => v = r ∧ z' = z ∧ n' = n ∧ sh' = sh ∧ P J M
section AEh
variable {X : Cx} {g : Gd} {own : String} {cc : ByteArray} {nL : Nat} {Bd : Nat × Nat × Nat} {E : En} {I : MI} {L : ML} {pc : Nat} {Lc : List (Option Value)} {st : List Value}
theorem aw_hV {idx ci b : Nat} {y : MethodName} {cc2 : ByteArray} {nL2 : Nat} {ret2 : Option FieldType} {np d : Nat} {As : List Value} {st0 : List Value} {r : Option Value} {P : MI → ML → Prop} (dg : decode cc pc = .ok (.invokevirtual idx, 3)) (hl : Cond.methodLink own idx y ∈ tblG) (hm : mV y cc2 nL2 ret2 np) (hM : CM y cc2 nL2 ret2 d 0 0 (.ref b :: As) E.1 E.2.1 E.2.2.1 I L (Eh r P E.1 E.2.1 E.2.2.1))
    (hd : d + 1 ≤ Bd.1) (hk : (E.2.2.1 b).1 = ci) (hci : ci < 12 ∧ clR ci = y.cls) (hb : b < E.2.1) (hst : st0 = As.reverse ++ .ref b :: st) (hn : As.length = np) (hw : (st.map fun v => v.category).sum ≤ 8) (hf : E.2.2.2.1 ≤ Bd.2.1 ∧ E.2.2.2.2 ≤ Bd.2.2)
    (k : ∀ J M, P J M → AW X g own cc nL Bd E J M (pc + 3) Lc (r.toList ++ st)) : AW X g own cc nL Bd E I L pc Lc st0 :=
  aw_callV dg hl hm hM hd hk hci hb hst hn hw hf (fun v z n sh I3 L3 q => by
    obtain ⟨h1, h2, h3, h4, h5⟩ := q
    subst h1 h2 h3 h4
    exact k _ _ h5)
end AEh
/-- the class's own numbers for the kinds -/
def cTk (k : Nat) : Int32 := match k with
  | 0 => 0
  | 1 => 4
  | 2 => 1
  | 3 => 2
  | _ => 3
def NxF (I J : MI) : Prop := (∀ a, a ≠ 479 → J a = I a) ∧ ∀ k, k ≠ 6 → k ≠ 7 → k ≠ 8 → k ≠ 10 → k ≠ 11 → J 479 k = I 479 k
theorem NxF.rf {I : MI} : NxF I I := ⟨fun _ _ => rfl, fun _ _ _ _ _ _ => rfl⟩
theorem NxF.put {I J : MI} {k : Nat} {v : Int32} (h : NxF I J) (hk : k = 6 ∨ k = 7 ∨ k = 8 ∨ k = 10 ∨ k = 11) : NxF I (upI J 479 k v) := ⟨fun a ha => (if_neg ha).trans (h.1 a ha), fun j h1 h2 h3 h4 h5 => (upI_n (Or.inr (by omega))).trans (h.2 j h1 h2 h3 h4 h5)⟩
theorem NxF.tr {I J K : MI} (h : NxF I J) (h2 : NxF J K) : NxF I K := ⟨fun a ha => (h2.1 a ha).trans (h.1 a ha), fun k a b c d e => (h2.2 k a b c d e).trans (h.2 k a b c d e)⟩
theorem num_eq {v c : Int32} : v * 10 + (c - 48) = 10 * v + c - 48 := by
  rw [Int32.mul_comm, Int32.sub_eq_add_neg, Int32.sub_eq_add_neg, ← Int32.add_assoc]
section ClsS
variable {z n : Nat} {sh : Shp} {I : MI} {L : ML} {N : Nat → Int32} {Q : Nat → Int64}
set_option maxHeartbeats 4000000 in
set_option maxRecDepth 100000 in
theorem sX6_nextNumber (hX : IsX n sh) {T : Nat → Int32} (hT : I 480 = T) {s f : Nat} (hs : I 479 5 = nI s) (hs9 : s ≤ 900) (h6 : I 479 6 = nI f) (h8 : I 479 8 = nI f) (hf : f ≤ s)  : CM yX6_nextNumber cX6_nextNumber 1 (Option.none : Option FieldType) 2 0 0 [.ref 479] z n sh I L (Ef none (fun J => NxF I J ∧ J 479 6 = nI (tokN T s f).2.1 ∧ J 479 7 = cTk (tokN T s f).2.2.1 ∧ ((tokN T s f).2.2.1 = 3 → J 479 10 = (tokN T s f).2.2.2.2) ∧ J 479 8 = nI f) z n sh L) := by
  refine CM.go [some (.ref 479)] rfl rfl (Nat.le_of_ble_eq_true rfl) (fun X g q => ?_)
  have loop : ∀ i, i ≤ runT isDig T s f - f → ∀ (J : MI), NxF I J → J 479 6 = nI (f + i) → J 479 10 = nmb T s f i → J 479 8 = nI f → runT isDig T s (f + i) = runT isDig T s f → AW X g RX6 cX6_nextNumber 1 (2, 0, 0) (z, n, sh, 0, 0) (J) (L) 5 [some (.ref 479)] [] := by
    refine up_loop (fun i hi ih J hF ha hn hst8 hr => ?_)
    have hT2 : J 480 = T := (hF.1 480 (by decide)).trans hT
    have hs2 : J 479 5 = nI s := (hF.2 5 (by decide) (by decide) (by decide) (by decide) (by decide)).trans hs
    have hrg := runT_ge (P := isDig) (T := T) (s := s) (t := f)
    have hrl := runT_le (P := isDig) (T := T) hf
    refine aw_aload_n dX6_nextNumber_5 rfl ?_
    refine aw_getI dX6_nextNumber_6 fX6_56 hX.rdr.1 (hX.lt (by decide)) rfl ?_
    refine AW.top ha ?_
    refine aw_aload_n dX6_nextNumber_9 rfl ?_
    refine aw_getI dX6_nextNumber_10 fX6_53 hX.rdr.1 (hX.lt (by decide)) rfl ?_
    refine AW.top hs2 ?_
    refine aw_icmp_ge (tgt := 66) dX6_nextNumber_13 rfl (fun c13 => ?_) (fun c13 => ?_)
    · have hge := (nI_leI (a := s) (b := f + i) (by omega) (by omega)).mp c13
      have hei : f + i = runT isDig T s f := by omega
      refine aw_aload_n dX6_nextNumber_66 rfl ?_
      refine aw_aload_n dX6_nextNumber_67 rfl ?_
      refine aw_getI dX6_nextNumber_68 fX6_56 hX.rdr.1 (hX.lt (by decide)) rfl ?_
      refine AW.top ha ?_
      refine aw_aload_n dX6_nextNumber_71 rfl ?_
      refine aw_getI dX6_nextNumber_72 fX6_188 hX.rdr.1 (hX.lt (by decide)) rfl ?_
      refine AW.top hst8 ?_
      refine aw_isub dX6_nextNumber_75 ?_
      refine AW.top (nI_less (a := f + i) (b := f) (by omega)) ?_
      refine aw_iconst (v := 3) dX6_nextNumber_76 rfl ?_
      refine aw_icmp_gt (tgt := 84) dX6_nextNumber_77 rfl (fun c77 => ?_) (fun c77 => ?_)
      · refine aw_iconst (v := 4) dX6_nextNumber_84 rfl ?_
        refine aw_putI dX6_nextNumber_85 fX6_62 hX.rdr.1 (hX.lt (by decide)) rfl rfl ?_
        refine aw_vret q rfl dX6_nextNumber_88 ⟨Nat.le_refl _, Nat.le_refl _⟩ ?_
        have hgt3 : 3 < runT isDig T s f - f := by
          have := (nI_ltI (a := 3) (b := f + i - f) (by decide) (by omega)).mp c77
          omega
        refine ⟨rfl, rfl, rfl, rfl, rfl, hF.put (by omega), ?_, ?_, fun z => ?_, (upI_n (Or.inr (by decide))).trans hst8⟩
        · refine (upI_n (Or.inr (by decide))).trans (ha.trans ?_)
          rw [hei]
          rfl
        · refine upI_s.trans ?_
          unfold tokN
          show _ = cTk (if 3 < runT isDig T s f - f then 1 else 3)
          rw [if_pos hgt3]
          rfl
        · have z : (if 3 < runT isDig T s f - f then 1 else 3) = 3 := z
          rw [if_pos hgt3] at z
          exact absurd z (by decide)
      · refine aw_iconst (v := 2) dX6_nextNumber_80 rfl ?_
        refine aw_goto (tgt := 85) dX6_nextNumber_81 rfl ?_
        refine aw_putI dX6_nextNumber_85 fX6_62 hX.rdr.1 (hX.lt (by decide)) rfl rfl ?_
        refine aw_vret q rfl dX6_nextNumber_88 ⟨Nat.le_refl _, Nat.le_refl _⟩ ?_
        have hgt3 : ¬ 3 < runT isDig T s f - f := by
          have := mt (nI_ltI (a := 3) (b := f + i - f) (by decide) (by omega)).mpr c77
          omega
        refine ⟨rfl, rfl, rfl, rfl, rfl, hF.put (by omega), ?_, ?_, fun z => ?_, (upI_n (Or.inr (by decide))).trans hst8⟩
        · refine (upI_n (Or.inr (by decide))).trans (ha.trans ?_)
          rw [hei]
          rfl
        · refine upI_s.trans ?_
          unfold tokN
          show _ = cTk (if 3 < runT isDig T s f - f then 1 else 3)
          rw [if_neg hgt3]
          rfl
        · refine (upI_n (Or.inr (by decide))).trans (hn.trans ?_)
          show _ = nmb T s f (min 3 (runT isDig T s f - f))
          rw [Nat.min_eq_right (by omega), ← hei, Nat.add_sub_cancel_left]
    · have hls : f + i < s := by
        have := mt (nI_leI (a := s) (b := f + i) (by omega) (by omega)).mpr c13
        omega
      refine aw_aload_n dX6_nextNumber_16 rfl ?_
      refine aw_aload_n dX6_nextNumber_17 rfl ?_
      refine aw_getI dX6_nextNumber_18 fX6_56 hX.rdr.1 (hX.lt (by decide)) rfl ?_
      refine AW.top ha ?_
      refine aw_cV dX6_nextNumber_21 kX6_191 mX6_byteAt (sX6_byteAt hX hT2 hs2 hs9 rfl (by omega)) (Nat.le_of_ble_eq_true rfl) hX.rdr.1 ⟨by decide, rfl⟩ (hX.lt (by decide)) rfl rfl (Nat.le_of_ble_eq_true rfl) ⟨Nat.le_refl _, Nat.le_refl _⟩ ?_
      refine aw_cS dX6_nextNumber_24 kX6_200 mX6_isDigit (sX6_isDigit) (Nat.le_of_ble_eq_true rfl) rfl rfl (Nat.le_of_ble_eq_true rfl) ⟨Nat.le_refl _, Nat.le_refl _⟩ ?_
      refine aw_if_eq (tgt := 66) dX6_nextNumber_27 rfl (fun c27 => ?_) (fun c27 => ?_)
      · have hei : f + i = runT isDig T s f := by
          rw [← hr]
          exact (runT_f (bI0.mp c27)).symm
        refine aw_aload_n dX6_nextNumber_66 rfl ?_
        refine aw_aload_n dX6_nextNumber_67 rfl ?_
        refine aw_getI dX6_nextNumber_68 fX6_56 hX.rdr.1 (hX.lt (by decide)) rfl ?_
        refine AW.top ha ?_
        refine aw_aload_n dX6_nextNumber_71 rfl ?_
        refine aw_getI dX6_nextNumber_72 fX6_188 hX.rdr.1 (hX.lt (by decide)) rfl ?_
        refine AW.top hst8 ?_
        refine aw_isub dX6_nextNumber_75 ?_
        refine AW.top (nI_less (a := f + i) (b := f) (by omega)) ?_
        refine aw_iconst (v := 3) dX6_nextNumber_76 rfl ?_
        refine aw_icmp_gt (tgt := 84) dX6_nextNumber_77 rfl (fun c77 => ?_) (fun c77 => ?_)
        · refine aw_iconst (v := 4) dX6_nextNumber_84 rfl ?_
          refine aw_putI dX6_nextNumber_85 fX6_62 hX.rdr.1 (hX.lt (by decide)) rfl rfl ?_
          refine aw_vret q rfl dX6_nextNumber_88 ⟨Nat.le_refl _, Nat.le_refl _⟩ ?_
          have hgt3 : 3 < runT isDig T s f - f := by
            have := (nI_ltI (a := 3) (b := f + i - f) (by decide) (by omega)).mp c77
            omega
          refine ⟨rfl, rfl, rfl, rfl, rfl, hF.put (by omega), ?_, ?_, fun z => ?_, (upI_n (Or.inr (by decide))).trans hst8⟩
          · refine (upI_n (Or.inr (by decide))).trans (ha.trans ?_)
            rw [hei]
            rfl
          · refine upI_s.trans ?_
            unfold tokN
            show _ = cTk (if 3 < runT isDig T s f - f then 1 else 3)
            rw [if_pos hgt3]
            rfl
          · have z : (if 3 < runT isDig T s f - f then 1 else 3) = 3 := z
            rw [if_pos hgt3] at z
            exact absurd z (by decide)
        · refine aw_iconst (v := 2) dX6_nextNumber_80 rfl ?_
          refine aw_goto (tgt := 85) dX6_nextNumber_81 rfl ?_
          refine aw_putI dX6_nextNumber_85 fX6_62 hX.rdr.1 (hX.lt (by decide)) rfl rfl ?_
          refine aw_vret q rfl dX6_nextNumber_88 ⟨Nat.le_refl _, Nat.le_refl _⟩ ?_
          have hgt3 : ¬ 3 < runT isDig T s f - f := by
            have := mt (nI_ltI (a := 3) (b := f + i - f) (by decide) (by omega)).mpr c77
            omega
          refine ⟨rfl, rfl, rfl, rfl, rfl, hF.put (by omega), ?_, ?_, fun z => ?_, (upI_n (Or.inr (by decide))).trans hst8⟩
          · refine (upI_n (Or.inr (by decide))).trans (ha.trans ?_)
            rw [hei]
            rfl
          · refine upI_s.trans ?_
            unfold tokN
            show _ = cTk (if 3 < runT isDig T s f - f then 1 else 3)
            rw [if_neg hgt3]
            rfl
          · refine (upI_n (Or.inr (by decide))).trans (hn.trans ?_)
            show _ = nmb T s f (min 3 (runT isDig T s f - f))
            rw [Nat.min_eq_right (by omega), ← hei, Nat.add_sub_cancel_left]
      · have hbt := bI1.mp c27
        have hgt := runT_gt hbt (by decide)
        have hst := runT_t hbt (by decide)
        rw [hr] at hgt
        have hlt : i < runT isDig T s f - f := by omega
        refine aw_aload_n dX6_nextNumber_30 rfl ?_
        refine aw_aload_n dX6_nextNumber_31 rfl ?_
        refine aw_getI dX6_nextNumber_32 fX6_109 hX.rdr.1 (hX.lt (by decide)) rfl ?_
        refine AW.top hn ?_
        refine aw_bipush (v := 10) dX6_nextNumber_35 rfl ?_
        refine aw_imul dX6_nextNumber_37 ?_
        refine aw_aload_n dX6_nextNumber_38 rfl ?_
        refine aw_aload_n dX6_nextNumber_39 rfl ?_
        refine aw_getI dX6_nextNumber_40 fX6_56 hX.rdr.1 (hX.lt (by decide)) rfl ?_
        refine AW.top ha ?_
        refine aw_cV dX6_nextNumber_43 kX6_191 mX6_byteAt (sX6_byteAt hX hT2 hs2 hs9 rfl (by omega)) (Nat.le_of_ble_eq_true rfl) hX.rdr.1 ⟨by decide, rfl⟩ (hX.lt (by decide)) rfl rfl (Nat.le_of_ble_eq_true rfl) ⟨Nat.le_refl _, Nat.le_refl _⟩ ?_
        refine aw_bipush (v := 48) dX6_nextNumber_46 rfl ?_
        refine aw_isub dX6_nextNumber_48 ?_
        refine aw_iadd dX6_nextNumber_49 ?_
        refine AW.top (y := nmb T s f (i + 1)) num_eq ?_
        refine aw_putI dX6_nextNumber_50 fX6_109 hX.rdr.1 (hX.lt (by decide)) rfl rfl ?_
        refine aw_aload_n dX6_nextNumber_53 rfl ?_
        refine aw_dup dX6_nextNumber_54 rfl ?_
        refine aw_getI dX6_nextNumber_55 fX6_56 hX.rdr.1 (hX.lt (by decide)) rfl ?_
        refine AW.top ((upI_n (Or.inr (by decide))).trans ha) ?_
        refine aw_iconst (v := 1) dX6_nextNumber_58 rfl ?_
        refine aw_iadd dX6_nextNumber_59 ?_
        refine AW.top (y := nI (f + (i + 1))) (nI_sum _ 1) ?_
        refine aw_putI dX6_nextNumber_60 fX6_56 hX.rdr.1 (hX.lt (by decide)) rfl rfl ?_
        refine aw_goto (tgt := 5) dX6_nextNumber_63 rfl ?_
        refine ih hlt _ ((hF.put (by omega)).put (by omega)) upI_s ((upI_n (Or.inr (by decide))).trans upI_s) ((upI_n (Or.inr (by decide))).trans ((upI_n (Or.inr (by decide))).trans hst8)) ?_
        rw [← hr, hst]
        rfl
  refine aw_aload_n dX6_nextNumber_0 rfl ?_
  refine aw_iconst (v := 0) dX6_nextNumber_1 rfl ?_
  refine aw_putI dX6_nextNumber_2 fX6_109 hX.rdr.1 (hX.lt (by decide)) rfl rfl ?_
  exact loop 0 (Nat.zero_le _) _ (NxF.rf.put (by omega)) ((upI_n (Or.inr (by decide))).trans h6) upI_s ((upI_n (Or.inr (by decide))).trans h8) rfl
end ClsS
