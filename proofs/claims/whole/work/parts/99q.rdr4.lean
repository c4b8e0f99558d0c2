/-! the class: what is read next -/
def AtC (J : MI) (M : ML) (T : Nat → Int32) (s : Nat) (k : Tk) : Prop := J 480 = T ∧ J 479 5 = nI s ∧ J 479 8 = nI k.1 ∧ J 479 6 = nI k.2.1 ∧ J 479 7 = cTk k.2.2.1 ∧ (k.2.2.1 = 2 → M 479 9 = k.2.2.2.1 ∧ J 479 11 = kwL k.2.2.2.1 10) ∧ (k.2.2.1 = 3 → J 479 10 = k.2.2.2.2)
theorem NxF.g5 {I J : MI} (h : NxF I J) : J 479 5 = I 479 5 := h.2 5 (by decide) (by decide) (by decide) (by decide) (by decide)
theorem tokW_k {T : Nat → Int32} {s f : Nat} : ¬ (tokW T s f).2.2.1 = 3 := by
  show ¬ (if 8 < runT isLet T s f - f then 1 else 2) = 3
  split <;> decide
theorem tokN_k {T : Nat → Int32} {s f : Nat} : ¬ (tokN T s f).2.2.1 = 2 := by
  show ¬ (if 3 < runT isDig T s f - f then 1 else 3) = 2
  split <;> decide
theorem tokX_k {T : Nat → Int32} {s f : Nat} : ¬ (tokX T s f).2.2.1 = 2 ∧ ¬ (tokX T s f).2.2.1 = 3 := by
  show ¬ (if tb T s f = 59 then 4 else 1) = 2 ∧ ¬ (if tb T s f = 59 then 4 else 1) = 3
  split <;> exact ⟨by decide, by decide⟩
section ClsS
variable {z n : Nat} {sh : Shp} {I : MI} {L : ML} {N : Nat → Int32} {Q : Nat → Int64}
set_option maxHeartbeats 4000000 in
set_option maxRecDepth 100000 in
theorem sX6_next (hX : IsX n sh) {T : Nat → Int32} (hT : I 480 = T) {s t : Nat} (hs : I 479 5 = nI s) (hs9 : s ≤ 900) (h6 : I 479 6 = nI t) (ht : t ≤ s) (hKw : KwO L) : CM yX6_next cX6_next 2 (Option.none : Option FieldType) 3 0 0 [.ref 479] z n sh I L (Eh none (fun J M => NxF I J ∧ NxL L M ∧ AtC J M T s (tok T s t)) z n sh) := by
  refine CM.go [some (.ref 479), none] rfl rfl (Nat.le_of_ble_eq_true rfl) (fun X g q => ?_)
  have loop : ∀ i, i ≤ runT isSpc T s t - t → ∀ (J : MI), NxF I J → J 479 6 = nI (t + i) → runT isSpc T s (t + i) = runT isSpc T s t → AW X g RX6 cX6_next 2 (3, 0, 0) (z, n, sh, 0, 0) (J) (L) 0 [some (.ref 479), none] [] := by
    refine up_loop (fun i hi ih J hF ha hr => ?_)
    have hT2 : J 480 = T := (hF.1 480 (by decide)).trans hT
    have hs2 : J 479 5 = nI s := hF.g5.trans hs
    have hrg := runT_ge (P := isSpc) (T := T) (s := s) (t := t)
    have hrl := runT_le (P := isSpc) (T := T) ht
    refine aw_aload_n dX6_next_0 rfl ?_
    refine aw_getI dX6_next_1 fX6_56 hX.rdr.1 (hX.lt (by decide)) rfl ?_
    refine AW.top ha ?_
    refine aw_aload_n dX6_next_4 rfl ?_
    refine aw_getI dX6_next_5 fX6_53 hX.rdr.1 (hX.lt (by decide)) rfl ?_
    refine AW.top hs2 ?_
    refine aw_icmp_ge (tgt := 50) dX6_next_8 rfl (fun c8 => ?_) (fun c8 => ?_)
    · have hge := (nI_leI (a := s) (b := t + i) (by omega) (by omega)).mp c8
      have hei : t + i = runT isSpc T s t := by omega
      have etk : tok T s t = tokAt T s (t + i) := by unfold tok; rw [hei]
      have hT3 : (upI J 479 8 (nI (t + i))) 480 = T := (if_neg (by decide)).trans hT2
      have hs3 : (upI J 479 8 (nI (t + i))) 479 5 = nI s := (upI_n (Or.inr (by decide))).trans hs2
      have h63 : (upI J 479 8 (nI (t + i))) 479 6 = nI (t + i) := (upI_n (Or.inr (by decide))).trans ha
      have h83 : (upI J 479 8 (nI (t + i))) 479 8 = nI (t + i) := upI_s
      have hF3 : NxF I (upI J 479 8 (nI (t + i))) := hF.put (by omega)
      refine aw_aload_n dX6_next_50 rfl ?_
      refine aw_aload_n dX6_next_51 rfl ?_
      refine aw_getI dX6_next_52 fX6_56 hX.rdr.1 (hX.lt (by decide)) rfl ?_
      refine AW.top ha ?_
      refine aw_putI dX6_next_55 fX6_188 hX.rdr.1 (hX.lt (by decide)) rfl rfl ?_
      refine aw_aload_n dX6_next_58 rfl ?_
      refine aw_aload_n dX6_next_59 rfl ?_
      refine aw_getI dX6_next_60 fX6_56 hX.rdr.1 (hX.lt (by decide)) rfl ?_
      refine AW.top h63 ?_
      refine aw_cV dX6_next_63 kX6_191 mX6_byteAt (sX6_byteAt hX hT3 hs3 hs9 rfl (by omega)) (Nat.le_of_ble_eq_true rfl) hX.rdr.1 ⟨by decide, rfl⟩ (hX.lt (by decide)) rfl rfl (Nat.le_of_ble_eq_true rfl) ⟨Nat.le_refl _, Nat.le_refl _⟩ ?_
      refine aw_istore_n dX6_next_66 (by decide) rfl ?_
      refine aw_iload_n dX6_next_67 rfl ?_
      refine aw_iconst (v := (-1)) dX6_next_68 rfl ?_
      refine aw_icmp_ne (tgt := 80) dX6_next_69 rfl (fun c69 => ?_) (fun c69 => ?_)
      · skip
        refine aw_iload_n dX6_next_80 rfl ?_
        refine aw_cS dX6_next_81 kX6_194 mX6_isLetter (sX6_isLetter) (Nat.le_of_ble_eq_true rfl) rfl rfl (Nat.le_of_ble_eq_true rfl) ⟨Nat.le_refl _, Nat.le_refl _⟩ ?_
        refine aw_if_eq (tgt := 94) dX6_next_84 rfl (fun c84 => ?_) (fun c84 => ?_)
        · skip
          refine aw_iload_n dX6_next_94 rfl ?_
          refine aw_cS dX6_next_95 kX6_200 mX6_isDigit (sX6_isDigit) (Nat.le_of_ble_eq_true rfl) rfl rfl (Nat.le_of_ble_eq_true rfl) ⟨Nat.le_refl _, Nat.le_refl _⟩ ?_
          refine aw_if_eq (tgt := 108) dX6_next_98 rfl (fun c98 => ?_) (fun c98 => ?_)
          · skip
            refine aw_aload_n dX6_next_108 rfl ?_
            refine aw_iload_n dX6_next_109 rfl ?_
            refine aw_bipush (v := 59) dX6_next_110 rfl ?_
            refine aw_icmp_ne (tgt := 119) dX6_next_112 rfl (fun c112 => ?_) (fun c112 => ?_)
            · skip
              refine aw_iconst (v := 4) dX6_next_119 rfl ?_
              refine aw_putI dX6_next_120 fX6_62 hX.rdr.1 (hX.lt (by decide)) rfl rfl ?_
              refine aw_aload_n dX6_next_123 rfl ?_
              refine aw_dup dX6_next_124 rfl ?_
              refine aw_getI dX6_next_125 fX6_56 hX.rdr.1 (hX.lt (by decide)) rfl ?_
              refine AW.top ((upI_n (Or.inr (by decide))).trans h63) ?_
              refine aw_iconst (v := 1) dX6_next_128 rfl ?_
              refine aw_iadd dX6_next_129 ?_
              refine AW.top (y := nI (t + i + 1)) (nI_sum _ 1) ?_
              refine aw_putI dX6_next_130 fX6_56 hX.rdr.1 (hX.lt (by decide)) rfl rfl ?_
              refine aw_vret q rfl dX6_next_133 ⟨Nat.le_refl _, Nat.le_refl _⟩ ?_
              refine ⟨rfl, rfl, rfl, rfl, (hF3.put (by omega)).put (by omega), NxL.rf, ?_⟩
              rw [etk, show tokAt T s (t + i) = tokX T s (t + i) from (if_neg c69).trans ((if_neg (by rw [bI0.mp c84]; decide)).trans (if_neg (by rw [bI0.mp c98]; decide)))]
              refine ⟨(if_neg (by decide)).trans ((if_neg (by decide)).trans hT3), (upI_n (Or.inr (by decide))).trans ((upI_n (Or.inr (by decide))).trans hs3), (upI_n (Or.inr (by decide))).trans ((upI_n (Or.inr (by decide))).trans h83), upI_s, (upI_n (Or.inr (by decide))).trans (upI_s.trans ?_), fun z => absurd z tokX_k.1, fun z => absurd z tokX_k.2⟩
              show _ = cTk (if tb T s (t + i) = 59 then 4 else 1)
              rw [if_neg c112]
              rfl
            · skip
              refine aw_iconst (v := 3) dX6_next_115 rfl ?_
              refine aw_goto (tgt := 120) dX6_next_116 rfl ?_
              refine aw_putI dX6_next_120 fX6_62 hX.rdr.1 (hX.lt (by decide)) rfl rfl ?_
              refine aw_aload_n dX6_next_123 rfl ?_
              refine aw_dup dX6_next_124 rfl ?_
              refine aw_getI dX6_next_125 fX6_56 hX.rdr.1 (hX.lt (by decide)) rfl ?_
              refine AW.top ((upI_n (Or.inr (by decide))).trans h63) ?_
              refine aw_iconst (v := 1) dX6_next_128 rfl ?_
              refine aw_iadd dX6_next_129 ?_
              refine AW.top (y := nI (t + i + 1)) (nI_sum _ 1) ?_
              refine aw_putI dX6_next_130 fX6_56 hX.rdr.1 (hX.lt (by decide)) rfl rfl ?_
              refine aw_vret q rfl dX6_next_133 ⟨Nat.le_refl _, Nat.le_refl _⟩ ?_
              refine ⟨rfl, rfl, rfl, rfl, (hF3.put (by omega)).put (by omega), NxL.rf, ?_⟩
              rw [etk, show tokAt T s (t + i) = tokX T s (t + i) from (if_neg c69).trans ((if_neg (by rw [bI0.mp c84]; decide)).trans (if_neg (by rw [bI0.mp c98]; decide)))]
              refine ⟨(if_neg (by decide)).trans ((if_neg (by decide)).trans hT3), (upI_n (Or.inr (by decide))).trans ((upI_n (Or.inr (by decide))).trans hs3), (upI_n (Or.inr (by decide))).trans ((upI_n (Or.inr (by decide))).trans h83), upI_s, (upI_n (Or.inr (by decide))).trans (upI_s.trans ?_), fun z => absurd z tokX_k.1, fun z => absurd z tokX_k.2⟩
              show _ = cTk (if tb T s (t + i) = 59 then 4 else 1)
              rw [if_pos c112]
              rfl
          · skip
            refine aw_aload_n dX6_next_101 rfl ?_
            refine aw_eV dX6_next_102 kX6_203 mX6_nextNumber (sX6_nextNumber hX hT3 hs3 hs9 h63 h83 (by omega)) (Nat.le_of_ble_eq_true rfl) hX.rdr.1 ⟨by decide, rfl⟩ (hX.lt (by decide)) rfl rfl (Nat.le_of_ble_eq_true rfl) ⟨Nat.le_refl _, Nat.le_refl _⟩ (fun J2 hq => ?_)
            obtain ⟨n1, n3, n4, n5, n0⟩ := hq
            refine aw_goto (tgt := 133) dX6_next_105 rfl ?_
            refine aw_vret q rfl dX6_next_133 ⟨Nat.le_refl _, Nat.le_refl _⟩ ?_
            refine ⟨rfl, rfl, rfl, rfl, hF3.tr n1, NxL.rf, ?_⟩
            rw [etk, show tokAt T s (t + i) = tokN T s (t + i) from (if_neg c69).trans ((if_neg (by rw [bI0.mp c84]; decide)).trans (if_pos (bI1.mp c98)))]
            exact ⟨(n1.1 480 (by decide)).trans hT3, n1.g5.trans hs3, n0, n3, n4, fun z => absurd z tokN_k, n5⟩
        · skip
          refine aw_aload_n dX6_next_87 rfl ?_
          refine aw_hV dX6_next_88 kX6_197 mX6_nextWord (sX6_nextWord hX hT3 hs3 hs9 h63 h83 (by omega) hKw) (Nat.le_of_ble_eq_true rfl) hX.rdr.1 ⟨by decide, rfl⟩ (hX.lt (by decide)) rfl rfl (Nat.le_of_ble_eq_true rfl) ⟨Nat.le_refl _, Nat.le_refl _⟩ (fun J2 M2 hq => ?_)
          obtain ⟨n1, n2, n3, n4, n5, n0⟩ := hq
          refine aw_goto (tgt := 133) dX6_next_91 rfl ?_
          refine aw_vret q rfl dX6_next_133 ⟨Nat.le_refl _, Nat.le_refl _⟩ ?_
          refine ⟨rfl, rfl, rfl, rfl, hF3.tr n1, n2, ?_⟩
          rw [etk, show tokAt T s (t + i) = tokW T s (t + i) from (if_neg c69).trans (if_pos (bI1.mp c84))]
          exact ⟨(n1.1 480 (by decide)).trans hT3, n1.g5.trans hs3, n0, n3, n4, n5, fun z => absurd z tokW_k⟩
      · skip
        refine aw_aload_n dX6_next_72 rfl ?_
        refine aw_iconst (v := 0) dX6_next_73 rfl ?_
        refine aw_putI dX6_next_74 fX6_62 hX.rdr.1 (hX.lt (by decide)) rfl rfl ?_
        refine aw_goto (tgt := 133) dX6_next_77 rfl ?_
        refine aw_vret q rfl dX6_next_133 ⟨Nat.le_refl _, Nat.le_refl _⟩ ?_
        refine ⟨rfl, rfl, rfl, rfl, hF3.put (by omega), NxL.rf, ?_⟩
        rw [etk, show tokAt T s (t + i) = tokE (t + i) from if_pos c69]
        exact ⟨(if_neg (by decide)).trans hT3, (upI_n (Or.inr (by decide))).trans hs3, (upI_n (Or.inr (by decide))).trans h83, (upI_n (Or.inr (by decide))).trans h63, upI_s, fun z => absurd (show (0 : Nat) = 2 from z) (by decide), fun z => absurd (show (0 : Nat) = 3 from z) (by decide)⟩
    · have hls : t + i < s := by
        have := mt (nI_leI (a := s) (b := t + i) (by omega) (by omega)).mpr c8
        omega
      refine aw_aload_n dX6_next_11 rfl ?_
      refine aw_aload_n dX6_next_12 rfl ?_
      refine aw_getI dX6_next_13 fX6_56 hX.rdr.1 (hX.lt (by decide)) rfl ?_
      refine AW.top ha ?_
      refine aw_cV dX6_next_16 kX6_191 mX6_byteAt (sX6_byteAt hX hT2 hs2 hs9 rfl (by omega)) (Nat.le_of_ble_eq_true rfl) hX.rdr.1 ⟨by decide, rfl⟩ (hX.lt (by decide)) rfl rfl (Nat.le_of_ble_eq_true rfl) ⟨Nat.le_refl _, Nat.le_refl _⟩ ?_
      refine aw_bipush (v := 10) dX6_next_19 rfl ?_
      refine aw_icmp_eq (tgt := 37) dX6_next_21 rfl (fun c21 => ?_) (fun c21 => ?_)
      · have hbt : isSpc (tb T s (t + i)) = true := by unfold isSpc; rw [decide_eq_true c21, Bool.or_true]
        have hgt := runT_gt hbt (by decide)
        have hst := runT_t hbt (by decide)
        rw [hr] at hgt
        have hlt : i < runT isSpc T s t - t := by omega
        refine aw_aload_n dX6_next_37 rfl ?_
        refine aw_dup dX6_next_38 rfl ?_
        refine aw_getI dX6_next_39 fX6_56 hX.rdr.1 (hX.lt (by decide)) rfl ?_
        refine AW.top ha ?_
        refine aw_iconst (v := 1) dX6_next_42 rfl ?_
        refine aw_iadd dX6_next_43 ?_
        refine AW.top (y := nI (t + (i + 1))) (nI_sum _ 1) ?_
        refine aw_putI dX6_next_44 fX6_56 hX.rdr.1 (hX.lt (by decide)) rfl rfl ?_
        refine aw_goto (tgt := 0) dX6_next_47 rfl ?_
        refine ih hlt _ (hF.put (by omega)) upI_s ?_
        rw [← hr, hst]
        rfl
      · skip
        refine aw_aload_n dX6_next_24 rfl ?_
        refine aw_aload_n dX6_next_25 rfl ?_
        refine aw_getI dX6_next_26 fX6_56 hX.rdr.1 (hX.lt (by decide)) rfl ?_
        refine AW.top ha ?_
        refine aw_cV dX6_next_29 kX6_191 mX6_byteAt (sX6_byteAt hX hT2 hs2 hs9 rfl (by omega)) (Nat.le_of_ble_eq_true rfl) hX.rdr.1 ⟨by decide, rfl⟩ (hX.lt (by decide)) rfl rfl (Nat.le_of_ble_eq_true rfl) ⟨Nat.le_refl _, Nat.le_refl _⟩ ?_
        refine aw_bipush (v := 32) dX6_next_32 rfl ?_
        refine aw_icmp_ne (tgt := 50) dX6_next_34 rfl (fun c34 => ?_) (fun c34 => ?_)
        · have hei : t + i = runT isSpc T s t := by
            rw [← hr]
            exact (runT_f (by unfold isSpc; rw [decide_eq_false c34, decide_eq_false c21]; rfl)).symm
          have etk : tok T s t = tokAt T s (t + i) := by unfold tok; rw [hei]
          have hT3 : (upI J 479 8 (nI (t + i))) 480 = T := (if_neg (by decide)).trans hT2
          have hs3 : (upI J 479 8 (nI (t + i))) 479 5 = nI s := (upI_n (Or.inr (by decide))).trans hs2
          have h63 : (upI J 479 8 (nI (t + i))) 479 6 = nI (t + i) := (upI_n (Or.inr (by decide))).trans ha
          have h83 : (upI J 479 8 (nI (t + i))) 479 8 = nI (t + i) := upI_s
          have hF3 : NxF I (upI J 479 8 (nI (t + i))) := hF.put (by omega)
          refine aw_aload_n dX6_next_50 rfl ?_
          refine aw_aload_n dX6_next_51 rfl ?_
          refine aw_getI dX6_next_52 fX6_56 hX.rdr.1 (hX.lt (by decide)) rfl ?_
          refine AW.top ha ?_
          refine aw_putI dX6_next_55 fX6_188 hX.rdr.1 (hX.lt (by decide)) rfl rfl ?_
          refine aw_aload_n dX6_next_58 rfl ?_
          refine aw_aload_n dX6_next_59 rfl ?_
          refine aw_getI dX6_next_60 fX6_56 hX.rdr.1 (hX.lt (by decide)) rfl ?_
          refine AW.top h63 ?_
          refine aw_cV dX6_next_63 kX6_191 mX6_byteAt (sX6_byteAt hX hT3 hs3 hs9 rfl (by omega)) (Nat.le_of_ble_eq_true rfl) hX.rdr.1 ⟨by decide, rfl⟩ (hX.lt (by decide)) rfl rfl (Nat.le_of_ble_eq_true rfl) ⟨Nat.le_refl _, Nat.le_refl _⟩ ?_
          refine aw_istore_n dX6_next_66 (by decide) rfl ?_
          refine aw_iload_n dX6_next_67 rfl ?_
          refine aw_iconst (v := (-1)) dX6_next_68 rfl ?_
          refine aw_icmp_ne (tgt := 80) dX6_next_69 rfl (fun c69 => ?_) (fun c69 => ?_)
          · skip
            refine aw_iload_n dX6_next_80 rfl ?_
            refine aw_cS dX6_next_81 kX6_194 mX6_isLetter (sX6_isLetter) (Nat.le_of_ble_eq_true rfl) rfl rfl (Nat.le_of_ble_eq_true rfl) ⟨Nat.le_refl _, Nat.le_refl _⟩ ?_
            refine aw_if_eq (tgt := 94) dX6_next_84 rfl (fun c84 => ?_) (fun c84 => ?_)
            · skip
              refine aw_iload_n dX6_next_94 rfl ?_
              refine aw_cS dX6_next_95 kX6_200 mX6_isDigit (sX6_isDigit) (Nat.le_of_ble_eq_true rfl) rfl rfl (Nat.le_of_ble_eq_true rfl) ⟨Nat.le_refl _, Nat.le_refl _⟩ ?_
              refine aw_if_eq (tgt := 108) dX6_next_98 rfl (fun c98 => ?_) (fun c98 => ?_)
              · skip
                refine aw_aload_n dX6_next_108 rfl ?_
                refine aw_iload_n dX6_next_109 rfl ?_
                refine aw_bipush (v := 59) dX6_next_110 rfl ?_
                refine aw_icmp_ne (tgt := 119) dX6_next_112 rfl (fun c112 => ?_) (fun c112 => ?_)
                · skip
                  refine aw_iconst (v := 4) dX6_next_119 rfl ?_
                  refine aw_putI dX6_next_120 fX6_62 hX.rdr.1 (hX.lt (by decide)) rfl rfl ?_
                  refine aw_aload_n dX6_next_123 rfl ?_
                  refine aw_dup dX6_next_124 rfl ?_
                  refine aw_getI dX6_next_125 fX6_56 hX.rdr.1 (hX.lt (by decide)) rfl ?_
                  refine AW.top ((upI_n (Or.inr (by decide))).trans h63) ?_
                  refine aw_iconst (v := 1) dX6_next_128 rfl ?_
                  refine aw_iadd dX6_next_129 ?_
                  refine AW.top (y := nI (t + i + 1)) (nI_sum _ 1) ?_
                  refine aw_putI dX6_next_130 fX6_56 hX.rdr.1 (hX.lt (by decide)) rfl rfl ?_
                  refine aw_vret q rfl dX6_next_133 ⟨Nat.le_refl _, Nat.le_refl _⟩ ?_
                  refine ⟨rfl, rfl, rfl, rfl, (hF3.put (by omega)).put (by omega), NxL.rf, ?_⟩
                  rw [etk, show tokAt T s (t + i) = tokX T s (t + i) from (if_neg c69).trans ((if_neg (by rw [bI0.mp c84]; decide)).trans (if_neg (by rw [bI0.mp c98]; decide)))]
                  refine ⟨(if_neg (by decide)).trans ((if_neg (by decide)).trans hT3), (upI_n (Or.inr (by decide))).trans ((upI_n (Or.inr (by decide))).trans hs3), (upI_n (Or.inr (by decide))).trans ((upI_n (Or.inr (by decide))).trans h83), upI_s, (upI_n (Or.inr (by decide))).trans (upI_s.trans ?_), fun z => absurd z tokX_k.1, fun z => absurd z tokX_k.2⟩
                  show _ = cTk (if tb T s (t + i) = 59 then 4 else 1)
                  rw [if_neg c112]
                  rfl
                · skip
                  refine aw_iconst (v := 3) dX6_next_115 rfl ?_
                  refine aw_goto (tgt := 120) dX6_next_116 rfl ?_
                  refine aw_putI dX6_next_120 fX6_62 hX.rdr.1 (hX.lt (by decide)) rfl rfl ?_
                  refine aw_aload_n dX6_next_123 rfl ?_
                  refine aw_dup dX6_next_124 rfl ?_
                  refine aw_getI dX6_next_125 fX6_56 hX.rdr.1 (hX.lt (by decide)) rfl ?_
                  refine AW.top ((upI_n (Or.inr (by decide))).trans h63) ?_
                  refine aw_iconst (v := 1) dX6_next_128 rfl ?_
                  refine aw_iadd dX6_next_129 ?_
                  refine AW.top (y := nI (t + i + 1)) (nI_sum _ 1) ?_
                  refine aw_putI dX6_next_130 fX6_56 hX.rdr.1 (hX.lt (by decide)) rfl rfl ?_
                  refine aw_vret q rfl dX6_next_133 ⟨Nat.le_refl _, Nat.le_refl _⟩ ?_
                  refine ⟨rfl, rfl, rfl, rfl, (hF3.put (by omega)).put (by omega), NxL.rf, ?_⟩
                  rw [etk, show tokAt T s (t + i) = tokX T s (t + i) from (if_neg c69).trans ((if_neg (by rw [bI0.mp c84]; decide)).trans (if_neg (by rw [bI0.mp c98]; decide)))]
                  refine ⟨(if_neg (by decide)).trans ((if_neg (by decide)).trans hT3), (upI_n (Or.inr (by decide))).trans ((upI_n (Or.inr (by decide))).trans hs3), (upI_n (Or.inr (by decide))).trans ((upI_n (Or.inr (by decide))).trans h83), upI_s, (upI_n (Or.inr (by decide))).trans (upI_s.trans ?_), fun z => absurd z tokX_k.1, fun z => absurd z tokX_k.2⟩
                  show _ = cTk (if tb T s (t + i) = 59 then 4 else 1)
                  rw [if_pos c112]
                  rfl
              · skip
                refine aw_aload_n dX6_next_101 rfl ?_
                refine aw_eV dX6_next_102 kX6_203 mX6_nextNumber (sX6_nextNumber hX hT3 hs3 hs9 h63 h83 (by omega)) (Nat.le_of_ble_eq_true rfl) hX.rdr.1 ⟨by decide, rfl⟩ (hX.lt (by decide)) rfl rfl (Nat.le_of_ble_eq_true rfl) ⟨Nat.le_refl _, Nat.le_refl _⟩ (fun J2 hq => ?_)
                obtain ⟨n1, n3, n4, n5, n0⟩ := hq
                refine aw_goto (tgt := 133) dX6_next_105 rfl ?_
                refine aw_vret q rfl dX6_next_133 ⟨Nat.le_refl _, Nat.le_refl _⟩ ?_
                refine ⟨rfl, rfl, rfl, rfl, hF3.tr n1, NxL.rf, ?_⟩
                rw [etk, show tokAt T s (t + i) = tokN T s (t + i) from (if_neg c69).trans ((if_neg (by rw [bI0.mp c84]; decide)).trans (if_pos (bI1.mp c98)))]
                exact ⟨(n1.1 480 (by decide)).trans hT3, n1.g5.trans hs3, n0, n3, n4, fun z => absurd z tokN_k, n5⟩
            · skip
              refine aw_aload_n dX6_next_87 rfl ?_
              refine aw_hV dX6_next_88 kX6_197 mX6_nextWord (sX6_nextWord hX hT3 hs3 hs9 h63 h83 (by omega) hKw) (Nat.le_of_ble_eq_true rfl) hX.rdr.1 ⟨by decide, rfl⟩ (hX.lt (by decide)) rfl rfl (Nat.le_of_ble_eq_true rfl) ⟨Nat.le_refl _, Nat.le_refl _⟩ (fun J2 M2 hq => ?_)
              obtain ⟨n1, n2, n3, n4, n5, n0⟩ := hq
              refine aw_goto (tgt := 133) dX6_next_91 rfl ?_
              refine aw_vret q rfl dX6_next_133 ⟨Nat.le_refl _, Nat.le_refl _⟩ ?_
              refine ⟨rfl, rfl, rfl, rfl, hF3.tr n1, n2, ?_⟩
              rw [etk, show tokAt T s (t + i) = tokW T s (t + i) from (if_neg c69).trans (if_pos (bI1.mp c84))]
              exact ⟨(n1.1 480 (by decide)).trans hT3, n1.g5.trans hs3, n0, n3, n4, n5, fun z => absurd z tokW_k⟩
          · skip
            refine aw_aload_n dX6_next_72 rfl ?_
            refine aw_iconst (v := 0) dX6_next_73 rfl ?_
            refine aw_putI dX6_next_74 fX6_62 hX.rdr.1 (hX.lt (by decide)) rfl rfl ?_
            refine aw_goto (tgt := 133) dX6_next_77 rfl ?_
            refine aw_vret q rfl dX6_next_133 ⟨Nat.le_refl _, Nat.le_refl _⟩ ?_
            refine ⟨rfl, rfl, rfl, rfl, hF3.put (by omega), NxL.rf, ?_⟩
            rw [etk, show tokAt T s (t + i) = tokE (t + i) from if_pos c69]
            exact ⟨(if_neg (by decide)).trans hT3, (upI_n (Or.inr (by decide))).trans hs3, (upI_n (Or.inr (by decide))).trans h83, (upI_n (Or.inr (by decide))).trans h63, upI_s, fun z => absurd (show (0 : Nat) = 2 from z) (by decide), fun z => absurd (show (0 : Nat) = 3 from z) (by decide)⟩
        · have hbt : isSpc (tb T s (t + i)) = true := by unfold isSpc; rw [decide_eq_true c34, Bool.true_or]
          have hgt := runT_gt hbt (by decide)
          have hst := runT_t hbt (by decide)
          rw [hr] at hgt
          have hlt : i < runT isSpc T s t - t := by omega
          refine aw_aload_n dX6_next_37 rfl ?_
          refine aw_dup dX6_next_38 rfl ?_
          refine aw_getI dX6_next_39 fX6_56 hX.rdr.1 (hX.lt (by decide)) rfl ?_
          refine AW.top ha ?_
          refine aw_iconst (v := 1) dX6_next_42 rfl ?_
          refine aw_iadd dX6_next_43 ?_
          refine AW.top (y := nI (t + (i + 1))) (nI_sum _ 1) ?_
          refine aw_putI dX6_next_44 fX6_56 hX.rdr.1 (hX.lt (by decide)) rfl rfl ?_
          refine aw_goto (tgt := 0) dX6_next_47 rfl ?_
          refine ih hlt _ (hF.put (by omega)) upI_s ?_
          rw [← hr, hst]
          rfl
  exact loop 0 (Nat.zero_le _) I NxF.rf h6 rfl
end ClsS
