/-! the class: rows of moves, looked up and filled -/
def ChF (I J : MI) : Prop := ∀ x, x < 487 ∨ 493 ≤ x → J x = I x
theorem ChF.rf {I : MI} : ChF I I := fun _ _ => rfl
theorem ChF.put {I J : MI} {a k : Nat} {v : Int32} (h : ChF I J) (ha : 487 ≤ a ∧ a < 493) : ChF I (upI J a k v) := fun x hx => (if_neg (by omega)).trans (h x hx)
theorem ChF.tr {I J K : MI} (h : ChF I J) (h2 : ChF J K) : ChF I K := fun x hx => (h2 x hx).trans (h x hx)
theorem ChF.ct {I J : MI} {L : ML} {N : Nat → Int32} {Q : Nat → Int64} (h : ChF I J) (hC : CtS I L 1 N Q) (hN : Cn N) : CtS J L 1 N Q := hC.fr hN (fun a ha => h _ (by omega)) (fun a ha => rfl)
theorem shl_d : ∀ n, n ≤ 8 → ((1 : Int32) <<< (nI n &&& 31)) - 1 = nI (2 ^ n - 1) := by decide +kernel
theorem nI_dn (S : Nat) : nI (S + 1) + Int32.ofInt (-1) = nI S := by
  rw [← nI_sum, Int32.add_assoc]
  exact Int32.add_zero _
theorem nI_le0 {S : Nat} (hS : S < 2 ^ 31) : nI S ≤ 0 ↔ S = 0 := by
  rw [show (0 : Int32) = nI 0 from rfl, nI_leI hS (by decide)]
  omega
theorem could_iset {N : Nat → Int32} {p : Nat} (hh : mHope N p = true) : (fun h => mFit N p h && (!decide ((0 : Int32) = 1) || mFree N h) && (!decide ((1 : Int32) = 1) || mTake N p (nI h))) = fun h => mCould N p h := by
  funext h
  unfold mCould
  rw [hh]
  simp
theorem oO {N : Nat → Int32} (hC : Co N) {p : Nat} (hp : p < nPo N) : N (80 + 18 * p + 4) = -1 ∨ ∃ h, h < nHo N ∧ N (80 + 18 * p + 4) = nI h := by
  rcases hC.1 p hp with w | ⟨h, w1, w2, -⟩
  · exact Or.inl w
  · exact Or.inr ⟨h, w1, w2⟩
section ClsS
variable {z n : Nat} {sh : Shp} {I : MI} {L : ML} {N : Nat → Int32} {Q : Nat → Int64}
set_option maxHeartbeats 4000000 in
set_option maxRecDepth 100000 in
theorem sX0_look (hX : IsX n sh) (hC : CtS I L 1 N Q) (hIv : Iv N)  : CM yX0_look cX0_look 4 (Option.none : Option FieldType) 4 0 0 [.ref 487, .ref 1] z n sh I L (Ef none (fun J => ChF I J ∧ ChA N J) z n sh L) := by
  refine CM.go [some (.ref 487), some (.ref 1), none, none] rfl rfl (Nat.le_of_ble_eq_true rfl) (fun X g q => ?_)
  have hO := hIv.ok
  have hN := hO.1
  have hR := hO.2.1
  have hB := hO.2.2.1
  have hE := hO.2.2.2
  have h8 := hN.p8
  have h10 := hN.h10
  have hS := hX.now
  have loop : ∀ i, i ≤ nPo N → ∀ a3 (J : MI), ChF I J → J 487 5 = nI (nPo N) → (∀ p, p < i → J 488 p = iset (fun h => mCould N p h) (nHo N) ∧ J 489 p = N (80 + 18 * p + 4)) → AW X g RX0 cX0_look 4 (4, 0, 0) (z, n, sh, 0, 0) (J) (L) 10 [some (.ref 487), some (.ref 1), some (.int (nI i)), a3] [] := by
    refine up_loop (fun i hi ih a3 J hF h5 hA => ?_)
    have hJ : CtS J L 1 N Q := hF.ct hC hN
    refine aw_iload_n dX0_look_10 rfl ?_
    refine aw_aload_n dX0_look_11 rfl ?_
    refine aw_getI dX0_look_12 fX0_64 hX.cha.1 (hX.lt (by decide)) rfl ?_
    refine AW.top h5 ?_
    refine aw_icmp_ge (tgt := 65) dX0_look_15 rfl (fun c15 => ?_) (fun c15 => ?_)
    · have e := ge_t rfl (by omega) hi c15
      subst e
      refine aw_vret q rfl dX0_look_65 ⟨Nat.le_refl _, Nat.le_refl _⟩ ?_
      exact ⟨rfl, rfl, rfl, rfl, rfl, hF, h5, hA⟩
    · have hlt := ge_f rfl (by omega) hi c15
      refine aw_aload_n dX0_look_18 rfl ?_
      refine aw_getR (b := 1 + 12) dX0_look_19 fX0_65 hS.k hS.b0 rfl hS.r1 ?_
      refine aw_iload_n dX0_look_22 rfl ?_
      refine aw_houses (p := i) hS rfl (by omega) dX0_look_23 ?_
      refine aw_astore_n dX0_look_24 (by decide) rfl ?_
      refine aw_aload_n dX0_look_25 rfl ?_
      refine aw_getR (b := 488) dX0_look_26 fX0_9 hX.cha.1 (hX.lt (by decide)) rfl hX.cha.2.1.1 ?_
      refine aw_iload_n dX0_look_29 rfl ?_
      refine aw_aload_n dX0_look_30 rfl ?_
      refine aw_cV dX0_look_31 kX0_69 mX3_isAble (sX3_isAble hS hJ hN hlt hB) (Nat.le_of_ble_eq_true rfl) (hS.po (by omega)) ⟨by decide, rfl⟩ (hS.pb (by omega)) rfl rfl (Nat.le_of_ble_eq_true rfl) ⟨Nat.le_refl _, Nat.le_refl _⟩ ?_
      refine aw_if_eq (tgt := 47) dX0_look_34 rfl (fun c34 => ?_) (fun c34 => ?_)
      · refine aw_iconst (v := 0) dX0_look_47 rfl ?_
        refine aw_iastN (k := i) dX0_look_48 hX.cha.2.2.1.1 (hX.lt (by decide)) hX.cha.2.2.2.1 rfl (by omega) (by decide) ?_
        refine aw_aload_n dX0_look_49 rfl ?_
        refine aw_getR (b := 489) dX0_look_50 fX0_15 hX.cha.1 (hX.lt (by decide)) rfl hX.cha.2.1.2.1 ?_
        refine aw_iload_n dX0_look_53 rfl ?_
        refine aw_aload_n dX0_look_54 rfl ?_
        refine aw_getI dX0_look_55 fX0_78 (hS.po (by omega)) (hS.pb (by omega)) rfl ?_
        refine AW.top ((congrFun (if_neg (by omega)) _).trans (hJ.pf h8 (p := i) (w := 4) hlt (by decide) (by decide) (by decide))) ?_
        refine aw_iastN (k := i) dX0_look_58 hX.cha.2.2.1.2.1 (hX.lt (by decide)) hX.cha.2.2.2.2.1 rfl (by omega) (by decide) ?_
        refine aw_iinc dX0_look_59 rfl (ginc rfl) (by decide) rfl ?_
        refine aw_goto (tgt := 10) dX0_look_62 rfl ?_
        have hcv : iset (fun h => mCould N i h) (nHo N) = 0 := iset_no (by omega) (fun h hh => by unfold mCould; rw [bI0.mp c34]; rfl)
        refine ih hlt _ _ ((hF.put (by omega)).put (by omega)) ((upI_n (Or.inl (by decide))).trans ((upI_n (Or.inl (by decide))).trans h5)) (fun p hp => ?_)
        by_cases e : p = i
        · subst e
          exact ⟨(upI_n (Or.inl (by decide))).trans (upI_s.trans hcv.symm), upI_s⟩
        · rw [upI_n (Or.inl (by decide)), upI_n (Or.inr e), upI_n (Or.inr e), upI_n (Or.inl (by decide))]
          exact hA p (by omega)
      · refine aw_aload_n dX0_look_37 rfl ?_
        refine aw_aload_n dX0_look_38 rfl ?_
        refine aw_iconst (v := 0) dX0_look_39 rfl ?_
        refine aw_iconst (v := 1) dX0_look_40 rfl ?_
        refine aw_cV dX0_look_41 kX0_74 mX7_homesThatFit (sX7_homesThatFit hS hJ hO hlt (Or.inl rfl) (Or.inr rfl)) (Nat.le_of_ble_eq_true rfl) hS.k ⟨by decide, rfl⟩ hS.b0 rfl rfl (Nat.le_of_ble_eq_true rfl) ⟨Nat.le_refl _, Nat.le_refl _⟩ ?_
        refine AW.top (y := iset (fun h => mCould N i h) (nHo N)) (by rw [could_iset (by have := bI1.mp c34; exact this)]) ?_
        refine aw_goto (tgt := 48) dX0_look_44 rfl ?_
        refine aw_iastN (k := i) dX0_look_48 hX.cha.2.2.1.1 (hX.lt (by decide)) hX.cha.2.2.2.1 rfl (by omega) (by decide) ?_
        refine aw_aload_n dX0_look_49 rfl ?_
        refine aw_getR (b := 489) dX0_look_50 fX0_15 hX.cha.1 (hX.lt (by decide)) rfl hX.cha.2.1.2.1 ?_
        refine aw_iload_n dX0_look_53 rfl ?_
        refine aw_aload_n dX0_look_54 rfl ?_
        refine aw_getI dX0_look_55 fX0_78 (hS.po (by omega)) (hS.pb (by omega)) rfl ?_
        refine AW.top ((congrFun (if_neg (by omega)) _).trans (hJ.pf h8 (p := i) (w := 4) hlt (by decide) (by decide) (by decide))) ?_
        refine aw_iastN (k := i) dX0_look_58 hX.cha.2.2.1.2.1 (hX.lt (by decide)) hX.cha.2.2.2.2.1 rfl (by omega) (by decide) ?_
        refine aw_iinc dX0_look_59 rfl (ginc rfl) (by decide) rfl ?_
        refine aw_goto (tgt := 10) dX0_look_62 rfl ?_
        refine ih hlt _ _ ((hF.put (by omega)).put (by omega)) ((upI_n (Or.inl (by decide))).trans ((upI_n (Or.inl (by decide))).trans h5)) (fun p hp => ?_)
        by_cases e : p = i
        · subst e
          exact ⟨(upI_n (Or.inl (by decide))).trans upI_s, upI_s⟩
        · rw [upI_n (Or.inl (by decide)), upI_n (Or.inr e), upI_n (Or.inr e), upI_n (Or.inl (by decide))]
          exact hA p (by omega)
  refine aw_aload_n dX0_look_0 rfl ?_
  refine aw_aload_n dX0_look_1 rfl ?_
  refine aw_getI dX0_look_2 fX0_61 hS.k hS.b0 rfl ?_
  refine AW.top (hC.np.trans hN.p) ?_
  refine aw_putI dX0_look_5 fX0_64 hX.cha.1 (hX.lt (by decide)) rfl rfl ?_
  refine aw_iconst (v := 0) dX0_look_8 rfl ?_
  refine aw_istore_n dX0_look_9 (by decide) rfl ?_
  exact loop 0 (Nat.zero_le _) none _ (ChF.rf.put (by omega)) upI_s (fun p hp => absurd hp (Nat.not_lt_zero p))
set_option maxHeartbeats 4000000 in
set_option maxRecDepth 100000 in
theorem sX0_fillFollow (hX : IsX n sh) (hN : Cn N) (hCo : Co N) (hA : ChA N I)  : CM yX0_fillFollow cX0_fillFollow 3 (Option.none : Option FieldType) 3 0 0 [.ref 487] z n sh I L (Ef none (fun J => (∀ x, x ≠ 490 → J x = I x) ∧ FoA N J 0) z n sh L) := by
  refine CM.go [some (.ref 487), none, none] rfl rfl (Nat.le_of_ble_eq_true rfl) (fun X g q => ?_)
  have h8 := hN.p8
  have h10 := hN.h10
  have out : ∀ S, S < 2 ^ nPo N → ∀ a2 (J : MI), (∀ x, x ≠ 490 → J x = I x) → FoA N J S → AW X g RX0 cX0_fillFollow 3 (3, 0, 0) (z, n, sh, 0, 0) (J) (L) 9 [some (.ref 487), some (.int (nI S)), a2] [] := by
    intro S
    induction S with
    | zero =>
      intro _ a2 J hF hFo
      refine aw_iload_n dX0_fillFollow_9 rfl ?_
      refine aw_if_le (tgt := 65) dX0_fillFollow_10 rfl (fun c10 => ?_) (fun c10 => ?_)
      · skip
        refine aw_vret q rfl dX0_fillFollow_65 ⟨Nat.le_refl _, Nat.le_refl _⟩ ?_
        exact ⟨rfl, rfl, rfl, rfl, rfl, hF, hFo⟩
      · exact absurd (by decide) c10
    | succ S ihS =>
      intro hS1 a2 J hF hFo
      have hS8 := p2_256 h8 hS1
      have inn : ∀ i, i ≤ nPo N → ∀ (J : MI), (∀ x, x ≠ 490 → J x = I x) → FoA N J (S + 1) → (∀ p, p < i → (S + 1).testBit p = true → J 490 ((S + 1) * 8 + p) = nI (lgF N (8 - pcn (S + 1)) (S + 1) (N (80 + 18 * p + 4))).length) → AW X g RX0 cX0_fillFollow 3 (3, 0, 0) (z, n, sh, 0, 0) (J) (L) 15 [some (.ref 487), some (.int (nI (S + 1))), some (.int (nI i))] [] := by
        refine up_loop (fun i hi ih J hF hFo hfi => ?_)
        have hA2 : ChA N J := hA.cg (congrFun (hF 487 (by decide)) 5) (hF 488 (by decide)) (hF 489 (by decide))
        refine aw_iload_n dX0_fillFollow_15 rfl ?_
        refine aw_aload_n dX0_fillFollow_16 rfl ?_
        refine aw_getI dX0_fillFollow_17 fX0_64 hX.cha.1 (hX.lt (by decide)) rfl ?_
        refine AW.top hA2.1 ?_
        refine aw_icmp_ge (tgt := 59) dX0_fillFollow_20 rfl (fun c20 => ?_) (fun c20 => ?_)
        · have e := ge_t rfl (by omega) hi c20
          subst e
          refine aw_iinc dX0_fillFollow_59 rfl (nI_dn S) (by decide) rfl ?_
          refine aw_goto (tgt := 9) dX0_fillFollow_62 rfl ?_
          refine ihS (by omega) _ J hF (fun T t1 t2 p t3 t4 => ?_)
          by_cases e : T = S + 1
          · subst e
            exact hfi p t3 t4
          · exact hFo T (by omega) t2 p t3 t4
        · have hlt := ge_f rfl (by omega) hi c20
          refine aw_iload_n dX0_fillFollow_23 rfl ?_
          refine aw_iconst (v := 1) dX0_fillFollow_24 rfl ?_
          refine aw_iload_n dX0_fillFollow_25 rfl ?_
          refine aw_ishl dX0_fillFollow_26 ?_
          refine AW.top (shl_8 i (by omega)) ?_
          refine aw_iand dX0_fillFollow_27 ?_
          refine aw_if_eq (tgt := 53) dX0_fillFollow_28 rfl (fun c28 => ?_) (fun c28 => ?_)
          · refine aw_iinc dX0_fillFollow_53 rfl (ginc rfl) (by decide) rfl ?_
            refine aw_goto (tgt := 15) dX0_fillFollow_56 rfl ?_
            have hb : (S + 1).testBit i = false := (bt_and8 hS8 (by omega)).mp c28
            exact ih hlt J hF hFo (fun p hp hpb => by
              by_cases e : p = i
              · subst e; rw [hb] at hpb; cases hpb
              · exact hfi p (by omega) hpb)
          · refine aw_aload_n dX0_fillFollow_31 rfl ?_
            refine aw_getR (b := 490) dX0_fillFollow_32 fX0_18 hX.cha.1 (hX.lt (by decide)) rfl hX.cha.2.1.2.2.1 ?_
            refine aw_iload_n dX0_fillFollow_35 rfl ?_
            refine aw_bipush (v := 8) dX0_fillFollow_36 rfl ?_
            refine aw_imul dX0_fillFollow_38 ?_
            refine AW.top (nI_prod _ 8) ?_
            refine aw_iload_n dX0_fillFollow_39 rfl ?_
            refine aw_iadd dX0_fillFollow_40 ?_
            refine AW.top (y := nI ((S + 1) * 8 + i)) (nI_sum _ _) ?_
            refine aw_aload_n dX0_fillFollow_41 rfl ?_
            refine aw_aload_n dX0_fillFollow_42 rfl ?_
            refine aw_getR (b := 489) dX0_fillFollow_43 fX0_15 hX.cha.1 (hX.lt (by decide)) rfl hX.cha.2.1.2.1 ?_
            refine aw_iload_n dX0_fillFollow_46 rfl ?_
            refine aw_ialdN (k := i) dX0_fillFollow_47 hX.cha.2.2.1.2.1 (hX.lt (by decide)) hX.cha.2.2.2.2.1 rfl (by omega) (by decide) ?_
            refine AW.top (hA2.2 i hlt).2 ?_
            refine aw_iload_n dX0_fillFollow_48 rfl ?_
            refine aw_cV dX0_fillFollow_49 kX0_53 mX0_longestFrom (sX0_longestFromO hX hN hA2 hS1 (oO hCo hlt) rfl hFo) (Nat.le_of_ble_eq_true rfl) hX.cha.1 ⟨by decide, rfl⟩ (hX.lt (by decide)) rfl rfl (Nat.le_of_ble_eq_true rfl) ⟨Nat.le_refl _, Nat.le_refl _⟩ ?_
            refine aw_iastN (k := ((S + 1) * 8 + i)) dX0_fillFollow_52 hX.cha.2.2.1.2.2.1 (hX.lt (by decide)) hX.cha.2.2.2.2.2.1 rfl (by omega) (by decide) ?_
            refine aw_iinc dX0_fillFollow_53 rfl (ginc rfl) (by decide) rfl ?_
            refine aw_goto (tgt := 15) dX0_fillFollow_56 rfl ?_
            refine ih hlt _ (fun x hx => (if_neg hx).trans (hF x hx)) (fun T t1 t2 p t3 t4 => (upI_n (Or.inr (by omega))).trans (hFo T t1 t2 p t3 t4)) (fun p hp hpb => ?_)
            by_cases e : p = i
            · subst e; exact upI_s
            · exact (upI_n (Or.inr (by omega))).trans (hfi p (by omega) hpb)
      refine aw_iload_n dX0_fillFollow_9 rfl ?_
      refine aw_if_le (tgt := 65) dX0_fillFollow_10 rfl (fun c10 => ?_) (fun c10 => ?_)
      · exact absurd ((nI_le0 (by omega)).mp c10) (by omega)
      · skip
        refine aw_iconst (v := 0) dX0_fillFollow_13 rfl ?_
        refine aw_istore_n dX0_fillFollow_14 (by decide) rfl ?_
        exact inn 0 (Nat.zero_le _) J hF hFo (fun p hp => absurd hp (Nat.not_lt_zero p))
  refine aw_iconst (v := 1) dX0_fillFollow_0 rfl ?_
  refine aw_aload_n dX0_fillFollow_1 rfl ?_
  refine aw_getI dX0_fillFollow_2 fX0_64 hX.cha.1 (hX.lt (by decide)) rfl ?_
  refine AW.top hA.1 ?_
  refine aw_ishl dX0_fillFollow_5 ?_
  refine aw_iconst (v := 1) dX0_fillFollow_6 rfl ?_
  refine aw_isub dX0_fillFollow_7 ?_
  refine AW.top (shl_d _ h8) ?_
  refine aw_istore_n dX0_fillFollow_8 (by decide) rfl ?_
  exact out _ (by have := Nat.two_pow_pos (nPo N); omega) none I (fun _ _ => rfl) (fun T t1 t2 => by omega)
end ClsS
