/-! the class's reader: a text; load -/
def RtF (I J : MI) (L M : ML) : Prop := (∀ a, a ≠ 479 → (a < 35 ∨ 69 ≤ a) → J a = I a) ∧ J 479 2 = I 479 2 ∧ ∀ a, a ≠ 479 → (a < 35 ∨ 69 ≤ a) → M a = L a
def RtD (I J : MI) (L M : ML) (r : PRs) (b : Int32) : Prop := RtF I J L M ∧ FxS J 35 ∧ ((b = 0 ∧ ∃ e, r = .inl e ∧ J 479 3 = nI e.1 ∧ J 479 4 = nI e.2) ∨ (b = 1 ∧ ∃ p, r = .inr p ∧ J 479 3 = 0 ∧ J 479 4 = -1 ∧ CtS J M 35 p.2.1 p.2.2 ∧ Cn p.2.1))
def RtP (z n : Nat) (sh : Shp) (I : MI) (L : ML) (r : PRs) : PoT := fun v z' n' sh' J M => ∃ b, v = some (.int b) ∧ z' = z ∧ n' = n ∧ sh' = sh ∧ RtD I J L M r b
section Rts
variable {I J I0 : MI} {L M L0 : ML} {T : Nat → Int32} {s z n : Nat} {sh : Shp} {p : PSt} {r : PRs}
theorem RtF.of (h7 : ∀ a, a ≠ 479 → (a < 35 ∨ 69 ≤ a) → J a = I a) (h2 : J 479 2 = I 479 2) {K : MI} {M : ML} (h : RcF J K L M) : RtF I K L M := ⟨fun a a1 a2 => (h.1 a a1 a2).trans (h7 a a1 a2), (h.2.1 2 (Or.inl rfl)).trans h2, h.2.2⟩
theorem RtP.fail {e : Nat × Nat} (hF : RtF I J L M) (hX : FxS J 35) (hr : r = .inl e) (h3 : J 479 3 = nI e.1) (h4 : J 479 4 = nI e.2) : RtP z n sh I L r (some (.int 0)) z n sh J M := ⟨0, rfl, rfl, rfl, rfl, hF, hX, Or.inl ⟨rfl, e, hr, h3, h4⟩⟩
theorem RtP.good (hF : RtF I J L M) (hr : r = .inr p) (h3 : J 479 3 = 0) (h4 : J 479 4 = -1) (hC : CtS J M 35 p.2.1 p.2.2) (hN : Cn p.2.1) : RtP z n sh I L r (some (.int 1)) z n sh J M := ⟨1, rfl, rfl, rfl, rfl, hF, hC.1, Or.inr ⟨rfl, p, hr, h3, h4, hC, hN⟩⟩
theorem RtP.ms {k : Tk} (h7 : ∀ a, a ≠ 479 → (a < 35 ∨ 69 ≤ a) → I0 a = I a) (h2 : I0 479 2 = I 479 2) (hG : RcG I0 J L M) (hX : FxS J 35) (hr : r = pBad k 2) : RtP z n sh I L r (some (.int 0)) z n sh (flC J (if k.2.2.1 = 1 then 1 else 2) k.1) M := by
  have e : (if k.2.2.1 = 1 then 1 else 2 : Int32) = nI (if k.2.2.1 = 1 then 1 else 2) := by split <;> rfl
  rw [e]
  refine RtP.fail (RtF.of h7 h2 (hG.1.tr RcF.fl)) (hX.fr (fun a ha => (upI_row2 (by omega)).trans (upI_row2 (by omega)))) hr ?_ upI_s
  exact (upI_n (Or.inr (by decide))).trans upI_s
theorem sign_y (hX : IsX n sh) (hP : Pc I L T s p) (hs9 : s ≤ 900) (h4 : p.1.2.2.1 = 4) : CM yX6_readSign cX6_readSign 1 (Option.some .boolean) 4 0 0 [.ref 479] z n sh I L (Eh (some (.int (bI true))) (fun J M => NxF I J ∧ NxL L M ∧ AtC J M T s (nx T s p.1)) z n sh) := by
  have h := sX6_readSign (z := z) hX hP.1 hP.2.1.2.2 hP.2.1.2.1 hs9 hP.2.2.2.1
  rw [if_pos h4] at h
  exact h
theorem sign_n (hX : IsX n sh) (hP : Pc I L T s p) (hs9 : s ≤ 900) (h4 : ¬ p.1.2.2.1 = 4) : CM yX6_readSign cX6_readSign 1 (Option.some .boolean) 4 0 0 [.ref 479] z n sh I L (Pst (some (.int (bI false))) z n sh (flC I (if p.1.2.2.1 = 1 then 1 else 2) p.1.1) L) := by
  have h := sX6_readSign (z := z) hX hP.1 hP.2.1.2.2 hP.2.1.2.1 hs9 hP.2.2.2.1
  rw [if_neg h4] at h
  exact h
theorem plain_cn {R : Nat → Int32} : Cn (mPlain R) ∧ nLe (mPlain R) = 0 := by
  have h : PI (fun _ => 0) 0 (tok (fun _ => 0) 0 0, mPlain R, fun _ => 0) := PI.plain
  refine ⟨PG.cn h.2.1 h.2.2.1, ?_⟩
  unfold nLe
  rw [mPlain_0 (by decide) (by decide) (by decide) (by decide) (by decide)]
  rfl
/-- a text's start -/
def RtS (I : MI) (L : ML) (T : Nat → Int32) (s : Nat) (R : Nat → Int32) (Q : Nat → Int64) (J : MI) : Prop := J 480 = T ∧ J 479 5 = nI s ∧ J 479 6 = nI 0 ∧ J 479 3 = 0 ∧ J 479 4 = -1 ∧ J 479 2 = I 479 2 ∧ (∀ a, a ≠ 479 → (a < 35 ∨ 69 ≤ a) → J a = I a) ∧ CtS J L 35 (mPlain R) Q
theorem RtS.mk {R : Nat → Int32} {Q : Nat → Int64} (hT : I 480 = T) (hF : FxS I 35) : RtS I L T s R Q (upI (upI (upI (upI (clM I 35) 479 5 (nI s)) 479 6 0) 479 3 0) 479 4 (-1)) := by
  have e4 : ∀ a, a ≠ 479 → upI (upI (upI (upI (clM I 35) 479 5 (nI s)) 479 6 0) 479 3 0) 479 4 (-1) a = clM I 35 a := fun a ha => by rw [upI_row2 ha, upI_row2 ha, upI_row2 ha, upI_row2 ha]
  have e5 : ∀ a, a ≠ 479 → (a < 35 ∨ 69 ≤ a) → upI (upI (upI (upI (clM I 35) 479 5 (nI s)) 479 6 0) 479 3 0) 479 4 (-1) a = I a := fun a a1 a2 => (e4 a a1).trans (clM_n (by omega) (by omega) (by omega) (by omega))
  refine ⟨(e5 480 (by decide) (by decide)).trans hT, ?_, ?_, ?_, upI_s, ?_, e5, ?_⟩
  · rw [upI_n (Or.inr (by decide)), upI_n (Or.inr (by decide)), upI_n (Or.inr (by decide)), upI_s]
  · rw [upI_n (Or.inr (by decide)), upI_n (Or.inr (by decide)), upI_s]
    rfl
  · rw [upI_n (Or.inr (by decide)), upI_s]
  · rw [upI_n (Or.inr (by decide)), upI_n (Or.inr (by decide)), upI_n (Or.inr (by decide)), upI_n (Or.inr (by decide))]
    exact congrFun (clM_n (by decide) (by decide) (by decide) (by decide)) 2
  · exact (clM_ct hF).fr plain_cn.1 (fun a ha => e4 _ (by omega)) (fun _ _ => rfl)
theorem RtS.pc {R : Nat → Int32} {Q : Nat → Int64} (h : RtS I L T s R Q J) {K : MI} {M : ML} (hKw : KwO L) (hq : NxF J K ∧ NxL L M ∧ AtC K M T s (tok T s 0)) : Pc K M T s (tok T s 0, mPlain R, Q) :=
  ⟨hq.2.2, TkO.tok (Nat.zero_le _), h.2.2.2.2.2.2.2.fr plain_cn.1 (fun a ha => hq.1.1 _ (by omega)) (fun a ha => hq.2.1 _ (by omega)), fun i hi => by rw [hq.2.1 481 (by decide)]; exact hKw i hi, plain_cn.1, plain_cn.2⟩
end Rts
section ARt
variable {X : Cx} {g : Gd} {own : String} {cc : ByteArray} {nL : Nat} {Bd : Nat × Nat × Nat} {E : En} {I : MI} {L : ML} {pc : Nat} {Lc : List (Option Value)} {st : List Value}
theorem aw_tV {idx ci b : Nat} {y : MethodName} {cc2 : ByteArray} {nL2 : Nat} {ret2 : Option FieldType} {np d : Nat} {As : List Value} {st0 : List Value} {r : PRs} (dg : decode cc pc = .ok (.invokevirtual idx, 3)) (hl : Cond.methodLink own idx y ∈ tblG) (hm : mV y cc2 nL2 ret2 np) (hM : CM y cc2 nL2 ret2 d 0 0 (.ref b :: As) E.1 E.2.1 E.2.2.1 I L (RtP E.1 E.2.1 E.2.2.1 I L r))
    (hd : d + 1 ≤ Bd.1) (hk : (E.2.2.1 b).1 = ci) (hci : ci < 12 ∧ clR ci = y.cls) (hb : b < E.2.1) (hst : st0 = As.reverse ++ .ref b :: st) (hn : As.length = np) (hw : (st.map fun v => v.category).sum ≤ 8) (hf : E.2.2.2.1 ≤ Bd.2.1 ∧ E.2.2.2.2 ≤ Bd.2.2)
    (k : ∀ v J M, RtD I J L M r v → AW X g own cc nL Bd E J M (pc + 3) Lc (.int v :: st)) : AW X g own cc nL Bd E I L pc Lc st0 :=
  aw_callV dg hl hm hM hd hk hci hb hst hn hw hf (fun v z n sh I3 L3 q => by
    obtain ⟨w, h1, h2, h3, h4, h5⟩ := q
    subst h1 h2 h3 h4
    exact k _ _ _ h5)
end ARt
section ClsS
variable {z n : Nat} {sh : Shp} {I : MI} {L : ML} {N : Nat → Int32} {Q : Nat → Int64}
set_option maxHeartbeats 4000000 in
set_option maxRecDepth 100000 in
theorem sX6_readText (hX : IsX n sh) {T : Nat → Int32} {s : Nat} (hs9 : s ≤ 900) (hT : I 480 = T) (hF : FxS I 35) (hKw : KwO L) {R : Nat → Int32} : CM yX6_readText cX6_readText 4 (Option.some .boolean) 7 0 0 [.ref 479, .ref 35, .int (nI s)] z n sh I L (RtP z n sh I L (pText T s 901 (tok T s 0, mPlain R, Q))) := by
  refine CM.go [some (.ref 479), some (.ref 35), some (.int (nI s)), none] rfl rfl (Nat.le_of_ble_eq_true rfl) (fun X g q => ?_)
  have loop : ∀ (J0 : MI), RtS I L T s R Q J0 → ∀ d i (p6 : PSt) (J : MI) (M : ML), i + d = 901 → Pc J M T s p6 → PI T s p6 → RcG J0 J L M → pText T s 901 (tok T s 0, mPlain R, Q) = pText T s d p6 → AW X g RX6 cX6_readText 4 (7, 0, 0) (z, n, sh, 0, 0) (J) (M) 30 [some (.ref 479), some (.ref 35), some (.int (nI s)), some (.int (nI i))] [] := by
    intro J0 hJ0 d
    obtain ⟨-, -, -, u3, u4, u2, u7, -⟩ := hJ0
    induction d with
    | zero =>
      intro i p6 J M hd hP6 hI6 hG6 hE
      refine aw_iload_n dX6_readText_30 rfl ?_
      refine aw_sipush (v := 900) dX6_readText_31 rfl ?_
      refine aw_icmp_gt (tgt := 67) dX6_readText_34 rfl (fun c34 => ?_) (fun c34 => ?_)
      · skip
        refine aw_iconst (v := 1) dX6_readText_67 rfl ?_
        refine aw_zret q rfl (Or.inr rfl) dX6_readText_68 ⟨Nat.le_refl _, Nat.le_refl _⟩ ?_
        exact RtP.good (RtF.of u7 u2 hG6.1) hE (hG6.2.1.trans u3) (hG6.2.2.trans u4) hP6.2.2.1 hP6.2.2.2.2.1
      · exact absurd ((nI_ltI (a := 900) (b := i) (by decide) (by omega)).mpr (by omega)) c34
    | succ d ih =>
      intro i p6 J M hd hP6 hI6 hG6 hE
      refine aw_iload_n dX6_readText_30 rfl ?_
      refine aw_sipush (v := 900) dX6_readText_31 rfl ?_
      refine aw_icmp_gt (tgt := 67) dX6_readText_34 rfl (fun c34 => ?_) (fun c34 => ?_)
      · exact absurd ((nI_ltI (a := 900) (b := i) (by decide) (by omega)).mp c34) (by omega)
      · skip
        refine aw_aload_n dX6_readText_37 rfl ?_
        refine aw_getI dX6_readText_38 fX6_62 hX.rdr.1 (hX.lt (by decide)) rfl ?_
        refine AW.top hP6.1.2.2.2.2.1 ?_
        refine aw_if_eq (tgt := 67) dX6_readText_41 rfl (fun c41 => ?_) (fun c41 => ?_)
        · rw [pT_0 ((cTk_0 _ hP6.2.1.2.2).mp c41)] at hE
          refine aw_iconst (v := 1) dX6_readText_67 rfl ?_
          refine aw_zret q rfl (Or.inr rfl) dX6_readText_68 ⟨Nat.le_refl _, Nat.le_refl _⟩ ?_
          exact RtP.good (RtF.of u7 u2 hG6.1) hE (hG6.2.1.trans u3) (hG6.2.2.trans u4) hP6.2.2.1 hP6.2.2.2.2.1
        · rw [pT_1 (fun q => c41 ((cTk_0 _ hP6.2.1.2.2).mpr q))] at hE
          refine aw_aload_n dX6_readText_44 rfl ?_
          refine aw_aload_n dX6_readText_45 rfl ?_
          refine aw_rV dX6_readText_46 kX6_65 mX6_readLine (sX6_readLine hX hs9 hP6 hI6) (Nat.le_of_ble_eq_true rfl) hX.rdr.1 ⟨by decide, rfl⟩ (hX.lt (by decide)) rfl rfl (Nat.le_of_ble_eq_true rfl) ⟨Nat.le_refl _, Nat.le_refl _⟩ (fun b7 J7 M7 hd7 => ?_)
          refine aw_if_eq (tgt := 59) dX6_readText_49 rfl (fun c49 => ?_) (fun c49 => ?_)
          · obtain ⟨hF7, hX7, e7, he7, hj7, hk7⟩ := hd7.no c49
            refine aw_iconst (v := 0) dX6_readText_59 rfl ?_
            refine aw_zret q rfl (Or.inl rfl) dX6_readText_60 ⟨Nat.le_refl _, Nat.le_refl _⟩ ?_
            exact RtP.fail (RtF.of u7 u2 (hG6.1.tr hF7)) hX7 (hE.trans (pB_l ((cLine_eq hI6).symm.trans (pB_l he7)))) hj7 hk7
          · obtain ⟨hH7, p7, he7, hP7⟩ := hd7.yes c49
            have hG7 := hG6.tr hH7
            by_cases h4 : p7.1.2.2.1 = 4
            · refine aw_aload_n dX6_readText_52 rfl ?_
              refine aw_hV dX6_readText_53 kX6_69 mX6_readSign (sign_y hX hP7 hs9 h4) (Nat.le_of_ble_eq_true rfl) hX.rdr.1 ⟨by decide, rfl⟩ (hX.lt (by decide)) rfl rfl (Nat.le_of_ble_eq_true rfl) ⟨Nat.le_refl _, Nat.le_refl _⟩ (fun J8 M8 hq8 => ?_)
              have hP8 := hP7.adv hq8
              have hG8 := hG7.tr (RcG.nx hq8)
              refine aw_if_ne (tgt := 61) dX6_readText_56 rfl (fun c56 => ?_) (fun c56 => ?_)
              · skip
                refine aw_iinc dX6_readText_61 rfl (ginc rfl) (by decide) rfl ?_
                refine aw_goto (tgt := 30) dX6_readText_64 rfl ?_
                have hl : pLine T s p6 = .inr (nx T s p7.1, p7.2.1, p7.2.2) := (cLine_eq hI6).symm.trans ((pB_r he7).trans (if_pos h4))
                exact ih (i + 1) _ _ _ (by omega) hP8 (pLine_in hI6 hl).1 hG8 (hE.trans (pB_r hl))
              · exact absurd c56 (by decide)
            · refine aw_aload_n dX6_readText_52 rfl ?_
              refine aw_cV dX6_readText_53 kX6_69 mX6_readSign (sign_n hX hP7 hs9 h4) (Nat.le_of_ble_eq_true rfl) hX.rdr.1 ⟨by decide, rfl⟩ (hX.lt (by decide)) rfl rfl (Nat.le_of_ble_eq_true rfl) ⟨Nat.le_refl _, Nat.le_refl _⟩ ?_
              refine aw_if_ne (tgt := 61) dX6_readText_56 rfl (fun c56 => ?_) (fun c56 => ?_)
              · exact absurd rfl c56
              · skip
                refine aw_iconst (v := 0) dX6_readText_59 rfl ?_
                refine aw_zret q rfl (Or.inl rfl) dX6_readText_60 ⟨Nat.le_refl _, Nat.le_refl _⟩ ?_
                exact RtP.ms u7 u2 hG7 hP7.2.2.1.1 (hE.trans (pB_l ((cLine_eq hI6).symm.trans ((pB_r he7).trans (if_neg h4)))))
  refine aw_aload_n dX6_readText_0 rfl ?_
  refine aw_cV dX6_readText_1 kX6_48 mX7_clear (sX7_clear hX.spr) (Nat.le_of_ble_eq_true rfl) hX.spr.k ⟨by decide, rfl⟩ hX.spr.b0 rfl rfl (Nat.le_of_ble_eq_true rfl) ⟨Nat.le_refl _, Nat.le_refl _⟩ ?_
  refine aw_aload_n dX6_readText_4 rfl ?_
  refine aw_iload_n dX6_readText_5 rfl ?_
  refine aw_putI dX6_readText_6 fX6_53 hX.rdr.1 (hX.lt (by decide)) rfl rfl ?_
  refine aw_aload_n dX6_readText_9 rfl ?_
  refine aw_iconst (v := 0) dX6_readText_10 rfl ?_
  refine aw_putI dX6_readText_11 fX6_56 hX.rdr.1 (hX.lt (by decide)) rfl rfl ?_
  refine aw_aload_n dX6_readText_14 rfl ?_
  refine aw_iconst (v := 0) dX6_readText_15 rfl ?_
  refine aw_putI dX6_readText_16 fX6_37 hX.rdr.1 (hX.lt (by decide)) rfl rfl ?_
  refine aw_aload_n dX6_readText_19 rfl ?_
  refine aw_iconst (v := (-1)) dX6_readText_20 rfl ?_
  refine aw_putI dX6_readText_21 fX6_41 hX.rdr.1 (hX.lt (by decide)) rfl rfl ?_
  refine AW.gen (RtS I L T s R Q) (RtS.mk hT hF) (fun J0 hJ0 => ?_)
  refine aw_aload_n dX6_readText_24 rfl ?_
  refine aw_hV dX6_readText_25 kX6_59 mX6_next (sX6_next hX hJ0.1 hJ0.2.1 hs9 hJ0.2.2.1 (Nat.zero_le _) hKw) (Nat.le_of_ble_eq_true rfl) hX.rdr.1 ⟨by decide, rfl⟩ (hX.lt (by decide)) rfl rfl (Nat.le_of_ble_eq_true rfl) ⟨Nat.le_refl _, Nat.le_refl _⟩ (fun J1 M1 hq1 => ?_)
  refine aw_iconst (v := 0) dX6_readText_28 rfl ?_
  refine aw_istore_n dX6_readText_29 (by decide) rfl ?_
  exact loop J0 hJ0 901 0 _ _ _ rfl (hJ0.pc hKw hq1) PI.plain (RcG.nx hq1) rfl
end ClsS
