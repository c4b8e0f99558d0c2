/-! the class: the longest row -/
theorem row_next {N : Nat → Int32} {S h i : Nat} (hS8 : S < 256) (hpS : pcn S = i) (h8 : nPo N ≤ 8) (hh : h < 2 ^ 31) (hne : 0 < (lgF N (8 - i) S (nI h)).length) : ∃ p, p < nPo N ∧ S.testBit p = false ∧ (lf1 N (8 - pcn S) S h p).length = (lgF N (8 - i) S (nI h)).length ∧ (∀ r, r < p → (lf1 N (8 - pcn S) S h r).length < (lgF N (8 - i) S (nI h)).length) ∧ lgF N (8 - i) S (nI h) = (p, h) :: lgF N (8 - (i + 1)) (S + 2 ^ p) (N (80 + 18 * p + 4)) := by
  subst hpS
  rw [lgF_eq hh] at hne ⊢
  obtain ⟨p, h1, h2, h3⟩ := pk2_who (f := lf1 N (8 - pcn S) S h) (n := nPo N) (fun z => by rw [z] at hne; exact absurd hne (Nat.lt_irrefl 0))
  have hb : (S.testBit p || !mCould N p h) = false := by
    cases b : (S.testBit p || !mCould N p h) with
    | false => rfl
    | true => rw [h2, lf1_skip b] at hne; exact absurd hne (Nat.lt_irrefl 0)
  rw [Bool.or_eq_false_iff] at hb
  have hc : mCould N p h = true := by
    have := hb.2
    cases b : mCould N p h with
    | true => rfl
    | false => rw [b] at this; cases this
  refine ⟨p, h1, hb.1, by rw [h2], fun r hr => by rw [h2]; exact h3 r hr, ?_⟩
  rw [h2, lf1_in hS8 (by omega) hb.1 hc, pcn_add hS8 (by omega) hb.1]
theorem nI_less {a b : Nat} (h : b ≤ a) : nI a - nI b = nI (a - b) := by
  have e : nI a = nI (a - b) + nI b := by rw [nI_sum, Nat.sub_add_cancel h]
  rw [e, Int32.add_sub_cancel]
theorem lng_any {l : Mvs} {x t : Int32} {f : Nat → Int32} (h0 : ¬ x < 0) (h1 : ∀ k, k < l.length → f k = nI (if t = 0 then (l.getD k (0, 0)).1 else (l.getD k (0, 0)).2)) (h2 : l.length ≤ 8) (h3 : ∀ k, k < l.length → (if t = 0 then (l.getD k (0, 0)).1 else (l.getD k (0, 0)).2) < 2 ^ 31) : (if x < nI l.length then ok (nI (if t = 0 then (l.getD x.toNatClampNeg (0, 0)).1 else (l.getD x.toNatClampNeg (0, 0)).2)) else no 5) = aAny (if x < nI l.length then f x.toNatClampNeg else -1) := by
  unfold aAny
  by_cases h : x < nI l.length
  · obtain ⟨u, hu, e⟩ := nI_of h0
    have h9 := h
    rw [e] at h9
    have huc := (nI_ltI hu (by omega)).mp h9
    rw [if_pos h, if_pos h, e, nI_clamp hu, h1 u huc, if_neg (nI_ne_m1 (h3 u huc))]
  · rw [if_neg h, if_neg h, if_pos rfl]
theorem lgF_ix {N : Nat → Int32} (h8 : nPo N ≤ 8) : ∀ d S x, x = -1 ∨ (∃ h, h < 10 ∧ x = nI h) → (∀ p, p < nPo N → N (80 + 18 * p + 4) = -1 ∨ ∃ h, h < 10 ∧ N (80 + 18 * p + 4) = nI h) → ∀ m, m ∈ lgF N d S x → m.1 < 10 ∧ m.2 < 10
  | 0, _, _, _, _, m, hm => absurd hm List.not_mem_nil
  | d + 1, S, x, hx, hv, m, hm => by
    rcases hx with e | ⟨h, hh, e⟩
    · rw [e, lgF_none] at hm
      exact absurd hm List.not_mem_nil
    · subst e
      rw [lgF_eq (by omega)] at hm
      by_cases hz : pk2 (lf1 N (d + 1) S h) (nPo N) = []
      · rw [hz] at hm
        exact absurd hm List.not_mem_nil
      · obtain ⟨p, h1, h2, -⟩ := pk2_who hz
        rw [h2] at hm
        have hm : m ∈ (if (S.testBit p || !mCould N p h) = true then [] else (p, h) :: lgF N d (S + 2 ^ p) (N (80 + 18 * p + 4)) : Mvs) := hm
        by_cases b : (S.testBit p || !mCould N p h) = true
        · rw [if_pos b] at hm
          exact absurd hm List.not_mem_nil
        · rw [if_neg b, List.mem_cons] at hm
          rcases hm with e | hm
          · rw [e]
            exact ⟨by show p < 10; omega, hh⟩
          · exact lgF_ix h8 d _ _ (hv p h1) hv m hm
theorem lAll_ix {N : Nat → Int32} (hN : Cn N) (hC : Co N) : ∀ m, m ∈ lAll N → m.1 < 10 ∧ m.2 < 10 := fun m hm => by
  have h10 := hN.h10
  rw [lAll_eq] at hm
  by_cases hz : pk2 (lH N) (nHo N) = []
  · rw [hz] at hm
    exact absurd hm List.not_mem_nil
  · obtain ⟨p, h1, h2, -⟩ := pk2_who hz
    rw [h2] at hm
    have hm : m ∈ (if mFree N p = true then lgF N 8 0 (nI p) else [] : Mvs) := hm
    by_cases b : mFree N p = true
    · rw [if_pos b] at hm
      exact lgF_ix hN.p8 8 0 _ (Or.inr ⟨p, by omega, rfl⟩) (fun q hq => by
        rcases hC.1 q hq with w | ⟨h, w1, w2, -⟩
        · exact Or.inl w
        · exact Or.inr ⟨h, by omega, w2⟩) m hm
    · rw [if_neg b] at hm
      exact absurd hm List.not_mem_nil
theorem mvs_lt {N : Nat → Int32} (hN : Cn N) (hC : Co N) {t : Int32} (k : Nat) (hk : k < (lAll N).length) : (if t = 0 then ((lAll N).getD k (0, 0)).1 else ((lAll N).getD k (0, 0)).2) < 2 ^ 31 := by
  have hm : (lAll N).getD k (0, 0) ∈ lAll N := by
    rw [List.getD_eq_getElem?_getD, List.getElem?_eq_getElem hk]
    exact List.getElem_mem hk
  have := lAll_ix hN hC _ hm
  split <;> omega
section ClsS
variable {z n : Nat} {sh : Shp} {I : MI} {L : ML} {N : Nat → Int32} {Q : Nat → Int64}
set_option maxHeartbeats 4000000 in
set_option maxRecDepth 100000 in
theorem sX0_noteRow (hX : IsX n sh) (hN : Cn N) (hCo : Co N) (hA : ChA N I) (hFo : FoA N I 0) {y : Int32} (hy : y = -1 ∨ ∃ h, h < nHo N ∧ y = nI h) (hlg : I 487 6 = nI (lgF N 8 0 y).length)  : CM yX0_noteRow cX0_noteRow 6 (Option.none : Option FieldType) 3 0 0 [.ref 487, .int y] z n sh I L (Ef none (fun J => (∀ w, w ≠ 491 → w ≠ 492 → J w = I w) ∧ Rw J 491 492 (lgF N 8 0 y)) z n sh L) := by
  refine CM.go [some (.ref 487), some (.int y), none, none, none, none] rfl rfl (Nat.le_of_ble_eq_true rfl) (fun X g q => ?_)
  have h8 := hN.p8
  have h10 := hN.h10
  have hl8 := lgF_len (N := N) 8 0 y
  have loop : ∀ i, i ≤ (lgF N 8 0 y).length → ∀ a5 (S : Nat) (x : Int32) (P : Mvs) (J : MI), P.length = i → S < 2 ^ nPo N → pcn S = i → (x = -1 ∨ ∃ h, h < nHo N ∧ x = nI h) → (lgF N 8 0 y) = P ++ lgF N (8 - i) S x → (∀ w, w ≠ 491 → w ≠ 492 → J w = I w) → Rw J 491 492 P → AW X g RX0 cX0_noteRow 6 (3, 0, 0) (z, n, sh, 0, 0) (J) (L) 7 [some (.ref 487), some (.int y), some (.int x), some (.int (nI S)), some (.int (nI i)), a5] [] := by
    refine up_loop (fun i hi ih a5 S x P J hP hS hpS hx hl hF hR => ?_)
    have hS8 := p2_256 h8 hS
    have h6 : J 487 6 = nI (lgF N 8 0 y).length := (congrFun (hF 487 (by decide) (by decide)) 6).trans hlg
    have hA2 : ChA N J := hA.cg (congrFun (hF 487 (by decide) (by decide)) 5) (hF 488 (by decide) (by decide)) (hF 489 (by decide) (by decide))
    have hFo2 : FoA N J S := (hFo.cg (hF 490 (by decide) (by decide))).up (Nat.zero_le S)
    refine aw_iload dX0_noteRow_7 rfl ?_
    refine aw_aload_n dX0_noteRow_9 rfl ?_
    refine aw_getI dX0_noteRow_10 fX0_27 hX.cha.1 (hX.lt (by decide)) rfl ?_
    refine AW.top h6 ?_
    refine aw_icmp_ge (tgt := 83) dX0_noteRow_13 rfl (fun c13 => ?_) (fun c13 => ?_)
    · have e := ge_t rfl (by omega) hi c13
      refine aw_vret q rfl dX0_noteRow_83 ⟨Nat.le_refl _, Nat.le_refl _⟩ ?_
      refine ⟨rfl, rfl, rfl, rfl, rfl, hF, ?_⟩
      have hlen := congrArg List.length hl
      rw [List.length_append] at hlen
      have h0 : lgF N (8 - i) S x = [] := List.eq_nil_of_length_eq_zero (by omega)
      rw [hl, h0, List.append_nil]
      exact hR
    · have hlt := ge_f rfl (by omega) hi c13
      refine aw_iload dX0_noteRow_16 rfl ?_
      refine aw_bipush (v := 8) dX0_noteRow_18 rfl ?_
      refine aw_icmp_ge (tgt := 83) dX0_noteRow_20 rfl (fun c20 => ?_) (fun c20 => ?_)
      · exact absurd ((nI_leI (a := 8) (b := i) (by decide) (by omega)).mp c20) (by omega)
      · have hlen : (lgF N (8 - i) S x).length = (lgF N 8 0 y).length - i := by
          have := congrArg List.length hl
          rw [List.length_append] at this
          omega
        obtain ⟨h, hh, rfl⟩ : ∃ h, h < nHo N ∧ x = nI h := by
          rcases hx with e | e
          · rw [e, lgF_none] at hlen
            have hlen : 0 = (lgF N 8 0 y).length - i := hlen
            omega
          · exact e
        obtain ⟨p, hp, hb, he, hf, hnx⟩ := row_next (h := h) hS8 hpS h8 (by omega) (by omega)
        refine aw_aload_n dX0_noteRow_23 rfl ?_
        refine aw_iload_n dX0_noteRow_24 rfl ?_
        refine aw_iload_n dX0_noteRow_25 rfl ?_
        refine aw_aload_n dX0_noteRow_26 rfl ?_
        refine aw_getI dX0_noteRow_27 fX0_27 hX.cha.1 (hX.lt (by decide)) rfl ?_
        refine AW.top h6 ?_
        refine aw_iload dX0_noteRow_30 rfl ?_
        refine aw_isub dX0_noteRow_32 ?_
        refine AW.top (nI_less (by omega)) ?_
        refine aw_cV dX0_noteRow_33 kX0_90 mX0_moverFor (sX0_moverFor hX hN hA2 hS hh rfl rfl hFo2 rfl hp (by omega) (fun r hr => by have := hf r hr; omega)) (Nat.le_of_ble_eq_true rfl) hX.cha.1 ⟨by decide, rfl⟩ (hX.lt (by decide)) rfl rfl (Nat.le_of_ble_eq_true rfl) ⟨Nat.le_refl _, Nat.le_refl _⟩ ?_
        refine aw_istore dX0_noteRow_36 (by decide) rfl ?_
        refine aw_iload dX0_noteRow_38 rfl ?_
        refine aw_iconst (v := (-1)) dX0_noteRow_40 rfl ?_
        refine aw_icmp_ne (tgt := 45) dX0_noteRow_41 rfl (fun c41 => ?_) (fun c41 => ?_)
        · skip
          refine aw_aload_n dX0_noteRow_45 rfl ?_
          refine aw_getR (b := 491) dX0_noteRow_46 fX0_21 hX.cha.1 (hX.lt (by decide)) rfl hX.cha.2.1.2.2.2.1 ?_
          refine aw_iload dX0_noteRow_49 rfl ?_
          refine aw_iload dX0_noteRow_51 rfl ?_
          refine aw_iastN (k := i) dX0_noteRow_53 hX.cha.2.2.1.2.2.2.1 (hX.lt (by decide)) hX.cha.2.2.2.2.2.2.1 rfl (by omega) (by decide) ?_
          refine aw_aload_n dX0_noteRow_54 rfl ?_
          refine aw_getR (b := 492) dX0_noteRow_55 fX0_24 hX.cha.1 (hX.lt (by decide)) rfl hX.cha.2.1.2.2.2.2 ?_
          refine aw_iload dX0_noteRow_58 rfl ?_
          refine aw_iload_n dX0_noteRow_60 rfl ?_
          refine aw_iastN (k := i) dX0_noteRow_61 hX.cha.2.2.1.2.2.2.2 (hX.lt (by decide)) hX.cha.2.2.2.2.2.2.2 rfl (by omega) (by decide) ?_
          refine aw_iload_n dX0_noteRow_62 rfl ?_
          refine aw_iconst (v := 1) dX0_noteRow_63 rfl ?_
          refine aw_iload dX0_noteRow_64 rfl ?_
          refine aw_ishl dX0_noteRow_66 ?_
          refine AW.top (shl_8 p (by omega)) ?_
          refine aw_ior dX0_noteRow_67 ?_
          refine AW.top (or_8 hS8 (by omega) hb) ?_
          refine aw_istore_n dX0_noteRow_68 (by decide) rfl ?_
          refine aw_aload_n dX0_noteRow_69 rfl ?_
          refine aw_getR (b := 489) dX0_noteRow_70 fX0_15 hX.cha.1 (hX.lt (by decide)) rfl hX.cha.2.1.2.1 ?_
          refine aw_iload dX0_noteRow_73 rfl ?_
          refine aw_ialdN (k := p) dX0_noteRow_75 hX.cha.2.2.1.2.1 (hX.lt (by decide)) hX.cha.2.2.2.2.1 rfl (by omega) (by decide) ?_
          refine AW.top ((congrFun ((if_neg (by decide)).trans (if_neg (by decide))) _).trans (hA2.2 p hp).2) ?_
          refine aw_istore_n dX0_noteRow_76 (by decide) rfl ?_
          refine aw_iinc dX0_noteRow_77 rfl (ginc rfl) (by decide) rfl ?_
          refine aw_goto (tgt := 7) dX0_noteRow_80 rfl ?_
          have hs := hR.snoc (p := p) (h := h) (show 491 ≠ 492 by decide)
          rw [hP] at hs
          refine ih hlt _ (S + 2 ^ p) _ (P ++ [(p, h)]) _ (by rw [List.length_append, hP]; rfl) (add_lt2 _ h8 S hS p hp hb) (by rw [pcn_add hS8 (by omega) hb, hpS]) (oO hCo hp) ?_ (fun w h1 h2 => (if_neg h2).trans ((if_neg h1).trans (hF w h1 h2))) hs
          rw [hl, hnx, List.append_assoc]
          rfl
        · exact absurd c41 (nI_ne_m1 (by omega))
  refine aw_iload_n dX0_noteRow_0 rfl ?_
  refine aw_istore_n dX0_noteRow_1 (by decide) rfl ?_
  refine aw_iconst (v := 0) dX0_noteRow_2 rfl ?_
  refine aw_istore_n dX0_noteRow_3 (by decide) rfl ?_
  refine aw_iconst (v := 0) dX0_noteRow_4 rfl ?_
  refine aw_istore dX0_noteRow_5 (by decide) rfl ?_
  exact loop 0 (Nat.zero_le _) none 0 y [] I rfl (Nat.two_pow_pos _) rfl hy rfl (fun _ _ _ => rfl) Rw.nil
/-- what the work on rows leaves -/
def WoP (N : Nat → Int32) (I J : MI) : Prop := ChF I J ∧ J 487 6 = nI (lAll N).length ∧ Rw J 491 492 (lAll N)
set_option maxHeartbeats 4000000 in
set_option maxRecDepth 100000 in
theorem sX0_work (hX : IsX n sh) (hC : CtS I L 1 N Q) (hIv : Iv N)  : CM yX0_work cX0_work 5 (Option.none : Option FieldType) 5 0 0 [.ref 487, .ref 1] z n sh I L (Ef none (WoP N I) z n sh L) := by
  refine CM.go [some (.ref 487), some (.ref 1), none, none, none] rfl rfl (Nat.le_of_ble_eq_true rfl) (fun X g q => ?_)
  have hO := hIv.ok
  have hN := hO.1
  have hR := hO.2.1
  have hB := hO.2.2.1
  have hE := hO.2.2.2
  have h8 := hN.p8
  have h10 := hN.h10
  have hS := hX.now
  have hCo := hIv.co
  refine aw_aload_n dX0_work_0 rfl ?_
  refine aw_aload_n dX0_work_1 rfl ?_
  refine aw_eV dX0_work_2 kX0_31 mX0_look (sX0_look hX hC hIv) (Nat.le_of_ble_eq_true rfl) hX.cha.1 ⟨by decide, rfl⟩ (hX.lt (by decide)) rfl rfl (Nat.le_of_ble_eq_true rfl) ⟨Nat.le_refl _, Nat.le_refl _⟩ (fun J1 hj => ?_)
  obtain ⟨j1, j2⟩ := hj
  refine aw_aload_n dX0_work_5 rfl ?_
  refine aw_eV dX0_work_6 kX0_35 mX0_fillFollow (sX0_fillFollow hX hN hCo j2) (Nat.le_of_ble_eq_true rfl) hX.cha.1 ⟨by decide, rfl⟩ (hX.lt (by decide)) rfl rfl (Nat.le_of_ble_eq_true rfl) ⟨Nat.le_refl _, Nat.le_refl _⟩ (fun J2 hk => ?_)
  obtain ⟨k1, hFo2⟩ := hk
  have hA2 : ChA N J2 := j2.cg (congrFun (k1 487 (by decide)) 5) (k1 488 (by decide)) (k1 489 (by decide))
  refine aw_aload_n dX0_work_9 rfl ?_
  refine aw_iconst (v := 0) dX0_work_10 rfl ?_
  refine aw_putI dX0_work_11 fX0_27 hX.cha.1 (hX.lt (by decide)) rfl rfl ?_
  refine aw_iconst (v := (-1)) dX0_work_14 rfl ?_
  refine aw_istore_n dX0_work_15 (by decide) rfl ?_
  refine aw_iconst (v := 0) dX0_work_16 rfl ?_
  refine aw_istore_n dX0_work_17 (by decide) rfl ?_
  have loop : ∀ i, i ≤ nHo N → ∀ a4 (x : Int32) (J : MI), (∀ w, w ≠ 487 → J w = J2 w) → J 487 5 = J2 487 5 → J 487 6 = nI (pk2 (lH N) i).length → (x = -1 ∨ ∃ h, h < nHo N ∧ x = nI h) → pk2 (lH N) i = lgF N 8 0 x → AW X g RX0 cX0_work 5 (5, 0, 0) (z, n, sh, 0, 0) (J) (L) 18 [some (.ref 487), some (.ref 1), some (.int x), some (.int (nI i)), a4] [] := by
    refine up_loop (fun i hi ih a4 x J hF h5 h6 hx hl => ?_)
    have hA3 : ChA N J := hA2.cg h5 (hF 488 (by decide)) (hF 489 (by decide))
    have hFo3 : FoA N J 0 := hFo2.cg (hF 490 (by decide))
    have hcf : ChF I J := fun w hw => (hF w (by omega)).trans ((k1 w (by omega)).trans (j1 w hw))
    have hJ : CtS J L 1 N Q := hcf.ct hC hN
    have hl8 := lAll_len (N := N) i
    have hi8 : (lH N i).length ≤ 8 := by
      unfold lH
      split
      · exact lgF_len 8 _ _
      · exact Nat.zero_le _
    refine aw_iload_n dX0_work_18 rfl ?_
    refine aw_aload_n dX0_work_19 rfl ?_
    refine aw_getI dX0_work_20 fX0_38 hS.k hS.b0 rfl ?_
    refine AW.top (hJ.nh.trans hN.h) ?_
    refine aw_icmp_ge (tgt := 73) dX0_work_23 rfl (fun c23 => ?_) (fun c23 => ?_)
    · have e := ge_t rfl (by omega) hi c23
      subst e
      refine aw_aload_n dX0_work_73 rfl ?_
      refine aw_iload_n dX0_work_74 rfl ?_
      refine aw_eV dX0_work_75 kX0_57 mX0_noteRow (sX0_noteRow hX hN hCo hA3 hFo3 hx (by rw [h6, hl])) (Nat.le_of_ble_eq_true rfl) hX.cha.1 ⟨by decide, rfl⟩ (hX.lt (by decide)) rfl rfl (Nat.le_of_ble_eq_true rfl) ⟨Nat.le_refl _, Nat.le_refl _⟩ (fun K hK => ?_)
      obtain ⟨q1, q2⟩ := hK
      refine aw_vret q rfl dX0_work_78 ⟨Nat.le_refl _, Nat.le_refl _⟩ ?_
      exact ⟨rfl, rfl, rfl, rfl, rfl, fun w hw => (q1 w (by omega) (by omega)).trans (hcf w hw), (congrFun (q1 487 (by decide) (by decide)) 6).trans h6, by rw [lAll_eq, hl]; exact q2⟩
    · have hlt := ge_f rfl (by omega) hi c23
      refine aw_aload_n dX0_work_26 rfl ?_
      refine aw_getR (b := 1 + 1) dX0_work_27 fX0_43 hS.k hS.b0 rfl hS.r0 ?_
      refine aw_iload_n dX0_work_30 rfl ?_
      refine aw_homes (h := i) hS rfl (by omega) dX0_work_31 ?_
      refine aw_cV dX0_work_32 kX0_47 mX2_isFree (sX2_isFree hS hJ hN hlt) (Nat.le_of_ble_eq_true rfl) (hS.ho (by omega)) ⟨by decide, rfl⟩ (hS.hb (by omega)) rfl rfl (Nat.le_of_ble_eq_true rfl) ⟨Nat.le_refl _, Nat.le_refl _⟩ ?_
      refine aw_if_eq (tgt := 47) dX0_work_35 rfl (fun c35 => ?_) (fun c35 => ?_)
      · have hfr := bI0.mp c35
        refine aw_iconst (v := 0) dX0_work_47 rfl ?_
        refine AW.top (y := nI (lH N i).length) (by unfold lH; rw [hfr]; rfl) ?_
        refine aw_istore dX0_work_48 (by decide) rfl ?_
        refine aw_iload dX0_work_50 rfl ?_
        refine aw_aload_n dX0_work_52 rfl ?_
        refine aw_getI dX0_work_53 fX0_27 hX.cha.1 (hX.lt (by decide)) rfl ?_
        refine AW.top h6 ?_
        refine aw_icmp_le (tgt := 67) dX0_work_56 rfl (fun c56 => ?_) (fun c56 => ?_)
        · skip
          refine aw_iinc dX0_work_67 rfl (ginc rfl) (by decide) rfl ?_
          refine aw_goto (tgt := 18) dX0_work_70 rfl ?_
          have e9 : pk2 (lH N) (i + 1) = pk2 (lH N) i := by rw [pk2, if_neg (by have := (nI_leI (by omega) (by omega)).mp c56; omega)]
          exact ih hlt _ x J hF h5 (by rw [e9]; exact h6) hx (by rw [e9]; exact hl)
        · skip
          refine aw_aload_n dX0_work_59 rfl ?_
          refine aw_iload dX0_work_60 rfl ?_
          refine aw_putI dX0_work_62 fX0_27 hX.cha.1 (hX.lt (by decide)) rfl rfl ?_
          refine aw_iload_n dX0_work_65 rfl ?_
          refine aw_istore_n dX0_work_66 (by decide) rfl ?_
          refine aw_iinc dX0_work_67 rfl (ginc rfl) (by decide) rfl ?_
          refine aw_goto (tgt := 18) dX0_work_70 rfl ?_
          have hgt : (pk2 (lH N) i).length < (lH N i).length := by
            have := mt (nI_leI (a := (lH N i).length) (b := (pk2 (lH N) i).length) (by omega) (by omega)).mpr c56
            omega
          have e9 : pk2 (lH N) (i + 1) = lH N i := by rw [pk2, if_pos hgt]
          have e8 : lH N i = lgF N 8 0 (nI i) := by
            unfold lH at hgt ⊢
            cases b : mFree N i with
            | true => rfl
            | false => rw [b] at hgt; exact absurd hgt (Nat.not_lt_zero _)
          refine ih hlt _ (nI i) _ (fun w hw => (if_neg hw).trans (hF w hw)) ((upI_n (Or.inr (by decide))).trans h5) (by rw [e9]; exact upI_s) (Or.inr ⟨i, hlt, rfl⟩) (by rw [e9, e8])
      · have hfr := bI1.mp c35
        refine aw_aload_n dX0_work_38 rfl ?_
        refine aw_iload_n dX0_work_39 rfl ?_
        refine aw_iconst (v := 0) dX0_work_40 rfl ?_
        refine aw_cV dX0_work_41 kX0_53 mX0_longestFrom (sX0_longestFromO hX hN hA3 (S := 0) (Nat.two_pow_pos _) (Or.inr ⟨i, hlt, rfl⟩) rfl hFo3) (Nat.le_of_ble_eq_true rfl) hX.cha.1 ⟨by decide, rfl⟩ (hX.lt (by decide)) rfl rfl (Nat.le_of_ble_eq_true rfl) ⟨Nat.le_refl _, Nat.le_refl _⟩ ?_
        refine AW.top (y := nI (lH N i).length) (by unfold lH; rw [hfr]; rfl) ?_
        refine aw_goto (tgt := 48) dX0_work_44 rfl ?_
        refine aw_istore dX0_work_48 (by decide) rfl ?_
        refine aw_iload dX0_work_50 rfl ?_
        refine aw_aload_n dX0_work_52 rfl ?_
        refine aw_getI dX0_work_53 fX0_27 hX.cha.1 (hX.lt (by decide)) rfl ?_
        refine AW.top h6 ?_
        refine aw_icmp_le (tgt := 67) dX0_work_56 rfl (fun c56 => ?_) (fun c56 => ?_)
        · skip
          refine aw_iinc dX0_work_67 rfl (ginc rfl) (by decide) rfl ?_
          refine aw_goto (tgt := 18) dX0_work_70 rfl ?_
          have e9 : pk2 (lH N) (i + 1) = pk2 (lH N) i := by rw [pk2, if_neg (by have := (nI_leI (by omega) (by omega)).mp c56; omega)]
          exact ih hlt _ x J hF h5 (by rw [e9]; exact h6) hx (by rw [e9]; exact hl)
        · skip
          refine aw_aload_n dX0_work_59 rfl ?_
          refine aw_iload dX0_work_60 rfl ?_
          refine aw_putI dX0_work_62 fX0_27 hX.cha.1 (hX.lt (by decide)) rfl rfl ?_
          refine aw_iload_n dX0_work_65 rfl ?_
          refine aw_istore_n dX0_work_66 (by decide) rfl ?_
          refine aw_iinc dX0_work_67 rfl (ginc rfl) (by decide) rfl ?_
          refine aw_goto (tgt := 18) dX0_work_70 rfl ?_
          have hgt : (pk2 (lH N) i).length < (lH N i).length := by
            have := mt (nI_leI (a := (lH N i).length) (b := (pk2 (lH N) i).length) (by omega) (by omega)).mpr c56
            omega
          have e9 : pk2 (lH N) (i + 1) = lH N i := by rw [pk2, if_pos hgt]
          have e8 : lH N i = lgF N 8 0 (nI i) := by
            unfold lH at hgt ⊢
            cases b : mFree N i with
            | true => rfl
            | false => rw [b] at hgt; exact absurd hgt (Nat.not_lt_zero _)
          refine ih hlt _ (nI i) _ (fun w hw => (if_neg hw).trans (hF w hw)) ((upI_n (Or.inr (by decide))).trans h5) (by rw [e9]; exact upI_s) (Or.inr ⟨i, hlt, rfl⟩) (by rw [e9, e8])
  exact loop 0 (Nat.zero_le _) none (-1) _ (fun w hw => if_neg hw) (upI_n (Or.inr (by decide))) upI_s (Or.inl rfl) (lgF_none 8).symm
theorem sX0_homeAtO (hX : IsX n sh) {x : Int32} {c : Nat} (hl : I 487 6 = nI c) (hc : c ≤ 8) (hx : ¬ x < 0) : CM yX0_homeAt cX0_homeAt 2 (Option.some .int) 1 0 0 [.ref 487, .int x] z n sh I L (Pst (some (.int (if x < nI c then I 492 x.toNatClampNeg else -1))) z n sh I L) := by
  by_cases h : x < nI c
  · obtain ⟨u, hu, e⟩ := nI_of hx
    rw [if_pos h]
    rw [e] at h
    have huc := (nI_ltI hu (by omega)).mp h
    rw [e, nI_clamp hu]
    exact sX0_homeAt hX hl hc rfl huc
  · rw [if_neg h]
    exact sX0_homeAtN hX hl h
theorem sX0_houseAtO (hX : IsX n sh) {x : Int32} {c : Nat} (hl : I 487 6 = nI c) (hc : c ≤ 8) (hx : ¬ x < 0) : CM yX0_houseAt cX0_houseAt 2 (Option.some .int) 1 0 0 [.ref 487, .int x] z n sh I L (Pst (some (.int (if x < nI c then I 491 x.toNatClampNeg else -1))) z n sh I L) := by
  by_cases h : x < nI c
  · obtain ⟨u, hu, e⟩ := nI_of hx
    rw [if_pos h]
    rw [e] at h
    have huc := (nI_ltI hu (by omega)).mp h
    rw [e, nI_clamp hu]
    exact sX0_houseAt hX hl hc rfl huc
  · rw [if_neg h]
    exact sX0_houseAtN hX hl h
set_option maxHeartbeats 4000000 in
set_option maxRecDepth 100000 in
theorem sX10_longest (hX : IsX n sh) (hC : CtS I L 1 N Q) (hIv : Iv N) {x t : Int32} : CM yX10_longest cX10_longest 3 (Option.some .int) 6 0 0 [.ref 0, .int x, .int t] z n sh I L (Cw 487 493 (aLongest N x t) z n sh I L) := by
  refine CM.go [some (.ref 0), some (.int x), some (.int t)] rfl rfl (Nat.le_of_ble_eq_true rfl) (fun X g q => ?_)
  have hO := hIv.ok
  have hN := hO.1
  have hR := hO.2.1
  have hB := hO.2.2.1
  have hE := hO.2.2.2
  have h8 := hN.p8
  have h10 := hN.h10
  have hS := hX.now
  refine aw_iload_n dX10_longest_0 rfl ?_
  refine aw_iconst (v := (-1)) dX10_longest_1 rfl ?_
  refine aw_icmp_ge (tgt := 11) dX10_longest_2 rfl (fun c2 => ?_) (fun c2 => ?_)
  · have hx : ¬ x < -1 := Int32.not_lt.mpr c2
    refine aw_aload_n dX10_longest_11 rfl ?_
    refine aw_getR (b := 487) dX10_longest_12 fX10_50 hX.k hX.b rfl hX.r6 ?_
    refine aw_aload_n dX10_longest_15 rfl ?_
    refine aw_getR (b := 1) dX10_longest_16 fX10_10 hX.k hX.b rfl hX.r0 ?_
    refine aw_eV dX10_longest_19 kX10_349 mX0_work (sX0_work hX hC hIv) (Nat.le_of_ble_eq_true rfl) hX.cha.1 ⟨by decide, rfl⟩ (hX.lt (by decide)) rfl rfl (Nat.le_of_ble_eq_true rfl) ⟨Nat.le_refl _, Nat.le_refl _⟩ (fun J hW => ?_)
    obtain ⟨w1, w2, w3⟩ := hW
    have hl8 : (lAll N).length ≤ 8 := lAll_len (N := N) (nHo N)
    refine aw_iload_n dX10_longest_22 rfl ?_
    refine aw_iconst (v := (-1)) dX10_longest_23 rfl ?_
    refine aw_icmp_ne (tgt := 39) dX10_longest_24 rfl (fun c24 => ?_) (fun c24 => ?_)
    · have h0 : ¬ x < 0 := fun z => c24 (m1_of hx z)
      refine aw_aload_n dX10_longest_39 rfl ?_
      refine aw_iload_n dX10_longest_40 rfl ?_
      refine aw_if_eq (tgt := 55) dX10_longest_41 rfl (fun c41 => ?_) (fun c41 => ?_)
      · skip
        refine aw_aload_n dX10_longest_55 rfl ?_
        refine aw_getR (b := 487) dX10_longest_56 fX10_50 hX.k hX.b rfl hX.r6 ?_
        refine aw_iload_n dX10_longest_59 rfl ?_
        refine aw_cV dX10_longest_60 kX10_353 mX0_houseAt (sX0_houseAtO hX w2 hl8 h0) (Nat.le_of_ble_eq_true rfl) hX.cha.1 ⟨by decide, rfl⟩ (hX.lt (by decide)) rfl rfl (Nat.le_of_ble_eq_true rfl) ⟨Nat.le_refl _, Nat.le_refl _⟩ ?_
        refine aw_cV dX10_longest_63 kX10_147 mX10_answerIfAny (sX10_answerIfAny hX) (Nat.le_of_ble_eq_true rfl) hX.k ⟨by decide, rfl⟩ hX.b rfl rfl (Nat.le_of_ble_eq_true rfl) ⟨Nat.le_refl _, Nat.le_refl _⟩ ?_
        refine aw_iret q rfl dX10_longest_66 ⟨Nat.le_refl _, Nat.le_refl _⟩ ?_
        refine Cw.any ?_ w1
        unfold aLongest
        rw [if_neg hx]
        rw [if_neg c24]
        refine lng_any h0 (fun k hk => ?_) hl8 (fun k hk => ?_)
        · rw [if_pos c41]
          exact (w3 k hk).1
        · exact mvs_lt hN hIv.co (t := t) k hk
      · skip
        refine aw_aload_n dX10_longest_44 rfl ?_
        refine aw_getR (b := 487) dX10_longest_45 fX10_50 hX.k hX.b rfl hX.r6 ?_
        refine aw_iload_n dX10_longest_48 rfl ?_
        refine aw_cV dX10_longest_49 kX10_351 mX0_homeAt (sX0_homeAtO hX w2 hl8 h0) (Nat.le_of_ble_eq_true rfl) hX.cha.1 ⟨by decide, rfl⟩ (hX.lt (by decide)) rfl rfl (Nat.le_of_ble_eq_true rfl) ⟨Nat.le_refl _, Nat.le_refl _⟩ ?_
        refine aw_goto (tgt := 63) dX10_longest_52 rfl ?_
        refine aw_cV dX10_longest_63 kX10_147 mX10_answerIfAny (sX10_answerIfAny hX) (Nat.le_of_ble_eq_true rfl) hX.k ⟨by decide, rfl⟩ hX.b rfl rfl (Nat.le_of_ble_eq_true rfl) ⟨Nat.le_refl _, Nat.le_refl _⟩ ?_
        refine aw_iret q rfl dX10_longest_66 ⟨Nat.le_refl _, Nat.le_refl _⟩ ?_
        refine Cw.any ?_ w1
        unfold aLongest
        rw [if_neg hx]
        rw [if_neg c24]
        refine lng_any h0 (fun k hk => ?_) hl8 (fun k hk => ?_)
        · rw [if_neg c41]
          exact (w3 k hk).2
        · exact mvs_lt hN hIv.co (t := t) k hk
    · skip
      refine aw_aload_n dX10_longest_27 rfl ?_
      refine aw_aload_n dX10_longest_28 rfl ?_
      refine aw_getR (b := 487) dX10_longest_29 fX10_50 hX.k hX.b rfl hX.r6 ?_
      refine aw_getI dX10_longest_32 fX10_350 hX.cha.1 (hX.lt (by decide)) rfl ?_
      refine aw_cV dX10_longest_35 kX10_94 mX10_answer (sX10_answer hX) (Nat.le_of_ble_eq_true rfl) hX.k ⟨by decide, rfl⟩ hX.b rfl rfl (Nat.le_of_ble_eq_true rfl) ⟨Nat.le_refl _, Nat.le_refl _⟩ ?_
      refine aw_iret q rfl dX10_longest_38 ⟨Nat.le_refl _, Nat.le_refl _⟩ ?_
      refine Cw.ok ?_ w1
      unfold aLongest
      rw [if_neg hx]
      rw [if_pos c24, w2]
  · skip
    refine aw_aload_n dX10_longest_5 rfl ?_
    refine aw_iconst (v := 1) dX10_longest_6 rfl ?_
    refine aw_cV dX10_longest_7 kX10_76 mX10_fail (sX10_fail hX) (Nat.le_of_ble_eq_true rfl) hX.k ⟨by decide, rfl⟩ hX.b rfl rfl (Nat.le_of_ble_eq_true rfl) ⟨Nat.le_refl _, Nat.le_refl _⟩ ?_
    refine aw_iret q rfl dX10_longest_10 ⟨Nat.le_refl _, Nat.le_refl _⟩ ?_
    refine Cw.no ?_ (fun _ _ => rfl)
    unfold aLongest
    rw [if_pos (Int32.not_le.mp c2)]
end ClsS
