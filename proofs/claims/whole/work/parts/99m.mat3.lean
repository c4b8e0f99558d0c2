/-! the class: gifts -/
def M4F (I J : MI) : Prop := ∀ x, x < 484 ∨ 487 ≤ x → J x = I x
theorem M4F.rf {I : MI} : M4F I I := fun _ _ => rfl
theorem M4F.put {I J : MI} {a k : Nat} {v : Int32} (h : M4F I J) (ha : 484 ≤ a ∧ a < 487) : M4F I (upI J a k v) := fun x hx => (if_neg (by omega)).trans (h x hx)
theorem M4F.ct {I J : MI} {L : ML} {N : Nat → Int32} {Q : Nat → Int64} (h : M4F I J) (hC : CtS I L 1 N Q) (hN : Cn N) : CtS J L 1 N Q := hC.fr hN (fun a ha => h _ (by omega)) (fun a ha => rfl)
theorem MaF.m4 {I J : MI} (h : MaF I J) : M4F I J := fun x hx => h.1 x (by omega) (by omega)
theorem M4F.tr {I J K : MI} (h : M4F I J) (h2 : M4F J K) : M4F I K := fun x hx => (h2 x hx).trans (h x hx)
theorem can_iset {N : Nat → Int32} {p : Nat} (hh : mHope N p = true) : (fun h => mFit N p h && (!decide ((1 : Int32) = 1) || mFree N h) && (!decide ((1 : Int32) = 1) || mTake N p (nI h))) = fun h => mCan N p h := by
  funext h
  unfold mCan mCould
  rw [hh]
  cases mFit N p h <;> cases mFree N h <;> cases mTake N p (nI h) <;> rfl
def oG (f : Option Nat) : Int32 := match f with
  | some h => nI h
  | none => -1
theorem gf_none {N : Nat → Int32} {p g : Nat} : ∀ {n : Nat}, gfI N p g n = none → ∀ h, h < n → ¬ (g.testBit h = false ∧ mCan N p h = true ∧ 1 + mGv N (p + 1) (g + 2 ^ h) = mGv N p g)
  | 0, _, h, hh => absurd hh (Nat.not_lt_zero h)
  | n + 1, e, h, hh => fun z => by
    cases q : gfI N p g n with
    | some k =>
      have := gfI_keep q 1
      rw [e] at this
      cases this
    | none =>
      by_cases w : h = n
      · subst w
        rw [gfI_new q (by rw [z.1, z.2.1, decide_eq_true z.2.2]; rfl)] at e
        cases e
      · exact gf_none q h (by omega) z
theorem gf_stay {N : Nat → Int32} {p g : Nat} (hp : p < nPo N) (e : gfO N p g = none) : mGv N (p + 1) g = mGv N p g := by
  have hs := mGv_step (g := g) hp
  rcases gvB_is (C := mCan N p) (f := mGv N (p + 1)) (g := g) (nHo N) with w | ⟨h, h1, h2, h3, h4⟩
  · rw [hs, w]
  · exact absurd ⟨h2, h3, by rw [hs, h4]⟩ (gf_none e h h1)
section ClsS
variable {z n : Nat} {sh : Shp} {I : MI} {L : ML} {N : Nat → Int32} {Q : Nat → Int64}
set_option maxHeartbeats 4000000 in
set_option maxRecDepth 100000 in
theorem sX4_leastGift (hX : IsX n sh) (hN : Cn N) (hA : MaA N I) {x y w : Int32} {p g9 : Nat} (hx : x = nI p) (hy : y = nI g9) (hp : p < nPo N) (hg : g9 < 1024) (hw : w = nI (mGv N p g9))  : CM yX4_leastGift cX4_leastGift 7 (Option.some .int) 15 0 0 [.ref 484, .int x, .int y, .int w] z n sh I L (Ef (some (.int (oG (gfO N p g9)))) (MaF I) z n sh L) := by
  refine CM.go [some (.ref 484), some (.int x), some (.int y), some (.int w), none, none, none] rfl rfl (Nat.le_of_ble_eq_true rfl) (fun X g q => ?_)
  have h8 := hN.p8
  have h10 := hN.h10
  subst hx hy hw
  have hgl := mGv_le (N := N) (p := p) (g := g9)
  have loop : ∀ i, i ≤ 10 → ∀ a5 a6 (J : MI), MaF I J → gfI N p g9 (min i (nHo N)) = none → AW X g RX4 cX4_leastGift 7 (15, 0, 0) (z, n, sh, 0, 0) (J) (L) 3 [some (.ref 484), some (.int (nI p)), some (.int (nI g9)), some (.int (nI (mGv N p g9))), some (.int (nI i)), a5, a6] [] := by
    refine up_loop (fun i hi ih a5 a6 J hF hf => ?_)
    have hA2 := hF.ma hA
    refine aw_iload dX4_leastGift_3 rfl ?_
    refine aw_bipush (v := 10) dX4_leastGift_5 rfl ?_
    refine aw_icmp_ge (tgt := 80) dX4_leastGift_7 rfl (fun c7 => ?_) (fun c7 => ?_)
    · have e := ge_t (y := 10) (B := 10) rfl (by decide) hi c7
      subst e
      refine aw_iconst (v := (-1)) dX4_leastGift_80 rfl ?_
      refine aw_iret q rfl dX4_leastGift_81 ⟨Nat.le_refl _, Nat.le_refl _⟩ ?_
      rw [Nat.min_eq_right (by omega)] at hf
      exact ⟨congrArg (fun w => some (Value.int (oG w))) (show none = gfO N p g9 from hf.symm), rfl, rfl, rfl, rfl, hF⟩
    · have hlt := ge_f (y := 10) (B := 10) rfl (by decide) hi c7
      refine aw_iconst (v := 1) dX4_leastGift_10 rfl ?_
      refine aw_iload dX4_leastGift_11 rfl ?_
      refine aw_ishl dX4_leastGift_13 ?_
      refine AW.top (shl_10 i hlt) ?_
      refine aw_istore dX4_leastGift_14 (by decide) rfl ?_
      refine aw_iload_n dX4_leastGift_16 rfl ?_
      refine aw_if_lt (tgt := 46) dX4_leastGift_17 rfl (fun c17 => ?_) (fun c17 => ?_)
      · exact absurd c17 (nI_pos (by omega))
      · skip
        refine aw_iload_n dX4_leastGift_20 rfl ?_
        refine aw_bipush (v := 8) dX4_leastGift_21 rfl ?_
        refine aw_icmp_ge (tgt := 46) dX4_leastGift_23 rfl (fun c23 => ?_) (fun c23 => ?_)
        · exact absurd ((nI_leI (a := 8) (b := p) (by decide) (by omega)).mp c23) (by omega)
        · skip
          refine aw_aload_n dX4_leastGift_26 rfl ?_
          refine aw_getR (b := 485) dX4_leastGift_27 fX4_9 hX.mat.1 (hX.lt (by decide)) rfl hX.mat.2.1 ?_
          refine aw_iload_n dX4_leastGift_30 rfl ?_
          refine aw_ialdN (k := p) dX4_leastGift_31 hX.mat.2.2.2.1.1 (hX.lt (by decide)) hX.mat.2.2.2.1.2 rfl (by omega) (by decide) ?_
          refine AW.top (hA2.2 p hp) ?_
          refine aw_iload_n dX4_leastGift_32 rfl ?_
          refine aw_iconst (v := (-1)) dX4_leastGift_33 rfl ?_
          refine aw_ixor dX4_leastGift_34 ?_
          refine aw_iand dX4_leastGift_35 ?_
          refine aw_iload dX4_leastGift_36 rfl ?_
          refine aw_iand dX4_leastGift_38 ?_
          refine aw_if_eq (tgt := 46) dX4_leastGift_39 rfl (fun c39 => ?_) (fun c39 => ?_)
          · skip
            refine aw_iconst (v := 0) dX4_leastGift_46 rfl ?_
            refine aw_istore dX4_leastGift_47 (by decide) rfl ?_
            refine aw_iload dX4_leastGift_49 rfl ?_
            refine aw_if_eq (tgt := 74) dX4_leastGift_51 rfl (fun c51 => ?_) (fun c51 => ?_)
            · skip
              refine aw_iinc dX4_leastGift_74 rfl (ginc rfl) (by decide) rfl ?_
              refine aw_goto (tgt := 3) dX4_leastGift_77 rfl ?_
              have hno : gfI N p g9 (min (i + 1) (nHo N)) = none := by
                by_cases w : i < nHo N
                · rw [Nat.min_eq_left (by omega)]
                  rw [Nat.min_eq_left (by omega)] at hf
                  refine gfI_not hf ?_
                  cases b1 : g9.testBit i with
                  | true => rfl
                  | false =>
                    cases b2 : mCan N p i with
                    | false => rfl
                    | true => exact absurd ⟨by unfold mEd; rw [decide_eq_true w, b2]; rfl, b1⟩ ((can_bit hN (by omega)).mp c39)
                · rw [Nat.min_eq_right (by omega)]
                  rw [Nat.min_eq_right (by omega)] at hf
                  exact hf
              exact ih hlt _ _ J hF hno
            · exact absurd rfl c51
          · obtain ⟨hed, hub⟩ : mEd N p i = true ∧ g9.testBit i = false := Classical.byContradiction (fun z => c39 ((can_bit hN (by omega)).mpr z))
            obtain ⟨b1, b2⟩ := bit_add10 g9 hg i hlt hub
            have hgl2 := mGv_le (N := N) (p := p + 1) (g := g9 + 2 ^ i)
            refine aw_iconst (v := 1) dX4_leastGift_42 rfl ?_
            refine aw_goto (tgt := 47) dX4_leastGift_43 rfl ?_
            refine aw_istore dX4_leastGift_47 (by decide) rfl ?_
            refine aw_iload dX4_leastGift_49 rfl ?_
            refine aw_if_eq (tgt := 74) dX4_leastGift_51 rfl (fun c51 => ?_) (fun c51 => ?_)
            · exact absurd c51 (by decide)
            · skip
              refine aw_aload_n dX4_leastGift_54 rfl ?_
              refine aw_iload_n dX4_leastGift_55 rfl ?_
              refine aw_iconst (v := 1) dX4_leastGift_56 rfl ?_
              refine aw_iadd dX4_leastGift_57 ?_
              refine AW.top (y := nI (p + 1)) (nI_sum _ 1) ?_
              refine aw_iload_n dX4_leastGift_58 rfl ?_
              refine aw_iload dX4_leastGift_59 rfl ?_
              refine aw_ior dX4_leastGift_61 ?_
              refine AW.top (y := nI (g9 + 2 ^ i)) (by rw [← shl_10 i hlt]; exact (gv_or g9 hg i hlt hub).1) ?_
              refine aw_eV dX4_leastGift_62 kX4_46 mX4_largest (sX4_largest hX hN hA2 rfl rfl (show p + 1 ≤ nPo N by omega) b1) (Nat.le_of_ble_eq_true rfl) hX.mat.1 ⟨by decide, rfl⟩ (hX.lt (by decide)) rfl rfl (Nat.le_of_ble_eq_true rfl) ⟨Nat.le_refl _, Nat.le_refl _⟩ (fun J2 hP => ?_)
              
              refine aw_iconst (v := 1) dX4_leastGift_65 rfl ?_
              refine aw_iadd dX4_leastGift_66 ?_
              refine aw_iload_n dX4_leastGift_67 rfl ?_
              refine aw_icmp_ne (tgt := 74) dX4_leastGift_68 rfl (fun c68 => ?_) (fun c68 => ?_)
              · skip
                refine aw_iinc dX4_leastGift_74 rfl (ginc rfl) (by decide) rfl ?_
                refine aw_goto (tgt := 3) dX4_leastGift_77 rfl ?_
                have hno : gfI N p g9 (min (i + 1) (nHo N)) = none := by
                  by_cases w : i < nHo N
                  · rw [Nat.min_eq_left (by omega)]
                    rw [Nat.min_eq_left (by omega)] at hf
                    refine gfI_not hf ?_
                    rw [decide_eq_false (fun z => c68 (by rw [← z]; exact (nI_sum _ 1).trans (congrArg nI (Nat.add_comm _ 1)))), Bool.and_false]
                  · rw [Nat.min_eq_right (by omega)]
                    rw [Nat.min_eq_right (by omega)] at hf
                    exact hf
                exact ih hlt _ _ J2 (hF.tr hP) hno
              · skip
                refine aw_iload dX4_leastGift_71 rfl ?_
                refine aw_iret q rfl dX4_leastGift_73 ⟨Nat.le_refl _, Nat.le_refl _⟩ ?_
                have e1 : mGv N (p + 1) (g9 + 2 ^ i) + 1 = mGv N p g9 := (nI_eq (by omega) (by omega)).mp ((nI_sum _ 1).symm.trans c68)
                unfold mEd at hed
                obtain ⟨e2, e3⟩ := andT hed
                have e2 := of_decide_eq_true e2
                rw [Nat.min_eq_left (by omega)] at hf
                have e4 := gfI_keep (gfI_new hf (by rw [hub, e3, decide_eq_true (by omega)]; rfl)) (nHo N - (i + 1))
                rw [show i + 1 + (nHo N - (i + 1)) = nHo N by omega] at e4
                exact ⟨congrArg (fun w => some (Value.int (oG w))) (show some i = gfO N p g9 from e4.symm), rfl, rfl, rfl, rfl, hF.tr hP⟩
  refine aw_iconst (v := 0) dX4_leastGift_0 rfl ?_
  refine aw_istore dX4_leastGift_1 (by decide) rfl ?_
  exact loop 0 (Nat.zero_le _) none none I MaF.rf (by rw [Nat.zero_min]; rfl)
set_option maxHeartbeats 4000000 in
set_option maxRecDepth 100000 in
theorem sX4_giftOf (hX : IsX n sh) (hN : Cn N) (hA : MaA N I) {x : Int32} {p : Nat} (hx : x = nI p) (hp : p < nPo N)  : CM yX4_giftOf cX4_giftOf 6 (Option.some .int) 16 0 0 [.ref 484, .int x] z n sh I L (Ef (some (.int (oG (gfO N p (gfG N p))))) (MaF I) z n sh L) := by
  refine CM.go [some (.ref 484), some (.int x), none, none, none, none] rfl rfl (Nat.le_of_ble_eq_true rfl) (fun X g q => ?_)
  have h8 := hN.p8
  have h10 := hN.h10
  subst hx
  have loop : ∀ i, i ≤ p + 1 → ∀ (v3 : Int32) (J : MI), MaF I J → (0 < i → v3 = oG (gfO N (i - 1) (gfG N (i - 1)))) → AW X g RX4 cX4_giftOf 6 (16, 0, 0) (z, n, sh, 0, 0) (J) (L) 15 [some (.ref 484), some (.int (nI p)), some (.int (nI (gfG N i))), some (.int v3), some (.int (nI (mGv N i (gfG N i)))), some (.int (nI i))] [] := by
    refine up_loop (fun i hi ih v3 J hF hv3 => ?_)
    have hA2 := hF.ma hA
    have hgl := gfG_lt (N := N) h10 i
    refine aw_iload dX4_giftOf_15 rfl ?_
    refine aw_aload_n dX4_giftOf_17 rfl ?_
    refine aw_getI dX4_giftOf_18 fX4_24 hX.mat.1 (hX.lt (by decide)) rfl ?_
    refine AW.top hA2.1 ?_
    refine aw_icmp_ge (tgt := 60) dX4_giftOf_21 rfl (fun c21 => ?_) (fun c21 => ?_)
    · have e8 := (nI_leI (by omega) (by omega)).mp c21
      refine aw_iload_n dX4_giftOf_60 rfl ?_
      refine aw_iret q rfl dX4_giftOf_61 ⟨Nat.le_refl _, Nat.le_refl _⟩ ?_
      have e9 : i = p + 1 := by omega
      subst e9
      exact ⟨congrArg (fun w => some (Value.int w)) (hv3 (Nat.succ_pos p)), rfl, rfl, rfl, rfl, hF⟩
    · have hlt : i < nPo N := by
        have := mt (nI_leI (by omega) (by omega)).mpr c21
        omega
      refine aw_iload dX4_giftOf_24 rfl ?_
      refine aw_iload_n dX4_giftOf_26 rfl ?_
      refine aw_icmp_gt (tgt := 60) dX4_giftOf_27 rfl (fun c27 => ?_) (fun c27 => ?_)
      · have e8 := (nI_ltI (a := p) (b := i) (by omega) (by omega)).mp c27
        refine aw_iload_n dX4_giftOf_60 rfl ?_
        refine aw_iret q rfl dX4_giftOf_61 ⟨Nat.le_refl _, Nat.le_refl _⟩ ?_
        have e9 : i = p + 1 := by omega
        subst e9
        exact ⟨congrArg (fun w => some (Value.int w)) (hv3 (Nat.succ_pos p)), rfl, rfl, rfl, rfl, hF⟩
      · have hip : i ≤ p := by
          have := mt (nI_ltI (a := p) (b := i) (by omega) (by omega)).mpr c27
          omega
        refine aw_aload_n dX4_giftOf_30 rfl ?_
        refine aw_iload dX4_giftOf_31 rfl ?_
        refine aw_iload_n dX4_giftOf_33 rfl ?_
        refine aw_iload dX4_giftOf_34 rfl ?_
        refine aw_eV dX4_giftOf_36 kX4_50 mX4_leastGift (sX4_leastGift hX hN hA2 rfl rfl hlt hgl rfl) (Nat.le_of_ble_eq_true rfl) hX.mat.1 ⟨by decide, rfl⟩ (hX.lt (by decide)) rfl rfl (Nat.le_of_ble_eq_true rfl) ⟨Nat.le_refl _, Nat.le_refl _⟩ (fun J2 hP => ?_)
        
        refine aw_istore_n dX4_giftOf_39 (by decide) rfl ?_
        refine aw_iload_n dX4_giftOf_40 rfl ?_
        refine aw_iconst (v := (-1)) dX4_giftOf_41 rfl ?_
        refine aw_icmp_eq (tgt := 54) dX4_giftOf_42 rfl (fun c42 => ?_) (fun c42 => ?_)
        · skip
          refine aw_iinc dX4_giftOf_54 rfl (ginc rfl) (by decide) rfl ?_
          refine aw_goto (tgt := 15) dX4_giftOf_57 rfl ?_
          have en : gfO N i (gfG N i) = none := by
            cases e : gfO N i (gfG N i) with
            | none => rfl
            | some h =>
              rw [e] at c42
              exact absurd c42 (nI_ne_m1 (by have := (gfI_some e).1; omega))
          have e1 := gfG_none en
          have e2 := gf_stay hlt en
          have := ih (by omega) (oG (gfO N i (gfG N i))) J2 (hF.tr hP) (fun _ => rfl)
          rw [e1, e2] at this
          exact this
        · obtain ⟨hh, es⟩ : ∃ h, gfO N i (gfG N i) = some h := by
            cases e : gfO N i (gfG N i) with
            | none => rw [e] at c42; exact absurd rfl c42
            | some h => exact ⟨h, rfl⟩
          have hs9 := gfI_some es
          have eo : oG (gfO N i (gfG N i)) = nI hh := by rw [es]; rfl
          refine aw_iload_n dX4_giftOf_45 rfl ?_
          refine aw_iconst (v := 1) dX4_giftOf_46 rfl ?_
          refine aw_iload_n dX4_giftOf_47 rfl ?_
          refine aw_ishl dX4_giftOf_48 ?_
          refine aw_ior dX4_giftOf_49 ?_
          refine AW.top (y := nI (gfG N i + 2 ^ hh)) (by rw [eo]; exact (gv_or _ hgl hh (by omega) hs9.2.1).1) ?_
          refine aw_istore_n dX4_giftOf_50 (by decide) rfl ?_
          refine aw_iinc dX4_giftOf_51 rfl rfl (by decide) rfl ?_
          refine aw_iinc dX4_giftOf_54 rfl (ginc rfl) (by decide) rfl ?_
          refine aw_goto (tgt := 15) dX4_giftOf_57 rfl ?_
          have e1 := gfG_some es
          have e2 := (gfI_some es).2.2.2
          have e3 : nI (mGv N i (gfG N i)) + Int32.ofInt (-1) = nI (mGv N (i + 1) (gfG N (i + 1))) := by
            rw [e1, ← e2, Nat.add_comm]
            exact nI_dn _
          have := ih (by omega) (oG (gfO N i (gfG N i))) J2 (hF.tr hP) (fun _ => rfl)
          rw [← e3, e1] at this
          exact this
  refine aw_iconst (v := 0) dX4_giftOf_0 rfl ?_
  refine aw_istore_n dX4_giftOf_1 (by decide) rfl ?_
  refine aw_iconst (v := (-1)) dX4_giftOf_2 rfl ?_
  refine aw_istore_n dX4_giftOf_3 (by decide) rfl ?_
  refine aw_aload_n dX4_giftOf_4 rfl ?_
  refine aw_iconst (v := 0) dX4_giftOf_5 rfl ?_
  refine aw_iconst (v := 0) dX4_giftOf_6 rfl ?_
  refine aw_eV dX4_giftOf_7 kX4_46 mX4_largest (sX4_largest hX hN hA (a := 0) (g9 := 0) rfl rfl (Nat.zero_le _) (by decide)) (Nat.le_of_ble_eq_true rfl) hX.mat.1 ⟨by decide, rfl⟩ (hX.lt (by decide)) rfl rfl (Nat.le_of_ble_eq_true rfl) ⟨Nat.le_refl _, Nat.le_refl _⟩ (fun J1 h1 => ?_)
  
  refine aw_istore dX4_giftOf_10 (by decide) rfl ?_
  refine aw_iconst (v := 0) dX4_giftOf_12 rfl ?_
  refine aw_istore dX4_giftOf_13 (by decide) rfl ?_
  exact loop 0 (Nat.zero_le _) (-1) J1 h1 (fun z => absurd z (Nat.lt_irrefl 0))
set_option maxHeartbeats 4000000 in
set_option maxRecDepth 100000 in
theorem sX4_look (hX : IsX n sh) (hC : CtS I L 1 N Q) (hIv : Iv N)  : CM yX4_look cX4_look 4 (Option.none : Option FieldType) 4 0 0 [.ref 484, .ref 1] z n sh I L (Ef none (fun J => M4F I J ∧ MaA N J) z n sh L) := by
  refine CM.go [some (.ref 484), some (.ref 1), none, none] rfl rfl (Nat.le_of_ble_eq_true rfl) (fun X g q => ?_)
  have hO := hIv.ok
  have hN := hO.1
  have hR := hO.2.1
  have hB := hO.2.2.1
  have hE := hO.2.2.2
  have h8 := hN.p8
  have h10 := hN.h10
  have hS := hX.now
  have loop : ∀ i, i ≤ nPo N → ∀ a3 (J : MI), M4F I J → J 484 2 = nI (nPo N) → (∀ p, p < i → J 485 p = iset (fun h => mCan N p h) (nHo N)) → AW X g RX4 cX4_look 4 (4, 0, 0) (z, n, sh, 0, 0) (J) (L) 10 [some (.ref 484), some (.ref 1), some (.int (nI i)), a3] [] := by
    refine up_loop (fun i hi ih a3 J hF h5 hA => ?_)
    have hJ : CtS J L 1 N Q := hF.ct hC hN
    refine aw_iload_n dX4_look_10 rfl ?_
    refine aw_aload_n dX4_look_11 rfl ?_
    refine aw_getI dX4_look_12 fX4_24 hX.mat.1 (hX.lt (by decide)) rfl ?_
    refine AW.top h5 ?_
    refine aw_icmp_ge (tgt := 55) dX4_look_15 rfl (fun c15 => ?_) (fun c15 => ?_)
    · have e := ge_t rfl (by omega) hi c15
      subst e
      refine aw_vret q rfl dX4_look_55 ⟨Nat.le_refl _, Nat.le_refl _⟩ ?_
      exact ⟨rfl, rfl, rfl, rfl, rfl, hF, h5, hA⟩
    · have hlt := ge_f rfl (by omega) hi c15
      refine aw_aload_n dX4_look_18 rfl ?_
      refine aw_getR (b := 1 + 12) dX4_look_19 fX4_25 hS.k hS.b0 rfl hS.r1 ?_
      refine aw_iload_n dX4_look_22 rfl ?_
      refine aw_houses (p := i) hS rfl (by omega) dX4_look_23 ?_
      refine aw_astore_n dX4_look_24 (by decide) rfl ?_
      refine aw_aload_n dX4_look_25 rfl ?_
      refine aw_getR (b := 485) dX4_look_26 fX4_9 hX.mat.1 (hX.lt (by decide)) rfl hX.mat.2.1 ?_
      refine aw_iload_n dX4_look_29 rfl ?_
      refine aw_aload_n dX4_look_30 rfl ?_
      refine aw_cV dX4_look_31 kX4_29 mX3_isAble (sX3_isAble hS hJ hN hlt hB) (Nat.le_of_ble_eq_true rfl) (hS.po (by omega)) ⟨by decide, rfl⟩ (hS.pb (by omega)) rfl rfl (Nat.le_of_ble_eq_true rfl) ⟨Nat.le_refl _, Nat.le_refl _⟩ ?_
      refine aw_if_eq (tgt := 47) dX4_look_34 rfl (fun c34 => ?_) (fun c34 => ?_)
      · refine aw_iconst (v := 0) dX4_look_47 rfl ?_
        refine aw_iastN (k := i) dX4_look_48 hX.mat.2.2.2.1.1 (hX.lt (by decide)) hX.mat.2.2.2.1.2 rfl (by omega) (by decide) ?_
        refine aw_iinc dX4_look_49 rfl (ginc rfl) (by decide) rfl ?_
        refine aw_goto (tgt := 10) dX4_look_52 rfl ?_
        have hcv : iset (fun h => mCan N i h) (nHo N) = 0 := iset_no (by omega) (fun h hh => by unfold mCan mCould; rw [bI0.mp c34]; exact Bool.and_false _)
        refine ih hlt _ _ (hF.put (by omega)) ((upI_n (Or.inl (by decide))).trans h5) (fun p hp => ?_)
        by_cases e : p = i
        · subst e
          exact upI_s.trans hcv.symm
        · rw [upI_n (Or.inr e)]
          exact hA p (by omega)
      · refine aw_aload_n dX4_look_37 rfl ?_
        refine aw_aload_n dX4_look_38 rfl ?_
        refine aw_iconst (v := 1) dX4_look_39 rfl ?_
        refine aw_iconst (v := 1) dX4_look_40 rfl ?_
        refine aw_cV dX4_look_41 kX4_35 mX7_homesThatFit (sX7_homesThatFit hS hJ hO hlt (Or.inr rfl) (Or.inr rfl)) (Nat.le_of_ble_eq_true rfl) hS.k ⟨by decide, rfl⟩ hS.b0 rfl rfl (Nat.le_of_ble_eq_true rfl) ⟨Nat.le_refl _, Nat.le_refl _⟩ ?_
        refine AW.top (y := iset (fun h => mCan N i h) (nHo N)) (by rw [can_iset (by have := bI1.mp c34; exact this)]) ?_
        refine aw_goto (tgt := 48) dX4_look_44 rfl ?_
        refine aw_iastN (k := i) dX4_look_48 hX.mat.2.2.2.1.1 (hX.lt (by decide)) hX.mat.2.2.2.1.2 rfl (by omega) (by decide) ?_
        refine aw_iinc dX4_look_49 rfl (ginc rfl) (by decide) rfl ?_
        refine aw_goto (tgt := 10) dX4_look_52 rfl ?_
        refine ih hlt _ _ (hF.put (by omega)) ((upI_n (Or.inl (by decide))).trans h5) (fun p hp => ?_)
        by_cases e : p = i
        · subst e
          exact upI_s
        · rw [upI_n (Or.inr e)]
          exact hA p (by omega)
  refine aw_aload_n dX4_look_0 rfl ?_
  refine aw_aload_n dX4_look_1 rfl ?_
  refine aw_getI dX4_look_2 fX4_18 hS.k hS.b0 rfl ?_
  refine AW.top (hC.np.trans hN.p) ?_
  refine aw_putI dX4_look_5 fX4_24 hX.mat.1 (hX.lt (by decide)) rfl rfl ?_
  refine aw_iconst (v := 0) dX4_look_8 rfl ?_
  refine aw_istore_n dX4_look_9 (by decide) rfl ?_
  exact loop 0 (Nat.zero_le _) none _ (M4F.rf.put (by omega)) upI_s (fun p hp => absurd hp (Nat.not_lt_zero p))
set_option maxHeartbeats 4000000 in
set_option maxRecDepth 100000 in
theorem sX10_most (hX : IsX n sh) (hC : CtS I L 1 N Q) (hIv : Iv N) : CM yX10_most cX10_most 1 (Option.some .int) 15 0 0 [.ref 0] z n sh I L (Cw 484 487 (aMost N) z n sh I L) := by
  refine CM.go [some (.ref 0)] rfl rfl (Nat.le_of_ble_eq_true rfl) (fun X g q => ?_)
  have hO := hIv.ok
  have hN := hO.1
  have hR := hO.2.1
  have hB := hO.2.2.1
  have hE := hO.2.2.2
  have h8 := hN.p8
  have h10 := hN.h10
  have hS := hX.now
  refine aw_aload_n dX10_most_0 rfl ?_
  refine aw_getR (b := 484) dX10_most_1 fX10_43 hX.k hX.b rfl hX.r5 ?_
  refine aw_aload_n dX10_most_4 rfl ?_
  refine aw_getR (b := 1) dX10_most_5 fX10_10 hX.k hX.b rfl hX.r0 ?_
  refine aw_eV dX10_most_8 kX10_325 mX4_look (sX4_look hX hC hIv) (Nat.le_of_ble_eq_true rfl) hX.mat.1 ⟨by decide, rfl⟩ (hX.lt (by decide)) rfl rfl (Nat.le_of_ble_eq_true rfl) ⟨Nat.le_refl _, Nat.le_refl _⟩ (fun J1 hj => ?_)
  obtain ⟨j1, j2⟩ := hj
  refine aw_aload_n dX10_most_11 rfl ?_
  refine aw_aload_n dX10_most_12 rfl ?_
  refine aw_getR (b := 484) dX10_most_13 fX10_43 hX.k hX.b rfl hX.r5 ?_
  refine aw_iconst (v := 0) dX10_most_16 rfl ?_
  refine aw_iconst (v := 0) dX10_most_17 rfl ?_
  refine aw_eV dX10_most_18 kX10_328 mX4_largest (sX4_largest hX hN j2 (a := 0) (g9 := 0) rfl rfl (Nat.zero_le _) (by decide)) (Nat.le_of_ble_eq_true rfl) hX.mat.1 ⟨by decide, rfl⟩ (hX.lt (by decide)) rfl rfl (Nat.le_of_ble_eq_true rfl) ⟨Nat.le_refl _, Nat.le_refl _⟩ (fun J2 h2 => ?_)
  
  refine aw_cV dX10_most_21 kX10_94 mX10_answer (sX10_answer hX) (Nat.le_of_ble_eq_true rfl) hX.k ⟨by decide, rfl⟩ hX.b rfl rfl (Nat.le_of_ble_eq_true rfl) ⟨Nat.le_refl _, Nat.le_refl _⟩ ?_
  refine aw_iret q rfl dX10_most_24 ⟨Nat.le_refl _, Nat.le_refl _⟩ ?_
  exact Cw.ok rfl (j1.tr h2.m4)
set_option maxHeartbeats 4000000 in
set_option maxRecDepth 100000 in
theorem sX10_gift (hX : IsX n sh) (hC : CtS I L 1 N Q) (hIv : Iv N) {x : Int32} : CM yX10_gift cX10_gift 2 (Option.some .int) 17 0 0 [.ref 0, .int x] z n sh I L (Cw 484 487 (aGift N x) z n sh I L) := by
  refine CM.go [some (.ref 0), some (.int x)] rfl rfl (Nat.le_of_ble_eq_true rfl) (fun X g q => ?_)
  have hO := hIv.ok
  have hN := hO.1
  have hR := hO.2.1
  have hB := hO.2.2.1
  have hE := hO.2.2.2
  have h8 := hN.p8
  have h10 := hN.h10
  have hS := hX.now
  cases h9x : mFrom x 0 (N 231 - 1) with
  | false =>
    refine aw_aload_n dX10_gift_0 rfl ?_
    refine aw_getR (b := 1) dX10_gift_1 fX10_10 hX.k hX.b rfl hX.r0 ?_
    refine aw_iload_n dX10_gift_4 rfl ?_
    refine aw_cV dX10_gift_5 kX10_176 mX7_houseAt (sX7_houseAtN hS hC hO h9x) (Nat.le_of_ble_eq_true rfl) hS.k ⟨by decide, rfl⟩ hS.b0 rfl rfl (Nat.le_of_ble_eq_true rfl) ⟨Nat.le_refl _, Nat.le_refl _⟩ ?_
    refine aw_ifnonnullN dX10_gift_8 ?_
    refine aw_aload_n dX10_gift_11 rfl ?_
    refine aw_iconst (v := 2) dX10_gift_12 rfl ?_
    refine aw_cV dX10_gift_13 kX10_76 mX10_fail (sX10_fail hX) (Nat.le_of_ble_eq_true rfl) hX.k ⟨by decide, rfl⟩ hX.b rfl rfl (Nat.le_of_ble_eq_true rfl) ⟨Nat.le_refl _, Nat.le_refl _⟩ ?_
    refine aw_iret q rfl dX10_gift_16 ⟨Nat.le_refl _, Nat.le_refl _⟩ ?_
    refine Cw.no ?_ (fun _ _ => rfl)
    unfold aGift
    rw [h9x]
    rfl
  | true =>
    obtain ⟨p, hp, rfl⟩ := from_ix hN.p (by omega) h9x
    have e9p : (nI p).toNatClampNeg = p := nI_clamp (by omega)
    refine aw_aload_n dX10_gift_0 rfl ?_
    refine aw_getR (b := 1) dX10_gift_1 fX10_10 hX.k hX.b rfl hX.r0 ?_
    refine aw_iload_n dX10_gift_4 rfl ?_
    refine aw_cV dX10_gift_5 kX10_176 mX7_houseAt (sX7_houseAt hS hC hO rfl hp) (Nat.le_of_ble_eq_true rfl) hS.k ⟨by decide, rfl⟩ hS.b0 rfl rfl (Nat.le_of_ble_eq_true rfl) ⟨Nat.le_refl _, Nat.le_refl _⟩ ?_
    refine aw_ifnonnull (tgt := 17) dX10_gift_8 rfl ?_
    refine aw_aload_n dX10_gift_17 rfl ?_
    refine aw_getR (b := 484) dX10_gift_18 fX10_43 hX.k hX.b rfl hX.r5 ?_
    refine aw_aload_n dX10_gift_21 rfl ?_
    refine aw_getR (b := 1) dX10_gift_22 fX10_10 hX.k hX.b rfl hX.r0 ?_
    refine aw_eV dX10_gift_25 kX10_325 mX4_look (sX4_look hX hC hIv) (Nat.le_of_ble_eq_true rfl) hX.mat.1 ⟨by decide, rfl⟩ (hX.lt (by decide)) rfl rfl (Nat.le_of_ble_eq_true rfl) ⟨Nat.le_refl _, Nat.le_refl _⟩ (fun J1 hj => ?_)
    obtain ⟨j1, j2⟩ := hj
    refine aw_aload_n dX10_gift_28 rfl ?_
    refine aw_aload_n dX10_gift_29 rfl ?_
    refine aw_getR (b := 484) dX10_gift_30 fX10_43 hX.k hX.b rfl hX.r5 ?_
    refine aw_iload_n dX10_gift_33 rfl ?_
    refine aw_eV dX10_gift_34 kX10_331 mX4_giftOf (sX4_giftOf hX hN j2 (p := p) rfl hp) (Nat.le_of_ble_eq_true rfl) hX.mat.1 ⟨by decide, rfl⟩ (hX.lt (by decide)) rfl rfl (Nat.le_of_ble_eq_true rfl) ⟨Nat.le_refl _, Nat.le_refl _⟩ (fun J2 h2 => ?_)
    
    refine aw_cV dX10_gift_37 kX10_147 mX10_answerIfAny (sX10_answerIfAny hX) (Nat.le_of_ble_eq_true rfl) hX.k ⟨by decide, rfl⟩ hX.b rfl rfl (Nat.le_of_ble_eq_true rfl) ⟨Nat.le_refl _, Nat.le_refl _⟩ ?_
    refine aw_iret q rfl dX10_gift_40 ⟨Nat.le_refl _, Nat.le_refl _⟩ ?_
    refine Cw.any ?_ (j1.tr h2.m4)
    unfold aGift
    rw [h9x, e9p]
    cases e : gfO N p (gfG N p) with
    | none => rfl
    | some h =>
      have hm : ¬ nI h = -1 := nI_ne_m1 (by have := (gfI_some e).1; omega)
      exact (if_neg hm).symm
end ClsS
