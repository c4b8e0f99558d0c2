/-! the class: the largest -/
theorem hdN_pos {hd : Nat → Int32} {r : Int32} {h : Nat} (hh : h < 10) (e : hd h = r) : 0 < hdN hd r := by
  unfold hdN
  rw [cnt_del (R := fun h => decide (hd h = r)) (decide_eq_true e) hh]
  exact Nat.succ_pos _
theorem hdN_get {hd : Nat → Int32} {r : Int32} (h : 0 < hdN hd r) : ∃ k, k < 10 ∧ hd k = r := by
  refine Classical.byContradiction (fun hno => ?_)
  have : hdN hd r = 0 := (cnt0_iff 10).mpr (fun k hk => decide_eq_false (fun e => hno ⟨k, hk, e⟩))
  omega
theorem HdO.v {N : Nat → Int32} {a i g : Nat} {hd : Nat → Int32} (h : HdO (mEd N) a i g hd) (hi : i ≤ nPo N) : HdV N hd := fun k hk => by
  rcases h.1 k hk with z | ⟨w, w1, w2, w3, w4, -⟩
  · exact Or.inl z
  · exact Or.inr ⟨w, by omega, w3, w4⟩
theorem HdO.up {C : Nat → Nat → Bool} {a i g : Nat} {hd : Nat → Int32} (h : HdO C a i g hd) : HdO C a (i + 1) g hd := ⟨fun k hk => by
  rcases h.1 k hk with z | ⟨w, w1, w2, w3, w4⟩
  · exact Or.inl z
  · exact Or.inr ⟨w, w1, by omega, w3, w4⟩, h.2⟩
theorem hd_yes {N : Nat → Int32} {a i g c : Nat} {hd hd2 : Nat → Int32} (hi : i < 8) (ha : a ≤ i) (hO : HdO (mEd N) a i g hd) (hm : IsMx (mEd N) a i g c) (hc : c + hdN hd (-1) = 10) (hp : PlT N g i hd hd2) (hn : nPo N ≤ 8) : HdO (mEd N) a (i + 1) g hd2 ∧ IsMx (mEd N) a (i + 1) g (c + 1) ∧ c + 1 + hdN hd2 (-1) = 10 := by
  have hne : ¬ (-1 : Int32) = nI i := fun e => nI_ne_m1 (by omega) e.symm
  have h1 := hp.1 (-1)
  rw [show one ((-1 : Int32) = -1) = 1 from if_pos rfl, show one ((-1 : Int32) = nI i) = 0 from if_neg hne] at h1
  have hr : ∀ r, ¬ r = -1 → hdN hd2 r = hdN hd r + one (r = nI i) := fun r hr => by
    have := hp.1 r
    rw [show one (r = -1) = 0 from if_neg hr] at this
    exact this
  have h0 : hdN hd (nI i) = 0 := by
    rcases Nat.eq_zero_or_pos (hdN hd (nI i)) with z | z
    · exact z
    · obtain ⟨k, hk, e⟩ := hdN_get z
      rcases hO.1 k hk with w | ⟨w, w1, w2, w3, -⟩
      · rw [e] at w
        exact absurd w (nI_ne_m1 (by omega))
      · rw [e] at w3
        have := (nI_eq (by omega) (by omega)).mp w3
        omega
  have hO2 : HdO (mEd N) a (i + 1) g hd2 := by
    refine ⟨fun h hh => ?_, fun r hr1 => ?_⟩
    · rcases hp.2 h hh with z | ⟨z1, w, w1, w2, w3⟩
      · rw [z]
        exact hO.up.1 h hh
      · refine Or.inr ⟨w, ?_⟩
        have hw := hr (nI w) (nI_ne_m1 (by omega))
        have hpos := hdN_pos hh w2
        by_cases e : w = i
        · subst e
          exact ⟨ha, by omega, w2, w3, z1⟩
        · rw [hw, show one (nI w = nI i) = 0 from if_neg (fun z => e ((nI_eq (by omega) (by omega)).mp z))] at hpos
          obtain ⟨k, hk, ek⟩ := hdN_get (r := nI w) (hd := hd) hpos
          rcases hO.1 k hk with q | ⟨w9, q1, q2, q3, -⟩
          · rw [ek] at q
            exact absurd q (nI_ne_m1 (by omega))
          · rw [ek] at q3
            have := (nI_eq (by omega) (by omega)).mp q3
            subst this
            exact ⟨q1, by omega, w2, w3, z1⟩
    · rw [hr r hr1]
      by_cases e : r = nI i
      · rw [e, h0]
        unfold one
        split <;> omega
      · rw [show one (r = nI i) = 0 from if_neg e]
        exact hO.2 r hr1
  refine ⟨hO2, hm.more ?_, by omega⟩
  obtain ⟨f, f1, f2⟩ := hO2.mt (by omega)
  exact ⟨f, f1, by omega⟩
theorem hd_no {N : Nat → Int32} {a i g c v2 : Nat} {hd : Nat → Int32} (hi : i < 8) (ha : a ≤ i) (hO : HdO (mEd N) a i g hd) (hm : IsMx (mEd N) a i g c) (hc : c + hdN hd (-1) = 10) (hp : PlN N g v2 i hd) (hn : nPo N ≤ 8) : HdO (mEd N) a (i + 1) g hd ∧ IsMx (mEd N) a (i + 1) g c := by
  have hO2 := hO.up
  refine ⟨hO2, hm.same ?_ ?_⟩
  · obtain ⟨f, f1, f2⟩ := hO2.mt (by omega)
    exact ⟨f, f1, by omega⟩
  · have hz : ∀ h, h < 10 → (v2.testBit h && !g.testBit h) = true → ∃ w, a ≤ w ∧ w < i ∧ hd h = nI w ∧ (hd h).toNatClampNeg = w ∧ mEd N w h = true ∧ g.testBit h = false ∧ ∀ l, l < 10 → mEd N w l = true → v2.testBit l = true := fun h hh z => by
      obtain ⟨z1, z2⟩ := andT z
      have z2 : g.testBit h = false := by
        cases b : g.testBit h with
        | false => rfl
        | true => rw [b] at z2; cases z2
      obtain ⟨w, w1, w2, w3, w4⟩ := hp.1 h hh z1 z2
      rcases hO.1 h hh with q | ⟨w9, q1, q2, q3, -⟩
      · rw [w2] at q
        exact absurd q (nI_ne_m1 (by omega))
      · rw [w2] at q3
        have := (nI_eq (by omega) (by omega)).mp q3
        subst this
        exact ⟨w, q1, q2, w2, by rw [w2]; exact nI_clamp (by omega), w3, z2, w4⟩
    refine no_more hm (Z := fun h => v2.testBit h && !g.testBit h) (hd := fun h => (hd h).toNatClampNeg) (fun h hh z => ?_) (fun h l hh hl z1 z2 e => ?_) (fun h hh hg z => ?_) ha
    · obtain ⟨w, w1, w2, w3, w4, w5, w6, -⟩ := hz h hh z
      show a ≤ (hd h).toNatClampNeg ∧ (hd h).toNatClampNeg < i ∧ mEd N (hd h).toNatClampNeg h = true ∧ _
      rw [w4]
      exact ⟨w1, w2, w5, w6⟩
    · obtain ⟨w, w1, w2, w3, w4, -⟩ := hz h hh z1
      obtain ⟨u, u1, u2, u3, u4, -⟩ := hz l hl z2
      have e : (hd h).toNatClampNeg = (hd l).toNatClampNeg := e
      rw [w4, u4] at e
      subst e
      exact hdN_inj (hO.2 (nI w) (nI_ne_m1 (by omega))) hh hl w3 u3
    · show (v2.testBit h && !g.testBit h) = true
      rw [hg, Bool.not_false, Bool.and_true]
      rcases z with z | ⟨l, hl, z1, z2⟩
      · exact hp.2 h hh z
      · obtain ⟨w, w1, w2, w3, w4, w5, w6, w7⟩ := hz l hl z1
        have z2 : mEd N (hd l).toNatClampNeg h = true := z2
        rw [w4] at z2
        exact w7 h hh z2
theorem hd_all {C : Nat → Nat → Bool} {a g : Nat} {hd : Nat → Int32} (h : ∀ k, k < 10 → hd k = -1) : HdO C a a g hd ∧ IsMx C a a g 0 ∧ 0 + hdN hd (-1) = 10 := by
  have e : hdN hd (-1) = 10 := by
    have := cnt_compl (fun k => decide (hd k = -1)) 10
    have h0 : fa_cnt (fun k => !decide (hd k = -1)) 10 = 0 := (cnt0_iff 10).mpr (fun k hk => by rw [h k hk]; rfl)
    unfold hdN
    omega
  refine ⟨⟨fun k hk => Or.inl (h k hk), fun r hr => ?_⟩, ⟨⟨fun _ => 10, fun s _ _ z => absurd z (Nat.lt_irrefl 10), sz_0 (Nat.le_refl _)⟩, fun f _ => by rw [sz_0 (Nat.le_refl _)]; exact Nat.le_refl 0⟩, by omega⟩
  have : hdN hd r = 0 := (cnt0_iff 10).mpr (fun k hk => by rw [h k hk]; exact decide_eq_false (fun z => hr z.symm))
  omega
theorem HdO.cg {C : Nat → Nat → Bool} {a i g : Nat} {hd hd2 : Nat → Int32} (h : HdO C a i g hd) (e : ∀ k, k < 10 → hd2 k = hd k) : HdO C a i g hd2 := ⟨fun k hk => by rw [e k hk]; exact h.1 k hk, fun r hr => by rw [hdN_cg e]; exact h.2 r hr⟩
section ClsS
variable {z n : Nat} {sh : Shp} {I : MI} {L : ML} {N : Nat → Int32} {Q : Nat → Int64}
set_option maxHeartbeats 4000000 in
set_option maxRecDepth 100000 in
theorem sX4_largest (hX : IsX n sh) (hN : Cn N) (hA : MaA N I) {x y : Int32} {a g9 : Nat} (hx : x = nI a) (hy : y = nI g9) (ha : a ≤ nPo N) (hg : g9 < 1024)  : CM yX4_largest cX4_largest 5 (Option.some .int) 14 0 0 [.ref 484, .int x, .int y] z n sh I L (Ef (some (.int (nI (mGv N a g9)))) (MaF I) z n sh L) := by
  refine CM.go [some (.ref 484), some (.int x), some (.int y), none, none] rfl rfl (Nat.le_of_ble_eq_true rfl) (fun X g q => ?_)
  have h8 := hN.p8
  have h10 := hN.h10
  subst hx hy
  have l2 : ∀ i, i ≤ nPo N → ∀ (c : Nat) (J : MI), MaF I J → a ≤ i → HdO (mEd N) a i g9 (J 486) → IsMx (mEd N) a i g9 c → c + hdN (J 486) (-1) = 10 → AW X g RX4 cX4_largest 5 (14, 0, 0) (z, n, sh, 0, 0) (J) (L) 26 [some (.ref 484), some (.int (nI a)), some (.int (nI g9)), some (.int (nI c)), some (.int (nI i))] [] := by
    refine up_loop (fun i hi ih c J hF hai hO hm hc => ?_)
    have hA2 := hF.ma hA
    have hpc := pc10_le (v := g9)
    refine aw_iload dX4_largest_26 rfl ?_
    refine aw_aload_n dX4_largest_28 rfl ?_
    refine aw_getI dX4_largest_29 fX4_24 hX.mat.1 (hX.lt (by decide)) rfl ?_
    refine AW.top hA2.1 ?_
    refine aw_icmp_ge (tgt := 61) dX4_largest_32 rfl (fun c32 => ?_) (fun c32 => ?_)
    · have e := ge_t rfl (by omega) hi c32
      subst e
      refine aw_iload_n dX4_largest_61 rfl ?_
      refine aw_iret q rfl dX4_largest_62 ⟨Nat.le_refl _, Nat.le_refl _⟩ ?_
      have e9 : c = mGv N a g9 := hm.un (mGv_mx h10 (nPo N - a) a g9 (by omega) hg)
      exact ⟨congrArg (fun w => some (Value.int (nI w))) e9, rfl, rfl, rfl, rfl, hF⟩
    · have hlt := ge_f rfl (by omega) hi c32
      refine aw_aload_n dX4_largest_35 rfl ?_
      refine aw_iload_n dX4_largest_36 rfl ?_
      refine aw_iconst (v := (-1)) dX4_largest_37 rfl ?_
      refine aw_ixor dX4_largest_38 ?_
      refine aw_putI dX4_largest_39 fX4_39 hX.mat.1 (hX.lt (by decide)) rfl rfl ?_
      refine aw_aload_n dX4_largest_42 rfl ?_
      refine aw_iload dX4_largest_43 rfl ?_
      refine aw_iconst (v := 0) dX4_largest_45 rfl ?_
      refine aw_bS dX4_largest_46 kX4_42 mX4_place (sX4_place hX hN (10 - pc10 g9) g9 i 0 _ _ _ ((hF.put (Or.inl ⟨rfl, rfl⟩)).ma hA) (show HdV N (J 486) from hO.v (by omega)) upI_s hg (by omega) (by omega) hlt rfl rfl) (by show _ ≤ 14; omega) rfl rfl (Nat.le_of_ble_eq_true rfl) ⟨Nat.le_refl _, Nat.le_refl _⟩ (fun b J2 hP => ?_)
      
      refine aw_if_eq (tgt := 55) dX4_largest_49 rfl (fun c49 => ?_) (fun c49 => ?_)
      · skip
        refine aw_iinc dX4_largest_55 rfl (ginc rfl) (by decide) rfl ?_
        refine aw_goto (tgt := 26) dX4_largest_58 rfl ?_
        obtain ⟨p1, p2⟩ := hP
        have hbf := bI0.mp c49
        subst hbf
        obtain ⟨p2, u2, u3, u4, u5, u6⟩ := p2
        have p2 : ∀ h, h < 10 → J2 486 h = J 486 h := fun h hh => (p2 h hh).trans (congrFun (if_neg (by decide)) h)
        have u6 : PlN N g9 u2 i (J 486) := u6
        obtain ⟨q1, q2⟩ := hd_no (by omega) hai hO hm hc u6 h8
        exact ih hlt c J2 ((hF.put (Or.inl ⟨rfl, rfl⟩)).tr p1) (by omega) (q1.cg p2) q2 (by rw [hdN_cg p2]; exact hc)
      · skip
        refine aw_iinc dX4_largest_52 rfl (ginc rfl) (by decide) rfl ?_
        refine aw_iinc dX4_largest_55 rfl (ginc rfl) (by decide) rfl ?_
        refine aw_goto (tgt := 26) dX4_largest_58 rfl ?_
        obtain ⟨p1, p2⟩ := hP
        have hbt := bI1.mp c49
        subst hbt
        have p2 : PlT N g9 i (J 486) (J2 486) := p2
        obtain ⟨q1, q2, q3⟩ := hd_yes (by omega) hai hO hm hc p2 h8
        exact ih hlt (c + 1) J2 ((hF.put (Or.inl ⟨rfl, rfl⟩)).tr p1) (by omega) q1 q2 q3
  have l1 : ∀ i, i ≤ 10 → ∀ (J : MI), MaF I J → (∀ h, h < i → J 486 h = -1) → AW X g RX4 cX4_largest 5 (14, 0, 0) (z, n, sh, 0, 0) (J) (L) 2 [some (.ref 484), some (.int (nI a)), some (.int (nI g9)), some (.int (nI i)), none] [] := by
    refine up_loop (fun i hi ih J hF hm => ?_)
    refine aw_iload_n dX4_largest_2 rfl ?_
    refine aw_bipush (v := 10) dX4_largest_3 rfl ?_
    refine aw_icmp_ge (tgt := 21) dX4_largest_5 rfl (fun c5 => ?_) (fun c5 => ?_)
    · have e := ge_t (y := 10) (B := 10) rfl (by decide) hi c5
      subst e
      refine aw_iconst (v := 0) dX4_largest_21 rfl ?_
      refine aw_istore_n dX4_largest_22 (by decide) rfl ?_
      refine aw_iload_n dX4_largest_23 rfl ?_
      refine aw_istore dX4_largest_24 (by decide) rfl ?_
      obtain ⟨q1, q2, q3⟩ := hd_all (C := mEd N) (a := a) (g := g9) hm
      exact l2 a ha 0 J hF (Nat.le_refl a) q1 q2 q3
    · have hlt := ge_f (y := 10) (B := 10) rfl (by decide) hi c5
      refine aw_aload_n dX4_largest_8 rfl ?_
      refine aw_getR (b := 486) dX4_largest_9 fX4_15 hX.mat.1 (hX.lt (by decide)) rfl hX.mat.2.2.1 ?_
      refine aw_iload_n dX4_largest_12 rfl ?_
      refine aw_iconst (v := (-1)) dX4_largest_13 rfl ?_
      refine aw_iastN (k := i) dX4_largest_14 hX.mat.2.2.2.2.1 (hX.lt (by decide)) hX.mat.2.2.2.2.2 rfl (by omega) (by decide) ?_
      refine aw_iinc dX4_largest_15 rfl (ginc rfl) (by decide) rfl ?_
      refine aw_goto (tgt := 2) dX4_largest_18 rfl ?_
      refine ih hlt _ (hF.put (Or.inr rfl)) (fun h hh => ?_)
      by_cases e : h = i
      · subst e; exact upI_s
      · exact (upI_n (Or.inr e)).trans (hm h (by omega))
  refine aw_iconst (v := 0) dX4_largest_0 rfl ?_
  refine aw_istore_n dX4_largest_1 (by decide) rfl ?_
  exact l1 0 (Nat.zero_le _) I MaF.rf (fun h hh => absurd hh (Nat.not_lt_zero h))
end ClsS
