/-! the reference: the longest -/
def lH (N : Nat → Int32) (h : Nat) : Mvs := if mFree N h then lgF N 8 0 (nI h) else []
theorem lAll_len {N : Nat → Int32} : ∀ n, (pk2 (lH N) n).length ≤ 8 := fun n => pk2_le (fun p _ => by
  unfold lH
  split
  · exact lgF_len 8 _ _
  · exact Nat.zero_le _)
theorem lAll_eq (N : Nat → Int32) : lAll N = pk2 (lH N) (nHo N) := rfl
theorem m1_of {x : Int32} (h : ¬ x < -1) (h0 : x < 0) : x = -1 := by
  rw [Int32.lt_iff_toInt_lt, show (-1 : Int32).toInt = -1 by decide] at h
  rw [Int32.lt_iff_toInt_lt, show (0 : Int32).toInt = 0 by decide] at h0
  exact Int32.toInt.inj (by rw [show (-1 : Int32).toInt = -1 by decide]; omega)
section RefS
variable {z n m : Nat} {sh : Shp} {I : MI} {L : ML}
set_option maxHeartbeats 4000000 in
set_option maxRecDepth 100000 in
theorem rX11_longest (hM : IsM n sh m) {N : Nat → Int32} (hI : I (m + 1) = N) (hN : Cn N) (hC : Co N) {x t : Int32} : CM yX11_longest cX11_longest 4 (Option.some .int) 19 0 0 [.ref m, .int x, .int t] z n sh I L (TlS (aLongest N x t) z n sh I L m) := by
  refine CM.go [some (.ref m), some (.int x), some (.int t), none] rfl rfl (Nat.le_of_ble_eq_true rfl) (fun X g q => ?_)
  have h10 := hN.h10
  have loop : ¬ x < -1 → ∀ i, i ≤ nHo N → ∀ (J : MI), MvF m I J → Bst m J (pk2 (lH N) i) → AW X g RX11 cX11_longest 4 (19, 0, 0) (z, n, sh, 0, 0) (J) (L) 18 [some (.ref m), some (.int x), some (.int t), some (.int (nI i))] [] := by
    intro hx
    refine up_loop (fun i hi ih J hF hB => ?_)
    have hI3 : J (m + 1) = N := (hF.1 _ (by omega) (by omega) (by omega) (by omega) (by omega)).trans hI
    have hl8 := lAll_len (N := N) i
    refine aw_iload_n dX11_longest_18 rfl ?_
    refine aw_aload_n dX11_longest_19 rfl ?_
    refine aw_getR (b := m + 1) dX11_longest_20 fX11_7 hM.k hM.b rfl hM.r0 ?_
    refine aw_sipush (v := 230) dX11_longest_23 rfl ?_
    refine aw_ialdH (k := 230) hI3 dX11_longest_26 hM.k0 hM.b0 hM.l0 rfl (by decide) (by decide) ?_
    refine aw_icmp_ge (tgt := 51) dX11_longest_27 rfl (fun c27 => ?_) (fun c27 => ?_)
    · have e := ge_t hN.h (by omega) hi c27
      subst e
      refine aw_iload_n dX11_longest_51 rfl ?_
      refine aw_iconst (v := (-1)) dX11_longest_52 rfl ?_
      refine aw_icmp_ne (tgt := 65) dX11_longest_53 rfl (fun c53 => ?_) (fun c53 => ?_)
      · skip
        refine aw_iload_n dX11_longest_65 rfl ?_
        refine aw_aload_n dX11_longest_66 rfl ?_
        refine aw_getI dX11_longest_67 fX11_383 hM.k hM.b rfl ?_
        refine AW.top hB.1 ?_
        refine aw_icmp_ge (tgt := 99) dX11_longest_70 rfl (fun c70 => ?_) (fun c70 => ?_)
        · skip
          refine aw_aload_n dX11_longest_99 rfl ?_
          refine aw_iconst (v := 5) dX11_longest_100 rfl ?_
          refine aw_cV dX11_longest_101 kX11_186 mX11_refuse (sX11_refuse hM) (Nat.le_of_ble_eq_true rfl) hM.k ⟨by decide, rfl⟩ hM.b rfl rfl (Nat.le_of_ble_eq_true rfl) ⟨Nat.le_refl _, Nat.le_refl _⟩ ?_
          refine aw_iret q rfl dX11_longest_104 ⟨Nat.le_refl _, Nat.le_refl _⟩ ?_
          refine TlS.no ?_ hF.rsc
          unfold aLongest
          rw [if_neg hx, lAll_eq, if_neg c53, if_neg (Int32.not_lt.mpr c70)]
        · have c70 := Int32.not_le.mp c70
          have hlt2 := c70
          obtain ⟨u, hu, rfl⟩ : ∃ u, u < (pk2 (lH N) (nHo N)).length ∧ x = nI u := by
            have h0 : ¬ x < 0 := fun z => c53 (m1_of hx z)
            obtain ⟨u, hu, e⟩ := nI_of h0
            refine ⟨u, ?_, e⟩
            rw [e] at c70
            exact (nI_ltI hu (by omega)).mp c70
          obtain ⟨b1, b2⟩ := hB.2 u hu
          refine aw_aload_n dX11_longest_73 rfl ?_
          refine aw_iload_n dX11_longest_74 rfl ?_
          refine aw_if_eq (tgt := 87) dX11_longest_75 rfl (fun c75 => ?_) (fun c75 => ?_)
          · skip
            refine aw_aload_n dX11_longest_87 rfl ?_
            refine aw_getR (b := m + 12) dX11_longest_88 fX11_51 hM.k hM.b rfl hM.r11 ?_
            refine aw_iload_n dX11_longest_91 rfl ?_
            refine aw_ialdN (k := u) dX11_longest_92 hM.k11 hM.b11 hM.l11 rfl (by omega) (by decide) ?_
            refine AW.top b1 ?_
            refine aw_cV dX11_longest_93 kX11_199 mX11_gives (sX11_gives hM) (Nat.le_of_ble_eq_true rfl) hM.k ⟨by decide, rfl⟩ hM.b rfl rfl (Nat.le_of_ble_eq_true rfl) ⟨Nat.le_refl _, Nat.le_refl _⟩ ?_
            refine aw_goto (tgt := 104) dX11_longest_96 rfl ?_
            refine aw_iret q rfl dX11_longest_104 ⟨Nat.le_refl _, Nat.le_refl _⟩ ?_
            refine TlS.ok ?_ hF.rsc
            unfold aLongest
            rw [if_neg hx, lAll_eq]
            rw [if_neg c53, if_pos hlt2, nI_clamp (by omega), if_pos c75]
          · skip
            refine aw_aload_n dX11_longest_78 rfl ?_
            refine aw_getR (b := m + 13) dX11_longest_79 fX11_54 hM.k hM.b rfl hM.r12 ?_
            refine aw_iload_n dX11_longest_82 rfl ?_
            refine aw_ialdN (k := u) dX11_longest_83 hM.k12 hM.b12 hM.l12 rfl (by omega) (by decide) ?_
            refine AW.top b2 ?_
            refine aw_goto (tgt := 93) dX11_longest_84 rfl ?_
            refine aw_cV dX11_longest_93 kX11_199 mX11_gives (sX11_gives hM) (Nat.le_of_ble_eq_true rfl) hM.k ⟨by decide, rfl⟩ hM.b rfl rfl (Nat.le_of_ble_eq_true rfl) ⟨Nat.le_refl _, Nat.le_refl _⟩ ?_
            refine aw_goto (tgt := 104) dX11_longest_96 rfl ?_
            refine aw_iret q rfl dX11_longest_104 ⟨Nat.le_refl _, Nat.le_refl _⟩ ?_
            refine TlS.ok ?_ hF.rsc
            unfold aLongest
            rw [if_neg hx, lAll_eq]
            rw [if_neg c53, if_pos hlt2, nI_clamp (by omega), if_neg c75]
      · skip
        refine aw_aload_n dX11_longest_56 rfl ?_
        refine aw_aload_n dX11_longest_57 rfl ?_
        refine aw_getI dX11_longest_58 fX11_383 hM.k hM.b rfl ?_
        refine AW.top hB.1 ?_
        refine aw_cV dX11_longest_61 kX11_199 mX11_gives (sX11_gives hM) (Nat.le_of_ble_eq_true rfl) hM.k ⟨by decide, rfl⟩ hM.b rfl rfl (Nat.le_of_ble_eq_true rfl) ⟨Nat.le_refl _, Nat.le_refl _⟩ ?_
        refine aw_iret q rfl dX11_longest_64 ⟨Nat.le_refl _, Nat.le_refl _⟩ ?_
        refine TlS.ok ?_ hF.rsc
        unfold aLongest
        rw [if_neg hx, lAll_eq]
        rw [if_pos c53]
    · have hlt := ge_f hN.h (by omega) hi c27
      refine aw_aload_n dX11_longest_30 rfl ?_
      refine aw_iload_n dX11_longest_31 rfl ?_
      refine aw_cV dX11_longest_32 kX11_219 mX11_isFree (rX11_isFree (h := i) hM hI3 rfl (by omega)) (Nat.le_of_ble_eq_true rfl) hM.k ⟨by decide, rfl⟩ hM.b rfl rfl (Nat.le_of_ble_eq_true rfl) ⟨Nat.le_refl _, Nat.le_refl _⟩ ?_
      refine aw_if_eq (tgt := 45) dX11_longest_35 rfl (fun c35 => ?_) (fun c35 => ?_)
      · have hfr := bI0.mp c35
        refine aw_iinc dX11_longest_45 rfl (ginc rfl) (by decide) rfl ?_
        refine aw_goto (tgt := 18) dX11_longest_48 rfl ?_
        have e9 : lH N i = [] := by unfold lH; rw [hfr]; rfl
        exact ih hlt J hF (by rw [pk2_skip e9]; exact hB)
      · have hfr := bI1.mp c35
        refine aw_aload_n dX11_longest_38 rfl ?_
        refine aw_iload_n dX11_longest_39 rfl ?_
        refine aw_iconst (v := 0) dX11_longest_40 rfl ?_
        refine aw_iconst (v := 0) dX11_longest_41 rfl ?_
        refine aw_eV dX11_longest_42 kX11_386 mX11_movesOn (show CM yX11_movesOn cX11_movesOn 6 (Option.none : Option FieldType) (8 + 6) 0 0 [.ref m, .int (nI i), .int 0, .int 0] z n sh J L (Ef none (fun K => MvF m J K ∧ Rw K (m + 10) (m + 11) [] ∧ Bst m K (bt2 (pk2 (lH N) i) ([] ++ lgF N 8 0 (nI i)))) z n sh L) from rX11_movesOn hM hN hC 8 0 J (nI i) i [] (pk2 (lH N) i) hI3 rfl (by omega) (by decide) rfl rfl Rw.nil hB (Nat.zero_le _) hl8) (Nat.le_of_ble_eq_true rfl) hM.k ⟨by decide, rfl⟩ hM.b rfl rfl (Nat.le_of_ble_eq_true rfl) ⟨Nat.le_refl _, Nat.le_refl _⟩ (fun K hK => ?_)
        obtain ⟨k1, -, k3⟩ := hK
        refine aw_iinc dX11_longest_45 rfl (ginc rfl) (by decide) rfl ?_
        refine aw_goto (tgt := 18) dX11_longest_48 rfl ?_
        have e9 : lH N i = lgF N 8 0 (nI i) := by unfold lH; rw [hfr]; rfl
        exact ih hlt K (hF.tr k1) (by rw [pk2, e9]; exact k3)
  refine aw_iload_n dX11_longest_0 rfl ?_
  refine aw_iconst (v := (-1)) dX11_longest_1 rfl ?_
  refine aw_icmp_ge (tgt := 11) dX11_longest_2 rfl (fun c2 => ?_) (fun c2 => ?_)
  · have hx : ¬ x < -1 := Int32.not_lt.mpr c2
    refine aw_aload_n dX11_longest_11 rfl ?_
    refine aw_iconst (v := 0) dX11_longest_12 rfl ?_
    refine aw_putI dX11_longest_13 fX11_383 hM.k hM.b rfl rfl ?_
    refine aw_iconst (v := 0) dX11_longest_16 rfl ?_
    refine aw_istore_n dX11_longest_17 (by decide) rfl ?_
    exact loop hx 0 (Nat.zero_le _) _ (MvF.rf.put (Or.inl ⟨rfl, rfl⟩)) ⟨upI_s, Rw.nil⟩
  · have hx : x < -1 := Int32.not_le.mp c2
    refine aw_aload_n dX11_longest_5 rfl ?_
    refine aw_iconst (v := 1) dX11_longest_6 rfl ?_
    refine aw_cV dX11_longest_7 kX11_186 mX11_refuse (sX11_refuse hM) (Nat.le_of_ble_eq_true rfl) hM.k ⟨by decide, rfl⟩ hM.b rfl rfl (Nat.le_of_ble_eq_true rfl) ⟨Nat.le_refl _, Nat.le_refl _⟩ ?_
    refine aw_iret q rfl dX11_longest_10 ⟨Nat.le_refl _, Nat.le_refl _⟩ ?_
    refine TlS.no ?_ RSc.rf
    unfold aLongest
    rw [if_pos hx]
end RefS
