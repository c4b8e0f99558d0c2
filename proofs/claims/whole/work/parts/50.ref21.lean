/-! the reference: print, out -/
section RefS
variable {z n m : Nat} {sh : Shp} {I : MI} {L : ML}
set_option maxHeartbeats 4000000 in
set_option maxRecDepth 100000 in
theorem rX11_isTold (hM : IsM n sh m) {N : Nat → Int32} (hI : I (m + 1) = N) (hN : Cn N) {x : Int32} {h : Nat} (hx : x = nI h) (hh : h < 10) : CM yX11_isTold cX11_isTold 2 (Option.some .boolean) 4 0 0 [.ref m, .int x] z n sh I L (Pst (some (.int (bI (mTold N h)))) z n sh I L) := by
  refine CM.go [some (.ref m), some (.int x)] rfl rfl (Nat.le_of_ble_eq_true rfl) (fun X g q => ?_)
  refine aw_aload_n dX11_isTold_0 rfl ?_
  refine aw_iload_n dX11_isTold_1 rfl ?_
  refine aw_bipush (v := 6) dX11_isTold_2 rfl ?_
  refine aw_cV dX11_isTold_4 kX11_202 mX11_home0 (rX11_home0 (h := h) (w := 6) hM hI hx rfl (by omega)) (Nat.le_of_ble_eq_true rfl) hM.k ⟨by decide, rfl⟩ hM.b rfl rfl (Nat.le_of_ble_eq_true rfl) ⟨Nat.le_refl _, Nat.le_refl _⟩ ?_
  refine aw_if_ne (tgt := 37) dX11_isTold_7 rfl (fun c7 => ?_) (fun c7 => ?_)
  · refine aw_iconst (v := 0) dX11_isTold_37 rfl ?_
    refine aw_zret q rfl (by decide) dX11_isTold_38 ⟨Nat.le_refl _, Nat.le_refl _⟩ ?_
    refine Pst.iv ?_
    unfold mTold
    simp [bI, c7]
  · refine aw_aload_n dX11_isTold_10 rfl ?_
    refine aw_iload_n dX11_isTold_11 rfl ?_
    refine aw_iconst (v := 2) dX11_isTold_12 rfl ?_
    refine aw_cV dX11_isTold_13 kX11_202 mX11_home0 (rX11_home0 (h := h) (w := 2) hM hI hx rfl (by omega)) (Nat.le_of_ble_eq_true rfl) hM.k ⟨by decide, rfl⟩ hM.b rfl rfl (Nat.le_of_ble_eq_true rfl) ⟨Nat.le_refl _, Nat.le_refl _⟩ ?_
    refine aw_iconst (v := (-1)) dX11_isTold_16 rfl ?_
    refine aw_icmp_eq (tgt := 33) dX11_isTold_17 rfl (fun c17 => ?_) (fun c17 => ?_)
    · skip
      refine aw_iconst (v := 1) dX11_isTold_33 rfl ?_
      refine aw_goto (tgt := 38) dX11_isTold_34 rfl ?_
      refine aw_zret q rfl (by decide) dX11_isTold_38 ⟨Nat.le_refl _, Nat.le_refl _⟩ ?_
      refine Pst.iv ?_
      unfold mTold
      simp [bI, c7, c17]
    · obtain ⟨j, j8, hw⟩ : ∃ j, j < 8 ∧ N (8 * h + 2) = nI j := (hN.who hh).resolve_left c17
      have ej : (N (8 * h + 2)).toNatClampNeg = j := by
        rw [hw]
        exact nI_clamp (by omega)
      refine aw_aload_n dX11_isTold_20 rfl ?_
      refine aw_aload_n dX11_isTold_21 rfl ?_
      refine aw_iload_n dX11_isTold_22 rfl ?_
      refine aw_iconst (v := 2) dX11_isTold_23 rfl ?_
      refine aw_cV dX11_isTold_24 kX11_202 mX11_home0 (rX11_home0 (h := h) (w := 2) hM hI hx rfl (by omega)) (Nat.le_of_ble_eq_true rfl) hM.k ⟨by decide, rfl⟩ hM.b rfl rfl (Nat.le_of_ble_eq_true rfl) ⟨Nat.le_refl _, Nat.le_refl _⟩ ?_
      refine aw_cV dX11_isTold_27 kX11_208 mX11_isIn (rX11_isIn (p := j) hM hI hw (by omega)) (Nat.le_of_ble_eq_true rfl) hM.k ⟨by decide, rfl⟩ hM.b rfl rfl (Nat.le_of_ble_eq_true rfl) ⟨Nat.le_refl _, Nat.le_refl _⟩ ?_
      refine aw_if_eq (tgt := 37) dX11_isTold_30 rfl (fun c30 => ?_) (fun c30 => ?_)
      · refine aw_iconst (v := 0) dX11_isTold_37 rfl ?_
        refine aw_zret q rfl (by decide) dX11_isTold_38 ⟨Nat.le_refl _, Nat.le_refl _⟩ ?_
        refine Pst.iv ?_
        unfold mTold
        have f9 := bI0.mp c30
        rw [ej]
        simp [bI, c17, f9]
      · refine aw_iconst (v := 1) dX11_isTold_33 rfl ?_
        refine aw_goto (tgt := 38) dX11_isTold_34 rfl ?_
        refine aw_zret q rfl (by decide) dX11_isTold_38 ⟨Nat.le_refl _, Nat.le_refl _⟩ ?_
        refine Pst.iv ?_
        unfold mTold
        have f9 := bI1.mp c30
        rw [ej]
        simp [bI, c7, c17, f9]
set_option maxHeartbeats 4000000 in
set_option maxRecDepth 100000 in
theorem sX11_printsHouse (hM : IsM n sh m) {B : List Int32} (hB : Prt I m B) {N : Nat → Int32} (hI : I (m + 1) = N) (hN : Cn N) (hR : Rg N) {Q : Nat → Int64} (hQ : L (m + 6) = Q) {x : Int32} {p : Nat} (hx : x = nI p) (hp : p < nPo N) (hl : B.length + 116 ≤ 1800) : CM yX11_printsHouse cX11_printsHouse 3 (Option.none : Option FieldType) 5 0 0 [.ref m, .int x] z n sh I L (PtP z n sh I L m (B ++ txHouse N Q p)) := by
  refine CM.go [some (.ref m), some (.int x), none] rfl rfl (Nat.le_of_ble_eq_true rfl) (fun X g q => ?_)
  have hp8 : p < 8 := by have := hN.p8; omega
  have hw6 := hN.w6 hp8
  have loop2 : ∀ i, i ≤ nWi N p → ∀ (J : MI) (B3 : List Int32), PrF m I J → Prt J m (B3 ++ lcat (fun k => if mTold N (wiN N p k) then nmt (Q (wiN N p k)) else []) i) → B3.length ≤ B.length + 55 → B3 ++ lcat (fun k => if mTold N (wiN N p k) then nmt (Q (wiN N p k)) else []) (nWi N p) ++ [59] = B ++ txHouse N Q p → AW X g RX11 cX11_printsHouse 3 (5, 0, 0) (z, n, sh, 0, 0) (J) (L) 90 [some (.ref m), some (.int x), some (.int (nI i))] [] := by
    refine up_loop (fun i hi ih J B3 hF hBi hl3 hE => ?_)
    have hI3 := hF.now hI
    have hlen : (B3 ++ lcat (fun k => if mTold N (wiN N p k) then nmt (Q (wiN N p k)) else []) i).length ≤ B.length + 55 + 10 * i := by
      have := lcat_len (P := (fun k => if mTold N (wiN N p k) then nmt (Q (wiN N p k)) else [])) (B := 10) (fun k => by
        show (if mTold N (wiN N p k) then nmt (Q (wiN N p k)) else []).length ≤ 10
        split
        · exact nmt_len _
        · exact Nat.zero_le _) i
      rw [List.length_append]
      omega
    refine aw_iload_n dX11_printsHouse_90 rfl ?_
    refine aw_aload_n dX11_printsHouse_91 rfl ?_
    refine aw_iload_n dX11_printsHouse_92 rfl ?_
    refine aw_bipush (v := 11) dX11_printsHouse_93 rfl ?_
    refine aw_cV dX11_printsHouse_95 kX11_205 mX11_of (rX11_of (p := p) (w := 11) hM hI3 hx rfl (by omega)) (Nat.le_of_ble_eq_true rfl) hM.k ⟨by decide, rfl⟩ hM.b rfl rfl (Nat.le_of_ble_eq_true rfl) ⟨Nat.le_refl _, Nat.le_refl _⟩ ?_
    refine aw_icmp_ge (tgt := 136) dX11_printsHouse_98 rfl (fun c98 => ?_) (fun c98 => ?_)
    · have e := ge_t (hN.w hp8) (by omega) hi c98
      subst e
      refine aw_aload_n dX11_printsHouse_136 rfl ?_
      refine aw_bipush (v := 59) dX11_printsHouse_137 rfl ?_
      refine aw_callV dX11_printsHouse_139 kX11_400 mX11_prints (sX11_prints (c := 59) hM hBi (by omega) rfl (by decide)) (Nat.le_of_ble_eq_true rfl) hM.k ⟨by decide, rfl⟩ hM.b rfl rfl (Nat.le_of_ble_eq_true rfl) ⟨Nat.le_refl _, Nat.le_refl _⟩ (fun v2 z2 n2 sh2 J2 M2 hp2 => ?_)
      obtain ⟨rfl, rfl, rfl, rfl, rfl, hF2, hB2⟩ := hp2
      refine aw_vret q rfl dX11_printsHouse_142 ⟨Nat.le_refl _, Nat.le_refl _⟩ ?_
      refine ⟨rfl, rfl, rfl, rfl, rfl, hF.tr hF2, ?_⟩
      rw [← hE]
      exact hB2
    · have hlt := ge_f (hN.w hp8) (by omega) hi c98
      obtain ⟨j, j10, hj⟩ := hN.wi hp8 hlt
      have ej : wiN N p i = j := by
        unfold wiN
        rw [hj]
        exact nI_clamp (by omega)
      refine aw_aload_n dX11_printsHouse_101 rfl ?_
      refine aw_aload_n dX11_printsHouse_102 rfl ?_
      refine aw_iload_n dX11_printsHouse_103 rfl ?_
      refine aw_bipush (v := 12) dX11_printsHouse_104 rfl ?_
      refine aw_iload_n dX11_printsHouse_106 rfl ?_
      refine aw_iadd dX11_printsHouse_107 ?_
      refine AW.top (gadd rfl rfl) ?_
      refine aw_cV dX11_printsHouse_108 kX11_205 mX11_of (rX11_of (p := p) (w := (12 + i)) hM hI3 hx rfl (by omega)) (Nat.le_of_ble_eq_true rfl) hM.k ⟨by decide, rfl⟩ hM.b rfl rfl (Nat.le_of_ble_eq_true rfl) ⟨Nat.le_refl _, Nat.le_refl _⟩ ?_
      refine aw_cV dX11_printsHouse_111 kX11_413 mX11_isTold (rX11_isTold (h := j) hM hI3 hN hj j10) (Nat.le_of_ble_eq_true rfl) hM.k ⟨by decide, rfl⟩ hM.b rfl rfl (Nat.le_of_ble_eq_true rfl) ⟨Nat.le_refl _, Nat.le_refl _⟩ ?_
      refine aw_if_eq (tgt := 130) dX11_printsHouse_114 rfl (fun c114 => ?_) (fun c114 => ?_)
      · have f9 := bI0.mp c114
        refine aw_iinc dX11_printsHouse_130 rfl (ginc rfl) (by decide) rfl ?_
        refine aw_goto (tgt := 90) dX11_printsHouse_133 rfl ?_
        refine ih hlt J B3 hF ?_ hl3 hE
        have e : lcat (fun k => if mTold N (wiN N p k) then nmt (Q (wiN N p k)) else []) (i + 1) = lcat (fun k => if mTold N (wiN N p k) then nmt (Q (wiN N p k)) else []) i := by
          show lcat _ i ++ (if mTold N (wiN N p i) then nmt (Q (wiN N p i)) else []) = _
          rw [ej, f9]
          exact List.append_nil _
        rw [e]
        exact hBi
      · have f9 := bI1.mp c114
        refine aw_aload_n dX11_printsHouse_117 rfl ?_
        refine aw_aload_n dX11_printsHouse_118 rfl ?_
        refine aw_iload_n dX11_printsHouse_119 rfl ?_
        refine aw_bipush (v := 12) dX11_printsHouse_120 rfl ?_
        refine aw_iload_n dX11_printsHouse_122 rfl ?_
        refine aw_iadd dX11_printsHouse_123 ?_
        refine AW.top (gadd rfl rfl) ?_
        refine aw_cV dX11_printsHouse_124 kX11_205 mX11_of (rX11_of (p := p) (w := (12 + i)) hM hI3 hx rfl (by omega)) (Nat.le_of_ble_eq_true rfl) hM.k ⟨by decide, rfl⟩ hM.b rfl rfl (Nat.le_of_ble_eq_true rfl) ⟨Nat.le_refl _, Nat.le_refl _⟩ ?_
        refine aw_callV dX11_printsHouse_127 kX11_407 mX11_printsNamed (sX11_printsNamed (k := j) hM hBi (by omega) hj (by omega)) (Nat.le_of_ble_eq_true rfl) hM.k ⟨by decide, rfl⟩ hM.b rfl rfl (Nat.le_of_ble_eq_true rfl) ⟨Nat.le_refl _, Nat.le_refl _⟩ (fun v1 z1 n1 sh1 J1 M1 hp1 => ?_)
        obtain ⟨rfl, rfl, rfl, rfl, rfl, hF1, hB1⟩ := hp1
        refine aw_iinc dX11_printsHouse_130 rfl (ginc rfl) (by decide) rfl ?_
        refine aw_goto (tgt := 90) dX11_printsHouse_133 rfl ?_
        refine ih hlt J1 B3 (hF.tr hF1) ?_ hl3 hE
        have e : B3 ++ lcat (fun k => if mTold N (wiN N p k) then nmt (Q (wiN N p k)) else []) (i + 1) = B3 ++ lcat (fun k => if mTold N (wiN N p k) then nmt (Q (wiN N p k)) else []) i ++ nmt (Q j) := by
          show B3 ++ (lcat _ i ++ (if mTold N (wiN N p i) then nmt (Q (wiN N p i)) else [])) = _
          rw [ej, if_pos f9, List.append_assoc]
        rw [e]
        rw [hQ] at hB1
        exact hB1
  have loop1 : ∀ i, i ≤ 4 → ∀ (J : MI) (B1 : List Int32), PrF m I J → Prt J m (B1 ++ lcat (fun k => ntx (N (80 + 18 * p + k))) i) → B1.length ≤ B.length + 19 → B1 ++ lcat (fun k => ntx (N (80 + 18 * p + k))) 4 ++ (if mLives N p then [32] ++ wtx (wdK9 9) ++ nmt (Q (nHm N p)) else []) ++ lcat (fun k => if mTold N (wiN N p k) then nmt (Q (wiN N p k)) else []) (nWi N p) ++ [59] = B ++ txHouse N Q p → AW X g RX11 cX11_printsHouse 3 (5, 0, 0) (z, n, sh, 0, 0) (J) (L) 19 [some (.ref m), some (.int x), some (.int (nI i))] [] := by
    refine up_loop (fun i hi ih J B1 hF hBi hl1 hE => ?_)
    have hI3 := hF.now hI
    have hlen : (B1 ++ lcat (fun k => ntx (N (80 + 18 * p + k))) i).length ≤ B.length + 19 + 4 * i := by
      have := lcat_len (fun k => ntx_len (N (80 + 18 * p + k))) i
      rw [List.length_append]
      omega
    refine aw_iload_n dX11_printsHouse_19 rfl ?_
    refine aw_iconst (v := 3) dX11_printsHouse_20 rfl ?_
    refine aw_icmp_gt (tgt := 40) dX11_printsHouse_21 rfl (fun c21 => ?_) (fun c21 => ?_)
    · have e : i = 4 := by
        have := (nI_ltI (a := 3) (by decide) (by omega)).mp c21
        omega
      subst e
      refine aw_aload_n dX11_printsHouse_40 rfl ?_
      refine aw_iload_n dX11_printsHouse_41 rfl ?_
      refine aw_iconst (v := 4) dX11_printsHouse_42 rfl ?_
      refine aw_cV dX11_printsHouse_43 kX11_205 mX11_of (rX11_of (p := p) (w := 4) hM hI3 hx rfl (by omega)) (Nat.le_of_ble_eq_true rfl) hM.k ⟨by decide, rfl⟩ hM.b rfl rfl (Nat.le_of_ble_eq_true rfl) ⟨Nat.le_refl _, Nat.le_refl _⟩ ?_
      refine aw_iconst (v := (-1)) dX11_printsHouse_46 rfl ?_
      refine aw_icmp_eq (tgt := 88) dX11_printsHouse_47 rfl (fun c47 => ?_) (fun c47 => ?_)
      · have eL : mLives N p = false := by
          unfold mLives
          simp [c47]
        refine aw_iconst (v := 0) dX11_printsHouse_88 rfl ?_
        refine aw_istore_n dX11_printsHouse_89 (by decide) rfl ?_
        refine loop2 0 (Nat.zero_le _) J (B1 ++ lcat (fun k => ntx (N (80 + 18 * p + k))) 4) hF ?_ (by omega) ?_
        · rw [show lcat (fun k => if mTold N (wiN N p k) then nmt (Q (wiN N p k)) else []) 0 = [] from rfl, List.append_nil]
          exact hBi
        · rw [eL] at hE
          simpa using hE
      · obtain ⟨j, j10, hj⟩ : ∃ j, j < 10 ∧ N (80 + 18 * p + 4) = nI j := (hN.ho hp8).resolve_left c47
        have ej : nHm N p = j := by
          unfold nHm
          rw [hj]
          exact nI_clamp (by omega)
        refine aw_aload_n dX11_printsHouse_50 rfl ?_
        refine aw_aload_n dX11_printsHouse_51 rfl ?_
        refine aw_iload_n dX11_printsHouse_52 rfl ?_
        refine aw_iconst (v := 4) dX11_printsHouse_53 rfl ?_
        refine aw_cV dX11_printsHouse_54 kX11_205 mX11_of (rX11_of (p := p) (w := 4) hM hI3 hx rfl (by omega)) (Nat.le_of_ble_eq_true rfl) hM.k ⟨by decide, rfl⟩ hM.b rfl rfl (Nat.le_of_ble_eq_true rfl) ⟨Nat.le_refl _, Nat.le_refl _⟩ ?_
        refine aw_cV dX11_printsHouse_57 kX11_413 mX11_isTold (rX11_isTold (h := j) hM hI3 hN hj j10) (Nat.le_of_ble_eq_true rfl) hM.k ⟨by decide, rfl⟩ hM.b rfl rfl (Nat.le_of_ble_eq_true rfl) ⟨Nat.le_refl _, Nat.le_refl _⟩ ?_
        refine aw_if_eq (tgt := 88) dX11_printsHouse_60 rfl (fun c60 => ?_) (fun c60 => ?_)
        · have eL : mLives N p = false := by
            unfold mLives
            rw [ej, bI0.mp c60]
            exact Bool.and_false _
          refine aw_iconst (v := 0) dX11_printsHouse_88 rfl ?_
          refine aw_istore_n dX11_printsHouse_89 (by decide) rfl ?_
          refine loop2 0 (Nat.zero_le _) J (B1 ++ lcat (fun k => ntx (N (80 + 18 * p + k))) 4) hF ?_ (by omega) ?_
          · rw [show lcat (fun k => if mTold N (wiN N p k) then nmt (Q (wiN N p k)) else []) 0 = [] from rfl, List.append_nil]
            exact hBi
          · rw [eL] at hE
            simpa using hE
        · have eL : mLives N p = true := by
            unfold mLives
            rw [ej, bI1.mp c60]
            simp [c47]
          refine aw_aload_n dX11_printsHouse_63 rfl ?_
          refine aw_bipush (v := 32) dX11_printsHouse_64 rfl ?_
          refine aw_callV dX11_printsHouse_66 kX11_400 mX11_prints (sX11_prints (c := 32) hM hBi (by omega) rfl (by decide)) (Nat.le_of_ble_eq_true rfl) hM.k ⟨by decide, rfl⟩ hM.b rfl rfl (Nat.le_of_ble_eq_true rfl) ⟨Nat.le_refl _, Nat.le_refl _⟩ (fun v2 z2 n2 sh2 J2 M2 hp2 => ?_)
          obtain ⟨rfl, rfl, rfl, rfl, rfl, hF2, hB2⟩ := hp2
          refine aw_aload_n dX11_printsHouse_69 rfl ?_
          refine aw_bipush (v := 9) dX11_printsHouse_70 rfl ?_
          refine aw_cS dX11_printsHouse_72 kX11_126 mX11_wordOf (sX11_wordOf (k := 9) rfl (by decide)) (Nat.le_of_ble_eq_true rfl) rfl rfl (Nat.le_of_ble_eq_true rfl) ⟨Nat.le_refl _, Nat.le_refl _⟩ ?_
          refine aw_callV dX11_printsHouse_75 kX11_403 mX11_printsWord (sX11_printsWord hM hB2 (by rw [len_app1]; omega)) (Nat.le_of_ble_eq_true rfl) hM.k ⟨by decide, rfl⟩ hM.b rfl rfl (Nat.le_of_ble_eq_true rfl) ⟨Nat.le_refl _, Nat.le_refl _⟩ (fun v3 z3 n3 sh3 J3 M3 hp3 => ?_)
          obtain ⟨rfl, rfl, rfl, rfl, rfl, hF3, hB3⟩ := hp3
          refine aw_aload_n dX11_printsHouse_78 rfl ?_
          refine aw_aload_n dX11_printsHouse_79 rfl ?_
          refine aw_iload_n dX11_printsHouse_80 rfl ?_
          refine aw_iconst (v := 4) dX11_printsHouse_81 rfl ?_
          refine aw_cV dX11_printsHouse_82 kX11_205 mX11_of (rX11_of (p := p) (w := 4) hM ((hF2.tr hF3).now hI3) hx rfl (by omega)) (Nat.le_of_ble_eq_true rfl) hM.k ⟨by decide, rfl⟩ hM.b rfl rfl (Nat.le_of_ble_eq_true rfl) ⟨Nat.le_refl _, Nat.le_refl _⟩ ?_
          refine aw_callV dX11_printsHouse_85 kX11_407 mX11_printsNamed (sX11_printsNamed (k := j) hM hB3 (by have := wtx_len (wdK9 9); rw [List.length_append, len_app1]; omega) hj (by omega)) (Nat.le_of_ble_eq_true rfl) hM.k ⟨by decide, rfl⟩ hM.b rfl rfl (Nat.le_of_ble_eq_true rfl) ⟨Nat.le_refl _, Nat.le_refl _⟩ (fun v4 z4 n4 sh4 J4 M4 hp4 => ?_)
          obtain ⟨rfl, rfl, rfl, rfl, rfl, hF4, hB4⟩ := hp4
          refine aw_iconst (v := 0) dX11_printsHouse_88 rfl ?_
          refine aw_istore_n dX11_printsHouse_89 (by decide) rfl ?_
          refine loop2 0 (Nat.zero_le _) J4 (B1 ++ lcat (fun k => ntx (N (80 + 18 * p + k))) 4 ++ [32] ++ wtx (wdK9 9) ++ nmt (Q j)) (hF.tr ((hF2.tr hF3).tr hF4)) ?_ ?_ ?_
          · rw [show lcat (fun k => if mTold N (wiN N p k) then nmt (Q (wiN N p k)) else []) 0 = [] from rfl, List.append_nil]
            rw [hQ] at hB4
            exact hB4
          · have := wtx_len (wdK9 9)
            have := nmt_len (Q j)
            rw [List.length_append, List.length_append, len_app1]
            omega
          · rw [← hE, eL, if_pos rfl, ej]
            simp only [List.append_assoc]
    · have hlt : i < 4 := by
        have := mt (nI_ltI (a := 3) (by decide) (by omega)).mpr c21
        omega
      obtain ⟨v, v1, v2, v3⟩ := hR.k4 hp hlt
      refine aw_aload_n dX11_printsHouse_24 rfl ?_
      refine aw_aload_n dX11_printsHouse_25 rfl ?_
      refine aw_iload_n dX11_printsHouse_26 rfl ?_
      refine aw_iload_n dX11_printsHouse_27 rfl ?_
      refine aw_cV dX11_printsHouse_28 kX11_205 mX11_of (rX11_of (p := p) (w := i) hM hI3 hx rfl (by omega)) (Nat.le_of_ble_eq_true rfl) hM.k ⟨by decide, rfl⟩ hM.b rfl rfl (Nat.le_of_ble_eq_true rfl) ⟨Nat.le_refl _, Nat.le_refl _⟩ ?_
      refine aw_callV dX11_printsHouse_31 kX11_410 mX11_printsNumber (sX11_printsNumber (v := v) hM hBi (by omega) v1 v3) (Nat.le_of_ble_eq_true rfl) hM.k ⟨by decide, rfl⟩ hM.b rfl rfl (Nat.le_of_ble_eq_true rfl) ⟨Nat.le_refl _, Nat.le_refl _⟩ (fun v1 z1 n1 sh1 J1 M1 hp1 => ?_)
      obtain ⟨rfl, rfl, rfl, rfl, rfl, hF1, hB1⟩ := hp1
      refine aw_iinc dX11_printsHouse_34 rfl (ginc rfl) (by decide) rfl ?_
      refine aw_goto (tgt := 19) dX11_printsHouse_37 rfl ?_
      refine ih hlt J1 B1 (hF.tr hF1) ?_ hl1 hE
      have e : B1 ++ lcat (fun k => ntx (N (80 + 18 * p + k))) (i + 1) = B1 ++ lcat (fun k => ntx (N (80 + 18 * p + k))) i ++ ntx (N (80 + 18 * p + i)) := by
        show B1 ++ (lcat _ i ++ ntx (N (80 + 18 * p + i))) = _
        rw [List.append_assoc]
      rw [e]
      exact hB1
  refine aw_aload_n dX11_printsHouse_0 rfl ?_
  refine aw_bipush (v := 7) dX11_printsHouse_1 rfl ?_
  refine aw_cS dX11_printsHouse_3 kX11_126 mX11_wordOf (sX11_wordOf (k := 7) rfl (by decide)) (Nat.le_of_ble_eq_true rfl) rfl rfl (Nat.le_of_ble_eq_true rfl) ⟨Nat.le_refl _, Nat.le_refl _⟩ ?_
  refine aw_callV dX11_printsHouse_6 kX11_403 mX11_printsWord (sX11_printsWord hM hB (by omega)) (Nat.le_of_ble_eq_true rfl) hM.k ⟨by decide, rfl⟩ hM.b rfl rfl (Nat.le_of_ble_eq_true rfl) ⟨Nat.le_refl _, Nat.le_refl _⟩ (fun v1 z1 n1 sh1 J1 M1 hp1 => ?_)
  obtain ⟨rfl, rfl, rfl, rfl, rfl, hF1, hB1⟩ := hp1
  refine aw_aload_n dX11_printsHouse_9 rfl ?_
  refine aw_bipush (v := 10) dX11_printsHouse_10 rfl ?_
  refine aw_iload_n dX11_printsHouse_12 rfl ?_
  refine aw_iadd dX11_printsHouse_13 ?_
  refine AW.top (gadd rfl hx) ?_
  refine aw_callV dX11_printsHouse_14 kX11_407 mX11_printsNamed (sX11_printsNamed (k := 10 + p) hM hB1 (by have := wtx_len (wdK9 7); rw [List.length_append]; omega) rfl (by omega)) (Nat.le_of_ble_eq_true rfl) hM.k ⟨by decide, rfl⟩ hM.b rfl rfl (Nat.le_of_ble_eq_true rfl) ⟨Nat.le_refl _, Nat.le_refl _⟩ (fun v2 z2 n2 sh2 J2 M2 hp2 => ?_)
  obtain ⟨rfl, rfl, rfl, rfl, rfl, hF2, hB2⟩ := hp2
  refine aw_iconst (v := 0) dX11_printsHouse_17 rfl ?_
  refine aw_istore_n dX11_printsHouse_18 (by decide) rfl ?_
  refine loop1 0 (Nat.zero_le _) J2 (B ++ wtx (wdK9 7) ++ nmt (Q (10 + p))) (hF1.tr hF2) ?_ ?_ ?_
  · rw [show lcat (fun k => ntx (N (80 + 18 * p + k))) 0 = [] from rfl, List.append_nil]
    rw [hQ] at hB2
    exact hB2
  · have := wtx_len (wdK9 7)
    have := nmt_len (Q (10 + p))
    rw [List.length_append, List.length_append]
    omega
  · unfold txHouse
    simp only [List.append_assoc]
set_option maxHeartbeats 4000000 in
set_option maxRecDepth 100000 in
theorem rX11_print (hM : IsM n sh m) {N : Nat → Int32} (hI : I (m + 1) = N) (hN : Cn N) (hR : Rg N) {Q : Nat → Int64} (hQ : L (m + 6) = Q) : CM yX11_print cX11_print 2 (Option.some .int) 6 0 0 [.ref m] z n sh I L (PrtP z n sh I L m (txAll N Q)) := by
  refine CM.go [some (.ref m), none] rfl rfl (Nat.le_of_ble_eq_true rfl) (fun X g q => ?_)
  have h10 := hN.h10
  have h8 := hN.p8
  have len1 : ∀ i, i ≤ 6 → (lcat (txRule N) i).length ≤ 144 := fun i hi => by
    have := lcat_len (fun k => txRule_len (N := N) (k := k)) i
    omega
  have len2 : ∀ i, i ≤ nHo N → (lcat (txHm N Q) i).length ≤ 280 := fun i hi => by
    have := lcat_len (fun k => txHome_len (N := N) (Q := Q) (h := k)) i
    omega
  have len3 : ∀ i, i ≤ nPo N → (lcat (txHs N Q) i).length ≤ 116 * i := by
    intro i
    induction i with
    | zero => intro _; exact Nat.zero_le _
    | succ i ih =>
      intro hi
      have := ih (by omega)
      have := txHouse_len (N := N) (Q := Q) (p := i) (hN.w6 (by omega))
      show (lcat (txHs N Q) i ++ txHs N Q i).length ≤ _
      rw [List.length_append]
      omega
  have l3 : ∀ i, i ≤ nPo N → ∀ (J : MI), PrF m I J → Prt J m (lcat (txRule N) 6 ++ lcat (txHm N Q) (nHo N) ++ lcat (txHs N Q) i) → AW X g RX11 cX11_print 2 (6, 0, 0) (z, n, sh, 0, 0) (J) (L) 135 [some (.ref m), some (.int (nI i))] [] := by
    refine up_loop (fun i hi ih J hF hBi => ?_)
    have hI3 := hF.now hI
    have hlen : (lcat (txRule N) 6 ++ lcat (txHm N Q) (nHo N) ++ lcat (txHs N Q) i).length ≤ 424 + 116 * i := by
      have := len1 6 (Nat.le_refl _)
      have := len2 (nHo N) (Nat.le_refl _)
      have := len3 i hi
      rw [List.length_append, List.length_append]
      omega
    refine aw_iload_n dX11_print_135 rfl ?_
    refine aw_aload_n dX11_print_136 rfl ?_
    refine aw_getR (b := m + 1) dX11_print_137 fX11_7 hM.k hM.b rfl hM.r0 ?_
    refine aw_sipush (v := 231) dX11_print_140 rfl ?_
    refine aw_ialdN (k := 231) dX11_print_143 hM.k0 hM.b0 hM.l0 rfl (by decide) (by decide) ?_
    refine aw_icmp_ge (tgt := 166) dX11_print_144 rfl (fun c144 => ?_) (fun c144 => ?_)
    · rw [hI3] at c144
      have e := ge_t hN.p (by omega) hi c144
      subst e
      refine aw_aload_n dX11_print_166 rfl ?_
      refine aw_aload_n dX11_print_167 rfl ?_
      refine aw_getI dX11_print_168 fX11_395 hM.k hM.b rfl ?_
      refine AW.top hBi.1 ?_
      refine aw_cV dX11_print_171 kX11_199 mX11_gives (sX11_gives hM) (Nat.le_of_ble_eq_true rfl) hM.k ⟨by decide, rfl⟩ hM.b rfl rfl (Nat.le_of_ble_eq_true rfl) ⟨Nat.le_refl _, Nat.le_refl _⟩ ?_
      refine aw_iret q rfl dX11_print_174 ⟨Nat.le_refl _, Nat.le_refl _⟩ ?_
      exact ⟨rfl, rfl, rfl, rfl, rfl, J, hF, hBi, rfl⟩
    · rw [hI3] at c144
      have hlt := ge_f hN.p (by omega) hi c144
      refine aw_aload_n dX11_print_147 rfl ?_
      refine aw_iload_n dX11_print_148 rfl ?_
      refine aw_cV dX11_print_149 kX11_208 mX11_isIn (rX11_isIn (p := i) hM hI3 rfl (by omega)) (Nat.le_of_ble_eq_true rfl) hM.k ⟨by decide, rfl⟩ hM.b rfl rfl (Nat.le_of_ble_eq_true rfl) ⟨Nat.le_refl _, Nat.le_refl _⟩ ?_
      refine aw_if_eq (tgt := 160) dX11_print_152 rfl (fun c152 => ?_) (fun c152 => ?_)
      · have f9 := bI0.mp c152
        refine aw_iinc dX11_print_160 rfl (ginc rfl) (by decide) rfl ?_
        refine aw_goto (tgt := 135) dX11_print_163 rfl ?_
        refine ih hlt J hF ?_
        have e : lcat (txHs N Q) (i + 1) = lcat (txHs N Q) i := by
          show lcat _ i ++ txHs N Q i = _
          unfold txHs
          rw [f9]
          exact List.append_nil _
        rw [e]
        exact hBi
      · have f9 := bI1.mp c152
        refine aw_aload_n dX11_print_155 rfl ?_
        refine aw_iload_n dX11_print_156 rfl ?_
        refine aw_callV dX11_print_157 kX11_416 mX11_printsHouse (sX11_printsHouse (p := i) hM hBi hI3 hN hR hQ rfl hlt (by omega)) (Nat.le_of_ble_eq_true rfl) hM.k ⟨by decide, rfl⟩ hM.b rfl rfl (Nat.le_of_ble_eq_true rfl) ⟨Nat.le_refl _, Nat.le_refl _⟩ (fun v1 z1 n1 sh1 J1 M1 hp1 => ?_)
        obtain ⟨rfl, rfl, rfl, rfl, rfl, hF1, hB1⟩ := hp1
        refine aw_iinc dX11_print_160 rfl (ginc rfl) (by decide) rfl ?_
        refine aw_goto (tgt := 135) dX11_print_163 rfl ?_
        refine ih hlt J1 (hF.tr hF1) ?_
        have e : lcat (txRule N) 6 ++ lcat (txHm N Q) (nHo N) ++ lcat (txHs N Q) (i + 1) = lcat (txRule N) 6 ++ lcat (txHm N Q) (nHo N) ++ lcat (txHs N Q) i ++ txHouse N Q i := by
          show _ ++ (lcat _ i ++ txHs N Q i) = _
          rw [show txHs N Q i = txHouse N Q i from if_pos f9, List.append_assoc _ (lcat (txHs N Q) i) _]
        rw [e]
        exact hB1
  have l2 : ∀ i, i ≤ nHo N → ∀ (J : MI), PrF m I J → Prt J m (lcat (txRule N) 6 ++ lcat (txHm N Q) i) → AW X g RX11 cX11_print 2 (6, 0, 0) (z, n, sh, 0, 0) (J) (L) 64 [some (.ref m), some (.int (nI i))] [] := by
    refine up_loop (fun i hi ih J hF hBi => ?_)
    have hI3 := hF.now hI
    have hlen : (lcat (txRule N) 6 ++ lcat (txHm N Q) i).length ≤ 424 := by
      have := len1 6 (Nat.le_refl _)
      have := len2 i hi
      rw [List.length_append]
      omega
    refine aw_iload_n dX11_print_64 rfl ?_
    refine aw_aload_n dX11_print_65 rfl ?_
    refine aw_getR (b := m + 1) dX11_print_66 fX11_7 hM.k hM.b rfl hM.r0 ?_
    refine aw_sipush (v := 230) dX11_print_69 rfl ?_
    refine aw_ialdN (k := 230) dX11_print_72 hM.k0 hM.b0 hM.l0 rfl (by decide) (by decide) ?_
    refine aw_icmp_ge (tgt := 133) dX11_print_73 rfl (fun c73 => ?_) (fun c73 => ?_)
    · rw [hI3] at c73
      have e := ge_t hN.h (by omega) hi c73
      subst e
      refine aw_iconst (v := 0) dX11_print_133 rfl ?_
      refine aw_istore_n dX11_print_134 (by decide) rfl ?_
      refine l3 0 (Nat.zero_le _) J hF ?_
      rw [show lcat (txHs N Q) 0 = [] from rfl, List.append_nil]
      exact hBi
    · rw [hI3] at c73
      have hlt := ge_f hN.h (by omega) hi c73
      refine aw_aload_n dX11_print_76 rfl ?_
      refine aw_iload_n dX11_print_77 rfl ?_
      refine aw_cV dX11_print_78 kX11_413 mX11_isTold (rX11_isTold (h := i) hM hI3 hN rfl (by omega)) (Nat.le_of_ble_eq_true rfl) hM.k ⟨by decide, rfl⟩ hM.b rfl rfl (Nat.le_of_ble_eq_true rfl) ⟨Nat.le_refl _, Nat.le_refl _⟩ ?_
      refine aw_if_ne (tgt := 87) dX11_print_81 rfl (fun c81 => ?_) (fun c81 => ?_)
      · have f9 := bI1.mp c81
        obtain ⟨⟨v, v1, v2, v3⟩, u, u1, u2, u3⟩ := hR.2.1 i hlt
        refine aw_aload_n dX11_print_87 rfl ?_
        refine aw_bipush (v := 6) dX11_print_88 rfl ?_
        refine aw_cS dX11_print_90 kX11_126 mX11_wordOf (sX11_wordOf (k := 6) rfl (by decide)) (Nat.le_of_ble_eq_true rfl) rfl rfl (Nat.le_of_ble_eq_true rfl) ⟨Nat.le_refl _, Nat.le_refl _⟩ ?_
        refine aw_callV dX11_print_93 kX11_403 mX11_printsWord (sX11_printsWord hM hBi (by omega)) (Nat.le_of_ble_eq_true rfl) hM.k ⟨by decide, rfl⟩ hM.b rfl rfl (Nat.le_of_ble_eq_true rfl) ⟨Nat.le_refl _, Nat.le_refl _⟩ (fun v1 z1 n1 sh1 J1 M1 hp1 => ?_)
        obtain ⟨rfl, rfl, rfl, rfl, rfl, hF1, hB1⟩ := hp1
        refine aw_aload_n dX11_print_96 rfl ?_
        refine aw_iload_n dX11_print_97 rfl ?_
        refine aw_callV dX11_print_98 kX11_407 mX11_printsNamed (sX11_printsNamed (k := i) hM hB1 (by have := wtx_len (wdK9 6); have := nmt_len (L (m + 6) i); have := ntx_len (N (8 * i + 0)); have := ntx_len (N (8 * i + 1)); have hlen := hlen; simp only [List.length_append] at hlen ⊢; omega) rfl (by omega)) (Nat.le_of_ble_eq_true rfl) hM.k ⟨by decide, rfl⟩ hM.b rfl rfl (Nat.le_of_ble_eq_true rfl) ⟨Nat.le_refl _, Nat.le_refl _⟩ (fun v2 z2 n2 sh2 J2 M2 hp2 => ?_)
        obtain ⟨rfl, rfl, rfl, rfl, rfl, hF2, hB2⟩ := hp2
        refine aw_aload_n dX11_print_101 rfl ?_
        refine aw_aload_n dX11_print_102 rfl ?_
        refine aw_iload_n dX11_print_103 rfl ?_
        refine aw_iconst (v := 0) dX11_print_104 rfl ?_
        refine aw_cV dX11_print_105 kX11_202 mX11_home0 (rX11_home0 (h := i) (w := 0) hM ((hF1.tr hF2).now hI3) rfl rfl (by omega)) (Nat.le_of_ble_eq_true rfl) hM.k ⟨by decide, rfl⟩ hM.b rfl rfl (Nat.le_of_ble_eq_true rfl) ⟨Nat.le_refl _, Nat.le_refl _⟩ ?_
        refine aw_callV dX11_print_108 kX11_410 mX11_printsNumber (sX11_printsNumber (v := v) hM hB2 (by have := wtx_len (wdK9 6); have := nmt_len (L (m + 6) i); have := ntx_len (N (8 * i + 0)); have := ntx_len (N (8 * i + 1)); have hlen := hlen; simp only [List.length_append] at hlen ⊢; omega) v1 (by omega)) (Nat.le_of_ble_eq_true rfl) hM.k ⟨by decide, rfl⟩ hM.b rfl rfl (Nat.le_of_ble_eq_true rfl) ⟨Nat.le_refl _, Nat.le_refl _⟩ (fun v3 z3 n3 sh3 J3 M3 hp3 => ?_)
        obtain ⟨rfl, rfl, rfl, rfl, rfl, hF3, hB3⟩ := hp3
        refine aw_aload_n dX11_print_111 rfl ?_
        refine aw_aload_n dX11_print_112 rfl ?_
        refine aw_iload_n dX11_print_113 rfl ?_
        refine aw_iconst (v := 1) dX11_print_114 rfl ?_
        refine aw_cV dX11_print_115 kX11_202 mX11_home0 (rX11_home0 (h := i) (w := 1) hM (((hF1.tr hF2).tr hF3).now hI3) rfl rfl (by omega)) (Nat.le_of_ble_eq_true rfl) hM.k ⟨by decide, rfl⟩ hM.b rfl rfl (Nat.le_of_ble_eq_true rfl) ⟨Nat.le_refl _, Nat.le_refl _⟩ ?_
        refine aw_callV dX11_print_118 kX11_410 mX11_printsNumber (sX11_printsNumber (v := u) hM hB3 (by have := wtx_len (wdK9 6); have := nmt_len (L (m + 6) i); have := ntx_len (N (8 * i + 0)); have := ntx_len (N (8 * i + 1)); have hlen := hlen; simp only [List.length_append] at hlen ⊢; omega) u1 (by omega)) (Nat.le_of_ble_eq_true rfl) hM.k ⟨by decide, rfl⟩ hM.b rfl rfl (Nat.le_of_ble_eq_true rfl) ⟨Nat.le_refl _, Nat.le_refl _⟩ (fun v4 z4 n4 sh4 J4 M4 hp4 => ?_)
        obtain ⟨rfl, rfl, rfl, rfl, rfl, hF4, hB4⟩ := hp4
        refine aw_aload_n dX11_print_121 rfl ?_
        refine aw_bipush (v := 59) dX11_print_122 rfl ?_
        refine aw_callV dX11_print_124 kX11_400 mX11_prints (sX11_prints (c := 59) hM hB4 (by have := wtx_len (wdK9 6); have := nmt_len (L (m + 6) i); have := ntx_len (N (8 * i + 0)); have := ntx_len (N (8 * i + 1)); have hlen := hlen; simp only [List.length_append] at hlen ⊢; omega) rfl (by decide)) (Nat.le_of_ble_eq_true rfl) hM.k ⟨by decide, rfl⟩ hM.b rfl rfl (Nat.le_of_ble_eq_true rfl) ⟨Nat.le_refl _, Nat.le_refl _⟩ (fun v5 z5 n5 sh5 J5 M5 hp5 => ?_)
        obtain ⟨rfl, rfl, rfl, rfl, rfl, hF5, hB5⟩ := hp5
        refine aw_iinc dX11_print_127 rfl (ginc rfl) (by decide) rfl ?_
        refine aw_goto (tgt := 64) dX11_print_130 rfl ?_
        refine ih hlt J5 (hF.tr ((((hF1.tr hF2).tr hF3).tr hF4).tr hF5)) ?_
        have e : lcat (txRule N) 6 ++ lcat (txHm N Q) (i + 1) = lcat (txRule N) 6 ++ lcat (txHm N Q) i ++ wtx (wdK9 6) ++ nmt (Q i) ++ ntx (N (8 * i + 0)) ++ ntx (N (8 * i + 1)) ++ [59] := by
          show _ ++ (lcat _ i ++ txHm N Q i) = _
          rw [show txHm N Q i = txHome N Q i from if_pos f9]
          unfold txHome
          simp only [List.append_assoc]
        rw [e]
        rw [hQ] at hB5
        exact hB5
      · have f9 := bI0.mp c81
        refine aw_goto (tgt := 127) dX11_print_84 rfl ?_
        refine aw_iinc dX11_print_127 rfl (ginc rfl) (by decide) rfl ?_
        refine aw_goto (tgt := 64) dX11_print_130 rfl ?_
        refine ih hlt J hF ?_
        have e : lcat (txHm N Q) (i + 1) = lcat (txHm N Q) i := by
          show lcat _ i ++ txHm N Q i = _
          unfold txHm
          rw [f9]
          exact List.append_nil _
        rw [e]
        exact hBi
  have l1 : ∀ i, i ≤ 6 → ∀ (J : MI), PrF m I J → Prt J m (lcat (txRule N) i) → AW X g RX11 cX11_print 2 (6, 0, 0) (z, n, sh, 0, 0) (J) (L) 7 [some (.ref m), some (.int (nI i))] [] := by
    refine up_loop (fun i hi ih J hF hBi => ?_)
    have hI3 := hF.now hI
    have hlen := len1 i hi
    refine aw_iload_n dX11_print_7 rfl ?_
    refine aw_bipush (v := 6) dX11_print_8 rfl ?_
    refine aw_icmp_ge (tgt := 62) dX11_print_10 rfl (fun c10 => ?_) (fun c10 => ?_)
    · have e := ge_t (B := 6) rfl (by decide) hi c10
      subst e
      refine aw_iconst (v := 0) dX11_print_62 rfl ?_
      refine aw_istore_n dX11_print_63 (by decide) rfl ?_
      refine l2 0 (Nat.zero_le _) J hF ?_
      rw [show lcat (txHm N Q) 0 = [] from rfl, List.append_nil]
      exact hBi
    · have hlt := ge_f (B := 6) rfl (by decide) hi c10
      obtain ⟨v, v1, v2, v3⟩ := hR.rule hlt
      refine aw_aload_n dX11_print_13 rfl ?_
      refine aw_bipush (v := 8) dX11_print_14 rfl ?_
      refine aw_cS dX11_print_16 kX11_126 mX11_wordOf (sX11_wordOf (k := 8) rfl (by decide)) (Nat.le_of_ble_eq_true rfl) rfl rfl (Nat.le_of_ble_eq_true rfl) ⟨Nat.le_refl _, Nat.le_refl _⟩ ?_
      refine aw_callV dX11_print_19 kX11_403 mX11_printsWord (sX11_printsWord hM hBi (by omega)) (Nat.le_of_ble_eq_true rfl) hM.k ⟨by decide, rfl⟩ hM.b rfl rfl (Nat.le_of_ble_eq_true rfl) ⟨Nat.le_refl _, Nat.le_refl _⟩ (fun v1 z1 n1 sh1 J1 M1 hp1 => ?_)
      obtain ⟨rfl, rfl, rfl, rfl, rfl, hF1, hB1⟩ := hp1
      refine aw_aload_n dX11_print_22 rfl ?_
      refine aw_bipush (v := 32) dX11_print_23 rfl ?_
      refine aw_callV dX11_print_25 kX11_400 mX11_prints (sX11_prints (c := 32) hM hB1 (by have := wtx_len (wdK9 8); have := wtx_len (wdK9 i); have := ntx_len (N (224 + i)); have hlen := hlen; simp only [List.length_append, List.length_singleton] at hlen ⊢; omega) rfl (by decide)) (Nat.le_of_ble_eq_true rfl) hM.k ⟨by decide, rfl⟩ hM.b rfl rfl (Nat.le_of_ble_eq_true rfl) ⟨Nat.le_refl _, Nat.le_refl _⟩ (fun v2 z2 n2 sh2 J2 M2 hp2 => ?_)
      obtain ⟨rfl, rfl, rfl, rfl, rfl, hF2, hB2⟩ := hp2
      refine aw_aload_n dX11_print_28 rfl ?_
      refine aw_iload_n dX11_print_29 rfl ?_
      refine aw_cS dX11_print_30 kX11_126 mX11_wordOf (sX11_wordOf (k := i) rfl (by omega)) (Nat.le_of_ble_eq_true rfl) rfl rfl (Nat.le_of_ble_eq_true rfl) ⟨Nat.le_refl _, Nat.le_refl _⟩ ?_
      refine aw_callV dX11_print_33 kX11_403 mX11_printsWord (sX11_printsWord hM hB2 (by have := wtx_len (wdK9 8); have := wtx_len (wdK9 i); have := ntx_len (N (224 + i)); have hlen := hlen; simp only [List.length_append, List.length_singleton] at hlen ⊢; omega)) (Nat.le_of_ble_eq_true rfl) hM.k ⟨by decide, rfl⟩ hM.b rfl rfl (Nat.le_of_ble_eq_true rfl) ⟨Nat.le_refl _, Nat.le_refl _⟩ (fun v3 z3 n3 sh3 J3 M3 hp3 => ?_)
      obtain ⟨rfl, rfl, rfl, rfl, rfl, hF3, hB3⟩ := hp3
      refine aw_aload_n dX11_print_36 rfl ?_
      refine aw_aload_n dX11_print_37 rfl ?_
      refine aw_getR (b := m + 1) dX11_print_38 fX11_7 hM.k hM.b rfl hM.r0 ?_
      refine aw_sipush (v := 224) dX11_print_41 rfl ?_
      refine aw_iload_n dX11_print_44 rfl ?_
      refine aw_iadd dX11_print_45 ?_
      refine AW.top (gadd rfl rfl) ?_
      refine aw_ialdN (k := (224 + i)) dX11_print_46 hM.k0 hM.b0 hM.l0 rfl (by omega) (by decide) ?_
      refine AW.top (y := N (224 + i)) (congrFun (((hF1.tr hF2).tr hF3).now hI3) _) ?_
      refine aw_callV dX11_print_47 kX11_410 mX11_printsNumber (sX11_printsNumber (v := v) hM hB3 (by have := wtx_len (wdK9 8); have := wtx_len (wdK9 i); have := ntx_len (N (224 + i)); have hlen := hlen; simp only [List.length_append, List.length_singleton] at hlen ⊢; omega) v1 (by omega)) (Nat.le_of_ble_eq_true rfl) hM.k ⟨by decide, rfl⟩ hM.b rfl rfl (Nat.le_of_ble_eq_true rfl) ⟨Nat.le_refl _, Nat.le_refl _⟩ (fun v4 z4 n4 sh4 J4 M4 hp4 => ?_)
      obtain ⟨rfl, rfl, rfl, rfl, rfl, hF4, hB4⟩ := hp4
      refine aw_aload_n dX11_print_50 rfl ?_
      refine aw_bipush (v := 59) dX11_print_51 rfl ?_
      refine aw_callV dX11_print_53 kX11_400 mX11_prints (sX11_prints (c := 59) hM hB4 (by have := wtx_len (wdK9 8); have := wtx_len (wdK9 i); have := ntx_len (N (224 + i)); have hlen := hlen; simp only [List.length_append, List.length_singleton] at hlen ⊢; omega) rfl (by decide)) (Nat.le_of_ble_eq_true rfl) hM.k ⟨by decide, rfl⟩ hM.b rfl rfl (Nat.le_of_ble_eq_true rfl) ⟨Nat.le_refl _, Nat.le_refl _⟩ (fun v5 z5 n5 sh5 J5 M5 hp5 => ?_)
      obtain ⟨rfl, rfl, rfl, rfl, rfl, hF5, hB5⟩ := hp5
      refine aw_iinc dX11_print_56 rfl (ginc rfl) (by decide) rfl ?_
      refine aw_goto (tgt := 7) dX11_print_59 rfl ?_
      refine ih hlt J5 (hF.tr ((((hF1.tr hF2).tr hF3).tr hF4).tr hF5)) ?_
      have e : lcat (txRule N) (i + 1) = lcat (txRule N) i ++ wtx (wdK9 8) ++ [32] ++ wtx (wdK9 i) ++ ntx (N (224 + i)) ++ [59] := by
        show lcat _ i ++ txRule N i = _
        unfold txRule
        simp only [List.append_assoc]
      rw [e]
      exact hB5
  refine aw_aload_n dX11_print_0 rfl ?_
  refine aw_iconst (v := 0) dX11_print_1 rfl ?_
  refine aw_putI dX11_print_2 fX11_395 hM.k hM.b rfl rfl ?_
  refine aw_iconst (v := 0) dX11_print_5 rfl ?_
  refine aw_istore_n dX11_print_6 (by decide) rfl ?_
  exact l1 0 (Nat.zero_le _) _ ⟨fun a a1 _ => if_neg a1, fun k hk => fI_n hk rfl⟩ ⟨fI_s, fun i hi => absurd hi (Nat.not_lt_zero i)⟩
end RefS
