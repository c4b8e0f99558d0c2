/-! the class: print -/
theorem nm1 {x : Nat} : nI x = nI x := rfl
theorem txRule16 {N : Nat → Int32} {k : Nat} (hk : k < 6) : (txRule N k).length ≤ 16 := by
  unfold txRule
  have h1 := ntx_len (N (224 + k))
  have h2 := strlk k hk
  rw [str_kr k hk] at h2
  rw [show wtx (wdK9 8) = strT 2 from (str_kw 2 (by decide)).symm]
  simp only [List.length_append, List.length_singleton, strl2]
  omega
theorem txHm18 {N : Nat → Int32} {Q : Nat → Int64} {h : Nat} (hR : Rg N) (hQ : NmA N Q) (hh : h < nHo N) : (txHm N Q h).length ≤ 18 := by
  unfold txHm
  split
  · unfold txHome
    obtain ⟨⟨v0, e0, a0, b0⟩, ⟨v1, e1, a1, b1⟩⟩ := hR.2.1 h hh
    have ln := nm_len (hQ.1 h hh)
    have l0 := nt_len (v := v0) (by omega)
    have l1 := nt_len (v := v1) (by omega)
    rw [e0, e1, show wtx (wdK9 6) = strT 0 from (str_kw 0 (by decide)).symm]
    simp only [List.length_append, List.length_singleton, strl0]
    omega
  · exact Nat.zero_le _
theorem lcat_lt {P : Nat → List Int32} {K : Nat} : ∀ n, (∀ i, i < n → (P i).length ≤ K) → (lcat P n).length ≤ K * n
  | 0, _ => Nat.zero_le _
  | n + 1, h => by
    have h1 := lcat_lt n (fun i hi => h i (by omega))
    have h2 := h n (by omega)
    show (lcat P n ++ P n).length ≤ _
    rw [List.length_append, Nat.mul_succ]
    omega
theorem txHs91 {N : Nat → Int32} {Q : Nat → Int64} {p : Nat} (hIv : Iv N) (hQ : NmA N Q) (hp : p < nPo N) : (txHs N Q p).length ≤ 91 := by
  have hN := hIv.1
  have h8 := hN.p8
  have h10 := hN.h10
  unfold txHs
  split
  · unfold txHouse
    obtain ⟨⟨v0, e0, a0, b0⟩, ⟨v1, e1, a1, b1⟩, ⟨v2, e2, a2, b2⟩, ⟨v3, e3, a3, b3⟩⟩ := hIv.ok.2.1.1 p hp
    have ln := nm_len (hQ.2 p hp)
    have l0 := nt_len (v := v0) (by omega)
    have l1 := nt_len (v := v1) (by omega)
    have l2 := nt_len (v := v2) (by omega)
    have l3 := ntx_len (nI v3)
    have w6 := hN.w6 (show p < 8 by omega)
    have e4 : lcat (fun k => ntx (N (80 + 18 * p + k))) 4 = ntx (nI v0) ++ ntx (nI v1) ++ ntx (nI v2) ++ ntx (nI v3) := by
      rw [← e0, ← e1, ← e2, ← e3]
      rfl
    have h4 : (if mLives N p then [32] ++ wtx (wdK9 9) ++ nmt (Q (nHm N p)) else []).length ≤ 12 := by
      split
      · next lv =>
        rcases hIv.co.1 p hp with t9 | ⟨h, hh, t9, -⟩
        · have lv2 : mLives N p = false := by
            unfold mLives
            rw [t9]
            rfl
          rw [lv2] at lv
          cases lv
        · have e9 : nHm N p = h := by
            unfold nHm
            rw [t9]
            exact nI_clamp (by omega)
          have lq := nm_len (hQ.1 h hh)
          rw [e9, show wtx (wdK9 9) = strT 3 from (str_kw 3 (by decide)).symm]
          simp only [List.length_append, List.length_singleton, strl3]
          omega
      · exact Nat.zero_le _
    have h5 : (lcat (fun k => if mTold N (wiN N p k) then nmt (Q (wiN N p k)) else []) (nWi N p)).length ≤ 9 * nWi N p := by
      refine lcat_lt _ (fun k hk => ?_)
      obtain ⟨h, hh, t9⟩ := hIv.co.2.2 p hp k hk
      have e9 : wiN N p k = h := by
        unfold wiN
        rw [t9]
        exact nI_clamp (by omega)
      show (if mTold N (wiN N p k) then nmt (Q (wiN N p k)) else []).length ≤ 9
      split
      · rw [e9]
        exact nm_len (hQ.1 h hh)
      · exact Nat.zero_le _
    rw [e4, show wtx (wdK9 7) = strT 1 from (str_kw 1 (by decide)).symm]
    simp only [List.length_append, List.length_singleton, strl1] at h4 h5 ⊢
    omega
  · exact Nat.zero_le _
theorem txAll_le {N : Nat → Int32} {Q : Nat → Int64} (hIv : Iv N) (hQ : NmA N Q) : (txAll N Q).length ≤ 1004 := by
  have h8 := hIv.1.p8
  have h10 := hIv.1.h10
  have h1 := lcat_lt (P := txRule N) (K := 16) 6 (fun i hi => txRule16 hi)
  have h2 := lcat_lt (P := txHm N Q) (K := 18) (nHo N) (fun i hi => txHm18 hIv.ok.2.1 hQ hi)
  have h3 := lcat_lt (P := txHs N Q) (K := 91) (nPo N) (fun i hi => txHs91 hIv hQ hi)
  unfold txAll
  simp only [List.length_append]
  omega
section KwS
variable {z n : Nat} {sh : Shp} {I : MI} {L : ML}
theorem sX10_keyword {k : Nat} (hk : k < 10) : CM yX10_keyword cX10_keyword 1 (Option.some (.object "java/lang/String")) 1 0 0 [.int (nI k)] z n sh I L (Pst (some (.ref (1000100 + k))) z n sh I L) := by
  refine CM.go [some (.int (nI k))] rfl rfl (Nat.le_of_ble_eq_true rfl) (fun X g q => ?_)
  refine aw_iload_n dX10_keyword_0 rfl ?_
  match k, hk with
  | 0, _ =>
    refine aw_tableIn (off := 55) (tgt := 56) dX10_keyword_1 (by decide) (by decide) (by decide) rfl ?_
    refine aw_ldcSW (i := 0) (tx := "home") (List.mem_of_getElem? (i := 0) rfl) dX10_keyword_56 ?_
    refine aw_goto (tgt := 119) dX10_keyword_59 rfl ?_
    exact aw_aret q rfl (Or.inr ⟨_, rfl⟩) dX10_keyword_119 ⟨Nat.le_refl _, Nat.le_refl _⟩ Pst.rf
  | 1, _ =>
    refine aw_tableIn (off := 61) (tgt := 62) dX10_keyword_1 (by decide) (by decide) (by decide) rfl ?_
    refine aw_ldcSW (i := 1) (tx := "house") (List.mem_of_getElem? (i := 1) rfl) dX10_keyword_62 ?_
    refine aw_goto (tgt := 119) dX10_keyword_65 rfl ?_
    exact aw_aret q rfl (Or.inr ⟨_, rfl⟩) dX10_keyword_119 ⟨Nat.le_refl _, Nat.le_refl _⟩ Pst.rf
  | 2, _ =>
    refine aw_tableIn (off := 67) (tgt := 68) dX10_keyword_1 (by decide) (by decide) (by decide) rfl ?_
    refine aw_ldcSW (i := 2) (tx := "rule") (List.mem_of_getElem? (i := 2) rfl) dX10_keyword_68 ?_
    refine aw_goto (tgt := 119) dX10_keyword_71 rfl ?_
    exact aw_aret q rfl (Or.inr ⟨_, rfl⟩) dX10_keyword_119 ⟨Nat.le_refl _, Nat.le_refl _⟩ Pst.rf
  | 3, _ =>
    refine aw_tableIn (off := 73) (tgt := 74) dX10_keyword_1 (by decide) (by decide) (by decide) rfl ?_
    refine aw_ldcSW (i := 3) (tx := "in") (List.mem_of_getElem? (i := 3) rfl) dX10_keyword_74 ?_
    refine aw_goto (tgt := 119) dX10_keyword_77 rfl ?_
    exact aw_aret q rfl (Or.inr ⟨_, rfl⟩) dX10_keyword_119 ⟨Nat.le_refl _, Nat.le_refl _⟩ Pst.rf
  | 4, _ =>
    refine aw_tableIn (off := 79) (tgt := 80) dX10_keyword_1 (by decide) (by decide) (by decide) rfl ?_
    refine aw_ldcSW (i := 4) (tx := "refuse") (List.mem_of_getElem? (i := 4) rfl) dX10_keyword_80 ?_
    refine aw_goto (tgt := 119) dX10_keyword_83 rfl ?_
    exact aw_aret q rfl (Or.inr ⟨_, rfl⟩) dX10_keyword_119 ⟨Nat.le_refl _, Nat.le_refl _⟩ Pst.rf
  | 5, _ =>
    refine aw_tableIn (off := 85) (tgt := 86) dX10_keyword_1 (by decide) (by decide) (by decide) rfl ?_
    refine aw_ldcSW (i := 5) (tx := "bar") (List.mem_of_getElem? (i := 5) rfl) dX10_keyword_86 ?_
    refine aw_goto (tgt := 119) dX10_keyword_89 rfl ?_
    exact aw_aret q rfl (Or.inr ⟨_, rfl⟩) dX10_keyword_119 ⟨Nat.le_refl _, Nat.le_refl _⟩ Pst.rf
  | 6, _ =>
    refine aw_tableIn (off := 91) (tgt := 92) dX10_keyword_1 (by decide) (by decide) (by decide) rfl ?_
    refine aw_ldcSW (i := 6) (tx := "local") (List.mem_of_getElem? (i := 6) rfl) dX10_keyword_92 ?_
    refine aw_goto (tgt := 119) dX10_keyword_95 rfl ?_
    exact aw_aret q rfl (Or.inr ⟨_, rfl⟩) dX10_keyword_119 ⟨Nat.le_refl _, Nat.le_refl _⟩ Pst.rf
  | 7, _ =>
    refine aw_tableIn (off := 97) (tgt := 98) dX10_keyword_1 (by decide) (by decide) (by decide) rfl ?_
    refine aw_ldcSW (i := 7) (tx := "quota") (List.mem_of_getElem? (i := 7) rfl) dX10_keyword_98 ?_
    refine aw_goto (tgt := 119) dX10_keyword_101 rfl ?_
    exact aw_aret q rfl (Or.inr ⟨_, rfl⟩) dX10_keyword_119 ⟨Nat.le_refl _, Nat.le_refl _⟩ Pst.rf
  | 8, _ =>
    refine aw_tableIn (off := 103) (tgt := 104) dX10_keyword_1 (by decide) (by decide) (by decide) rfl ?_
    refine aw_ldcSW (i := 8) (tx := "age") (List.mem_of_getElem? (i := 8) rfl) dX10_keyword_104 ?_
    refine aw_goto (tgt := 119) dX10_keyword_107 rfl ?_
    exact aw_aret q rfl (Or.inr ⟨_, rfl⟩) dX10_keyword_119 ⟨Nat.le_refl _, Nat.le_refl _⟩ Pst.rf
  | 9, _ =>
    refine aw_tableIn (off := 109) (tgt := 110) dX10_keyword_1 (by decide) (by decide) (by decide) rfl ?_
    refine aw_ldcSW (i := 9) (tx := "bids") (List.mem_of_getElem? (i := 9) rfl) dX10_keyword_110 ?_
    refine aw_goto (tgt := 119) dX10_keyword_113 rfl ?_
    exact aw_aret q rfl (Or.inr ⟨_, rfl⟩) dX10_keyword_119 ⟨Nat.le_refl _, Nat.le_refl _⟩ Pst.rf
end KwS
section ClsS
variable {z n : Nat} {sh : Shp} {I : MI} {L : ML} {N : Nat → Int32} {Q : Nat → Int64}
set_option maxHeartbeats 4000000 in
set_option maxRecDepth 100000 in
theorem sX5_write (hX : IsX n sh) (hC : CtS I L 1 N Q) (hIv : Iv N) (hQ : NmA N Q) : CM yX5_write cX5_write 3 (Option.none : Option FieldType) 8 0 0 [.ref 482, .ref 1] z n sh I L (Ef none (fun J => PcF I J ∧ Prc J (txAll N Q)) z n sh L) := by
  refine CM.go [some (.ref 482), some (.ref 1), none] rfl rfl (Nat.le_of_ble_eq_true rfl) (fun X g q => ?_)
  have hO := hIv.ok
  have hN := hO.1
  have h8 := hN.p8
  have h10 := hN.h10
  have hS := hX.now
  have h1 := fun i (hi : i ≤ 6) => lcat_lt (P := txRule N) (K := 16) i (fun j hj => txRule16 (by omega))
  have h2 := fun i (hi : i ≤ nHo N) => lcat_lt (P := txHm N Q) (K := 18) i (fun j hj => txHm18 hIv.ok.2.1 hQ (by omega))
  have h3 := fun i (hi : i ≤ nPo N) => lcat_lt (P := txHs N Q) (K := 91) i (fun j hj => txHs91 hIv hQ (by omega))
  have loop3 : ∀ i, i ≤ nPo N → ∀ (J : MI), PcF I J → Prc J (lcat (txRule N) 6 ++ lcat (txHm N Q) (nHo N) ++ lcat (txHs N Q) i) → AW X g RX5 cX5_write 3 (8, 0, 0) (z, n, sh, 0, 0) (J) (L) 97 [some (.ref 482), some (.ref 1), some (.int (nI i))] [] := by
    refine up_loop (fun i hi ih J hF hBi => ?_)
    have hCi := hC.pap hN hF
    have g1 := h1 6 (by omega)
    have g2 := h2 (nHo N) (Nat.le_refl _)
    have g3 := h3 i hi
    have hs1 : lcat (txHs N Q) (i + 1) = lcat (txHs N Q) i ++ txHs N Q i := rfl
    refine aw_iload_n dX5_write_97 rfl ?_
    refine aw_aload_n dX5_write_98 rfl ?_
    refine aw_getI dX5_write_99 fX5_59 hS.k hS.b0 rfl ?_
    refine AW.top (hCi.np.trans hN.p) ?_
    refine aw_icmp_ge (tgt := 134) dX5_write_102 rfl (fun c102 => ?_) (fun c102 => ?_)
    · have e := ge_t rfl (by omega) hi c102
      subst e
      refine aw_vret q rfl dX5_write_134 ⟨Nat.le_refl _, Nat.le_refl _⟩ ?_
      exact ⟨rfl, rfl, rfl, rfl, rfl, hF, hBi⟩
    · have hlt := ge_f rfl (by omega) hi c102
      refine aw_aload_n dX5_write_105 rfl ?_
      refine aw_getR (b := 1 + 12) dX5_write_106 fX5_62 hS.k hS.b0 rfl hS.r1 ?_
      refine aw_iload_n dX5_write_109 rfl ?_
      refine aw_houses (p := i) hS rfl (by omega) dX5_write_110 ?_
      refine aw_getI dX5_write_111 fX5_66 (hS.po (by omega)) (hS.pb (by omega)) rfl ?_
      refine AW.top (hCi.pf h8 (p := i) (w := 8) (by omega) (by decide) (by decide) (by decide)) ?_
      refine aw_if_ne (tgt := 128) dX5_write_114 rfl (fun c114 => ?_) (fun c114 => ?_)
      · have f9 : txHs N Q i = [] := if_neg (by
          have : mIn N i = false := decide_eq_false c114
          rw [this]
          decide)
        refine aw_iinc dX5_write_128 rfl (ginc rfl) (by decide) rfl ?_
        refine aw_goto (tgt := 97) dX5_write_131 rfl ?_
        refine ih hlt J hF ?_
        rw [hs1, f9]
        exact (List.append_nil (lcat (txHs N Q) i)).symm ▸ hBi
      · have f9 : txHs N Q i = txHouse N Q i := if_pos (decide_eq_true c114)
        refine aw_aload_n dX5_write_117 rfl ?_
        refine aw_aload_n dX5_write_118 rfl ?_
        refine aw_aload_n dX5_write_119 rfl ?_
        refine aw_getR (b := 1 + 12) dX5_write_120 fX5_62 hS.k hS.b0 rfl hS.r1 ?_
        refine aw_iload_n dX5_write_123 rfl ?_
        refine aw_houses (p := i) hS rfl (by omega) dX5_write_124 ?_
        refine aw_eV dX5_write_125 kX5_72 mX5_writeHouse (sX5_writeHouse (p := i) hX hBi hCi hIv hQ hlt (by simp only [List.length_append]; omega)) (Nat.le_of_ble_eq_true rfl) hX.pap.1 ⟨by decide, rfl⟩ (hX.lt (by decide)) rfl rfl (Nat.le_of_ble_eq_true rfl) ⟨Nat.le_refl _, Nat.le_refl _⟩ (fun J2 hq2 => ?_)
        refine aw_iinc dX5_write_128 rfl (ginc rfl) (by decide) rfl ?_
        refine aw_goto (tgt := 97) dX5_write_131 rfl ?_
        refine ih hlt J2 (hF.tr hq2.1) ?_
        rw [hs1, f9, ← List.append_assoc]
        exact hq2.2
  have loop2 : ∀ i, i ≤ nHo N → ∀ (J : MI), PcF I J → Prc J (lcat (txRule N) 6 ++ lcat (txHm N Q) i) → AW X g RX5 cX5_write 3 (8, 0, 0) (z, n, sh, 0, 0) (J) (L) 58 [some (.ref 482), some (.ref 1), some (.int (nI i))] [] := by
    refine up_loop (fun i hi ih J hF hBi => ?_)
    have hCi := hC.pap hN hF
    have g1 := h1 6 (by omega)
    have g2 := h2 i hi
    have hs1 : lcat (txHm N Q) (i + 1) = lcat (txHm N Q) i ++ txHm N Q i := rfl
    refine aw_iload_n dX5_write_58 rfl ?_
    refine aw_aload_n dX5_write_59 rfl ?_
    refine aw_getI dX5_write_60 fX5_44 hS.k hS.b0 rfl ?_
    refine AW.top (hCi.nh.trans hN.h) ?_
    refine aw_icmp_ge (tgt := 95) dX5_write_63 rfl (fun c63 => ?_) (fun c63 => ?_)
    · have e := ge_t rfl (by omega) hi c63
      subst e
      refine aw_iconst (v := 0) dX5_write_95 rfl ?_
      refine aw_istore_n dX5_write_96 (by decide) rfl ?_
      refine loop3 0 (Nat.zero_le _) J hF ?_
      exact (List.append_nil (lcat (txRule N) 6 ++ lcat (txHm N Q) (nHo N))).symm ▸ hBi
    · have hlt := ge_f rfl (by omega) hi c63
      refine aw_aload_n dX5_write_66 rfl ?_
      refine aw_aload_n dX5_write_67 rfl ?_
      refine aw_getR (b := 1 + 1) dX5_write_68 fX5_47 hS.k hS.b0 rfl hS.r0 ?_
      refine aw_iload_n dX5_write_71 rfl ?_
      refine aw_homes (h := i) hS rfl (by omega) dX5_write_72 ?_
      refine aw_cS dX5_write_73 kX5_51 mX5_isTold (sX5_isTold hX hCi hIv hlt) (Nat.le_of_ble_eq_true rfl) rfl rfl (Nat.le_of_ble_eq_true rfl) ⟨Nat.le_refl _, Nat.le_refl _⟩ ?_
      refine aw_if_eq (tgt := 89) dX5_write_76 rfl (fun c76 => ?_) (fun c76 => ?_)
      · have f9 : txHm N Q i = [] := if_neg (by rw [bI0.mp c76]; decide)
        refine aw_iinc dX5_write_89 rfl (ginc rfl) (by decide) rfl ?_
        refine aw_goto (tgt := 58) dX5_write_92 rfl ?_
        refine ih hlt J hF ?_
        rw [hs1, f9]
        exact (List.append_nil (lcat (txHm N Q) i)).symm ▸ hBi
      · have f9 : txHm N Q i = txHome N Q i := if_pos (bI1.mp c76)
        refine aw_aload_n dX5_write_79 rfl ?_
        refine aw_aload_n dX5_write_80 rfl ?_
        refine aw_getR (b := 1 + 1) dX5_write_81 fX5_47 hS.k hS.b0 rfl hS.r0 ?_
        refine aw_iload_n dX5_write_84 rfl ?_
        refine aw_homes (h := i) hS rfl (by omega) dX5_write_85 ?_
        refine aw_eV dX5_write_86 kX5_55 mX5_writeHome (sX5_writeHome (h := i) hX hBi hCi hIv hQ hlt (by simp only [List.length_append]; omega)) (Nat.le_of_ble_eq_true rfl) hX.pap.1 ⟨by decide, rfl⟩ (hX.lt (by decide)) rfl rfl (Nat.le_of_ble_eq_true rfl) ⟨Nat.le_refl _, Nat.le_refl _⟩ (fun J2 hq2 => ?_)
        refine aw_iinc dX5_write_89 rfl (ginc rfl) (by decide) rfl ?_
        refine aw_goto (tgt := 58) dX5_write_92 rfl ?_
        refine ih hlt J2 (hF.tr hq2.1) ?_
        rw [hs1, f9, ← List.append_assoc]
        exact hq2.2
  have loop1 : ∀ i, i ≤ 6 → ∀ (J : MI), PcF I J → Prc J (lcat (txRule N) i) → AW X g RX5 cX5_write 3 (8, 0, 0) (z, n, sh, 0, 0) (J) (L) 7 [some (.ref 482), some (.ref 1), some (.int (nI i))] [] := by
    refine up_loop (fun i hi ih J hF hBi => ?_)
    have hCi := hC.pap hN hF
    have g1 := h1 i hi
    refine aw_iload_n dX5_write_7 rfl ?_
    refine aw_bipush (v := 6) dX5_write_8 rfl ?_
    refine aw_icmp_ge (tgt := 56) dX5_write_10 rfl (fun c10 => ?_) (fun c10 => ?_)
    · have e := ge_t (B := 6) rfl (by decide) hi c10
      subst e
      refine aw_iconst (v := 0) dX5_write_56 rfl ?_
      refine aw_istore_n dX5_write_57 (by decide) rfl ?_
      refine loop2 0 (Nat.zero_le _) J hF ?_
      exact (List.append_nil (lcat (txRule N) 6)).symm ▸ hBi
    · have hlt := ge_f (B := 6) rfl (by decide) hi c10
      obtain ⟨v, ev, -, hv⟩ := hO.2.1.rule hlt
      have lk := strlk i hlt
      refine aw_aload_n dX5_write_13 rfl ?_
      refine aw_ldcS (i := 2) (tx := "rule") (List.mem_of_getElem? (i := 13) rfl) dX5_write_14 ?_
      refine aw_eV dX5_write_16 kX5_21 mX5_putText (sX5_putText (i := 2) hX hBi (by decide) (by omega)) (Nat.le_of_ble_eq_true rfl) hX.pap.1 ⟨by decide, rfl⟩ (hX.lt (by decide)) rfl rfl (Nat.le_of_ble_eq_true rfl) ⟨Nat.le_refl _, Nat.le_refl _⟩ (fun J2 hq2 => ?_)
      refine aw_aload_n dX5_write_19 rfl ?_
      refine aw_bipush (v := 32) dX5_write_20 rfl ?_
      refine aw_eV dX5_write_22 kX5_25 mX5_put (sX5_put hX hq2.2 (by simp only [List.length_append, List.length_singleton, strl2]; omega)) (Nat.le_of_ble_eq_true rfl) hX.pap.1 ⟨by decide, rfl⟩ (hX.lt (by decide)) rfl rfl (Nat.le_of_ble_eq_true rfl) ⟨Nat.le_refl _, Nat.le_refl _⟩ (fun J3 hq3 => ?_)
      refine aw_aload_n dX5_write_25 rfl ?_
      refine aw_iconst (v := 4) dX5_write_26 rfl ?_
      refine aw_iload_n dX5_write_27 rfl ?_
      refine aw_iadd dX5_write_28 ?_
      refine AW.top (gadd rfl rfl) ?_
      refine aw_cSN dX5_write_29 nkKwP mX10_keyword (sX10_keyword (k := 4 + i) (by omega)) (Nat.le_of_ble_eq_true rfl) rfl rfl (Nat.le_of_ble_eq_true rfl) ⟨Nat.le_refl _, Nat.le_refl _⟩ ?_
      refine aw_eV dX5_write_32 kX5_21 mX5_putText (sX5_putText (i := 4 + i) hX hq3.2 (by omega) (by simp only [List.length_append, List.length_singleton, strl2]; omega)) (Nat.le_of_ble_eq_true rfl) hX.pap.1 ⟨by decide, rfl⟩ (hX.lt (by decide)) rfl rfl (Nat.le_of_ble_eq_true rfl) ⟨Nat.le_refl _, Nat.le_refl _⟩ (fun J4 hq4 => ?_)
      have hC4 := hC.pap hN (((hF.tr hq2.1).tr hq3.1).tr hq4.1)
      refine aw_aload_n dX5_write_35 rfl ?_
      refine aw_aload_n dX5_write_36 rfl ?_
      refine aw_iload_n dX5_write_37 rfl ?_
      refine aw_cV dX5_write_38 kX5_35 mX7_ruleAt (sX7_ruleAt (r := i) hS hC4 hO rfl hlt) (Nat.le_of_ble_eq_true rfl) hS.k ⟨by decide, rfl⟩ hS.b0 rfl rfl (Nat.le_of_ble_eq_true rfl) ⟨Nat.le_refl _, Nat.le_refl _⟩ ?_
      refine AW.top ev ?_
      refine aw_eV dX5_write_41 kX5_41 mX5_putNumber (sX5_putNumber (v := v) hX hq4.2 hv (by simp only [List.length_append, List.length_singleton, strl2]; omega)) (Nat.le_of_ble_eq_true rfl) hX.pap.1 ⟨by decide, rfl⟩ (hX.lt (by decide)) rfl rfl (Nat.le_of_ble_eq_true rfl) ⟨Nat.le_refl _, Nat.le_refl _⟩ (fun J5 hq5 => ?_)
      refine aw_aload_n dX5_write_44 rfl ?_
      refine aw_bipush (v := 59) dX5_write_45 rfl ?_
      refine aw_eV dX5_write_47 kX5_25 mX5_put (sX5_put hX hq5.2 (by have := ntx_len (nI v); simp only [List.length_append, List.length_singleton, strl2]; omega)) (Nat.le_of_ble_eq_true rfl) hX.pap.1 ⟨by decide, rfl⟩ (hX.lt (by decide)) rfl rfl (Nat.le_of_ble_eq_true rfl) ⟨Nat.le_refl _, Nat.le_refl _⟩ (fun J6 hq6 => ?_)
      refine aw_iinc dX5_write_50 rfl (ginc rfl) (by decide) rfl ?_
      refine aw_goto (tgt := 7) dX5_write_53 rfl ?_
      refine ih hlt J6 (((((hF.tr hq2.1).tr hq3.1).tr hq4.1).tr hq5.1).tr hq6.1) ?_
      have e : lcat (txRule N) (i + 1) = lcat (txRule N) i ++ strT 2 ++ [32] ++ strT (4 + i) ++ ntx (nI v) ++ [59] := by
        show lcat (txRule N) i ++ txRule N i = _
        unfold txRule
        rw [ev, str_kr i hlt, show wtx (wdK9 8) = strT 2 from (str_kw 2 (by decide)).symm]
        simp only [List.append_assoc]
      rw [e]
      exact hq6.2
  refine aw_aload_n dX5_write_0 rfl ?_
  refine aw_iconst (v := 0) dX5_write_1 rfl ?_
  refine aw_putI dX5_write_2 fX5_15 hX.pap.1 (hX.lt (by decide)) rfl rfl ?_
  refine aw_iconst (v := 0) dX5_write_5 rfl ?_
  refine aw_istore_n dX5_write_6 (by decide) rfl ?_
  exact loop1 0 (Nat.zero_le _) _ (fun a a1 _ => upI_row2 a1) ⟨upI_s, fun i hi => absurd hi (Nat.not_lt_zero i)⟩
set_option maxHeartbeats 4000000 in
set_option maxRecDepth 100000 in
theorem sX10_print (hX : IsX n sh) (hC : CtS I L 1 N Q) (hIv : Iv N) (hQ : NmA N Q)  : CM yX10_print cX10_print 1 (Option.some .int) 9 0 0 [.ref 0] z n sh I L (fun v z' n' sh' J' M' => v = some (.int (nI (txAll N Q).length)) ∧ z' = z ∧ n' = n ∧ sh' = sh ∧ M' = L ∧ ∃ J, J' = upI J 0 8 0 ∧ PcF I J ∧ Prc J (txAll N Q)) := by
  refine CM.go [some (.ref 0)] rfl rfl (Nat.le_of_ble_eq_true rfl) (fun X g q => ?_)
  have hO := hIv.ok
  have hN := hO.1
  have h8 := hN.p8
  have h10 := hN.h10
  have hS := hX.now
  refine aw_aload_n dX10_print_0 rfl ?_
  refine aw_getR (b := 482) dX10_print_1 fX10_36 hX.k hX.b rfl hX.r4 ?_
  refine aw_aload_n dX10_print_4 rfl ?_
  refine aw_getR (b := 1) dX10_print_5 fX10_10 hX.k hX.b rfl hX.r0 ?_
  refine aw_eV dX10_print_8 kX10_394 mX5_write (sX5_write hX hC hIv hQ) (Nat.le_of_ble_eq_true rfl) hX.pap.1 ⟨by decide, rfl⟩ (hX.lt (by decide)) rfl rfl (Nat.le_of_ble_eq_true rfl) ⟨Nat.le_refl _, Nat.le_refl _⟩ (fun J1 hq1 => ?_)
  refine aw_aload_n dX10_print_11 rfl ?_
  refine aw_aload_n dX10_print_12 rfl ?_
  refine aw_getR (b := 482) dX10_print_13 fX10_36 hX.k hX.b rfl hX.r4 ?_
  refine aw_getI dX10_print_16 fX10_397 hX.pap.1 (hX.lt (by decide)) rfl ?_
  refine AW.top hq1.2.1 ?_
  refine aw_cV dX10_print_19 kX10_94 mX10_answer (sX10_answer hX) (Nat.le_of_ble_eq_true rfl) hX.k ⟨by decide, rfl⟩ hX.b rfl rfl (Nat.le_of_ble_eq_true rfl) ⟨Nat.le_refl _, Nat.le_refl _⟩ ?_
  refine aw_iret q rfl dX10_print_22 ⟨Nat.le_refl _, Nat.le_refl _⟩ ?_
  exact ⟨rfl, rfl, rfl, rfl, rfl, J1, rfl, hq1.1, hq1.2⟩
end ClsS
