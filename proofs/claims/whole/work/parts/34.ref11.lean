/-! the reference: when, tip, would, lever -/
section RefS
variable {z n m : Nat} {sh : Shp} {I : MI} {L : ML}
set_option maxHeartbeats 4000000 in
set_option maxRecDepth 100000 in
theorem rX11_when (hM : IsM n sh m) {N : Nat → Int32} (hI : I (m + 1) = N) (hN : Cn N) (hl : Lo N) {x k t : Int32} : CM yX11_when cX11_when 7 (Option.some .int) 10 0 0 [.ref m, .int x, .int k, .int t] z n sh I L (TlS (aWhen N x k t) z n sh I L m) := by
  refine CM.go [some (.ref m), some (.int x), some (.int k), some (.int t), none, none, none] rfl rfl (Nat.le_of_ble_eq_true rfl) (fun X g q => ?_)
  refine aw_iload_n dX11_when_0 rfl ?_
  refine aw_iconst (v := 1) dX11_when_1 rfl ?_
  refine aw_bipush (v := 30) dX11_when_2 rfl ?_
  refine aw_cS dX11_when_4 kX11_71 mX11_isFrom (sX11_isFrom hM) (Nat.le_of_ble_eq_true rfl) rfl rfl (Nat.le_of_ble_eq_true rfl) ⟨Nat.le_refl _, Nat.le_refl _⟩ ?_
  refine aw_if_ne (tgt := 16) dX11_when_7 rfl (fun c7 => ?_) (fun c7 => ?_)
  · have f7 := bI1.mp c7
    refine aw_aload_n dX11_when_16 rfl ?_
    refine aw_iload_n dX11_when_17 rfl ?_
    refine aw_cV dX11_when_18 kX11_244 mX11_isHouse (rX11_isHouse hM hI) (Nat.le_of_ble_eq_true rfl) hM.k ⟨by decide, rfl⟩ hM.b rfl rfl (Nat.le_of_ble_eq_true rfl) ⟨Nat.le_refl _, Nat.le_refl _⟩ ?_
    refine aw_if_ne (tgt := 30) dX11_when_21 rfl (fun c21 => ?_) (fun c21 => ?_)
    · have f21 := bI1.mp c21
      obtain ⟨p, hpn, rfl⟩ := from_ix hN.p (by have := hN.p8; omega) f21
      have hp8 : p < 8 := by have := hN.p8; omega
      have ep := nI_clamp (show p < 2 ^ 31 by omega)
      refine aw_aload_n dX11_when_30 rfl ?_
      refine aw_iload_n dX11_when_31 rfl ?_
      refine aw_cV dX11_when_32 kX11_208 mX11_isIn (rX11_isIn (p := p) hM hI rfl hp8) (Nat.le_of_ble_eq_true rfl) hM.k ⟨by decide, rfl⟩ hM.b rfl rfl (Nat.le_of_ble_eq_true rfl) ⟨Nat.le_refl _, Nat.le_refl _⟩ ?_
      refine aw_if_ne (tgt := 44) dX11_when_35 rfl (fun c35 => ?_) (fun c35 => ?_)
      · have f35 := bI1.mp c35
        obtain ⟨kk, hk1, hkk, rfl⟩ := from_1 (B := 30) (by decide) f7
        have f8 : mFrom (nI kk) 1 30 = true := f7
        refine aw_aload_n dX11_when_44 rfl ?_
        refine aw_getR (b := m + 1) dX11_when_45 fX11_7 hM.k hM.b rfl hM.r0 ?_
        refine aw_aload_n dX11_when_48 rfl ?_
        refine aw_getR (b := m + 3) dX11_when_49 fX11_16 hM.k hM.b rfl hM.r2 ?_
        refine aw_cS dX11_when_52 kX11_192 mX11_copies (rX11_copies (a := m + 1) (b := m + 3) hM.k0 hM.b0 hM.l0 hM.k2 hM.b2 hM.l2 (by omega)) (Nat.le_of_ble_eq_true rfl) rfl rfl (Nat.le_of_ble_eq_true rfl) ⟨Nat.le_refl _, Nat.le_refl _⟩ ?_
        refine AW.mem (I2 := sv I m N) (by unfold sv; rw [hI]) ?_
        refine aw_iconst (v := (-1)) dX11_when_55 rfl ?_
        refine aw_istore dX11_when_56 (by decide) rfl ?_
        refine aw_iconst (v := 0) dX11_when_58 rfl ?_
        refine aw_istore dX11_when_59 (by decide) rfl ?_
        have loop : ∀ i, i ≤ kk → ∀ a6 : Option Value, AW X g RX11 cX11_when 7 (10, 0, 0) (z, n, sh, 0, 0) (upA (sv I m N) (m + 1) (itr mOneMore i N)) (L) 61 [some (.ref m), some (.int (nI p)), some (.int (nI kk)), some (.int t), some (.int (whenV N p t i)), some (.int (nI i)), a6] [] := by
          refine up_loop (fun i hi ih a6 => ?_)
          refine aw_iload dX11_when_61 rfl ?_
          refine aw_iload_n dX11_when_63 rfl ?_
          refine aw_icmp_ge (tgt := 118) dX11_when_64 rfl (fun c64 => ?_) (fun c64 => ?_)
          · have e := ge_t (B := kk) rfl (by omega) hi c64
            subst e
            obtain ⟨cM, lM, -, -, hiM⟩ := ahead_inv hN hl i
            have fin : whenV N p t i = whenV N p t i := rfl
            refine aw_aload_n dX11_when_118 rfl ?_
            refine aw_getR (b := m + 3) dX11_when_119 fX11_16 hM.k hM.b rfl hM.r2 ?_
            refine aw_aload_n dX11_when_122 rfl ?_
            refine aw_getR (b := m + 1) dX11_when_123 fX11_7 hM.k hM.b rfl hM.r0 ?_
            refine aw_cS dX11_when_126 kX11_192 mX11_copies (rX11_copies (a := m + 3) (b := m + 1) hM.k2 hM.b2 hM.l2 hM.k0 hM.b0 hM.l0 (by omega)) (Nat.le_of_ble_eq_true rfl) rfl rfl (Nat.le_of_ble_eq_true rfl) ⟨Nat.le_refl _, Nat.le_refl _⟩ ?_
            refine AW.mem (I2 := sv I m N) (sv_back hI hiM) ?_
            refine aw_iload dX11_when_129 rfl ?_
            refine aw_iconst (v := (-1)) dX11_when_131 rfl ?_
            refine aw_icmp_ne (tgt := 143) dX11_when_132 rfl (fun c132 => ?_) (fun c132 => ?_)
            · refine aw_aload_n dX11_when_143 rfl ?_
              refine aw_iload dX11_when_144 rfl ?_
              refine aw_cV dX11_when_146 kX11_199 mX11_gives (sX11_gives hM) (Nat.le_of_ble_eq_true rfl) hM.k ⟨by decide, rfl⟩ hM.b rfl rfl (Nat.le_of_ble_eq_true rfl) ⟨Nat.le_refl _, Nat.le_refl _⟩ ?_
              refine aw_iret q rfl dX11_when_149 ⟨Nat.le_refl _, Nat.le_refl _⟩ ?_
              refine TlS.ok ?_ RSc.svd
              rw [← fin] at c132 ⊢
              simp [aWhen, f8, f21, f35, ep, nI_clamp (show i < 2 ^ 31 by omega), c132]
            · refine aw_aload_n dX11_when_135 rfl ?_
              refine aw_iconst (v := 5) dX11_when_136 rfl ?_
              refine aw_cV dX11_when_137 kX11_186 mX11_refuse (sX11_refuse hM) (Nat.le_of_ble_eq_true rfl) hM.k ⟨by decide, rfl⟩ hM.b rfl rfl (Nat.le_of_ble_eq_true rfl) ⟨Nat.le_refl _, Nat.le_refl _⟩ ?_
              refine aw_goto (tgt := 149) dX11_when_140 rfl ?_
              refine aw_iret q rfl dX11_when_149 ⟨Nat.le_refl _, Nat.le_refl _⟩ ?_
              refine TlS.no ?_ RSc.svd
              rw [← fin] at c132
              simp [aWhen, f8, f21, f35, ep, nI_clamp (show i < 2 ^ 31 by omega), c132]
          · have hlt := ge_f (B := kk) rfl (by omega) hi c64
            obtain ⟨cM, lM, -, -, hiM⟩ := ahead_inv hN hl i
            refine aw_iload dX11_when_67 rfl ?_
            refine aw_iconst (v := (-1)) dX11_when_69 rfl ?_
            refine aw_icmp_ne (tgt := 118) dX11_when_70 rfl (fun c70 => ?_) (fun c70 => ?_)
            · have fin : whenV N p t kk = whenV N p t i := whenV_at c70 (by omega)
              refine aw_aload_n dX11_when_118 rfl ?_
              refine aw_getR (b := m + 3) dX11_when_119 fX11_16 hM.k hM.b rfl hM.r2 ?_
              refine aw_aload_n dX11_when_122 rfl ?_
              refine aw_getR (b := m + 1) dX11_when_123 fX11_7 hM.k hM.b rfl hM.r0 ?_
              refine aw_cS dX11_when_126 kX11_192 mX11_copies (rX11_copies (a := m + 3) (b := m + 1) hM.k2 hM.b2 hM.l2 hM.k0 hM.b0 hM.l0 (by omega)) (Nat.le_of_ble_eq_true rfl) rfl rfl (Nat.le_of_ble_eq_true rfl) ⟨Nat.le_refl _, Nat.le_refl _⟩ ?_
              refine AW.mem (I2 := sv I m N) (sv_back hI hiM) ?_
              refine aw_iload dX11_when_129 rfl ?_
              refine aw_iconst (v := (-1)) dX11_when_131 rfl ?_
              refine aw_icmp_ne (tgt := 143) dX11_when_132 rfl (fun c132 => ?_) (fun c132 => ?_)
              · refine aw_aload_n dX11_when_143 rfl ?_
                refine aw_iload dX11_when_144 rfl ?_
                refine aw_cV dX11_when_146 kX11_199 mX11_gives (sX11_gives hM) (Nat.le_of_ble_eq_true rfl) hM.k ⟨by decide, rfl⟩ hM.b rfl rfl (Nat.le_of_ble_eq_true rfl) ⟨Nat.le_refl _, Nat.le_refl _⟩ ?_
                refine aw_iret q rfl dX11_when_149 ⟨Nat.le_refl _, Nat.le_refl _⟩ ?_
                refine TlS.ok ?_ RSc.svd
                rw [← fin] at c132 ⊢
                simp [aWhen, f8, f21, f35, ep, nI_clamp (show kk < 2 ^ 31 by omega), c132]
              · refine aw_aload_n dX11_when_135 rfl ?_
                refine aw_iconst (v := 5) dX11_when_136 rfl ?_
                refine aw_cV dX11_when_137 kX11_186 mX11_refuse (sX11_refuse hM) (Nat.le_of_ble_eq_true rfl) hM.k ⟨by decide, rfl⟩ hM.b rfl rfl (Nat.le_of_ble_eq_true rfl) ⟨Nat.le_refl _, Nat.le_refl _⟩ ?_
                refine aw_goto (tgt := 149) dX11_when_140 rfl ?_
                refine aw_iret q rfl dX11_when_149 ⟨Nat.le_refl _, Nat.le_refl _⟩ ?_
                refine TlS.no ?_ RSc.svd
                rw [← fin] at c132
                simp [aWhen, f8, f21, f35, ep, nI_clamp (show kk < 2 ^ 31 by omega), c132]
            · refine aw_aload_n dX11_when_73 rfl ?_
              refine aw_getR (b := m + 1) dX11_when_74 fX11_7 hM.k hM.b rfl hM.r0 ?_
              refine aw_sipush (v := 232) dX11_when_77 rfl ?_
              refine aw_ialdH (k := 232) upA_self dX11_when_80 hM.k0 hM.b0 hM.l0 rfl (by decide) (by decide) ?_
              refine aw_istore dX11_when_81 (by decide) rfl ?_
              refine aw_aload_n dX11_when_83 rfl ?_
              refine aw_cV dX11_when_84 kX11_331 mX11_oneMore (rX11_oneMore hM upA_self cM lM) (Nat.le_of_ble_eq_true rfl) hM.k ⟨by decide, rfl⟩ hM.b rfl rfl (Nat.le_of_ble_eq_true rfl) ⟨Nat.le_refl _, Nat.le_refl _⟩ ?_
              refine aw_aload_n dX11_when_87 rfl ?_
              refine aw_iload_n dX11_when_88 rfl ?_
              refine aw_cV dX11_when_89 kX11_208 mX11_isIn (rX11_isIn (p := p) hM upA_self rfl hp8) (Nat.le_of_ble_eq_true rfl) hM.k ⟨by decide, rfl⟩ hM.b rfl rfl (Nat.le_of_ble_eq_true rfl) ⟨Nat.le_refl _, Nat.le_refl _⟩ ?_
              rw [show mOneMore (itr mOneMore i N) = itr mOneMore (i + 1) N from (itr_succ _ _ _).symm]
              refine aw_if_ne (tgt := 112) dX11_when_92 rfl (fun c92 => ?_) (fun c92 => ?_)
              · refine aw_iinc dX11_when_112 rfl (ginc rfl) (by decide) rfl ?_
                refine aw_goto (tgt := 61) dX11_when_115 rfl ?_
                have e9 : upA (upA (sv I m N) (m + 1) (itr mOneMore i N)) (m + 1) (itr mOneMore (i + 1) N) = upA (sv I m N) (m + 1) (itr mOneMore (i + 1) N) := upA_upA
                have := ih hlt (some (.int (itr mOneMore i N 232)))
                rw [whenV, if_neg (fun h => h c70), if_pos (bI1.mp c92)] at this
                rw [c70]
                rw [e9]
                exact this
              · refine aw_iload_n dX11_when_95 rfl ?_
                refine aw_if_eq (tgt := 108) dX11_when_96 rfl (fun c96 => ?_) (fun c96 => ?_)
                · refine aw_iload dX11_when_108 rfl ?_
                  refine aw_istore dX11_when_110 (by decide) rfl ?_
                  refine aw_iinc dX11_when_112 rfl (ginc rfl) (by decide) rfl ?_
                  refine aw_goto (tgt := 61) dX11_when_115 rfl ?_
                  have e9 : upA (upA (sv I m N) (m + 1) (itr mOneMore i N)) (m + 1) (itr mOneMore (i + 1) N) = upA (sv I m N) (m + 1) (itr mOneMore (i + 1) N) := upA_upA
                  have := ih hlt (some (.int (itr mOneMore i N 232)))
                  rw [whenV, if_neg (fun h => h c70), if_neg (by rw [bI0.mp c92]; decide), if_pos c96] at this
                  rw [e9]
                  exact this
                · refine aw_aload_n dX11_when_99 rfl ?_
                  refine aw_iload_n dX11_when_100 rfl ?_
                  refine aw_iconst (v := 4) dX11_when_101 rfl ?_
                  refine aw_cV dX11_when_102 kX11_205 mX11_of (rX11_of (p := p) (w := 4) hM upA_self rfl rfl (by omega)) (Nat.le_of_ble_eq_true rfl) hM.k ⟨by decide, rfl⟩ hM.b rfl rfl (Nat.le_of_ble_eq_true rfl) ⟨Nat.le_refl _, Nat.le_refl _⟩ ?_
                  refine aw_goto (tgt := 110) dX11_when_105 rfl ?_
                  refine aw_istore dX11_when_110 (by decide) rfl ?_
                  refine aw_iinc dX11_when_112 rfl (ginc rfl) (by decide) rfl ?_
                  refine aw_goto (tgt := 61) dX11_when_115 rfl ?_
                  have e9 : upA (upA (sv I m N) (m + 1) (itr mOneMore i N)) (m + 1) (itr mOneMore (i + 1) N) = upA (sv I m N) (m + 1) (itr mOneMore (i + 1) N) := upA_upA
                  have := ih hlt (some (.int (itr mOneMore i N 232)))
                  rw [whenV, if_neg (fun h => h c70), if_neg (by rw [bI0.mp c92]; decide), if_neg c96] at this
                  rw [e9]
                  exact this
        refine AW.mem ?_ (loop 0 (Nat.zero_le _) none)
        exact (sv_me hI).symm
      · refine aw_aload_n dX11_when_38 rfl ?_
        refine aw_iconst (v := 4) dX11_when_39 rfl ?_
        refine aw_cV dX11_when_40 kX11_186 mX11_refuse (sX11_refuse hM) (Nat.le_of_ble_eq_true rfl) hM.k ⟨by decide, rfl⟩ hM.b rfl rfl (Nat.le_of_ble_eq_true rfl) ⟨Nat.le_refl _, Nat.le_refl _⟩ ?_
        refine aw_iret q rfl dX11_when_43 ⟨Nat.le_refl _, Nat.le_refl _⟩ ?_
        exact TlS.no (by simp [aWhen, f7, f21, ep, bI0.mp c35]) RSc.rf
    · refine aw_aload_n dX11_when_24 rfl ?_
      refine aw_iconst (v := 2) dX11_when_25 rfl ?_
      refine aw_cV dX11_when_26 kX11_186 mX11_refuse (sX11_refuse hM) (Nat.le_of_ble_eq_true rfl) hM.k ⟨by decide, rfl⟩ hM.b rfl rfl (Nat.le_of_ble_eq_true rfl) ⟨Nat.le_refl _, Nat.le_refl _⟩ ?_
      refine aw_iret q rfl dX11_when_29 ⟨Nat.le_refl _, Nat.le_refl _⟩ ?_
      exact TlS.no (by simp [aWhen, f7, bI0.mp c21]) RSc.rf
  · refine aw_aload_n dX11_when_10 rfl ?_
    refine aw_iconst (v := 1) dX11_when_11 rfl ?_
    refine aw_cV dX11_when_12 kX11_186 mX11_refuse (sX11_refuse hM) (Nat.le_of_ble_eq_true rfl) hM.k ⟨by decide, rfl⟩ hM.b rfl rfl (Nat.le_of_ble_eq_true rfl) ⟨Nat.le_refl _, Nat.le_refl _⟩ ?_
    refine aw_iret q rfl dX11_when_15 ⟨Nat.le_refl _, Nat.le_refl _⟩ ?_
    exact TlS.no (by simp [aWhen, bI0.mp c7]) RSc.rf
set_option maxHeartbeats 4000000 in
set_option maxRecDepth 100000 in
theorem rX11_tip (hM : IsM n sh m) {N : Nat → Int32} (hI : I (m + 1) = N) (hN : Cn N) {x : Int32} : CM yX11_tip cX11_tip 8 (Option.some .int) 7 0 0 [.ref m, .int x] z n sh I L (Tl (aTip N x) z n sh I L m) := by
  refine CM.go [some (.ref m), some (.int x), none, none, none, none, none, none] rfl rfl (Nat.le_of_ble_eq_true rfl) (fun X g q => ?_)
  refine aw_aload_n dX11_tip_0 rfl ?_
  refine aw_iload_n dX11_tip_1 rfl ?_
  refine aw_cV dX11_tip_2 kX11_244 mX11_isHouse (rX11_isHouse hM hI) (Nat.le_of_ble_eq_true rfl) hM.k ⟨by decide, rfl⟩ hM.b rfl rfl (Nat.le_of_ble_eq_true rfl) ⟨Nat.le_refl _, Nat.le_refl _⟩ ?_
  refine aw_if_ne (tgt := 14) dX11_tip_5 rfl (fun c5 => ?_) (fun c5 => ?_)
  · have f5 := bI1.mp c5
    obtain ⟨p, hpn, rfl⟩ := from_ix hN.p (by have := hN.p8; omega) f5
    have hp8 : p < 8 := by have := hN.p8; omega
    have ep := nI_clamp (show p < 2 ^ 31 by omega)
    refine aw_iconst (v := (-1)) dX11_tip_14 rfl ?_
    refine aw_istore_n dX11_tip_15 (by decide) rfl ?_
    refine aw_iconst (v := 0) dX11_tip_16 rfl ?_
    refine aw_istore_n dX11_tip_17 (by decide) rfl ?_
    refine aw_aload_n dX11_tip_18 rfl ?_
    refine aw_iload_n dX11_tip_19 rfl ?_
    refine aw_bipush (v := 11) dX11_tip_20 rfl ?_
    refine aw_cV dX11_tip_22 kX11_205 mX11_of (rX11_of (p := p) (w := 11) hM hI rfl rfl (by omega)) (Nat.le_of_ble_eq_true rfl) hM.k ⟨by decide, rfl⟩ hM.b rfl rfl (Nat.le_of_ble_eq_true rfl) ⟨Nat.le_refl _, Nat.le_refl _⟩ ?_
    refine aw_if_ne (tgt := 39) dX11_tip_25 rfl (fun c25 => ?_) (fun c25 => ?_)
    · refine aw_aload_n dX11_tip_39 rfl ?_
      refine aw_iload_n dX11_tip_40 rfl ?_
      refine aw_bipush (v := 11) dX11_tip_41 rfl ?_
      refine aw_cV dX11_tip_43 kX11_205 mX11_of (rX11_of (p := p) (w := 11) hM hI rfl rfl (by omega)) (Nat.le_of_ble_eq_true rfl) hM.k ⟨by decide, rfl⟩ hM.b rfl rfl (Nat.le_of_ble_eq_true rfl) ⟨Nat.le_refl _, Nat.le_refl _⟩ ?_
      first | refine AW.top (likes_0 hN c25) ?_ | refine AW.top (likes_1 hN hp8 c25) ?_
      refine aw_istore dX11_tip_46 (by decide) rfl ?_
      refine aw_iconst (v := 0) dX11_tip_48 rfl ?_
      refine aw_istore dX11_tip_49 (by decide) rfl ?_
      have hl10 := likes_10 hN hp8
      have loop : ∀ i, i ≤ nLikes N p → ∀ a6 a7 : Option Value, AW X g RX11 cX11_tip 8 (7, 0, 0) (z, n, sh, 0, 0) (I) (L) 51 [some (.ref m), some (.int (nI p)), some (.int (tipL N p i).1), some (.int (tipL N p i).2), some (.int (nI (nLikes N p))), some (.int (nI i)), a6, a7] [] := by
        refine up_loop (fun i hi ih a6 a7 => ?_)
        refine aw_iload dX11_tip_51 rfl ?_
        refine aw_iload dX11_tip_53 rfl ?_
        refine aw_icmp_ge (tgt := 149) dX11_tip_55 rfl (fun c55 => ?_) (fun c55 => ?_)
        · have e := ge_t (B := nLikes N p) rfl (by omega) hi c55
          subst e
          refine aw_iload_n dX11_tip_149 rfl ?_
          refine aw_iconst (v := (-1)) dX11_tip_150 rfl ?_
          refine aw_icmp_ne (tgt := 162) dX11_tip_151 rfl (fun c151 => ?_) (fun c151 => ?_)
          · refine aw_aload_n dX11_tip_162 rfl ?_
            refine aw_iload_n dX11_tip_163 rfl ?_
            refine aw_cV dX11_tip_164 kX11_199 mX11_gives (sX11_gives hM) (Nat.le_of_ble_eq_true rfl) hM.k ⟨by decide, rfl⟩ hM.b rfl rfl (Nat.le_of_ble_eq_true rfl) ⟨Nat.le_refl _, Nat.le_refl _⟩ ?_
            refine aw_iret q rfl dX11_tip_167 ⟨Nat.le_refl _, Nat.le_refl _⟩ ?_
            refine Tl.ok ?_
            simp [aTip, f5, ep, c151]
          · refine aw_aload_n dX11_tip_154 rfl ?_
            refine aw_iconst (v := 5) dX11_tip_155 rfl ?_
            refine aw_cV dX11_tip_156 kX11_186 mX11_refuse (sX11_refuse hM) (Nat.le_of_ble_eq_true rfl) hM.k ⟨by decide, rfl⟩ hM.b rfl rfl (Nat.le_of_ble_eq_true rfl) ⟨Nat.le_refl _, Nat.le_refl _⟩ ?_
            refine aw_goto (tgt := 167) dX11_tip_159 rfl ?_
            refine aw_iret q rfl dX11_tip_167 ⟨Nat.le_refl _, Nat.le_refl _⟩ ?_
            refine Tl.no ?_
            simp [aTip, f5, ep, c151]
        · have hlt := ge_f (B := nLikes N p) rfl (by omega) hi c55
          have h10 := like_10 hN hp8 hlt
          refine aw_aload_n dX11_tip_58 rfl ?_
          refine aw_iload_n dX11_tip_59 rfl ?_
          refine aw_bipush (v := 11) dX11_tip_60 rfl ?_
          refine aw_cV dX11_tip_62 kX11_205 mX11_of (rX11_of (p := p) (w := 11) hM hI rfl rfl (by omega)) (Nat.le_of_ble_eq_true rfl) hM.k ⟨by decide, rfl⟩ hM.b rfl rfl (Nat.le_of_ble_eq_true rfl) ⟨Nat.le_refl _, Nat.le_refl _⟩ ?_
          refine aw_if_ne (tgt := 73) dX11_tip_65 rfl (fun c65 => ?_) (fun c65 => ?_)
          · refine aw_aload_n dX11_tip_73 rfl ?_
            refine aw_iload_n dX11_tip_74 rfl ?_
            refine aw_bipush (v := 12) dX11_tip_75 rfl ?_
            refine aw_iload dX11_tip_77 rfl ?_
            refine aw_iadd dX11_tip_79 ?_
            refine aw_cV dX11_tip_80 kX11_205 mX11_of (rX11_of (p := p) (w := 12 + i) hM hI rfl (gadd rfl rfl) (by omega)) (Nat.le_of_ble_eq_true rfl) hM.k ⟨by decide, rfl⟩ hM.b rfl rfl (Nat.le_of_ble_eq_true rfl) ⟨Nat.le_refl _, Nat.le_refl _⟩ ?_
            first | refine AW.top (like_0 c65) ?_ | refine AW.top (like_1 hN hp8 hlt c65) ?_
            refine aw_istore dX11_tip_83 (by decide) rfl ?_
            refine aw_aload_n dX11_tip_85 rfl ?_
            refine aw_iload_n dX11_tip_86 rfl ?_
            refine aw_iload dX11_tip_87 rfl ?_
            refine aw_cV dX11_tip_89 kX11_234 mX11_isBid (rX11_isBid (p := p) hM hI rfl hp8) (Nat.le_of_ble_eq_true rfl) hM.k ⟨by decide, rfl⟩ hM.b rfl rfl (Nat.le_of_ble_eq_true rfl) ⟨Nat.le_refl _, Nat.le_refl _⟩ ?_
            refine aw_if_ne (tgt := 108) dX11_tip_92 rfl (fun c92 => ?_) (fun c92 => ?_)
            · refine aw_aload_n dX11_tip_108 rfl ?_
              refine aw_iload_n dX11_tip_109 rfl ?_
              refine aw_iload dX11_tip_110 rfl ?_
              refine aw_aload_n dX11_tip_112 rfl ?_
              refine aw_iload dX11_tip_113 rfl ?_
              refine aw_cV dX11_tip_115 kX11_277 mX11_biddersOf (rX11_biddersOf (h := mLikes N p i) hM hI hN rfl) (Nat.le_of_ble_eq_true rfl) hM.k ⟨by decide, rfl⟩ hM.b rfl rfl (Nat.le_of_ble_eq_true rfl) ⟨Nat.le_refl _, Nat.le_refl _⟩ ?_
              refine aw_cV dX11_tip_118 kX11_286 mX11_aheadOf (rX11_aheadOf (p := p) (h := mLikes N p i) hM hI hN rfl rfl hp8 h10) (Nat.le_of_ble_eq_true rfl) hM.k ⟨by decide, rfl⟩ hM.b rfl rfl (Nat.le_of_ble_eq_true rfl) ⟨Nat.le_refl _, Nat.le_refl _⟩ ?_
              refine aw_istore dX11_tip_121 (by decide) rfl ?_
              refine aw_iload_n dX11_tip_123 rfl ?_
              refine aw_iconst (v := (-1)) dX11_tip_124 rfl ?_
              refine aw_icmp_eq (tgt := 137) dX11_tip_125 rfl (fun c125 => ?_) (fun c125 => ?_)
              · refine aw_iload dX11_tip_137 rfl ?_
                refine aw_istore_n dX11_tip_139 (by decide) rfl ?_
                refine aw_iload dX11_tip_140 rfl ?_
                refine aw_istore_n dX11_tip_142 (by decide) rfl ?_
                refine aw_iinc dX11_tip_143 rfl (ginc rfl) (by decide) rfl ?_
                refine aw_goto (tgt := 51) dX11_tip_146 rfl ?_
                have tp : tipP N p (mLikes N p i) = true := by simp [tipP, bI1.mp c92]
                have st : tipL N p (i + 1) = (nI (mLikes N p i), mAhead N p (mLikes N p i) (mBidders N (mLikes N p i))) := by rw [tipL, if_pos (by simp [tp, c125])]
                have := ih hlt (some (.int (nI (mLikes N p i)))) (some (.int (mAhead N p (mLikes N p i) (mBidders N (mLikes N p i)))))
                rw [st] at this
                exact this
              · refine aw_iload dX11_tip_128 rfl ?_
                refine aw_iload_n dX11_tip_130 rfl ?_
                refine aw_icmp_lt (tgt := 137) dX11_tip_131 rfl (fun c131 => ?_) (fun c131 => ?_)
                · refine aw_iload dX11_tip_137 rfl ?_
                  refine aw_istore_n dX11_tip_139 (by decide) rfl ?_
                  refine aw_iload dX11_tip_140 rfl ?_
                  refine aw_istore_n dX11_tip_142 (by decide) rfl ?_
                  refine aw_iinc dX11_tip_143 rfl (ginc rfl) (by decide) rfl ?_
                  refine aw_goto (tgt := 51) dX11_tip_146 rfl ?_
                  have tp : tipP N p (mLikes N p i) = true := by simp [tipP, bI1.mp c92]
                  have st : tipL N p (i + 1) = (nI (mLikes N p i), mAhead N p (mLikes N p i) (mBidders N (mLikes N p i))) := by rw [tipL, if_pos (by simp [tp, c131])]
                  have := ih hlt (some (.int (nI (mLikes N p i)))) (some (.int (mAhead N p (mLikes N p i) (mBidders N (mLikes N p i)))))
                  rw [st] at this
                  exact this
                · refine aw_goto (tgt := 143) dX11_tip_134 rfl ?_
                  refine aw_iinc dX11_tip_143 rfl (ginc rfl) (by decide) rfl ?_
                  refine aw_goto (tgt := 51) dX11_tip_146 rfl ?_
                  have tp : tipP N p (mLikes N p i) = true := by simp [tipP, bI1.mp c92]
                  have st : tipL N p (i + 1) = tipL N p i := by rw [tipL, if_neg (by simp [tp, c125, c131])]
                  have := ih hlt (some (.int (nI (mLikes N p i)))) (some (.int (mAhead N p (mLikes N p i) (mBidders N (mLikes N p i)))))
                  rw [st] at this
                  exact this
            · refine aw_aload_n dX11_tip_95 rfl ?_
              refine aw_iload_n dX11_tip_96 rfl ?_
              refine aw_iload dX11_tip_97 rfl ?_
              refine aw_cV dX11_tip_99 kX11_256 mX11_whyNot (rX11_whyNot (p := p) (h := mLikes N p i) hM hI hN rfl rfl hp8 h10) (Nat.le_of_ble_eq_true rfl) hM.k ⟨by decide, rfl⟩ hM.b rfl rfl (Nat.le_of_ble_eq_true rfl) ⟨Nat.le_refl _, Nat.le_refl _⟩ ?_
              refine aw_if_eq (tgt := 108) dX11_tip_102 rfl (fun c102 => ?_) (fun c102 => ?_)
              · refine aw_aload_n dX11_tip_108 rfl ?_
                refine aw_iload_n dX11_tip_109 rfl ?_
                refine aw_iload dX11_tip_110 rfl ?_
                refine aw_aload_n dX11_tip_112 rfl ?_
                refine aw_iload dX11_tip_113 rfl ?_
                refine aw_cV dX11_tip_115 kX11_277 mX11_biddersOf (rX11_biddersOf (h := mLikes N p i) hM hI hN rfl) (Nat.le_of_ble_eq_true rfl) hM.k ⟨by decide, rfl⟩ hM.b rfl rfl (Nat.le_of_ble_eq_true rfl) ⟨Nat.le_refl _, Nat.le_refl _⟩ ?_
                refine aw_cV dX11_tip_118 kX11_286 mX11_aheadOf (rX11_aheadOf (p := p) (h := mLikes N p i) hM hI hN rfl rfl hp8 h10) (Nat.le_of_ble_eq_true rfl) hM.k ⟨by decide, rfl⟩ hM.b rfl rfl (Nat.le_of_ble_eq_true rfl) ⟨Nat.le_refl _, Nat.le_refl _⟩ ?_
                refine aw_istore dX11_tip_121 (by decide) rfl ?_
                refine aw_iload_n dX11_tip_123 rfl ?_
                refine aw_iconst (v := (-1)) dX11_tip_124 rfl ?_
                refine aw_icmp_eq (tgt := 137) dX11_tip_125 rfl (fun c125 => ?_) (fun c125 => ?_)
                · refine aw_iload dX11_tip_137 rfl ?_
                  refine aw_istore_n dX11_tip_139 (by decide) rfl ?_
                  refine aw_iload dX11_tip_140 rfl ?_
                  refine aw_istore_n dX11_tip_142 (by decide) rfl ?_
                  refine aw_iinc dX11_tip_143 rfl (ginc rfl) (by decide) rfl ?_
                  refine aw_goto (tgt := 51) dX11_tip_146 rfl ?_
                  have tp : tipP N p (mLikes N p i) = true := by simp [tipP, c102]
                  have st : tipL N p (i + 1) = (nI (mLikes N p i), mAhead N p (mLikes N p i) (mBidders N (mLikes N p i))) := by rw [tipL, if_pos (by simp [tp, c125])]
                  have := ih hlt (some (.int (nI (mLikes N p i)))) (some (.int (mAhead N p (mLikes N p i) (mBidders N (mLikes N p i)))))
                  rw [st] at this
                  exact this
                · refine aw_iload dX11_tip_128 rfl ?_
                  refine aw_iload_n dX11_tip_130 rfl ?_
                  refine aw_icmp_lt (tgt := 137) dX11_tip_131 rfl (fun c131 => ?_) (fun c131 => ?_)
                  · refine aw_iload dX11_tip_137 rfl ?_
                    refine aw_istore_n dX11_tip_139 (by decide) rfl ?_
                    refine aw_iload dX11_tip_140 rfl ?_
                    refine aw_istore_n dX11_tip_142 (by decide) rfl ?_
                    refine aw_iinc dX11_tip_143 rfl (ginc rfl) (by decide) rfl ?_
                    refine aw_goto (tgt := 51) dX11_tip_146 rfl ?_
                    have tp : tipP N p (mLikes N p i) = true := by simp [tipP, c102]
                    have st : tipL N p (i + 1) = (nI (mLikes N p i), mAhead N p (mLikes N p i) (mBidders N (mLikes N p i))) := by rw [tipL, if_pos (by simp [tp, c131])]
                    have := ih hlt (some (.int (nI (mLikes N p i)))) (some (.int (mAhead N p (mLikes N p i) (mBidders N (mLikes N p i)))))
                    rw [st] at this
                    exact this
                  · refine aw_goto (tgt := 143) dX11_tip_134 rfl ?_
                    refine aw_iinc dX11_tip_143 rfl (ginc rfl) (by decide) rfl ?_
                    refine aw_goto (tgt := 51) dX11_tip_146 rfl ?_
                    have tp : tipP N p (mLikes N p i) = true := by simp [tipP, c102]
                    have st : tipL N p (i + 1) = tipL N p i := by rw [tipL, if_neg (by simp [tp, c125, c131])]
                    have := ih hlt (some (.int (nI (mLikes N p i)))) (some (.int (mAhead N p (mLikes N p i) (mBidders N (mLikes N p i)))))
                    rw [st] at this
                    exact this
              · refine aw_goto (tgt := 143) dX11_tip_105 rfl ?_
                refine aw_iinc dX11_tip_143 rfl (ginc rfl) (by decide) rfl ?_
                refine aw_goto (tgt := 51) dX11_tip_146 rfl ?_
                have tp : tipP N p (mLikes N p i) = false := by simp [tipP, bI0.mp c92, c102]
                have st : tipL N p (i + 1) = tipL N p i := by rw [tipL, if_neg (by simp [tp])]
                have := ih hlt (some (.int (nI (mLikes N p i)))) (a7)
                rw [st] at this
                exact this
          · refine aw_iload dX11_tip_68 rfl ?_
            refine aw_goto (tgt := 83) dX11_tip_70 rfl ?_
            first | refine AW.top (like_0 c65) ?_ | refine AW.top (like_1 hN hp8 hlt c65) ?_
            refine aw_istore dX11_tip_83 (by decide) rfl ?_
            refine aw_aload_n dX11_tip_85 rfl ?_
            refine aw_iload_n dX11_tip_86 rfl ?_
            refine aw_iload dX11_tip_87 rfl ?_
            refine aw_cV dX11_tip_89 kX11_234 mX11_isBid (rX11_isBid (p := p) hM hI rfl hp8) (Nat.le_of_ble_eq_true rfl) hM.k ⟨by decide, rfl⟩ hM.b rfl rfl (Nat.le_of_ble_eq_true rfl) ⟨Nat.le_refl _, Nat.le_refl _⟩ ?_
            refine aw_if_ne (tgt := 108) dX11_tip_92 rfl (fun c92 => ?_) (fun c92 => ?_)
            · refine aw_aload_n dX11_tip_108 rfl ?_
              refine aw_iload_n dX11_tip_109 rfl ?_
              refine aw_iload dX11_tip_110 rfl ?_
              refine aw_aload_n dX11_tip_112 rfl ?_
              refine aw_iload dX11_tip_113 rfl ?_
              refine aw_cV dX11_tip_115 kX11_277 mX11_biddersOf (rX11_biddersOf (h := mLikes N p i) hM hI hN rfl) (Nat.le_of_ble_eq_true rfl) hM.k ⟨by decide, rfl⟩ hM.b rfl rfl (Nat.le_of_ble_eq_true rfl) ⟨Nat.le_refl _, Nat.le_refl _⟩ ?_
              refine aw_cV dX11_tip_118 kX11_286 mX11_aheadOf (rX11_aheadOf (p := p) (h := mLikes N p i) hM hI hN rfl rfl hp8 h10) (Nat.le_of_ble_eq_true rfl) hM.k ⟨by decide, rfl⟩ hM.b rfl rfl (Nat.le_of_ble_eq_true rfl) ⟨Nat.le_refl _, Nat.le_refl _⟩ ?_
              refine aw_istore dX11_tip_121 (by decide) rfl ?_
              refine aw_iload_n dX11_tip_123 rfl ?_
              refine aw_iconst (v := (-1)) dX11_tip_124 rfl ?_
              refine aw_icmp_eq (tgt := 137) dX11_tip_125 rfl (fun c125 => ?_) (fun c125 => ?_)
              · refine aw_iload dX11_tip_137 rfl ?_
                refine aw_istore_n dX11_tip_139 (by decide) rfl ?_
                refine aw_iload dX11_tip_140 rfl ?_
                refine aw_istore_n dX11_tip_142 (by decide) rfl ?_
                refine aw_iinc dX11_tip_143 rfl (ginc rfl) (by decide) rfl ?_
                refine aw_goto (tgt := 51) dX11_tip_146 rfl ?_
                have tp : tipP N p (mLikes N p i) = true := by simp [tipP, bI1.mp c92]
                have st : tipL N p (i + 1) = (nI (mLikes N p i), mAhead N p (mLikes N p i) (mBidders N (mLikes N p i))) := by rw [tipL, if_pos (by simp [tp, c125])]
                have := ih hlt (some (.int (nI (mLikes N p i)))) (some (.int (mAhead N p (mLikes N p i) (mBidders N (mLikes N p i)))))
                rw [st] at this
                exact this
              · refine aw_iload dX11_tip_128 rfl ?_
                refine aw_iload_n dX11_tip_130 rfl ?_
                refine aw_icmp_lt (tgt := 137) dX11_tip_131 rfl (fun c131 => ?_) (fun c131 => ?_)
                · refine aw_iload dX11_tip_137 rfl ?_
                  refine aw_istore_n dX11_tip_139 (by decide) rfl ?_
                  refine aw_iload dX11_tip_140 rfl ?_
                  refine aw_istore_n dX11_tip_142 (by decide) rfl ?_
                  refine aw_iinc dX11_tip_143 rfl (ginc rfl) (by decide) rfl ?_
                  refine aw_goto (tgt := 51) dX11_tip_146 rfl ?_
                  have tp : tipP N p (mLikes N p i) = true := by simp [tipP, bI1.mp c92]
                  have st : tipL N p (i + 1) = (nI (mLikes N p i), mAhead N p (mLikes N p i) (mBidders N (mLikes N p i))) := by rw [tipL, if_pos (by simp [tp, c131])]
                  have := ih hlt (some (.int (nI (mLikes N p i)))) (some (.int (mAhead N p (mLikes N p i) (mBidders N (mLikes N p i)))))
                  rw [st] at this
                  exact this
                · refine aw_goto (tgt := 143) dX11_tip_134 rfl ?_
                  refine aw_iinc dX11_tip_143 rfl (ginc rfl) (by decide) rfl ?_
                  refine aw_goto (tgt := 51) dX11_tip_146 rfl ?_
                  have tp : tipP N p (mLikes N p i) = true := by simp [tipP, bI1.mp c92]
                  have st : tipL N p (i + 1) = tipL N p i := by rw [tipL, if_neg (by simp [tp, c125, c131])]
                  have := ih hlt (some (.int (nI (mLikes N p i)))) (some (.int (mAhead N p (mLikes N p i) (mBidders N (mLikes N p i)))))
                  rw [st] at this
                  exact this
            · refine aw_aload_n dX11_tip_95 rfl ?_
              refine aw_iload_n dX11_tip_96 rfl ?_
              refine aw_iload dX11_tip_97 rfl ?_
              refine aw_cV dX11_tip_99 kX11_256 mX11_whyNot (rX11_whyNot (p := p) (h := mLikes N p i) hM hI hN rfl rfl hp8 h10) (Nat.le_of_ble_eq_true rfl) hM.k ⟨by decide, rfl⟩ hM.b rfl rfl (Nat.le_of_ble_eq_true rfl) ⟨Nat.le_refl _, Nat.le_refl _⟩ ?_
              refine aw_if_eq (tgt := 108) dX11_tip_102 rfl (fun c102 => ?_) (fun c102 => ?_)
              · refine aw_aload_n dX11_tip_108 rfl ?_
                refine aw_iload_n dX11_tip_109 rfl ?_
                refine aw_iload dX11_tip_110 rfl ?_
                refine aw_aload_n dX11_tip_112 rfl ?_
                refine aw_iload dX11_tip_113 rfl ?_
                refine aw_cV dX11_tip_115 kX11_277 mX11_biddersOf (rX11_biddersOf (h := mLikes N p i) hM hI hN rfl) (Nat.le_of_ble_eq_true rfl) hM.k ⟨by decide, rfl⟩ hM.b rfl rfl (Nat.le_of_ble_eq_true rfl) ⟨Nat.le_refl _, Nat.le_refl _⟩ ?_
                refine aw_cV dX11_tip_118 kX11_286 mX11_aheadOf (rX11_aheadOf (p := p) (h := mLikes N p i) hM hI hN rfl rfl hp8 h10) (Nat.le_of_ble_eq_true rfl) hM.k ⟨by decide, rfl⟩ hM.b rfl rfl (Nat.le_of_ble_eq_true rfl) ⟨Nat.le_refl _, Nat.le_refl _⟩ ?_
                refine aw_istore dX11_tip_121 (by decide) rfl ?_
                refine aw_iload_n dX11_tip_123 rfl ?_
                refine aw_iconst (v := (-1)) dX11_tip_124 rfl ?_
                refine aw_icmp_eq (tgt := 137) dX11_tip_125 rfl (fun c125 => ?_) (fun c125 => ?_)
                · refine aw_iload dX11_tip_137 rfl ?_
                  refine aw_istore_n dX11_tip_139 (by decide) rfl ?_
                  refine aw_iload dX11_tip_140 rfl ?_
                  refine aw_istore_n dX11_tip_142 (by decide) rfl ?_
                  refine aw_iinc dX11_tip_143 rfl (ginc rfl) (by decide) rfl ?_
                  refine aw_goto (tgt := 51) dX11_tip_146 rfl ?_
                  have tp : tipP N p (mLikes N p i) = true := by simp [tipP, c102]
                  have st : tipL N p (i + 1) = (nI (mLikes N p i), mAhead N p (mLikes N p i) (mBidders N (mLikes N p i))) := by rw [tipL, if_pos (by simp [tp, c125])]
                  have := ih hlt (some (.int (nI (mLikes N p i)))) (some (.int (mAhead N p (mLikes N p i) (mBidders N (mLikes N p i)))))
                  rw [st] at this
                  exact this
                · refine aw_iload dX11_tip_128 rfl ?_
                  refine aw_iload_n dX11_tip_130 rfl ?_
                  refine aw_icmp_lt (tgt := 137) dX11_tip_131 rfl (fun c131 => ?_) (fun c131 => ?_)
                  · refine aw_iload dX11_tip_137 rfl ?_
                    refine aw_istore_n dX11_tip_139 (by decide) rfl ?_
                    refine aw_iload dX11_tip_140 rfl ?_
                    refine aw_istore_n dX11_tip_142 (by decide) rfl ?_
                    refine aw_iinc dX11_tip_143 rfl (ginc rfl) (by decide) rfl ?_
                    refine aw_goto (tgt := 51) dX11_tip_146 rfl ?_
                    have tp : tipP N p (mLikes N p i) = true := by simp [tipP, c102]
                    have st : tipL N p (i + 1) = (nI (mLikes N p i), mAhead N p (mLikes N p i) (mBidders N (mLikes N p i))) := by rw [tipL, if_pos (by simp [tp, c131])]
                    have := ih hlt (some (.int (nI (mLikes N p i)))) (some (.int (mAhead N p (mLikes N p i) (mBidders N (mLikes N p i)))))
                    rw [st] at this
                    exact this
                  · refine aw_goto (tgt := 143) dX11_tip_134 rfl ?_
                    refine aw_iinc dX11_tip_143 rfl (ginc rfl) (by decide) rfl ?_
                    refine aw_goto (tgt := 51) dX11_tip_146 rfl ?_
                    have tp : tipP N p (mLikes N p i) = true := by simp [tipP, c102]
                    have st : tipL N p (i + 1) = tipL N p i := by rw [tipL, if_neg (by simp [tp, c125, c131])]
                    have := ih hlt (some (.int (nI (mLikes N p i)))) (some (.int (mAhead N p (mLikes N p i) (mBidders N (mLikes N p i)))))
                    rw [st] at this
                    exact this
              · refine aw_goto (tgt := 143) dX11_tip_105 rfl ?_
                refine aw_iinc dX11_tip_143 rfl (ginc rfl) (by decide) rfl ?_
                refine aw_goto (tgt := 51) dX11_tip_146 rfl ?_
                have tp : tipP N p (mLikes N p i) = false := by simp [tipP, bI0.mp c92, c102]
                have st : tipL N p (i + 1) = tipL N p i := by rw [tipL, if_neg (by simp [tp])]
                have := ih hlt (some (.int (nI (mLikes N p i)))) (a7)
                rw [st] at this
                exact this
      exact loop 0 (Nat.zero_le _) none none
    · refine aw_aload_n dX11_tip_28 rfl ?_
      refine aw_getR (b := m + 1) dX11_tip_29 fX11_7 hM.k hM.b rfl hM.r0 ?_
      refine aw_sipush (v := 230) dX11_tip_32 rfl ?_
      refine aw_ialdH (k := 230) hI dX11_tip_35 hM.k0 hM.b0 hM.l0 rfl (by decide) (by decide) ?_
      refine aw_goto (tgt := 46) dX11_tip_36 rfl ?_
      first | refine AW.top (likes_0 hN c25) ?_ | refine AW.top (likes_1 hN hp8 c25) ?_
      refine aw_istore dX11_tip_46 (by decide) rfl ?_
      refine aw_iconst (v := 0) dX11_tip_48 rfl ?_
      refine aw_istore dX11_tip_49 (by decide) rfl ?_
      have hl10 := likes_10 hN hp8
      have loop : ∀ i, i ≤ nLikes N p → ∀ a6 a7 : Option Value, AW X g RX11 cX11_tip 8 (7, 0, 0) (z, n, sh, 0, 0) (I) (L) 51 [some (.ref m), some (.int (nI p)), some (.int (tipL N p i).1), some (.int (tipL N p i).2), some (.int (nI (nLikes N p))), some (.int (nI i)), a6, a7] [] := by
        refine up_loop (fun i hi ih a6 a7 => ?_)
        refine aw_iload dX11_tip_51 rfl ?_
        refine aw_iload dX11_tip_53 rfl ?_
        refine aw_icmp_ge (tgt := 149) dX11_tip_55 rfl (fun c55 => ?_) (fun c55 => ?_)
        · have e := ge_t (B := nLikes N p) rfl (by omega) hi c55
          subst e
          refine aw_iload_n dX11_tip_149 rfl ?_
          refine aw_iconst (v := (-1)) dX11_tip_150 rfl ?_
          refine aw_icmp_ne (tgt := 162) dX11_tip_151 rfl (fun c151 => ?_) (fun c151 => ?_)
          · refine aw_aload_n dX11_tip_162 rfl ?_
            refine aw_iload_n dX11_tip_163 rfl ?_
            refine aw_cV dX11_tip_164 kX11_199 mX11_gives (sX11_gives hM) (Nat.le_of_ble_eq_true rfl) hM.k ⟨by decide, rfl⟩ hM.b rfl rfl (Nat.le_of_ble_eq_true rfl) ⟨Nat.le_refl _, Nat.le_refl _⟩ ?_
            refine aw_iret q rfl dX11_tip_167 ⟨Nat.le_refl _, Nat.le_refl _⟩ ?_
            refine Tl.ok ?_
            simp [aTip, f5, ep, c151]
          · refine aw_aload_n dX11_tip_154 rfl ?_
            refine aw_iconst (v := 5) dX11_tip_155 rfl ?_
            refine aw_cV dX11_tip_156 kX11_186 mX11_refuse (sX11_refuse hM) (Nat.le_of_ble_eq_true rfl) hM.k ⟨by decide, rfl⟩ hM.b rfl rfl (Nat.le_of_ble_eq_true rfl) ⟨Nat.le_refl _, Nat.le_refl _⟩ ?_
            refine aw_goto (tgt := 167) dX11_tip_159 rfl ?_
            refine aw_iret q rfl dX11_tip_167 ⟨Nat.le_refl _, Nat.le_refl _⟩ ?_
            refine Tl.no ?_
            simp [aTip, f5, ep, c151]
        · have hlt := ge_f (B := nLikes N p) rfl (by omega) hi c55
          have h10 := like_10 hN hp8 hlt
          refine aw_aload_n dX11_tip_58 rfl ?_
          refine aw_iload_n dX11_tip_59 rfl ?_
          refine aw_bipush (v := 11) dX11_tip_60 rfl ?_
          refine aw_cV dX11_tip_62 kX11_205 mX11_of (rX11_of (p := p) (w := 11) hM hI rfl rfl (by omega)) (Nat.le_of_ble_eq_true rfl) hM.k ⟨by decide, rfl⟩ hM.b rfl rfl (Nat.le_of_ble_eq_true rfl) ⟨Nat.le_refl _, Nat.le_refl _⟩ ?_
          refine aw_if_ne (tgt := 73) dX11_tip_65 rfl (fun c65 => ?_) (fun c65 => ?_)
          · refine aw_aload_n dX11_tip_73 rfl ?_
            refine aw_iload_n dX11_tip_74 rfl ?_
            refine aw_bipush (v := 12) dX11_tip_75 rfl ?_
            refine aw_iload dX11_tip_77 rfl ?_
            refine aw_iadd dX11_tip_79 ?_
            refine aw_cV dX11_tip_80 kX11_205 mX11_of (rX11_of (p := p) (w := 12 + i) hM hI rfl (gadd rfl rfl) (by omega)) (Nat.le_of_ble_eq_true rfl) hM.k ⟨by decide, rfl⟩ hM.b rfl rfl (Nat.le_of_ble_eq_true rfl) ⟨Nat.le_refl _, Nat.le_refl _⟩ ?_
            first | refine AW.top (like_0 c65) ?_ | refine AW.top (like_1 hN hp8 hlt c65) ?_
            refine aw_istore dX11_tip_83 (by decide) rfl ?_
            refine aw_aload_n dX11_tip_85 rfl ?_
            refine aw_iload_n dX11_tip_86 rfl ?_
            refine aw_iload dX11_tip_87 rfl ?_
            refine aw_cV dX11_tip_89 kX11_234 mX11_isBid (rX11_isBid (p := p) hM hI rfl hp8) (Nat.le_of_ble_eq_true rfl) hM.k ⟨by decide, rfl⟩ hM.b rfl rfl (Nat.le_of_ble_eq_true rfl) ⟨Nat.le_refl _, Nat.le_refl _⟩ ?_
            refine aw_if_ne (tgt := 108) dX11_tip_92 rfl (fun c92 => ?_) (fun c92 => ?_)
            · refine aw_aload_n dX11_tip_108 rfl ?_
              refine aw_iload_n dX11_tip_109 rfl ?_
              refine aw_iload dX11_tip_110 rfl ?_
              refine aw_aload_n dX11_tip_112 rfl ?_
              refine aw_iload dX11_tip_113 rfl ?_
              refine aw_cV dX11_tip_115 kX11_277 mX11_biddersOf (rX11_biddersOf (h := mLikes N p i) hM hI hN rfl) (Nat.le_of_ble_eq_true rfl) hM.k ⟨by decide, rfl⟩ hM.b rfl rfl (Nat.le_of_ble_eq_true rfl) ⟨Nat.le_refl _, Nat.le_refl _⟩ ?_
              refine aw_cV dX11_tip_118 kX11_286 mX11_aheadOf (rX11_aheadOf (p := p) (h := mLikes N p i) hM hI hN rfl rfl hp8 h10) (Nat.le_of_ble_eq_true rfl) hM.k ⟨by decide, rfl⟩ hM.b rfl rfl (Nat.le_of_ble_eq_true rfl) ⟨Nat.le_refl _, Nat.le_refl _⟩ ?_
              refine aw_istore dX11_tip_121 (by decide) rfl ?_
              refine aw_iload_n dX11_tip_123 rfl ?_
              refine aw_iconst (v := (-1)) dX11_tip_124 rfl ?_
              refine aw_icmp_eq (tgt := 137) dX11_tip_125 rfl (fun c125 => ?_) (fun c125 => ?_)
              · refine aw_iload dX11_tip_137 rfl ?_
                refine aw_istore_n dX11_tip_139 (by decide) rfl ?_
                refine aw_iload dX11_tip_140 rfl ?_
                refine aw_istore_n dX11_tip_142 (by decide) rfl ?_
                refine aw_iinc dX11_tip_143 rfl (ginc rfl) (by decide) rfl ?_
                refine aw_goto (tgt := 51) dX11_tip_146 rfl ?_
                have tp : tipP N p (mLikes N p i) = true := by simp [tipP, bI1.mp c92]
                have st : tipL N p (i + 1) = (nI (mLikes N p i), mAhead N p (mLikes N p i) (mBidders N (mLikes N p i))) := by rw [tipL, if_pos (by simp [tp, c125])]
                have := ih hlt (some (.int (nI (mLikes N p i)))) (some (.int (mAhead N p (mLikes N p i) (mBidders N (mLikes N p i)))))
                rw [st] at this
                exact this
              · refine aw_iload dX11_tip_128 rfl ?_
                refine aw_iload_n dX11_tip_130 rfl ?_
                refine aw_icmp_lt (tgt := 137) dX11_tip_131 rfl (fun c131 => ?_) (fun c131 => ?_)
                · refine aw_iload dX11_tip_137 rfl ?_
                  refine aw_istore_n dX11_tip_139 (by decide) rfl ?_
                  refine aw_iload dX11_tip_140 rfl ?_
                  refine aw_istore_n dX11_tip_142 (by decide) rfl ?_
                  refine aw_iinc dX11_tip_143 rfl (ginc rfl) (by decide) rfl ?_
                  refine aw_goto (tgt := 51) dX11_tip_146 rfl ?_
                  have tp : tipP N p (mLikes N p i) = true := by simp [tipP, bI1.mp c92]
                  have st : tipL N p (i + 1) = (nI (mLikes N p i), mAhead N p (mLikes N p i) (mBidders N (mLikes N p i))) := by rw [tipL, if_pos (by simp [tp, c131])]
                  have := ih hlt (some (.int (nI (mLikes N p i)))) (some (.int (mAhead N p (mLikes N p i) (mBidders N (mLikes N p i)))))
                  rw [st] at this
                  exact this
                · refine aw_goto (tgt := 143) dX11_tip_134 rfl ?_
                  refine aw_iinc dX11_tip_143 rfl (ginc rfl) (by decide) rfl ?_
                  refine aw_goto (tgt := 51) dX11_tip_146 rfl ?_
                  have tp : tipP N p (mLikes N p i) = true := by simp [tipP, bI1.mp c92]
                  have st : tipL N p (i + 1) = tipL N p i := by rw [tipL, if_neg (by simp [tp, c125, c131])]
                  have := ih hlt (some (.int (nI (mLikes N p i)))) (some (.int (mAhead N p (mLikes N p i) (mBidders N (mLikes N p i)))))
                  rw [st] at this
                  exact this
            · refine aw_aload_n dX11_tip_95 rfl ?_
              refine aw_iload_n dX11_tip_96 rfl ?_
              refine aw_iload dX11_tip_97 rfl ?_
              refine aw_cV dX11_tip_99 kX11_256 mX11_whyNot (rX11_whyNot (p := p) (h := mLikes N p i) hM hI hN rfl rfl hp8 h10) (Nat.le_of_ble_eq_true rfl) hM.k ⟨by decide, rfl⟩ hM.b rfl rfl (Nat.le_of_ble_eq_true rfl) ⟨Nat.le_refl _, Nat.le_refl _⟩ ?_
              refine aw_if_eq (tgt := 108) dX11_tip_102 rfl (fun c102 => ?_) (fun c102 => ?_)
              · refine aw_aload_n dX11_tip_108 rfl ?_
                refine aw_iload_n dX11_tip_109 rfl ?_
                refine aw_iload dX11_tip_110 rfl ?_
                refine aw_aload_n dX11_tip_112 rfl ?_
                refine aw_iload dX11_tip_113 rfl ?_
                refine aw_cV dX11_tip_115 kX11_277 mX11_biddersOf (rX11_biddersOf (h := mLikes N p i) hM hI hN rfl) (Nat.le_of_ble_eq_true rfl) hM.k ⟨by decide, rfl⟩ hM.b rfl rfl (Nat.le_of_ble_eq_true rfl) ⟨Nat.le_refl _, Nat.le_refl _⟩ ?_
                refine aw_cV dX11_tip_118 kX11_286 mX11_aheadOf (rX11_aheadOf (p := p) (h := mLikes N p i) hM hI hN rfl rfl hp8 h10) (Nat.le_of_ble_eq_true rfl) hM.k ⟨by decide, rfl⟩ hM.b rfl rfl (Nat.le_of_ble_eq_true rfl) ⟨Nat.le_refl _, Nat.le_refl _⟩ ?_
                refine aw_istore dX11_tip_121 (by decide) rfl ?_
                refine aw_iload_n dX11_tip_123 rfl ?_
                refine aw_iconst (v := (-1)) dX11_tip_124 rfl ?_
                refine aw_icmp_eq (tgt := 137) dX11_tip_125 rfl (fun c125 => ?_) (fun c125 => ?_)
                · refine aw_iload dX11_tip_137 rfl ?_
                  refine aw_istore_n dX11_tip_139 (by decide) rfl ?_
                  refine aw_iload dX11_tip_140 rfl ?_
                  refine aw_istore_n dX11_tip_142 (by decide) rfl ?_
                  refine aw_iinc dX11_tip_143 rfl (ginc rfl) (by decide) rfl ?_
                  refine aw_goto (tgt := 51) dX11_tip_146 rfl ?_
                  have tp : tipP N p (mLikes N p i) = true := by simp [tipP, c102]
                  have st : tipL N p (i + 1) = (nI (mLikes N p i), mAhead N p (mLikes N p i) (mBidders N (mLikes N p i))) := by rw [tipL, if_pos (by simp [tp, c125])]
                  have := ih hlt (some (.int (nI (mLikes N p i)))) (some (.int (mAhead N p (mLikes N p i) (mBidders N (mLikes N p i)))))
                  rw [st] at this
                  exact this
                · refine aw_iload dX11_tip_128 rfl ?_
                  refine aw_iload_n dX11_tip_130 rfl ?_
                  refine aw_icmp_lt (tgt := 137) dX11_tip_131 rfl (fun c131 => ?_) (fun c131 => ?_)
                  · refine aw_iload dX11_tip_137 rfl ?_
                    refine aw_istore_n dX11_tip_139 (by decide) rfl ?_
                    refine aw_iload dX11_tip_140 rfl ?_
                    refine aw_istore_n dX11_tip_142 (by decide) rfl ?_
                    refine aw_iinc dX11_tip_143 rfl (ginc rfl) (by decide) rfl ?_
                    refine aw_goto (tgt := 51) dX11_tip_146 rfl ?_
                    have tp : tipP N p (mLikes N p i) = true := by simp [tipP, c102]
                    have st : tipL N p (i + 1) = (nI (mLikes N p i), mAhead N p (mLikes N p i) (mBidders N (mLikes N p i))) := by rw [tipL, if_pos (by simp [tp, c131])]
                    have := ih hlt (some (.int (nI (mLikes N p i)))) (some (.int (mAhead N p (mLikes N p i) (mBidders N (mLikes N p i)))))
                    rw [st] at this
                    exact this
                  · refine aw_goto (tgt := 143) dX11_tip_134 rfl ?_
                    refine aw_iinc dX11_tip_143 rfl (ginc rfl) (by decide) rfl ?_
                    refine aw_goto (tgt := 51) dX11_tip_146 rfl ?_
                    have tp : tipP N p (mLikes N p i) = true := by simp [tipP, c102]
                    have st : tipL N p (i + 1) = tipL N p i := by rw [tipL, if_neg (by simp [tp, c125, c131])]
                    have := ih hlt (some (.int (nI (mLikes N p i)))) (some (.int (mAhead N p (mLikes N p i) (mBidders N (mLikes N p i)))))
                    rw [st] at this
                    exact this
              · refine aw_goto (tgt := 143) dX11_tip_105 rfl ?_
                refine aw_iinc dX11_tip_143 rfl (ginc rfl) (by decide) rfl ?_
                refine aw_goto (tgt := 51) dX11_tip_146 rfl ?_
                have tp : tipP N p (mLikes N p i) = false := by simp [tipP, bI0.mp c92, c102]
                have st : tipL N p (i + 1) = tipL N p i := by rw [tipL, if_neg (by simp [tp])]
                have := ih hlt (some (.int (nI (mLikes N p i)))) (a7)
                rw [st] at this
                exact this
          · refine aw_iload dX11_tip_68 rfl ?_
            refine aw_goto (tgt := 83) dX11_tip_70 rfl ?_
            first | refine AW.top (like_0 c65) ?_ | refine AW.top (like_1 hN hp8 hlt c65) ?_
            refine aw_istore dX11_tip_83 (by decide) rfl ?_
            refine aw_aload_n dX11_tip_85 rfl ?_
            refine aw_iload_n dX11_tip_86 rfl ?_
            refine aw_iload dX11_tip_87 rfl ?_
            refine aw_cV dX11_tip_89 kX11_234 mX11_isBid (rX11_isBid (p := p) hM hI rfl hp8) (Nat.le_of_ble_eq_true rfl) hM.k ⟨by decide, rfl⟩ hM.b rfl rfl (Nat.le_of_ble_eq_true rfl) ⟨Nat.le_refl _, Nat.le_refl _⟩ ?_
            refine aw_if_ne (tgt := 108) dX11_tip_92 rfl (fun c92 => ?_) (fun c92 => ?_)
            · refine aw_aload_n dX11_tip_108 rfl ?_
              refine aw_iload_n dX11_tip_109 rfl ?_
              refine aw_iload dX11_tip_110 rfl ?_
              refine aw_aload_n dX11_tip_112 rfl ?_
              refine aw_iload dX11_tip_113 rfl ?_
              refine aw_cV dX11_tip_115 kX11_277 mX11_biddersOf (rX11_biddersOf (h := mLikes N p i) hM hI hN rfl) (Nat.le_of_ble_eq_true rfl) hM.k ⟨by decide, rfl⟩ hM.b rfl rfl (Nat.le_of_ble_eq_true rfl) ⟨Nat.le_refl _, Nat.le_refl _⟩ ?_
              refine aw_cV dX11_tip_118 kX11_286 mX11_aheadOf (rX11_aheadOf (p := p) (h := mLikes N p i) hM hI hN rfl rfl hp8 h10) (Nat.le_of_ble_eq_true rfl) hM.k ⟨by decide, rfl⟩ hM.b rfl rfl (Nat.le_of_ble_eq_true rfl) ⟨Nat.le_refl _, Nat.le_refl _⟩ ?_
              refine aw_istore dX11_tip_121 (by decide) rfl ?_
              refine aw_iload_n dX11_tip_123 rfl ?_
              refine aw_iconst (v := (-1)) dX11_tip_124 rfl ?_
              refine aw_icmp_eq (tgt := 137) dX11_tip_125 rfl (fun c125 => ?_) (fun c125 => ?_)
              · refine aw_iload dX11_tip_137 rfl ?_
                refine aw_istore_n dX11_tip_139 (by decide) rfl ?_
                refine aw_iload dX11_tip_140 rfl ?_
                refine aw_istore_n dX11_tip_142 (by decide) rfl ?_
                refine aw_iinc dX11_tip_143 rfl (ginc rfl) (by decide) rfl ?_
                refine aw_goto (tgt := 51) dX11_tip_146 rfl ?_
                have tp : tipP N p (mLikes N p i) = true := by simp [tipP, bI1.mp c92]
                have st : tipL N p (i + 1) = (nI (mLikes N p i), mAhead N p (mLikes N p i) (mBidders N (mLikes N p i))) := by rw [tipL, if_pos (by simp [tp, c125])]
                have := ih hlt (some (.int (nI (mLikes N p i)))) (some (.int (mAhead N p (mLikes N p i) (mBidders N (mLikes N p i)))))
                rw [st] at this
                exact this
              · refine aw_iload dX11_tip_128 rfl ?_
                refine aw_iload_n dX11_tip_130 rfl ?_
                refine aw_icmp_lt (tgt := 137) dX11_tip_131 rfl (fun c131 => ?_) (fun c131 => ?_)
                · refine aw_iload dX11_tip_137 rfl ?_
                  refine aw_istore_n dX11_tip_139 (by decide) rfl ?_
                  refine aw_iload dX11_tip_140 rfl ?_
                  refine aw_istore_n dX11_tip_142 (by decide) rfl ?_
                  refine aw_iinc dX11_tip_143 rfl (ginc rfl) (by decide) rfl ?_
                  refine aw_goto (tgt := 51) dX11_tip_146 rfl ?_
                  have tp : tipP N p (mLikes N p i) = true := by simp [tipP, bI1.mp c92]
                  have st : tipL N p (i + 1) = (nI (mLikes N p i), mAhead N p (mLikes N p i) (mBidders N (mLikes N p i))) := by rw [tipL, if_pos (by simp [tp, c131])]
                  have := ih hlt (some (.int (nI (mLikes N p i)))) (some (.int (mAhead N p (mLikes N p i) (mBidders N (mLikes N p i)))))
                  rw [st] at this
                  exact this
                · refine aw_goto (tgt := 143) dX11_tip_134 rfl ?_
                  refine aw_iinc dX11_tip_143 rfl (ginc rfl) (by decide) rfl ?_
                  refine aw_goto (tgt := 51) dX11_tip_146 rfl ?_
                  have tp : tipP N p (mLikes N p i) = true := by simp [tipP, bI1.mp c92]
                  have st : tipL N p (i + 1) = tipL N p i := by rw [tipL, if_neg (by simp [tp, c125, c131])]
                  have := ih hlt (some (.int (nI (mLikes N p i)))) (some (.int (mAhead N p (mLikes N p i) (mBidders N (mLikes N p i)))))
                  rw [st] at this
                  exact this
            · refine aw_aload_n dX11_tip_95 rfl ?_
              refine aw_iload_n dX11_tip_96 rfl ?_
              refine aw_iload dX11_tip_97 rfl ?_
              refine aw_cV dX11_tip_99 kX11_256 mX11_whyNot (rX11_whyNot (p := p) (h := mLikes N p i) hM hI hN rfl rfl hp8 h10) (Nat.le_of_ble_eq_true rfl) hM.k ⟨by decide, rfl⟩ hM.b rfl rfl (Nat.le_of_ble_eq_true rfl) ⟨Nat.le_refl _, Nat.le_refl _⟩ ?_
              refine aw_if_eq (tgt := 108) dX11_tip_102 rfl (fun c102 => ?_) (fun c102 => ?_)
              · refine aw_aload_n dX11_tip_108 rfl ?_
                refine aw_iload_n dX11_tip_109 rfl ?_
                refine aw_iload dX11_tip_110 rfl ?_
                refine aw_aload_n dX11_tip_112 rfl ?_
                refine aw_iload dX11_tip_113 rfl ?_
                refine aw_cV dX11_tip_115 kX11_277 mX11_biddersOf (rX11_biddersOf (h := mLikes N p i) hM hI hN rfl) (Nat.le_of_ble_eq_true rfl) hM.k ⟨by decide, rfl⟩ hM.b rfl rfl (Nat.le_of_ble_eq_true rfl) ⟨Nat.le_refl _, Nat.le_refl _⟩ ?_
                refine aw_cV dX11_tip_118 kX11_286 mX11_aheadOf (rX11_aheadOf (p := p) (h := mLikes N p i) hM hI hN rfl rfl hp8 h10) (Nat.le_of_ble_eq_true rfl) hM.k ⟨by decide, rfl⟩ hM.b rfl rfl (Nat.le_of_ble_eq_true rfl) ⟨Nat.le_refl _, Nat.le_refl _⟩ ?_
                refine aw_istore dX11_tip_121 (by decide) rfl ?_
                refine aw_iload_n dX11_tip_123 rfl ?_
                refine aw_iconst (v := (-1)) dX11_tip_124 rfl ?_
                refine aw_icmp_eq (tgt := 137) dX11_tip_125 rfl (fun c125 => ?_) (fun c125 => ?_)
                · refine aw_iload dX11_tip_137 rfl ?_
                  refine aw_istore_n dX11_tip_139 (by decide) rfl ?_
                  refine aw_iload dX11_tip_140 rfl ?_
                  refine aw_istore_n dX11_tip_142 (by decide) rfl ?_
                  refine aw_iinc dX11_tip_143 rfl (ginc rfl) (by decide) rfl ?_
                  refine aw_goto (tgt := 51) dX11_tip_146 rfl ?_
                  have tp : tipP N p (mLikes N p i) = true := by simp [tipP, c102]
                  have st : tipL N p (i + 1) = (nI (mLikes N p i), mAhead N p (mLikes N p i) (mBidders N (mLikes N p i))) := by rw [tipL, if_pos (by simp [tp, c125])]
                  have := ih hlt (some (.int (nI (mLikes N p i)))) (some (.int (mAhead N p (mLikes N p i) (mBidders N (mLikes N p i)))))
                  rw [st] at this
                  exact this
                · refine aw_iload dX11_tip_128 rfl ?_
                  refine aw_iload_n dX11_tip_130 rfl ?_
                  refine aw_icmp_lt (tgt := 137) dX11_tip_131 rfl (fun c131 => ?_) (fun c131 => ?_)
                  · refine aw_iload dX11_tip_137 rfl ?_
                    refine aw_istore_n dX11_tip_139 (by decide) rfl ?_
                    refine aw_iload dX11_tip_140 rfl ?_
                    refine aw_istore_n dX11_tip_142 (by decide) rfl ?_
                    refine aw_iinc dX11_tip_143 rfl (ginc rfl) (by decide) rfl ?_
                    refine aw_goto (tgt := 51) dX11_tip_146 rfl ?_
                    have tp : tipP N p (mLikes N p i) = true := by simp [tipP, c102]
                    have st : tipL N p (i + 1) = (nI (mLikes N p i), mAhead N p (mLikes N p i) (mBidders N (mLikes N p i))) := by rw [tipL, if_pos (by simp [tp, c131])]
                    have := ih hlt (some (.int (nI (mLikes N p i)))) (some (.int (mAhead N p (mLikes N p i) (mBidders N (mLikes N p i)))))
                    rw [st] at this
                    exact this
                  · refine aw_goto (tgt := 143) dX11_tip_134 rfl ?_
                    refine aw_iinc dX11_tip_143 rfl (ginc rfl) (by decide) rfl ?_
                    refine aw_goto (tgt := 51) dX11_tip_146 rfl ?_
                    have tp : tipP N p (mLikes N p i) = true := by simp [tipP, c102]
                    have st : tipL N p (i + 1) = tipL N p i := by rw [tipL, if_neg (by simp [tp, c125, c131])]
                    have := ih hlt (some (.int (nI (mLikes N p i)))) (some (.int (mAhead N p (mLikes N p i) (mBidders N (mLikes N p i)))))
                    rw [st] at this
                    exact this
              · refine aw_goto (tgt := 143) dX11_tip_105 rfl ?_
                refine aw_iinc dX11_tip_143 rfl (ginc rfl) (by decide) rfl ?_
                refine aw_goto (tgt := 51) dX11_tip_146 rfl ?_
                have tp : tipP N p (mLikes N p i) = false := by simp [tipP, bI0.mp c92, c102]
                have st : tipL N p (i + 1) = tipL N p i := by rw [tipL, if_neg (by simp [tp])]
                have := ih hlt (some (.int (nI (mLikes N p i)))) (a7)
                rw [st] at this
                exact this
      exact loop 0 (Nat.zero_le _) none none
  · refine aw_aload_n dX11_tip_8 rfl ?_
    refine aw_iconst (v := 2) dX11_tip_9 rfl ?_
    refine aw_cV dX11_tip_10 kX11_186 mX11_refuse (sX11_refuse hM) (Nat.le_of_ble_eq_true rfl) hM.k ⟨by decide, rfl⟩ hM.b rfl rfl (Nat.le_of_ble_eq_true rfl) ⟨Nat.le_refl _, Nat.le_refl _⟩ ?_
    refine aw_iret q rfl dX11_tip_13 ⟨Nat.le_refl _, Nat.le_refl _⟩ ?_
    exact Tl.no (by simp [aTip, bI0.mp c5])
set_option maxHeartbeats 4000000 in
set_option maxRecDepth 100000 in
theorem rX11_would (hM : IsM n sh m) {N : Nat → Int32} (hI : I (m + 1) = N) (hN : Cn N) (hl : Lo N) {x y : Int32} : CM yX11_would cX11_would 5 (Option.some .int) 9 0 0 [.ref m, .int x, .int y] z n sh I L (TlS (aWould N x y) z n sh I L m) := by
  refine CM.go [some (.ref m), some (.int x), some (.int y), none, none] rfl rfl (Nat.le_of_ble_eq_true rfl) (fun X g q => ?_)
  refine aw_aload_n dX11_would_0 rfl ?_
  refine aw_iload_n dX11_would_1 rfl ?_
  refine aw_iload_n dX11_would_2 rfl ?_
  refine aw_cV dX11_would_3 kX11_253 mX11_areOnes (rX11_areOnes hM hI) (Nat.le_of_ble_eq_true rfl) hM.k ⟨by decide, rfl⟩ hM.b rfl rfl (Nat.le_of_ble_eq_true rfl) ⟨Nat.le_refl _, Nat.le_refl _⟩ ?_
  refine aw_if_ne (tgt := 15) dX11_would_6 rfl (fun c6 => ?_) (fun c6 => ?_)
  · have f6 := bI1.mp c6
    obtain ⟨p, h, hpn, hhn, hp8, hh10, rfl, rfl, ep, eh⟩ := ones_ix hN f6
    refine aw_aload_n dX11_would_15 rfl ?_
    refine aw_iload_n dX11_would_16 rfl ?_
    refine aw_cV dX11_would_17 kX11_283 mX11_mayHope (rX11_mayHope (p := p) hM hI rfl hp8) (Nat.le_of_ble_eq_true rfl) hM.k ⟨by decide, rfl⟩ hM.b rfl rfl (Nat.le_of_ble_eq_true rfl) ⟨Nat.le_refl _, Nat.le_refl _⟩ ?_
    refine aw_if_eq (tgt := 40) dX11_would_20 rfl (fun c20 => ?_) (fun c20 => ?_)
    · refine aw_aload_n dX11_would_40 rfl ?_
      refine aw_iconst (v := 5) dX11_would_41 rfl ?_
      refine aw_cV dX11_would_42 kX11_186 mX11_refuse (sX11_refuse hM) (Nat.le_of_ble_eq_true rfl) hM.k ⟨by decide, rfl⟩ hM.b rfl rfl (Nat.le_of_ble_eq_true rfl) ⟨Nat.le_refl _, Nat.le_refl _⟩ ?_
      refine aw_iret q rfl dX11_would_45 ⟨Nat.le_refl _, Nat.le_refl _⟩ ?_
      refine TlS.no ?_ RSc.rf
      simp [aWould, f6, ep, eh, bI0.mp c20]
    · refine aw_aload_n dX11_would_23 rfl ?_
      refine aw_iload_n dX11_would_24 rfl ?_
      refine aw_cV dX11_would_25 kX11_219 mX11_isFree (rX11_isFree (h := h) hM hI rfl hh10) (Nat.le_of_ble_eq_true rfl) hM.k ⟨by decide, rfl⟩ hM.b rfl rfl (Nat.le_of_ble_eq_true rfl) ⟨Nat.le_refl _, Nat.le_refl _⟩ ?_
      refine aw_if_eq (tgt := 40) dX11_would_28 rfl (fun c28 => ?_) (fun c28 => ?_)
      · refine aw_aload_n dX11_would_40 rfl ?_
        refine aw_iconst (v := 5) dX11_would_41 rfl ?_
        refine aw_cV dX11_would_42 kX11_186 mX11_refuse (sX11_refuse hM) (Nat.le_of_ble_eq_true rfl) hM.k ⟨by decide, rfl⟩ hM.b rfl rfl (Nat.le_of_ble_eq_true rfl) ⟨Nat.le_refl _, Nat.le_refl _⟩ ?_
        refine aw_iret q rfl dX11_would_45 ⟨Nat.le_refl _, Nat.le_refl _⟩ ?_
        refine TlS.no ?_ RSc.rf
        simp [aWould, f6, ep, eh, bI0.mp c28]
      · refine aw_aload_n dX11_would_31 rfl ?_
        refine aw_iload_n dX11_would_32 rfl ?_
        refine aw_iload_n dX11_would_33 rfl ?_
        refine aw_cV dX11_would_34 kX11_250 mX11_doesFit (rX11_doesFit (p := p) (h := h) hM hI rfl rfl hp8 hh10) (Nat.le_of_ble_eq_true rfl) hM.k ⟨by decide, rfl⟩ hM.b rfl rfl (Nat.le_of_ble_eq_true rfl) ⟨Nat.le_refl _, Nat.le_refl _⟩ ?_
        refine aw_if_ne (tgt := 46) dX11_would_37 rfl (fun c37 => ?_) (fun c37 => ?_)
        · refine aw_aload_n dX11_would_46 rfl ?_
          refine aw_getR (b := m + 1) dX11_would_47 fX11_7 hM.k hM.b rfl hM.r0 ?_
          refine aw_aload_n dX11_would_50 rfl ?_
          refine aw_getR (b := m + 3) dX11_would_51 fX11_16 hM.k hM.b rfl hM.r2 ?_
          refine aw_cS dX11_would_54 kX11_192 mX11_copies (rX11_copies (a := m + 1) (b := m + 3) hM.k0 hM.b0 hM.l0 hM.k2 hM.b2 hM.l2 (by omega)) (Nat.le_of_ble_eq_true rfl) rfl rfl (Nat.le_of_ble_eq_true rfl) ⟨Nat.le_refl _, Nat.le_refl _⟩ ?_
          refine AW.mem (I2 := sv I m N) (by unfold sv; rw [hI]) ?_
          refine aw_aload_n dX11_would_57 rfl ?_
          refine aw_iload_n dX11_would_58 rfl ?_
          refine aw_bipush (v := 10) dX11_would_59 rfl ?_
          refine aw_iconst (v := 1) dX11_would_61 rfl ?_
          refine aw_iload_n dX11_would_62 rfl ?_
          refine aw_ishl dX11_would_63 ?_
          refine aw_cV dX11_would_64 kX11_289 mX11_puts (rX11_puts (p := p) (w := 10) hM (sv_now hI) rfl rfl (by omega)) (Nat.le_of_ble_eq_true rfl) hM.k ⟨by decide, rfl⟩ hM.b rfl rfl (Nat.le_of_ble_eq_true rfl) ⟨Nat.le_refl _, Nat.le_refl _⟩ ?_
          refine aw_aload_n dX11_would_67 rfl ?_
          refine aw_cV dX11_would_68 kX11_328 mX11_weekEnds (rX11_weekEnds hM upA_self (wouldN_Wk hN hl hp8 hh10).1 (wouldN_Wk hN hl hp8 hh10).2.1) (Nat.le_of_ble_eq_true rfl) hM.k ⟨by decide, rfl⟩ hM.b rfl rfl (Nat.le_of_ble_eq_true rfl) ⟨Nat.le_refl _, Nat.le_refl _⟩ ?_
          refine aw_pop dX11_would_71 rfl ?_
          refine aw_iconst (v := 0) dX11_would_72 rfl ?_
          refine aw_istore_n dX11_would_73 (by decide) rfl ?_
          refine aw_iconst (v := 0) dX11_would_74 rfl ?_
          refine aw_istore dX11_would_75 (by decide) rfl ?_
          have f20 := bI1.mp c20
          have f28 := bI1.mp c28
          have f37 := bI1.mp c37
          obtain ⟨c1, l1, h1⟩ := wouldN_Wk hN hl hp8 hh10
          obtain ⟨cW, lW, -, -⟩ := week_Wk c1 l1
          have hhi : ∀ j, 390 ≤ j → mWeek (wouldN N p h) j = N j := fun j hj => by rw [week_hi c1 l1 hj, h1 j hj]
          have loop : ∀ i, i ≤ nOf (mWeek (wouldN N p h)) → AW X g RX11 cX11_would 5 (9, 0, 0) (z, n, sh, 0, 0) (upA (sv I m N) (m + 1) (mWeek (wouldN N p h))) (L) 77 [some (.ref m), some (.int (nI p)), some (.int (nI h)), some (.int (wouldV (mWeek (wouldN N p h)) (nI p) i)), some (.int (nI i))] [] := by
            refine up_loop (fun i hi ih => ?_)
            refine aw_iload dX11_would_77 rfl ?_
            refine aw_aload_n dX11_would_79 rfl ?_
            refine aw_getR (b := m + 1) dX11_would_80 fX11_7 hM.k hM.b rfl hM.r0 ?_
            refine aw_sipush (v := 299) dX11_would_83 rfl ?_
            refine aw_ialdH (k := 299) upA_self dX11_would_86 hM.k0 hM.b0 hM.l0 rfl (by decide) (by decide) ?_
            refine aw_icmp_ge (tgt := 138) dX11_would_87 rfl (fun c87 => ?_) (fun c87 => ?_)
            · have e := ge_t cW.o (by have := cW.o30; omega) hi c87
              subst e
              refine aw_aload_n dX11_would_138 rfl ?_
              refine aw_getR (b := m + 3) dX11_would_139 fX11_16 hM.k hM.b rfl hM.r2 ?_
              refine aw_aload_n dX11_would_142 rfl ?_
              refine aw_getR (b := m + 1) dX11_would_143 fX11_7 hM.k hM.b rfl hM.r0 ?_
              refine aw_cS dX11_would_146 kX11_192 mX11_copies (rX11_copies (a := m + 3) (b := m + 1) hM.k2 hM.b2 hM.l2 hM.k0 hM.b0 hM.l0 (by omega)) (Nat.le_of_ble_eq_true rfl) rfl rfl (Nat.le_of_ble_eq_true rfl) ⟨Nat.le_refl _, Nat.le_refl _⟩ ?_
              refine AW.mem (I2 := sv I m N) (sv_back hI hhi) ?_
              refine aw_aload_n dX11_would_149 rfl ?_
              refine aw_iload_n dX11_would_150 rfl ?_
              refine aw_cV dX11_would_151 kX11_199 mX11_gives (sX11_gives hM) (Nat.le_of_ble_eq_true rfl) hM.k ⟨by decide, rfl⟩ hM.b rfl rfl (Nat.le_of_ble_eq_true rfl) ⟨Nat.le_refl _, Nat.le_refl _⟩ ?_
              refine aw_iret q rfl dX11_would_154 ⟨Nat.le_refl _, Nat.le_refl _⟩ ?_
              refine TlS.ok ?_ RSc.svd
              simp [aWould, f6, f20, f28, f37, ep, eh]
            · have hlt := ge_f cW.o (by have := cW.o30; omega) hi c87
              have h30 := cW.o30
              refine aw_aload_n dX11_would_90 rfl ?_
              refine aw_getR (b := m + 1) dX11_would_91 fX11_7 hM.k hM.b rfl hM.r0 ?_
              refine aw_sipush (v := 300) dX11_would_94 rfl ?_
              refine aw_iconst (v := 3) dX11_would_97 rfl ?_
              refine aw_iload dX11_would_98 rfl ?_
              refine aw_imul dX11_would_100 ?_
              refine aw_iadd dX11_would_101 ?_
              refine aw_ialdH (k := (300 + (3 * i))) upA_self dX11_would_102 hM.k0 hM.b0 hM.l0 (gadd rfl (gmul rfl rfl)) (by omega) (by decide) ?_
              refine aw_iload_n dX11_would_103 rfl ?_
              refine aw_icmp_ne (tgt := 132) dX11_would_104 rfl (fun c104 => ?_) (fun c104 => ?_)
              · refine aw_iinc dX11_would_132 rfl (ginc rfl) (by decide) rfl ?_
                refine aw_goto (tgt := 77) dX11_would_135 rfl ?_
                have := ih hlt
                rw [wouldV, if_neg c104] at this
                exact this
              · refine aw_aload_n dX11_would_107 rfl ?_
                refine aw_getR (b := m + 1) dX11_would_108 fX11_7 hM.k hM.b rfl hM.r0 ?_
                refine aw_sipush (v := 300) dX11_would_111 rfl ?_
                refine aw_iconst (v := 3) dX11_would_114 rfl ?_
                refine aw_iload dX11_would_115 rfl ?_
                refine aw_imul dX11_would_117 ?_
                refine aw_iadd dX11_would_118 ?_
                refine aw_iconst (v := 2) dX11_would_119 rfl ?_
                refine aw_iadd dX11_would_120 ?_
                refine aw_ialdH (k := ((300 + (3 * i)) + 2)) upA_self dX11_would_121 hM.k0 hM.b0 hM.l0 (gadd (gadd rfl (gmul rfl rfl)) rfl) (by omega) (by decide) ?_
                refine aw_iconst (v := 1) dX11_would_122 rfl ?_
                refine awt_icmp_ne (A := 1) (B := 2) dX11_would_123 dX11_would_126 dX11_would_127 dX11_would_130 rfl rfl ?_
                refine aw_istore_n dX11_would_131 (by decide) rfl ?_
                refine aw_iinc dX11_would_132 rfl (ginc rfl) (by decide) rfl ?_
                refine aw_goto (tgt := 77) dX11_would_135 rfl ?_
                have := ih hlt
                rw [wouldV, if_pos c104] at this
                exact this
          refine AW.mem ?_ (loop 0 (Nat.zero_le _))
          simp only [upA_upA, wouldN]
        · refine aw_aload_n dX11_would_40 rfl ?_
          refine aw_iconst (v := 5) dX11_would_41 rfl ?_
          refine aw_cV dX11_would_42 kX11_186 mX11_refuse (sX11_refuse hM) (Nat.le_of_ble_eq_true rfl) hM.k ⟨by decide, rfl⟩ hM.b rfl rfl (Nat.le_of_ble_eq_true rfl) ⟨Nat.le_refl _, Nat.le_refl _⟩ ?_
          refine aw_iret q rfl dX11_would_45 ⟨Nat.le_refl _, Nat.le_refl _⟩ ?_
          refine TlS.no ?_ RSc.rf
          simp [aWould, f6, ep, eh, bI0.mp c37]
  · refine aw_aload_n dX11_would_9 rfl ?_
    refine aw_iconst (v := 2) dX11_would_10 rfl ?_
    refine aw_cV dX11_would_11 kX11_186 mX11_refuse (sX11_refuse hM) (Nat.le_of_ble_eq_true rfl) hM.k ⟨by decide, rfl⟩ hM.b rfl rfl (Nat.le_of_ble_eq_true rfl) ⟨Nat.le_refl _, Nat.le_refl _⟩ ?_
    refine aw_iret q rfl dX11_would_14 ⟨Nat.le_refl _, Nat.le_refl _⟩ ?_
    exact TlS.no (by simp [aWould, bI0.mp c6]) RSc.rf
theorem mo_t : ∀ r, r < 6 → (¬ nI r = 0 ∧ ¬ nI r = 2 ∧ ¬ nI r = 1 ∧ ¬ nI r = 3 ∧ ¬ nI r = 4) → 3 = rMost r := by decide
theorem mo_f : ∀ r, r < 6 → (¬ nI r = 0 ∧ ¬ nI r = 2 ∧ ¬ nI r = 1 ∧ ¬ nI r = 3 ∧ nI r = 4) → 999 = rMost r := by decide
set_option maxHeartbeats 4000000 in
set_option maxRecDepth 100000 in
theorem sX11_leastOf {x : Int32} {r : Nat} (hx : x = nI r) (hr : r < 6) : CM yX11_leastOf cX11_leastOf 1 (Option.some .int) 1 0 0 [.int x] z n sh I L (Pst (some (.int (rLeast r))) z n sh I L) := by
  refine CM.go [some (.int x)] rfl rfl (Nat.le_of_ble_eq_true rfl) (fun X g q => ?_)
  refine aw_iload_n dX11_leastOf_0 rfl ?_
  refine aw_iconst (v := 2) dX11_leastOf_1 rfl ?_
  refine aw_icmp_eq (tgt := 10) dX11_leastOf_2 rfl (fun c2 => ?_) (fun c2 => ?_)
  · refine aw_iconst (v := 0) dX11_leastOf_10 rfl ?_
    refine aw_goto (tgt := 15) dX11_leastOf_11 rfl ?_
    refine aw_iret q rfl dX11_leastOf_15 ⟨Nat.le_refl _, Nat.le_refl _⟩ ?_
    refine Pst.iv ?_
    subst hx
    clear q
    revert r
    decide
  · refine aw_iload_n dX11_leastOf_5 rfl ?_
    refine aw_iconst (v := 3) dX11_leastOf_6 rfl ?_
    refine aw_icmp_ne (tgt := 14) dX11_leastOf_7 rfl (fun c7 => ?_) (fun c7 => ?_)
    · refine aw_iconst (v := 1) dX11_leastOf_14 rfl ?_
      refine aw_iret q rfl dX11_leastOf_15 ⟨Nat.le_refl _, Nat.le_refl _⟩ ?_
      refine Pst.iv ?_
      subst hx
      clear q
      revert r
      decide
    · refine aw_iconst (v := 0) dX11_leastOf_10 rfl ?_
      refine aw_goto (tgt := 15) dX11_leastOf_11 rfl ?_
      refine aw_iret q rfl dX11_leastOf_15 ⟨Nat.le_refl _, Nat.le_refl _⟩ ?_
      refine Pst.iv ?_
      subst hx
      clear q
      revert r
      decide
set_option maxHeartbeats 4000000 in
set_option maxRecDepth 100000 in
theorem sX11_mostOf {x : Int32} {r : Nat} (hx : x = nI r) (hr : r < 6) : CM yX11_mostOf cX11_mostOf 1 (Option.some .int) 1 0 0 [.int x] z n sh I L (Pst (some (.int (rMost r))) z n sh I L) := by
  refine CM.go [some (.int x)] rfl rfl (Nat.le_of_ble_eq_true rfl) (fun X g q => ?_)
  refine aw_iload_n dX11_mostOf_0 rfl ?_
  refine aw_if_eq (tgt := 9) dX11_mostOf_1 rfl (fun c1 => ?_) (fun c1 => ?_)
  · refine aw_bipush (v := 9) dX11_mostOf_9 rfl ?_
    refine aw_goto (tgt := 46) dX11_mostOf_11 rfl ?_
    refine aw_iret q rfl dX11_mostOf_46 ⟨Nat.le_refl _, Nat.le_refl _⟩ ?_
    refine Pst.iv ?_
    subst hx
    clear q
    revert r
    decide
  · refine aw_iload_n dX11_mostOf_4 rfl ?_
    refine aw_iconst (v := 2) dX11_mostOf_5 rfl ?_
    refine aw_icmp_ne (tgt := 14) dX11_mostOf_6 rfl (fun c6 => ?_) (fun c6 => ?_)
    · refine aw_iload_n dX11_mostOf_14 rfl ?_
      refine aw_iconst (v := 1) dX11_mostOf_15 rfl ?_
      refine aw_icmp_ne (tgt := 24) dX11_mostOf_16 rfl (fun c16 => ?_) (fun c16 => ?_)
      · refine aw_iload_n dX11_mostOf_24 rfl ?_
        refine aw_iconst (v := 3) dX11_mostOf_25 rfl ?_
        refine aw_icmp_ne (tgt := 34) dX11_mostOf_26 rfl (fun c26 => ?_) (fun c26 => ?_)
        · refine aw_iload_n dX11_mostOf_34 rfl ?_
          refine aw_iconst (v := 4) dX11_mostOf_35 rfl ?_
          refine aw_icmp_ne (tgt := 45) dX11_mostOf_36 rfl (fun c36 => ?_) (fun c36 => ?_)
          · refine aw_iconst (v := 3) dX11_mostOf_45 rfl ?_
            refine aw_iret q rfl dX11_mostOf_46 ⟨Nat.le_refl _, Nat.le_refl _⟩ ?_
            refine Pst.iv ?_
            subst hx
            exact mo_t _ hr ⟨c1, c6, c16, c26, c36⟩
          · refine aw_sipush (v := 999) dX11_mostOf_39 rfl ?_
            refine aw_goto (tgt := 46) dX11_mostOf_42 rfl ?_
            refine aw_iret q rfl dX11_mostOf_46 ⟨Nat.le_refl _, Nat.le_refl _⟩ ?_
            refine Pst.iv ?_
            subst hx
            exact mo_f _ hr ⟨c1, c6, c16, c26, c36⟩
        · refine aw_bipush (v := 100) dX11_mostOf_29 rfl ?_
          refine aw_goto (tgt := 46) dX11_mostOf_31 rfl ?_
          refine aw_iret q rfl dX11_mostOf_46 ⟨Nat.le_refl _, Nat.le_refl _⟩ ?_
          refine Pst.iv ?_
          subst hx
          clear q
          revert r
          decide
      · refine aw_bipush (v := 52) dX11_mostOf_19 rfl ?_
        refine aw_goto (tgt := 46) dX11_mostOf_21 rfl ?_
        refine aw_iret q rfl dX11_mostOf_46 ⟨Nat.le_refl _, Nat.le_refl _⟩ ?_
        refine Pst.iv ?_
        subst hx
        clear q
        revert r
        decide
    · refine aw_bipush (v := 9) dX11_mostOf_9 rfl ?_
      refine aw_goto (tgt := 46) dX11_mostOf_11 rfl ?_
      refine aw_iret q rfl dX11_mostOf_46 ⟨Nat.le_refl _, Nat.le_refl _⟩ ?_
      refine Pst.iv ?_
      subst hx
      clear q
      revert r
      decide
set_option maxHeartbeats 4000000 in
set_option maxRecDepth 100000 in
theorem rX11_letsAhead (hM : IsM n sh m) {N : Nat → Int32} (hI : I (m + 1) = N) (hN : Cn N) (hl : Lo N) {x : Int32} {kk : Nat} (hx : x = nI kk) (hk : kk < 31) : CM yX11_letsAhead cX11_letsAhead 4 (Option.some .int) 10 0 0 [.ref m, .int x] z n sh I L (Pst (some (.int (itr mOneMore kk N 233 - N 233))) z n sh (sv I m N) L) := by
  refine CM.go [some (.ref m), some (.int x), none, none] rfl rfl (Nat.le_of_ble_eq_true rfl) (fun X g q => ?_)
  subst hx
  refine aw_aload_n dX11_letsAhead_0 rfl ?_
  refine aw_getR (b := m + 1) dX11_letsAhead_1 fX11_7 hM.k hM.b rfl hM.r0 ?_
  refine aw_aload_n dX11_letsAhead_4 rfl ?_
  refine aw_getR (b := m + 3) dX11_letsAhead_5 fX11_16 hM.k hM.b rfl hM.r2 ?_
  refine aw_cS dX11_letsAhead_8 kX11_192 mX11_copies (rX11_copies (a := m + 1) (b := m + 3) hM.k0 hM.b0 hM.l0 hM.k2 hM.b2 hM.l2 (by omega)) (Nat.le_of_ble_eq_true rfl) rfl rfl (Nat.le_of_ble_eq_true rfl) ⟨Nat.le_refl _, Nat.le_refl _⟩ ?_
  refine AW.mem (I2 := sv I m N) (by unfold sv; rw [hI]) ?_
  refine aw_aload_n dX11_letsAhead_11 rfl ?_
  refine aw_getR (b := m + 1) dX11_letsAhead_12 fX11_7 hM.k hM.b rfl hM.r0 ?_
  refine aw_sipush (v := 233) dX11_letsAhead_15 rfl ?_
  refine aw_ialdH (k := 233) (sv_now hI) dX11_letsAhead_18 hM.k0 hM.b0 hM.l0 rfl (by decide) (by decide) ?_
  refine aw_istore_n dX11_letsAhead_19 (by decide) rfl ?_
  refine aw_iconst (v := 0) dX11_letsAhead_20 rfl ?_
  refine aw_istore_n dX11_letsAhead_21 (by decide) rfl ?_
  have loop : ∀ i, i ≤ kk → AW X g RX11 cX11_letsAhead 4 (10, 0, 0) (z, n, sh, 0, 0) (upA (sv I m N) (m + 1) (itr mOneMore i N)) (L) 22 [some (.ref m), some (.int (nI kk)), some (.int (N 233)), some (.int (nI i))] [] := by
    refine up_loop (fun i hi ih => ?_)
    refine aw_iload_n dX11_letsAhead_22 rfl ?_
    refine aw_iload_n dX11_letsAhead_23 rfl ?_
    refine aw_icmp_ge (tgt := 37) dX11_letsAhead_24 rfl (fun c24 => ?_) (fun c24 => ?_)
    · have e := ge_t (B := kk) rfl (by omega) hi c24
      subst e
      obtain ⟨cM, lM, -, -, hiM⟩ := ahead_inv hN hl i
      refine aw_aload_n dX11_letsAhead_37 rfl ?_
      refine aw_getR (b := m + 1) dX11_letsAhead_38 fX11_7 hM.k hM.b rfl hM.r0 ?_
      refine aw_sipush (v := 233) dX11_letsAhead_41 rfl ?_
      refine aw_ialdH (k := 233) upA_self dX11_letsAhead_44 hM.k0 hM.b0 hM.l0 rfl (by decide) (by decide) ?_
      refine aw_iload_n dX11_letsAhead_45 rfl ?_
      refine aw_isub dX11_letsAhead_46 ?_
      refine aw_istore_n dX11_letsAhead_47 (by decide) rfl ?_
      refine aw_aload_n dX11_letsAhead_48 rfl ?_
      refine aw_getR (b := m + 3) dX11_letsAhead_49 fX11_16 hM.k hM.b rfl hM.r2 ?_
      refine aw_aload_n dX11_letsAhead_52 rfl ?_
      refine aw_getR (b := m + 1) dX11_letsAhead_53 fX11_7 hM.k hM.b rfl hM.r0 ?_
      refine aw_cS dX11_letsAhead_56 kX11_192 mX11_copies (rX11_copies (a := m + 3) (b := m + 1) hM.k2 hM.b2 hM.l2 hM.k0 hM.b0 hM.l0 (by omega)) (Nat.le_of_ble_eq_true rfl) rfl rfl (Nat.le_of_ble_eq_true rfl) ⟨Nat.le_refl _, Nat.le_refl _⟩ ?_
      refine AW.mem (I2 := sv I m N) (sv_back hI hiM) ?_
      refine aw_iload_n dX11_letsAhead_59 rfl ?_
      refine aw_iret q rfl dX11_letsAhead_60 ⟨Nat.le_refl _, Nat.le_refl _⟩ ?_
      exact Pst.rf
    · have hlt := ge_f (B := kk) rfl (by omega) hi c24
      obtain ⟨cM, lM, -, -, hiM⟩ := ahead_inv hN hl i
      refine aw_aload_n dX11_letsAhead_27 rfl ?_
      refine aw_cV dX11_letsAhead_28 kX11_331 mX11_oneMore (rX11_oneMore hM upA_self cM lM) (Nat.le_of_ble_eq_true rfl) hM.k ⟨by decide, rfl⟩ hM.b rfl rfl (Nat.le_of_ble_eq_true rfl) ⟨Nat.le_refl _, Nat.le_refl _⟩ ?_
      refine aw_iinc dX11_letsAhead_31 rfl (ginc rfl) (by decide) rfl ?_
      refine aw_goto (tgt := 22) dX11_letsAhead_34 rfl ?_
      have := ih hlt
      rw [itr_succ] at this
      refine AW.mem ?_ this
      rw [upA_upA]
  refine AW.mem ?_ (loop 0 (Nat.zero_le _))
  exact (sv_me hI).symm
theorem k2_div {k : Nat} (hk : k < 12) : nI k / 2 = nI (k / 2) := pk_div (a := k) (d := 2) (by omega) (by decide) (by decide)
theorem k2_rem {k : Nat} (hk : k < 12) : nI k - nI k / 2 * 2 = nI (k % 2) := pk_rem (a := k) (d := 2) (by omega) (by decide) (by decide)
theorem lev_top {k : Nat} : (if nI (k % 2) = 0 then (-1 : Int32) else 1) = if k % 2 = 0 then -1 else 1 := by
  rcases Nat.mod_two_eq_zero_or_one k with h | h
  · rw [h]; rfl
  · rw [h]; rfl
theorem lev_back {I : MI} {m k : Nat} {N A : Nat → Int32} (hI : I (m + 1) = N) : upI (sv (upI (upA I (m + 3) A) (m + 1) (224 + k / 2) (levW N k)) m (levN N k)) (m + 1) (224 + k / 2) (N (224 + k / 2)) = upA I (m + 3) (mCopy (levN N k) A) := by
  funext b
  unfold sv
  by_cases h1 : b = m + 1
  · subst h1
    rw [upI_row (f := levN N k) (upA_off (by omega) (by rw [upI_row (upA_off (by omega) hI)]; rfl)), upA_ne (by omega), hI]
    funext j
    unfold levN upd
    by_cases hj : j = 224 + k / 2
    · simp [hj]
    · simp [hj]
  · rw [upI_off h1 rfl]
    by_cases h3 : b = m + 3
    · subst h3
      rw [upA_self, upA_self, upI_off (by omega) upA_self]
    · rw [upA_ne h3, upI_off h1 rfl, upA_ne h3, upA_ne h3]
set_option maxHeartbeats 4000000 in
set_option maxRecDepth 100000 in
theorem rX11_lever (hM : IsM n sh m) {N : Nat → Int32} (hI : I (m + 1) = N) (hN : Cn N) (hl : Lo N) {x w : Int32} : CM yX11_lever cX11_lever 10 (Option.some .int) 11 0 0 [.ref m, .int x, .int w] z n sh I L (TlS (aLever N x w) z n sh I L m) := by
  refine CM.go [some (.ref m), some (.int x), some (.int w), none, none, none, none, none, none, none] rfl rfl (Nat.le_of_ble_eq_true rfl) (fun X g q => ?_)
  refine aw_iload_n dX11_lever_0 rfl ?_
  refine aw_iconst (v := 1) dX11_lever_1 rfl ?_
  refine aw_bipush (v := 30) dX11_lever_2 rfl ?_
  refine aw_cS dX11_lever_4 kX11_71 mX11_isFrom (sX11_isFrom hM) (Nat.le_of_ble_eq_true rfl) rfl rfl (Nat.le_of_ble_eq_true rfl) ⟨Nat.le_refl _, Nat.le_refl _⟩ ?_
  refine aw_if_eq (tgt := 19) dX11_lever_7 rfl (fun c7 => ?_) (fun c7 => ?_)
  · refine aw_aload_n dX11_lever_19 rfl ?_
    refine aw_iconst (v := 1) dX11_lever_20 rfl ?_
    refine aw_cV dX11_lever_21 kX11_186 mX11_refuse (sX11_refuse hM) (Nat.le_of_ble_eq_true rfl) hM.k ⟨by decide, rfl⟩ hM.b rfl rfl (Nat.le_of_ble_eq_true rfl) ⟨Nat.le_refl _, Nat.le_refl _⟩ ?_
    refine aw_iret q rfl dX11_lever_24 ⟨Nat.le_refl _, Nat.le_refl _⟩ ?_
    exact TlS.no (by simp [aLever, bI0.mp c7]) RSc.rf
  · have f7 := bI1.mp c7
    refine aw_iload_n dX11_lever_10 rfl ?_
    refine aw_iconst (v := 0) dX11_lever_11 rfl ?_
    refine aw_iconst (v := 2) dX11_lever_12 rfl ?_
    refine aw_cS dX11_lever_13 kX11_71 mX11_isFrom (sX11_isFrom hM) (Nat.le_of_ble_eq_true rfl) rfl rfl (Nat.le_of_ble_eq_true rfl) ⟨Nat.le_refl _, Nat.le_refl _⟩ ?_
    refine aw_if_ne (tgt := 25) dX11_lever_16 rfl (fun c16 => ?_) (fun c16 => ?_)
    · have f16 := bI1.mp c16
      obtain ⟨kk, hk1, hkk, rfl⟩ := from_1 (B := 30) (by decide) f7
      have f8 : mFrom (nI kk) 1 30 = true := f7
      refine aw_iconst (v := (-1)) dX11_lever_25 rfl ?_
      refine aw_istore_n dX11_lever_26 (by decide) rfl ?_
      refine aw_iconst (v := 0) dX11_lever_27 rfl ?_
      refine aw_istore dX11_lever_28 (by decide) rfl ?_
      refine aw_iconst (v := 0) dX11_lever_30 rfl ?_
      refine aw_istore dX11_lever_31 (by decide) rfl ?_
      refine aw_iconst (v := 0) dX11_lever_33 rfl ?_
      refine aw_istore dX11_lever_34 (by decide) rfl ?_
      have loop : ∀ i, i ≤ 12 → ∀ (A : Nat → Int32) (a7 a8 a9 : Option Value), AW X g RX11 cX11_lever 10 (11, 0, 0) (z, n, sh, 0, 0) (upA I (m + 3) A) (L) 36 [some (.ref m), some (.int (nI kk)), some (.int w), some (.int (levL N kk i).1), some (.int (levL N kk i).2.1), some (.int (levL N kk i).2.2), some (.int (nI i)), a7, a8, a9] [] := by
        refine up_loop (fun i hi ih A a7 a8 a9 => ?_)
        refine aw_iload dX11_lever_36 rfl ?_
        refine aw_bipush (v := 12) dX11_lever_38 rfl ?_
        refine aw_icmp_ge (tgt := 165) dX11_lever_40 rfl (fun c40 => ?_) (fun c40 => ?_)
        · have e := ge_t (B := 12) rfl (by decide) hi c40
          subst e
          refine aw_aload_n dX11_lever_165 rfl ?_
          refine aw_iload_n dX11_lever_166 rfl ?_
          refine aw_if_ne (tgt := 174) dX11_lever_167 rfl (fun c167 => ?_) (fun c167 => ?_)
          · refine aw_iload_n dX11_lever_174 rfl ?_
            refine aw_iconst (v := 1) dX11_lever_175 rfl ?_
            refine aw_icmp_ne (tgt := 184) dX11_lever_176 rfl (fun c176 => ?_) (fun c176 => ?_)
            · refine aw_iload dX11_lever_184 rfl ?_
              refine aw_cV dX11_lever_186 kX11_199 mX11_gives (sX11_gives hM) (Nat.le_of_ble_eq_true rfl) hM.k ⟨by decide, rfl⟩ hM.b rfl rfl (Nat.le_of_ble_eq_true rfl) ⟨Nat.le_refl _, Nat.le_refl _⟩ ?_
              refine aw_iret q rfl dX11_lever_189 ⟨Nat.le_refl _, Nat.le_refl _⟩ ?_
              exact TlS.ok (by simp [aLever, f8, f16, nI_clamp (show kk < 2 ^ 31 by omega), c167, c176]) ⟨fun a h1 h2 h3 => upA_ne h2, fun k _ _ _ => by rw [upA_ne (by omega)]⟩
            · refine aw_iload dX11_lever_179 rfl ?_
              refine aw_goto (tgt := 186) dX11_lever_181 rfl ?_
              refine aw_cV dX11_lever_186 kX11_199 mX11_gives (sX11_gives hM) (Nat.le_of_ble_eq_true rfl) hM.k ⟨by decide, rfl⟩ hM.b rfl rfl (Nat.le_of_ble_eq_true rfl) ⟨Nat.le_refl _, Nat.le_refl _⟩ ?_
              refine aw_iret q rfl dX11_lever_189 ⟨Nat.le_refl _, Nat.le_refl _⟩ ?_
              subst c176
              exact TlS.ok (by simp [aLever, f8, f16, nI_clamp (show kk < 2 ^ 31 by omega)]) ⟨fun a h1 h2 h3 => upA_ne h2, fun k _ _ _ => by rw [upA_ne (by omega)]⟩
          · refine aw_iload_n dX11_lever_170 rfl ?_
            refine aw_goto (tgt := 186) dX11_lever_171 rfl ?_
            refine aw_cV dX11_lever_186 kX11_199 mX11_gives (sX11_gives hM) (Nat.le_of_ble_eq_true rfl) hM.k ⟨by decide, rfl⟩ hM.b rfl rfl (Nat.le_of_ble_eq_true rfl) ⟨Nat.le_refl _, Nat.le_refl _⟩ ?_
            refine aw_iret q rfl dX11_lever_189 ⟨Nat.le_refl _, Nat.le_refl _⟩ ?_
            subst c167
            exact TlS.ok (by simp [aLever, f8, f16, nI_clamp (show kk < 2 ^ 31 by omega)]) ⟨fun a h1 h2 h3 => upA_ne h2, fun k _ _ _ => by rw [upA_ne (by omega)]⟩
        · have hlt := ge_f (B := 12) rfl (by decide) hi c40
          refine aw_aload_n dX11_lever_43 rfl ?_
          refine aw_getR (b := m + 1) dX11_lever_44 fX11_7 hM.k hM.b rfl hM.r0 ?_
          refine aw_sipush (v := 224) dX11_lever_47 rfl ?_
          refine aw_iload dX11_lever_50 rfl ?_
          refine aw_iconst (v := 2) dX11_lever_52 rfl ?_
          refine aw_idiv dX11_lever_53 (by decide) ?_
          refine AW.top (k2_div (by omega)) ?_
          refine aw_iadd dX11_lever_54 ?_
          refine aw_ialdH (k := (224 + (i / 2))) (upA_off (by omega) hI) dX11_lever_55 hM.k0 hM.b0 hM.l0 (gadd rfl rfl) (by omega) (by decide) ?_
          refine aw_istore dX11_lever_56 (by decide) rfl ?_
          refine aw_iload dX11_lever_58 rfl ?_
          refine aw_iload dX11_lever_60 rfl ?_
          refine aw_iconst (v := 2) dX11_lever_62 rfl ?_
          refine aw_irem dX11_lever_63 (by decide) ?_
          refine AW.top (k2_rem (by omega)) ?_
          refine awt_if_ne (A := (-1)) (B := 1) dX11_lever_64 dX11_lever_67 dX11_lever_68 dX11_lever_71 rfl rfl ?_
          refine aw_iadd dX11_lever_72 ?_
          refine AW.top (y := levW N i) (by unfold levW; rw [lev_top]) ?_
          refine aw_istore dX11_lever_73 (by decide) rfl ?_
          refine aw_iload dX11_lever_75 rfl ?_
          refine aw_iload dX11_lever_77 rfl ?_
          refine aw_iconst (v := 2) dX11_lever_79 rfl ?_
          refine aw_idiv dX11_lever_80 (by decide) ?_
          refine AW.top (k2_div (by omega)) ?_
          refine aw_cS dX11_lever_81 kX11_171 mX11_leastOf (sX11_leastOf (r := i / 2) rfl (by omega)) (Nat.le_of_ble_eq_true rfl) rfl rfl (Nat.le_of_ble_eq_true rfl) ⟨Nat.le_refl _, Nat.le_refl _⟩ ?_
          refine aw_iload dX11_lever_84 rfl ?_
          refine aw_iconst (v := 2) dX11_lever_86 rfl ?_
          refine aw_idiv dX11_lever_87 (by decide) ?_
          refine AW.top (k2_div (by omega)) ?_
          refine aw_cS dX11_lever_88 kX11_174 mX11_mostOf (sX11_mostOf (r := i / 2) rfl (by omega)) (Nat.le_of_ble_eq_true rfl) rfl rfl (Nat.le_of_ble_eq_true rfl) ⟨Nat.le_refl _, Nat.le_refl _⟩ ?_
          refine aw_cS dX11_lever_91 kX11_71 mX11_isFrom (sX11_isFrom hM) (Nat.le_of_ble_eq_true rfl) rfl rfl (Nat.le_of_ble_eq_true rfl) ⟨Nat.le_refl _, Nat.le_refl _⟩ ?_
          refine aw_if_ne (tgt := 100) dX11_lever_94 rfl (fun c94 => ?_) (fun c94 => ?_)
          · have lo : levO N i = true := bI1.mp c94
            obtain ⟨cV, lV⟩ := levN_Cn hN hl hlt lo
            refine aw_aload_n dX11_lever_100 rfl ?_
            refine aw_getR (b := m + 1) dX11_lever_101 fX11_7 hM.k hM.b rfl hM.r0 ?_
            refine aw_sipush (v := 224) dX11_lever_104 rfl ?_
            refine aw_iload dX11_lever_107 rfl ?_
            refine aw_iconst (v := 2) dX11_lever_109 rfl ?_
            refine aw_idiv dX11_lever_110 (by decide) ?_
            refine AW.top (k2_div (by omega)) ?_
            refine aw_iadd dX11_lever_111 ?_
            refine aw_iload dX11_lever_112 rfl ?_
            refine aw_iastN (k := (224 + (i / 2))) dX11_lever_114 hM.k0 hM.b0 hM.l0 (gadd rfl rfl) (by omega) (by decide) ?_
            refine aw_aload_n dX11_lever_115 rfl ?_
            refine aw_iload_n dX11_lever_116 rfl ?_
            refine aw_cV dX11_lever_117 kX11_363 mX11_letsAhead (rX11_letsAhead (N := levN N i) hM (upI_row (upA_off (by omega) hI)) cV lV rfl hkk) (Nat.le_of_ble_eq_true rfl) hM.k ⟨by decide, rfl⟩ hM.b rfl rfl (Nat.le_of_ble_eq_true rfl) ⟨Nat.le_refl _, Nat.le_refl _⟩ ?_
            rw [show levN N i 233 = N 233 from upd_ne (by omega)]
            refine aw_istore dX11_lever_120 (by decide) rfl ?_
            refine aw_aload_n dX11_lever_122 rfl ?_
            refine aw_getR (b := m + 1) dX11_lever_123 fX11_7 hM.k hM.b rfl hM.r0 ?_
            refine aw_sipush (v := 224) dX11_lever_126 rfl ?_
            refine aw_iload dX11_lever_129 rfl ?_
            refine aw_iconst (v := 2) dX11_lever_131 rfl ?_
            refine aw_idiv dX11_lever_132 (by decide) ?_
            refine AW.top (k2_div (by omega)) ?_
            refine aw_iadd dX11_lever_133 ?_
            refine aw_iload dX11_lever_134 rfl ?_
            refine aw_iastN (k := (224 + (i / 2))) dX11_lever_136 hM.k0 hM.b0 hM.l0 (gadd rfl rfl) (by omega) (by decide) ?_
            refine AW.mem (lev_back hI) ?_
            refine aw_iload dX11_lever_137 rfl ?_
            refine aw_iload_n dX11_lever_139 rfl ?_
            refine aw_icmp_gt (tgt := 146) dX11_lever_140 rfl (fun c140 => ?_) (fun c140 => ?_)
            · refine aw_iload dX11_lever_146 rfl ?_
              refine aw_istore_n dX11_lever_148 (by decide) rfl ?_
              refine aw_iload dX11_lever_149 rfl ?_
              refine aw_iconst (v := 2) dX11_lever_151 rfl ?_
              refine aw_idiv dX11_lever_152 (by decide) ?_
              refine AW.top (k2_div (by omega)) ?_
              refine aw_istore dX11_lever_153 (by decide) rfl ?_
              refine aw_iload dX11_lever_155 rfl ?_
              refine aw_istore dX11_lever_157 (by decide) rfl ?_
              refine aw_iinc dX11_lever_159 rfl (ginc rfl) (by decide) rfl ?_
              refine aw_goto (tgt := 36) dX11_lever_162 rfl ?_
              have st : levL N kk (i + 1) = (levA N kk i, nI (i / 2), levW N i) := by rw [levL, if_pos (by simp [lo]; exact c140)]
              have := ih hlt (mCopy (levN N i) A) (some (.int (N (224 + i / 2)))) (some (.int (levW N i))) (some (.int (levA N kk i)))
              rw [st] at this
              exact this
            · refine aw_goto (tgt := 159) dX11_lever_143 rfl ?_
              refine aw_iinc dX11_lever_159 rfl (ginc rfl) (by decide) rfl ?_
              refine aw_goto (tgt := 36) dX11_lever_162 rfl ?_
              have st : levL N kk (i + 1) = levL N kk i := by rw [levL, if_neg (by simp [lo]; exact Int32.not_lt.mp c140)]
              have := ih hlt (mCopy (levN N i) A) (some (.int (N (224 + i / 2)))) (some (.int (levW N i))) (some (.int (levA N kk i)))
              rw [st] at this
              exact this
          · have lo : levO N i = false := bI0.mp c94
            refine aw_goto (tgt := 159) dX11_lever_97 rfl ?_
            refine aw_iinc dX11_lever_159 rfl (ginc rfl) (by decide) rfl ?_
            refine aw_goto (tgt := 36) dX11_lever_162 rfl ?_
            have st : levL N kk (i + 1) = levL N kk i := by rw [levL, if_neg (by simp [lo])]
            have := ih hlt A (some (.int (N (224 + i / 2)))) (some (.int (levW N i))) (a9)
            rw [st] at this
            exact this
      refine AW.mem ?_ (loop 0 (Nat.zero_le _) (I (m + 3)) none none none)
      exact upA_me.symm
    · refine aw_aload_n dX11_lever_19 rfl ?_
      refine aw_iconst (v := 1) dX11_lever_20 rfl ?_
      refine aw_cV dX11_lever_21 kX11_186 mX11_refuse (sX11_refuse hM) (Nat.le_of_ble_eq_true rfl) hM.k ⟨by decide, rfl⟩ hM.b rfl rfl (Nat.le_of_ble_eq_true rfl) ⟨Nat.le_refl _, Nat.le_refl _⟩ ?_
      refine aw_iret q rfl dX11_lever_24 ⟨Nat.le_refl _, Nat.le_refl _⟩ ?_
      exact TlS.no (by simp [aLever, bI0.mp c16]) RSc.rf
end RefS
