/-! the class whole: homes and houses -/
theorem nI_subB {a b : Nat} (h : b ≤ a) : nI a - nI b = nI (a - b) := by
  rw [show a = (a - b) + b by omega, ← nI_add, Int32.add_sub_cancel, show a - b + b - b = a - b by omega]
theorem sh_z01 {I : MI} {L : ML} {N : Nat → Int32} {Q : Nat → Int64} (hC : CtS I L 1 N Q) (h10 : nHo N ≤ 10) {h : Nat} (hh : h < nHo N) : z01 (N (8 * h + 6)) := by
  have := (hC.1.1 h (by omega)).2.2.2
  rw [show I (1 + 2 + h) 7 = N (8 * h + 6) from hC.hf h10 (w := 6) hh (by decide)] at this
  exact this
theorem ou_z01 {I : MI} {L : ML} {N : Nat → Int32} {Q : Nat → Int64} (hC : CtS I L 1 N Q) (h8 : nPo N ≤ 8) {p : Nat} (hp : p < nPo N) : z01 (N (80 + 18 * p + 8)) := by
  have := (hC.1.2.1 p (by omega)).2.2
  rw [show I (1 + 13 + 2 * p) 12 = N (80 + 18 * p + 8) from hC.pf h8 (w := 8) hp (by decide) (by decide) (by decide)] at this
  exact this
section ClsS
variable {z n : Nat} {sh : Shp} {I : MI} {L : ML} {N : Nat → Int32} {Q : Nat → Int64}
set_option maxHeartbeats 4000000 in
set_option maxRecDepth 100000 in
theorem sX10_home (hX : IsX n sh) (hC : CtS I L 1 N Q) (hIv : Iv N) {x w : Int32} (hBd : BdO N) : CM yX10_home cX10_home 4 (Option.some .int) 3 0 0 [.ref 0, .int x, .int w] z n sh I L (Ct (aHome N x w) z n sh I L) := by
  refine CM.go [some (.ref 0), some (.int x), some (.int w), none] rfl rfl (Nat.le_of_ble_eq_true rfl) (fun X g q => ?_)
  have hO := hIv.ok
  have hN := hO.1
  have hR := hO.2.1
  have hB := hO.2.2.1
  have hE := hO.2.2.2
  have h8 := hN.p8
  have h10 := hN.h10
  have hS := hX.now
  cases h9x : mFrom x 0 (N 230 - 1) with
  | false =>
    refine aw_iload_n dX10_home_0 rfl ?_
    refine aw_if_lt (tgt := 10) dX10_home_1 rfl (fun c1 => ?_) (fun c1 => ?_)
    · have hw := from_neg (b := 7) c1
      refine aw_aload_n dX10_home_10 rfl ?_
      refine aw_iconst (v := 1) dX10_home_11 rfl ?_
      refine aw_cV dX10_home_12 kX10_76 mX10_fail (sX10_fail hX) (Nat.le_of_ble_eq_true rfl) hX.k ⟨by decide, rfl⟩ hX.b rfl rfl (Nat.le_of_ble_eq_true rfl) ⟨Nat.le_refl _, Nat.le_refl _⟩ ?_
      refine aw_iret q rfl dX10_home_15 ⟨Nat.le_refl _, Nat.le_refl _⟩ ?_
      refine Ct.no ?_
      unfold aHome
      rw [hw]
      rfl
    · skip
      refine aw_iload_n dX10_home_4 rfl ?_
      refine aw_bipush (v := 7) dX10_home_5 rfl ?_
      refine aw_icmp_le (tgt := 16) dX10_home_7 rfl (fun c7 => ?_) (fun c7 => ?_)
      · have hw := from_in c1 c7
        refine aw_aload_n dX10_home_16 rfl ?_
        refine aw_getR (b := 1) dX10_home_17 fX10_10 hX.k hX.b rfl hX.r0 ?_
        refine aw_iload_n dX10_home_20 rfl ?_
        refine aw_cV dX10_home_21 kX10_132 mX7_homeAt (sX7_homeAtN hS hC hO h9x) (Nat.le_of_ble_eq_true rfl) hS.k ⟨by decide, rfl⟩ hS.b0 rfl rfl (Nat.le_of_ble_eq_true rfl) ⟨Nat.le_refl _, Nat.le_refl _⟩ ?_
        refine aw_astore_nN dX10_home_24 (by decide) rfl ?_
        refine aw_aload_nN dX10_home_25 rfl ?_
        refine aw_ifnonnullN dX10_home_26 ?_
        refine aw_aload_n dX10_home_29 rfl ?_
        refine aw_iconst (v := 2) dX10_home_30 rfl ?_
        refine aw_cV dX10_home_31 kX10_76 mX10_fail (sX10_fail hX) (Nat.le_of_ble_eq_true rfl) hX.k ⟨by decide, rfl⟩ hX.b rfl rfl (Nat.le_of_ble_eq_true rfl) ⟨Nat.le_refl _, Nat.le_refl _⟩ ?_
        refine aw_iret q rfl dX10_home_34 ⟨Nat.le_refl _, Nat.le_refl _⟩ ?_
        refine Ct.no ?_
        unfold aHome
        rw [hw, h9x]
        rfl
      · have hw := from_gt (a := 0) c7
        refine aw_aload_n dX10_home_10 rfl ?_
        refine aw_iconst (v := 1) dX10_home_11 rfl ?_
        refine aw_cV dX10_home_12 kX10_76 mX10_fail (sX10_fail hX) (Nat.le_of_ble_eq_true rfl) hX.k ⟨by decide, rfl⟩ hX.b rfl rfl (Nat.le_of_ble_eq_true rfl) ⟨Nat.le_refl _, Nat.le_refl _⟩ ?_
        refine aw_iret q rfl dX10_home_15 ⟨Nat.le_refl _, Nat.le_refl _⟩ ?_
        refine Ct.no ?_
        unfold aHome
        rw [hw]
        rfl
  | true =>
    obtain ⟨h, hh, rfl⟩ := from_ix hN.h (by omega) h9x
    have e9h : (nI h).toNatClampNeg = h := nI_clamp (by omega)
    refine aw_iload_n dX10_home_0 rfl ?_
    refine aw_if_lt (tgt := 10) dX10_home_1 rfl (fun c1 => ?_) (fun c1 => ?_)
    · have hw := from_neg (b := 7) c1
      refine aw_aload_n dX10_home_10 rfl ?_
      refine aw_iconst (v := 1) dX10_home_11 rfl ?_
      refine aw_cV dX10_home_12 kX10_76 mX10_fail (sX10_fail hX) (Nat.le_of_ble_eq_true rfl) hX.k ⟨by decide, rfl⟩ hX.b rfl rfl (Nat.le_of_ble_eq_true rfl) ⟨Nat.le_refl _, Nat.le_refl _⟩ ?_
      refine aw_iret q rfl dX10_home_15 ⟨Nat.le_refl _, Nat.le_refl _⟩ ?_
      refine Ct.no ?_
      unfold aHome
      rw [hw]
      rfl
    · skip
      refine aw_iload_n dX10_home_4 rfl ?_
      refine aw_bipush (v := 7) dX10_home_5 rfl ?_
      refine aw_icmp_le (tgt := 16) dX10_home_7 rfl (fun c7 => ?_) (fun c7 => ?_)
      · have hw := from_in c1 c7
        refine aw_aload_n dX10_home_16 rfl ?_
        refine aw_getR (b := 1) dX10_home_17 fX10_10 hX.k hX.b rfl hX.r0 ?_
        refine aw_iload_n dX10_home_20 rfl ?_
        refine aw_cV dX10_home_21 kX10_132 mX7_homeAt (sX7_homeAt hS hC hO rfl hh) (Nat.le_of_ble_eq_true rfl) hS.k ⟨by decide, rfl⟩ hS.b0 rfl rfl (Nat.le_of_ble_eq_true rfl) ⟨Nat.le_refl _, Nat.le_refl _⟩ ?_
        refine aw_astore_n dX10_home_24 (by decide) rfl ?_
        refine aw_aload_n dX10_home_25 rfl ?_
        refine aw_ifnonnull (tgt := 35) dX10_home_26 rfl ?_
        refine aw_iload_n dX10_home_35 rfl ?_
        rcases swx w 7 (by decide) with ⟨j36, hj36, rfl⟩ | ho36
        · match j36, hj36 with
          | 0, _ =>
            refine aw_tableIn (off := 44) (tgt := 80) dX10_home_36 (by decide) (by decide) (by decide) rfl ?_
            refine aw_aload_n dX10_home_80 rfl ?_
            refine aw_aload_n dX10_home_81 rfl ?_
            refine aw_getI dX10_home_82 fX10_136 (hS.ho (by omega)) (hS.hb (by omega)) rfl ?_
            refine AW.top (hC.hf h10 (h := h) (w := 0) (by omega) (by decide)) ?_
            refine aw_cV dX10_home_85 kX10_94 mX10_answer (sX10_answer hX) (Nat.le_of_ble_eq_true rfl) hX.k ⟨by decide, rfl⟩ hX.b rfl rfl (Nat.le_of_ble_eq_true rfl) ⟨Nat.le_refl _, Nat.le_refl _⟩ ?_
            refine aw_goto (tgt := 172) dX10_home_88 rfl ?_
            refine aw_iret q rfl dX10_home_172 ⟨Nat.le_refl _, Nat.le_refl _⟩ ?_
            refine Ct.ok ?_
            unfold aHome
            rw [hw, h9x, e9h]
            rfl
          | 1, _ =>
            refine aw_tableIn (off := 55) (tgt := 91) dX10_home_36 (by decide) (by decide) (by decide) rfl ?_
            refine aw_aload_n dX10_home_91 rfl ?_
            refine aw_aload_n dX10_home_92 rfl ?_
            refine aw_getI dX10_home_93 fX10_141 (hS.ho (by omega)) (hS.hb (by omega)) rfl ?_
            refine AW.top (hC.hf h10 (h := h) (w := 1) (by omega) (by decide)) ?_
            refine aw_cV dX10_home_96 kX10_94 mX10_answer (sX10_answer hX) (Nat.le_of_ble_eq_true rfl) hX.k ⟨by decide, rfl⟩ hX.b rfl rfl (Nat.le_of_ble_eq_true rfl) ⟨Nat.le_refl _, Nat.le_refl _⟩ ?_
            refine aw_goto (tgt := 172) dX10_home_99 rfl ?_
            refine aw_iret q rfl dX10_home_172 ⟨Nat.le_refl _, Nat.le_refl _⟩ ?_
            refine Ct.ok ?_
            unfold aHome
            rw [hw, h9x, e9h]
            rfl
          | 2, _ =>
            refine aw_tableIn (off := 66) (tgt := 102) dX10_home_36 (by decide) (by decide) (by decide) rfl ?_
            refine aw_aload_n dX10_home_102 rfl ?_
            refine aw_aload_n dX10_home_103 rfl ?_
            refine aw_getI dX10_home_104 fX10_144 (hS.ho (by omega)) (hS.hb (by omega)) rfl ?_
            refine AW.top (hC.hf h10 (h := h) (w := 2) (by omega) (by decide)) ?_
            refine aw_cV dX10_home_107 kX10_147 mX10_answerIfAny (sX10_answerIfAny hX) (Nat.le_of_ble_eq_true rfl) hX.k ⟨by decide, rfl⟩ hX.b rfl rfl (Nat.le_of_ble_eq_true rfl) ⟨Nat.le_refl _, Nat.le_refl _⟩ ?_
            refine aw_goto (tgt := 172) dX10_home_110 rfl ?_
            refine aw_iret q rfl dX10_home_172 ⟨Nat.le_refl _, Nat.le_refl _⟩ ?_
            have e : aHome N (nI h) (nI 2) = aAny (N (8 * h + 2)) := by
              unfold aHome
              rw [hw, h9x, e9h]
              rfl
            rw [e]
            exact Pst.rf
          | 3, _ =>
            refine aw_tableIn (off := 77) (tgt := 113) dX10_home_36 (by decide) (by decide) (by decide) rfl ?_
            refine aw_aload_n dX10_home_113 rfl ?_
            refine aw_aload_n dX10_home_114 rfl ?_
            refine aw_cV dX10_home_115 kX10_150 mX2_isFree (sX2_isFree hS hC hN hh) (Nat.le_of_ble_eq_true rfl) (hS.ho (by omega)) ⟨by decide, rfl⟩ (hS.hb (by omega)) rfl rfl (Nat.le_of_ble_eq_true rfl) ⟨Nat.le_refl _, Nat.le_refl _⟩ ?_
            refine aw_cV dX10_home_118 kX10_154 mX10_answerFlag (sX10_answerFlag hX) (Nat.le_of_ble_eq_true rfl) hX.k ⟨by decide, rfl⟩ hX.b rfl rfl (Nat.le_of_ble_eq_true rfl) ⟨Nat.le_refl _, Nat.le_refl _⟩ ?_
            refine aw_goto (tgt := 172) dX10_home_121 rfl ?_
            refine aw_iret q rfl dX10_home_172 ⟨Nat.le_refl _, Nat.le_refl _⟩ ?_
            refine Ct.ok ?_
            unfold aHome
            rw [hw, h9x, e9h]
            rfl
          | 4, _ =>
            refine aw_tableIn (off := 88) (tgt := 124) dX10_home_36 (by decide) (by decide) (by decide) rfl ?_
            refine aw_aload_n dX10_home_124 rfl ?_
            refine aw_aload_n dX10_home_125 rfl ?_
            refine aw_getR (b := 1) dX10_home_126 fX10_10 hX.k hX.b rfl hX.r0 ?_
            refine aw_aload_n dX10_home_129 rfl ?_
            refine aw_cV dX10_home_130 kX10_158 mX7_biddersFor (sX7_biddersFor hS hC hO hh) (Nat.le_of_ble_eq_true rfl) hS.k ⟨by decide, rfl⟩ hS.b0 rfl rfl (Nat.le_of_ble_eq_true rfl) ⟨Nat.le_refl _, Nat.le_refl _⟩ ?_
            refine aw_cS dX10_home_133 kX10_162 mJ6_bitCount_0f7a4 (sJ6_bitCount (iset_n _ _ (by omega)) (by have := nset_lt (fun p => mBid N p (nI h) && mHope N p) (nPo N); have := p2_8 this h8; omega)) (Nat.le_of_ble_eq_true rfl) rfl rfl (Nat.le_of_ble_eq_true rfl) ⟨Nat.le_refl _, Nat.le_refl _⟩ ?_
            refine aw_cV dX10_home_136 kX10_94 mX10_answer (sX10_answer hX) (Nat.le_of_ble_eq_true rfl) hX.k ⟨by decide, rfl⟩ hX.b rfl rfl (Nat.le_of_ble_eq_true rfl) ⟨Nat.le_refl _, Nat.le_refl _⟩ ?_
            refine aw_goto (tgt := 172) dX10_home_139 rfl ?_
            refine aw_iret q rfl dX10_home_172 ⟨Nat.le_refl _, Nat.le_refl _⟩ ?_
            refine Ct.ok ?_
            unfold aHome
            rw [hw, h9x, e9h]
            show ok _ = ok _
            refine congrArg ok ?_
            rw [isum_cntI, pcn_nset (by omega)]
            exact congrArg nI (fa_cnt_cong (fun p hp => (bid_hope hBd hp).symm))
          | 5, _ =>
            refine aw_tableIn (off := 106) (tgt := 142) dX10_home_36 (by decide) (by decide) (by decide) rfl ?_
            refine aw_aload_n dX10_home_142 rfl ?_
            refine aw_aload_n dX10_home_143 rfl ?_
            refine aw_getI dX10_home_144 fX10_167 (hS.ho (by omega)) (hS.hb (by omega)) rfl ?_
            refine AW.top (hC.hf h10 (h := h) (w := 4) (by omega) (by decide)) ?_
            refine aw_cV dX10_home_147 kX10_94 mX10_answer (sX10_answer hX) (Nat.le_of_ble_eq_true rfl) hX.k ⟨by decide, rfl⟩ hX.b rfl rfl (Nat.le_of_ble_eq_true rfl) ⟨Nat.le_refl _, Nat.le_refl _⟩ ?_
            refine aw_goto (tgt := 172) dX10_home_150 rfl ?_
            refine aw_iret q rfl dX10_home_172 ⟨Nat.le_refl _, Nat.le_refl _⟩ ?_
            refine Ct.ok ?_
            unfold aHome
            rw [hw, h9x, e9h]
            rfl
          | 6, _ =>
            refine aw_tableIn (off := 117) (tgt := 153) dX10_home_36 (by decide) (by decide) (by decide) rfl ?_
            refine aw_aload_n dX10_home_153 rfl ?_
            refine aw_aload_n dX10_home_154 rfl ?_
            refine aw_getI dX10_home_155 fX10_169 (hS.ho (by omega)) (hS.hb (by omega)) rfl ?_
            refine AW.top (hC.hf h10 (h := h) (w := 6) (by omega) (by decide)) ?_
            refine AW.top (z01_bI (sh_z01 hC h10 hh)) ?_
            refine aw_cV dX10_home_158 kX10_154 mX10_answerFlag (sX10_answerFlag hX) (Nat.le_of_ble_eq_true rfl) hX.k ⟨by decide, rfl⟩ hX.b rfl rfl (Nat.le_of_ble_eq_true rfl) ⟨Nat.le_refl _, Nat.le_refl _⟩ ?_
            refine aw_goto (tgt := 172) dX10_home_161 rfl ?_
            refine aw_iret q rfl dX10_home_172 ⟨Nat.le_refl _, Nat.le_refl _⟩ ?_
            refine Ct.ok ?_
            unfold aHome
            rw [hw, h9x, e9h, ← z01_bI (sh_z01 hC h10 hh)]
            rfl
        · refine aw_tableOut (tgt := 164) dX10_home_36 (by omega) rfl ?_
          refine aw_aload_n dX10_home_164 rfl ?_
          refine aw_aload_n dX10_home_165 rfl ?_
          refine aw_getI dX10_home_166 fX10_173 (hS.ho (by omega)) (hS.hb (by omega)) rfl ?_
          refine AW.top (hC.hf h10 (h := h) (w := 7) (by omega) (by decide)) ?_
          refine aw_cV dX10_home_169 kX10_94 mX10_answer (sX10_answer hX) (Nat.le_of_ble_eq_true rfl) hX.k ⟨by decide, rfl⟩ hX.b rfl rfl (Nat.le_of_ble_eq_true rfl) ⟨Nat.le_refl _, Nat.le_refl _⟩ ?_
          refine aw_iret q rfl dX10_home_172 ⟨Nat.le_refl _, Nat.le_refl _⟩ ?_
          obtain ⟨u, hu, rfl⟩ := le_ix (B := 7) (by decide) c1 c7
          have eu : u = 7 := by
            rcases Nat.lt_or_ge u 7 with q | q
            · exact absurd rfl (out_ne ho36 (j := u) q (by decide))
            · omega
          subst eu
          refine Ct.ok ?_
          unfold aHome
          rw [hw, h9x, e9h]
          rfl
      · have hw := from_gt (a := 0) c7
        refine aw_aload_n dX10_home_10 rfl ?_
        refine aw_iconst (v := 1) dX10_home_11 rfl ?_
        refine aw_cV dX10_home_12 kX10_76 mX10_fail (sX10_fail hX) (Nat.le_of_ble_eq_true rfl) hX.k ⟨by decide, rfl⟩ hX.b rfl rfl (Nat.le_of_ble_eq_true rfl) ⟨Nat.le_refl _, Nat.le_refl _⟩ ?_
        refine aw_iret q rfl dX10_home_15 ⟨Nat.le_refl _, Nat.le_refl _⟩ ?_
        refine Ct.no ?_
        unfold aHome
        rw [hw]
        rfl
theorem lt_20 {x : Int32} (h : x < 0) : x < 20 := by
  rw [Int32.lt_iff_toInt_lt] at h ⊢
  have h0 : (0 : Int32).toInt = 0 := by decide
  have h1 : (20 : Int32).toInt = 20 := by decide
  omega
theorem gt_25 {x : Int32} (h : 25 < x) : ¬ x ≤ 11 := by
  rw [Int32.lt_iff_toInt_lt] at h
  rw [Int32.le_iff_toInt_le]
  have h0 : (25 : Int32).toInt = 25 := by decide
  have h1 : (11 : Int32).toInt = 11 := by decide
  omega
set_option maxHeartbeats 4000000 in
set_option maxRecDepth 100000 in
theorem sX10_house (hX : IsX n sh) (hC : CtS I L 1 N Q) (hIv : Iv N) {x w : Int32} (hNw : NwO N) : CM yX10_house cX10_house 4 (Option.some .int) 3 0 0 [.ref 0, .int x, .int w] z n sh I L (Ct (aHouse N x w) z n sh I L) := by
  refine CM.go [some (.ref 0), some (.int x), some (.int w), none] rfl rfl (Nat.le_of_ble_eq_true rfl) (fun X g q => ?_)
  have hO := hIv.ok
  have hN := hO.1
  have hR := hO.2.1
  have hB := hO.2.2.1
  have hE := hO.2.2.2
  have h8 := hN.p8
  have h10 := hN.h10
  have hS := hX.now
  cases h9x : mFrom x 0 (N 231 - 1) with
  | false =>
    refine aw_iload_n dX10_house_0 rfl ?_
    refine aw_if_lt (tgt := 22) dX10_house_1 rfl (fun c1 => ?_) (fun c1 => ?_)
    · have hw : (mFrom w 0 11 || mFrom w 20 25) = false := by rw [from_neg (b := 11) c1, from_lo (a := 20) (b := 25) (lt_20 c1)]; rfl
      refine aw_aload_n dX10_house_22 rfl ?_
      refine aw_iconst (v := 1) dX10_house_23 rfl ?_
      refine aw_cV dX10_house_24 kX10_76 mX10_fail (sX10_fail hX) (Nat.le_of_ble_eq_true rfl) hX.k ⟨by decide, rfl⟩ hX.b rfl rfl (Nat.le_of_ble_eq_true rfl) ⟨Nat.le_refl _, Nat.le_refl _⟩ ?_
      refine aw_iret q rfl dX10_house_27 ⟨Nat.le_refl _, Nat.le_refl _⟩ ?_
      refine Ct.no ?_
      unfold aHouse
      rw [hw]
      rfl
    · skip
      refine aw_iload_n dX10_house_4 rfl ?_
      refine aw_bipush (v := 25) dX10_house_5 rfl ?_
      refine aw_icmp_gt (tgt := 22) dX10_house_7 rfl (fun c7 => ?_) (fun c7 => ?_)
      · have hw : (mFrom w 0 11 || mFrom w 20 25) = false := by rw [from_gt (a := 20) (Int32.not_le.mpr c7), from_gt (a := 0) (gt_25 c7)]; rfl
        refine aw_aload_n dX10_house_22 rfl ?_
        refine aw_iconst (v := 1) dX10_house_23 rfl ?_
        refine aw_cV dX10_house_24 kX10_76 mX10_fail (sX10_fail hX) (Nat.le_of_ble_eq_true rfl) hX.k ⟨by decide, rfl⟩ hX.b rfl rfl (Nat.le_of_ble_eq_true rfl) ⟨Nat.le_refl _, Nat.le_refl _⟩ ?_
        refine aw_iret q rfl dX10_house_27 ⟨Nat.le_refl _, Nat.le_refl _⟩ ?_
        refine Ct.no ?_
        unfold aHouse
        rw [hw]
        rfl
      · skip
        refine aw_iload_n dX10_house_10 rfl ?_
        refine aw_bipush (v := 11) dX10_house_11 rfl ?_
        refine aw_icmp_le (tgt := 28) dX10_house_13 rfl (fun c13 => ?_) (fun c13 => ?_)
        · have hw : (mFrom w 0 11 || mFrom w 20 25) = true := by rw [from_in c1 c13]; rfl
          refine aw_aload_n dX10_house_28 rfl ?_
          refine aw_getR (b := 1) dX10_house_29 fX10_10 hX.k hX.b rfl hX.r0 ?_
          refine aw_iload_n dX10_house_32 rfl ?_
          refine aw_cV dX10_house_33 kX10_176 mX7_houseAt (sX7_houseAtN hS hC hO h9x) (Nat.le_of_ble_eq_true rfl) hS.k ⟨by decide, rfl⟩ hS.b0 rfl rfl (Nat.le_of_ble_eq_true rfl) ⟨Nat.le_refl _, Nat.le_refl _⟩ ?_
          refine aw_astore_nN dX10_house_36 (by decide) rfl ?_
          refine aw_aload_nN dX10_house_37 rfl ?_
          refine aw_ifnonnullN dX10_house_38 ?_
          refine aw_aload_n dX10_house_41 rfl ?_
          refine aw_iconst (v := 2) dX10_house_42 rfl ?_
          refine aw_cV dX10_house_43 kX10_76 mX10_fail (sX10_fail hX) (Nat.le_of_ble_eq_true rfl) hX.k ⟨by decide, rfl⟩ hX.b rfl rfl (Nat.le_of_ble_eq_true rfl) ⟨Nat.le_refl _, Nat.le_refl _⟩ ?_
          refine aw_iret q rfl dX10_house_46 ⟨Nat.le_refl _, Nat.le_refl _⟩ ?_
          refine Ct.no ?_
          unfold aHouse
          rw [hw, h9x]
          rfl
        · skip
          refine aw_iload_n dX10_house_16 rfl ?_
          refine aw_bipush (v := 20) dX10_house_17 rfl ?_
          refine aw_icmp_ge (tgt := 28) dX10_house_19 rfl (fun c19 => ?_) (fun c19 => ?_)
          · have hw : (mFrom w 0 11 || mFrom w 20 25) = true := by rw [from_in (a := 20) (Int32.not_lt.mpr c19) (Int32.not_lt.mp c7), Bool.or_true]
            refine aw_aload_n dX10_house_28 rfl ?_
            refine aw_getR (b := 1) dX10_house_29 fX10_10 hX.k hX.b rfl hX.r0 ?_
            refine aw_iload_n dX10_house_32 rfl ?_
            refine aw_cV dX10_house_33 kX10_176 mX7_houseAt (sX7_houseAtN hS hC hO h9x) (Nat.le_of_ble_eq_true rfl) hS.k ⟨by decide, rfl⟩ hS.b0 rfl rfl (Nat.le_of_ble_eq_true rfl) ⟨Nat.le_refl _, Nat.le_refl _⟩ ?_
            refine aw_astore_nN dX10_house_36 (by decide) rfl ?_
            refine aw_aload_nN dX10_house_37 rfl ?_
            refine aw_ifnonnullN dX10_house_38 ?_
            refine aw_aload_n dX10_house_41 rfl ?_
            refine aw_iconst (v := 2) dX10_house_42 rfl ?_
            refine aw_cV dX10_house_43 kX10_76 mX10_fail (sX10_fail hX) (Nat.le_of_ble_eq_true rfl) hX.k ⟨by decide, rfl⟩ hX.b rfl rfl (Nat.le_of_ble_eq_true rfl) ⟨Nat.le_refl _, Nat.le_refl _⟩ ?_
            refine aw_iret q rfl dX10_house_46 ⟨Nat.le_refl _, Nat.le_refl _⟩ ?_
            refine Ct.no ?_
            unfold aHouse
            rw [hw, h9x]
            rfl
          · have hw : (mFrom w 0 11 || mFrom w 20 25) = false := by rw [from_gt (a := 0) c13, from_lo (b := 25) (Int32.not_le.mp c19)]; rfl
            refine aw_aload_n dX10_house_22 rfl ?_
            refine aw_iconst (v := 1) dX10_house_23 rfl ?_
            refine aw_cV dX10_house_24 kX10_76 mX10_fail (sX10_fail hX) (Nat.le_of_ble_eq_true rfl) hX.k ⟨by decide, rfl⟩ hX.b rfl rfl (Nat.le_of_ble_eq_true rfl) ⟨Nat.le_refl _, Nat.le_refl _⟩ ?_
            refine aw_iret q rfl dX10_house_27 ⟨Nat.le_refl _, Nat.le_refl _⟩ ?_
            refine Ct.no ?_
            unfold aHouse
            rw [hw]
            rfl
  | true =>
    obtain ⟨p, hp, rfl⟩ := from_ix hN.p (by omega) h9x
    have e9p : (nI p).toNatClampNeg = p := nI_clamp (by omega)
    refine aw_iload_n dX10_house_0 rfl ?_
    refine aw_if_lt (tgt := 22) dX10_house_1 rfl (fun c1 => ?_) (fun c1 => ?_)
    · have hw : (mFrom w 0 11 || mFrom w 20 25) = false := by rw [from_neg (b := 11) c1, from_lo (a := 20) (b := 25) (lt_20 c1)]; rfl
      refine aw_aload_n dX10_house_22 rfl ?_
      refine aw_iconst (v := 1) dX10_house_23 rfl ?_
      refine aw_cV dX10_house_24 kX10_76 mX10_fail (sX10_fail hX) (Nat.le_of_ble_eq_true rfl) hX.k ⟨by decide, rfl⟩ hX.b rfl rfl (Nat.le_of_ble_eq_true rfl) ⟨Nat.le_refl _, Nat.le_refl _⟩ ?_
      refine aw_iret q rfl dX10_house_27 ⟨Nat.le_refl _, Nat.le_refl _⟩ ?_
      refine Ct.no ?_
      unfold aHouse
      rw [hw]
      rfl
    · skip
      refine aw_iload_n dX10_house_4 rfl ?_
      refine aw_bipush (v := 25) dX10_house_5 rfl ?_
      refine aw_icmp_gt (tgt := 22) dX10_house_7 rfl (fun c7 => ?_) (fun c7 => ?_)
      · have hw : (mFrom w 0 11 || mFrom w 20 25) = false := by rw [from_gt (a := 20) (Int32.not_le.mpr c7), from_gt (a := 0) (gt_25 c7)]; rfl
        refine aw_aload_n dX10_house_22 rfl ?_
        refine aw_iconst (v := 1) dX10_house_23 rfl ?_
        refine aw_cV dX10_house_24 kX10_76 mX10_fail (sX10_fail hX) (Nat.le_of_ble_eq_true rfl) hX.k ⟨by decide, rfl⟩ hX.b rfl rfl (Nat.le_of_ble_eq_true rfl) ⟨Nat.le_refl _, Nat.le_refl _⟩ ?_
        refine aw_iret q rfl dX10_house_27 ⟨Nat.le_refl _, Nat.le_refl _⟩ ?_
        refine Ct.no ?_
        unfold aHouse
        rw [hw]
        rfl
      · skip
        refine aw_iload_n dX10_house_10 rfl ?_
        refine aw_bipush (v := 11) dX10_house_11 rfl ?_
        refine aw_icmp_le (tgt := 28) dX10_house_13 rfl (fun c13 => ?_) (fun c13 => ?_)
        · have hw : (mFrom w 0 11 || mFrom w 20 25) = true := by rw [from_in c1 c13]; rfl
          refine aw_aload_n dX10_house_28 rfl ?_
          refine aw_getR (b := 1) dX10_house_29 fX10_10 hX.k hX.b rfl hX.r0 ?_
          refine aw_iload_n dX10_house_32 rfl ?_
          refine aw_cV dX10_house_33 kX10_176 mX7_houseAt (sX7_houseAt hS hC hO rfl hp) (Nat.le_of_ble_eq_true rfl) hS.k ⟨by decide, rfl⟩ hS.b0 rfl rfl (Nat.le_of_ble_eq_true rfl) ⟨Nat.le_refl _, Nat.le_refl _⟩ ?_
          refine aw_astore_n dX10_house_36 (by decide) rfl ?_
          refine aw_aload_n dX10_house_37 rfl ?_
          refine aw_ifnonnull (tgt := 47) dX10_house_38 rfl ?_
          refine aw_iload_n dX10_house_47 rfl ?_
          rcases swx w 12 (by decide) with ⟨j48, hj48, rfl⟩ | ho48
          · match j48, hj48 with
            | 0, _ =>
              refine aw_tableIn (off := 64) (tgt := 112) dX10_house_48 (by decide) (by decide) (by decide) rfl ?_
              refine aw_aload_n dX10_house_112 rfl ?_
              refine aw_aload_n dX10_house_113 rfl ?_
              refine aw_getI dX10_house_114 fX10_180 (hS.po (by omega)) (hS.pb (by omega)) rfl ?_
              refine AW.top (hC.pf h8 (p := p) (w := 0) (by omega) (by decide) (by decide) (by decide)) ?_
              refine aw_cV dX10_house_117 kX10_94 mX10_answer (sX10_answer hX) (Nat.le_of_ble_eq_true rfl) hX.k ⟨by decide, rfl⟩ hX.b rfl rfl (Nat.le_of_ble_eq_true rfl) ⟨Nat.le_refl _, Nat.le_refl _⟩ ?_
              refine aw_goto (tgt := 260) dX10_house_120 rfl ?_
              refine aw_iret q rfl dX10_house_260 ⟨Nat.le_refl _, Nat.le_refl _⟩ ?_
              refine Ct.ok ?_
              unfold aHouse
              rw [hw, h9x, e9p]
              rfl
            | 1, _ =>
              refine aw_tableIn (off := 75) (tgt := 123) dX10_house_48 (by decide) (by decide) (by decide) rfl ?_
              refine aw_aload_n dX10_house_123 rfl ?_
              refine aw_aload_n dX10_house_124 rfl ?_
              refine aw_getR (b := 1) dX10_house_125 fX10_10 hX.k hX.b rfl hX.r0 ?_
              refine aw_aload_n dX10_house_128 rfl ?_
              refine aw_cV dX10_house_129 kX10_185 mX7_bandNow (sX7_bandNow hS hC hO hp) (Nat.le_of_ble_eq_true rfl) hS.k ⟨by decide, rfl⟩ hS.b0 rfl rfl (Nat.le_of_ble_eq_true rfl) ⟨Nat.le_refl _, Nat.le_refl _⟩ ?_
              refine aw_cV dX10_house_132 kX10_94 mX10_answer (sX10_answer hX) (Nat.le_of_ble_eq_true rfl) hX.k ⟨by decide, rfl⟩ hX.b rfl rfl (Nat.le_of_ble_eq_true rfl) ⟨Nat.le_refl _, Nat.le_refl _⟩ ?_
              refine aw_goto (tgt := 260) dX10_house_135 rfl ?_
              refine aw_iret q rfl dX10_house_260 ⟨Nat.le_refl _, Nat.le_refl _⟩ ?_
              refine Ct.ok ?_
              unfold aHouse
              rw [hw, h9x, e9p]
              rfl
            | 2, _ =>
              refine aw_tableIn (off := 90) (tgt := 138) dX10_house_48 (by decide) (by decide) (by decide) rfl ?_
              refine aw_aload_n dX10_house_138 rfl ?_
              refine aw_aload_n dX10_house_139 rfl ?_
              refine aw_getI dX10_house_140 fX10_189 (hS.po (by omega)) (hS.pb (by omega)) rfl ?_
              refine AW.top (hC.pf h8 (p := p) (w := 1) (by omega) (by decide) (by decide) (by decide)) ?_
              refine aw_cV dX10_house_143 kX10_94 mX10_answer (sX10_answer hX) (Nat.le_of_ble_eq_true rfl) hX.k ⟨by decide, rfl⟩ hX.b rfl rfl (Nat.le_of_ble_eq_true rfl) ⟨Nat.le_refl _, Nat.le_refl _⟩ ?_
              refine aw_goto (tgt := 260) dX10_house_146 rfl ?_
              refine aw_iret q rfl dX10_house_260 ⟨Nat.le_refl _, Nat.le_refl _⟩ ?_
              refine Ct.ok ?_
              unfold aHouse
              rw [hw, h9x, e9p]
              rfl
            | 3, _ =>
              refine aw_tableIn (off := 101) (tgt := 149) dX10_house_48 (by decide) (by decide) (by decide) rfl ?_
              refine aw_aload_n dX10_house_149 rfl ?_
              refine aw_aload_n dX10_house_150 rfl ?_
              refine aw_getI dX10_house_151 fX10_192 (hS.po (by omega)) (hS.pb (by omega)) rfl ?_
              refine AW.top (hC.pf h8 (p := p) (w := 2) (by omega) (by decide) (by decide) (by decide)) ?_
              refine aw_cV dX10_house_154 kX10_94 mX10_answer (sX10_answer hX) (Nat.le_of_ble_eq_true rfl) hX.k ⟨by decide, rfl⟩ hX.b rfl rfl (Nat.le_of_ble_eq_true rfl) ⟨Nat.le_refl _, Nat.le_refl _⟩ ?_
              refine aw_goto (tgt := 260) dX10_house_157 rfl ?_
              refine aw_iret q rfl dX10_house_260 ⟨Nat.le_refl _, Nat.le_refl _⟩ ?_
              refine Ct.ok ?_
              unfold aHouse
              rw [hw, h9x, e9p]
              rfl
            | 4, _ =>
              refine aw_tableIn (off := 112) (tgt := 160) dX10_house_48 (by decide) (by decide) (by decide) rfl ?_
              refine aw_aload_n dX10_house_160 rfl ?_
              refine aw_aload_n dX10_house_161 rfl ?_
              refine aw_getI dX10_house_162 fX10_195 (hS.po (by omega)) (hS.pb (by omega)) rfl ?_
              refine AW.top (hC.pf h8 (p := p) (w := 3) (by omega) (by decide) (by decide) (by decide)) ?_
              refine aw_cV dX10_house_165 kX10_94 mX10_answer (sX10_answer hX) (Nat.le_of_ble_eq_true rfl) hX.k ⟨by decide, rfl⟩ hX.b rfl rfl (Nat.le_of_ble_eq_true rfl) ⟨Nat.le_refl _, Nat.le_refl _⟩ ?_
              refine aw_goto (tgt := 260) dX10_house_168 rfl ?_
              refine aw_iret q rfl dX10_house_260 ⟨Nat.le_refl _, Nat.le_refl _⟩ ?_
              refine Ct.ok ?_
              unfold aHouse
              rw [hw, h9x, e9p]
              rfl
            | 5, _ =>
              refine aw_tableIn (off := 123) (tgt := 171) dX10_house_48 (by decide) (by decide) (by decide) rfl ?_
              refine aw_aload_n dX10_house_171 rfl ?_
              refine aw_aload_n dX10_house_172 rfl ?_
              refine aw_getI dX10_house_173 fX10_198 (hS.po (by omega)) (hS.pb (by omega)) rfl ?_
              refine AW.top (hC.pf h8 (p := p) (w := 4) (by omega) (by decide) (by decide) (by decide)) ?_
              refine aw_cV dX10_house_176 kX10_147 mX10_answerIfAny (sX10_answerIfAny hX) (Nat.le_of_ble_eq_true rfl) hX.k ⟨by decide, rfl⟩ hX.b rfl rfl (Nat.le_of_ble_eq_true rfl) ⟨Nat.le_refl _, Nat.le_refl _⟩ ?_
              refine aw_goto (tgt := 260) dX10_house_179 rfl ?_
              refine aw_iret q rfl dX10_house_260 ⟨Nat.le_refl _, Nat.le_refl _⟩ ?_
              have e : aHouse N (nI p) (nI 5) = aAny (N (80 + 18 * p + 4)) := by
                unfold aHouse
                rw [hw, h9x, e9p]
                rfl
              rw [e]
              exact Pst.rf
            | 6, _ =>
              refine aw_tableIn (off := 134) (tgt := 182) dX10_house_48 (by decide) (by decide) (by decide) rfl ?_
              refine aw_aload_n dX10_house_182 rfl ?_
              refine aw_aload_n dX10_house_183 rfl ?_
              refine aw_getI dX10_house_184 fX10_201 (hS.po (by omega)) (hS.pb (by omega)) rfl ?_
              refine AW.top (hC.pf h8 (p := p) (w := 5) (by omega) (by decide) (by decide) (by decide)) ?_
              refine aw_cV dX10_house_187 kX10_94 mX10_answer (sX10_answer hX) (Nat.le_of_ble_eq_true rfl) hX.k ⟨by decide, rfl⟩ hX.b rfl rfl (Nat.le_of_ble_eq_true rfl) ⟨Nat.le_refl _, Nat.le_refl _⟩ ?_
              refine aw_goto (tgt := 260) dX10_house_190 rfl ?_
              refine aw_iret q rfl dX10_house_260 ⟨Nat.le_refl _, Nat.le_refl _⟩ ?_
              refine Ct.ok ?_
              unfold aHouse
              rw [hw, h9x, e9p]
              rfl
            | 7, _ =>
              refine aw_tableIn (off := 145) (tgt := 193) dX10_house_48 (by decide) (by decide) (by decide) rfl ?_
              refine aw_aload_n dX10_house_193 rfl ?_
              refine aw_aload_n dX10_house_194 rfl ?_
              refine aw_getI dX10_house_195 fX10_202 (hS.po (by omega)) (hS.pb (by omega)) rfl ?_
              refine AW.top (hC.br (by omega)) ?_
              refine AW.top (y := N (80 + 18 * p + 6)) (by rw [hNw p hp, Int32.add_zero]) ?_
              refine aw_cV dX10_house_198 kX10_94 mX10_answer (sX10_answer hX) (Nat.le_of_ble_eq_true rfl) hX.k ⟨by decide, rfl⟩ hX.b rfl rfl (Nat.le_of_ble_eq_true rfl) ⟨Nat.le_refl _, Nat.le_refl _⟩ ?_
              refine aw_goto (tgt := 260) dX10_house_201 rfl ?_
              refine aw_iret q rfl dX10_house_260 ⟨Nat.le_refl _, Nat.le_refl _⟩ ?_
              refine Ct.ok ?_
              unfold aHouse
              rw [hw, h9x, e9p]
              rfl
            | 8, _ =>
              refine aw_tableIn (off := 156) (tgt := 204) dX10_house_48 (by decide) (by decide) (by decide) rfl ?_
              refine aw_aload_n dX10_house_204 rfl ?_
              refine aw_aload_n dX10_house_205 rfl ?_
              refine aw_getI dX10_house_206 fX10_205 (hS.po (by omega)) (hS.pb (by omega)) rfl ?_
              refine AW.top (hC.pf h8 (p := p) (w := 8) (by omega) (by decide) (by decide) (by decide)) ?_
              refine AW.top (z01_bI (ou_z01 hC h8 hp)) ?_
              refine aw_cV dX10_house_209 kX10_154 mX10_answerFlag (sX10_answerFlag hX) (Nat.le_of_ble_eq_true rfl) hX.k ⟨by decide, rfl⟩ hX.b rfl rfl (Nat.le_of_ble_eq_true rfl) ⟨Nat.le_refl _, Nat.le_refl _⟩ ?_
              refine aw_goto (tgt := 260) dX10_house_212 rfl ?_
              refine aw_iret q rfl dX10_house_260 ⟨Nat.le_refl _, Nat.le_refl _⟩ ?_
              refine Ct.ok ?_
              unfold aHouse
              rw [hw, h9x, e9p, ← z01_bI (ou_z01 hC h8 hp)]
              rfl
            | 9, _ =>
              refine aw_tableIn (off := 167) (tgt := 215) dX10_house_48 (by decide) (by decide) (by decide) rfl ?_
              refine aw_aload_n dX10_house_215 rfl ?_
              refine aw_aload_n dX10_house_216 rfl ?_
              refine aw_cV dX10_house_217 kX10_208 mX3_countBids (sX3_countBids hS hC hN hp) (Nat.le_of_ble_eq_true rfl) (hS.po (by omega)) ⟨by decide, rfl⟩ (hS.pb (by omega)) rfl rfl (Nat.le_of_ble_eq_true rfl) ⟨Nat.le_refl _, Nat.le_refl _⟩ ?_
              refine aw_cV dX10_house_220 kX10_94 mX10_answer (sX10_answer hX) (Nat.le_of_ble_eq_true rfl) hX.k ⟨by decide, rfl⟩ hX.b rfl rfl (Nat.le_of_ble_eq_true rfl) ⟨Nat.le_refl _, Nat.le_refl _⟩ ?_
              refine aw_goto (tgt := 260) dX10_house_223 rfl ?_
              refine aw_iret q rfl dX10_house_260 ⟨Nat.le_refl _, Nat.le_refl _⟩ ?_
              refine Ct.ok ?_
              unfold aHouse
              rw [hw, h9x, e9p]
              rfl
            | 10, _ =>
              refine aw_tableIn (off := 178) (tgt := 226) dX10_house_48 (by decide) (by decide) (by decide) rfl ?_
              refine aw_aload_n dX10_house_226 rfl ?_
              refine aw_aload_n dX10_house_227 rfl ?_
              refine aw_getI dX10_house_228 fX10_209 (hS.po (by omega)) (hS.pb (by omega)) rfl ?_
              refine AW.top (hC.pf h8 (p := p) (w := 11) hp (by decide) (by decide) (by decide)) ?_
              refine aw_cV dX10_house_231 kX10_94 mX10_answer (sX10_answer hX) (Nat.le_of_ble_eq_true rfl) hX.k ⟨by decide, rfl⟩ hX.b rfl rfl (Nat.le_of_ble_eq_true rfl) ⟨Nat.le_refl _, Nat.le_refl _⟩ ?_
              refine aw_goto (tgt := 260) dX10_house_234 rfl ?_
              refine aw_iret q rfl dX10_house_260 ⟨Nat.le_refl _, Nat.le_refl _⟩ ?_
              refine Ct.ok ?_
              unfold aHouse
              rw [hw, h9x, e9p]
              rfl
            | 11, _ =>
              refine aw_tableIn (off := 189) (tgt := 237) dX10_house_48 (by decide) (by decide) (by decide) rfl ?_
              refine aw_aload_n dX10_house_237 rfl ?_
              refine aw_aload_n dX10_house_238 rfl ?_
              refine aw_getI dX10_house_239 fX10_212 (hS.po (by omega)) (hS.pb (by omega)) rfl ?_
              refine AW.top (hC.pf h8 (p := p) (w := 9) (by omega) (by decide) (by decide) (by decide)) ?_
              refine aw_cV dX10_house_242 kX10_94 mX10_answer (sX10_answer hX) (Nat.le_of_ble_eq_true rfl) hX.k ⟨by decide, rfl⟩ hX.b rfl rfl (Nat.le_of_ble_eq_true rfl) ⟨Nat.le_refl _, Nat.le_refl _⟩ ?_
              refine aw_goto (tgt := 260) dX10_house_245 rfl ?_
              refine aw_iret q rfl dX10_house_260 ⟨Nat.le_refl _, Nat.le_refl _⟩ ?_
              refine Ct.ok ?_
              unfold aHouse
              rw [hw, h9x, e9p]
              rfl
          · refine aw_tableOut (tgt := 248) dX10_house_48 (by omega) rfl ?_
            obtain ⟨u, hu, rfl⟩ := le_ix (B := 11) (by decide) c1 c13
            exact absurd rfl (out_ne ho48 (j := u) (by omega) (by decide))
        · skip
          refine aw_iload_n dX10_house_16 rfl ?_
          refine aw_bipush (v := 20) dX10_house_17 rfl ?_
          refine aw_icmp_ge (tgt := 28) dX10_house_19 rfl (fun c19 => ?_) (fun c19 => ?_)
          · have hw : (mFrom w 0 11 || mFrom w 20 25) = true := by rw [from_in (a := 20) (Int32.not_lt.mpr c19) (Int32.not_lt.mp c7), Bool.or_true]
            refine aw_aload_n dX10_house_28 rfl ?_
            refine aw_getR (b := 1) dX10_house_29 fX10_10 hX.k hX.b rfl hX.r0 ?_
            refine aw_iload_n dX10_house_32 rfl ?_
            refine aw_cV dX10_house_33 kX10_176 mX7_houseAt (sX7_houseAt hS hC hO rfl hp) (Nat.le_of_ble_eq_true rfl) hS.k ⟨by decide, rfl⟩ hS.b0 rfl rfl (Nat.le_of_ble_eq_true rfl) ⟨Nat.le_refl _, Nat.le_refl _⟩ ?_
            refine aw_astore_n dX10_house_36 (by decide) rfl ?_
            refine aw_aload_n dX10_house_37 rfl ?_
            refine aw_ifnonnull (tgt := 47) dX10_house_38 rfl ?_
            refine aw_iload_n dX10_house_47 rfl ?_
            rcases swx w 12 (by decide) with ⟨j48, hj48, rfl⟩ | ho48
            · match j48, hj48 with
              | 0, _ =>
                refine aw_tableIn (off := 64) (tgt := 112) dX10_house_48 (by decide) (by decide) (by decide) rfl ?_
                refine aw_aload_n dX10_house_112 rfl ?_
                refine aw_aload_n dX10_house_113 rfl ?_
                refine aw_getI dX10_house_114 fX10_180 (hS.po (by omega)) (hS.pb (by omega)) rfl ?_
                refine AW.top (hC.pf h8 (p := p) (w := 0) (by omega) (by decide) (by decide) (by decide)) ?_
                refine aw_cV dX10_house_117 kX10_94 mX10_answer (sX10_answer hX) (Nat.le_of_ble_eq_true rfl) hX.k ⟨by decide, rfl⟩ hX.b rfl rfl (Nat.le_of_ble_eq_true rfl) ⟨Nat.le_refl _, Nat.le_refl _⟩ ?_
                refine aw_goto (tgt := 260) dX10_house_120 rfl ?_
                refine aw_iret q rfl dX10_house_260 ⟨Nat.le_refl _, Nat.le_refl _⟩ ?_
                exact absurd ((nI_leI (a := 0) (b := 11) (by decide) (by decide)).mpr (by decide)) c13
              | 1, _ =>
                refine aw_tableIn (off := 75) (tgt := 123) dX10_house_48 (by decide) (by decide) (by decide) rfl ?_
                refine aw_aload_n dX10_house_123 rfl ?_
                refine aw_aload_n dX10_house_124 rfl ?_
                refine aw_getR (b := 1) dX10_house_125 fX10_10 hX.k hX.b rfl hX.r0 ?_
                refine aw_aload_n dX10_house_128 rfl ?_
                refine aw_cV dX10_house_129 kX10_185 mX7_bandNow (sX7_bandNow hS hC hO hp) (Nat.le_of_ble_eq_true rfl) hS.k ⟨by decide, rfl⟩ hS.b0 rfl rfl (Nat.le_of_ble_eq_true rfl) ⟨Nat.le_refl _, Nat.le_refl _⟩ ?_
                refine aw_cV dX10_house_132 kX10_94 mX10_answer (sX10_answer hX) (Nat.le_of_ble_eq_true rfl) hX.k ⟨by decide, rfl⟩ hX.b rfl rfl (Nat.le_of_ble_eq_true rfl) ⟨Nat.le_refl _, Nat.le_refl _⟩ ?_
                refine aw_goto (tgt := 260) dX10_house_135 rfl ?_
                refine aw_iret q rfl dX10_house_260 ⟨Nat.le_refl _, Nat.le_refl _⟩ ?_
                exact absurd ((nI_leI (a := 1) (b := 11) (by decide) (by decide)).mpr (by decide)) c13
              | 2, _ =>
                refine aw_tableIn (off := 90) (tgt := 138) dX10_house_48 (by decide) (by decide) (by decide) rfl ?_
                refine aw_aload_n dX10_house_138 rfl ?_
                refine aw_aload_n dX10_house_139 rfl ?_
                refine aw_getI dX10_house_140 fX10_189 (hS.po (by omega)) (hS.pb (by omega)) rfl ?_
                refine AW.top (hC.pf h8 (p := p) (w := 1) (by omega) (by decide) (by decide) (by decide)) ?_
                refine aw_cV dX10_house_143 kX10_94 mX10_answer (sX10_answer hX) (Nat.le_of_ble_eq_true rfl) hX.k ⟨by decide, rfl⟩ hX.b rfl rfl (Nat.le_of_ble_eq_true rfl) ⟨Nat.le_refl _, Nat.le_refl _⟩ ?_
                refine aw_goto (tgt := 260) dX10_house_146 rfl ?_
                refine aw_iret q rfl dX10_house_260 ⟨Nat.le_refl _, Nat.le_refl _⟩ ?_
                exact absurd ((nI_leI (a := 2) (b := 11) (by decide) (by decide)).mpr (by decide)) c13
              | 3, _ =>
                refine aw_tableIn (off := 101) (tgt := 149) dX10_house_48 (by decide) (by decide) (by decide) rfl ?_
                refine aw_aload_n dX10_house_149 rfl ?_
                refine aw_aload_n dX10_house_150 rfl ?_
                refine aw_getI dX10_house_151 fX10_192 (hS.po (by omega)) (hS.pb (by omega)) rfl ?_
                refine AW.top (hC.pf h8 (p := p) (w := 2) (by omega) (by decide) (by decide) (by decide)) ?_
                refine aw_cV dX10_house_154 kX10_94 mX10_answer (sX10_answer hX) (Nat.le_of_ble_eq_true rfl) hX.k ⟨by decide, rfl⟩ hX.b rfl rfl (Nat.le_of_ble_eq_true rfl) ⟨Nat.le_refl _, Nat.le_refl _⟩ ?_
                refine aw_goto (tgt := 260) dX10_house_157 rfl ?_
                refine aw_iret q rfl dX10_house_260 ⟨Nat.le_refl _, Nat.le_refl _⟩ ?_
                exact absurd ((nI_leI (a := 3) (b := 11) (by decide) (by decide)).mpr (by decide)) c13
              | 4, _ =>
                refine aw_tableIn (off := 112) (tgt := 160) dX10_house_48 (by decide) (by decide) (by decide) rfl ?_
                refine aw_aload_n dX10_house_160 rfl ?_
                refine aw_aload_n dX10_house_161 rfl ?_
                refine aw_getI dX10_house_162 fX10_195 (hS.po (by omega)) (hS.pb (by omega)) rfl ?_
                refine AW.top (hC.pf h8 (p := p) (w := 3) (by omega) (by decide) (by decide) (by decide)) ?_
                refine aw_cV dX10_house_165 kX10_94 mX10_answer (sX10_answer hX) (Nat.le_of_ble_eq_true rfl) hX.k ⟨by decide, rfl⟩ hX.b rfl rfl (Nat.le_of_ble_eq_true rfl) ⟨Nat.le_refl _, Nat.le_refl _⟩ ?_
                refine aw_goto (tgt := 260) dX10_house_168 rfl ?_
                refine aw_iret q rfl dX10_house_260 ⟨Nat.le_refl _, Nat.le_refl _⟩ ?_
                exact absurd ((nI_leI (a := 4) (b := 11) (by decide) (by decide)).mpr (by decide)) c13
              | 5, _ =>
                refine aw_tableIn (off := 123) (tgt := 171) dX10_house_48 (by decide) (by decide) (by decide) rfl ?_
                refine aw_aload_n dX10_house_171 rfl ?_
                refine aw_aload_n dX10_house_172 rfl ?_
                refine aw_getI dX10_house_173 fX10_198 (hS.po (by omega)) (hS.pb (by omega)) rfl ?_
                refine AW.top (hC.pf h8 (p := p) (w := 4) (by omega) (by decide) (by decide) (by decide)) ?_
                refine aw_cV dX10_house_176 kX10_147 mX10_answerIfAny (sX10_answerIfAny hX) (Nat.le_of_ble_eq_true rfl) hX.k ⟨by decide, rfl⟩ hX.b rfl rfl (Nat.le_of_ble_eq_true rfl) ⟨Nat.le_refl _, Nat.le_refl _⟩ ?_
                refine aw_goto (tgt := 260) dX10_house_179 rfl ?_
                refine aw_iret q rfl dX10_house_260 ⟨Nat.le_refl _, Nat.le_refl _⟩ ?_
                exact absurd ((nI_leI (a := 5) (b := 11) (by decide) (by decide)).mpr (by decide)) c13
              | 6, _ =>
                refine aw_tableIn (off := 134) (tgt := 182) dX10_house_48 (by decide) (by decide) (by decide) rfl ?_
                refine aw_aload_n dX10_house_182 rfl ?_
                refine aw_aload_n dX10_house_183 rfl ?_
                refine aw_getI dX10_house_184 fX10_201 (hS.po (by omega)) (hS.pb (by omega)) rfl ?_
                refine AW.top (hC.pf h8 (p := p) (w := 5) (by omega) (by decide) (by decide) (by decide)) ?_
                refine aw_cV dX10_house_187 kX10_94 mX10_answer (sX10_answer hX) (Nat.le_of_ble_eq_true rfl) hX.k ⟨by decide, rfl⟩ hX.b rfl rfl (Nat.le_of_ble_eq_true rfl) ⟨Nat.le_refl _, Nat.le_refl _⟩ ?_
                refine aw_goto (tgt := 260) dX10_house_190 rfl ?_
                refine aw_iret q rfl dX10_house_260 ⟨Nat.le_refl _, Nat.le_refl _⟩ ?_
                exact absurd ((nI_leI (a := 6) (b := 11) (by decide) (by decide)).mpr (by decide)) c13
              | 7, _ =>
                refine aw_tableIn (off := 145) (tgt := 193) dX10_house_48 (by decide) (by decide) (by decide) rfl ?_
                refine aw_aload_n dX10_house_193 rfl ?_
                refine aw_aload_n dX10_house_194 rfl ?_
                refine aw_getI dX10_house_195 fX10_202 (hS.po (by omega)) (hS.pb (by omega)) rfl ?_
                refine AW.top (hC.br (by omega)) ?_
                refine AW.top (y := N (80 + 18 * p + 6)) (by rw [hNw p hp, Int32.add_zero]) ?_
                refine aw_cV dX10_house_198 kX10_94 mX10_answer (sX10_answer hX) (Nat.le_of_ble_eq_true rfl) hX.k ⟨by decide, rfl⟩ hX.b rfl rfl (Nat.le_of_ble_eq_true rfl) ⟨Nat.le_refl _, Nat.le_refl _⟩ ?_
                refine aw_goto (tgt := 260) dX10_house_201 rfl ?_
                refine aw_iret q rfl dX10_house_260 ⟨Nat.le_refl _, Nat.le_refl _⟩ ?_
                exact absurd ((nI_leI (a := 7) (b := 11) (by decide) (by decide)).mpr (by decide)) c13
              | 8, _ =>
                refine aw_tableIn (off := 156) (tgt := 204) dX10_house_48 (by decide) (by decide) (by decide) rfl ?_
                refine aw_aload_n dX10_house_204 rfl ?_
                refine aw_aload_n dX10_house_205 rfl ?_
                refine aw_getI dX10_house_206 fX10_205 (hS.po (by omega)) (hS.pb (by omega)) rfl ?_
                refine AW.top (hC.pf h8 (p := p) (w := 8) (by omega) (by decide) (by decide) (by decide)) ?_
                refine AW.top (z01_bI (ou_z01 hC h8 hp)) ?_
                refine aw_cV dX10_house_209 kX10_154 mX10_answerFlag (sX10_answerFlag hX) (Nat.le_of_ble_eq_true rfl) hX.k ⟨by decide, rfl⟩ hX.b rfl rfl (Nat.le_of_ble_eq_true rfl) ⟨Nat.le_refl _, Nat.le_refl _⟩ ?_
                refine aw_goto (tgt := 260) dX10_house_212 rfl ?_
                refine aw_iret q rfl dX10_house_260 ⟨Nat.le_refl _, Nat.le_refl _⟩ ?_
                exact absurd ((nI_leI (a := 8) (b := 11) (by decide) (by decide)).mpr (by decide)) c13
              | 9, _ =>
                refine aw_tableIn (off := 167) (tgt := 215) dX10_house_48 (by decide) (by decide) (by decide) rfl ?_
                refine aw_aload_n dX10_house_215 rfl ?_
                refine aw_aload_n dX10_house_216 rfl ?_
                refine aw_cV dX10_house_217 kX10_208 mX3_countBids (sX3_countBids hS hC hN hp) (Nat.le_of_ble_eq_true rfl) (hS.po (by omega)) ⟨by decide, rfl⟩ (hS.pb (by omega)) rfl rfl (Nat.le_of_ble_eq_true rfl) ⟨Nat.le_refl _, Nat.le_refl _⟩ ?_
                refine aw_cV dX10_house_220 kX10_94 mX10_answer (sX10_answer hX) (Nat.le_of_ble_eq_true rfl) hX.k ⟨by decide, rfl⟩ hX.b rfl rfl (Nat.le_of_ble_eq_true rfl) ⟨Nat.le_refl _, Nat.le_refl _⟩ ?_
                refine aw_goto (tgt := 260) dX10_house_223 rfl ?_
                refine aw_iret q rfl dX10_house_260 ⟨Nat.le_refl _, Nat.le_refl _⟩ ?_
                exact absurd ((nI_leI (a := 9) (b := 11) (by decide) (by decide)).mpr (by decide)) c13
              | 10, _ =>
                refine aw_tableIn (off := 178) (tgt := 226) dX10_house_48 (by decide) (by decide) (by decide) rfl ?_
                refine aw_aload_n dX10_house_226 rfl ?_
                refine aw_aload_n dX10_house_227 rfl ?_
                refine aw_getI dX10_house_228 fX10_209 (hS.po (by omega)) (hS.pb (by omega)) rfl ?_
                refine AW.top (hC.pf h8 (p := p) (w := 11) hp (by decide) (by decide) (by decide)) ?_
                refine aw_cV dX10_house_231 kX10_94 mX10_answer (sX10_answer hX) (Nat.le_of_ble_eq_true rfl) hX.k ⟨by decide, rfl⟩ hX.b rfl rfl (Nat.le_of_ble_eq_true rfl) ⟨Nat.le_refl _, Nat.le_refl _⟩ ?_
                refine aw_goto (tgt := 260) dX10_house_234 rfl ?_
                refine aw_iret q rfl dX10_house_260 ⟨Nat.le_refl _, Nat.le_refl _⟩ ?_
                exact absurd ((nI_leI (a := 10) (b := 11) (by decide) (by decide)).mpr (by decide)) c13
              | 11, _ =>
                refine aw_tableIn (off := 189) (tgt := 237) dX10_house_48 (by decide) (by decide) (by decide) rfl ?_
                refine aw_aload_n dX10_house_237 rfl ?_
                refine aw_aload_n dX10_house_238 rfl ?_
                refine aw_getI dX10_house_239 fX10_212 (hS.po (by omega)) (hS.pb (by omega)) rfl ?_
                refine AW.top (hC.pf h8 (p := p) (w := 9) (by omega) (by decide) (by decide) (by decide)) ?_
                refine aw_cV dX10_house_242 kX10_94 mX10_answer (sX10_answer hX) (Nat.le_of_ble_eq_true rfl) hX.k ⟨by decide, rfl⟩ hX.b rfl rfl (Nat.le_of_ble_eq_true rfl) ⟨Nat.le_refl _, Nat.le_refl _⟩ ?_
                refine aw_goto (tgt := 260) dX10_house_245 rfl ?_
                refine aw_iret q rfl dX10_house_260 ⟨Nat.le_refl _, Nat.le_refl _⟩ ?_
                exact absurd ((nI_leI (a := 11) (b := 11) (by decide) (by decide)).mpr (by decide)) c13
            · refine aw_tableOut (tgt := 248) dX10_house_48 (by omega) rfl ?_
              have h6 := hN.w6 (show p < 8 by omega)
              obtain ⟨u, hu, rfl⟩ := le_ix (B := 25) (by decide) c1 (Int32.not_lt.mp c7)
              have hu2 := (nI_leI (a := 20) (b := u) (by decide) (by omega)).mp c19
              by_cases hq : u - 20 < nWi N p
              · refine aw_aload_n dX10_house_248 rfl ?_
                refine aw_aload_n dX10_house_249 rfl ?_
                refine aw_iload_n dX10_house_250 rfl ?_
                refine aw_bipush (v := 20) dX10_house_251 rfl ?_
                refine aw_isub dX10_house_253 ?_
                refine AW.top (y := nI (u - 20)) (nI_subB (b := 20) (by omega)) ?_
                refine aw_cV dX10_house_254 kX10_215 mX3_wishAt (sX3_wishAt hS hC hN hp (k := u - 20) rfl hq) (Nat.le_of_ble_eq_true rfl) (hS.po (by omega)) ⟨by decide, rfl⟩ (hS.pb (by omega)) rfl rfl (Nat.le_of_ble_eq_true rfl) ⟨Nat.le_refl _, Nat.le_refl _⟩ ?_
                refine aw_cV dX10_house_257 kX10_147 mX10_answerIfAny (sX10_answerIfAny hX) (Nat.le_of_ble_eq_true rfl) hX.k ⟨by decide, rfl⟩ hX.b rfl rfl (Nat.le_of_ble_eq_true rfl) ⟨Nat.le_refl _, Nat.le_refl _⟩ ?_
                refine aw_iret q rfl dX10_house_260 ⟨Nat.le_refl _, Nat.le_refl _⟩ ?_
                have e : aHouse N (nI p) (nI u) = aAny (N (80 + 18 * p + (12 + (u - 20)))) := by
                  unfold aHouse aAny
                  obtain ⟨v, hv, ev⟩ := hN.wi (show p < 8 by omega) hq
                  rw [hw, h9x, e9p, nI_clamp (by omega), if_neg (show ¬ N (80 + 18 * p + (12 + (u - 20))) = -1 by rw [ev]; exact nI_ne_m1 (by omega))]
                  show (if ¬ nI u < 20 then _ else _) = _
                  rw [if_pos (show ¬ nI u < 20 from fun z => absurd ((nI_ltI (b := 20) (by omega) (by decide)).mp z) (by omega)), show nI u - 20 = nI (u - 20) from nI_subB (b := 20) (by omega), hN.w (by omega), if_neg (fun z => absurd ((nI_leI (by omega) (by omega)).mp z) (by omega))]
                rw [e]
                exact Pst.rf
              · refine aw_aload_n dX10_house_248 rfl ?_
                refine aw_aload_n dX10_house_249 rfl ?_
                refine aw_iload_n dX10_house_250 rfl ?_
                refine aw_bipush (v := 20) dX10_house_251 rfl ?_
                refine aw_isub dX10_house_253 ?_
                refine AW.top (y := nI (u - 20)) (nI_subB (b := 20) (by omega)) ?_
                refine aw_cV dX10_house_254 kX10_215 mX3_wishAt (sX3_wishAtN hS hC hN hp (by
                  cases z : mFrom (nI (u - 20)) 0 (nI (nWi N p) - 1) with
                  | false => rfl
                  | true =>
                    obtain ⟨y, hy, ey⟩ := from_ix rfl (by omega) z
                    have := (nI_eq (by omega) (by omega)).mp ey
                    omega)) (Nat.le_of_ble_eq_true rfl) (hS.po (by omega)) ⟨by decide, rfl⟩ (hS.pb (by omega)) rfl rfl (Nat.le_of_ble_eq_true rfl) ⟨Nat.le_refl _, Nat.le_refl _⟩ ?_
                refine aw_cV dX10_house_257 kX10_147 mX10_answerIfAny (sX10_answerIfAny hX) (Nat.le_of_ble_eq_true rfl) hX.k ⟨by decide, rfl⟩ hX.b rfl rfl (Nat.le_of_ble_eq_true rfl) ⟨Nat.le_refl _, Nat.le_refl _⟩ ?_
                refine aw_iret q rfl dX10_house_260 ⟨Nat.le_refl _, Nat.le_refl _⟩ ?_
                refine Ct.no ?_
                unfold aHouse
                rw [hw, h9x, e9p, nI_clamp (by omega)]
                show (if ¬ nI u < 20 then _ else _) = _
                rw [if_pos (show ¬ nI u < 20 from fun z => absurd ((nI_ltI (b := 20) (by omega) (by decide)).mp z) (by omega)), show nI u - 20 = nI (u - 20) from nI_subB (b := 20) (by omega), hN.w (by omega), if_pos ((nI_leI (by omega) (by omega)).mpr (by omega))]
                rfl
          · have hw : (mFrom w 0 11 || mFrom w 20 25) = false := by rw [from_gt (a := 0) c13, from_lo (b := 25) (Int32.not_le.mp c19)]; rfl
            refine aw_aload_n dX10_house_22 rfl ?_
            refine aw_iconst (v := 1) dX10_house_23 rfl ?_
            refine aw_cV dX10_house_24 kX10_76 mX10_fail (sX10_fail hX) (Nat.le_of_ble_eq_true rfl) hX.k ⟨by decide, rfl⟩ hX.b rfl rfl (Nat.le_of_ble_eq_true rfl) ⟨Nat.le_refl _, Nat.le_refl _⟩ ?_
            refine aw_iret q rfl dX10_house_27 ⟨Nat.le_refl _, Nat.le_refl _⟩ ?_
            refine Ct.no ?_
            unfold aHouse
            rw [hw]
            rfl
end ClsS
