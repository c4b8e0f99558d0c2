/-! the class whole: weeks ahead -/
def Cs (a : An) (z n : Nat) (sh : Shp) (I : MI) (L : ML) : PoT := fun v z' n' sh' J' M' => v = some (.int a.1) ∧ z' = z ∧ n' = n ∧ sh' = sh ∧ ∃ J, J' = upI J 0 8 a.2 ∧ SpF I L J M'
section Css
variable {a : An} {z n : Nat} {sh : Shp} {I J : MI} {L M : ML}
theorem Cs.ok {v : Int32} (h : a = ok v) (hs : SpF I L J M) : Cs a z n sh I L (some (.int v)) z n sh (upI J 0 8 0) M := by subst h; exact ⟨rfl, rfl, rfl, rfl, J, rfl, hs⟩
theorem Cs.no {s : Int32} (h : a = no s) (hs : SpF I L J M) : Cs a z n sh I L (some (.int (-1))) z n sh (upI J 0 8 s) M := by subst h; exact ⟨rfl, rfl, rfl, rfl, J, rfl, hs⟩
theorem Cs.any {b : An} (h : a = b) (hs : SpF I L J M) : Cs a z n sh I L (some (.int b.1)) z n sh (upI J 0 8 b.2) M := by subst h; exact ⟨rfl, rfl, rfl, rfl, J, rfl, hs⟩
end Css
theorem iFirst_cong {P R : Nat → Bool} {n : Nat} (h : ∀ k, k < n → P k = R k) : iFirst P n = iFirst R n := by
  unfold iFirst
  rw [ff_cong h]
section ClsS
variable {z n : Nat} {sh : Shp} {I : MI} {L : ML} {N : Nat → Int32} {Q : Nat → Int64}
set_option maxHeartbeats 4000000 in
set_option maxRecDepth 100000 in
theorem sX10_weeks (hX : IsX n sh) (hC : CtS I L 1 N Q) (hIv : Iv N) (hFs : FxS I 35) {x w : Int32} : CM yX10_weeks cX10_weeks 3 (Option.some .int) 7 0 0 [.ref 0, .int x, .int w] z n sh I L (Cs (aWeeks N x w) z n sh I L) := by
  refine CM.go [some (.ref 0), some (.int x), some (.int w)] rfl rfl (Nat.le_of_ble_eq_true rfl) (fun X g q => ?_)
  have hO := hIv.ok
  have hN := hO.1
  have hR := hO.2.1
  have hB := hO.2.2.1
  have hE := hO.2.2.2
  have h8 := hN.p8
  have h10 := hN.h10
  have hS := hX.now
  refine aw_iload_n dX10_weeks_0 rfl ?_
  refine aw_if_lt (tgt := 19) dX10_weeks_1 rfl (fun c1 => ?_) (fun c1 => ?_)
  · have hw : (mFrom x 0 30 && mFrom w 0 5) = false := by rw [from_neg (b := 30) c1]; rfl
    refine aw_aload_n dX10_weeks_19 rfl ?_
    refine aw_iconst (v := 1) dX10_weeks_20 rfl ?_
    refine aw_cV dX10_weeks_21 kX10_76 mX10_fail (sX10_fail hX) (Nat.le_of_ble_eq_true rfl) hX.k ⟨by decide, rfl⟩ hX.b rfl rfl (Nat.le_of_ble_eq_true rfl) ⟨Nat.le_refl _, Nat.le_refl _⟩ ?_
    refine aw_iret q rfl dX10_weeks_24 ⟨Nat.le_refl _, Nat.le_refl _⟩ ?_
    refine Cs.no ?_ (SpF.rf hFs)
    unfold aWeeks
    rw [hw]
    rfl
  · skip
    refine aw_iload_n dX10_weeks_4 rfl ?_
    refine aw_bipush (v := 30) dX10_weeks_5 rfl ?_
    refine aw_icmp_gt (tgt := 19) dX10_weeks_7 rfl (fun c7 => ?_) (fun c7 => ?_)
    · have hw : (mFrom x 0 30 && mFrom w 0 5) = false := by rw [from_gt (a := 0) (Int32.not_le.mpr c7)]; rfl
      refine aw_aload_n dX10_weeks_19 rfl ?_
      refine aw_iconst (v := 1) dX10_weeks_20 rfl ?_
      refine aw_cV dX10_weeks_21 kX10_76 mX10_fail (sX10_fail hX) (Nat.le_of_ble_eq_true rfl) hX.k ⟨by decide, rfl⟩ hX.b rfl rfl (Nat.le_of_ble_eq_true rfl) ⟨Nat.le_refl _, Nat.le_refl _⟩ ?_
      refine aw_iret q rfl dX10_weeks_24 ⟨Nat.le_refl _, Nat.le_refl _⟩ ?_
      refine Cs.no ?_ (SpF.rf hFs)
      unfold aWeeks
      rw [hw]
      rfl
    · skip
      refine aw_iload_n dX10_weeks_10 rfl ?_
      refine aw_if_lt (tgt := 19) dX10_weeks_11 rfl (fun c11 => ?_) (fun c11 => ?_)
      · have hw : (mFrom x 0 30 && mFrom w 0 5) = false := by rw [from_neg (b := 5) c11, Bool.and_false]
        refine aw_aload_n dX10_weeks_19 rfl ?_
        refine aw_iconst (v := 1) dX10_weeks_20 rfl ?_
        refine aw_cV dX10_weeks_21 kX10_76 mX10_fail (sX10_fail hX) (Nat.le_of_ble_eq_true rfl) hX.k ⟨by decide, rfl⟩ hX.b rfl rfl (Nat.le_of_ble_eq_true rfl) ⟨Nat.le_refl _, Nat.le_refl _⟩ ?_
        refine aw_iret q rfl dX10_weeks_24 ⟨Nat.le_refl _, Nat.le_refl _⟩ ?_
        refine Cs.no ?_ (SpF.rf hFs)
        unfold aWeeks
        rw [hw]
        rfl
      · skip
        refine aw_iload_n dX10_weeks_14 rfl ?_
        refine aw_iconst (v := 5) dX10_weeks_15 rfl ?_
        refine aw_icmp_le (tgt := 25) dX10_weeks_16 rfl (fun c16 => ?_) (fun c16 => ?_)
        · have hx3 := from_in c1 (Int32.not_lt.mp c7)
          have hw2 := from_in c11 c16
          obtain ⟨u, hu, rfl⟩ := le_ix (B := 30) (by decide) c1 (Int32.not_lt.mp c7)
          refine aw_aload_n dX10_weeks_25 rfl ?_
          refine aw_getR (b := 35) dX10_weeks_26 fX10_16 hX.k hX.b rfl hX.r1 ?_
          refine aw_aload_n dX10_weeks_29 rfl ?_
          refine aw_getR (b := 1) dX10_weeks_30 fX10_10 hX.k hX.b rfl hX.r0 ?_
          refine aw_pV dX10_weeks_33 kX10_84 mX7_copy (sX7_copy hX.spr hX.now (Or.inr (by decide)) hFs hC hN) (Nat.le_of_ble_eq_true rfl) hX.spr.k ⟨by decide, rfl⟩ hX.spr.b0 rfl rfl (Nat.le_of_ble_eq_true rfl) ⟨Nat.le_refl _, Nat.le_refl _⟩ (fun J1 M1 hF1 hG1 hJ1 => ?_)
          
          refine aw_aload_n dX10_weeks_36 rfl ?_
          refine aw_getR (b := 35) dX10_weeks_37 fX10_16 hX.k hX.b rfl hX.r1 ?_
          refine aw_iload_n dX10_weeks_40 rfl ?_
          refine aw_mV dX10_weeks_41 kX10_268 mX7_runAhead (sX7_runAhead hX.spr hJ1 hIv (kk := u) rfl (by omega)) (Nat.le_of_ble_eq_true rfl) hX.spr.k ⟨by decide, rfl⟩ hX.spr.b0 rfl rfl (Nat.le_of_ble_eq_true rfl) ⟨Nat.le_refl _, Nat.le_refl _⟩ (fun J2 hF2 hJ2 => ?_)
          have iK := (cRun_Iv hIv u).1
          have hCn : CtS J2 M1 1 N Q := hC.fr hN (fun a ha => (hF2 _ (by omega)).trans (hF1 _ (by omega))) (fun a ha => hG1 _ (by omega))
          have hsp : SpF I L J2 M1 := ⟨hF1.tr hF2, hG1, hJ2.1⟩
          refine aw_iload_n dX10_weeks_44 rfl ?_
          rcases swx w 5 (by decide) with ⟨j45, hj45, rfl⟩ | ho45
          · match j45, hj45 with
            | 0, _ =>
              refine aw_tableIn (off := 35) (tgt := 80) dX10_weeks_45 (by decide) (by decide) (by decide) rfl ?_
              refine aw_aload_n dX10_weeks_80 rfl ?_
              refine aw_aload_n dX10_weeks_81 rfl ?_
              refine aw_getR (b := 35) dX10_weeks_82 fX10_16 hX.k hX.b rfl hX.r1 ?_
              refine aw_getR (b := 35 + 30) dX10_weeks_85 fX10_109 hX.spr.k hX.spr.b0 rfl hX.spr.r3 ?_
              refine aw_getI dX10_weeks_88 fX10_113 hX.spr.tk (hX.spr.lt (k := 30) (by decide)) rfl ?_
              refine AW.top hJ2.nl ?_
              refine aw_aload_n dX10_weeks_91 rfl ?_
              refine aw_getR (b := 1) dX10_weeks_92 fX10_10 hX.k hX.b rfl hX.r0 ?_
              refine aw_getR (b := 1 + 30) dX10_weeks_95 fX10_109 hS.k hS.b0 rfl hS.r3 ?_
              refine aw_getI dX10_weeks_98 fX10_113 hS.tk (hS.lt (k := 30) (by decide)) rfl ?_
              refine AW.top hCn.nl ?_
              refine aw_isub dX10_weeks_101 ?_
              refine aw_cV dX10_weeks_102 kX10_94 mX10_answer (sX10_answer hX) (Nat.le_of_ble_eq_true rfl) hX.k ⟨by decide, rfl⟩ hX.b rfl rfl (Nat.le_of_ble_eq_true rfl) ⟨Nat.le_refl _, Nat.le_refl _⟩ ?_
              refine aw_goto (tgt := 191) dX10_weeks_105 rfl ?_
              refine aw_iret q rfl dX10_weeks_191 ⟨Nat.le_refl _, Nat.le_refl _⟩ ?_
              refine Cs.ok ?_ hsp
              unfold aWeeks
              rw [hx3, hw2, nI_clamp (by omega), weeks_eq hIv]
              rfl
            | 1, _ =>
              refine aw_tableIn (off := 63) (tgt := 108) dX10_weeks_45 (by decide) (by decide) (by decide) rfl ?_
              refine aw_aload_n dX10_weeks_108 rfl ?_
              refine aw_aload_n dX10_weeks_109 rfl ?_
              refine aw_getR (b := 35) dX10_weeks_110 fX10_16 hX.k hX.b rfl hX.r1 ?_
              refine aw_getI dX10_weeks_113 fX10_126 hX.spr.k hX.spr.b0 rfl ?_
              refine AW.top hJ2.rf ?_
              refine aw_aload_n dX10_weeks_116 rfl ?_
              refine aw_getR (b := 1) dX10_weeks_117 fX10_10 hX.k hX.b rfl hX.r0 ?_
              refine aw_getI dX10_weeks_120 fX10_126 hS.k hS.b0 rfl ?_
              refine AW.top hCn.rf ?_
              refine aw_isub dX10_weeks_123 ?_
              refine aw_cV dX10_weeks_124 kX10_94 mX10_answer (sX10_answer hX) (Nat.le_of_ble_eq_true rfl) hX.k ⟨by decide, rfl⟩ hX.b rfl rfl (Nat.le_of_ble_eq_true rfl) ⟨Nat.le_refl _, Nat.le_refl _⟩ ?_
              refine aw_goto (tgt := 191) dX10_weeks_127 rfl ?_
              refine aw_iret q rfl dX10_weeks_191 ⟨Nat.le_refl _, Nat.le_refl _⟩ ?_
              refine Cs.ok ?_ hsp
              unfold aWeeks
              rw [hx3, hw2, nI_clamp (by omega), weeks_eq hIv]
              rfl
            | 2, _ =>
              refine aw_tableIn (off := 85) (tgt := 130) dX10_weeks_45 (by decide) (by decide) (by decide) rfl ?_
              refine aw_aload_n dX10_weeks_130 rfl ?_
              refine aw_aload_n dX10_weeks_131 rfl ?_
              refine aw_getR (b := 35) dX10_weeks_132 fX10_16 hX.k hX.b rfl hX.r1 ?_
              refine aw_cV dX10_weeks_135 kX10_120 mX7_countFree (sX7_countFree hX.spr hJ2 iK.ok) (Nat.le_of_ble_eq_true rfl) hX.spr.k ⟨by decide, rfl⟩ hX.spr.b0 rfl rfl (Nat.le_of_ble_eq_true rfl) ⟨Nat.le_refl _, Nat.le_refl _⟩ ?_
              refine aw_cV dX10_weeks_138 kX10_94 mX10_answer (sX10_answer hX) (Nat.le_of_ble_eq_true rfl) hX.k ⟨by decide, rfl⟩ hX.b rfl rfl (Nat.le_of_ble_eq_true rfl) ⟨Nat.le_refl _, Nat.le_refl _⟩ ?_
              refine aw_goto (tgt := 191) dX10_weeks_141 rfl ?_
              refine aw_iret q rfl dX10_weeks_191 ⟨Nat.le_refl _, Nat.le_refl _⟩ ?_
              refine Cs.ok ?_ hsp
              unfold aWeeks
              rw [hx3, hw2, nI_clamp (by omega), weeks_eq hIv]
              rfl
            | 3, _ =>
              refine aw_tableIn (off := 99) (tgt := 144) dX10_weeks_45 (by decide) (by decide) (by decide) rfl ?_
              refine aw_aload_n dX10_weeks_144 rfl ?_
              refine aw_aload_n dX10_weeks_145 rfl ?_
              refine aw_getR (b := 35) dX10_weeks_146 fX10_16 hX.k hX.b rfl hX.r1 ?_
              refine aw_cV dX10_weeks_149 kX10_123 mX7_countWaiting (sX7_countWaiting hX.spr hJ2 iK.ok) (Nat.le_of_ble_eq_true rfl) hX.spr.k ⟨by decide, rfl⟩ hX.spr.b0 rfl rfl (Nat.le_of_ble_eq_true rfl) ⟨Nat.le_refl _, Nat.le_refl _⟩ ?_
              refine aw_cV dX10_weeks_152 kX10_94 mX10_answer (sX10_answer hX) (Nat.le_of_ble_eq_true rfl) hX.k ⟨by decide, rfl⟩ hX.b rfl rfl (Nat.le_of_ble_eq_true rfl) ⟨Nat.le_refl _, Nat.le_refl _⟩ ?_
              refine aw_goto (tgt := 191) dX10_weeks_155 rfl ?_
              refine aw_iret q rfl dX10_weeks_191 ⟨Nat.le_refl _, Nat.le_refl _⟩ ?_
              refine Cs.ok ?_ hsp
              unfold aWeeks
              rw [hx3, hw2, nI_clamp (by omega), weeks_eq hIv]
              rfl
            | 4, _ =>
              refine aw_tableIn (off := 113) (tgt := 158) dX10_weeks_45 (by decide) (by decide) (by decide) rfl ?_
              refine aw_aload_n dX10_weeks_158 rfl ?_
              refine aw_aload_n dX10_weeks_159 rfl ?_
              refine aw_getR (b := 35) dX10_weeks_160 fX10_16 hX.k hX.b rfl hX.r1 ?_
              refine aw_cV dX10_weeks_163 kX10_256 mX7_greatestChain (sX7_greatestChain hX.spr hJ2 iK.ok) (Nat.le_of_ble_eq_true rfl) hX.spr.k ⟨by decide, rfl⟩ hX.spr.b0 rfl rfl (Nat.le_of_ble_eq_true rfl) ⟨Nat.le_refl _, Nat.le_refl _⟩ ?_
              refine aw_cV dX10_weeks_166 kX10_94 mX10_answer (sX10_answer hX) (Nat.le_of_ble_eq_true rfl) hX.k ⟨by decide, rfl⟩ hX.b rfl rfl (Nat.le_of_ble_eq_true rfl) ⟨Nat.le_refl _, Nat.le_refl _⟩ ?_
              refine aw_goto (tgt := 191) dX10_weeks_169 rfl ?_
              refine aw_iret q rfl dX10_weeks_191 ⟨Nat.le_refl _, Nat.le_refl _⟩ ?_
              refine Cs.ok ?_ hsp
              unfold aWeeks
              rw [hx3, hw2, nI_clamp (by omega), weeks_eq hIv]
              rfl
          · refine aw_tableOut (tgt := 172) dX10_weeks_45 (by omega) rfl ?_
            refine aw_aload_n dX10_weeks_172 rfl ?_
            refine aw_aload_n dX10_weeks_173 rfl ?_
            refine aw_getR (b := 35) dX10_weeks_174 fX10_16 hX.k hX.b rfl hX.r1 ?_
            refine aw_cV dX10_weeks_177 kX10_262 mX7_countPassed (sX7_countPassed hX.spr hJ2 iK.ok) (Nat.le_of_ble_eq_true rfl) hX.spr.k ⟨by decide, rfl⟩ hX.spr.b0 rfl rfl (Nat.le_of_ble_eq_true rfl) ⟨Nat.le_refl _, Nat.le_refl _⟩ ?_
            refine aw_aload_n dX10_weeks_180 rfl ?_
            refine aw_getR (b := 1) dX10_weeks_181 fX10_10 hX.k hX.b rfl hX.r0 ?_
            refine aw_cV dX10_weeks_184 kX10_262 mX7_countPassed (sX7_countPassed hS hCn hO) (Nat.le_of_ble_eq_true rfl) hS.k ⟨by decide, rfl⟩ hS.b0 rfl rfl (Nat.le_of_ble_eq_true rfl) ⟨Nat.le_refl _, Nat.le_refl _⟩ ?_
            refine aw_isub dX10_weeks_187 ?_
            refine aw_cV dX10_weeks_188 kX10_94 mX10_answer (sX10_answer hX) (Nat.le_of_ble_eq_true rfl) hX.k ⟨by decide, rfl⟩ hX.b rfl rfl (Nat.le_of_ble_eq_true rfl) ⟨Nat.le_refl _, Nat.le_refl _⟩ ?_
            refine aw_iret q rfl dX10_weeks_191 ⟨Nat.le_refl _, Nat.le_refl _⟩ ?_
            obtain ⟨v, hv, rfl⟩ := le_ix (B := 5) (by decide) c11 c16
            have ev : v = 5 := by
              rcases Nat.lt_or_ge v 5 with q | q
              · exact absurd rfl (out_ne ho45 (j := v) q (by decide))
              · omega
            subst ev
            refine Cs.ok ?_ hsp
            unfold aWeeks
            rw [hx3, hw2, nI_clamp (by omega), weeks_eq hIv]
            rfl
        · have hw : (mFrom x 0 30 && mFrom w 0 5) = false := by rw [from_gt (a := 0) c16, Bool.and_false]
          refine aw_aload_n dX10_weeks_19 rfl ?_
          refine aw_iconst (v := 1) dX10_weeks_20 rfl ?_
          refine aw_cV dX10_weeks_21 kX10_76 mX10_fail (sX10_fail hX) (Nat.le_of_ble_eq_true rfl) hX.k ⟨by decide, rfl⟩ hX.b rfl rfl (Nat.le_of_ble_eq_true rfl) ⟨Nat.le_refl _, Nat.le_refl _⟩ ?_
          refine aw_iret q rfl dX10_weeks_24 ⟨Nat.le_refl _, Nat.le_refl _⟩ ?_
          refine Cs.no ?_ (SpF.rf hFs)
          unfold aWeeks
          rw [hw]
          rfl
set_option maxHeartbeats 4000000 in
set_option maxRecDepth 100000 in
theorem sX10_when (hX : IsX n sh) (hC : CtS I L 1 N Q) (hIv : Iv N) (hFs : FxS I 35) {x k t : Int32} (hOu : OuL N) : CM yX10_when cX10_when 6 (Option.some .int) 7 0 0 [.ref 0, .int x, .int k, .int t] z n sh I L (Cs (aWhen N x k t) z n sh I L) := by
  refine CM.go [some (.ref 0), some (.int x), some (.int k), some (.int t), none, none] rfl rfl (Nat.le_of_ble_eq_true rfl) (fun X g q => ?_)
  have hO := hIv.ok
  have hN := hO.1
  have hR := hO.2.1
  have hB := hO.2.2.1
  have hE := hO.2.2.2
  have h8 := hN.p8
  have h10 := hN.h10
  have hS := hX.now
  cases h9x : mFrom x 0 (N 231 - 1) with
  | false =>
    refine aw_iload_n dX10_when_0 rfl ?_
    refine aw_iconst (v := 1) dX10_when_1 rfl ?_
    refine aw_icmp_lt (tgt := 11) dX10_when_2 rfl (fun c2 => ?_) (fun c2 => ?_)
    · have hw := from_lo (b := 30) c2
      refine aw_aload_n dX10_when_11 rfl ?_
      refine aw_iconst (v := 1) dX10_when_12 rfl ?_
      refine aw_cV dX10_when_13 kX10_76 mX10_fail (sX10_fail hX) (Nat.le_of_ble_eq_true rfl) hX.k ⟨by decide, rfl⟩ hX.b rfl rfl (Nat.le_of_ble_eq_true rfl) ⟨Nat.le_refl _, Nat.le_refl _⟩ ?_
      refine aw_iret q rfl dX10_when_16 ⟨Nat.le_refl _, Nat.le_refl _⟩ ?_
      refine Cs.no ?_ (SpF.rf hFs)
      unfold aWhen
      rw [hw]
      rfl
    · skip
      refine aw_iload_n dX10_when_5 rfl ?_
      refine aw_bipush (v := 30) dX10_when_6 rfl ?_
      refine aw_icmp_le (tgt := 17) dX10_when_8 rfl (fun c8 => ?_) (fun c8 => ?_)
      · have hw := from_in c2 c8
        refine aw_aload_n dX10_when_17 rfl ?_
        refine aw_getR (b := 1) dX10_when_18 fX10_10 hX.k hX.b rfl hX.r0 ?_
        refine aw_iload_n dX10_when_21 rfl ?_
        refine aw_cV dX10_when_22 kX10_176 mX7_houseAt (sX7_houseAtN hS hC hO h9x) (Nat.le_of_ble_eq_true rfl) hS.k ⟨by decide, rfl⟩ hS.b0 rfl rfl (Nat.le_of_ble_eq_true rfl) ⟨Nat.le_refl _, Nat.le_refl _⟩ ?_
        refine aw_astoreN dX10_when_25 (by decide) rfl ?_
        refine aw_aloadN dX10_when_27 rfl ?_
        refine aw_ifnonnullN dX10_when_29 ?_
        refine aw_aload_n dX10_when_32 rfl ?_
        refine aw_iconst (v := 2) dX10_when_33 rfl ?_
        refine aw_cV dX10_when_34 kX10_76 mX10_fail (sX10_fail hX) (Nat.le_of_ble_eq_true rfl) hX.k ⟨by decide, rfl⟩ hX.b rfl rfl (Nat.le_of_ble_eq_true rfl) ⟨Nat.le_refl _, Nat.le_refl _⟩ ?_
        refine aw_iret q rfl dX10_when_37 ⟨Nat.le_refl _, Nat.le_refl _⟩ ?_
        refine Cs.no ?_ (SpF.rf hFs)
        unfold aWhen
        rw [hw, h9x]
        rfl
      · have hw := from_gt (a := 1) c8
        refine aw_aload_n dX10_when_11 rfl ?_
        refine aw_iconst (v := 1) dX10_when_12 rfl ?_
        refine aw_cV dX10_when_13 kX10_76 mX10_fail (sX10_fail hX) (Nat.le_of_ble_eq_true rfl) hX.k ⟨by decide, rfl⟩ hX.b rfl rfl (Nat.le_of_ble_eq_true rfl) ⟨Nat.le_refl _, Nat.le_refl _⟩ ?_
        refine aw_iret q rfl dX10_when_16 ⟨Nat.le_refl _, Nat.le_refl _⟩ ?_
        refine Cs.no ?_ (SpF.rf hFs)
        unfold aWhen
        rw [hw]
        rfl
  | true =>
    obtain ⟨p, hp, rfl⟩ := from_ix hN.p (by omega) h9x
    have e9p : (nI p).toNatClampNeg = p := nI_clamp (by omega)
    refine aw_iload_n dX10_when_0 rfl ?_
    refine aw_iconst (v := 1) dX10_when_1 rfl ?_
    refine aw_icmp_lt (tgt := 11) dX10_when_2 rfl (fun c2 => ?_) (fun c2 => ?_)
    · have hw := from_lo (b := 30) c2
      refine aw_aload_n dX10_when_11 rfl ?_
      refine aw_iconst (v := 1) dX10_when_12 rfl ?_
      refine aw_cV dX10_when_13 kX10_76 mX10_fail (sX10_fail hX) (Nat.le_of_ble_eq_true rfl) hX.k ⟨by decide, rfl⟩ hX.b rfl rfl (Nat.le_of_ble_eq_true rfl) ⟨Nat.le_refl _, Nat.le_refl _⟩ ?_
      refine aw_iret q rfl dX10_when_16 ⟨Nat.le_refl _, Nat.le_refl _⟩ ?_
      refine Cs.no ?_ (SpF.rf hFs)
      unfold aWhen
      rw [hw]
      rfl
    · skip
      refine aw_iload_n dX10_when_5 rfl ?_
      refine aw_bipush (v := 30) dX10_when_6 rfl ?_
      refine aw_icmp_le (tgt := 17) dX10_when_8 rfl (fun c8 => ?_) (fun c8 => ?_)
      · have hw := from_in c2 c8
        refine aw_aload_n dX10_when_17 rfl ?_
        refine aw_getR (b := 1) dX10_when_18 fX10_10 hX.k hX.b rfl hX.r0 ?_
        refine aw_iload_n dX10_when_21 rfl ?_
        refine aw_cV dX10_when_22 kX10_176 mX7_houseAt (sX7_houseAt hS hC hO rfl hp) (Nat.le_of_ble_eq_true rfl) hS.k ⟨by decide, rfl⟩ hS.b0 rfl rfl (Nat.le_of_ble_eq_true rfl) ⟨Nat.le_refl _, Nat.le_refl _⟩ ?_
        refine aw_astore dX10_when_25 (by decide) rfl ?_
        refine aw_aload dX10_when_27 rfl ?_
        refine aw_ifnonnull (tgt := 38) dX10_when_29 rfl ?_
        refine aw_aload dX10_when_38 rfl ?_
        refine aw_getI dX10_when_40 fX10_205 (hS.po (by omega)) (hS.pb (by omega)) rfl ?_
        refine AW.top (hC.pf h8 (p := p) (w := 8) (by omega) (by decide) (by decide) (by decide)) ?_
        refine aw_if_eq (tgt := 52) dX10_when_43 rfl (fun c43 => ?_) (fun c43 => ?_)
        · obtain ⟨u, rfl, hu1, hu2⟩ := rng (x := 1) (y := 30) (v := k) (by decide) (Int32.not_lt.mp c2) c8 (by decide)
          refine aw_aload_n dX10_when_52 rfl ?_
          refine aw_getR (b := 35) dX10_when_53 fX10_16 hX.k hX.b rfl hX.r1 ?_
          refine aw_aload_n dX10_when_56 rfl ?_
          refine aw_getR (b := 1) dX10_when_57 fX10_10 hX.k hX.b rfl hX.r0 ?_
          refine aw_pV dX10_when_60 kX10_84 mX7_copy (sX7_copy hX.spr hX.now (Or.inr (by decide)) hFs hC hN) (Nat.le_of_ble_eq_true rfl) hX.spr.k ⟨by decide, rfl⟩ hX.spr.b0 rfl rfl (Nat.le_of_ble_eq_true rfl) ⟨Nat.le_refl _, Nat.le_refl _⟩ (fun J1 M1 hF1 hG1 hJ1 => ?_)
          
          refine aw_aload_n dX10_when_63 rfl ?_
          refine aw_getR (b := 35) dX10_when_64 fX10_16 hX.k hX.b rfl hX.r1 ?_
          refine aw_iload_n dX10_when_67 rfl ?_
          refine aw_mV dX10_when_68 kX10_268 mX7_runAhead (sX7_runAhead hX.spr hJ1 hIv (kk := u) rfl (by omega)) (Nat.le_of_ble_eq_true rfl) hX.spr.k ⟨by decide, rfl⟩ hX.spr.b0 rfl rfl (Nat.le_of_ble_eq_true rfl) ⟨Nat.le_refl _, Nat.le_refl _⟩ (fun J2 hF2 hJ2 => ?_)
          have iK := (cRun_Iv hIv u).1
          have hCn : CtS J2 M1 1 N Q := hC.fr hN (fun a ha => (hF2 _ (by omega)).trans (hF1 _ (by omega))) (fun a ha => hG1 _ (by omega))
          have hsp : SpF I L J2 M1 := ⟨hF1.tr hF2, hG1, hJ2.1⟩
          refine aw_aload_n dX10_when_71 rfl ?_
          refine aw_getR (b := 35) dX10_when_72 fX10_16 hX.k hX.b rfl hX.r1 ?_
          refine aw_getR (b := 35 + 30) dX10_when_75 fX10_109 hX.spr.k hX.spr.b0 rfl hX.spr.r3 ?_
          refine aw_iconst (v := 0) dX10_when_78 rfl ?_
          refine aw_iload_n dX10_when_79 rfl ?_
          refine aw_cV dX10_when_80 kX10_271 mX8_find (sX8_find (hJ2.tbL hX.spr iK.1) (k := 0) rfl (by decide)) (Nat.le_of_ble_eq_true rfl) hX.spr.tk ⟨by decide, rfl⟩ (hX.spr.lt (k := 30) (by decide)) rfl rfl (Nat.le_of_ble_eq_true rfl) ⟨Nat.le_refl _, Nat.le_refl _⟩ ?_
          refine AW.top (y := iFirst (fun r => decide (itr cStep u N (234 + 8 * r + 0) = nI p)) (nLe (itr cStep u N))) (iFirst_cong (fun r hr => by rw [← (hJ2.lt hr).1 0 (by decide) (by decide)])) ?_
          by_cases hq : fa_first (fun r => decide (itr cStep u N (234 + 8 * r + 0) = nI p)) (nLe (itr cStep u N)) < nLe (itr cStep u N)
          · rw [show iFirst (fun r => decide (itr cStep u N (234 + 8 * r + 0) = nI p)) (nLe (itr cStep u N)) = nI (fa_first (fun r => decide (itr cStep u N (234 + 8 * r + 0) = nI p)) (nLe (itr cStep u N))) from if_pos hq]
            refine aw_istore dX10_when_83 (by decide) rfl ?_
            refine aw_aload_n dX10_when_85 rfl ?_
            refine aw_aload_n dX10_when_86 rfl ?_
            refine aw_getR (b := 35) dX10_when_87 fX10_16 hX.k hX.b rfl hX.r1 ?_
            refine aw_getR (b := 35 + 30) dX10_when_90 fX10_109 hX.spr.k hX.spr.b0 rfl hX.spr.r3 ?_
            refine aw_iload dX10_when_93 rfl ?_
            refine aw_iload_n dX10_when_95 rfl ?_
            refine aw_if_eq (tgt := 103) dX10_when_96 rfl (fun c96 => ?_) (fun c96 => ?_)
            · refine aw_iconst (v := 2) dX10_when_103 rfl ?_
              refine aw_cV dX10_when_104 kX10_252 mX8_at (sX8_at (hJ2.tbL hX.spr iK.1) (r := fa_first (fun r => decide (itr cStep u N (234 + 8 * r + 0) = nI p)) (nLe (itr cStep u N))) (k := 2) rfl hq rfl (by decide)) (Nat.le_of_ble_eq_true rfl) hX.spr.tk ⟨by decide, rfl⟩ (hX.spr.lt (k := 30) (by decide)) rfl rfl (Nat.le_of_ble_eq_true rfl) ⟨Nat.le_refl _, Nat.le_refl _⟩ ?_
              refine AW.top ((hJ2.lt hq).1 2 (by decide) (by decide)) ?_
              refine aw_cV dX10_when_107 kX10_147 mX10_answerIfAny (sX10_answerIfAny hX) (Nat.le_of_ble_eq_true rfl) hX.k ⟨by decide, rfl⟩ hX.b rfl rfl (Nat.le_of_ble_eq_true rfl) ⟨Nat.le_refl _, Nat.le_refl _⟩ ?_
              refine aw_iret q rfl dX10_when_110 ⟨Nat.le_refl _, Nat.le_refl _⟩ ?_
              obtain ⟨w1, w2⟩ := (when_eq hIv hOu (t := t) hp (show mIn N p = true from decide_eq_true c43) u).1 hq
              rw [if_pos c96] at w1
              refine Cs.any ?_ hsp
              unfold aAny
              rw [← w1, if_neg w2]
              unfold aWhen
              rw [hw, h9x, e9p, nI_clamp (by omega), show mIn N p = true from decide_eq_true c43]
              show (if whenV N p t u = -1 then _ else _) = _
              rw [if_neg w2]
            · refine aw_iconst (v := 1) dX10_when_99 rfl ?_
              refine aw_goto (tgt := 104) dX10_when_100 rfl ?_
              refine aw_cV dX10_when_104 kX10_252 mX8_at (sX8_at (hJ2.tbL hX.spr iK.1) (r := fa_first (fun r => decide (itr cStep u N (234 + 8 * r + 0) = nI p)) (nLe (itr cStep u N))) (k := 1) rfl hq rfl (by decide)) (Nat.le_of_ble_eq_true rfl) hX.spr.tk ⟨by decide, rfl⟩ (hX.spr.lt (k := 30) (by decide)) rfl rfl (Nat.le_of_ble_eq_true rfl) ⟨Nat.le_refl _, Nat.le_refl _⟩ ?_
              refine AW.top ((hJ2.lt hq).1 1 (by decide) (by decide)) ?_
              refine aw_cV dX10_when_107 kX10_147 mX10_answerIfAny (sX10_answerIfAny hX) (Nat.le_of_ble_eq_true rfl) hX.k ⟨by decide, rfl⟩ hX.b rfl rfl (Nat.le_of_ble_eq_true rfl) ⟨Nat.le_refl _, Nat.le_refl _⟩ ?_
              refine aw_iret q rfl dX10_when_110 ⟨Nat.le_refl _, Nat.le_refl _⟩ ?_
              obtain ⟨w1, w2⟩ := (when_eq hIv hOu (t := t) hp (show mIn N p = true from decide_eq_true c43) u).1 hq
              rw [if_neg c96] at w1
              refine Cs.any ?_ hsp
              unfold aAny
              rw [← w1, if_neg w2]
              unfold aWhen
              rw [hw, h9x, e9p, nI_clamp (by omega), show mIn N p = true from decide_eq_true c43]
              show (if whenV N p t u = -1 then _ else _) = _
              rw [if_neg w2]
          · rw [show iFirst (fun r => decide (itr cStep u N (234 + 8 * r + 0) = nI p)) (nLe (itr cStep u N)) = -1 from if_neg hq]
            refine aw_istore dX10_when_83 (by decide) rfl ?_
            refine aw_aload_n dX10_when_85 rfl ?_
            refine aw_aload_n dX10_when_86 rfl ?_
            refine aw_getR (b := 35) dX10_when_87 fX10_16 hX.k hX.b rfl hX.r1 ?_
            refine aw_getR (b := 35 + 30) dX10_when_90 fX10_109 hX.spr.k hX.spr.b0 rfl hX.spr.r3 ?_
            refine aw_iload dX10_when_93 rfl ?_
            refine aw_iload_n dX10_when_95 rfl ?_
            refine aw_if_eq (tgt := 103) dX10_when_96 rfl (fun c96 => ?_) (fun c96 => ?_)
            · refine aw_iconst (v := 2) dX10_when_103 rfl ?_
              refine aw_cV dX10_when_104 kX10_252 mX8_at (sX8_atN (hJ2.tbL hX.spr iK.1) (by decide)) (Nat.le_of_ble_eq_true rfl) hX.spr.tk ⟨by decide, rfl⟩ (hX.spr.lt (k := 30) (by decide)) rfl rfl (Nat.le_of_ble_eq_true rfl) ⟨Nat.le_refl _, Nat.le_refl _⟩ ?_
              refine aw_cV dX10_when_107 kX10_147 mX10_answerIfAny (sX10_answerIfAny hX) (Nat.le_of_ble_eq_true rfl) hX.k ⟨by decide, rfl⟩ hX.b rfl rfl (Nat.le_of_ble_eq_true rfl) ⟨Nat.le_refl _, Nat.le_refl _⟩ ?_
              refine aw_iret q rfl dX10_when_110 ⟨Nat.le_refl _, Nat.le_refl _⟩ ?_
              have w1 := (when_eq hIv hOu (t := t) hp (show mIn N p = true from decide_eq_true c43) u).2 hq
              refine Cs.any ?_ hsp
              unfold aWhen
              rw [hw, h9x, e9p, nI_clamp (by omega), show mIn N p = true from decide_eq_true c43]
              show (if whenV N p t u = -1 then _ else _) = _
              rw [if_pos w1]
              rfl
            · refine aw_iconst (v := 1) dX10_when_99 rfl ?_
              refine aw_goto (tgt := 104) dX10_when_100 rfl ?_
              refine aw_cV dX10_when_104 kX10_252 mX8_at (sX8_atN (hJ2.tbL hX.spr iK.1) (by decide)) (Nat.le_of_ble_eq_true rfl) hX.spr.tk ⟨by decide, rfl⟩ (hX.spr.lt (k := 30) (by decide)) rfl rfl (Nat.le_of_ble_eq_true rfl) ⟨Nat.le_refl _, Nat.le_refl _⟩ ?_
              refine aw_cV dX10_when_107 kX10_147 mX10_answerIfAny (sX10_answerIfAny hX) (Nat.le_of_ble_eq_true rfl) hX.k ⟨by decide, rfl⟩ hX.b rfl rfl (Nat.le_of_ble_eq_true rfl) ⟨Nat.le_refl _, Nat.le_refl _⟩ ?_
              refine aw_iret q rfl dX10_when_110 ⟨Nat.le_refl _, Nat.le_refl _⟩ ?_
              have w1 := (when_eq hIv hOu (t := t) hp (show mIn N p = true from decide_eq_true c43) u).2 hq
              refine Cs.any ?_ hsp
              unfold aWhen
              rw [hw, h9x, e9p, nI_clamp (by omega), show mIn N p = true from decide_eq_true c43]
              show (if whenV N p t u = -1 then _ else _) = _
              rw [if_pos w1]
              rfl
        · refine aw_aload_n dX10_when_46 rfl ?_
          refine aw_iconst (v := 4) dX10_when_47 rfl ?_
          refine aw_cV dX10_when_48 kX10_76 mX10_fail (sX10_fail hX) (Nat.le_of_ble_eq_true rfl) hX.k ⟨by decide, rfl⟩ hX.b rfl rfl (Nat.le_of_ble_eq_true rfl) ⟨Nat.le_refl _, Nat.le_refl _⟩ ?_
          refine aw_iret q rfl dX10_when_51 ⟨Nat.le_refl _, Nat.le_refl _⟩ ?_
          refine Cs.no ?_ (SpF.rf hFs)
          unfold aWhen
          rw [hw, h9x, e9p, show mIn N p = false from decide_eq_false c43]
          rfl
      · have hw := from_gt (a := 1) c8
        refine aw_aload_n dX10_when_11 rfl ?_
        refine aw_iconst (v := 1) dX10_when_12 rfl ?_
        refine aw_cV dX10_when_13 kX10_76 mX10_fail (sX10_fail hX) (Nat.le_of_ble_eq_true rfl) hX.k ⟨by decide, rfl⟩ hX.b rfl rfl (Nat.le_of_ble_eq_true rfl) ⟨Nat.le_refl _, Nat.le_refl _⟩ ?_
        refine aw_iret q rfl dX10_when_16 ⟨Nat.le_refl _, Nat.le_refl _⟩ ?_
        refine Cs.no ?_ (SpF.rf hFs)
        unfold aWhen
        rw [hw]
        rfl
theorem p2_10 : ∀ {h : Nat}, h < 10 → 2 ^ h < 1024 := fun {h} hh => Nat.lt_of_lt_of_le (Nat.pow_lt_pow_right (by decide) hh) (by decide)
set_option maxHeartbeats 4000000 in
set_option maxRecDepth 100000 in
theorem sX10_would (hX : IsX n sh) (hC : CtS I L 1 N Q) (hIv : Iv N) (hFs : FxS I 35) {x y : Int32} : CM yX10_would cX10_would 6 (Option.some .int) 6 0 0 [.ref 0, .int x, .int y] z n sh I L (Cs (aWould N x y) z n sh I L) := by
  refine CM.go [some (.ref 0), some (.int x), some (.int y), none, none, none] rfl rfl (Nat.le_of_ble_eq_true rfl) (fun X g q => ?_)
  have hO := hIv.ok
  have hN := hO.1
  have hR := hO.2.1
  have hB := hO.2.2.1
  have hE := hO.2.2.2
  have h8 := hN.p8
  have h10 := hN.h10
  have hS := hX.now
  cases h9x : mFrom x 0 (N 231 - 1) with
  | false =>
    cases h9y : mFrom y 0 (N 230 - 1) with
    | false =>
      refine aw_aload_n dX10_would_0 rfl ?_
      refine aw_getR (b := 1) dX10_would_1 fX10_10 hX.k hX.b rfl hX.r0 ?_
      refine aw_iload_n dX10_would_4 rfl ?_
      refine aw_cV dX10_would_5 kX10_176 mX7_houseAt (sX7_houseAtN hS hC hO h9x) (Nat.le_of_ble_eq_true rfl) hS.k ⟨by decide, rfl⟩ hS.b0 rfl rfl (Nat.le_of_ble_eq_true rfl) ⟨Nat.le_refl _, Nat.le_refl _⟩ ?_
      refine aw_astore_nN dX10_would_8 (by decide) rfl ?_
      refine aw_aload_n dX10_would_9 rfl ?_
      refine aw_getR (b := 1) dX10_would_10 fX10_10 hX.k hX.b rfl hX.r0 ?_
      refine aw_iload_n dX10_would_13 rfl ?_
      refine aw_cV dX10_would_14 kX10_132 mX7_homeAt (sX7_homeAtN hS hC hO h9y) (Nat.le_of_ble_eq_true rfl) hS.k ⟨by decide, rfl⟩ hS.b0 rfl rfl (Nat.le_of_ble_eq_true rfl) ⟨Nat.le_refl _, Nat.le_refl _⟩ ?_
      refine aw_astoreN dX10_would_17 (by decide) rfl ?_
      refine aw_aload_nN dX10_would_19 rfl ?_
      refine aw_ifnullN (tgt := 28) dX10_would_20 rfl ?_
      refine aw_aload_n dX10_would_28 rfl ?_
      refine aw_iconst (v := 2) dX10_would_29 rfl ?_
      refine aw_cV dX10_would_30 kX10_76 mX10_fail (sX10_fail hX) (Nat.le_of_ble_eq_true rfl) hX.k ⟨by decide, rfl⟩ hX.b rfl rfl (Nat.le_of_ble_eq_true rfl) ⟨Nat.le_refl _, Nat.le_refl _⟩ ?_
      refine aw_iret q rfl dX10_would_33 ⟨Nat.le_refl _, Nat.le_refl _⟩ ?_
      refine Cs.no ?_ (SpF.rf hFs)
      unfold aWould mOnes
      rw [h9x, h9y]
      rfl
    | true =>
      obtain ⟨h, hh, rfl⟩ := from_ix hN.h (by omega) h9y
      have e9h : (nI h).toNatClampNeg = h := nI_clamp (by omega)
      refine aw_aload_n dX10_would_0 rfl ?_
      refine aw_getR (b := 1) dX10_would_1 fX10_10 hX.k hX.b rfl hX.r0 ?_
      refine aw_iload_n dX10_would_4 rfl ?_
      refine aw_cV dX10_would_5 kX10_176 mX7_houseAt (sX7_houseAtN hS hC hO h9x) (Nat.le_of_ble_eq_true rfl) hS.k ⟨by decide, rfl⟩ hS.b0 rfl rfl (Nat.le_of_ble_eq_true rfl) ⟨Nat.le_refl _, Nat.le_refl _⟩ ?_
      refine aw_astore_nN dX10_would_8 (by decide) rfl ?_
      refine aw_aload_n dX10_would_9 rfl ?_
      refine aw_getR (b := 1) dX10_would_10 fX10_10 hX.k hX.b rfl hX.r0 ?_
      refine aw_iload_n dX10_would_13 rfl ?_
      refine aw_cV dX10_would_14 kX10_132 mX7_homeAt (sX7_homeAt hS hC hO rfl hh) (Nat.le_of_ble_eq_true rfl) hS.k ⟨by decide, rfl⟩ hS.b0 rfl rfl (Nat.le_of_ble_eq_true rfl) ⟨Nat.le_refl _, Nat.le_refl _⟩ ?_
      refine aw_astore dX10_would_17 (by decide) rfl ?_
      refine aw_aload_nN dX10_would_19 rfl ?_
      refine aw_ifnullN (tgt := 28) dX10_would_20 rfl ?_
      refine aw_aload_n dX10_would_28 rfl ?_
      refine aw_iconst (v := 2) dX10_would_29 rfl ?_
      refine aw_cV dX10_would_30 kX10_76 mX10_fail (sX10_fail hX) (Nat.le_of_ble_eq_true rfl) hX.k ⟨by decide, rfl⟩ hX.b rfl rfl (Nat.le_of_ble_eq_true rfl) ⟨Nat.le_refl _, Nat.le_refl _⟩ ?_
      refine aw_iret q rfl dX10_would_33 ⟨Nat.le_refl _, Nat.le_refl _⟩ ?_
      refine Cs.no ?_ (SpF.rf hFs)
      unfold aWould mOnes
      rw [h9x, h9y]
      rfl
  | true =>
    obtain ⟨p, hp, rfl⟩ := from_ix hN.p (by omega) h9x
    have e9p : (nI p).toNatClampNeg = p := nI_clamp (by omega)
    cases h9y : mFrom y 0 (N 230 - 1) with
    | false =>
      refine aw_aload_n dX10_would_0 rfl ?_
      refine aw_getR (b := 1) dX10_would_1 fX10_10 hX.k hX.b rfl hX.r0 ?_
      refine aw_iload_n dX10_would_4 rfl ?_
      refine aw_cV dX10_would_5 kX10_176 mX7_houseAt (sX7_houseAt hS hC hO rfl hp) (Nat.le_of_ble_eq_true rfl) hS.k ⟨by decide, rfl⟩ hS.b0 rfl rfl (Nat.le_of_ble_eq_true rfl) ⟨Nat.le_refl _, Nat.le_refl _⟩ ?_
      refine aw_astore_n dX10_would_8 (by decide) rfl ?_
      refine aw_aload_n dX10_would_9 rfl ?_
      refine aw_getR (b := 1) dX10_would_10 fX10_10 hX.k hX.b rfl hX.r0 ?_
      refine aw_iload_n dX10_would_13 rfl ?_
      refine aw_cV dX10_would_14 kX10_132 mX7_homeAt (sX7_homeAtN hS hC hO h9y) (Nat.le_of_ble_eq_true rfl) hS.k ⟨by decide, rfl⟩ hS.b0 rfl rfl (Nat.le_of_ble_eq_true rfl) ⟨Nat.le_refl _, Nat.le_refl _⟩ ?_
      refine aw_astoreN dX10_would_17 (by decide) rfl ?_
      refine aw_aload_n dX10_would_19 rfl ?_
      refine aw_ifnull dX10_would_20 ?_
      refine aw_aloadN dX10_would_23 rfl ?_
      refine aw_ifnonnullN dX10_would_25 ?_
      refine aw_aload_n dX10_would_28 rfl ?_
      refine aw_iconst (v := 2) dX10_would_29 rfl ?_
      refine aw_cV dX10_would_30 kX10_76 mX10_fail (sX10_fail hX) (Nat.le_of_ble_eq_true rfl) hX.k ⟨by decide, rfl⟩ hX.b rfl rfl (Nat.le_of_ble_eq_true rfl) ⟨Nat.le_refl _, Nat.le_refl _⟩ ?_
      refine aw_iret q rfl dX10_would_33 ⟨Nat.le_refl _, Nat.le_refl _⟩ ?_
      refine Cs.no ?_ (SpF.rf hFs)
      unfold aWould mOnes
      rw [h9x, h9y]
      rfl
    | true =>
      obtain ⟨h, hh, rfl⟩ := from_ix hN.h (by omega) h9y
      have e9h : (nI h).toNatClampNeg = h := nI_clamp (by omega)
      refine aw_aload_n dX10_would_0 rfl ?_
      refine aw_getR (b := 1) dX10_would_1 fX10_10 hX.k hX.b rfl hX.r0 ?_
      refine aw_iload_n dX10_would_4 rfl ?_
      refine aw_cV dX10_would_5 kX10_176 mX7_houseAt (sX7_houseAt hS hC hO rfl hp) (Nat.le_of_ble_eq_true rfl) hS.k ⟨by decide, rfl⟩ hS.b0 rfl rfl (Nat.le_of_ble_eq_true rfl) ⟨Nat.le_refl _, Nat.le_refl _⟩ ?_
      refine aw_astore_n dX10_would_8 (by decide) rfl ?_
      refine aw_aload_n dX10_would_9 rfl ?_
      refine aw_getR (b := 1) dX10_would_10 fX10_10 hX.k hX.b rfl hX.r0 ?_
      refine aw_iload_n dX10_would_13 rfl ?_
      refine aw_cV dX10_would_14 kX10_132 mX7_homeAt (sX7_homeAt hS hC hO rfl hh) (Nat.le_of_ble_eq_true rfl) hS.k ⟨by decide, rfl⟩ hS.b0 rfl rfl (Nat.le_of_ble_eq_true rfl) ⟨Nat.le_refl _, Nat.le_refl _⟩ ?_
      refine aw_astore dX10_would_17 (by decide) rfl ?_
      refine aw_aload_n dX10_would_19 rfl ?_
      refine aw_ifnull dX10_would_20 ?_
      refine aw_aload dX10_would_23 rfl ?_
      refine aw_ifnonnull (tgt := 34) dX10_would_25 rfl ?_
      refine aw_aload_n dX10_would_34 rfl ?_
      refine aw_cV dX10_would_35 kX10_236 mX3_isAble (sX3_isAble hS hC hN hp hB) (Nat.le_of_ble_eq_true rfl) (hS.po (by omega)) ⟨by decide, rfl⟩ (hS.pb (by omega)) rfl rfl (Nat.le_of_ble_eq_true rfl) ⟨Nat.le_refl _, Nat.le_refl _⟩ ?_
      refine aw_if_eq (tgt := 58) dX10_would_38 rfl (fun c38 => ?_) (fun c38 => ?_)
      · refine aw_aload_n dX10_would_58 rfl ?_
        refine aw_iconst (v := 5) dX10_would_59 rfl ?_
        refine aw_cV dX10_would_60 kX10_76 mX10_fail (sX10_fail hX) (Nat.le_of_ble_eq_true rfl) hX.k ⟨by decide, rfl⟩ hX.b rfl rfl (Nat.le_of_ble_eq_true rfl) ⟨Nat.le_refl _, Nat.le_refl _⟩ ?_
        refine aw_iret q rfl dX10_would_63 ⟨Nat.le_refl _, Nat.le_refl _⟩ ?_
        refine Cs.no ?_ (SpF.rf hFs)
        unfold aWould mOnes
        rw [h9x, h9y, e9p, e9h, bI0.mp c38]
        rfl
      · refine aw_aload dX10_would_41 rfl ?_
        refine aw_cV dX10_would_43 kX10_150 mX2_isFree (sX2_isFree hS hC hN hh) (Nat.le_of_ble_eq_true rfl) (hS.ho (by omega)) ⟨by decide, rfl⟩ (hS.hb (by omega)) rfl rfl (Nat.le_of_ble_eq_true rfl) ⟨Nat.le_refl _, Nat.le_refl _⟩ ?_
        refine aw_if_eq (tgt := 58) dX10_would_46 rfl (fun c46 => ?_) (fun c46 => ?_)
        · refine aw_aload_n dX10_would_58 rfl ?_
          refine aw_iconst (v := 5) dX10_would_59 rfl ?_
          refine aw_cV dX10_would_60 kX10_76 mX10_fail (sX10_fail hX) (Nat.le_of_ble_eq_true rfl) hX.k ⟨by decide, rfl⟩ hX.b rfl rfl (Nat.le_of_ble_eq_true rfl) ⟨Nat.le_refl _, Nat.le_refl _⟩ ?_
          refine aw_iret q rfl dX10_would_63 ⟨Nat.le_refl _, Nat.le_refl _⟩ ?_
          refine Cs.no ?_ (SpF.rf hFs)
          unfold aWould mOnes
          rw [h9x, h9y, e9p, e9h, bI0.mp c46, Bool.and_false]
          rfl
        · refine aw_aload_n dX10_would_49 rfl ?_
          refine aw_aload dX10_would_50 rfl ?_
          refine aw_cV dX10_would_52 kX10_239 mX3_suits (sX3_suits hS hC hN hp hh hR) (Nat.le_of_ble_eq_true rfl) (hS.po (by omega)) ⟨by decide, rfl⟩ (hS.pb (by omega)) rfl rfl (Nat.le_of_ble_eq_true rfl) ⟨Nat.le_refl _, Nat.le_refl _⟩ ?_
          refine aw_if_ne (tgt := 64) dX10_would_55 rfl (fun c55 => ?_) (fun c55 => ?_)
          · refine aw_aload_n dX10_would_64 rfl ?_
            refine aw_getR (b := 35) dX10_would_65 fX10_16 hX.k hX.b rfl hX.r1 ?_
            refine aw_aload_n dX10_would_68 rfl ?_
            refine aw_getR (b := 1) dX10_would_69 fX10_10 hX.k hX.b rfl hX.r0 ?_
            refine aw_pV dX10_would_72 kX10_84 mX7_copy (sX7_copy hX.spr hX.now (Or.inr (by decide)) hFs hC hN) (Nat.le_of_ble_eq_true rfl) hX.spr.k ⟨by decide, rfl⟩ hX.spr.b0 rfl rfl (Nat.le_of_ble_eq_true rfl) ⟨Nat.le_refl _, Nat.le_refl _⟩ (fun J1 M1 hF1 hG1 hJ1 => ?_)
            
            refine aw_aload_n dX10_would_75 rfl ?_
            refine aw_getR (b := 35) dX10_would_76 fX10_16 hX.k hX.b rfl hX.r1 ?_
            refine aw_iload_n dX10_would_79 rfl ?_
            refine aw_aload dX10_would_80 rfl ?_
            refine aw_mV dX10_would_82 kX10_277 mX7_bidAlone (sX7_bidAlone hX.spr hJ1 hO (c := 1) (h := h) hX.now (hC.1.fr (fun a ha => hF1 _ (by omega))) (by omega) rfl hp) (Nat.le_of_ble_eq_true rfl) hX.spr.k ⟨by decide, rfl⟩ hX.spr.b0 rfl rfl (Nat.le_of_ble_eq_true rfl) ⟨Nat.le_refl _, Nat.le_refl _⟩ (fun J2 hF2 hJ2 => ?_)
            have iW : Iv (wouldN N p h) := hIv.bids (by omega) (a := 2 ^ h) (shl_bit h (by omega)) (p2_10 (by omega))
            refine aw_aload_n dX10_would_85 rfl ?_
            refine aw_getR (b := 35) dX10_would_86 fX10_16 hX.k hX.b rfl hX.r1 ?_
            refine aw_mV dX10_would_89 kX10_281 mX7_endWeek (sX7_endWeek hX.spr hJ2 iW) (Nat.le_of_ble_eq_true rfl) hX.spr.k ⟨by decide, rfl⟩ hX.spr.b0 rfl rfl (Nat.le_of_ble_eq_true rfl) ⟨Nat.le_refl _, Nat.le_refl _⟩ (fun J3 hF3 hJ3 => ?_)
            have cW := (week_Wk iW.1 iW.2.1).1
            have hsp : SpF I L J3 M1 := ⟨(hF1.tr hF2).tr hF3, hG1, hJ3.1⟩
            have eHW : nHo (wouldN N p h) = nHo N := by unfold nHo wouldN mPuts; rw [upd_ne (by omega)]
            have ePW : nPo (wouldN N p h) = nPo N := by unfold nPo wouldN mPuts; rw [upd_ne (by omega)]
            have huo := week_UO iW (p := p) (h := h) (by omega) (fun i hi hne => wouldN_b (by omega) i (by omega) hne)
            refine aw_pop dX10_would_92 rfl ?_
            refine aw_aload_n dX10_would_93 rfl ?_
            refine aw_getR (b := 35) dX10_would_94 fX10_16 hX.k hX.b rfl hX.r1 ?_
            refine aw_getR (b := 35 + 32) dX10_would_97 fX10_129 hX.spr.k hX.spr.b0 rfl hX.spr.r4 ?_
            refine aw_iconst (v := 0) dX10_would_100 rfl ?_
            refine aw_iload_n dX10_would_101 rfl ?_
            refine aw_cV dX10_would_102 kX10_271 mX8_find (sX8_find (hJ3.tbO hX.spr cW) (k := 0) rfl (by decide)) (Nat.le_of_ble_eq_true rfl) hX.spr.ok ⟨by decide, rfl⟩ (hX.spr.lt (k := 32) (by decide)) rfl rfl (Nat.le_of_ble_eq_true rfl) ⟨Nat.le_refl _, Nat.le_refl _⟩ ?_
            refine AW.top (y := iFirst (fun r => decide (mWeek (wouldN N p h) (300 + 3 * r) = nI p)) (nOf (mWeek (wouldN N p h)))) (iFirst_cong (fun r hr => by rw [show J3 (35 + 32 + 1) (3 * r + 0) = mWeek (wouldN N p h) (300 + 3 * r) from hJ3.of (w := 0) hr (by decide)])) ?_
            by_cases hq : fa_first (fun r => decide (mWeek (wouldN N p h) (300 + 3 * r) = nI p)) (nOf (mWeek (wouldN N p h))) < nOf (mWeek (wouldN N p h))
            · have hyk := of_decide_eq_true (fa_first_yes (fun r => decide (mWeek (wouldN N p h) (300 + 3 * r) = nI p)) (nOf (mWeek (wouldN N p h))) hq)
              rw [show iFirst (fun r => decide (mWeek (wouldN N p h) (300 + 3 * r) = nI p)) (nOf (mWeek (wouldN N p h))) = nI (fa_first (fun r => decide (mWeek (wouldN N p h) (300 + 3 * r) = nI p)) (nOf (mWeek (wouldN N p h)))) from if_pos hq]
              refine aw_istore dX10_would_105 (by decide) rfl ?_
              refine aw_iload dX10_would_107 rfl ?_
              refine aw_iconst (v := (-1)) dX10_would_109 rfl ?_
              refine aw_icmp_ne (tgt := 119) dX10_would_110 rfl (fun c110 => ?_) (fun c110 => ?_)
              · skip
                refine aw_aload_n dX10_would_119 rfl ?_
                refine aw_aload_n dX10_would_120 rfl ?_
                refine aw_getR (b := 35) dX10_would_121 fX10_16 hX.k hX.b rfl hX.r1 ?_
                refine aw_getR (b := 35 + 32) dX10_would_124 fX10_129 hX.spr.k hX.spr.b0 rfl hX.spr.r4 ?_
                refine aw_iload dX10_would_127 rfl ?_
                refine aw_iconst (v := 2) dX10_would_129 rfl ?_
                refine aw_cV dX10_would_130 kX10_252 mX8_at (sX8_at (hJ3.tbO hX.spr cW) (r := fa_first (fun r => decide (mWeek (wouldN N p h) (300 + 3 * r) = nI p)) (nOf (mWeek (wouldN N p h)))) (k := 2) rfl hq rfl (by decide)) (Nat.le_of_ble_eq_true rfl) hX.spr.ok ⟨by decide, rfl⟩ (hX.spr.lt (k := 32) (by decide)) rfl rfl (Nat.le_of_ble_eq_true rfl) ⟨Nat.le_refl _, Nat.le_refl _⟩ ?_
                refine AW.top (hJ3.of hq (by decide)) ?_
                refine aw_iconst (v := 1) dX10_would_133 rfl ?_
                refine aw_icmp_ne (tgt := 141) dX10_would_134 rfl (fun c134 => ?_) (fun c134 => ?_)
                · refine aw_iconst (v := 2) dX10_would_141 rfl ?_
                  refine aw_cV dX10_would_142 kX10_94 mX10_answer (sX10_answer hX) (Nat.le_of_ble_eq_true rfl) hX.k ⟨by decide, rfl⟩ hX.b rfl rfl (Nat.le_of_ble_eq_true rfl) ⟨Nat.le_refl _, Nat.le_refl _⟩ ?_
                  refine aw_iret q rfl dX10_would_145 ⟨Nat.le_refl _, Nat.le_refl _⟩ ?_
                  refine Cs.ok ?_ hsp
                  unfold aWould mOnes
                  rw [h9x, h9y, e9p, e9h, bI1.mp c38, bI1.mp c46, bI1.mp c55]
                  show ok (wouldV _ _ _) = ok _
                  rw [wouldV_at hyk _ hq (fun a ha ea => huo a _ ha hq ea hyk), if_neg c134]
                · refine aw_iconst (v := 1) dX10_would_137 rfl ?_
                  refine aw_goto (tgt := 142) dX10_would_138 rfl ?_
                  refine aw_cV dX10_would_142 kX10_94 mX10_answer (sX10_answer hX) (Nat.le_of_ble_eq_true rfl) hX.k ⟨by decide, rfl⟩ hX.b rfl rfl (Nat.le_of_ble_eq_true rfl) ⟨Nat.le_refl _, Nat.le_refl _⟩ ?_
                  refine aw_iret q rfl dX10_would_145 ⟨Nat.le_refl _, Nat.le_refl _⟩ ?_
                  refine Cs.ok ?_ hsp
                  unfold aWould mOnes
                  rw [h9x, h9y, e9p, e9h, bI1.mp c38, bI1.mp c46, bI1.mp c55]
                  show ok (wouldV _ _ _) = ok _
                  rw [wouldV_at hyk _ hq (fun a ha ea => huo a _ ha hq ea hyk), if_pos c134]
              · exact absurd c110 (nI_ne_m1 (by have := cW.o30; omega))
            · rw [show iFirst (fun r => decide (mWeek (wouldN N p h) (300 + 3 * r) = nI p)) (nOf (mWeek (wouldN N p h))) = -1 from if_neg hq]
              refine aw_istore dX10_would_105 (by decide) rfl ?_
              refine aw_iload dX10_would_107 rfl ?_
              refine aw_iconst (v := (-1)) dX10_would_109 rfl ?_
              refine aw_icmp_ne (tgt := 119) dX10_would_110 rfl (fun c110 => ?_) (fun c110 => ?_)
              · exact absurd rfl c110
              · skip
                refine aw_aload_n dX10_would_113 rfl ?_
                refine aw_iconst (v := 0) dX10_would_114 rfl ?_
                refine aw_cV dX10_would_115 kX10_94 mX10_answer (sX10_answer hX) (Nat.le_of_ble_eq_true rfl) hX.k ⟨by decide, rfl⟩ hX.b rfl rfl (Nat.le_of_ble_eq_true rfl) ⟨Nat.le_refl _, Nat.le_refl _⟩ ?_
                refine aw_iret q rfl dX10_would_118 ⟨Nat.le_refl _, Nat.le_refl _⟩ ?_
                refine Cs.ok ?_ hsp
                unfold aWould mOnes
                rw [h9x, h9y, e9p, e9h, bI1.mp c38, bI1.mp c46, bI1.mp c55]
                show ok (wouldV _ _ _) = ok _
                rw [wouldV_no _ (fun a ha ea => hq (ff_lt ha (decide_eq_true ea)))]
          · refine aw_aload_n dX10_would_58 rfl ?_
            refine aw_iconst (v := 5) dX10_would_59 rfl ?_
            refine aw_cV dX10_would_60 kX10_76 mX10_fail (sX10_fail hX) (Nat.le_of_ble_eq_true rfl) hX.k ⟨by decide, rfl⟩ hX.b rfl rfl (Nat.le_of_ble_eq_true rfl) ⟨Nat.le_refl _, Nat.le_refl _⟩ ?_
            refine aw_iret q rfl dX10_would_63 ⟨Nat.le_refl _, Nat.le_refl _⟩ ?_
            refine Cs.no ?_ (SpF.rf hFs)
            unfold aWould mOnes
            rw [h9x, h9y, e9p, e9h, bI0.mp c55, Bool.and_false]
            rfl
def LaP (v : Int32) (z n : Nat) (sh : Shp) (I : MI) (L : ML) : PoT := fun r z' n' sh' J M => r = some (.int v) ∧ z' = z ∧ n' = n ∧ sh' = sh ∧ SpF I L J M
theorem aw_laV {X : Cx} {g : Gd} {cc : ByteArray} {nL : Nat} {Bd : Nat × Nat × Nat} {E : En} {I : MI} {L : ML} {pc : Nat} {Lc : List (Option Value)} {st : List Value} {own : String} {idx ci b : Nat} {v : Int32} {y : MethodName} {cc2 : ByteArray} {nL2 : Nat} {ret2 : Option FieldType} {np d : Nat} {As : List Value} {st0 : List Value} (dg : decode cc pc = .ok (.invokevirtual idx, 3)) (hl : Cond.methodLink own idx y ∈ tblG) (hm : mV y cc2 nL2 ret2 np) (hM : CM y cc2 nL2 ret2 d 0 0 (.ref b :: As) E.1 E.2.1 E.2.2.1 I L (LaP v E.1 E.2.1 E.2.2.1 I L))
    (hd : d + 1 ≤ Bd.1) (hk : (E.2.2.1 b).1 = ci) (hci : ci < 12 ∧ clR ci = y.cls) (hb : b < E.2.1) (hst : st0 = As.reverse ++ .ref b :: st) (hn : As.length = np) (hw : (st.map fun v => v.category).sum ≤ 8) (hf : E.2.2.2.1 ≤ Bd.2.1 ∧ E.2.2.2.2 ≤ Bd.2.2)
    (k : ∀ J P, SpF I L J P → AW X g own cc nL Bd E J P (pc + 3) Lc (.int v :: st)) : AW X g own cc nL Bd E I L pc Lc st0 :=
  aw_callV dg hl hm hM hd hk hci hb hst hn hw hf (fun v z n sh I3 L3 q => by
    obtain ⟨h1, h2, h3, h4, h5⟩ := q
    subst h1 h2 h3 h4
    exact k _ _ h5)
set_option maxHeartbeats 4000000 in
set_option maxRecDepth 100000 in
theorem sX10_letsAhead (hX : IsX n sh) (hC : CtS I L 1 N Q) (hIv : Iv N) (hFs : FxS I 35) {x y v : Int32} {u r : Nat} (hx : x = nI u) (hu : u < 31) (hy : y = nI r) (hr : r < 6) (iR : Iv (upd N (224 + r) v))  : CM yX10_letsAhead cX10_letsAhead 4 (Option.some .int) 7 0 0 [.ref 0, .int x, .int y, .int v] z n sh I L (LaP (itr cStep u (upd N (224 + r) v) 233 - N 233) z n sh I L) := by
  refine CM.go [some (.ref 0), some (.int x), some (.int y), some (.int v)] rfl rfl (Nat.le_of_ble_eq_true rfl) (fun X g q => ?_)
  have hO := hIv.ok
  have hN := hO.1
  have hR := hO.2.1
  have hB := hO.2.2.1
  have hE := hO.2.2.2
  have h8 := hN.p8
  have h10 := hN.h10
  have hS := hX.now
  subst hx
  subst hy
  refine aw_aload_n dX10_letsAhead_0 rfl ?_
  refine aw_getR (b := 35) dX10_letsAhead_1 fX10_16 hX.k hX.b rfl hX.r1 ?_
  refine aw_aload_n dX10_letsAhead_4 rfl ?_
  refine aw_getR (b := 1) dX10_letsAhead_5 fX10_10 hX.k hX.b rfl hX.r0 ?_
  refine aw_pV dX10_letsAhead_8 kX10_84 mX7_copy (sX7_copy hX.spr hX.now (Or.inr (by decide)) hFs hC hN) (Nat.le_of_ble_eq_true rfl) hX.spr.k ⟨by decide, rfl⟩ hX.spr.b0 rfl rfl (Nat.le_of_ble_eq_true rfl) ⟨Nat.le_refl _, Nat.le_refl _⟩ (fun J1 M1 hF1 hG1 hJ1 => ?_)
  
  refine aw_aload_n dX10_letsAhead_11 rfl ?_
  refine aw_getR (b := 35) dX10_letsAhead_12 fX10_16 hX.k hX.b rfl hX.r1 ?_
  refine aw_iload_n dX10_letsAhead_15 rfl ?_
  refine aw_iload_n dX10_letsAhead_16 rfl ?_
  refine aw_mV dX10_letsAhead_17 kX10_387 mX7_setRule (sX7_setRule hX.spr hJ1 hO (r := r) rfl hr) (Nat.le_of_ble_eq_true rfl) hX.spr.k ⟨by decide, rfl⟩ hX.spr.b0 rfl rfl (Nat.le_of_ble_eq_true rfl) ⟨Nat.le_refl _, Nat.le_refl _⟩ (fun J2 hF2 hJ2 => ?_)
  
  refine aw_aload_n dX10_letsAhead_20 rfl ?_
  refine aw_getR (b := 35) dX10_letsAhead_21 fX10_16 hX.k hX.b rfl hX.r1 ?_
  refine aw_iload_n dX10_letsAhead_24 rfl ?_
  refine aw_mV dX10_letsAhead_25 kX10_268 mX7_runAhead (sX7_runAhead hX.spr hJ2 iR (kk := u) rfl (by omega)) (Nat.le_of_ble_eq_true rfl) hX.spr.k ⟨by decide, rfl⟩ hX.spr.b0 rfl rfl (Nat.le_of_ble_eq_true rfl) ⟨Nat.le_refl _, Nat.le_refl _⟩ (fun J3 hF3 hJ3 => ?_)
  have hCn : CtS J3 M1 1 N Q := hC.fr hN (fun a ha => (hF3 _ (by omega)).trans ((hF2 _ (by omega)).trans (hF1 _ (by omega)))) (fun a ha => hG1 _ (by omega))
  refine aw_aload_n dX10_letsAhead_28 rfl ?_
  refine aw_getR (b := 35) dX10_letsAhead_29 fX10_16 hX.k hX.b rfl hX.r1 ?_
  refine aw_getR (b := 35 + 30) dX10_letsAhead_32 fX10_109 hX.spr.k hX.spr.b0 rfl hX.spr.r3 ?_
  refine aw_getI dX10_letsAhead_35 fX10_113 hX.spr.tk (hX.spr.lt (k := 30) (by decide)) rfl ?_
  refine AW.top hJ3.nl ?_
  refine aw_aload_n dX10_letsAhead_38 rfl ?_
  refine aw_getR (b := 1) dX10_letsAhead_39 fX10_10 hX.k hX.b rfl hX.r0 ?_
  refine aw_getR (b := 1 + 30) dX10_letsAhead_42 fX10_109 hS.k hS.b0 rfl hS.r3 ?_
  refine aw_getI dX10_letsAhead_45 fX10_113 hS.tk (hS.lt (k := 30) (by decide)) rfl ?_
  refine AW.top hCn.nl ?_
  refine aw_isub dX10_letsAhead_48 ?_
  refine aw_iret q rfl dX10_letsAhead_49 ⟨Nat.le_refl _, Nat.le_refl _⟩ ?_
  exact ⟨rfl, rfl, rfl, rfl, (hF1.tr hF2).tr hF3, hG1, hJ3.1⟩
def cLv (N : Nat → Int32) (u : Nat) : Nat → Int32 × Int32 × Int32
  | 0 => (-1, -1, -1)
  | k + 1 => if levO N k && decide ((cLv N u k).1 < levA N u k) then (levA N u k, nI (k / 2), levW N k) else cLv N u k
theorem lev_Iv {N : Nat → Int32} (iv : Iv N) {k : Nat} (hk : k < 12) (h : levO N k = true) : Iv (levN N k) := by
  unfold levO mFrom at h
  obtain ⟨h1, h2⟩ := andT h
  exact rule_Iv iv (by omega) ⟨of_decide_eq_true h1, of_decide_eq_true h2⟩
theorem lev_A {N : Nat → Int32} (iv : Iv N) {u k : Nat} (hk : k < 12) (h : levO N k = true) : levA N u k = itr cStep u (levN N k) 233 - N 233 ∧ ∃ d, d ≤ 8 ∧ levA N u k = nI d := by
  have i1 := lev_Iv iv hk h
  obtain ⟨i2, -, -⟩ := cRun_Iv i1 u
  have e := cRun_rd i1 u (j := 233) (fun q hq => by omega)
  have eL : nLe (levN N k) = nLe N := by unfold nLe levN; rw [upd_ne (by omega)]
  have hle := run_nLe i1 u
  have h8 := i2.1.l8
  have e1 : levA N u k = itr cStep u (levN N k) 233 - N 233 := by unfold levA; rw [e]
  refine ⟨e1, nLe (itr cStep u (levN N k)) - nLe N, by omega, ?_⟩
  rw [e1, i2.1.l, iv.1.l]
  exact pk_sub (by omega)
theorem lev_eq {N : Nat → Int32} (iv : Iv N) {u : Nat} : ∀ k, k ≤ 12 → (cLv N u k).1 = (levL N u k).1 ∧ (¬ (levL N u k).1 = -1 → cLv N u k = levL N u k) ∧ ((levL N u k).1 = -1 ∨ ∃ d, d ≤ 8 ∧ (levL N u k).1 = nI d)
  | 0, _ => ⟨rfl, fun q => absurd rfl q, Or.inl rfl⟩
  | k + 1, hk => by
    obtain ⟨a1, a2, a3⟩ := lev_eq iv (u := u) k (by omega)
    rw [cLv, levL, a1]
    split
    · rename_i hc
      obtain ⟨-, d, hd, ed⟩ := lev_A iv (u := u) (k := k) (by omega) (andT hc).1
      exact ⟨rfl, fun _ => rfl, Or.inr ⟨d, hd, ed⟩⟩
    · exact ⟨a1, a2, a3⟩
theorem lev_some {N : Nat → Int32} (iv : Iv N) {u : Nat} : ∀ k, 2 ≤ k → k ≤ 12 → ¬ (levL N u k).1 = -1
  | 0, h, _ => absurd h (by decide)
  | 1, h, _ => absurd h (by decide)
  | k + 2, _, hk => by
    obtain ⟨-, -, a3⟩ := lev_eq iv (u := u) (k + 2) hk
    by_cases e : k = 0
    · subst e
      obtain ⟨v, ev, v1, v9⟩ : ∃ v, N 224 = nI v ∧ 1 ≤ v ∧ v ≤ 9 := by
        have q := iv.2.2.1.2.2.2 0 (by decide)
        obtain ⟨k, k1, k2, k3⟩ := rng (x := 1) (y := 9) (v := N (224 + 0)) (by decide) q.1 q.2 (by decide)
        exact ⟨k, k1, k2, k3⟩
      have hor : levO N 0 = true ∨ levO N 1 = true := by
        unfold levO levW
        rw [show N (224 + 0 / 2) = nI v from ev]
        have : ∀ v, v < 10 → 1 ≤ v → mFrom (nI v + (if 0 % 2 = 0 then -1 else 1)) (rLeast (0 / 2)) (rMost (0 / 2)) = true ∨ mFrom (nI v + (if 1 % 2 = 0 then -1 else 1)) (rLeast (1 / 2)) (rMost (1 / 2)) = true := by decide +kernel
        exact this v (by omega) v1
      have m1 : ∀ d, d ≤ 8 → (-1 : Int32) < nI d := by decide +kernel
      rcases hor with h0 | h1
      · obtain ⟨-, d, hd, ed⟩ := lev_A iv (u := u) (k := 0) (by decide) h0
        have e1 : levL N u 1 = (levA N u 0, nI (0 / 2), levW N 0) := by
          rw [levL, h0, if_pos]
          rw [Bool.true_and, show (levL N u 0).1 = -1 from rfl, ed]
          exact decide_eq_true (m1 d hd)
        rw [levL]
        split
        · rename_i hc
          obtain ⟨-, d2, hd2, ed2⟩ := lev_A iv (u := u) (k := 1) (by decide) (andT hc).1
          show ¬ levA N u 1 = -1
          rw [ed2]
          exact nI_ne_m1 (by omega)
        · rw [e1]
          show ¬ levA N u 0 = -1
          rw [ed]
          exact nI_ne_m1 (by omega)
      · obtain ⟨-, d, hd, ed⟩ := lev_A iv (u := u) (k := 1) (by decide) h1
        rw [levL]
        split
        · show ¬ levA N u 1 = -1
          rw [ed]
          exact nI_ne_m1 (by omega)
        · rename_i hc
          intro q
          apply hc
          rw [h1, q, ed, Bool.true_and]
          exact decide_eq_true (m1 d hd)
    · have ih := lev_some iv (u := u) (k + 1) (by omega) (by omega)
      rw [levL]
      split
      · rename_i hc
        obtain ⟨-, d2, hd2, ed2⟩ := lev_A iv (u := u) (k := k + 1) (by omega) (andT hc).1
        show ¬ levA N u (k + 1) = -1
        rw [ed2]
        exact nI_ne_m1 (by omega)
      · exact ih
def levS (k : Nat) : Int32 := if k % 2 = 0 then -1 else 1
theorem neg_le {N : Nat → Int32} (iv : Iv N) {u : Nat} (k : Nat) (hk : k ≤ 12) : (-1 : Int32) ≤ (cLv N u k).1 := by
  obtain ⟨a1, -, a3⟩ := lev_eq iv (u := u) k hk
  rw [a1]
  rcases a3 with e | ⟨d, hd, e⟩
  · rw [e]; decide
  · rw [e]
    have : ∀ d, d ≤ 8 → (-1 : Int32) ≤ nI d := by decide +kernel
    exact this d hd
set_option maxHeartbeats 4000000 in
set_option maxRecDepth 100000 in
theorem sX10_lever (hX : IsX n sh) (hC : CtS I L 1 N Q) (hIv : Iv N) (hFs : FxS I 35) {x w : Int32} : CM yX10_lever cX10_lever 10 (Option.some .int) 8 0 0 [.ref 0, .int x, .int w] z n sh I L (Cs (aLever N x w) z n sh I L) := by
  refine CM.go [some (.ref 0), some (.int x), some (.int w), none, none, none, none, none, none, none] rfl rfl (Nat.le_of_ble_eq_true rfl) (fun X g q => ?_)
  have hO := hIv.ok
  have hN := hO.1
  have hR := hO.2.1
  have hB := hO.2.2.1
  have hE := hO.2.2.2
  have h8 := hN.p8
  have h10 := hN.h10
  have hS := hX.now
  have tail : ∀ (u : Nat), u < 31 → (mFrom (nI u) 1 30 && mFrom w 0 2) = true → x = nI u → ∀ (J : MI) (M : ML) a7 a8 a9, SpF I L J M → AW X g RX10 cX10_lever 10 (8, 0, 0) (z, n, sh, 0, 0) (J) (M) 121 [some (.ref 0), some (.int (nI u)), some (.int w), some (.int (cLv N u 12).1), some (.int (cLv N u 12).2.1), some (.int (cLv N u 12).2.2), some (.int (nI 6)), a7, a8, a9] [] := by
    intro u hu hw2 hx J M a7 a8 a9 hsp
    have e9 := (lev_eq hIv (u := u) 12 (Nat.le_refl _)).2.1 (lev_some hIv 12 (by decide) (Nat.le_refl _))
    subst hx
    refine aw_iload_n dX10_lever_121 rfl ?_
    refine aw_if_ne (tgt := 131) dX10_lever_122 rfl (fun c122 => ?_) (fun c122 => ?_)
    · refine aw_aload_n dX10_lever_131 rfl ?_
      refine aw_iload_n dX10_lever_132 rfl ?_
      refine aw_iconst (v := 1) dX10_lever_133 rfl ?_
      refine aw_icmp_ne (tgt := 142) dX10_lever_134 rfl (fun c134 => ?_) (fun c134 => ?_)
      · refine aw_iload dX10_lever_142 rfl ?_
        refine aw_cV dX10_lever_144 kX10_94 mX10_answer (sX10_answer hX) (Nat.le_of_ble_eq_true rfl) hX.k ⟨by decide, rfl⟩ hX.b rfl rfl (Nat.le_of_ble_eq_true rfl) ⟨Nat.le_refl _, Nat.le_refl _⟩ ?_
        refine aw_iret q rfl dX10_lever_147 ⟨Nat.le_refl _, Nat.le_refl _⟩ ?_
        refine Cs.ok ?_ hsp
        unfold aLever
        rw [hw2, nI_clamp (by omega)]
        show ok _ = ok _
        rw [if_neg c122, if_neg c134, e9]
      · refine aw_iload dX10_lever_137 rfl ?_
        refine aw_goto (tgt := 144) dX10_lever_139 rfl ?_
        refine aw_cV dX10_lever_144 kX10_94 mX10_answer (sX10_answer hX) (Nat.le_of_ble_eq_true rfl) hX.k ⟨by decide, rfl⟩ hX.b rfl rfl (Nat.le_of_ble_eq_true rfl) ⟨Nat.le_refl _, Nat.le_refl _⟩ ?_
        refine aw_iret q rfl dX10_lever_147 ⟨Nat.le_refl _, Nat.le_refl _⟩ ?_
        refine Cs.ok ?_ hsp
        unfold aLever
        rw [hw2, nI_clamp (by omega)]
        show ok _ = ok _
        rw [if_neg c122, if_pos c134, e9]
    · refine aw_aload_n dX10_lever_125 rfl ?_
      refine aw_iload_n dX10_lever_126 rfl ?_
      refine aw_cV dX10_lever_127 kX10_94 mX10_answer (sX10_answer hX) (Nat.le_of_ble_eq_true rfl) hX.k ⟨by decide, rfl⟩ hX.b rfl rfl (Nat.le_of_ble_eq_true rfl) ⟨Nat.le_refl _, Nat.le_refl _⟩ ?_
      refine aw_iret q rfl dX10_lever_130 ⟨Nat.le_refl _, Nat.le_refl _⟩ ?_
      refine Cs.ok ?_ hsp
      unfold aLever
      rw [hw2, nI_clamp (by omega)]
      show ok _ = ok _
      rw [if_pos c122, e9]
  have loop : ∀ (u : Nat), u < 31 → (mFrom (nI u) 1 30 && mFrom w 0 2) = true → x = nI u → ∀ k, k ≤ 11 → ∀ (J : MI) (M : ML) a8 a9, SpF I L J M → AW X g RX10 cX10_lever 10 (8, 0, 0) (z, n, sh, 0, 0) (J) (M) 47 [some (.ref 0), some (.int (nI u)), some (.int w), some (.int (cLv N u k).1), some (.int (cLv N u k).2.1), some (.int (cLv N u k).2.2), some (.int (nI (k / 2))), some (.int (levS k)), a8, a9] [] := by
    intro u hu hw2 hx
    refine up_loop (fun k hi ih J M a8 a9 hsp => ?_)
    have hC2 : CtS J M 1 N Q := hC.fr hN (fun a ha => hsp.1 _ (by omega)) (fun a ha => hsp.2.1 _ (by omega))
    have hr : k / 2 < 6 := by omega
    have eW : N (224 + k / 2) + levS k = levW N k := rfl
    have eO : (mFrom (nI (k / 2)) 0 5 && mFrom (levW N k) (rLeast (nI (k / 2)).toNatClampNeg) (rMost (nI (k / 2)).toNatClampNeg)) = levO N k := by
      rw [nI_clamp (by omega), show mFrom (nI (k / 2)) 0 5 = true from from_of (y := nI 6) rfl (by decide) hr, Bool.true_and]
      rfl
    by_cases hpar : k % 2 = 0
    · refine aw_iload dX10_lever_47 rfl ?_
      refine aw_iconst (v := 1) dX10_lever_49 rfl ?_
      refine aw_icmp_gt (tgt := 115) dX10_lever_50 rfl (fun c50 => ?_) (fun c50 => ?_)
      · exact absurd c50 (by unfold levS; rw [if_pos hpar]; decide)
      · skip
        refine aw_aload_n dX10_lever_53 rfl ?_
        refine aw_getR (b := 1) dX10_lever_54 fX10_10 hX.k hX.b rfl hX.r0 ?_
        refine aw_iload dX10_lever_57 rfl ?_
        refine aw_cV dX10_lever_59 kX10_218 mX7_ruleAt (sX7_ruleAt hS hC2 hO rfl hr) (Nat.le_of_ble_eq_true rfl) hS.k ⟨by decide, rfl⟩ hS.b0 rfl rfl (Nat.le_of_ble_eq_true rfl) ⟨Nat.le_refl _, Nat.le_refl _⟩ ?_
        refine aw_iload dX10_lever_62 rfl ?_
        refine aw_iadd dX10_lever_64 ?_
        refine AW.top eW ?_
        refine aw_istore dX10_lever_65 (by decide) rfl ?_
        refine aw_iload dX10_lever_67 rfl ?_
        refine aw_iload dX10_lever_69 rfl ?_
        refine aw_cS dX10_lever_71 kX10_314 mX10_canBeTold (sX10_canBeTold) (Nat.le_of_ble_eq_true rfl) rfl rfl (Nat.le_of_ble_eq_true rfl) ⟨Nat.le_refl _, Nat.le_refl _⟩ ?_
        rw [eO]
        refine aw_if_eq (tgt := 89) dX10_lever_74 rfl (fun c74 => ?_) (fun c74 => ?_)
        · refine aw_iconst (v := (-1)) dX10_lever_89 rfl ?_
          refine aw_istore dX10_lever_90 (by decide) rfl ?_
          refine aw_iload dX10_lever_92 rfl ?_
          refine aw_iload_n dX10_lever_94 rfl ?_
          refine aw_icmp_le (tgt := 109) dX10_lever_95 rfl (fun c95 => ?_) (fun c95 => ?_)
          · skip
            refine aw_iinc dX10_lever_109 rfl (show levS k + Int32.ofInt 2 = 1 from by unfold levS; rw [if_pos hpar]; decide) (by decide) rfl ?_
            refine aw_goto (tgt := 47) dX10_lever_112 rfl ?_
            have e9 : cLv N u (k + 1) = cLv N u k := by
              rw [cLv, bI0.mp c74]
              rfl
            have hlt : k < 11 := by omega
            have := ih hlt J M
            rw [e9, show (k + 1) / 2 = k / 2 by omega, show levS (k + 1) = 1 from by unfold levS; rw [if_neg (by omega)]] at this
            exact this _ _ hsp
          · exact absurd (neg_le hIv (u := u) k (by omega)) c95
        · refine aw_aload_n dX10_lever_77 rfl ?_
          refine aw_iload_n dX10_lever_78 rfl ?_
          refine aw_iload dX10_lever_79 rfl ?_
          refine aw_iload dX10_lever_81 rfl ?_
          have hlo := bI1.mp c74
          have iR := lev_Iv hIv (show k < 12 by omega) hlo
          refine aw_laV dX10_lever_83 kX10_318 mX10_letsAhead (v := levA N u k) (show CM yX10_letsAhead cX10_letsAhead 4 (Option.some .int) 7 0 0 [.ref 0, .int (nI u), .int (nI (k / 2)), .int (levW N k)] z n sh J M (LaP (levA N u k) z n sh J M) from by rw [(lev_A hIv (show k < 12 by omega) hlo).1]; exact sX10_letsAhead hX hC2 hIv hsp.2.2 rfl hu rfl hr iR) (Nat.le_of_ble_eq_true rfl) hX.k ⟨by decide, rfl⟩ hX.b rfl rfl (Nat.le_of_ble_eq_true rfl) ⟨Nat.le_refl _, Nat.le_refl _⟩ (fun J1 M1 hsq => ?_)
          have hsp : SpF I L J1 M1 := ⟨hsp.1.tr hsq.1, fun a ha => (hsq.2.1 a ha).trans (hsp.2.1 a ha), hsq.2.2⟩
          refine aw_goto (tgt := 90) dX10_lever_86 rfl ?_
          refine aw_istore dX10_lever_90 (by decide) rfl ?_
          refine aw_iload dX10_lever_92 rfl ?_
          refine aw_iload_n dX10_lever_94 rfl ?_
          refine aw_icmp_le (tgt := 109) dX10_lever_95 rfl (fun c95 => ?_) (fun c95 => ?_)
          · refine aw_iinc dX10_lever_109 rfl (show levS k + Int32.ofInt 2 = 1 from by unfold levS; rw [if_pos hpar]; decide) (by decide) rfl ?_
            refine aw_goto (tgt := 47) dX10_lever_112 rfl ?_
            have e9 : cLv N u (k + 1) = cLv N u k := by
              rw [cLv, if_neg]
              intro z
              exact absurd (of_decide_eq_true (andT z).2) (Int32.not_lt.mpr c95)
            have hlt : k < 11 := by omega
            have := ih hlt J1 M1
            rw [e9, show (k + 1) / 2 = k / 2 by omega, show levS (k + 1) = 1 from by unfold levS; rw [if_neg (by omega)]] at this
            exact this _ _ hsp
          · refine aw_iload dX10_lever_98 rfl ?_
            refine aw_istore_n dX10_lever_100 (by decide) rfl ?_
            refine aw_iload dX10_lever_101 rfl ?_
            refine aw_istore dX10_lever_103 (by decide) rfl ?_
            refine aw_iload dX10_lever_105 rfl ?_
            refine aw_istore dX10_lever_107 (by decide) rfl ?_
            refine aw_iinc dX10_lever_109 rfl (show levS k + Int32.ofInt 2 = 1 from by unfold levS; rw [if_pos hpar]; decide) (by decide) rfl ?_
            refine aw_goto (tgt := 47) dX10_lever_112 rfl ?_
            have e9 : cLv N u (k + 1) = (levA N u k, nI (k / 2), levW N k) := by
              rw [cLv, if_pos]
              rw [hlo, Bool.true_and]
              exact decide_eq_true (Int32.not_le.mp c95)
            have hlt : k < 11 := by omega
            have := ih hlt J1 M1
            rw [e9, show (k + 1) / 2 = k / 2 by omega, show levS (k + 1) = 1 from by unfold levS; rw [if_neg (by omega)]] at this
            exact this _ _ hsp
    · refine aw_iload dX10_lever_47 rfl ?_
      refine aw_iconst (v := 1) dX10_lever_49 rfl ?_
      refine aw_icmp_gt (tgt := 115) dX10_lever_50 rfl (fun c50 => ?_) (fun c50 => ?_)
      · exact absurd c50 (by unfold levS; rw [if_neg (by omega)]; decide)
      · skip
        refine aw_aload_n dX10_lever_53 rfl ?_
        refine aw_getR (b := 1) dX10_lever_54 fX10_10 hX.k hX.b rfl hX.r0 ?_
        refine aw_iload dX10_lever_57 rfl ?_
        refine aw_cV dX10_lever_59 kX10_218 mX7_ruleAt (sX7_ruleAt hS hC2 hO rfl hr) (Nat.le_of_ble_eq_true rfl) hS.k ⟨by decide, rfl⟩ hS.b0 rfl rfl (Nat.le_of_ble_eq_true rfl) ⟨Nat.le_refl _, Nat.le_refl _⟩ ?_
        refine aw_iload dX10_lever_62 rfl ?_
        refine aw_iadd dX10_lever_64 ?_
        refine AW.top eW ?_
        refine aw_istore dX10_lever_65 (by decide) rfl ?_
        refine aw_iload dX10_lever_67 rfl ?_
        refine aw_iload dX10_lever_69 rfl ?_
        refine aw_cS dX10_lever_71 kX10_314 mX10_canBeTold (sX10_canBeTold) (Nat.le_of_ble_eq_true rfl) rfl rfl (Nat.le_of_ble_eq_true rfl) ⟨Nat.le_refl _, Nat.le_refl _⟩ ?_
        rw [eO]
        refine aw_if_eq (tgt := 89) dX10_lever_74 rfl (fun c74 => ?_) (fun c74 => ?_)
        · refine aw_iconst (v := (-1)) dX10_lever_89 rfl ?_
          refine aw_istore dX10_lever_90 (by decide) rfl ?_
          refine aw_iload dX10_lever_92 rfl ?_
          refine aw_iload_n dX10_lever_94 rfl ?_
          refine aw_icmp_le (tgt := 109) dX10_lever_95 rfl (fun c95 => ?_) (fun c95 => ?_)
          · skip
            refine aw_iinc dX10_lever_109 rfl (show levS k + Int32.ofInt 2 = 3 from by unfold levS; rw [if_neg (by omega)]; decide) (by decide) rfl ?_
            refine aw_goto (tgt := 47) dX10_lever_112 rfl ?_
            have e9 : cLv N u (k + 1) = cLv N u k := by
              rw [cLv, bI0.mp c74]
              rfl
            refine aw_iload dX10_lever_47 rfl ?_
            refine aw_iconst (v := 1) dX10_lever_49 rfl ?_
            refine aw_icmp_gt (tgt := 115) dX10_lever_50 rfl (fun c50 => ?_) (fun c50 => ?_)
            · skip
              refine aw_iinc dX10_lever_115 rfl (ginc rfl) (by decide) rfl ?_
              refine aw_goto (tgt := 37) dX10_lever_118 rfl ?_
              refine aw_iload dX10_lever_37 rfl ?_
              refine aw_bipush (v := 6) dX10_lever_39 rfl ?_
              refine aw_icmp_ge (tgt := 121) dX10_lever_41 rfl (fun c41 => ?_) (fun c41 => ?_)
              · have ek : k = 11 := by
                  have := (nI_leI (a := 6) (b := k / 2 + 1) (by decide) (by omega)).mp c41
                  omega
                subst ek
                have := tail u hu hw2 hx J M
                rw [e9] at this
                exact this _ _ _ hsp
              · have hlt : k < 11 := by
                  have := mt (nI_leI (a := 6) (b := k / 2 + 1) (by decide) (by omega)).mpr c41
                  omega
                refine aw_iconst (v := (-1)) dX10_lever_44 rfl ?_
                refine aw_istore dX10_lever_45 (by decide) rfl ?_
                have := ih hlt J M
                rw [e9, show (k + 1) / 2 = k / 2 + 1 by omega, show levS (k + 1) = -1 from by unfold levS; rw [if_pos (by omega)]] at this
                exact this _ _ hsp
            · exact absurd (by decide) c50
          · exact absurd (neg_le hIv (u := u) k (by omega)) c95
        · refine aw_aload_n dX10_lever_77 rfl ?_
          refine aw_iload_n dX10_lever_78 rfl ?_
          refine aw_iload dX10_lever_79 rfl ?_
          refine aw_iload dX10_lever_81 rfl ?_
          have hlo := bI1.mp c74
          have iR := lev_Iv hIv (show k < 12 by omega) hlo
          refine aw_laV dX10_lever_83 kX10_318 mX10_letsAhead (v := levA N u k) (show CM yX10_letsAhead cX10_letsAhead 4 (Option.some .int) 7 0 0 [.ref 0, .int (nI u), .int (nI (k / 2)), .int (levW N k)] z n sh J M (LaP (levA N u k) z n sh J M) from by rw [(lev_A hIv (show k < 12 by omega) hlo).1]; exact sX10_letsAhead hX hC2 hIv hsp.2.2 rfl hu rfl hr iR) (Nat.le_of_ble_eq_true rfl) hX.k ⟨by decide, rfl⟩ hX.b rfl rfl (Nat.le_of_ble_eq_true rfl) ⟨Nat.le_refl _, Nat.le_refl _⟩ (fun J1 M1 hsq => ?_)
          have hsp : SpF I L J1 M1 := ⟨hsp.1.tr hsq.1, fun a ha => (hsq.2.1 a ha).trans (hsp.2.1 a ha), hsq.2.2⟩
          refine aw_goto (tgt := 90) dX10_lever_86 rfl ?_
          refine aw_istore dX10_lever_90 (by decide) rfl ?_
          refine aw_iload dX10_lever_92 rfl ?_
          refine aw_iload_n dX10_lever_94 rfl ?_
          refine aw_icmp_le (tgt := 109) dX10_lever_95 rfl (fun c95 => ?_) (fun c95 => ?_)
          · refine aw_iinc dX10_lever_109 rfl (show levS k + Int32.ofInt 2 = 3 from by unfold levS; rw [if_neg (by omega)]; decide) (by decide) rfl ?_
            refine aw_goto (tgt := 47) dX10_lever_112 rfl ?_
            have e9 : cLv N u (k + 1) = cLv N u k := by
              rw [cLv, if_neg]
              intro z
              exact absurd (of_decide_eq_true (andT z).2) (Int32.not_lt.mpr c95)
            refine aw_iload dX10_lever_47 rfl ?_
            refine aw_iconst (v := 1) dX10_lever_49 rfl ?_
            refine aw_icmp_gt (tgt := 115) dX10_lever_50 rfl (fun c50 => ?_) (fun c50 => ?_)
            · skip
              refine aw_iinc dX10_lever_115 rfl (ginc rfl) (by decide) rfl ?_
              refine aw_goto (tgt := 37) dX10_lever_118 rfl ?_
              refine aw_iload dX10_lever_37 rfl ?_
              refine aw_bipush (v := 6) dX10_lever_39 rfl ?_
              refine aw_icmp_ge (tgt := 121) dX10_lever_41 rfl (fun c41 => ?_) (fun c41 => ?_)
              · have ek : k = 11 := by
                  have := (nI_leI (a := 6) (b := k / 2 + 1) (by decide) (by omega)).mp c41
                  omega
                subst ek
                have := tail u hu hw2 hx J1 M1
                rw [e9] at this
                exact this _ _ _ hsp
              · have hlt : k < 11 := by
                  have := mt (nI_leI (a := 6) (b := k / 2 + 1) (by decide) (by omega)).mpr c41
                  omega
                refine aw_iconst (v := (-1)) dX10_lever_44 rfl ?_
                refine aw_istore dX10_lever_45 (by decide) rfl ?_
                have := ih hlt J1 M1
                rw [e9, show (k + 1) / 2 = k / 2 + 1 by omega, show levS (k + 1) = -1 from by unfold levS; rw [if_pos (by omega)]] at this
                exact this _ _ hsp
            · exact absurd (by decide) c50
          · refine aw_iload dX10_lever_98 rfl ?_
            refine aw_istore_n dX10_lever_100 (by decide) rfl ?_
            refine aw_iload dX10_lever_101 rfl ?_
            refine aw_istore dX10_lever_103 (by decide) rfl ?_
            refine aw_iload dX10_lever_105 rfl ?_
            refine aw_istore dX10_lever_107 (by decide) rfl ?_
            refine aw_iinc dX10_lever_109 rfl (show levS k + Int32.ofInt 2 = 3 from by unfold levS; rw [if_neg (by omega)]; decide) (by decide) rfl ?_
            refine aw_goto (tgt := 47) dX10_lever_112 rfl ?_
            have e9 : cLv N u (k + 1) = (levA N u k, nI (k / 2), levW N k) := by
              rw [cLv, if_pos]
              rw [hlo, Bool.true_and]
              exact decide_eq_true (Int32.not_le.mp c95)
            refine aw_iload dX10_lever_47 rfl ?_
            refine aw_iconst (v := 1) dX10_lever_49 rfl ?_
            refine aw_icmp_gt (tgt := 115) dX10_lever_50 rfl (fun c50 => ?_) (fun c50 => ?_)
            · skip
              refine aw_iinc dX10_lever_115 rfl (ginc rfl) (by decide) rfl ?_
              refine aw_goto (tgt := 37) dX10_lever_118 rfl ?_
              refine aw_iload dX10_lever_37 rfl ?_
              refine aw_bipush (v := 6) dX10_lever_39 rfl ?_
              refine aw_icmp_ge (tgt := 121) dX10_lever_41 rfl (fun c41 => ?_) (fun c41 => ?_)
              · have ek : k = 11 := by
                  have := (nI_leI (a := 6) (b := k / 2 + 1) (by decide) (by omega)).mp c41
                  omega
                subst ek
                have := tail u hu hw2 hx J1 M1
                rw [e9] at this
                exact this _ _ _ hsp
              · have hlt : k < 11 := by
                  have := mt (nI_leI (a := 6) (b := k / 2 + 1) (by decide) (by omega)).mpr c41
                  omega
                refine aw_iconst (v := (-1)) dX10_lever_44 rfl ?_
                refine aw_istore dX10_lever_45 (by decide) rfl ?_
                have := ih hlt J1 M1
                rw [e9, show (k + 1) / 2 = k / 2 + 1 by omega, show levS (k + 1) = -1 from by unfold levS; rw [if_pos (by omega)]] at this
                exact this _ _ hsp
            · exact absurd (by decide) c50
  refine aw_iload_n dX10_lever_0 rfl ?_
  refine aw_iconst (v := 1) dX10_lever_1 rfl ?_
  refine aw_icmp_lt (tgt := 20) dX10_lever_2 rfl (fun c2 => ?_) (fun c2 => ?_)
  · have hw : (mFrom x 1 30 && mFrom w 0 2) = false := by rw [from_lo (b := 30) c2]; rfl
    refine aw_aload_n dX10_lever_20 rfl ?_
    refine aw_iconst (v := 1) dX10_lever_21 rfl ?_
    refine aw_cV dX10_lever_22 kX10_76 mX10_fail (sX10_fail hX) (Nat.le_of_ble_eq_true rfl) hX.k ⟨by decide, rfl⟩ hX.b rfl rfl (Nat.le_of_ble_eq_true rfl) ⟨Nat.le_refl _, Nat.le_refl _⟩ ?_
    refine aw_iret q rfl dX10_lever_25 ⟨Nat.le_refl _, Nat.le_refl _⟩ ?_
    refine Cs.no ?_ (SpF.rf hFs)
    unfold aLever
    rw [hw]
    rfl
  · skip
    refine aw_iload_n dX10_lever_5 rfl ?_
    refine aw_bipush (v := 30) dX10_lever_6 rfl ?_
    refine aw_icmp_gt (tgt := 20) dX10_lever_8 rfl (fun c8 => ?_) (fun c8 => ?_)
    · have hw : (mFrom x 1 30 && mFrom w 0 2) = false := by rw [from_gt (a := 1) (Int32.not_le.mpr c8)]; rfl
      refine aw_aload_n dX10_lever_20 rfl ?_
      refine aw_iconst (v := 1) dX10_lever_21 rfl ?_
      refine aw_cV dX10_lever_22 kX10_76 mX10_fail (sX10_fail hX) (Nat.le_of_ble_eq_true rfl) hX.k ⟨by decide, rfl⟩ hX.b rfl rfl (Nat.le_of_ble_eq_true rfl) ⟨Nat.le_refl _, Nat.le_refl _⟩ ?_
      refine aw_iret q rfl dX10_lever_25 ⟨Nat.le_refl _, Nat.le_refl _⟩ ?_
      refine Cs.no ?_ (SpF.rf hFs)
      unfold aLever
      rw [hw]
      rfl
    · skip
      refine aw_iload_n dX10_lever_11 rfl ?_
      refine aw_if_lt (tgt := 20) dX10_lever_12 rfl (fun c12 => ?_) (fun c12 => ?_)
      · have hw : (mFrom x 1 30 && mFrom w 0 2) = false := by rw [from_neg (b := 2) c12, Bool.and_false]
        refine aw_aload_n dX10_lever_20 rfl ?_
        refine aw_iconst (v := 1) dX10_lever_21 rfl ?_
        refine aw_cV dX10_lever_22 kX10_76 mX10_fail (sX10_fail hX) (Nat.le_of_ble_eq_true rfl) hX.k ⟨by decide, rfl⟩ hX.b rfl rfl (Nat.le_of_ble_eq_true rfl) ⟨Nat.le_refl _, Nat.le_refl _⟩ ?_
        refine aw_iret q rfl dX10_lever_25 ⟨Nat.le_refl _, Nat.le_refl _⟩ ?_
        refine Cs.no ?_ (SpF.rf hFs)
        unfold aLever
        rw [hw]
        rfl
      · skip
        refine aw_iload_n dX10_lever_15 rfl ?_
        refine aw_iconst (v := 2) dX10_lever_16 rfl ?_
        refine aw_icmp_le (tgt := 26) dX10_lever_17 rfl (fun c17 => ?_) (fun c17 => ?_)
        · obtain ⟨u, rfl, hu1, hu2⟩ := rng (x := 1) (y := 30) (v := x) (by decide) (Int32.not_lt.mp c2) (Int32.not_lt.mp c8) (by decide)
          have hw2 : (mFrom (nI u) 1 30 && mFrom w 0 2) = true := by rw [from_in c2 (Int32.not_lt.mp c8), from_in c12 c17]; rfl
          refine aw_iconst (v := (-1)) dX10_lever_26 rfl ?_
          refine aw_istore_n dX10_lever_27 (by decide) rfl ?_
          refine aw_iconst (v := (-1)) dX10_lever_28 rfl ?_
          refine aw_istore dX10_lever_29 (by decide) rfl ?_
          refine aw_iconst (v := (-1)) dX10_lever_31 rfl ?_
          refine aw_istore dX10_lever_32 (by decide) rfl ?_
          refine aw_iconst (v := 0) dX10_lever_34 rfl ?_
          refine aw_istore dX10_lever_35 (by decide) rfl ?_
          refine aw_iload dX10_lever_37 rfl ?_
          refine aw_bipush (v := 6) dX10_lever_39 rfl ?_
          refine aw_icmp_ge (tgt := 121) dX10_lever_41 rfl (fun c41 => ?_) (fun c41 => ?_)
          · exact absurd c41 (by decide)
          · skip
            refine aw_iconst (v := (-1)) dX10_lever_44 rfl ?_
            refine aw_istore dX10_lever_45 (by decide) rfl ?_
            exact loop u (by omega) hw2 rfl 0 (by decide) I L none none (SpF.rf hFs)
        · have hw : (mFrom x 1 30 && mFrom w 0 2) = false := by rw [from_gt (a := 0) c17, Bool.and_false]
          refine aw_aload_n dX10_lever_20 rfl ?_
          refine aw_iconst (v := 1) dX10_lever_21 rfl ?_
          refine aw_cV dX10_lever_22 kX10_76 mX10_fail (sX10_fail hX) (Nat.le_of_ble_eq_true rfl) hX.k ⟨by decide, rfl⟩ hX.b rfl rfl (Nat.le_of_ble_eq_true rfl) ⟨Nat.le_refl _, Nat.le_refl _⟩ ?_
          refine aw_iret q rfl dX10_lever_25 ⟨Nat.le_refl _, Nat.le_refl _⟩ ?_
          refine Cs.no ?_ (SpF.rf hFs)
          unfold aLever
          rw [hw]
          rfl
end ClsS
