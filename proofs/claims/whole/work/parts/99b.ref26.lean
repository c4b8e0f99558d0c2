/-! the reference: rows of moves -/
theorem Rw.pre {J : MI} {a b : Nat} {l r : Mvs} (h : Rw J a b (l ++ r)) : Rw J a b l := fun k hk => by
  have := h k (by rw [List.length_append]; omega)
  rwa [gd_l hk] at this
theorem lf1_skip {N : Nat → Int32} {S h p : Nat} (b : (S.testBit p || !mCould N p h) = true) : ∀ d, lf1 N d S h p = []
  | 0 => rfl
  | d + 1 => if_pos b
theorem Bst.cg {m : Nat} {I J : MI} {B : Mvs} (h : Bst m I B) (h1 : J m 30 = I m 30) (h2 : J (m + 12) = I (m + 12)) (h3 : J (m + 13) = I (m + 13)) : Bst m J B := ⟨h1.trans h.1, h.2.cg h2 h3⟩
theorem MvF.rsc {m : Nat} {I J : MI} (h : MvF m I J) : RSc m I J := ⟨fun a h1 h2 h3 => h.1 a h1 (by omega) (by omega) (by omega) (by omega), fun k h1 h2 h3 => h.2 k h3⟩
def MvC (z n : Nat) (sh : Shp) (m : Nat) (L : ML) (N : Nat → Int32) (k : Nat) : Prop := ∀ (S : Nat) (I : MI) (x : Int32) (h : Nat) (P B : Mvs), I (m + 1) = N → x = nI h → h < 10 → S < 256 → k + pcn S = 8 → P.length = pcn S → Rw I (m + 10) (m + 11) P → Bst m I B → P.length ≤ B.length → B.length ≤ 8 → CM yX11_movesOn cX11_movesOn 6 (Option.none : Option FieldType) (k + 6) 0 0 [.ref m, .int x, .int (nI P.length), .int (nI S)] z n sh I L (Ef none (fun J => MvF m I J ∧ Rw J (m + 10) (m + 11) P ∧ Bst m J (bt2 B (P ++ lgF N k S (nI h)))) z n sh L)
section RefS
variable {z n m : Nat} {sh : Shp} {I : MI} {L : ML}
set_option maxHeartbeats 4000000 in
set_option maxRecDepth 100000 in
theorem mvStep (hM : IsM n sh m) {N : Nat → Int32} (hN : Cn N) (hC : Co N) {k : Nat} (hk : ∀ k2, k = k2 + 1 → MvC z n sh m L N k2) : MvC z n sh m L N k := by
  intro S I x h P B hI hx hh hS hkS hP hR0 hB0 hPB hB8
  subst hx
  have h8 := hN.p8
  refine CM.go [some (.ref m), some (.int (nI h)), some (.int (nI P.length)), some (.int (nI S)), none, none] rfl rfl (Nat.le_of_ble_eq_true rfl) (fun X g q => ?_)
  have loop : ∀ i, i ≤ nPo N → ∀ a5 (J : MI), MvF m I J → Rw J (m + 10) (m + 11) P → Bst m J (bt2 B (P ++ pk2 (lf1 N k S h) i)) → AW X g RX11 cX11_movesOn 6 (k + 6, 0, 0) (z, n, sh, 0, 0) (J) (L) 3 [some (.ref m), some (.int (nI h)), some (.int (nI P.length)), some (.int (nI S)), some (.int (nI i)), a5] [] := by
    refine up_loop (fun i hi ih a5 J hF hR hB => ?_)
    have hI3 : J (m + 1) = N := (hF.1 _ (by omega) (by omega) (by omega) (by omega) (by omega)).trans hI
    refine aw_iload dX11_movesOn_3 rfl ?_
    refine aw_aload_n dX11_movesOn_5 rfl ?_
    refine aw_getR (b := m + 1) dX11_movesOn_6 fX11_7 hM.k hM.b rfl hM.r0 ?_
    refine aw_sipush (v := 231) dX11_movesOn_9 rfl ?_
    refine aw_ialdH (k := 231) hI3 dX11_movesOn_12 hM.k0 hM.b0 hM.l0 rfl (by decide) (by decide) ?_
    refine aw_icmp_ge (tgt := 151) dX11_movesOn_13 rfl (fun c13 => ?_) (fun c13 => ?_)
    · have e := ge_t hN.p (by omega) hi c13
      subst e
      refine aw_vret q rfl dX11_movesOn_151 ⟨Nat.le_refl _, Nat.le_refl _⟩ ?_
      refine ⟨rfl, rfl, rfl, rfl, rfl, hF, hR, ?_⟩
      rw [lgF_eq (by omega)]
      exact hB
    · have hlt := ge_f hN.p (by omega) hi c13
      have hba := (bit_all S (by omega) i (by omega)).1
      refine aw_iload_n dX11_movesOn_16 rfl ?_
      refine aw_iload dX11_movesOn_17 rfl ?_
      refine aw_ishr dX11_movesOn_19 ?_
      refine aw_iconst (v := 1) dX11_movesOn_20 rfl ?_
      refine aw_iand dX11_movesOn_21 ?_
      refine aw_iconst (v := 1) dX11_movesOn_22 rfl ?_
      refine aw_icmp_eq (tgt := 145) dX11_movesOn_23 rfl (fun c23 => ?_) (fun c23 => ?_)
      · have hb : S.testBit i = true := hba.symm.trans (bt_t c23)
        refine aw_iinc dX11_movesOn_145 rfl (ginc rfl) (by decide) rfl ?_
        refine aw_goto (tgt := 3) dX11_movesOn_148 rfl ?_
        have e9 : lf1 N k S h i = [] := lf1_skip (by rw [hb, Bool.true_or]) k
        exact ih hlt _ J hF hR (by rw [pk2_skip e9]; exact hB)
      · have hb : S.testBit i = false := hba.symm.trans (bt_f c23)
        refine aw_aload_n dX11_movesOn_26 rfl ?_
        refine aw_iload dX11_movesOn_27 rfl ?_
        refine aw_iload_n dX11_movesOn_29 rfl ?_
        refine aw_cV dX11_movesOn_30 kX11_337 mX11_couldHave (rX11_couldHave (p := i) (h := h) hM hI3 hN rfl rfl (by omega) (by omega)) (by show _ ≤ k + 6; omega) hM.k ⟨by decide, rfl⟩ hM.b rfl rfl (Nat.le_of_ble_eq_true rfl) ⟨Nat.le_refl _, Nat.le_refl _⟩ ?_
        refine aw_if_ne (tgt := 39) dX11_movesOn_33 rfl (fun c33 => ?_) (fun c33 => ?_)
        · have hb0 := bI1.mp (fun z => c33 z)
          have hb1 := (bit_add S hS i (by omega) hb).1
          have hpa := pcn_add hS (show i < 8 by omega) hb
          have hpl := pcn_le8 hb1
          have hP7 : P.length < 8 := by omega
          obtain ⟨k2, ek⟩ : ∃ k2, k = k2 + 1 := ⟨k - 1, by omega⟩
          have e9 : lf1 N k S h i = (i, h) :: lgF N k2 (S + 2 ^ i) (N (80 + 18 * i + 4)) := by
            rw [ek]
            exact if_neg (by rw [hb, hb0]; decide)
          have hl2 : (P ++ [(i, h)]).length = P.length + 1 := List.length_append
          have hp8 : (P ++ pk2 (lf1 N k S h) i).length ≤ 8 := by
            rw [List.length_append]
            have := pk2_le (f := lf1 N k S h) (B := k) (n := i) (fun p hp => by
              rw [ek]
              show (if _ then _ else _ : Mvs).length ≤ _
              by_cases b : (S.testBit p || !mCould N p h) = true
              · rw [if_pos b]; exact Nat.zero_le _
              · rw [if_neg b]; exact Nat.succ_le_succ (lgF_len k2 _ _))
            omega
          have tl : ∀ a5 (K : MI), MvF m I K → Rw K (m + 10) (m + 11) (P ++ [(i, h)]) → Bst m K (bt2 (bt2 B (P ++ pk2 (lf1 N k S h) i)) (P ++ [(i, h)])) → AW X g RX11 cX11_movesOn 6 (k + 6, 0, 0) (z, n, sh, 0, 0) (K) (L) 114 [some (.ref m), some (.int (nI h)), some (.int (nI P.length)), some (.int (nI S)), some (.int (nI i)), a5] [] := by
            intro a5 K hKF hKR hKB
            have hI4 : K (m + 1) = N := (hKF.1 _ (by omega) (by omega) (by omega) (by omega) (by omega)).trans hI
            refine aw_aload_n dX11_movesOn_114 rfl ?_
            refine aw_iload dX11_movesOn_115 rfl ?_
            refine aw_iconst (v := 4) dX11_movesOn_117 rfl ?_
            refine aw_cV dX11_movesOn_118 kX11_205 mX11_of (rX11_of (p := i) (w := 4) hM hI4 rfl rfl (by omega)) (by show _ ≤ k + 6; omega) hM.k ⟨by decide, rfl⟩ hM.b rfl rfl (Nat.le_of_ble_eq_true rfl) ⟨Nat.le_refl _, Nat.le_refl _⟩ ?_
            refine aw_iconst (v := (-1)) dX11_movesOn_121 rfl ?_
            refine aw_icmp_eq (tgt := 145) dX11_movesOn_122 rfl (fun c122 => ?_) (fun c122 => ?_)
            · skip
              refine aw_iinc dX11_movesOn_145 rfl (ginc rfl) (by decide) rfl ?_
              refine aw_goto (tgt := 3) dX11_movesOn_148 rfl ?_
              exact ih hlt _ K hKF hKR.pre (by
                rw [c122, lgF_none] at e9
                rw [pk2, e9, ← bt2_step hPB]
                rw [bt2_no (B := bt2 (bt2 B (P ++ pk2 (lf1 N k S h) i)) (P ++ [(i, h)])) (by rw [List.append_nil]; exact bt2_ge.2)]
                exact hKB)
            · obtain ⟨h2, hh2, e2⟩ : ∃ h2, h2 < 10 ∧ N (80 + 18 * i + 4) = nI h2 := by
                rcases hC.1 i hlt with w | ⟨h2, w1, w2, -⟩
                · exact absurd w c122
                · exact ⟨h2, by have := hN.h10; omega, w2⟩
              refine aw_aload_n dX11_movesOn_125 rfl ?_
              refine aw_aload_n dX11_movesOn_126 rfl ?_
              refine aw_iload dX11_movesOn_127 rfl ?_
              refine aw_iconst (v := 4) dX11_movesOn_129 rfl ?_
              refine aw_cV dX11_movesOn_130 kX11_205 mX11_of (rX11_of (p := i) (w := 4) hM hI4 rfl rfl (by omega)) (by show _ ≤ k + 6; omega) hM.k ⟨by decide, rfl⟩ hM.b rfl rfl (Nat.le_of_ble_eq_true rfl) ⟨Nat.le_refl _, Nat.le_refl _⟩ ?_
              refine aw_iload_n dX11_movesOn_133 rfl ?_
              refine aw_iconst (v := 1) dX11_movesOn_134 rfl ?_
              refine aw_iadd dX11_movesOn_135 ?_
              refine AW.top (y := nI (P ++ [(i, h)]).length) (by rw [hl2]; exact nI_sum _ 1) ?_
              refine aw_iload_n dX11_movesOn_136 rfl ?_
              refine aw_iconst (v := 1) dX11_movesOn_137 rfl ?_
              refine aw_iload dX11_movesOn_138 rfl ?_
              refine aw_ishl dX11_movesOn_140 ?_
              refine aw_ior dX11_movesOn_141 ?_
              refine AW.top (y := nI (S + 2 ^ i)) (gv_or S (by omega) i (by omega) hb).1 ?_
              refine aw_eV dX11_movesOn_142 kX11_386 mX11_movesOn (hk k2 ek (S + 2 ^ i) K _ h2 (P ++ [(i, h)]) _ hI4 e2 hh2 hb1 (by rw [pcn_add hS (by omega) hb]; omega) (by rw [hl2, pcn_add hS (by omega) hb, hP]) hKR hKB (by rw [hl2]; have := (bt2_ge (B := (bt2 B (P ++ pk2 (lf1 N k S h) i))) (c := (P ++ [(i, h)]))).2; rw [hl2] at this; exact this) (bt2_len (bt2_len hB8 hp8) (by rw [hl2]; omega))) (by show _ ≤ k + 6; omega) hM.k ⟨by decide, rfl⟩ hM.b rfl rfl (Nat.le_of_ble_eq_true rfl) ⟨Nat.le_refl _, Nat.le_refl _⟩ (fun J2 h2a => ?_)
              obtain ⟨h2b, h2c, h2d⟩ := h2a
              refine aw_iinc dX11_movesOn_145 rfl (ginc rfl) (by decide) rfl ?_
              refine aw_goto (tgt := 3) dX11_movesOn_148 rfl ?_
              exact ih hlt _ J2 (hKF.tr h2b) h2c.pre (by
                rw [e2] at e9
                rw [pk2, e9, ← bt2_step hPB]
                exact h2d)
          have cp : (bt2 B (P ++ pk2 (lf1 N k S h) i)).length < P.length + 1 → ∀ j, j ≤ P.length + 1 → ∀ (K : MI), MvF m I K → Rw K (m + 10) (m + 11) (P ++ [(i, h)]) → K m 30 = nI (P.length + 1) → (∀ r, r < j → K (m + 12) r = nI ((P ++ [(i, h)]).getD r (0, 0)).1 ∧ K (m + 13) r = nI ((P ++ [(i, h)]).getD r (0, 0)).2) → AW X g RX11 cX11_movesOn 6 (k + 6, 0, 0) (z, n, sh, 0, 0) (K) (L) 74 [some (.ref m), some (.int (nI h)), some (.int (nI P.length)), some (.int (nI S)), some (.int (nI i)), some (.int (nI j))] [] := by
            intro hgt
            refine up_loop (fun j hj ihj K hKF hKR hK30 hcp => ?_)
            refine aw_iload dX11_movesOn_74 rfl ?_
            refine aw_iload_n dX11_movesOn_76 rfl ?_
            refine aw_icmp_gt (tgt := 114) dX11_movesOn_77 rfl (fun c77 => ?_) (fun c77 => ?_)
            · have hjn : j = P.length + 1 := by
                have := (nI_ltI (a := P.length) (b := j) (by omega) (by omega)).mp c77
                omega
              refine tl _ K hKF hKR ?_
              rw [bt2_yes (B := (bt2 B (P ++ pk2 (lf1 N k S h) i))) (c := (P ++ [(i, h)])) (by rw [hl2]; exact hgt)]
              exact ⟨by rw [hl2]; exact hK30, fun r hr => hcp r (by rw [hl2] at hr; omega)⟩
            · have hjl : j < P.length + 1 := by
                have := mt (nI_ltI (a := P.length) (b := j) (by omega) (by omega)).mpr c77
                omega
              obtain ⟨r1, r2⟩ := hKR j (by rw [hl2]; exact hjl)
              refine aw_aload_n dX11_movesOn_80 rfl ?_
              refine aw_getR (b := m + 12) dX11_movesOn_81 fX11_51 hM.k hM.b rfl hM.r11 ?_
              refine aw_iload dX11_movesOn_84 rfl ?_
              refine aw_aload_n dX11_movesOn_86 rfl ?_
              refine aw_getR (b := m + 10) dX11_movesOn_87 fX11_45 hM.k hM.b rfl hM.r9 ?_
              refine aw_iload dX11_movesOn_90 rfl ?_
              refine aw_ialdN (k := j) dX11_movesOn_92 hM.k9 hM.b9 hM.l9 rfl (by omega) (by decide) ?_
              refine AW.top r1 ?_
              refine aw_iastN (k := j) dX11_movesOn_93 hM.k11 hM.b11 hM.l11 rfl (by omega) (by decide) ?_
              refine aw_aload_n dX11_movesOn_94 rfl ?_
              refine aw_getR (b := m + 13) dX11_movesOn_95 fX11_54 hM.k hM.b rfl hM.r12 ?_
              refine aw_iload dX11_movesOn_98 rfl ?_
              refine aw_aload_n dX11_movesOn_100 rfl ?_
              refine aw_getR (b := m + 11) dX11_movesOn_101 fX11_48 hM.k hM.b rfl hM.r10 ?_
              refine aw_iload dX11_movesOn_104 rfl ?_
              refine aw_ialdN (k := j) dX11_movesOn_106 hM.k10 hM.b10 hM.l10 rfl (by omega) (by decide) ?_
              refine AW.top ((congrFun (if_neg (by omega)) _).trans r2) ?_
              refine aw_iastN (k := j) dX11_movesOn_107 hM.k12 hM.b12 hM.l12 rfl (by omega) (by decide) ?_
              refine aw_iinc dX11_movesOn_108 rfl (ginc rfl) (by decide) rfl ?_
              refine aw_goto (tgt := 74) dX11_movesOn_111 rfl ?_
              refine ihj hjl _ ((hKF.put (by omega)).put (by omega)) (hKR.cg ((if_neg (by omega)).trans (if_neg (by omega))) ((if_neg (by omega)).trans (if_neg (by omega)))) ((congrFun (if_neg (by omega)) _).trans ((congrFun (if_neg (by omega)) _).trans hK30)) (fun r hr => ?_)
              by_cases e : r = j
              · subst e
                exact ⟨(upI_n (Or.inl (by omega))).trans upI_s, upI_s⟩
              · rw [upI_n (Or.inl (by omega)), upI_n (Or.inr e), upI_n (Or.inr e), upI_n (Or.inl (by omega))]
                exact hcp r (by omega)
          refine aw_aload_n dX11_movesOn_39 rfl ?_
          refine aw_getR (b := m + 10) dX11_movesOn_40 fX11_45 hM.k hM.b rfl hM.r9 ?_
          refine aw_iload_n dX11_movesOn_43 rfl ?_
          refine aw_iload dX11_movesOn_44 rfl ?_
          refine aw_iastN (k := P.length) dX11_movesOn_46 hM.k9 hM.b9 hM.l9 rfl (by omega) (by decide) ?_
          refine aw_aload_n dX11_movesOn_47 rfl ?_
          refine aw_getR (b := m + 11) dX11_movesOn_48 fX11_48 hM.k hM.b rfl hM.r10 ?_
          refine aw_iload_n dX11_movesOn_51 rfl ?_
          refine aw_iload_n dX11_movesOn_52 rfl ?_
          refine aw_iastN (k := P.length) dX11_movesOn_53 hM.k10 hM.b10 hM.l10 rfl (by omega) (by decide) ?_
          have hKF : MvF m I (upI (upI J (m + 10) P.length (nI i)) (m + 11) P.length (nI h)) := (hF.put (by omega)).put (by omega)
          have hKR := hR.snoc (p := i) (h := h) (show m + 10 ≠ m + 11 by omega)
          have hKB : Bst m (upI (upI J (m + 10) P.length (nI i)) (m + 11) P.length (nI h)) (bt2 B (P ++ pk2 (lf1 N k S h) i)) := hB.cg ((congrFun (if_neg (by omega)) _).trans (congrFun (if_neg (by omega)) _)) ((if_neg (by omega)).trans (if_neg (by omega))) ((if_neg (by omega)).trans (if_neg (by omega)))
          have hlb : (bt2 B (P ++ pk2 (lf1 N k S h) i)).length ≤ 8 := bt2_len hB8 hp8
          refine aw_iload_n dX11_movesOn_54 rfl ?_
          refine aw_iconst (v := 1) dX11_movesOn_55 rfl ?_
          refine aw_iadd dX11_movesOn_56 ?_
          refine AW.top (y := nI (P.length + 1)) (nI_sum _ 1) ?_
          refine aw_aload_n dX11_movesOn_57 rfl ?_
          refine aw_getI dX11_movesOn_58 fX11_383 hM.k hM.b rfl ?_
          refine AW.top hKB.1 ?_
          refine aw_icmp_le (tgt := 114) dX11_movesOn_61 rfl (fun c61 => ?_) (fun c61 => ?_)
          · have hle := (nI_leI (a := P.length + 1) (by omega) (by omega)).mp c61
            exact tl _ _ hKF hKR (by rw [bt2_no (by rw [hl2]; exact hle)]; exact hKB)
          · have hgt : (bt2 B (P ++ pk2 (lf1 N k S h) i)).length < P.length + 1 := by
              have := mt (nI_leI (a := P.length + 1) (b := (bt2 B (P ++ pk2 (lf1 N k S h) i)).length) (by omega) (by omega)).mpr c61
              omega
            refine aw_aload_n dX11_movesOn_64 rfl ?_
            refine aw_iload_n dX11_movesOn_65 rfl ?_
            refine aw_iconst (v := 1) dX11_movesOn_66 rfl ?_
            refine aw_iadd dX11_movesOn_67 ?_
            refine AW.top (y := nI (P.length + 1)) (nI_sum _ 1) ?_
            refine aw_putI dX11_movesOn_68 fX11_383 hM.k hM.b rfl rfl ?_
            refine aw_iconst (v := 0) dX11_movesOn_71 rfl ?_
            refine aw_istore dX11_movesOn_72 (by decide) rfl ?_
            refine cp hgt 0 (Nat.zero_le _) _ (hKF.put (Or.inl ⟨rfl, rfl⟩)) (hKR.cg (if_neg (by omega)) (if_neg (by omega))) upI_s (fun r hr => absurd hr (Nat.not_lt_zero r))
        · have hcf := bI0.mp c33
          refine aw_goto (tgt := 145) dX11_movesOn_36 rfl ?_
          refine aw_iinc dX11_movesOn_145 rfl (ginc rfl) (by decide) rfl ?_
          refine aw_goto (tgt := 3) dX11_movesOn_148 rfl ?_
          have e9 : lf1 N k S h i = [] := lf1_skip (by rw [hcf, Bool.not_false, Bool.or_true]) k
          exact ih hlt _ J hF hR (by rw [pk2_skip e9]; exact hB)
  refine aw_iconst (v := 0) dX11_movesOn_0 rfl ?_
  refine aw_istore dX11_movesOn_1 (by decide) rfl ?_
  exact loop 0 (Nat.zero_le _) none I MvF.rf hR0 (by rw [show P ++ pk2 (lf1 N k S h) 0 = P from List.append_nil P, bt2_no (by omega)]; exact hB0)
theorem rX11_movesOn (hM : IsM n sh m) {N : Nat → Int32} (hN : Cn N) (hC : Co N) : ∀ k, MvC z n sh m L N k
  | 0 => mvStep hM hN hC (fun k2 e => absurd e (by omega))
  | k + 1 => mvStep hM hN hC (fun k2 e => by
    have : k = k2 := by omega
    subst this
    exact rX11_movesOn hM hN hC k)
end RefS
