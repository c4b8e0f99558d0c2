/-! the reference: tokens -/
section RefS
variable {z n m : Nat} {sh : Shp} {I : MI} {L : ML}
set_option maxHeartbeats 4000000 in
set_option maxRecDepth 100000 in
theorem sX11_byteAt (hM : IsM n sh m) {T : Nat → Int32} (hT : I (m + 5) = T) {s : Nat} (hs : I m 13 = nI s) (hs9 : s ≤ 900) {x : Int32} {k : Nat} (hx : x = nI k) (hk : k ≤ 900) : CM yX11_byteAt cX11_byteAt 2 (Option.some .int) 1 0 0 [.ref m, .int x] z n sh I L (Pst (some (.int (tb T s k))) z n sh I L) := by
  refine CM.go [some (.ref m), some (.int x)] rfl rfl (Nat.le_of_ble_eq_true rfl) (fun X g q => ?_)
  refine aw_iload_n dX11_byteAt_0 rfl ?_
  refine aw_aload_n dX11_byteAt_1 rfl ?_
  refine aw_getI dX11_byteAt_2 fX11_86 hM.k hM.b rfl ?_
  refine aw_icmp_ge (tgt := 17) dX11_byteAt_5 rfl (fun c5 => ?_) (fun c5 => ?_)
  · rw [hs, hx, nI_leI (by omega) (by omega)] at c5
    refine aw_iconst (v := (-1)) dX11_byteAt_17 rfl ?_
    refine aw_iret q rfl dX11_byteAt_18 ⟨Nat.le_refl _, Nat.le_refl _⟩ ?_
    refine Pst.iv ?_
    unfold tb
    rw [if_neg (by omega)]
  · rw [hs, hx, nI_leI (by omega) (by omega)] at c5
    refine aw_aload_n dX11_byteAt_8 rfl ?_
    refine aw_getR (b := m + 5) dX11_byteAt_9 fX11_22 hM.k hM.b rfl hM.r4 ?_
    refine aw_iload_n dX11_byteAt_12 rfl ?_
    refine aw_ialdN (k := k) dX11_byteAt_13 hM.k4 hM.b4 hM.l4 hx (by omega) (by decide) ?_
    refine aw_goto (tgt := 18) dX11_byteAt_14 rfl ?_
    refine aw_iret q rfl dX11_byteAt_18 ⟨Nat.le_refl _, Nat.le_refl _⟩ ?_
    refine Pst.iv ?_
    unfold tb
    rw [if_pos (by omega), ← hT]
set_option maxHeartbeats 4000000 in
set_option maxRecDepth 100000 in
theorem rX11_go (hM : IsM n sh m) {T : Nat → Int32} {s t0 : Nat} (hT0 : I (m + 5) = T) (hs0 : I m 13 = nI s) (ht0 : I m 15 = nI t0) (hs9 : s ≤ 900) (hts : t0 ≤ s) : CM yX11_go cX11_go 2 (Option.none : Option FieldType) 2 0 0 [.ref m] z n sh I L (GoP z n sh I L m T s t0) := by
  refine CM.go [some (.ref m), none] rfl rfl (Nat.le_of_ble_eq_true rfl) (fun X g q => ?_)
  obtain ⟨f, hf⟩ : ∃ f, f = runT isSpc T s t0 := ⟨_, rfl⟩
  have hfs : f ≤ s := hf ▸ runT_le hts
  have lw : ∀ t, t ≤ s → ∀ J M, f ≤ t → runT isLet T s t = runT isLet T s f → ¬ tb T s f = -1 → isLet (tb T s f) = true → GoF m I J L M → J m 14 = nI f → J m 15 = nI t → M m 21 = wrd T s f (min 8 (t - f)) → AW X g RX11 cX11_go 2 (2, 0, 0) (z, n, sh, 0, 0) (J) (M) 81 [some (.ref m), some (.int (tb T s f))] [] := by
    refine up_loop (fun t ht ih J M hft hr hn hl hF h14 h15 hw => ?_)
    have hT : J (m + 5) = T := (hF.1 (m + 5) (by omega)).trans hT0
    have hs : J m 13 = nI s := (hF.2.1 13 (by decide) (by decide) (by decide) (by decide)).trans hs0
    refine aw_aload_n dX11_go_81 rfl ?_
    refine aw_aload_n dX11_go_82 rfl ?_
    refine aw_getI dX11_go_83 fX11_89 hM.k hM.b rfl ?_
    refine aw_cV dX11_go_86 kX11_92 mX11_byteAt (sX11_byteAt (T := T) (s := s) (k := t) hM hT hs hs9 h15 (by omega)) (Nat.le_of_ble_eq_true rfl) hM.k ⟨by decide, rfl⟩ hM.b rfl rfl (Nat.le_of_ble_eq_true rfl) ⟨Nat.le_refl _, Nat.le_refl _⟩ ?_
    refine aw_cS dX11_go_89 kX11_102 mX11_isLetter sX11_isLetter (Nat.le_of_ble_eq_true rfl) rfl rfl (Nat.le_of_ble_eq_true rfl) ⟨Nat.le_refl _, Nat.le_refl _⟩ ?_
    refine aw_if_eq (tgt := 146) dX11_go_92 rfl (fun c92 => ?_) (fun c92 => ?_)
    · have hb := bI0.mp c92
      have e : t = runT isLet T s f := (runT_f hb).symm.trans hr
      refine aw_aload_n dX11_go_146 rfl ?_
      refine aw_aload_n dX11_go_147 rfl ?_
      refine aw_getI dX11_go_148 fX11_89 hM.k hM.b rfl ?_
      refine aw_aload_n dX11_go_151 rfl ?_
      refine aw_getI dX11_go_152 fX11_96 hM.k hM.b rfl ?_
      refine aw_isub dX11_go_155 ?_
      refine aw_bipush (v := 8) dX11_go_156 rfl ?_
      refine aw_icmp_le (tgt := 165) dX11_go_158 rfl (fun c158 => ?_) (fun c158 => ?_)
      · rw [h15, h14, pk_sub hft] at c158
        have h8 := (nI_leI (b := 8) (by omega) (by decide)).mp c158
        refine aw_iconst (v := 2) dX11_go_165 rfl ?_
        refine aw_putI dX11_go_166 fX11_99 hM.k hM.b rfl rfl ?_
        refine aw_goto (tgt := 297) dX11_go_169 rfl ?_
        refine aw_vret q rfl dX11_go_297 ⟨Nat.le_refl _, Nat.le_refl _⟩ ?_
        subst e
        refine ⟨rfl, rfl, rfl, rfl, GoF.put hF (by decide), ?_⟩
        rw [tok_w hf hn hl]
        have e9 : (tokW T s f).2.2.1 = 2 := if_neg (by omega)
        refine ⟨(if_neg (by omega)).trans hT, fI_n (by decide) hs, fI_n (by decide) h14, fI_n (by decide) h15, ?_, ?_, ?_⟩
        · rw [e9]
          exact fI_s
        · intro _
          exact hw
        · intro h9
          rw [e9] at h9
          exact absurd h9 (by decide)
      · rw [h15, h14, pk_sub hft] at c158
        have h8 := mt (nI_leI (b := 8) (by omega) (by decide)).mpr c158
        refine aw_iconst (v := 1) dX11_go_161 rfl ?_
        refine aw_goto (tgt := 166) dX11_go_162 rfl ?_
        refine aw_putI dX11_go_166 fX11_99 hM.k hM.b rfl rfl ?_
        refine aw_goto (tgt := 297) dX11_go_169 rfl ?_
        refine aw_vret q rfl dX11_go_297 ⟨Nat.le_refl _, Nat.le_refl _⟩ ?_
        subst e
        refine ⟨rfl, rfl, rfl, rfl, GoF.put hF (by decide), ?_⟩
        rw [tok_w hf hn hl]
        have e9 : (tokW T s f).2.2.1 = 1 := if_pos (by omega)
        refine ⟨(if_neg (by omega)).trans hT, fI_n (by decide) hs, fI_n (by decide) h14, fI_n (by decide) h15, ?_, ?_, ?_⟩
        · rw [e9]
          exact fI_s
        · intro h9
          rw [e9] at h9
          exact absurd h9 (by decide)
        · intro h9
          rw [e9] at h9
          exact absurd h9 (by decide)
    · have hb := bI1.mp c92
      have hlt : t < s := tb_lt hb rfl
      refine aw_aload_n dX11_go_95 rfl ?_
      refine aw_getI dX11_go_96 fX11_89 hM.k hM.b rfl ?_
      refine aw_aload_n dX11_go_99 rfl ?_
      refine aw_getI dX11_go_100 fX11_96 hM.k hM.b rfl ?_
      refine aw_isub dX11_go_103 ?_
      refine aw_bipush (v := 8) dX11_go_104 rfl ?_
      refine aw_icmp_ge (tgt := 133) dX11_go_106 rfl (fun c106 => ?_) (fun c106 => ?_)
      · rw [h15, h14, pk_sub hft] at c106
        have h8 := (nI_leI (a := 8) (by decide) (by omega)).mp c106
        refine aw_aload_n dX11_go_133 rfl ?_
        refine aw_dup dX11_go_134 rfl ?_
        refine aw_getI dX11_go_135 fX11_89 hM.k hM.b rfl ?_
        refine aw_iconst (v := 1) dX11_go_138 rfl ?_
        refine aw_iadd dX11_go_139 ?_
        refine aw_putI dX11_go_140 fX11_89 hM.k hM.b rfl rfl ?_
        refine aw_goto (tgt := 81) dX11_go_143 rfl ?_
        refine ih hlt _ _ (by omega) ((runT_t hb rfl).symm.trans hr) hn hl ?_ ?_ ?_ ?_
        · exact GoF.put hF (by decide)
        · exact fI_n (by decide) h14
        · refine fI_s.trans ?_
          rw [h15]
          exact nI_1 t
        · exact hw.trans (wrd_st h8)
      · rw [h15, h14, pk_sub hft] at c106
        have h8 := mt (nI_leI (a := 8) (by decide) (by omega)).mpr c106
        refine aw_aload_n dX11_go_109 rfl ?_
        refine aw_aload_n dX11_go_110 rfl ?_
        refine aw_getL dX11_go_111 fX11_106 hM.k hM.b rfl ?_
        refine aw_iconst (v := 5) dX11_go_114 rfl ?_
        refine aw_lshl dX11_go_115 ?_
        refine aw_aload_n dX11_go_116 rfl ?_
        refine aw_aload_n dX11_go_117 rfl ?_
        refine aw_getI dX11_go_118 fX11_89 hM.k hM.b rfl ?_
        refine aw_cV dX11_go_121 kX11_92 mX11_byteAt (sX11_byteAt (T := T) (s := s) (k := t) hM hT hs hs9 h15 (by omega)) (Nat.le_of_ble_eq_true rfl) hM.k ⟨by decide, rfl⟩ hM.b rfl rfl (Nat.le_of_ble_eq_true rfl) ⟨Nat.le_refl _, Nat.le_refl _⟩ ?_
        refine aw_i2l dX11_go_124 ?_
        refine aw_ldc2 dX11_go_125 qX11_110 ?_
        refine aw_lsub dX11_go_128 ?_
        refine aw_lor dX11_go_129 ?_
        refine aw_putL dX11_go_130 fX11_106 hM.k hM.b rfl rfl ?_
        refine aw_aload_n dX11_go_133 rfl ?_
        refine aw_dup dX11_go_134 rfl ?_
        refine aw_getI dX11_go_135 fX11_89 hM.k hM.b rfl ?_
        refine aw_iconst (v := 1) dX11_go_138 rfl ?_
        refine aw_iadd dX11_go_139 ?_
        refine aw_putI dX11_go_140 fX11_89 hM.k hM.b rfl rfl ?_
        refine aw_goto (tgt := 81) dX11_go_143 rfl ?_
        refine ih hlt _ _ (by omega) ((runT_t hb rfl).symm.trans hr) hn hl ?_ ?_ ?_ ?_
        · exact GoF.put hF.putL (by decide)
        · exact fI_n (by decide) h14
        · refine fI_s.trans ?_
          rw [h15]
          exact nI_1 t
        · refine fL_s.trans ?_
          rw [hw]
          exact wrd_go hft (by omega)
  have ld : ∀ t, t ≤ s → ∀ J M, f ≤ t → runT isDig T s t = runT isDig T s f → ¬ tb T s f = -1 → isLet (tb T s f) = false → isDig (tb T s f) = true → GoF m I J L M → J m 14 = nI f → J m 15 = nI t → J m 17 = nmb T s f (min 3 (t - f)) → AW X g RX11 cX11_go 2 (2, 0, 0) (z, n, sh, 0, 0) (J) (M) 184 [some (.ref m), some (.int (tb T s f))] [] := by
    refine up_loop (fun t ht ih J M hft hr hn hnl hl hF h14 h15 hw => ?_)
    have hT : J (m + 5) = T := (hF.1 (m + 5) (by omega)).trans hT0
    have hs : J m 13 = nI s := (hF.2.1 13 (by decide) (by decide) (by decide) (by decide)).trans hs0
    refine aw_aload_n dX11_go_184 rfl ?_
    refine aw_aload_n dX11_go_185 rfl ?_
    refine aw_getI dX11_go_186 fX11_89 hM.k hM.b rfl ?_
    refine aw_cV dX11_go_189 kX11_92 mX11_byteAt (sX11_byteAt (T := T) (s := s) (k := t) hM hT hs hs9 h15 (by omega)) (Nat.le_of_ble_eq_true rfl) hM.k ⟨by decide, rfl⟩ hM.b rfl rfl (Nat.le_of_ble_eq_true rfl) ⟨Nat.le_refl _, Nat.le_refl _⟩ ?_
    refine aw_cS dX11_go_192 kX11_112 mX11_isDigit sX11_isDigit (Nat.le_of_ble_eq_true rfl) rfl rfl (Nat.le_of_ble_eq_true rfl) ⟨Nat.le_refl _, Nat.le_refl _⟩ ?_
    refine aw_if_eq (tgt := 247) dX11_go_195 rfl (fun c195 => ?_) (fun c195 => ?_)
    · have hb := bI0.mp c195
      have e : t = runT isDig T s f := (runT_f hb).symm.trans hr
      refine aw_aload_n dX11_go_247 rfl ?_
      refine aw_aload_n dX11_go_248 rfl ?_
      refine aw_getI dX11_go_249 fX11_89 hM.k hM.b rfl ?_
      refine aw_aload_n dX11_go_252 rfl ?_
      refine aw_getI dX11_go_253 fX11_96 hM.k hM.b rfl ?_
      refine aw_isub dX11_go_256 ?_
      refine aw_iconst (v := 3) dX11_go_257 rfl ?_
      refine aw_icmp_le (tgt := 265) dX11_go_258 rfl (fun c258 => ?_) (fun c258 => ?_)
      · rw [h15, h14, pk_sub hft] at c258
        have h8 := (nI_leI (b := 3) (by omega) (by decide)).mp c258
        refine aw_iconst (v := 3) dX11_go_265 rfl ?_
        refine aw_putI dX11_go_266 fX11_99 hM.k hM.b rfl rfl ?_
        refine aw_goto (tgt := 297) dX11_go_269 rfl ?_
        refine aw_vret q rfl dX11_go_297 ⟨Nat.le_refl _, Nat.le_refl _⟩ ?_
        subst e
        refine ⟨rfl, rfl, rfl, rfl, GoF.put hF (by decide), ?_⟩
        rw [tok_n hf hn hnl hl]
        have e9 : (tokN T s f).2.2.1 = 3 := if_neg (by omega)
        refine ⟨(if_neg (by omega)).trans hT, fI_n (by decide) hs, fI_n (by decide) h14, fI_n (by decide) h15, ?_, ?_, ?_⟩
        · rw [e9]
          exact fI_s
        · intro h9
          rw [e9] at h9
          exact absurd h9 (by decide)
        · intro _
          exact fI_n (by decide) hw
      · rw [h15, h14, pk_sub hft] at c258
        have h8 := mt (nI_leI (b := 3) (by omega) (by decide)).mpr c258
        refine aw_iconst (v := 1) dX11_go_261 rfl ?_
        refine aw_goto (tgt := 266) dX11_go_262 rfl ?_
        refine aw_putI dX11_go_266 fX11_99 hM.k hM.b rfl rfl ?_
        refine aw_goto (tgt := 297) dX11_go_269 rfl ?_
        refine aw_vret q rfl dX11_go_297 ⟨Nat.le_refl _, Nat.le_refl _⟩ ?_
        subst e
        refine ⟨rfl, rfl, rfl, rfl, GoF.put hF (by decide), ?_⟩
        rw [tok_n hf hn hnl hl]
        have e9 : (tokN T s f).2.2.1 = 1 := if_pos (by omega)
        refine ⟨(if_neg (by omega)).trans hT, fI_n (by decide) hs, fI_n (by decide) h14, fI_n (by decide) h15, ?_, ?_, ?_⟩
        · rw [e9]
          exact fI_s
        · intro h9
          rw [e9] at h9
          exact absurd h9 (by decide)
        · intro h9
          rw [e9] at h9
          exact absurd h9 (by decide)
    · have hb := bI1.mp c195
      have hlt : t < s := tb_lt hb rfl
      refine aw_aload_n dX11_go_198 rfl ?_
      refine aw_getI dX11_go_199 fX11_89 hM.k hM.b rfl ?_
      refine aw_aload_n dX11_go_202 rfl ?_
      refine aw_getI dX11_go_203 fX11_96 hM.k hM.b rfl ?_
      refine aw_isub dX11_go_206 ?_
      refine aw_iconst (v := 3) dX11_go_207 rfl ?_
      refine aw_icmp_ge (tgt := 234) dX11_go_208 rfl (fun c208 => ?_) (fun c208 => ?_)
      · rw [h15, h14, pk_sub hft] at c208
        have h8 := (nI_leI (a := 3) (by decide) (by omega)).mp c208
        refine aw_aload_n dX11_go_234 rfl ?_
        refine aw_dup dX11_go_235 rfl ?_
        refine aw_getI dX11_go_236 fX11_89 hM.k hM.b rfl ?_
        refine aw_iconst (v := 1) dX11_go_239 rfl ?_
        refine aw_iadd dX11_go_240 ?_
        refine aw_putI dX11_go_241 fX11_89 hM.k hM.b rfl rfl ?_
        refine aw_goto (tgt := 184) dX11_go_244 rfl ?_
        refine ih hlt _ _ (by omega) ((runT_t hb rfl).symm.trans hr) hn hnl hl ?_ ?_ ?_ ?_
        · exact GoF.put hF (by decide)
        · exact fI_n (by decide) h14
        · refine fI_s.trans ?_
          rw [h15]
          exact nI_1 t
        · exact fI_n (by decide) (hw.trans (nmb_st h8))
      · rw [h15, h14, pk_sub hft] at c208
        have h8 := mt (nI_leI (a := 3) (by decide) (by omega)).mpr c208
        refine aw_aload_n dX11_go_211 rfl ?_
        refine aw_bipush (v := 10) dX11_go_212 rfl ?_
        refine aw_aload_n dX11_go_214 rfl ?_
        refine aw_getI dX11_go_215 fX11_115 hM.k hM.b rfl ?_
        refine aw_imul dX11_go_218 ?_
        refine aw_aload_n dX11_go_219 rfl ?_
        refine aw_aload_n dX11_go_220 rfl ?_
        refine aw_getI dX11_go_221 fX11_89 hM.k hM.b rfl ?_
        refine aw_cV dX11_go_224 kX11_92 mX11_byteAt (sX11_byteAt (T := T) (s := s) (k := t) hM hT hs hs9 h15 (by omega)) (Nat.le_of_ble_eq_true rfl) hM.k ⟨by decide, rfl⟩ hM.b rfl rfl (Nat.le_of_ble_eq_true rfl) ⟨Nat.le_refl _, Nat.le_refl _⟩ ?_
        refine aw_iadd dX11_go_227 ?_
        refine aw_bipush (v := 48) dX11_go_228 rfl ?_
        refine aw_isub dX11_go_230 ?_
        refine aw_putI dX11_go_231 fX11_115 hM.k hM.b rfl rfl ?_
        refine aw_aload_n dX11_go_234 rfl ?_
        refine aw_dup dX11_go_235 rfl ?_
        refine aw_getI dX11_go_236 fX11_89 hM.k hM.b rfl ?_
        refine aw_iconst (v := 1) dX11_go_239 rfl ?_
        refine aw_iadd dX11_go_240 ?_
        refine aw_putI dX11_go_241 fX11_89 hM.k hM.b rfl rfl ?_
        refine aw_goto (tgt := 184) dX11_go_244 rfl ?_
        refine ih hlt _ _ (by omega) ((runT_t hb rfl).symm.trans hr) hn hnl hl ?_ ?_ ?_ ?_
        · exact GoF.put (GoF.put hF (by decide)) (by decide)
        · exact fI_n (by decide) (fI_n (by decide) h14)
        · refine fI_s.trans ?_
          rw [fI_n (by decide) h15]
          exact nI_1 t
        · refine fI_n (by decide) (fI_s.trans ?_)
          rw [hw]
          exact nmb_go hft (by omega)
  have sp : ∀ t, t ≤ s → ∀ J, GoF m I J L L → J m 15 = nI t → runT isSpc T s t = f → AW X g RX11 cX11_go 2 (2, 0, 0) (z, n, sh, 0, 0) (J) (L) 0 [some (.ref m), none] [] := by
    refine up_loop (fun t ht ih J hF h15 hr => ?_)
    have hT : J (m + 5) = T := (hF.1 (m + 5) (by omega)).trans hT0
    have hs : J m 13 = nI s := (hF.2.1 13 (by decide) (by decide) (by decide) (by decide)).trans hs0
    refine aw_aload_n dX11_go_0 rfl ?_
    refine aw_aload_n dX11_go_1 rfl ?_
    refine aw_getI dX11_go_2 fX11_89 hM.k hM.b rfl ?_
    refine aw_cV dX11_go_5 kX11_92 mX11_byteAt (sX11_byteAt (T := T) (s := s) (k := t) hM hT hs hs9 h15 (by omega)) (Nat.le_of_ble_eq_true rfl) hM.k ⟨by decide, rfl⟩ hM.b rfl rfl (Nat.le_of_ble_eq_true rfl) ⟨Nat.le_refl _, Nat.le_refl _⟩ ?_
    refine aw_bipush (v := 32) dX11_go_8 rfl ?_
    refine aw_icmp_eq (tgt := 26) dX11_go_10 rfl (fun c10 => ?_) (fun c10 => ?_)
    · have hb := isSpc_t (Or.inl c10)
      have hlt : t < s := tb_lt hb rfl
      refine aw_aload_n dX11_go_26 rfl ?_
      refine aw_dup dX11_go_27 rfl ?_
      refine aw_getI dX11_go_28 fX11_89 hM.k hM.b rfl ?_
      refine aw_iconst (v := 1) dX11_go_31 rfl ?_
      refine aw_iadd dX11_go_32 ?_
      refine aw_putI dX11_go_33 fX11_89 hM.k hM.b rfl rfl ?_
      refine aw_goto (tgt := 0) dX11_go_36 rfl ?_
      refine ih hlt _ (GoF.put hF (by decide)) (fI_s.trans ?_) ((runT_t hb rfl).symm.trans hr)
      rw [h15]
      exact nI_1 t
    · refine aw_aload_n dX11_go_13 rfl ?_
      refine aw_aload_n dX11_go_14 rfl ?_
      refine aw_getI dX11_go_15 fX11_89 hM.k hM.b rfl ?_
      refine aw_cV dX11_go_18 kX11_92 mX11_byteAt (sX11_byteAt (T := T) (s := s) (k := t) hM hT hs hs9 h15 (by omega)) (Nat.le_of_ble_eq_true rfl) hM.k ⟨by decide, rfl⟩ hM.b rfl rfl (Nat.le_of_ble_eq_true rfl) ⟨Nat.le_refl _, Nat.le_refl _⟩ ?_
      refine aw_bipush (v := 10) dX11_go_21 rfl ?_
      refine aw_icmp_ne (tgt := 39) dX11_go_23 rfl (fun c23 => ?_) (fun c23 => ?_)
      · have hb := isSpc_f c10 c23
        have e : f = t := hr.symm.trans (runT_f hb)
        subst e
        refine aw_aload_n dX11_go_39 rfl ?_
        refine aw_aload_n dX11_go_40 rfl ?_
        refine aw_getI dX11_go_41 fX11_89 hM.k hM.b rfl ?_
        refine aw_putI dX11_go_44 fX11_96 hM.k hM.b rfl rfl ?_
        refine aw_aload_n dX11_go_47 rfl ?_
        refine aw_aload_n dX11_go_48 rfl ?_
        refine aw_getI dX11_go_49 fX11_89 hM.k hM.b rfl ?_
        refine aw_cV dX11_go_52 kX11_92 mX11_byteAt (sX11_byteAt (T := T) (s := s) (k := f) hM ((if_neg (by omega)).trans hT) (fI_n (by decide) hs) hs9 (fI_n (by decide) h15) (by omega)) (Nat.le_of_ble_eq_true rfl) hM.k ⟨by decide, rfl⟩ hM.b rfl rfl (Nat.le_of_ble_eq_true rfl) ⟨Nat.le_refl _, Nat.le_refl _⟩ ?_
        refine aw_istore_n dX11_go_55 (by decide) rfl ?_
        refine aw_iload_n dX11_go_56 rfl ?_
        refine aw_iconst (v := (-1)) dX11_go_57 rfl ?_
        refine aw_icmp_ne (tgt := 69) dX11_go_58 rfl (fun c58 => ?_) (fun c58 => ?_)
        · refine aw_iload_n dX11_go_69 rfl ?_
          refine aw_cS dX11_go_70 kX11_102 mX11_isLetter sX11_isLetter (Nat.le_of_ble_eq_true rfl) rfl rfl (Nat.le_of_ble_eq_true rfl) ⟨Nat.le_refl _, Nat.le_refl _⟩ ?_
          refine aw_if_eq (tgt := 172) dX11_go_73 rfl (fun c73 => ?_) (fun c73 => ?_)
          · have hl := bI0.mp c73
            refine aw_iload_n dX11_go_172 rfl ?_
            refine aw_cS dX11_go_173 kX11_112 mX11_isDigit sX11_isDigit (Nat.le_of_ble_eq_true rfl) rfl rfl (Nat.le_of_ble_eq_true rfl) ⟨Nat.le_refl _, Nat.le_refl _⟩ ?_
            refine aw_if_eq (tgt := 272) dX11_go_176 rfl (fun c176 => ?_) (fun c176 => ?_)
            · have hd := bI0.mp c176
              refine aw_aload_n dX11_go_272 rfl ?_
              refine aw_dup dX11_go_273 rfl ?_
              refine aw_getI dX11_go_274 fX11_89 hM.k hM.b rfl ?_
              refine aw_iconst (v := 1) dX11_go_277 rfl ?_
              refine aw_iadd dX11_go_278 ?_
              refine aw_putI dX11_go_279 fX11_89 hM.k hM.b rfl rfl ?_
              refine aw_aload_n dX11_go_282 rfl ?_
              refine aw_iload_n dX11_go_283 rfl ?_
              refine aw_bipush (v := 59) dX11_go_284 rfl ?_
              refine aw_icmp_ne (tgt := 293) dX11_go_286 rfl (fun c286 => ?_) (fun c286 => ?_)
              · refine aw_iconst (v := 1) dX11_go_293 rfl ?_
                refine aw_putI dX11_go_294 fX11_99 hM.k hM.b rfl rfl ?_
                refine aw_vret q rfl dX11_go_297 ⟨Nat.le_refl _, Nat.le_refl _⟩ ?_
                refine ⟨rfl, rfl, rfl, rfl, GoF.put (GoF.put (GoF.put hF (by decide)) (by decide)) (by decide), ?_⟩
                rw [tok_x hf c58 hl hd]
                have e9 : (tokX T s f).2.2.1 = 1 := if_neg c286
                refine ⟨(if_neg (by omega)).trans ((if_neg (by omega)).trans ((if_neg (by omega)).trans hT)), fI_n (by decide) (fI_n (by decide) (fI_n (by decide) hs)), fI_n (by decide) (fI_n (by decide) (fI_s.trans h15)), fI_n (by decide) (fI_s.trans ?_), ?_, ?_, ?_⟩
                · rw [fI_n (by decide) h15]
                  exact nI_1 f
                · rw [e9]
                  exact fI_s
                · intro h9
                  rw [e9] at h9
                  exact absurd h9 (by decide)
                · intro h9
                  rw [e9] at h9
                  exact absurd h9 (by decide)
              · refine aw_iconst (v := 4) dX11_go_289 rfl ?_
                refine aw_goto (tgt := 294) dX11_go_290 rfl ?_
                refine aw_putI dX11_go_294 fX11_99 hM.k hM.b rfl rfl ?_
                refine aw_vret q rfl dX11_go_297 ⟨Nat.le_refl _, Nat.le_refl _⟩ ?_
                refine ⟨rfl, rfl, rfl, rfl, GoF.put (GoF.put (GoF.put hF (by decide)) (by decide)) (by decide), ?_⟩
                rw [tok_x hf c58 hl hd]
                have e9 : (tokX T s f).2.2.1 = 4 := if_pos c286
                refine ⟨(if_neg (by omega)).trans ((if_neg (by omega)).trans ((if_neg (by omega)).trans hT)), fI_n (by decide) (fI_n (by decide) (fI_n (by decide) hs)), fI_n (by decide) (fI_n (by decide) (fI_s.trans h15)), fI_n (by decide) (fI_s.trans ?_), ?_, ?_, ?_⟩
                · rw [fI_n (by decide) h15]
                  exact nI_1 f
                · rw [e9]
                  exact fI_s
                · intro h9
                  rw [e9] at h9
                  exact absurd h9 (by decide)
                · intro h9
                  rw [e9] at h9
                  exact absurd h9 (by decide)
            · have hd := bI1.mp c176
              refine aw_aload_n dX11_go_179 rfl ?_
              refine aw_iconst (v := 0) dX11_go_180 rfl ?_
              refine aw_putI dX11_go_181 fX11_115 hM.k hM.b rfl rfl ?_
              refine ld f hfs _ _ (Nat.le_refl _) rfl c58 hl hd (GoF.put (GoF.put hF (by decide)) (by decide)) (fI_n (by decide) (fI_s.trans h15)) (fI_n (by decide) (fI_n (by decide) h15)) ?_
              rw [Nat.sub_self]
              exact fI_s
          · have hl := bI1.mp c73
            refine aw_aload_n dX11_go_76 rfl ?_
            refine aw_lconst (v := 0) dX11_go_77 rfl ?_
            refine aw_putL dX11_go_78 fX11_106 hM.k hM.b rfl rfl ?_
            refine lw f hfs _ _ (Nat.le_refl _) rfl c58 hl (GoF.putL (GoF.put hF (by decide))) (fI_s.trans h15) (fI_n (by decide) h15) ?_
            rw [Nat.sub_self]
            exact fL_s
        · refine aw_aload_n dX11_go_61 rfl ?_
          refine aw_iconst (v := 0) dX11_go_62 rfl ?_
          refine aw_putI dX11_go_63 fX11_99 hM.k hM.b rfl rfl ?_
          refine aw_goto (tgt := 297) dX11_go_66 rfl ?_
          refine aw_vret q rfl dX11_go_297 ⟨Nat.le_refl _, Nat.le_refl _⟩ ?_
          refine ⟨rfl, rfl, rfl, rfl, GoF.put (GoF.put hF (by decide)) (by decide), ?_⟩
          rw [tok_end hf c58]
          refine ⟨(if_neg (by omega)).trans ((if_neg (by omega)).trans hT), fI_n (by decide) (fI_n (by decide) hs), fI_n (by decide) (fI_s.trans h15), fI_n (by decide) (fI_n (by decide) h15), fI_s, ?_, ?_⟩
          · intro h9
            exact absurd h9 (show ¬ (0 : Nat) = 2 by decide)
          · intro h9
            exact absurd h9 (show ¬ (0 : Nat) = 3 by decide)
      · have hb := isSpc_t (Or.inr c23)
        have hlt : t < s := tb_lt hb rfl
        refine aw_aload_n dX11_go_26 rfl ?_
        refine aw_dup dX11_go_27 rfl ?_
        refine aw_getI dX11_go_28 fX11_89 hM.k hM.b rfl ?_
        refine aw_iconst (v := 1) dX11_go_31 rfl ?_
        refine aw_iadd dX11_go_32 ?_
        refine aw_putI dX11_go_33 fX11_89 hM.k hM.b rfl rfl ?_
        refine aw_goto (tgt := 0) dX11_go_36 rfl ?_
        refine ih hlt _ (GoF.put hF (by decide)) (fI_s.trans ?_) ((runT_t hb rfl).symm.trans hr)
        rw [h15]
        exact nI_1 t
  exact sp t0 hts I GoF.rf ht0 hf.symm
end RefS
