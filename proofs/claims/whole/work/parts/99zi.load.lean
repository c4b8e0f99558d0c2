/-! the class: load -/
def LcF (I J : MI) (L M : ML) : Prop := (∀ a, a ≠ 69 → a ≠ 479 → 69 ≤ a → J a = I a) ∧ (∀ a, a ≠ 479 → (a = 0 ∨ 69 ≤ a) → M a = L a) ∧ J 69 1 = I 69 1
def LcP (z n : Nat) (sh : Shp) (I : MI) (L : ML) (T : Nat → Int32) (k : Nat) (x : Int32) (R : Nat → Int32) (Q : Nat → Int64) : PoT := fun v z' n' sh' J M => z' = z ∧ n' = n ∧ sh' = sh ∧
  ((¬ (0 ≤ x ∧ x ≤ nI k) ∧ v = some (.int (-1)) ∧ J = upI I 0 8 1 ∧ M = L) ∨
   ∃ s, x = nI s ∧ s ≤ k ∧ LcF I J L M ∧ J 479 2 = 0 ∧ FxS J 35 ∧
    ((∃ e, pText T s 901 (tok T s 0, mPlain R, Q) = .inl e ∧ v = some (.int (-1)) ∧ J 0 8 = 9 ∧ J 479 3 = nI e.1 ∧ J 479 4 = nI e.2 ∧ J 69 2 = I 69 2 ∧ ∀ a, 1 ≤ a → a < 35 → J a = I a ∧ M a = L a) ∨
     ∃ p, pText T s 901 (tok T s 0, mPlain R, Q) = .inr p ∧ v = some (.int (p.2.1 231)) ∧ J 0 8 = 0 ∧ J 479 3 = 0 ∧ J 479 4 = -1 ∧ J 69 2 = 0 ∧ CtS J M 1 p.2.1 p.2.2 ∧ Cn p.2.1))
section ClsS
variable {z n : Nat} {sh : Shp} {I : MI} {L : ML} {N : Nat → Int32} {Q : Nat → Int64}
set_option maxHeartbeats 4000000 in
set_option maxRecDepth 100000 in
theorem sX10_load (hX : IsX n sh) {T : Nat → Int32} {k : Nat} (hk9 : k ≤ 900) (hk : I 479 2 = nI k) (hT : I 480 = T) (hF : FxS I 35) (hFn : FxS I 1) (hKw : KwO L) {R : Nat → Int32} {x : Int32}  : CM yX10_load cX10_load 3 (Option.some .int) 8 0 0 [.ref 0, .int x] z n sh I L (LcP z n sh I L T k x R Q) := by
  refine CM.go [some (.ref 0), some (.int x), none] rfl rfl (Nat.le_of_ble_eq_true rfl) (fun X g q => ?_)
  refine aw_iload_n dX10_load_0 rfl ?_
  refine aw_if_lt (tgt := 15) dX10_load_1 rfl (fun c1 => ?_) (fun c1 => ?_)
  · refine aw_aload_n dX10_load_15 rfl ?_
    refine aw_iconst (v := 1) dX10_load_16 rfl ?_
    refine aw_cV dX10_load_17 kX10_76 mX10_fail (sX10_fail hX) (Nat.le_of_ble_eq_true rfl) hX.k ⟨by decide, rfl⟩ hX.b rfl rfl (Nat.le_of_ble_eq_true rfl) ⟨Nat.le_refl _, Nat.le_refl _⟩ ?_
    refine aw_iret q rfl dX10_load_20 ⟨Nat.le_refl _, Nat.le_refl _⟩ ?_
    refine ⟨rfl, rfl, rfl, Or.inl ⟨fun q => absurd q.1 (Int32.not_le.mpr c1), rfl, rfl, rfl⟩⟩
  · refine aw_iload_n dX10_load_4 rfl ?_
    refine aw_aload_n dX10_load_5 rfl ?_
    refine aw_getR (b := 479) dX10_load_6 fX10_29 hX.k hX.b rfl hX.r3 ?_
    refine aw_getI dX10_load_9 fX10_73 hX.rdr.1 (hX.lt (by decide)) rfl ?_
    refine AW.top hk ?_
    refine aw_icmp_le (tgt := 21) dX10_load_12 rfl (fun c12 => ?_) (fun c12 => ?_)
    · obtain ⟨s, hs31, rfl⟩ := nI_of c1
      have hsk : s ≤ k := (nI_leI (a := s) (b := k) hs31 (by omega)).mp c12
      refine aw_aload_n dX10_load_21 rfl ?_
      refine aw_getR (b := 479) dX10_load_22 fX10_29 hX.k hX.b rfl hX.r3 ?_
      refine aw_aload_n dX10_load_25 rfl ?_
      refine aw_getR (b := 35) dX10_load_26 fX10_16 hX.k hX.b rfl hX.r1 ?_
      refine aw_iload_n dX10_load_29 rfl ?_
      refine aw_tV dX10_load_30 kX10_80 mX6_readText (sX6_readText (s := s) hX (by omega) hT hF hKw (R := R) (Q := Q)) (Nat.le_of_ble_eq_true rfl) hX.rdr.1 ⟨by decide, rfl⟩ (hX.lt (by decide)) rfl rfl (Nat.le_of_ble_eq_true rfl) ⟨Nat.le_refl _, Nat.le_refl _⟩ (fun b J M hd => ?_)
      obtain ⟨hRF, hFX, hc⟩ := hd
      refine aw_istore_n dX10_load_33 (by decide) rfl ?_
      refine aw_aload_n dX10_load_34 rfl ?_
      refine aw_getR (b := 479) dX10_load_35 fX10_29 hX.k hX.b rfl hX.r3 ?_
      refine aw_iconst (v := 0) dX10_load_38 rfl ?_
      refine aw_putI dX10_load_39 fX10_73 hX.rdr.1 (hX.lt (by decide)) rfl rfl ?_
      refine aw_iload_n dX10_load_42 rfl ?_
      refine aw_if_ne (tgt := 53) dX10_load_43 rfl (fun c43 => ?_) (fun c43 => ?_)
      · rcases hc with ⟨hb, -⟩ | ⟨-, p, he, h3, h4, hC, hcn⟩
        · exact absurd hb c43
        have hC1 : CtS (upI J 479 2 0) M 35 p.2.1 p.2.2 := hC.fr hcn (fun a ha => upI_row2 (by omega)) (fun _ _ => rfl)
        have hF1 : FxS (upI J 479 2 0) 1 := hFn.fr (fun a ha => (upI_row2 (by omega)).trans (hRF.1 _ (by omega) (by omega)))
        refine aw_aload_n dX10_load_53 rfl ?_
        refine aw_getR (b := 1) dX10_load_54 fX10_10 hX.k hX.b rfl hX.r0 ?_
        refine aw_aload_n dX10_load_57 rfl ?_
        refine aw_getR (b := 35) dX10_load_58 fX10_16 hX.k hX.b rfl hX.r1 ?_
        refine aw_pV dX10_load_61 kX10_84 mX7_copy (sX7_copy hX.now hX.spr (Or.inl (by decide)) hF1 hC1 hcn) (Nat.le_of_ble_eq_true rfl) hX.now.k ⟨by decide, rfl⟩ hX.now.b0 rfl rfl (Nat.le_of_ble_eq_true rfl) ⟨Nat.le_refl _, Nat.le_refl _⟩ (fun J2 M2 hF2 hG2 hJ2 => ?_)
        
        refine aw_aload_n dX10_load_64 rfl ?_
        refine aw_getR (b := 69) dX10_load_65 fX10_22 hX.k hX.b rfl hX.r2 ?_
        refine aw_iconst (v := 0) dX10_load_68 rfl ?_
        refine aw_putI dX10_load_69 fX10_88 hX.his.2.1 (hX.lt (by decide)) rfl rfl ?_
        refine aw_aload_n dX10_load_72 rfl ?_
        refine aw_aload_n dX10_load_73 rfl ?_
        refine aw_getR (b := 1) dX10_load_74 fX10_10 hX.k hX.b rfl hX.r0 ?_
        refine aw_getI dX10_load_77 fX10_91 hX.now.k hX.now.b0 rfl ?_
        refine AW.top ((congrFun (upI_row2 (by decide)) _).trans hJ2.np) ?_
        refine aw_cV dX10_load_80 kX10_94 mX10_answer (sX10_answer hX) (Nat.le_of_ble_eq_true rfl) hX.k ⟨by decide, rfl⟩ hX.b rfl rfl (Nat.le_of_ble_eq_true rfl) ⟨Nat.le_refl _, Nat.le_refl _⟩ ?_
        refine aw_iret q rfl dX10_load_83 ⟨Nat.le_refl _, Nat.le_refl _⟩ ?_
        have e9 : ∀ x, x ≠ 0 → x ≠ 69 → upI (upI J2 69 2 0) 0 8 0 x = J2 x := fun x x0 x1 => (upI_row2 x0).trans (upI_row2 x1)
        have e8 : ∀ x, (x < 1 ∨ 35 ≤ x) → J2 x = upI J 479 2 0 x := fun x hx => hF2 x (by omega)
        refine ⟨rfl, rfl, rfl, Or.inr ⟨s, rfl, hsk, ⟨fun a a1 a2 a3 => (e9 a (by omega) a1).trans ((e8 a (by omega)).trans ((upI_row2 a2).trans (hRF.1 a a2 (by omega)))), fun a a1 a2 => (hG2 a (by omega)).trans (hRF.2.2 a a1 (by omega)), ?_⟩, ?_, ?_, Or.inr ⟨p, he, rfl, upI_s, ?_, ?_, ?_, ?_, hcn⟩⟩⟩
        · exact (congrFun (upI_row2 (by decide)) _).trans ((upI_n (Or.inr (by decide))).trans ((congrFun (e8 69 (by decide)) 1).trans ((congrFun (upI_row2 (by decide)) _).trans (congrFun (hRF.1 69 (by decide) (by decide)) 1))))
        · exact (congrFun (e9 479 (by decide) (by decide)) 2).trans ((congrFun (e8 479 (by decide)) 2).trans upI_s)
        · exact hFX.fr (fun a ha => (e9 _ (by omega) (by omega)).trans ((e8 _ (by omega)).trans (upI_row2 (by omega))))
        · exact (congrFun (e9 479 (by decide) (by decide)) 3).trans ((congrFun (e8 479 (by decide)) 3).trans ((upI_n (Or.inr (by decide))).trans h3))
        · exact (congrFun (e9 479 (by decide) (by decide)) 4).trans ((congrFun (e8 479 (by decide)) 4).trans ((upI_n (Or.inr (by decide))).trans h4))
        · exact (congrFun (upI_row2 (by decide)) _).trans upI_s
        · exact hJ2.fr hcn (fun a ha => by
            by_cases h0 : 1 + a = 69
            · omega
            · exact e9 _ (by omega) h0) (fun _ _ => rfl)
      · rcases hc with ⟨-, e, he, h3, h4⟩ | ⟨hb, -⟩
        rotate_left
        · exact absurd (hb.symm.trans c43) (by decide)
        refine aw_aload_n dX10_load_46 rfl ?_
        refine aw_bipush (v := 9) dX10_load_47 rfl ?_
        refine aw_cV dX10_load_49 kX10_76 mX10_fail (sX10_fail hX) (Nat.le_of_ble_eq_true rfl) hX.k ⟨by decide, rfl⟩ hX.b rfl rfl (Nat.le_of_ble_eq_true rfl) ⟨Nat.le_refl _, Nat.le_refl _⟩ ?_
        refine aw_iret q rfl dX10_load_52 ⟨Nat.le_refl _, Nat.le_refl _⟩ ?_
        refine ⟨rfl, rfl, rfl, Or.inr ⟨s, rfl, hsk, ⟨fun a a1 a2 a3 => (upI_row2 (by omega)).trans ((upI_row2 a2).trans (hRF.1 a a2 (by omega))), fun a a1 a2 => hRF.2.2 a a1 (by omega), ?_⟩, ?_, ?_, Or.inl ⟨e, he, rfl, upI_s, ?_, ?_, ?_, fun a a1 a2 => ⟨(upI_row2 (by omega)).trans ((upI_row2 (by omega)).trans (hRF.1 a (by omega) (by omega))), hRF.2.2 a (by omega) (by omega)⟩⟩⟩⟩
        · exact (congrFun (upI_row2 (by decide)) _).trans ((congrFun (upI_row2 (by decide)) _).trans (congrFun (hRF.1 69 (by decide) (by decide)) 1))
        · exact (congrFun (upI_row2 (by decide)) _).trans upI_s
        · exact hFX.fr (fun a ha => (upI_row2 (by omega)).trans (upI_row2 (by omega)))
        · exact (congrFun (upI_row2 (by decide)) _).trans ((upI_n (Or.inr (by decide))).trans h3)
        · exact (congrFun (upI_row2 (by decide)) _).trans ((upI_n (Or.inr (by decide))).trans h4)
        · exact (congrFun (upI_row2 (by decide)) _).trans ((congrFun (upI_row2 (by decide)) _).trans (congrFun (hRF.1 69 (by decide) (by decide)) 2))
    · skip
      refine aw_aload_n dX10_load_15 rfl ?_
      refine aw_iconst (v := 1) dX10_load_16 rfl ?_
      refine aw_cV dX10_load_17 kX10_76 mX10_fail (sX10_fail hX) (Nat.le_of_ble_eq_true rfl) hX.k ⟨by decide, rfl⟩ hX.b rfl rfl (Nat.le_of_ble_eq_true rfl) ⟨Nat.le_refl _, Nat.le_refl _⟩ ?_
      refine aw_iret q rfl dX10_load_20 ⟨Nat.le_refl _, Nat.le_refl _⟩ ?_
      refine ⟨rfl, rfl, rfl, Or.inl ⟨fun q => c12 q.2, rfl, rfl, rfl⟩⟩
end ClsS
