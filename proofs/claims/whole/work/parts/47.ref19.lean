/-! the reference: load -/
theorem AW.gen {X : Cx} {g : Gd} {own : String} {cc : ByteArray} {nL : Nat} {Bd : Nat × Nat × Nat} {E : En} {I : MI} {L : ML} {pc : Nat} {Lc : List (Option Value)} {st : List Value} (P : MI → Prop) (h : P I) (k : ∀ J, P J → AW X g own cc nL Bd E J L pc Lc st) : AW X g own cc nL Bd E I L pc Lc st := k I h
theorem AW.genL {X : Cx} {g : Gd} {own : String} {cc : ByteArray} {nL : Nat} {Bd : Nat × Nat × Nat} {E : En} {I : MI} {L : ML} {pc : Nat} {Lc : List (Option Value)} {st : List Value} (P : MI → ML → Prop) (h : P I L) (k : ∀ J M, P J M → AW X g own cc nL Bd E J M pc Lc st) : AW X g own cc nL Bd E I L pc Lc st := k I L h
theorem mPlain_0 {f : Nat → Int32} {k : Nat} (h : k < 390) (h1 : k ≠ 224) (h2 : k ≠ 225) (h3 : k ≠ 228) (h4 : k ≠ 229) : mPlain f k = 0 := by
  unfold mPlain
  rw [pk_un h4, pk_un h3, pk_un h2, pk_un h1, fa_fill_in h]
theorem mPlain_r {f : Nat → Int32} : mPlain f 224 = 3 ∧ mPlain f 225 = 4 ∧ mPlain f 228 = 999 ∧ mPlain f 229 = 2 := by
  unfold mPlain
  refine ⟨?_, ?_, ?_, pk_us⟩
  · rw [pk_un (by decide), pk_un (by decide), pk_un (by decide), pk_us]
  · rw [pk_un (by decide), pk_un (by decide), pk_us]
  · rw [pk_un (by decide), pk_us]
theorem PG.plain {f : Nat → Int32} : PG (mPlain f) 0 0 := by
  refine ⟨⟨by decide, by decide⟩, fun h hh => absurd hh (Nat.not_lt_zero h), fun h hh => absurd hh (Nat.not_lt_zero h), fun k _ k2 => mPlain_0 (by omega) (by omega) (by omega) (by omega) (by omega), fun k _ k2 => mPlain_0 (by omega) (by omega) (by omega) (by omega) (by omega), fun k k1 k2 => mPlain_0 k2 (by omega) (by omega) (by omega) (by omega), fun r hr => ?_⟩
  obtain ⟨a1, a2, a3, a4⟩ := mPlain_r (f := f)
  match r, hr with
  | 0, _ => rw [a1]; decide
  | 1, _ => rw [a2]; decide
  | 2, _ => rw [mPlain_0 (by decide) (by decide) (by decide) (by decide) (by decide)]; decide
  | 3, _ => rw [mPlain_0 (by decide) (by decide) (by decide) (by decide) (by decide)]; decide
  | 4, _ => rw [a3]; decide
  | 5, _ => rw [a4]; decide
theorem PI.plain {T f : Nat → Int32} {s : Nat} {Q : Nat → Int64} : PI T s (tok T s 0, mPlain f, Q) := by
  have e1 : mPlain f 230 = nI 0 := mPlain_0 (by decide) (by decide) (by decide) (by decide) (by decide)
  have e2 : mPlain f 231 = nI 0 := mPlain_0 (by decide) (by decide) (by decide) (by decide) (by decide)
  have h1 : cH (mPlain f) = 0 := cH_eq e1 (by decide)
  have h2 : cP (mPlain f) = 0 := cP_eq e2 (by decide)
  refine ⟨⟨0, Nat.zero_le _, rfl⟩, ⟨?_, ?_, ?_, ?_⟩, ?_, fun h hh => ?_, fun q hq => ?_⟩
  · show mPlain f 230 = nI (cH (mPlain f))
    rw [h1]
    exact e1
  · show cH (mPlain f) ≤ 10
    omega
  · show mPlain f 231 = nI (cP (mPlain f))
    rw [h2]
    exact e2
  · show cP (mPlain f) ≤ 8
    omega
  · show PG (mPlain f) (cH (mPlain f)) (cP (mPlain f))
    rw [h1, h2]
    exact PG.plain
  · have hh : h < cH (mPlain f) := hh
    omega
  · have hq : q < cP (mPlain f) := hq
    omega
theorem PI.z {T : Nat → Int32} {s : Nat} {p : PSt} (h : PI T s p) : ∀ q, cP p.2.1 ≤ q → q < 8 → p.2.1 (80 + 18 * q + 11) = 0 := fun q h1 h2 => h.2.2.1.2.2.2.2.1 _ (by omega) (by omega)
/-- a load's start -/
def LdA (I : MI) (m s : Nat) (J : MI) : Prop := (∀ a, a ≠ m → a ≠ m + 2 → J a = I a) ∧ J (m + 2) = mPlain (I (m + 2)) ∧ (∀ k, k ≠ 8 → k ≠ 13 → k ≠ 15 → k ≠ 18 → k ≠ 19 → J m k = I m k) ∧ J m 13 = nI s ∧ J m 8 = 0 ∧ J m 15 = nI 0 ∧ J m 18 = 0 ∧ J m 19 = -1
def LdF (m : Nat) (I J : MI) (L M : ML) : Prop := (∀ a, a ≠ m → a ≠ m + 1 → a ≠ m + 2 → J a = I a) ∧ (∀ k, 19 < k → J m k = I m k) ∧ ∀ a, a ≠ m → a ≠ m + 6 → a ≠ m + 7 → M a = L a
def LdP (z n : Nat) (sh : Shp) (I : MI) (L : ML) (m : Nat) (T : Nat → Int32) (tp : Nat) (x : Int32) : PoT := fun v z' n' sh' J M => z' = z ∧ n' = n ∧ sh' = sh ∧
  ((¬ (0 ≤ x ∧ x ≤ nI tp) ∧ v = some (.int (-1)) ∧ J = stt I m 1 ∧ M = L) ∨
   ∃ s, x = nI s ∧ s ≤ tp ∧ LdF m I J L M ∧ J m 0 = 0 ∧ J m 8 = 0 ∧
    ((∃ e, pText T s 901 (tok T s 0, mPlain (I (m + 2)), L (m + 7)) = .inl e ∧ v = some (.int (-1)) ∧ J m 9 = 9 ∧ J m 10 = nI e.1 ∧ J m 11 = nI e.2 ∧ J m 12 = I m 12 ∧ J (m + 1) = I (m + 1) ∧ M (m + 6) = L (m + 6)) ∨
     ∃ p, pText T s 901 (tok T s 0, mPlain (I (m + 2)), L (m + 7)) = .inr p ∧ PI T s p ∧ v = some (.int (p.2.1 231)) ∧ J m 9 = 0 ∧ J m 10 = 0 ∧ J m 11 = -1 ∧ J m 12 = 0 ∧ J (m + 1) = mCopy p.2.1 (I (m + 1)) ∧ ∀ k, k < 18 → M (m + 6) k = p.2.2 k))
/-- from the start of a load: what reading leaves -/
theorem LdA.f {I I6 J : MI} {L M : ML} {m s : Nat} (h : LdA I m s I6) (hF : RdF m I6 J L M) : (∀ a, a ≠ m → a ≠ m + 2 → J a = I a) ∧ (∀ k, (k < 14 ∨ 19 < k) → k ≠ 8 → k ≠ 13 → J m k = I m k) ∧ J m 8 = 0 ∧ ∀ a, a ≠ m → a ≠ m + 7 → M a = L a :=
  ⟨fun a h1 h2 => (hF.1 a h1 h2).trans (h.1 a h1 h2), fun k k1 k2 k3 => (hF.2.1 k k1).trans (h.2.2.1 k k2 k3 (by omega) (by omega) (by omega)), (hF.2.1 8 (by decide)).trans h.2.2.2.2.1, hF.2.2⟩
section RefS
variable {z n m : Nat} {sh : Shp} {I : MI} {L : ML}
set_option maxHeartbeats 4000000 in
set_option maxRecDepth 100000 in
theorem rX11_load (hM : IsM n sh m) {T : Nat → Int32} {tp : Nat} (hT : I (m + 5) = T) (htp : I m 8 = nI tp) (htp9 : tp ≤ 900) {x : Int32} : CM yX11_load cX11_load 4 (Option.some .int) 9 0 0 [.ref m, .int x] z n sh I L (LdP z n sh I L m T tp x) := by
  refine CM.go [some (.ref m), some (.int x), none, none] rfl rfl (Nat.le_of_ble_eq_true rfl) (fun X g q => ?_)
  have bad : ∀ (s : Nat) (I6 J : MI) (M : ML) (e : Nat × Nat), x = nI s → s ≤ tp → LdA I m s I6 → RdF m I6 J L M → J m 18 = nI e.1 → J m 19 = nI e.2 → pText T s 901 (tok T s 0, mPlain (I (m + 2)), L (m + 7)) = .inl e → AW X g RX11 cX11_load 4 (9, 0, 0) (z, n, sh, 0, 0) (J) (M) 56 [some (.ref m), some (.int x), some (.int 0), none] [] := by
    intro s I6 J M e hx hsp hA6 hF h18 h19 hE
    refine aw_iload_n dX11_load_56 rfl ?_
    refine aw_if_eq (tgt := 75) dX11_load_57 rfl (fun c57 => ?_) (fun c57 => ?_)
    · obtain ⟨g1, g2, g3, g4⟩ := hA6.f hF
      refine aw_aload_n dX11_load_75 rfl ?_
      refine aw_aload_n dX11_load_76 rfl ?_
      refine aw_getI dX11_load_77 fX11_133 hM.k hM.b rfl ?_
      refine aw_putI dX11_load_80 fX11_32 hM.k hM.b rfl rfl ?_
      refine aw_aload_n dX11_load_83 rfl ?_
      refine aw_aload_n dX11_load_84 rfl ?_
      refine aw_getI dX11_load_85 fX11_136 hM.k hM.b rfl ?_
      refine aw_putI dX11_load_88 fX11_36 hM.k hM.b rfl rfl ?_
      refine aw_iload_n dX11_load_91 rfl ?_
      refine aw_if_ne (tgt := 102) dX11_load_92 rfl (fun c92 => ?_) (fun c92 => ?_)
      · exact absurd rfl c92
      · skip
        refine aw_aload_n dX11_load_95 rfl ?_
        refine aw_bipush (v := 9) dX11_load_96 rfl ?_
        refine aw_cV dX11_load_98 kX11_186 mX11_refuse (sX11_refuse hM) (Nat.le_of_ble_eq_true rfl) hM.k ⟨by decide, rfl⟩ hM.b rfl rfl (Nat.le_of_ble_eq_true rfl) ⟨Nat.le_refl _, Nat.le_refl _⟩ ?_
        refine aw_iret q rfl dX11_load_101 ⟨Nat.le_refl _, Nat.le_refl _⟩ ?_
        refine ⟨rfl, rfl, rfl, Or.inr ⟨s, hx, hsp, ⟨fun a a1 a2 a3 => ?_, fun k hk => ?_, fun a a1 a2 a3 => g4 a a1 a3⟩, ?_, ?_, Or.inl ⟨e, hE, rfl, fI_s, ?_, ?_, ?_, ?_, ?_⟩⟩⟩
        · exact (if_neg a1).trans ((if_neg a1).trans ((if_neg a1).trans ((if_neg a1).trans (g1 a a1 a3))))
        · exact fI_n (by omega) (fI_n (by omega) (fI_n (by omega) (fI_n (by omega) (g2 k (by omega) (by omega) (by omega)))))
        · exact fI_n (by decide) fI_s
        · exact fI_n (by decide) (fI_n (by decide) (fI_n (by decide) (fI_n (by decide) g3)))
        · exact fI_n (by decide) (fI_n (by decide) (fI_n (by decide) (fI_s.trans h18)))
        · exact fI_n (by decide) (fI_n (by decide) (fI_s.trans (fI_n (by decide) h19)))
        · exact fI_n (by decide) (fI_n (by decide) (fI_n (by decide) (fI_n (by decide) (g2 12 (by omega) (by omega) (by omega)))))
        · exact (if_neg (by omega)).trans ((if_neg (by omega)).trans ((if_neg (by omega)).trans ((if_neg (by omega)).trans (g1 _ (by omega) (by omega)))))
        · exact g4 _ (by omega) (by omega)
    · exact absurd rfl c57
  have good : ∀ (s : Nat) (I6 J : MI) (M : ML) (p : PSt), x = nI s → s ≤ tp → LdA I m s I6 → RdF m I6 J L M → J m 18 = 0 → J m 19 = -1 → Ps J M m T s p → PI T s p → pText T s 901 (tok T s 0, mPlain (I (m + 2)), L (m + 7)) = .inr p → AW X g RX11 cX11_load 4 (9, 0, 0) (z, n, sh, 0, 0) (J) (M) 75 [some (.ref m), some (.int x), some (.int 1), none] [] := by
    intro s I6 J M p hx hsp hA6 hF h18 h19 hP hpi hE
    obtain ⟨g1, g2, g3, g4⟩ := hA6.f hF
    have nam : ∀ (K : MI), (∀ a, a ≠ m → a ≠ m + 1 → a ≠ m + 2 → K a = I a) ∧ (∀ k, 19 < k → K m k = I m k) ∧ K m 8 = 0 ∧ K m 10 = 0 ∧ K m 11 = -1 ∧ K (m + 1) = mCopy p.2.1 (I (m + 1)) → ∀ i, i ≤ 18 → ∀ (O : ML), (∀ a, a ≠ m + 6 → O a = M a) → (∀ k, k < i → O (m + 6) k = p.2.2 k) → AW X g RX11 cX11_load 4 (9, 0, 0) (z, n, sh, 0, 0) (K) (O) 115 [some (.ref m), some (.int x), some (.int 1), some (.int (nI i))] [] := by
      intro K ⟨k1, k2, k3, k4, k5, k6⟩
      refine up_loop (fun i hi ih O o1 o2 => ?_)
      refine aw_iload_n dX11_load_115 rfl ?_
      refine aw_bipush (v := 18) dX11_load_116 rfl ?_
      refine aw_icmp_ge (tgt := 139) dX11_load_118 rfl (fun c118 => ?_) (fun c118 => ?_)
      · have e := ge_t (B := 18) rfl (by decide) hi c118
        subst e
        refine aw_aload_n dX11_load_139 rfl ?_
        refine aw_iconst (v := 0) dX11_load_140 rfl ?_
        refine aw_putI dX11_load_141 fX11_196 hM.k hM.b rfl rfl ?_
        refine aw_aload_n dX11_load_144 rfl ?_
        refine aw_aload_n dX11_load_145 rfl ?_
        refine aw_getR (b := m + 1) dX11_load_146 fX11_7 hM.k hM.b rfl hM.r0 ?_
        refine aw_sipush (v := 231) dX11_load_149 rfl ?_
        refine aw_ialdN (k := 231) dX11_load_152 hM.k0 hM.b0 hM.l0 rfl (by decide) (by decide) ?_
        refine AW.top (y := p.2.1 231) (by rw [upI_off (by omega) k6]; exact fa_fill_in (by decide)) ?_
        refine aw_cV dX11_load_153 kX11_199 mX11_gives (sX11_gives hM) (Nat.le_of_ble_eq_true rfl) hM.k ⟨by decide, rfl⟩ hM.b rfl rfl (Nat.le_of_ble_eq_true rfl) ⟨Nat.le_refl _, Nat.le_refl _⟩ ?_
        refine aw_iret q rfl dX11_load_156 ⟨Nat.le_refl _, Nat.le_refl _⟩ ?_
        refine ⟨rfl, rfl, rfl, Or.inr ⟨s, hx, hsp, ⟨fun a a1 a2 a3 => ?_, fun k hk => ?_, fun a a1 a2 a3 => (o1 a a2).trans (g4 a a1 a3)⟩, ?_, ?_, Or.inr ⟨p, hE, hpi, rfl, fI_s, ?_, ?_, ?_, ?_, o2⟩⟩⟩
        · exact (if_neg a1).trans ((if_neg a1).trans ((if_neg a1).trans (k1 a a1 a2 a3)))
        · exact fI_n (by omega) (fI_n (by omega) (fI_n (by omega) (k2 k hk)))
        · exact fI_n (by decide) fI_s
        · exact fI_n (by decide) (fI_n (by decide) (fI_n (by decide) k3))
        · exact fI_n (by decide) (fI_n (by decide) (fI_n (by decide) k4))
        · exact fI_n (by decide) (fI_n (by decide) (fI_n (by decide) k5))
        · exact fI_n (by decide) (fI_n (by decide) fI_s)
        · exact (if_neg (by omega)).trans ((if_neg (by omega)).trans ((if_neg (by omega)).trans k6))
      · have hlt := ge_f (B := 18) rfl (by decide) hi c118
        refine aw_aload_n dX11_load_121 rfl ?_
        refine aw_getR (b := m + 6) dX11_load_122 fX11_25 hM.k hM.b rfl hM.r5 ?_
        refine aw_iload_n dX11_load_125 rfl ?_
        refine aw_aload_n dX11_load_126 rfl ?_
        refine aw_getR (b := m + 7) dX11_load_127 fX11_29 hM.k hM.b rfl hM.r6 ?_
        refine aw_iload_n dX11_load_130 rfl ?_
        refine aw_laldN (k := i) dX11_load_131 hM.k6 hM.b6 hM.l6 rfl (by omega) (by decide) ?_
        refine aw_lastN (k := i) dX11_load_132 hM.k5 hM.b5 hM.l5 rfl (by omega) (by decide) ?_
        refine aw_iinc dX11_load_133 rfl (ginc rfl) (by decide) rfl ?_
        refine aw_goto (tgt := 115) dX11_load_136 rfl ?_
        refine ih hlt _ (fun a ha => (if_neg ha).trans (o1 a ha)) (fun k hk => ?_)
        show (if m + 6 = m + 6 then vp_updL (O (m + 6)) i (O (m + 7) i) else _) k = _
        rw [if_pos rfl]
        by_cases ek : k = i
        · subst ek
          rw [pk_uLs, o1 _ (by omega), hP.2.2.2]
        · rw [pk_uLn ek]
          exact o2 k (by omega)
    refine aw_aload_n dX11_load_75 rfl ?_
    refine aw_aload_n dX11_load_76 rfl ?_
    refine aw_getI dX11_load_77 fX11_133 hM.k hM.b rfl ?_
    refine aw_putI dX11_load_80 fX11_32 hM.k hM.b rfl rfl ?_
    refine aw_aload_n dX11_load_83 rfl ?_
    refine aw_aload_n dX11_load_84 rfl ?_
    refine aw_getI dX11_load_85 fX11_136 hM.k hM.b rfl ?_
    refine aw_putI dX11_load_88 fX11_36 hM.k hM.b rfl rfl ?_
    refine aw_iload_n dX11_load_91 rfl ?_
    refine aw_if_ne (tgt := 102) dX11_load_92 rfl (fun c92 => ?_) (fun c92 => ?_)
    · skip
      refine aw_aload_n dX11_load_102 rfl ?_
      refine aw_getR (b := m + 2) dX11_load_103 fX11_13 hM.k hM.b rfl hM.r1 ?_
      refine aw_aload_n dX11_load_106 rfl ?_
      refine aw_getR (b := m + 1) dX11_load_107 fX11_7 hM.k hM.b rfl hM.r0 ?_
      refine aw_cS dX11_load_110 kX11_192 mX11_copies (rX11_copies hM.k1 hM.b1 hM.l1 hM.k0 hM.b0 hM.l0 (by omega)) (Nat.le_of_ble_eq_true rfl) rfl rfl (Nat.le_of_ble_eq_true rfl) ⟨Nat.le_refl _, Nat.le_refl _⟩ ?_
      refine aw_iconst (v := 0) dX11_load_113 rfl ?_
      refine aw_istore_n dX11_load_114 (by decide) rfl ?_
      refine nam _ ⟨fun a a1 a2 a3 => ?_, fun k hk => ?_, ?_, ?_, ?_, ?_⟩ 0 (Nat.zero_le _) M (fun _ _ => rfl) (fun k hk => absurd hk (Nat.not_lt_zero k))
      · exact (if_neg a2).trans ((if_neg a1).trans ((if_neg a1).trans (g1 a a1 a3)))
      · exact (congrFun (if_neg (by omega)) _).trans (fI_n (by omega) (fI_n (by omega) (g2 k (by omega) (by omega) (by omega))))
      · exact (congrFun (if_neg (by omega)) _).trans (fI_n (by decide) (fI_n (by decide) g3))
      · exact (congrFun (if_neg (by omega)) _).trans (fI_n (by decide) (fI_s.trans h18))
      · exact (congrFun (if_neg (by omega)) _).trans (fI_s.trans (fI_n (by decide) h19))
      · rw [upA_self, upI_off (by omega) (upI_off (by omega) hP.2.2.1), upI_off (by omega) (upI_off (by omega) (g1 (m + 1) (by omega) (by omega)))]
    · exact absurd c92 (by decide)
  have lines : ∀ (s : Nat) (I6 : MI), x = nI s → s ≤ tp → LdA I m s I6 → ∀ d (J : MI) (M : ML) (p : PSt), RdF m I6 J L M → J m 18 = 0 → J m 19 = -1 → Ps J M m T s p → PI T s p → 901 ≤ p.1.1 + d → pText T s 901 (tok T s 0, mPlain (I (m + 2)), L (m + 7)) = pText T s d p → AW X g RX11 cX11_load 4 (9, 0, 0) (z, n, sh, 0, 0) (J) (M) 56 [some (.ref m), some (.int x), some (.int 1), none] [] := by
    intro s I6 hx hsp hA6 d
    induction d with
    | zero =>
      intro J M p hF h18 h19 hP hpi hd hE
      have := hpi.1.o
      have h1 := this.1
      have h2 := this.2.1
      omega
    | succ d ih =>
      intro J M p hF h18 h19 hP hpi hd hE
      refine aw_iload_n dX11_load_56 rfl ?_
      refine aw_if_eq (tgt := 75) dX11_load_57 rfl (fun c57 => ?_) (fun c57 => ?_)
      · exact absurd c57 (by decide)
      · skip
        refine aw_aload_n dX11_load_60 rfl ?_
        refine aw_getI dX11_load_61 fX11_99 hM.k hM.b rfl ?_
        refine aw_if_eq (tgt := 75) dX11_load_64 rfl (fun c64 => ?_) (fun c64 => ?_)
        · rw [hP.1.2.2.2.2.1] at c64
          have k0 := (kind_eq hP.2.1 (j := 0) (by decide)).mp c64
          exact good s I6 J M p hx hsp hA6 hF h18 h19 hP hpi (hE.trans (pT_0 k0))
        · rw [hP.1.2.2.2.2.1] at c64
          have k0 := mt (kind_eq hP.2.1 (j := 0) (by decide)).mpr c64
          rw [pT_1 k0] at hE
          refine aw_aload_n dX11_load_67 rfl ?_
          refine aw_callV dX11_load_68 kX11_189 mX11_readLine (rX11_readLine hM (by omega) hP hpi.2.1 hpi.z) (Nat.le_of_ble_eq_true rfl) hM.k ⟨by decide, rfl⟩ hM.b rfl rfl (Nat.le_of_ble_eq_true rfl) ⟨Nat.le_refl _, Nat.le_refl _⟩ (fun v1 z1 n1 sh1 J1 M1 hp1 => ?_)
          obtain ⟨b1, rfl, rfl, rfl, rfl, hF1, hr1⟩ := hp1
          refine aw_istore_n dX11_load_71 (by decide) rfl ?_
          refine aw_goto (tgt := 56) dX11_load_72 rfl ?_
          rcases hr1 with ⟨rfl, e, he, h81, h91⟩ | ⟨rfl, p1, he, h81, h91, hP1⟩
          · exact bad s I6 _ _ e hx hsp hA6 (hF.tr hF1) h81 h91 (hE.trans (pB_l he))
          · have hl := pLine_in hpi he
            exact ih _ _ p1 (hF.tr hF1) (h81.trans h18) (h91.trans h19) hP1 hl.1 (by omega) (hE.trans (pB_r he))
  refine aw_iload_n dX11_load_0 rfl ?_
  refine aw_iconst (v := 0) dX11_load_1 rfl ?_
  refine aw_aload_n dX11_load_2 rfl ?_
  refine aw_getI dX11_load_3 fX11_79 hM.k hM.b rfl ?_
  refine aw_cS dX11_load_6 kX11_71 mX11_isFrom (sX11_isFrom hM) (Nat.le_of_ble_eq_true rfl) rfl rfl (Nat.le_of_ble_eq_true rfl) ⟨Nat.le_refl _, Nat.le_refl _⟩ ?_
  refine aw_if_ne (tgt := 18) dX11_load_9 rfl (fun c9 => ?_) (fun c9 => ?_)
  · have f9 := bI1.mp c9
    rw [htp] at f9
    have g9 : 0 ≤ x ∧ x ≤ nI tp := by simpa [mFrom] using f9
    obtain ⟨s, hx, -, hsp⟩ := rng (x := 0) (y := tp) (by omega) g9.1 g9.2 (by decide)
    refine aw_aload_n dX11_load_18 rfl ?_
    refine aw_iload_n dX11_load_19 rfl ?_
    refine aw_putI dX11_load_20 fX11_86 hM.k hM.b rfl rfl ?_
    refine aw_aload_n dX11_load_23 rfl ?_
    refine aw_iconst (v := 0) dX11_load_24 rfl ?_
    refine aw_putI dX11_load_25 fX11_79 hM.k hM.b rfl rfl ?_
    refine aw_aload_n dX11_load_28 rfl ?_
    refine aw_iconst (v := 0) dX11_load_29 rfl ?_
    refine aw_putI dX11_load_30 fX11_89 hM.k hM.b rfl rfl ?_
    refine aw_aload_n dX11_load_33 rfl ?_
    refine aw_iconst (v := 0) dX11_load_34 rfl ?_
    refine aw_putI dX11_load_35 fX11_133 hM.k hM.b rfl rfl ?_
    refine aw_aload_n dX11_load_38 rfl ?_
    refine aw_iconst (v := (-1)) dX11_load_39 rfl ?_
    refine aw_putI dX11_load_40 fX11_136 hM.k hM.b rfl rfl ?_
    refine aw_aload_n dX11_load_43 rfl ?_
    refine aw_getR (b := m + 2) dX11_load_44 fX11_13 hM.k hM.b rfl hM.r1 ?_
    refine aw_cS dX11_load_47 kX11_61 mX11_plain (rX11_plain hM.k1 hM.b1 hM.l1) (Nat.le_of_ble_eq_true rfl) rfl rfl (Nat.le_of_ble_eq_true rfl) ⟨Nat.le_refl _, Nat.le_refl _⟩ ?_
    refine AW.gen (LdA I m s) ⟨fun a a1 a2 => (if_neg a2).trans ((if_neg a1).trans ((if_neg a1).trans ((if_neg a1).trans ((if_neg a1).trans (if_neg a1))))), ?_, fun k k1 k2 k3 k4 k5 => (congrFun (if_neg (by omega)) _).trans (fI_n k5 (fI_n k4 (fI_n k3 (fI_n k1 (fI_n k2 rfl))))), (congrFun (if_neg (by omega)) _).trans (fI_n (by decide) (fI_n (by decide) (fI_n (by decide) (fI_n (by decide) (fI_s.trans hx))))), (congrFun (if_neg (by omega)) _).trans (fI_n (by decide) (fI_n (by decide) (fI_n (by decide) fI_s))), (congrFun (if_neg (by omega)) _).trans (fI_n (by decide) (fI_n (by decide) fI_s)), (congrFun (if_neg (by omega)) _).trans (fI_n (by decide) fI_s), (congrFun (if_neg (by omega)) _).trans fI_s⟩ (fun I6 hA6 => ?_)
    · rw [upA_self]
      exact congrArg mPlain (upI_off (by omega) (upI_off (by omega) (upI_off (by omega) (upI_off (by omega) (upI_off (by omega) rfl)))))
    refine aw_aload_n dX11_load_50 rfl ?_
    refine aw_callV dX11_load_51 kX11_142 mX11_go (rX11_go (T := T) (s := s) (t0 := 0) hM ((hA6.1 _ (by omega) (by omega)).trans hT) hA6.2.2.2.1 hA6.2.2.2.2.2.1 (by omega) (Nat.zero_le _)) (Nat.le_of_ble_eq_true rfl) hM.k ⟨by decide, rfl⟩ hM.b rfl rfl (Nat.le_of_ble_eq_true rfl) ⟨Nat.le_refl _, Nat.le_refl _⟩ (fun v1 z1 n1 sh1 J1 M1 hp1 => ?_)
    obtain ⟨rfl, rfl, rfl, rfl, hG1, hA1⟩ := hp1
    refine aw_iconst (v := 1) dX11_load_54 rfl ?_
    refine aw_istore_n dX11_load_55 (by decide) rfl ?_
    exact lines s I6 hx hsp hA6 901 _ _ (tok T s 0, mPlain (I (m + 2)), L (m + 7)) (RdF.go hG1) (hG1.f18.1.trans hA6.2.2.2.2.2.2.1) (hG1.f18.2.trans hA6.2.2.2.2.2.2.2) ⟨hA1, TkO.tok (Nat.zero_le _), (hG1.1 _ (by omega)).trans hA6.2.1, hG1.2.2 _ (by omega)⟩ PI.plain (by omega) rfl
  · have f9 := bI0.mp c9
    rw [htp] at f9
    have g9 : ¬ (0 ≤ x ∧ x ≤ nI tp) := by simpa [mFrom] using f9
    refine aw_aload_n dX11_load_12 rfl ?_
    refine aw_iconst (v := 1) dX11_load_13 rfl ?_
    refine aw_cV dX11_load_14 kX11_186 mX11_refuse (sX11_refuse hM) (Nat.le_of_ble_eq_true rfl) hM.k ⟨by decide, rfl⟩ hM.b rfl rfl (Nat.le_of_ble_eq_true rfl) ⟨Nat.le_refl _, Nat.le_refl _⟩ ?_
    refine aw_iret q rfl dX11_load_17 ⟨Nat.le_refl _, Nat.le_refl _⟩ ?_
    exact ⟨rfl, rfl, rfl, Or.inl ⟨g9, rfl, rfl, rfl⟩⟩
end RefS
