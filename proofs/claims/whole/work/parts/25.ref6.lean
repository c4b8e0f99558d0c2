/-! the reference: small writes -/
theorem tern_bI (b : Bool) : (if bI b = 0 then (0 : Int32) else 1) = bI b := by cases b <;> rfl
theorem Pst.mem {r : Option Value} {z n : Nat} {sh : Shp} {I1 I2 : MI} {L : ML} (h : I2 = I1) : Pst r z n sh I1 L r z n sh I2 L := by subst h; exact Pst.rf
theorem Cn.upd' {N : Nat → Int32} (c : Cn N) {j : Nat} {v : Int32} (h1 : j ≠ 230) (h2 : j ≠ 231) (h3 : j ≠ 233) (h4 : j ≠ 299) (h5 : j = 228 → ¬ v = 0)
    (hp : ∀ p, p < 8 → j ≠ 80 + 18 * p + 11 ∧ (j = 80 + 18 * p + 10 → ∃ b, b < 1024 ∧ v = nI b) ∧ (j = 80 + 18 * p + 4 → oI v 10) ∧ ∀ k, k < nWi N p → j = 80 + 18 * p + (12 + k) → ∃ i, i < 10 ∧ v = nI i)
    (hh : ∀ h, h < 10 → j = 8 * h + 2 → oI v 8) (hl : ∀ k, k < nLe N → (j = 234 + 8 * k + 0 → ∃ i, i < 8 ∧ v = nI i) ∧ (j = 234 + 8 * k + 1 → ∃ i, i < 10 ∧ v = nI i)) : Cn (upd N j v) := by
  have u : ∀ i, i ≠ j → upd N j v i = N i := fun i hi => if_neg hi
  have us : upd N j v j = v := if_pos rfl
  have eH : nHo (upd N j v) = nHo N := by unfold nHo; rw [u _ (Ne.symm h1)]
  have eP : nPo (upd N j v) = nPo N := by unfold nPo; rw [u _ (Ne.symm h2)]
  have eL : nLe (upd N j v) = nLe N := by unfold nLe; rw [u _ (Ne.symm h3)]
  have eO : nOf (upd N j v) = nOf N := by unfold nOf; rw [u _ (Ne.symm h4)]
  have eW : ∀ p, p < 8 → nWi (upd N j v) p = nWi N p := fun p q => by unfold nWi; rw [u _ (Ne.symm (hp p q).1)]
  refine ⟨⟨by rw [eH, u _ (Ne.symm h1)]; exact c.h, by rw [eH]; exact c.h10⟩, ⟨by rw [eP, u _ (Ne.symm h2)]; exact c.p, by rw [eP]; exact c.p8⟩, ⟨by rw [eL, u _ (Ne.symm h3)]; exact c.l, by rw [eL]; exact c.l8⟩, ⟨by rw [eO, u _ (Ne.symm h4)]; exact c.o, by rw [eO]; exact c.o30⟩, ?_, ?_, ?_, ?_⟩
  · by_cases e : j = 228
    · rw [← e, us]; exact h5 e
    · rw [u _ (Ne.symm e)]; exact c.age
  · intro p q
    obtain ⟨g1, g2, g3, g4⟩ := hp p q
    refine ⟨⟨by rw [eW p q, u _ (Ne.symm g1)]; exact c.w q, by rw [eW p q]; exact c.w6 q⟩, ?_, ?_, ?_⟩
    · by_cases e : j = 80 + 18 * p + 10
      · obtain ⟨b, hb, rfl⟩ := g2 e
        have e2 : nBi (upd N j (nI b)) p = b := by unfold nBi; rw [← e, us]; exact nI_clamp (by omega)
        rw [e2, ← e, us]
        exact ⟨rfl, hb⟩
      · have e2 : nBi (upd N j v) p = nBi N p := by unfold nBi; rw [u _ (Ne.symm e)]
        rw [e2, u _ (Ne.symm e)]
        exact ⟨c.bi q, c.bi10 q⟩
    · by_cases e : j = 80 + 18 * p + 4
      · rw [← e, us]; exact g3 e
      · rw [u _ (Ne.symm e)]; exact c.ho q
    · intro k hk
      rw [eW p q] at hk
      by_cases e : j = 80 + 18 * p + (12 + k)
      · rw [← e, us]; exact g4 k hk e
      · rw [u _ (Ne.symm e)]; exact c.wi q hk
  · intro h q
    by_cases e : j = 8 * h + 2
    · rw [← e, us]; exact hh h q e
    · rw [u _ (Ne.symm e)]; exact c.who q
  · intro k hk
    rw [eL] at hk
    constructor
    · by_cases e : j = 234 + 8 * k + 0
      · rw [← e, us]; exact (hl k hk).1 e
      · rw [u _ (Ne.symm e)]; exact c.lp hk
    · by_cases e : j = 234 + 8 * k + 1
      · rw [← e, us]; exact (hl k hk).2 e
      · rw [u _ (Ne.symm e)]; exact c.lh hk
/-- a place that no count and no index stands at -/
def free_ix (N : Nat → Int32) (j : Nat) : Prop := j ≠ 230 ∧ j ≠ 231 ∧ j ≠ 233 ∧ j ≠ 299 ∧ j ≠ 228 ∧ (∀ p, p < 8 → j ≠ 80 + 18 * p + 4 ∧ (j < 80 + 18 * p + 10 ∨ 80 + 18 * p + 18 ≤ j)) ∧ (∀ h, h < 10 → j ≠ 8 * h + 2) ∧ ∀ k, k < nLe N → j ≠ 234 + 8 * k + 0 ∧ j ≠ 234 + 8 * k + 1
theorem Cn.free {N : Nat → Int32} (c : Cn N) {j : Nat} {v : Int32} (h : free_ix N j) : Cn (upd N j v) := by
  obtain ⟨h1, h2, h3, h4, h5, h6, h7, h8⟩ := h
  refine c.upd' h1 h2 h3 h4 (fun e => absurd e h5) (fun p q => ?_) (fun a q e => absurd e (h7 a q)) (fun k q => ⟨fun e => absurd e (h8 k q).1, fun e => absurd e (h8 k q).2⟩)
  obtain ⟨g1, g2⟩ := h6 p q
  have h6' := c.w6 q
  exact ⟨by omega, fun e => by omega, fun e => absurd e g1, fun k hk e => by omega⟩
theorem free_house {N : Nat → Int32} {p w : Nat} (hp : p < 8) (hw : w < 10) (h4 : w ≠ 4) (hl : nLe N ≤ 8) : free_ix N (80 + 18 * p + w) :=
  ⟨by omega, by omega, by omega, by omega, by omega, fun q hq => by omega, fun h hh => by omega, fun k hk => by omega⟩
theorem free_home {N : Nat → Int32} {h w : Nat} (hh : h < 10) (hw : w < 8) (h2 : w ≠ 2) : free_ix N (8 * h + w) :=
  ⟨by omega, by omega, by omega, by omega, by omega, fun q hq => by omega, fun a ha => by omega, fun k hk => by omega⟩
theorem free_let {N : Nat → Int32} {j : Nat} (h1 : 234 + 8 * nLe N ≤ j) (h2 : j < 299) : free_ix N j :=
  ⟨by omega, by omega, by omega, by omega, by omega, fun q hq => by omega, fun a ha => by omega, fun k hk => by omega⟩
theorem free_off {N : Nat → Int32} {j : Nat} (h1 : 300 ≤ j) (hl : nLe N ≤ 8) : free_ix N j :=
  ⟨by omega, by omega, by omega, by omega, by omega, fun q hq => by omega, fun a ha => by omega, fun k hk => by omega⟩
theorem Cn.who' {N : Nat → Int32} (c : Cn N) {h : Nat} {v : Int32} (hh : h < 10) (hv : oI v 8) : Cn (upd N (8 * h + 2) v) :=
  c.upd' (by omega) (by omega) (by omega) (by omega) (fun e => by omega) (fun p q => ⟨by omega, fun e => by omega, fun e => by omega, fun k hk e => by omega⟩) (fun a q e => hv) (fun k q => ⟨fun e => by omega, fun e => by omega⟩)
theorem Cn.home' {N : Nat → Int32} (c : Cn N) {p : Nat} {v : Int32} (hp : p < 8) (hv : oI v 10) : Cn (upd N (80 + 18 * p + 4) v) := by
  have hl := c.l8
  exact c.upd' (by omega) (by omega) (by omega) (by omega) (fun e => by omega) (fun q hq => ⟨by omega, fun e => by omega, fun e => hv, fun k hk e => by have := c.w6 hq; omega⟩) (fun a q e => by omega) (fun k q => ⟨fun e => by omega, fun e => by omega⟩)
theorem Cn.bids' {N : Nat → Int32} (c : Cn N) {p b : Nat} {v : Int32} (hp : p < 8) (hv : v = nI b) (hb : b < 1024) : Cn (upd N (80 + 18 * p + 10) v) := by
  have hl := c.l8
  exact c.upd' (by omega) (by omega) (by omega) (by omega) (fun e => by omega) (fun q hq => ⟨by omega, fun e => ⟨b, hb, hv⟩, fun e => by omega, fun k hk e => by have := c.w6 hq; omega⟩) (fun a q e => by omega) (fun k q => ⟨fun e => by omega, fun e => by omega⟩)
def mPuts (N : Nat → Int32) (p w : Nat) (v : Int32) : Nat → Int32 := upd N (80 + 18 * p + w) v
def mPutsH (N : Nat → Int32) (h w : Nat) (v : Int32) : Nat → Int32 := upd N (8 * h + w) v
def mLeaves (N : Nat → Int32) (h : Nat) (c : Int32) : Nat → Int32 := mPutsH (mPutsH (mPutsH N h 2 (-1)) h 3 1) h 5 c
def mOff1 (N : Nat → Int32) (p h : Nat) (t : Bool) : Nat → Int32 := upd (upd (upd N (300 + 3 * nOf N) (nI p)) (300 + 3 * nOf N + 1) (nI h)) (300 + 3 * nOf N + 2) (bI t)
def mOffered (N : Nat → Int32) (p h : Nat) (t : Bool) : Nat → Int32 := upd (mOff1 N p h t) 299 (N 299 + 1)
def mRef1 (N : Nat → Int32) (p : Nat) : Nat → Int32 := upd (mPuts N p 5 (N (80 + 18 * p + 5) + 1)) 298 (N 298 + 1)
def mRefuses (N : Nat → Int32) (p : Nat) : Nat → Int32 := if N (80 + 18 * p + 5) + 1 < N 224 then mRef1 N p else mPuts (mPuts (mPuts (mRef1 N p) p 5 0) p 6 (N 225)) p 7 1
section RefS
variable {z n m : Nat} {sh : Shp} {I : MI} {L : ML}
set_option maxHeartbeats 4000000 in
set_option maxRecDepth 100000 in
theorem rX11_puts (hM : IsM n sh m) {N : Nat → Int32} (hI : I (m + 1) = N) {x y v : Int32} {p w : Nat} (hx : x = nI p) (hy : y = nI w) (hb : 80 + 18 * p + w < 390) : CM yX11_puts cX11_puts 4 (Option.none : Option FieldType) 2 0 0 [.ref m, .int x, .int y, .int v] z n sh I L (Pst none z n sh (upA I (m + 1) (mPuts N p w v)) L) := by
  refine CM.go [some (.ref m), some (.int x), some (.int y), some (.int v)] rfl rfl (Nat.le_of_ble_eq_true rfl) (fun X g q => ?_)
  refine aw_aload_n dX11_puts_0 rfl ?_
  refine aw_getR (b := m + 1) dX11_puts_1 fX11_7 hM.k hM.b rfl hM.r0 ?_
  refine aw_iload_n dX11_puts_4 rfl ?_
  refine aw_iload_n dX11_puts_5 rfl ?_
  refine aw_cS dX11_puts_6 kX11_75 mX11_at (sX11_at (p := p) (w := w) hM hx hy) (Nat.le_of_ble_eq_true rfl) rfl rfl (Nat.le_of_ble_eq_true rfl) ⟨Nat.le_refl _, Nat.le_refl _⟩ ?_
  refine aw_iload_n dX11_puts_9 rfl ?_
  refine aw_iastN (k := (80 + 18 * p + w)) dX11_puts_10 hM.k0 hM.b0 hM.l0 rfl (by omega) (by decide) ?_
  refine aw_vret q rfl dX11_puts_11 ⟨Nat.le_refl _, Nat.le_refl _⟩ ?_
  refine Pst.mem ?_
  simp only [upI_upA, upA_upA, upA_self, hI, mPuts]
set_option maxHeartbeats 4000000 in
set_option maxRecDepth 100000 in
theorem rX11_putsHome (hM : IsM n sh m) {N : Nat → Int32} (hI : I (m + 1) = N) {x y v : Int32} {h w : Nat} (hx : x = nI h) (hy : y = nI w) (hb : 8 * h + w < 390) : CM yX11_putsHome cX11_putsHome 4 (Option.none : Option FieldType) 1 0 0 [.ref m, .int x, .int y, .int v] z n sh I L (Pst none z n sh (upA I (m + 1) (mPutsH N h w v)) L) := by
  refine CM.go [some (.ref m), some (.int x), some (.int y), some (.int v)] rfl rfl (Nat.le_of_ble_eq_true rfl) (fun X g q => ?_)
  refine aw_aload_n dX11_putsHome_0 rfl ?_
  refine aw_getR (b := m + 1) dX11_putsHome_1 fX11_7 hM.k hM.b rfl hM.r0 ?_
  refine aw_bipush (v := 8) dX11_putsHome_4 rfl ?_
  refine aw_iload_n dX11_putsHome_6 rfl ?_
  refine aw_imul dX11_putsHome_7 ?_
  refine aw_iload_n dX11_putsHome_8 rfl ?_
  refine aw_iadd dX11_putsHome_9 ?_
  refine aw_iload_n dX11_putsHome_10 rfl ?_
  refine aw_iastN (k := ((8 * h) + w)) dX11_putsHome_11 hM.k0 hM.b0 hM.l0 (gadd (gmul rfl hx) hy) (by omega) (by decide) ?_
  refine aw_vret q rfl dX11_putsHome_12 ⟨Nat.le_refl _, Nat.le_refl _⟩ ?_
  refine Pst.mem ?_
  simp only [upI_upA, upA_upA, upA_self, hI, mPutsH]
set_option maxHeartbeats 4000000 in
set_option maxRecDepth 100000 in
theorem rX11_leaves (hM : IsM n sh m) {N : Nat → Int32} (hI : I (m + 1) = N) {x c : Int32} {h : Nat} (hx : x = nI h) (hb : h < 10) : CM yX11_leaves cX11_leaves 3 (Option.none : Option FieldType) 2 0 0 [.ref m, .int x, .int c] z n sh I L (Pst none z n sh (upA I (m + 1) (mLeaves N h c)) L) := by
  refine CM.go [some (.ref m), some (.int x), some (.int c)] rfl rfl (Nat.le_of_ble_eq_true rfl) (fun X g q => ?_)
  refine aw_aload_n dX11_leaves_0 rfl ?_
  refine aw_iload_n dX11_leaves_1 rfl ?_
  refine aw_iconst (v := 2) dX11_leaves_2 rfl ?_
  refine aw_iconst (v := (-1)) dX11_leaves_3 rfl ?_
  refine aw_cV dX11_leaves_4 kX11_293 mX11_putsHome (rX11_putsHome (h := h) (w := 2) hM hI hx rfl (by omega)) (Nat.le_of_ble_eq_true rfl) hM.k ⟨by decide, rfl⟩ hM.b rfl rfl (Nat.le_of_ble_eq_true rfl) ⟨Nat.le_refl _, Nat.le_refl _⟩ ?_
  refine aw_aload_n dX11_leaves_7 rfl ?_
  refine aw_iload_n dX11_leaves_8 rfl ?_
  refine aw_iconst (v := 3) dX11_leaves_9 rfl ?_
  refine aw_iconst (v := 1) dX11_leaves_10 rfl ?_
  refine aw_cV dX11_leaves_11 kX11_293 mX11_putsHome (rX11_putsHome (h := h) (w := 3) hM upA_self hx rfl (by omega)) (Nat.le_of_ble_eq_true rfl) hM.k ⟨by decide, rfl⟩ hM.b rfl rfl (Nat.le_of_ble_eq_true rfl) ⟨Nat.le_refl _, Nat.le_refl _⟩ ?_
  refine aw_aload_n dX11_leaves_14 rfl ?_
  refine aw_iload_n dX11_leaves_15 rfl ?_
  refine aw_iconst (v := 5) dX11_leaves_16 rfl ?_
  refine aw_iload_n dX11_leaves_17 rfl ?_
  refine aw_cV dX11_leaves_18 kX11_293 mX11_putsHome (rX11_putsHome (h := h) (w := 5) hM upA_self hx rfl (by omega)) (Nat.le_of_ble_eq_true rfl) hM.k ⟨by decide, rfl⟩ hM.b rfl rfl (Nat.le_of_ble_eq_true rfl) ⟨Nat.le_refl _, Nat.le_refl _⟩ ?_
  refine aw_vret q rfl dX11_leaves_21 ⟨Nat.le_refl _, Nat.le_refl _⟩ ?_
  refine Pst.mem ?_
  simp only [upI_upA, upA_upA, upA_self, hI, mLeaves]
set_option maxHeartbeats 4000000 in
set_option maxRecDepth 100000 in
theorem rX11_offered (hM : IsM n sh m) {N : Nat → Int32} (hI : I (m + 1) = N) (hN : Cn N) {x y t : Int32} {p h : Nat} {b : Bool} (hx : x = nI p) (hy : y = nI h) (ht : t = bI b) (ho : nOf N < 30) : CM yX11_offered cX11_offered 5 (Option.none : Option FieldType) 1 0 0 [.ref m, .int x, .int y, .int t] z n sh I L (Pst none z n sh (upA I (m + 1) (mOffered N p h b)) L) := by
  refine CM.go [some (.ref m), some (.int x), some (.int y), some (.int t), none] rfl rfl (Nat.le_of_ble_eq_true rfl) (fun X g q => ?_)
  have ho := ho
  refine aw_sipush (v := 300) dX11_offered_0 rfl ?_
  refine aw_iconst (v := 3) dX11_offered_3 rfl ?_
  refine aw_aload_n dX11_offered_4 rfl ?_
  refine aw_getR (b := m + 1) dX11_offered_5 fX11_7 hM.k hM.b rfl hM.r0 ?_
  refine aw_sipush (v := 299) dX11_offered_8 rfl ?_
  refine aw_ialdH (k := 299) hI dX11_offered_11 hM.k0 hM.b0 hM.l0 rfl (by decide) (by decide) ?_
  refine aw_imul dX11_offered_12 ?_
  refine aw_iadd dX11_offered_13 ?_
  refine aw_istore dX11_offered_14 (by decide) rfl ?_
  refine aw_aload_n dX11_offered_16 rfl ?_
  refine aw_getR (b := m + 1) dX11_offered_17 fX11_7 hM.k hM.b rfl hM.r0 ?_
  refine aw_iload dX11_offered_20 rfl ?_
  refine aw_iload_n dX11_offered_22 rfl ?_
  refine aw_iastN (k := (300 + (3 * (nOf N)))) dX11_offered_23 hM.k0 hM.b0 hM.l0 (gadd rfl (gmul rfl hN.o)) (by omega) (by decide) ?_
  refine aw_aload_n dX11_offered_24 rfl ?_
  refine aw_getR (b := m + 1) dX11_offered_25 fX11_7 hM.k hM.b rfl hM.r0 ?_
  refine aw_iload dX11_offered_28 rfl ?_
  refine aw_iconst (v := 1) dX11_offered_30 rfl ?_
  refine aw_iadd dX11_offered_31 ?_
  refine aw_iload_n dX11_offered_32 rfl ?_
  refine aw_iastN (k := ((300 + (3 * (nOf N))) + 1)) dX11_offered_33 hM.k0 hM.b0 hM.l0 (gadd (gadd rfl (gmul rfl hN.o)) rfl) (by omega) (by decide) ?_
  refine aw_aload_n dX11_offered_34 rfl ?_
  refine aw_getR (b := m + 1) dX11_offered_35 fX11_7 hM.k hM.b rfl hM.r0 ?_
  refine aw_iload dX11_offered_38 rfl ?_
  refine aw_iconst (v := 2) dX11_offered_40 rfl ?_
  refine aw_iadd dX11_offered_41 ?_
  refine aw_iload_n dX11_offered_42 rfl ?_
  rw [ht]
  refine awt_if_eq (A := 1) (B := 0) dX11_offered_43 dX11_offered_46 dX11_offered_47 dX11_offered_50 rfl rfl ?_
  refine aw_iastN (k := ((300 + (3 * (nOf N))) + 2)) dX11_offered_51 hM.k0 hM.b0 hM.l0 (gadd (gadd rfl (gmul rfl hN.o)) rfl) (by omega) (by decide) ?_
  refine aw_aload_n dX11_offered_52 rfl ?_
  refine aw_getR (b := m + 1) dX11_offered_53 fX11_7 hM.k hM.b rfl hM.r0 ?_
  refine aw_sipush (v := 299) dX11_offered_56 rfl ?_
  refine aw_dup2 dX11_offered_59 rfl rfl ?_
  refine aw_ialdH (k := 299) (upI_row (upI_row (upI_row hI))) dX11_offered_60 hM.k0 hM.b0 hM.l0 rfl (by decide) (by decide) ?_
  refine aw_iconst (v := 1) dX11_offered_61 rfl ?_
  refine aw_iadd dX11_offered_62 ?_
  refine aw_iastN (k := 299) dX11_offered_63 hM.k0 hM.b0 hM.l0 rfl (by decide) (by decide) ?_
  refine aw_vret q rfl dX11_offered_64 ⟨Nat.le_refl _, Nat.le_refl _⟩ ?_
  refine Pst.mem ?_
  have e1 : ∀ (f : Nat → Int32) (a b c : Int32), upd (upd (upd f (300 + 3 * nOf N) a) (300 + 3 * nOf N + 1) b) (300 + 3 * nOf N + 2) c 299 = f 299 := fun f a b c => by
    unfold upd
    rw [if_neg (by omega), if_neg (by omega), if_neg (by omega)]
  simp only [upI_upA, upA_upA, upA_self, hI, mOffered, mOff1, e1, hx, hy, tern_bI]
set_option maxHeartbeats 4000000 in
set_option maxRecDepth 100000 in
theorem rX11_refuses (hM : IsM n sh m) {N : Nat → Int32} (hI : I (m + 1) = N) (hN : Cn N) {x : Int32} {p : Nat} (hx : x = nI p) (hp : p < 8) : CM yX11_refuses cX11_refuses 2 (Option.none : Option FieldType) 3 0 0 [.ref m, .int x] z n sh I L (Pst none z n sh (upA I (m + 1) (mRefuses N p)) L) := by
  refine CM.go [some (.ref m), some (.int x)] rfl rfl (Nat.le_of_ble_eq_true rfl) (fun X g q => ?_)
  have a1 : mPuts N p 5 (N (80 + 18 * p + 5) + 1) 298 = N 298 := by unfold mPuts upd; rw [if_neg (by omega)]
  have a2 : mRef1 N p (80 + 18 * p + 5) = N (80 + 18 * p + 5) + 1 := by unfold mRef1 mPuts upd; rw [if_neg (by omega), if_pos rfl]
  have a3 : mRef1 N p 224 = N 224 := by unfold mRef1 mPuts upd; rw [if_neg (by decide), if_neg (by omega)]
  have a4 : mPuts (mRef1 N p) p 5 0 225 = N 225 := by unfold mRef1 mPuts upd; rw [if_neg (by omega), if_neg (by decide), if_neg (by omega)]
  refine aw_aload_n dX11_refuses_0 rfl ?_
  refine aw_iload_n dX11_refuses_1 rfl ?_
  refine aw_iconst (v := 5) dX11_refuses_2 rfl ?_
  refine aw_aload_n dX11_refuses_3 rfl ?_
  refine aw_iload_n dX11_refuses_4 rfl ?_
  refine aw_iconst (v := 5) dX11_refuses_5 rfl ?_
  refine aw_cV dX11_refuses_6 kX11_205 mX11_of (rX11_of (p := p) (w := 5) hM hI hx rfl (by omega)) (Nat.le_of_ble_eq_true rfl) hM.k ⟨by decide, rfl⟩ hM.b rfl rfl (Nat.le_of_ble_eq_true rfl) ⟨Nat.le_refl _, Nat.le_refl _⟩ ?_
  refine aw_iconst (v := 1) dX11_refuses_9 rfl ?_
  refine aw_iadd dX11_refuses_10 ?_
  refine aw_cV dX11_refuses_11 kX11_289 mX11_puts (rX11_puts (p := p) (w := 5) hM hI hx rfl (by omega)) (Nat.le_of_ble_eq_true rfl) hM.k ⟨by decide, rfl⟩ hM.b rfl rfl (Nat.le_of_ble_eq_true rfl) ⟨Nat.le_refl _, Nat.le_refl _⟩ ?_
  refine aw_aload_n dX11_refuses_14 rfl ?_
  refine aw_getR (b := m + 1) dX11_refuses_15 fX11_7 hM.k hM.b rfl hM.r0 ?_
  refine aw_sipush (v := 298) dX11_refuses_18 rfl ?_
  refine aw_dup2 dX11_refuses_21 rfl rfl ?_
  refine aw_ialdH (k := 298) upA_self dX11_refuses_22 hM.k0 hM.b0 hM.l0 rfl (by decide) (by decide) ?_
  refine aw_iconst (v := 1) dX11_refuses_23 rfl ?_
  refine aw_iadd dX11_refuses_24 ?_
  refine aw_iastN (k := 298) dX11_refuses_25 hM.k0 hM.b0 hM.l0 rfl (by decide) (by decide) ?_
  rw [a1]
  have hI2 : upI (upA I (m + 1) (mPuts N p 5 (N (80 + 18 * p + 5) + 1))) (m + 1) 298 (N 298 + 1) (m + 1) = mRef1 N p := by rw [upI_row upA_self]; rfl
  refine aw_aload_n dX11_refuses_26 rfl ?_
  refine aw_iload_n dX11_refuses_27 rfl ?_
  refine aw_iconst (v := 5) dX11_refuses_28 rfl ?_
  refine aw_cV dX11_refuses_29 kX11_205 mX11_of (rX11_of (p := p) (w := 5) hM hI2 hx rfl (by omega)) (Nat.le_of_ble_eq_true rfl) hM.k ⟨by decide, rfl⟩ hM.b rfl rfl (Nat.le_of_ble_eq_true rfl) ⟨Nat.le_refl _, Nat.le_refl _⟩ ?_
  rw [a2]
  refine aw_aload_n dX11_refuses_32 rfl ?_
  refine aw_getR (b := m + 1) dX11_refuses_33 fX11_7 hM.k hM.b rfl hM.r0 ?_
  refine aw_sipush (v := 224) dX11_refuses_36 rfl ?_
  refine aw_ialdH (k := 224) hI2 dX11_refuses_39 hM.k0 hM.b0 hM.l0 rfl (by decide) (by decide) ?_
  rw [a3]
  refine aw_icmp_ge (tgt := 44) dX11_refuses_40 rfl (fun c40 => ?_) (fun c40 => ?_)
  · refine aw_aload_n dX11_refuses_44 rfl ?_
    refine aw_iload_n dX11_refuses_45 rfl ?_
    refine aw_iconst (v := 5) dX11_refuses_46 rfl ?_
    refine aw_iconst (v := 0) dX11_refuses_47 rfl ?_
    refine aw_cV dX11_refuses_48 kX11_289 mX11_puts (rX11_puts (p := p) (w := 5) hM hI2 hx rfl (by omega)) (Nat.le_of_ble_eq_true rfl) hM.k ⟨by decide, rfl⟩ hM.b rfl rfl (Nat.le_of_ble_eq_true rfl) ⟨Nat.le_refl _, Nat.le_refl _⟩ ?_
    refine aw_aload_n dX11_refuses_51 rfl ?_
    refine aw_iload_n dX11_refuses_52 rfl ?_
    refine aw_bipush (v := 6) dX11_refuses_53 rfl ?_
    refine aw_aload_n dX11_refuses_55 rfl ?_
    refine aw_getR (b := m + 1) dX11_refuses_56 fX11_7 hM.k hM.b rfl hM.r0 ?_
    refine aw_sipush (v := 225) dX11_refuses_59 rfl ?_
    refine aw_ialdH (k := 225) upA_self dX11_refuses_62 hM.k0 hM.b0 hM.l0 rfl (by decide) (by decide) ?_
    rw [a4]
    refine aw_cV dX11_refuses_63 kX11_289 mX11_puts (rX11_puts (p := p) (w := 6) hM upA_self hx rfl (by omega)) (Nat.le_of_ble_eq_true rfl) hM.k ⟨by decide, rfl⟩ hM.b rfl rfl (Nat.le_of_ble_eq_true rfl) ⟨Nat.le_refl _, Nat.le_refl _⟩ ?_
    refine aw_aload_n dX11_refuses_66 rfl ?_
    refine aw_iload_n dX11_refuses_67 rfl ?_
    refine aw_bipush (v := 7) dX11_refuses_68 rfl ?_
    refine aw_iconst (v := 1) dX11_refuses_70 rfl ?_
    refine aw_cV dX11_refuses_71 kX11_289 mX11_puts (rX11_puts (p := p) (w := 7) hM upA_self hx rfl (by omega)) (Nat.le_of_ble_eq_true rfl) hM.k ⟨by decide, rfl⟩ hM.b rfl rfl (Nat.le_of_ble_eq_true rfl) ⟨Nat.le_refl _, Nat.le_refl _⟩ ?_
    refine aw_vret q rfl dX11_refuses_74 ⟨Nat.le_refl _, Nat.le_refl _⟩ ?_
    refine Pst.mem ?_
    have e9 : upI (upA I (m + 1) (mPuts N p 5 (N (80 + 18 * p + 5) + 1))) (m + 1) 298 (N 298 + 1) = upA I (m + 1) (mRef1 N p) := by simp only [upI_upA, upA_upA, upA_self, mRef1]
    rw [e9]
    unfold mRefuses
    rw [if_neg (Int32.not_lt.mpr c40)]
    simp only [upA_upA]
  · refine aw_vret q rfl dX11_refuses_43 ⟨Nat.le_refl _, Nat.le_refl _⟩ ?_
    refine Pst.mem ?_
    have e9 : upI (upA I (m + 1) (mPuts N p 5 (N (80 + 18 * p + 5) + 1))) (m + 1) 298 (N 298 + 1) = upA I (m + 1) (mRef1 N p) := by simp only [upI_upA, upA_upA, upA_self, mRef1]
    rw [e9]
    unfold mRefuses
    rw [if_pos (fa_of_nle c40)]
end RefS
