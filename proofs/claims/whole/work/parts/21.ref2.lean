/-! the reference: reading methods -/
theorem Pst.iv {v r : Int32} {z n : Nat} {sh : Shp} {I : MI} {L : ML} (h : v = r) : Pst (some (.int r)) z n sh I L (some (.int v)) z n sh I L := by subst h; exact Pst.rf
theorem Pst.ivI {v r : Int32} {z n : Nat} {sh : Shp} {I I2 : MI} {L : ML} (h : v = r) (hI : I2 = I) : Pst (some (.int r)) z n sh I L (some (.int v)) z n sh I2 L := by subst h; subst hI; exact Pst.rf
theorem swx (x : Int32) (n : Nat) (hn : n < 2 ^ 31) : (∃ j, j < n ∧ x = nI j) ∨ (x.toInt < 0 ∨ (n : Int) ≤ x.toInt) := by
  rcases pk_ix x hn with h | h | ⟨j, h1, h2⟩
  · exact Or.inr (Or.inl (by have := Int32.lt_iff_toInt_lt.mp h; simpa using this))
  · refine Or.inr (Or.inr ?_)
    have := Int32.le_iff_toInt_le.mp h
    rwa [nI_toInt hn] at this
  · exact Or.inl ⟨j, h1, h2⟩
section RefS
variable {z n m : Nat} {sh : Shp} {I : MI} {L : ML}
theorem bc_all : ∀ v, v < 1024 → (let a := nI v - (((nI v).toUInt32 >>> ((1 : Int32).toUInt32 &&& Int32.toUInt32 31)).toInt32 &&& 1431655765); let b := (a &&& 858993459) + ((a.toUInt32 >>> ((2 : Int32).toUInt32 &&& Int32.toUInt32 31)).toInt32 &&& 858993459); let c := (b + (b.toUInt32 >>> ((4 : Int32).toUInt32 &&& Int32.toUInt32 31)).toInt32) &&& 252645135; let e := c + (c.toUInt32 >>> ((8 : Int32).toUInt32 &&& Int32.toUInt32 31)).toInt32; let f := e + (e.toUInt32 >>> ((16 : Int32).toUInt32 &&& Int32.toUInt32 31)).toInt32; f &&& 63) = nI (pcn v) := by decide +kernel
set_option maxHeartbeats 4000000 in
set_option maxRecDepth 100000 in
theorem sJ6_bitCount {x : Int32} {v : Nat} (hx : x = nI v) (hv : v < 1024) : CM yJ6_bitCount_0f7a4 cJ6_bitCount_0f7a4 1 (Option.some .int) 1 0 0 [.int x] z n sh I L (Pst (some (.int (nI (pcn v)))) z n sh I L) := by
  refine CM.go [some (.int x)] rfl rfl (Nat.le_of_ble_eq_true rfl) (fun X g q => ?_)
  refine aw_iload_n dJ6_bitCount_0f7a4_0 rfl ?_
  refine aw_iload_n dJ6_bitCount_0f7a4_1 rfl ?_
  refine aw_iconst (v := 1) dJ6_bitCount_0f7a4_2 rfl ?_
  refine aw_iushr dJ6_bitCount_0f7a4_3 ?_
  refine aw_ldcw dJ6_bitCount_0f7a4_4 qJ6_265 ?_
  refine aw_iand dJ6_bitCount_0f7a4_7 ?_
  refine aw_isub dJ6_bitCount_0f7a4_8 ?_
  refine aw_istore_n dJ6_bitCount_0f7a4_9 (by decide) rfl ?_
  refine aw_iload_n dJ6_bitCount_0f7a4_10 rfl ?_
  refine aw_ldcw dJ6_bitCount_0f7a4_11 qJ6_266 ?_
  refine aw_iand dJ6_bitCount_0f7a4_14 ?_
  refine aw_iload_n dJ6_bitCount_0f7a4_15 rfl ?_
  refine aw_iconst (v := 2) dJ6_bitCount_0f7a4_16 rfl ?_
  refine aw_iushr dJ6_bitCount_0f7a4_17 ?_
  refine aw_ldcw dJ6_bitCount_0f7a4_18 qJ6_266 ?_
  refine aw_iand dJ6_bitCount_0f7a4_21 ?_
  refine aw_iadd dJ6_bitCount_0f7a4_22 ?_
  refine aw_istore_n dJ6_bitCount_0f7a4_23 (by decide) rfl ?_
  refine aw_iload_n dJ6_bitCount_0f7a4_24 rfl ?_
  refine aw_iload_n dJ6_bitCount_0f7a4_25 rfl ?_
  refine aw_iconst (v := 4) dJ6_bitCount_0f7a4_26 rfl ?_
  refine aw_iushr dJ6_bitCount_0f7a4_27 ?_
  refine aw_iadd dJ6_bitCount_0f7a4_28 ?_
  refine aw_ldcw dJ6_bitCount_0f7a4_29 qJ6_267 ?_
  refine aw_iand dJ6_bitCount_0f7a4_32 ?_
  refine aw_istore_n dJ6_bitCount_0f7a4_33 (by decide) rfl ?_
  refine aw_iload_n dJ6_bitCount_0f7a4_34 rfl ?_
  refine aw_iload_n dJ6_bitCount_0f7a4_35 rfl ?_
  refine aw_bipush (v := 8) dJ6_bitCount_0f7a4_36 rfl ?_
  refine aw_iushr dJ6_bitCount_0f7a4_38 ?_
  refine aw_iadd dJ6_bitCount_0f7a4_39 ?_
  refine aw_istore_n dJ6_bitCount_0f7a4_40 (by decide) rfl ?_
  refine aw_iload_n dJ6_bitCount_0f7a4_41 rfl ?_
  refine aw_iload_n dJ6_bitCount_0f7a4_42 rfl ?_
  refine aw_bipush (v := 16) dJ6_bitCount_0f7a4_43 rfl ?_
  refine aw_iushr dJ6_bitCount_0f7a4_45 ?_
  refine aw_iadd dJ6_bitCount_0f7a4_46 ?_
  refine aw_istore_n dJ6_bitCount_0f7a4_47 (by decide) rfl ?_
  refine aw_iload_n dJ6_bitCount_0f7a4_48 rfl ?_
  refine aw_bipush (v := 63) dJ6_bitCount_0f7a4_49 rfl ?_
  refine aw_iand dJ6_bitCount_0f7a4_51 ?_
  refine aw_iret q rfl dJ6_bitCount_0f7a4_52 ⟨Nat.le_refl _, Nat.le_refl _⟩ ?_
  refine Pst.iv ?_
  subst hx
  exact bc_all v hv
def stt (I : MI) (m : Nat) (s : Int32) : MI := upI (upI I m 0 0) m 9 s
set_option maxHeartbeats 4000000 in
set_option maxRecDepth 100000 in
theorem sX11_refuse (hM : IsM n sh m) {x : Int32} : CM yX11_refuse cX11_refuse 2 (Option.some .int) 1 0 0 [.ref m, .int x] z n sh I L (Pst (some (.int (-1))) z n sh (stt I m x) L) := by
  refine CM.go [some (.ref m), some (.int x)] rfl rfl (Nat.le_of_ble_eq_true rfl) (fun X g q => ?_)
  refine aw_aload_n dX11_refuse_0 rfl ?_
  refine aw_iconst (v := 0) dX11_refuse_1 rfl ?_
  refine aw_putI dX11_refuse_2 fX11_65 hM.k hM.b rfl rfl ?_
  refine aw_aload_n dX11_refuse_5 rfl ?_
  refine aw_iload_n dX11_refuse_6 rfl ?_
  refine aw_putI dX11_refuse_7 fX11_68 hM.k hM.b rfl rfl ?_
  refine aw_iconst (v := (-1)) dX11_refuse_10 rfl ?_
  refine aw_iret q rfl dX11_refuse_11 ⟨Nat.le_refl _, Nat.le_refl _⟩ ?_
  exact Pst.rf
set_option maxHeartbeats 4000000 in
set_option maxRecDepth 100000 in
theorem sX11_gives (hM : IsM n sh m) {x : Int32} : CM yX11_gives cX11_gives 2 (Option.some .int) 1 0 0 [.ref m, .int x] z n sh I L (Pst (some (.int x)) z n sh (stt I m 0) L) := by
  refine CM.go [some (.ref m), some (.int x)] rfl rfl (Nat.le_of_ble_eq_true rfl) (fun X g q => ?_)
  refine aw_aload_n dX11_gives_0 rfl ?_
  refine aw_iconst (v := 0) dX11_gives_1 rfl ?_
  refine aw_putI dX11_gives_2 fX11_65 hM.k hM.b rfl rfl ?_
  refine aw_aload_n dX11_gives_5 rfl ?_
  refine aw_iconst (v := 0) dX11_gives_6 rfl ?_
  refine aw_putI dX11_gives_7 fX11_68 hM.k hM.b rfl rfl ?_
  refine aw_iload_n dX11_gives_10 rfl ?_
  refine aw_iret q rfl dX11_gives_11 ⟨Nat.le_refl _, Nat.le_refl _⟩ ?_
  exact Pst.rf
set_option maxHeartbeats 4000000 in
set_option maxRecDepth 100000 in
theorem sX11_isFrom (hM : IsM n sh m) {v a b : Int32} : CM yX11_isFrom cX11_isFrom 3 (Option.some .boolean) 1 0 0 [.int v, .int a, .int b] z n sh I L (Pst (some (.int (bI (mFrom v a b)))) z n sh I L) := by
  refine CM.go [some (.int v), some (.int a), some (.int b)] rfl rfl (Nat.le_of_ble_eq_true rfl) (fun X g q => ?_)
  refine aw_iload_n dX11_isFrom_0 rfl ?_
  refine aw_iload_n dX11_isFrom_1 rfl ?_
  refine aw_icmp_lt (tgt := 14) dX11_isFrom_2 rfl (fun c2 => ?_) (fun c2 => ?_)
  · refine aw_iconst (v := 0) dX11_isFrom_14 rfl ?_
    refine aw_zret q rfl (by decide) dX11_isFrom_15 ⟨Nat.le_refl _, Nat.le_refl _⟩ ?_
    refine Pst.iv ?_
    unfold bI mFrom
    simp [(fa_of_lt c2).2.1]
  · refine aw_iload_n dX11_isFrom_5 rfl ?_
    refine aw_iload_n dX11_isFrom_6 rfl ?_
    refine aw_icmp_gt (tgt := 14) dX11_isFrom_7 rfl (fun c7 => ?_) (fun c7 => ?_)
    · refine aw_iconst (v := 0) dX11_isFrom_14 rfl ?_
      refine aw_zret q rfl (by decide) dX11_isFrom_15 ⟨Nat.le_refl _, Nat.le_refl _⟩ ?_
      refine Pst.iv ?_
      unfold bI mFrom
      first | simp [fa_of_nlt c2, fa_of_nlt c7] | simp [(fa_of_lt c7).2.1]
    · refine aw_iconst (v := 1) dX11_isFrom_10 rfl ?_
      refine aw_goto (tgt := 15) dX11_isFrom_11 rfl ?_
      refine aw_zret q rfl (by decide) dX11_isFrom_15 ⟨Nat.le_refl _, Nat.le_refl _⟩ ?_
      refine Pst.iv ?_
      unfold bI mFrom
      first | simp [fa_of_nlt c2, fa_of_nlt c7] | simp [(fa_of_lt c7).2.1]
set_option maxHeartbeats 4000000 in
set_option maxRecDepth 100000 in
theorem sX11_isHome (hM : IsM n sh m) {x : Int32} : CM yX11_isHome cX11_isHome 2 (Option.some .boolean) 2 0 0 [.ref m, .int x] z n sh I L (Pst (some (.int (bI (mFrom x 0 (I (m + 1) 230 - 1))))) z n sh I L) := by
  refine CM.go [some (.ref m), some (.int x)] rfl rfl (Nat.le_of_ble_eq_true rfl) (fun X g q => ?_)
  refine aw_iload_n dX11_isHome_0 rfl ?_
  refine aw_iconst (v := 0) dX11_isHome_1 rfl ?_
  refine aw_aload_n dX11_isHome_2 rfl ?_
  refine aw_getR (b := m + 1) dX11_isHome_3 fX11_7 hM.k hM.b rfl hM.r0 ?_
  refine aw_sipush (v := 230) dX11_isHome_6 rfl ?_
  refine aw_ialdN (k := 230) dX11_isHome_9 hM.k0 hM.b0 hM.l0 rfl (by decide) (by decide) ?_
  refine aw_iconst (v := 1) dX11_isHome_10 rfl ?_
  refine aw_isub dX11_isHome_11 ?_
  refine aw_cS dX11_isHome_12 kX11_71 mX11_isFrom (sX11_isFrom hM) (Nat.le_of_ble_eq_true rfl) rfl rfl (Nat.le_of_ble_eq_true rfl) ⟨Nat.le_refl _, Nat.le_refl _⟩ ?_
  refine aw_zret q rfl (bI01 _) dX11_isHome_15 ⟨Nat.le_refl _, Nat.le_refl _⟩ ?_
  exact Pst.rf
theorem rX11_isHome (hM : IsM n sh m) {N : Nat → Int32} (hI : I (m + 1) = N) {x : Int32} : CM yX11_isHome cX11_isHome 2 (Option.some .boolean) 2 0 0 [.ref m, .int x] z n sh I L (Pst (some (.int (bI (mFrom x 0 (N 230 - 1))))) z n sh I L) := by
  subst hI
  apply sX11_isHome <;> assumption
set_option maxHeartbeats 4000000 in
set_option maxRecDepth 100000 in
theorem sX11_isHouse (hM : IsM n sh m) {x : Int32} : CM yX11_isHouse cX11_isHouse 2 (Option.some .boolean) 2 0 0 [.ref m, .int x] z n sh I L (Pst (some (.int (bI (mFrom x 0 (I (m + 1) 231 - 1))))) z n sh I L) := by
  refine CM.go [some (.ref m), some (.int x)] rfl rfl (Nat.le_of_ble_eq_true rfl) (fun X g q => ?_)
  refine aw_iload_n dX11_isHouse_0 rfl ?_
  refine aw_iconst (v := 0) dX11_isHouse_1 rfl ?_
  refine aw_aload_n dX11_isHouse_2 rfl ?_
  refine aw_getR (b := m + 1) dX11_isHouse_3 fX11_7 hM.k hM.b rfl hM.r0 ?_
  refine aw_sipush (v := 231) dX11_isHouse_6 rfl ?_
  refine aw_ialdN (k := 231) dX11_isHouse_9 hM.k0 hM.b0 hM.l0 rfl (by decide) (by decide) ?_
  refine aw_iconst (v := 1) dX11_isHouse_10 rfl ?_
  refine aw_isub dX11_isHouse_11 ?_
  refine aw_cS dX11_isHouse_12 kX11_71 mX11_isFrom (sX11_isFrom hM) (Nat.le_of_ble_eq_true rfl) rfl rfl (Nat.le_of_ble_eq_true rfl) ⟨Nat.le_refl _, Nat.le_refl _⟩ ?_
  refine aw_zret q rfl (bI01 _) dX11_isHouse_15 ⟨Nat.le_refl _, Nat.le_refl _⟩ ?_
  exact Pst.rf
theorem rX11_isHouse (hM : IsM n sh m) {N : Nat → Int32} (hI : I (m + 1) = N) {x : Int32} : CM yX11_isHouse cX11_isHouse 2 (Option.some .boolean) 2 0 0 [.ref m, .int x] z n sh I L (Pst (some (.int (bI (mFrom x 0 (N 231 - 1))))) z n sh I L) := by
  subst hI
  apply sX11_isHouse <;> assumption
def mOnes (N : Nat → Int32) (x y : Int32) : Bool := mFrom x 0 (N 231 - 1) && mFrom y 0 (N 230 - 1)
set_option maxHeartbeats 4000000 in
set_option maxRecDepth 100000 in
theorem sX11_areOnes (hM : IsM n sh m) {x y : Int32} : CM yX11_areOnes cX11_areOnes 3 (Option.some .boolean) 3 0 0 [.ref m, .int x, .int y] z n sh I L (Pst (some (.int (bI (mOnes (I (m + 1)) x y)))) z n sh I L) := by
  refine CM.go [some (.ref m), some (.int x), some (.int y)] rfl rfl (Nat.le_of_ble_eq_true rfl) (fun X g q => ?_)
  refine aw_aload_n dX11_areOnes_0 rfl ?_
  refine aw_iload_n dX11_areOnes_1 rfl ?_
  refine aw_cV dX11_areOnes_2 kX11_244 mX11_isHouse (sX11_isHouse hM) (Nat.le_of_ble_eq_true rfl) hM.k ⟨by decide, rfl⟩ hM.b rfl rfl (Nat.le_of_ble_eq_true rfl) ⟨Nat.le_refl _, Nat.le_refl _⟩ ?_
  refine aw_if_eq (tgt := 20) dX11_areOnes_5 rfl (fun c5 => ?_) (fun c5 => ?_)
  · refine aw_iconst (v := 0) dX11_areOnes_20 rfl ?_
    refine aw_zret q rfl (by decide) dX11_areOnes_21 ⟨Nat.le_refl _, Nat.le_refl _⟩ ?_
    refine Pst.iv ?_
    simp -failIfUnchanged only [bI0, bI1] at c5
    simp [bI, mOnes, c5]
  · refine aw_aload_n dX11_areOnes_8 rfl ?_
    refine aw_iload_n dX11_areOnes_9 rfl ?_
    refine aw_cV dX11_areOnes_10 kX11_238 mX11_isHome (sX11_isHome hM) (Nat.le_of_ble_eq_true rfl) hM.k ⟨by decide, rfl⟩ hM.b rfl rfl (Nat.le_of_ble_eq_true rfl) ⟨Nat.le_refl _, Nat.le_refl _⟩ ?_
    refine aw_if_eq (tgt := 20) dX11_areOnes_13 rfl (fun c13 => ?_) (fun c13 => ?_)
    · refine aw_iconst (v := 0) dX11_areOnes_20 rfl ?_
      refine aw_zret q rfl (by decide) dX11_areOnes_21 ⟨Nat.le_refl _, Nat.le_refl _⟩ ?_
      refine Pst.iv ?_
      simp -failIfUnchanged only [bI0, bI1] at c5 c13
      simp [bI, mOnes, c5, c13]
    · refine aw_iconst (v := 1) dX11_areOnes_16 rfl ?_
      refine aw_goto (tgt := 21) dX11_areOnes_17 rfl ?_
      refine aw_zret q rfl (by decide) dX11_areOnes_21 ⟨Nat.le_refl _, Nat.le_refl _⟩ ?_
      refine Pst.iv ?_
      simp -failIfUnchanged only [bI0, bI1] at c5 c13
      simp [bI, mOnes, c5, c13]
theorem rX11_areOnes (hM : IsM n sh m) {N : Nat → Int32} (hI : I (m + 1) = N) {x y : Int32} : CM yX11_areOnes cX11_areOnes 3 (Option.some .boolean) 3 0 0 [.ref m, .int x, .int y] z n sh I L (Pst (some (.int (bI (mOnes (N) x y)))) z n sh I L) := by
  subst hI
  apply sX11_areOnes <;> assumption
set_option maxHeartbeats 4000000 in
set_option maxRecDepth 100000 in
theorem sX11_thrown (hM : IsM n sh m)  : CM yX11_thrown cX11_thrown 1 (Option.some .int) 1 0 0 [.ref m] z n sh I L (Pst (some (.int (I m 0))) z n sh I L) := by
  refine CM.go [some (.ref m)] rfl rfl (Nat.le_of_ble_eq_true rfl) (fun X g q => ?_)
  refine aw_aload_n dX11_thrown_0 rfl ?_
  refine aw_getI dX11_thrown_1 fX11_65 hM.k hM.b rfl ?_
  refine aw_iret q rfl dX11_thrown_4 ⟨Nat.le_refl _, Nat.le_refl _⟩ ?_
  exact Pst.rf
set_option maxHeartbeats 4000000 in
set_option maxRecDepth 100000 in
theorem sX11_status (hM : IsM n sh m)  : CM yX11_status cX11_status 1 (Option.some .int) 1 0 0 [.ref m] z n sh I L (Pst (some (.int (I m 9))) z n sh (upI I m 0 0) L) := by
  refine CM.go [some (.ref m)] rfl rfl (Nat.le_of_ble_eq_true rfl) (fun X g q => ?_)
  refine aw_aload_n dX11_status_0 rfl ?_
  refine aw_iconst (v := 0) dX11_status_1 rfl ?_
  refine aw_putI dX11_status_2 fX11_65 hM.k hM.b rfl rfl ?_
  refine aw_aload_n dX11_status_5 rfl ?_
  refine aw_getI dX11_status_6 fX11_68 hM.k hM.b rfl ?_
  refine aw_iret q rfl dX11_status_9 ⟨Nat.le_refl _, Nat.le_refl _⟩ ?_
  exact Pst.iv (by simp [upI, upd])
set_option maxHeartbeats 4000000 in
set_option maxRecDepth 100000 in
theorem sX11_fault (hM : IsM n sh m) {x : Int32} : CM yX11_fault cX11_fault 2 (Option.some .int) 1 0 0 [.ref m, .int x] z n sh I L (Pst (some (.int (if x = 0 then I m 10 else if x = 1 then I m 11 else -1))) z n sh (upI I m 0 0) L) := by
  refine CM.go [some (.ref m), some (.int x)] rfl rfl (Nat.le_of_ble_eq_true rfl) (fun X g q => ?_)
  refine aw_aload_n dX11_fault_0 rfl ?_
  refine aw_iconst (v := 0) dX11_fault_1 rfl ?_
  refine aw_putI dX11_fault_2 fX11_65 hM.k hM.b rfl rfl ?_
  refine aw_iload_n dX11_fault_5 rfl ?_
  refine aw_if_ne (tgt := 16) dX11_fault_6 rfl (fun c6 => ?_) (fun c6 => ?_)
  · refine aw_iload_n dX11_fault_16 rfl ?_
    refine aw_iconst (v := 1) dX11_fault_17 rfl ?_
    refine aw_icmp_ne (tgt := 28) dX11_fault_18 rfl (fun c18 => ?_) (fun c18 => ?_)
    · refine aw_iconst (v := (-1)) dX11_fault_28 rfl ?_
      refine aw_iret q rfl dX11_fault_29 ⟨Nat.le_refl _, Nat.le_refl _⟩ ?_
      exact Pst.iv (by simp [upI, upd, c6, c18])
    · refine aw_aload_n dX11_fault_21 rfl ?_
      refine aw_getI dX11_fault_22 fX11_36 hM.k hM.b rfl ?_
      refine aw_goto (tgt := 29) dX11_fault_25 rfl ?_
      refine aw_iret q rfl dX11_fault_29 ⟨Nat.le_refl _, Nat.le_refl _⟩ ?_
      exact Pst.iv (by simp [upI, upd, c6, c18])
  · refine aw_aload_n dX11_fault_9 rfl ?_
    refine aw_getI dX11_fault_10 fX11_32 hM.k hM.b rfl ?_
    refine aw_goto (tgt := 29) dX11_fault_13 rfl ?_
    refine aw_iret q rfl dX11_fault_29 ⟨Nat.le_refl _, Nat.le_refl _⟩ ?_
    exact Pst.iv (by simp [upI, upd, c6])
set_option maxHeartbeats 4000000 in
set_option maxRecDepth 100000 in
theorem sX11_isFree (hM : IsM n sh m) {x : Int32} {h : Nat} (hx : x = nI h) (hb : h < 10) : CM yX11_isFree cX11_isFree 2 (Option.some .boolean) 2 0 0 [.ref m, .int x] z n sh I L (Pst (some (.int (bI (mFree (I (m + 1)) h)))) z n sh I L) := by
  refine CM.go [some (.ref m), some (.int x)] rfl rfl (Nat.le_of_ble_eq_true rfl) (fun X g q => ?_)
  refine aw_aload_n dX11_isFree_0 rfl ?_
  refine aw_iload_n dX11_isFree_1 rfl ?_
  refine aw_iconst (v := 2) dX11_isFree_2 rfl ?_
  refine aw_cV dX11_isFree_3 kX11_202 mX11_home0 (sX11_home0 (h := h) (w := 2) hM hx rfl (by omega)) (Nat.le_of_ble_eq_true rfl) hM.k ⟨by decide, rfl⟩ hM.b rfl rfl (Nat.le_of_ble_eq_true rfl) ⟨Nat.le_refl _, Nat.le_refl _⟩ ?_
  refine aw_iconst (v := (-1)) dX11_isFree_6 rfl ?_
  refine aw_icmp_ne (tgt := 33) dX11_isFree_7 rfl (fun c7 => ?_) (fun c7 => ?_)
  · refine aw_iconst (v := 0) dX11_isFree_33 rfl ?_
    refine aw_zret q rfl (by decide) dX11_isFree_34 ⟨Nat.le_refl _, Nat.le_refl _⟩ ?_
    refine Pst.iv ?_
    simp -failIfUnchanged only [bI0, bI1] at c7
    simp [bI, mFree, c7]
  · refine aw_aload_n dX11_isFree_10 rfl ?_
    refine aw_iload_n dX11_isFree_11 rfl ?_
    refine aw_iconst (v := 3) dX11_isFree_12 rfl ?_
    refine aw_cV dX11_isFree_13 kX11_202 mX11_home0 (sX11_home0 (h := h) (w := 3) hM hx rfl (by omega)) (Nat.le_of_ble_eq_true rfl) hM.k ⟨by decide, rfl⟩ hM.b rfl rfl (Nat.le_of_ble_eq_true rfl) ⟨Nat.le_refl _, Nat.le_refl _⟩ ?_
    refine aw_if_ne (tgt := 33) dX11_isFree_16 rfl (fun c16 => ?_) (fun c16 => ?_)
    · refine aw_iconst (v := 0) dX11_isFree_33 rfl ?_
      refine aw_zret q rfl (by decide) dX11_isFree_34 ⟨Nat.le_refl _, Nat.le_refl _⟩ ?_
      refine Pst.iv ?_
      simp -failIfUnchanged only [bI0, bI1] at c7 c16
      simp [bI, mFree, c7, c16]
    · refine aw_aload_n dX11_isFree_19 rfl ?_
      refine aw_iload_n dX11_isFree_20 rfl ?_
      refine aw_bipush (v := 6) dX11_isFree_21 rfl ?_
      refine aw_cV dX11_isFree_23 kX11_202 mX11_home0 (sX11_home0 (h := h) (w := 6) hM hx rfl (by omega)) (Nat.le_of_ble_eq_true rfl) hM.k ⟨by decide, rfl⟩ hM.b rfl rfl (Nat.le_of_ble_eq_true rfl) ⟨Nat.le_refl _, Nat.le_refl _⟩ ?_
      refine aw_if_ne (tgt := 33) dX11_isFree_26 rfl (fun c26 => ?_) (fun c26 => ?_)
      · refine aw_iconst (v := 0) dX11_isFree_33 rfl ?_
        refine aw_zret q rfl (by decide) dX11_isFree_34 ⟨Nat.le_refl _, Nat.le_refl _⟩ ?_
        refine Pst.iv ?_
        simp -failIfUnchanged only [bI0, bI1] at c7 c16 c26
        simp [bI, mFree, c7, c16, c26]
      · refine aw_iconst (v := 1) dX11_isFree_29 rfl ?_
        refine aw_goto (tgt := 34) dX11_isFree_30 rfl ?_
        refine aw_zret q rfl (by decide) dX11_isFree_34 ⟨Nat.le_refl _, Nat.le_refl _⟩ ?_
        refine Pst.iv ?_
        simp -failIfUnchanged only [bI0, bI1] at c7 c16 c26
        simp [bI, mFree, c7, c16, c26]
theorem rX11_isFree (hM : IsM n sh m) {N : Nat → Int32} (hI : I (m + 1) = N) {x : Int32} {h : Nat} (hx : x = nI h) (hb : h < 10) : CM yX11_isFree cX11_isFree 2 (Option.some .boolean) 2 0 0 [.ref m, .int x] z n sh I L (Pst (some (.int (bI (mFree (N) h)))) z n sh I L) := by
  subst hI
  apply sX11_isFree <;> assumption
set_option maxHeartbeats 4000000 in
set_option maxRecDepth 100000 in
theorem sX11_isIn (hM : IsM n sh m) {x : Int32} {p : Nat} (hx : x = nI p) (hb : p < 8) : CM yX11_isIn cX11_isIn 2 (Option.some .boolean) 3 0 0 [.ref m, .int x] z n sh I L (Pst (some (.int (bI (mIn (I (m + 1)) p)))) z n sh I L) := by
  refine CM.go [some (.ref m), some (.int x)] rfl rfl (Nat.le_of_ble_eq_true rfl) (fun X g q => ?_)
  refine aw_aload_n dX11_isIn_0 rfl ?_
  refine aw_iload_n dX11_isIn_1 rfl ?_
  refine aw_bipush (v := 8) dX11_isIn_2 rfl ?_
  refine aw_cV dX11_isIn_4 kX11_205 mX11_of (sX11_of (p := p) (w := 8) hM hx rfl (by omega)) (Nat.le_of_ble_eq_true rfl) hM.k ⟨by decide, rfl⟩ hM.b rfl rfl (Nat.le_of_ble_eq_true rfl) ⟨Nat.le_refl _, Nat.le_refl _⟩ ?_
  refine aw_if_ne (tgt := 14) dX11_isIn_7 rfl (fun c7 => ?_) (fun c7 => ?_)
  · refine aw_iconst (v := 0) dX11_isIn_14 rfl ?_
    refine aw_zret q rfl (by decide) dX11_isIn_15 ⟨Nat.le_refl _, Nat.le_refl _⟩ ?_
    refine Pst.iv ?_
    simp -failIfUnchanged only [bI0, bI1] at c7
    simp [bI, mIn, c7]
  · refine aw_iconst (v := 1) dX11_isIn_10 rfl ?_
    refine aw_goto (tgt := 15) dX11_isIn_11 rfl ?_
    refine aw_zret q rfl (by decide) dX11_isIn_15 ⟨Nat.le_refl _, Nat.le_refl _⟩ ?_
    refine Pst.iv ?_
    simp -failIfUnchanged only [bI0, bI1] at c7
    simp [bI, mIn, c7]
theorem rX11_isIn (hM : IsM n sh m) {N : Nat → Int32} (hI : I (m + 1) = N) {x : Int32} {p : Nat} (hx : x = nI p) (hb : p < 8) : CM yX11_isIn cX11_isIn 2 (Option.some .boolean) 3 0 0 [.ref m, .int x] z n sh I L (Pst (some (.int (bI (mIn (N) p)))) z n sh I L) := by
  subst hI
  apply sX11_isIn <;> assumption
set_option maxHeartbeats 4000000 in
set_option maxRecDepth 100000 in
theorem sX11_mayHope (hM : IsM n sh m) {x : Int32} {p : Nat} (hx : x = nI p) (hb : p < 8) : CM yX11_mayHope cX11_mayHope 2 (Option.some .boolean) 4 0 0 [.ref m, .int x] z n sh I L (Pst (some (.int (bI (mHope (I (m + 1)) p)))) z n sh I L) := by
  refine CM.go [some (.ref m), some (.int x)] rfl rfl (Nat.le_of_ble_eq_true rfl) (fun X g q => ?_)
  refine aw_aload_n dX11_mayHope_0 rfl ?_
  refine aw_iload_n dX11_mayHope_1 rfl ?_
  refine aw_cV dX11_mayHope_2 kX11_208 mX11_isIn (sX11_isIn (p := p) hM hx (by omega)) (Nat.le_of_ble_eq_true rfl) hM.k ⟨by decide, rfl⟩ hM.b rfl rfl (Nat.le_of_ble_eq_true rfl) ⟨Nat.le_refl _, Nat.le_refl _⟩ ?_
  refine aw_if_eq (tgt := 22) dX11_mayHope_5 rfl (fun c5 => ?_) (fun c5 => ?_)
  · refine aw_iconst (v := 0) dX11_mayHope_22 rfl ?_
    refine aw_zret q rfl (by decide) dX11_mayHope_23 ⟨Nat.le_refl _, Nat.le_refl _⟩ ?_
    refine Pst.iv ?_
    simp -failIfUnchanged only [bI0, bI1] at c5
    simp [bI, mHope, c5]
  · refine aw_aload_n dX11_mayHope_8 rfl ?_
    refine aw_iload_n dX11_mayHope_9 rfl ?_
    refine aw_bipush (v := 6) dX11_mayHope_10 rfl ?_
    refine aw_cV dX11_mayHope_12 kX11_205 mX11_of (sX11_of (p := p) (w := 6) hM hx rfl (by omega)) (Nat.le_of_ble_eq_true rfl) hM.k ⟨by decide, rfl⟩ hM.b rfl rfl (Nat.le_of_ble_eq_true rfl) ⟨Nat.le_refl _, Nat.le_refl _⟩ ?_
    refine aw_if_ne (tgt := 22) dX11_mayHope_15 rfl (fun c15 => ?_) (fun c15 => ?_)
    · refine aw_iconst (v := 0) dX11_mayHope_22 rfl ?_
      refine aw_zret q rfl (by decide) dX11_mayHope_23 ⟨Nat.le_refl _, Nat.le_refl _⟩ ?_
      refine Pst.iv ?_
      simp -failIfUnchanged only [bI0, bI1] at c5 c15
      simp [bI, mHope, c5, c15]
    · refine aw_iconst (v := 1) dX11_mayHope_18 rfl ?_
      refine aw_goto (tgt := 23) dX11_mayHope_19 rfl ?_
      refine aw_zret q rfl (by decide) dX11_mayHope_23 ⟨Nat.le_refl _, Nat.le_refl _⟩ ?_
      refine Pst.iv ?_
      simp -failIfUnchanged only [bI0, bI1] at c5 c15
      simp [bI, mHope, c5, c15]
theorem rX11_mayHope (hM : IsM n sh m) {N : Nat → Int32} (hI : I (m + 1) = N) {x : Int32} {p : Nat} (hx : x = nI p) (hb : p < 8) : CM yX11_mayHope cX11_mayHope 2 (Option.some .boolean) 4 0 0 [.ref m, .int x] z n sh I L (Pst (some (.int (bI (mHope (N) p)))) z n sh I L) := by
  subst hI
  apply sX11_mayHope <;> assumption
set_option maxHeartbeats 4000000 in
set_option maxRecDepth 100000 in
theorem sX11_bandNow (hM : IsM n sh m) {x : Int32} {p : Nat} (hx : x = nI p) (hb : p < 8) (ha : ¬ I (m + 1) 228 = 0) : CM yX11_bandNow cX11_bandNow 2 (Option.some .int) 3 0 0 [.ref m, .int x] z n sh I L (Pst (some (.int (mBand (I (m + 1)) p))) z n sh I L) := by
  refine CM.go [some (.ref m), some (.int x)] rfl rfl (Nat.le_of_ble_eq_true rfl) (fun X g q => ?_)
  refine aw_iconst (v := 1) dX11_bandNow_0 rfl ?_
  refine aw_aload_n dX11_bandNow_1 rfl ?_
  refine aw_iload_n dX11_bandNow_2 rfl ?_
  refine aw_iconst (v := 0) dX11_bandNow_3 rfl ?_
  refine aw_cV dX11_bandNow_4 kX11_205 mX11_of (sX11_of (p := p) (w := 0) hM hx rfl (by omega)) (Nat.le_of_ble_eq_true rfl) hM.k ⟨by decide, rfl⟩ hM.b rfl rfl (Nat.le_of_ble_eq_true rfl) ⟨Nat.le_refl _, Nat.le_refl _⟩ ?_
  refine aw_sipush (v := 1000) dX11_bandNow_7 rfl ?_
  refine aw_bipush (v := 7) dX11_bandNow_10 rfl ?_
  refine aw_aload_n dX11_bandNow_12 rfl ?_
  refine aw_getR (b := m + 1) dX11_bandNow_13 fX11_7 hM.k hM.b rfl hM.r0 ?_
  refine aw_sipush (v := 232) dX11_bandNow_16 rfl ?_
  refine aw_ialdN (k := 232) dX11_bandNow_19 hM.k0 hM.b0 hM.l0 rfl (by decide) (by decide) ?_
  refine aw_imul dX11_bandNow_20 ?_
  refine aw_iadd dX11_bandNow_21 ?_
  refine aw_aload_n dX11_bandNow_22 rfl ?_
  refine aw_iload_n dX11_bandNow_23 rfl ?_
  refine aw_iconst (v := 3) dX11_bandNow_24 rfl ?_
  refine aw_cV dX11_bandNow_25 kX11_205 mX11_of (sX11_of (p := p) (w := 3) hM hx rfl (by omega)) (Nat.le_of_ble_eq_true rfl) hM.k ⟨by decide, rfl⟩ hM.b rfl rfl (Nat.le_of_ble_eq_true rfl) ⟨Nat.le_refl _, Nat.le_refl _⟩ ?_
  refine aw_isub dX11_bandNow_28 ?_
  refine aw_aload_n dX11_bandNow_29 rfl ?_
  refine aw_getR (b := m + 1) dX11_bandNow_30 fX11_7 hM.k hM.b rfl hM.r0 ?_
  refine aw_sipush (v := 228) dX11_bandNow_33 rfl ?_
  refine aw_ialdN (k := 228) dX11_bandNow_36 hM.k0 hM.b0 hM.l0 rfl (by decide) (by decide) ?_
  refine aw_idiv dX11_bandNow_37 (by assumption) ?_
  refine aw_isub dX11_bandNow_38 ?_
  refine aw_mmax dX11_bandNow_39 kX11_211 (Nat.le_of_ble_eq_true rfl) (Nat.le_of_ble_eq_true rfl) ⟨Nat.le_refl _, Nat.le_refl _⟩ ?_
  refine aw_iret q rfl dX11_bandNow_42 ⟨Nat.le_refl _, Nat.le_refl _⟩ ?_
  exact Pst.rf
theorem rX11_bandNow (hM : IsM n sh m) {N : Nat → Int32} (hI : I (m + 1) = N) {x : Int32} {p : Nat} (hx : x = nI p) (hb : p < 8) (ha : ¬ N 228 = 0) : CM yX11_bandNow cX11_bandNow 2 (Option.some .int) 3 0 0 [.ref m, .int x] z n sh I L (Pst (some (.int (mBand (N) p))) z n sh I L) := by
  subst hI
  apply sX11_bandNow <;> assumption
set_option maxHeartbeats 4000000 in
set_option maxRecDepth 100000 in
theorem sX11_doesFit (hM : IsM n sh m) {x y : Int32} {p h : Nat} (hx : x = nI p) (hy : y = nI h) (hb : p < 8) (hc : h < 10) : CM yX11_doesFit cX11_doesFit 3 (Option.some .boolean) 3 0 0 [.ref m, .int x, .int y] z n sh I L (Pst (some (.int (bI (mFit (I (m + 1)) p h)))) z n sh I L) := by
  refine CM.go [some (.ref m), some (.int x), some (.int y)] rfl rfl (Nat.le_of_ble_eq_true rfl) (fun X g q => ?_)
  refine aw_aload_n dX11_doesFit_0 rfl ?_
  refine aw_iload_n dX11_doesFit_1 rfl ?_
  refine aw_iconst (v := 0) dX11_doesFit_2 rfl ?_
  refine aw_cV dX11_doesFit_3 kX11_202 mX11_home0 (sX11_home0 (h := h) (w := 0) hM hy rfl (by omega)) (Nat.le_of_ble_eq_true rfl) hM.k ⟨by decide, rfl⟩ hM.b rfl rfl (Nat.le_of_ble_eq_true rfl) ⟨Nat.le_refl _, Nat.le_refl _⟩ ?_
  refine aw_aload_n dX11_doesFit_6 rfl ?_
  refine aw_iload_n dX11_doesFit_7 rfl ?_
  refine aw_iconst (v := 1) dX11_doesFit_8 rfl ?_
  refine aw_cV dX11_doesFit_9 kX11_205 mX11_of (sX11_of (p := p) (w := 1) hM hx rfl (by omega)) (Nat.le_of_ble_eq_true rfl) hM.k ⟨by decide, rfl⟩ hM.b rfl rfl (Nat.le_of_ble_eq_true rfl) ⟨Nat.le_refl _, Nat.le_refl _⟩ ?_
  refine aw_isub dX11_doesFit_12 ?_
  refine aw_iconst (v := 0) dX11_doesFit_13 rfl ?_
  refine aw_iconst (v := 1) dX11_doesFit_14 rfl ?_
  refine aw_cS dX11_doesFit_15 kX11_71 mX11_isFrom (sX11_isFrom hM) (Nat.le_of_ble_eq_true rfl) rfl rfl (Nat.le_of_ble_eq_true rfl) ⟨Nat.le_refl _, Nat.le_refl _⟩ ?_
  refine aw_zret q rfl (bI01 _) dX11_doesFit_18 ⟨Nat.le_refl _, Nat.le_refl _⟩ ?_
  exact Pst.rf
theorem rX11_doesFit (hM : IsM n sh m) {N : Nat → Int32} (hI : I (m + 1) = N) {x y : Int32} {p h : Nat} (hx : x = nI p) (hy : y = nI h) (hb : p < 8) (hc : h < 10) : CM yX11_doesFit cX11_doesFit 3 (Option.some .boolean) 3 0 0 [.ref m, .int x, .int y] z n sh I L (Pst (some (.int (bI (mFit (N) p h)))) z n sh I L) := by
  subst hI
  apply sX11_doesFit <;> assumption
set_option maxHeartbeats 4000000 in
set_option maxRecDepth 100000 in
theorem sX11_isBid (hM : IsM n sh m) {x y : Int32} {p : Nat} (hx : x = nI p) (hb : p < 8) : CM yX11_isBid cX11_isBid 3 (Option.some .boolean) 3 0 0 [.ref m, .int x, .int y] z n sh I L (Pst (some (.int (bI (mBid (I (m + 1)) p y)))) z n sh I L) := by
  refine CM.go [some (.ref m), some (.int x), some (.int y)] rfl rfl (Nat.le_of_ble_eq_true rfl) (fun X g q => ?_)
  refine aw_aload_n dX11_isBid_0 rfl ?_
  refine aw_iload_n dX11_isBid_1 rfl ?_
  refine aw_bipush (v := 10) dX11_isBid_2 rfl ?_
  refine aw_cV dX11_isBid_4 kX11_205 mX11_of (sX11_of (p := p) (w := 10) hM hx rfl (by omega)) (Nat.le_of_ble_eq_true rfl) hM.k ⟨by decide, rfl⟩ hM.b rfl rfl (Nat.le_of_ble_eq_true rfl) ⟨Nat.le_refl _, Nat.le_refl _⟩ ?_
  refine aw_iload_n dX11_isBid_7 rfl ?_
  refine aw_ishr dX11_isBid_8 ?_
  refine aw_iconst (v := 1) dX11_isBid_9 rfl ?_
  refine aw_iand dX11_isBid_10 ?_
  refine aw_iconst (v := 1) dX11_isBid_11 rfl ?_
  refine aw_icmp_ne (tgt := 19) dX11_isBid_12 rfl (fun c12 => ?_) (fun c12 => ?_)
  · refine aw_iconst (v := 0) dX11_isBid_19 rfl ?_
    refine aw_zret q rfl (by decide) dX11_isBid_20 ⟨Nat.le_refl _, Nat.le_refl _⟩ ?_
    refine Pst.iv ?_
    simp -failIfUnchanged only [bI0, bI1] at c12
    simp [bI, mBid, c12]
  · refine aw_iconst (v := 1) dX11_isBid_15 rfl ?_
    refine aw_goto (tgt := 20) dX11_isBid_16 rfl ?_
    refine aw_zret q rfl (by decide) dX11_isBid_20 ⟨Nat.le_refl _, Nat.le_refl _⟩ ?_
    refine Pst.iv ?_
    simp -failIfUnchanged only [bI0, bI1] at c12
    simp [bI, mBid, c12]
theorem rX11_isBid (hM : IsM n sh m) {N : Nat → Int32} (hI : I (m + 1) = N) {x y : Int32} {p : Nat} (hx : x = nI p) (hb : p < 8) : CM yX11_isBid cX11_isBid 3 (Option.some .boolean) 3 0 0 [.ref m, .int x, .int y] z n sh I L (Pst (some (.int (bI (mBid (N) p y)))) z n sh I L) := by
  subst hI
  apply sX11_isBid <;> assumption
theorem fa_first_no1 {P : Nat → Bool} {i : Nat} (h : fa_first P i = i) (hp : ¬ P i = true) : fa_first P (i + 1) = i + 1 := by
  rw [fa_first, if_neg (by omega), if_neg hp]
theorem fa_first_mono {P : Nat → Bool} {i : Nat} (h : fa_first P i = i) (hp : P i = true) : ∀ k, fa_first P (i + 1 + k) = i
  | 0 => by rw [Nat.add_zero, fa_first, if_neg (by omega), if_pos hp]
  | k + 1 => by
    have ih := fa_first_mono h hp k
    rw [show i + 1 + (k + 1) = (i + 1 + k) + 1 by omega, fa_first, ih, if_pos (by omega)]
theorem fa_first_yes1 {P : Nat → Bool} {n i : Nat} (h : fa_first P i = i) (hp : P i = true) (hn : i < n) : fa_first P n = i := by
  have := fa_first_mono h hp (n - (i + 1))
  rwa [show i + 1 + (n - (i + 1)) = n by omega] at this
set_option maxHeartbeats 4000000 in
set_option maxRecDepth 100000 in
theorem sX11_wishOf (hM : IsM n sh m) {x y : Int32} {p : Nat} (hx : x = nI p) (hb : p < 8) (hw : I (m + 1) (80 + 18 * p + 11) = nI (nWi (I (m + 1)) p)) (hw6 : nWi (I (m + 1)) p ≤ 6) : CM yX11_wishOf cX11_wishOf 4 (Option.some .int) 3 0 0 [.ref m, .int x, .int y] z n sh I L (Pst (some (.int (mWish (I (m + 1)) p y))) z n sh I L) := by
  refine CM.go [some (.ref m), some (.int x), some (.int y), none] rfl rfl (Nat.le_of_ble_eq_true rfl) (fun X g q => ?_)
  have loop : ∀ i, i ≤ nWi (I (m + 1)) p → fa_first (fun k => decide (I (m + 1) (80 + 18 * p + (12 + k)) = y)) i = i → AW X g RX11 cX11_wishOf 4 (3, 0, 0) (z, n, sh, 0, 0) I L 2 [some (.ref m), some (.int x), some (.int y), some (.int (nI i))] [] := by
    refine up_loop (fun i hi6 ih hi => ?_)
    refine aw_iload_n dX11_wishOf_2 rfl ?_
    refine aw_aload_n dX11_wishOf_3 rfl ?_
    refine aw_iload_n dX11_wishOf_4 rfl ?_
    refine aw_bipush (v := 11) dX11_wishOf_5 rfl ?_
    refine aw_cV dX11_wishOf_7 kX11_205 mX11_of (sX11_of (p := p) (w := 11) hM hx rfl (by omega)) (Nat.le_of_ble_eq_true rfl) hM.k ⟨by decide, rfl⟩ hM.b rfl rfl (Nat.le_of_ble_eq_true rfl) ⟨Nat.le_refl _, Nat.le_refl _⟩ ?_
    refine aw_icmp_ge (tgt := 34) dX11_wishOf_10 rfl (fun c10 => ?_) (fun c10 => ?_)
    · have e : i = nWi (I (m + 1)) p := by rw [hw] at c10; have := (nI_leI (by omega) (by omega)).mp c10; omega
      refine aw_iconst (v := (-1)) dX11_wishOf_34 rfl ?_
      refine aw_iret q rfl dX11_wishOf_35 ⟨Nat.le_refl _, Nat.le_refl _⟩ ?_
      refine Pst.iv ?_
      unfold mWish iFirst
      rw [if_neg (by rw [← e, hi]; omega)]
    · have hlt : i < nWi (I (m + 1)) p := by rw [hw] at c10; have := mt (nI_leI (by omega) (by omega)).mpr c10; omega
      refine aw_aload_n dX11_wishOf_13 rfl ?_
      refine aw_iload_n dX11_wishOf_14 rfl ?_
      refine aw_bipush (v := 12) dX11_wishOf_15 rfl ?_
      refine aw_iload_n dX11_wishOf_17 rfl ?_
      refine aw_iadd dX11_wishOf_18 ?_
      refine aw_cV dX11_wishOf_19 kX11_205 mX11_of (sX11_of (p := p) (w := (12 + i)) hM hx (gadd rfl rfl) (by omega)) (Nat.le_of_ble_eq_true rfl) hM.k ⟨by decide, rfl⟩ hM.b rfl rfl (Nat.le_of_ble_eq_true rfl) ⟨Nat.le_refl _, Nat.le_refl _⟩ ?_
      refine aw_iload_n dX11_wishOf_22 rfl ?_
      refine aw_icmp_ne (tgt := 28) dX11_wishOf_23 rfl (fun c23 => ?_) (fun c23 => ?_)
      · refine aw_iinc dX11_wishOf_28 rfl (ginc rfl) (by decide) rfl ?_
        refine aw_goto (tgt := 2) dX11_wishOf_31 rfl ?_
        refine ih hlt ?_
        rw [fa_first_no1 hi (by simpa using c23)]
      · refine aw_iload_n dX11_wishOf_26 rfl ?_
        refine aw_iret q rfl dX11_wishOf_27 ⟨Nat.le_refl _, Nat.le_refl _⟩ ?_
        refine Pst.iv ?_
        unfold mWish iFirst
        have e := fa_first_yes1 (n := nWi (I (m + 1)) p) hi (by simpa using c23) hlt
        rw [e, if_pos hlt]
  refine aw_iconst (v := 0) dX11_wishOf_0 rfl ?_
  refine aw_istore_n dX11_wishOf_1 (by decide) rfl ?_
  exact loop 0 (Nat.zero_le _) rfl
set_option maxHeartbeats 4000000 in
set_option maxRecDepth 100000 in
theorem sX11_wouldTake (hM : IsM n sh m) {x y : Int32} {p : Nat} (hx : x = nI p) (hb : p < 8) (hw : I (m + 1) (80 + 18 * p + 11) = nI (nWi (I (m + 1)) p)) (hw6 : nWi (I (m + 1)) p ≤ 6) : CM yX11_wouldTake cX11_wouldTake 3 (Option.some .boolean) 4 0 0 [.ref m, .int x, .int y] z n sh I L (Pst (some (.int (bI (mTake (I (m + 1)) p y)))) z n sh I L) := by
  refine CM.go [some (.ref m), some (.int x), some (.int y)] rfl rfl (Nat.le_of_ble_eq_true rfl) (fun X g q => ?_)
  refine aw_aload_n dX11_wouldTake_0 rfl ?_
  refine aw_iload_n dX11_wouldTake_1 rfl ?_
  refine aw_bipush (v := 11) dX11_wouldTake_2 rfl ?_
  refine aw_cV dX11_wouldTake_4 kX11_205 mX11_of (sX11_of (p := p) (w := 11) hM hx rfl (by omega)) (Nat.le_of_ble_eq_true rfl) hM.k ⟨by decide, rfl⟩ hM.b rfl rfl (Nat.le_of_ble_eq_true rfl) ⟨Nat.le_refl _, Nat.le_refl _⟩ ?_
  refine aw_if_eq (tgt := 20) dX11_wouldTake_7 rfl (fun c7 => ?_) (fun c7 => ?_)
  · refine aw_iconst (v := 1) dX11_wouldTake_20 rfl ?_
    refine aw_goto (tgt := 25) dX11_wouldTake_21 rfl ?_
    refine aw_zret q rfl (by decide) dX11_wouldTake_25 ⟨Nat.le_refl _, Nat.le_refl _⟩ ?_
    refine Pst.iv ?_
    simp -failIfUnchanged only [bI0, bI1] at c7
    simp [bI, mTake, c7]
  · refine aw_aload_n dX11_wouldTake_10 rfl ?_
    refine aw_iload_n dX11_wouldTake_11 rfl ?_
    refine aw_iload_n dX11_wouldTake_12 rfl ?_
    refine aw_cV dX11_wouldTake_13 kX11_216 mX11_wishOf (sX11_wishOf (p := p) hM hx (by omega) hw hw6) (Nat.le_of_ble_eq_true rfl) hM.k ⟨by decide, rfl⟩ hM.b rfl rfl (Nat.le_of_ble_eq_true rfl) ⟨Nat.le_refl _, Nat.le_refl _⟩ ?_
    refine aw_iconst (v := (-1)) dX11_wouldTake_16 rfl ?_
    refine aw_icmp_eq (tgt := 24) dX11_wouldTake_17 rfl (fun c17 => ?_) (fun c17 => ?_)
    · refine aw_iconst (v := 0) dX11_wouldTake_24 rfl ?_
      refine aw_zret q rfl (by decide) dX11_wouldTake_25 ⟨Nat.le_refl _, Nat.le_refl _⟩ ?_
      refine Pst.iv ?_
      simp -failIfUnchanged only [bI0, bI1] at c7 c17
      simp [bI, mTake, c7, c17]
    · refine aw_iconst (v := 1) dX11_wouldTake_20 rfl ?_
      refine aw_goto (tgt := 25) dX11_wouldTake_21 rfl ?_
      refine aw_zret q rfl (by decide) dX11_wouldTake_25 ⟨Nat.le_refl _, Nat.le_refl _⟩ ?_
      refine Pst.iv ?_
      simp -failIfUnchanged only [bI0, bI1] at c7 c17
      simp [bI, mTake, c7, c17]
theorem rX11_wouldTake (hM : IsM n sh m) {N : Nat → Int32} (hI : I (m + 1) = N) {x y : Int32} {p : Nat} (hx : x = nI p) (hb : p < 8) (hw : N (80 + 18 * p + 11) = nI (nWi (N) p)) (hw6 : nWi (N) p ≤ 6) : CM yX11_wouldTake cX11_wouldTake 3 (Option.some .boolean) 4 0 0 [.ref m, .int x, .int y] z n sh I L (Pst (some (.int (bI (mTake (N) p y)))) z n sh I L) := by
  subst hI
  apply sX11_wouldTake <;> assumption
end RefS
