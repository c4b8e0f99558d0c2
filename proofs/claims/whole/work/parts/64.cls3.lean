/-! the class: a state's tellers -/
/-- the turns of a home, as bits -/
def trn (lo qu : Bool) : Int32 := (if lo then 1 else 0) ||| (if qu then 2 else 0)
def cTrn (N : Nat → Int32) (h : Nat) : Int32 := trn (mLocal N h) (mQuota N)
theorem trn_lo (lo qu : Bool) : trn lo qu &&& 1 = 0 ↔ lo = false := by cases lo <;> cases qu <;> decide
theorem trn_qu (lo qu : Bool) : trn lo qu &&& 2 = 0 ↔ qu = false := by cases lo <;> cases qu <;> decide
def cRk (N : Nat → Int32) (p h : Nat) (lo qu : Bool) (band : Int32) : Int32 :=
  (((bB (lo && !decide (N (80 + 18 * p + 2) = N (8 * h + 1))) * 2 + bB (qu && decide (N (80 + 18 * p + 4) = -1))) * 8 + band) * 1000 + N (80 + 18 * p + 3)) * 8 + nI p
/-- a house's cell, or none -/
def oH (b : Nat) (f : Option Nat) : Value := match f with
  | none => .null
  | some p => .ref (b + 13 + 2 * p)
theorem idn_step (a : Int32) (f : Nat → Int32) (k : Nat) : idn a f (k + 1) = idn a f k - f k := rfl
theorem sub_1 (x : Int32) : x - 1 = x + Int32.ofInt (-1) := Int32.sub_eq_add_neg x 1
theorem cnt_le {N : Nat → Int32} (hN : Cn N) (P : Nat → Bool) : fa_cnt P (nLe N) ≤ 8 := Nat.le_trans (fa_cnt_le _ _) hN.l8
section ClsS
variable {z n b : Nat} {sh : Shp} {I : MI} {L : ML} {N : Nat → Int32} {Q : Nat → Int64}
set_option maxHeartbeats 4000000 in
set_option maxRecDepth 100000 in
theorem sX7_lackOf (hS : IsS n sh b) (hC : CtS I L b N Q) (hO : Ok N) {x : Int32}  : CM yX7_lackOf cX7_lackOf 4 (Option.some .int) 2 0 0 [.ref b, .int x] z n sh I L (Pst (some (.int (idn (isum (lackP N x) (nPo N)) (lackH N x) (nHo N)))) z n sh I L) := by
  refine CM.go [some (.ref b), some (.int x), none, none] rfl rfl (Nat.le_of_ble_eq_true rfl) (fun X g q => ?_)
  have hN := hO.1
  have hR := hO.2.1
  have hB := hO.2.2.1
  have hE := hO.2.2.2
  have h8 := hN.p8
  have h10 := hN.h10
  have l2 : ∀ i, i ≤ nHo N → AW X g RX7 cX7_lackOf 4 (2, 0, 0) (z, n, sh, 0, 0) (I) (L) 48 [some (.ref b), some (.int x), some (.int (idn (isum (lackP N x) (nPo N)) (lackH N x) i)), some (.int (nI i))] [] := by
    refine up_loop (fun i hi ih => ?_)
    refine aw_iload_n dX7_lackOf_48 rfl ?_
    refine aw_aload_n dX7_lackOf_49 rfl ?_
    refine aw_getI dX7_lackOf_50 fX7_59 hS.k hS.b0 rfl ?_
    refine AW.top (hC.nh.trans hN.h) ?_
    refine aw_icmp_ge (tgt := 90) dX7_lackOf_53 rfl (fun c53 => ?_) (fun c53 => ?_)
    · have e := ge_t rfl (by omega) hi c53
      subst e
      refine aw_iload_n dX7_lackOf_90 rfl ?_
      refine aw_iret q rfl dX7_lackOf_91 ⟨Nat.le_refl _, Nat.le_refl _⟩ ?_
      exact Pst.rf
    · have hlt := ge_f rfl (by omega) hi c53
      refine aw_aload_n dX7_lackOf_56 rfl ?_
      refine aw_getR (b := b + 1) dX7_lackOf_57 fX7_11 hS.k hS.b0 rfl hS.r0 ?_
      refine aw_iload_n dX7_lackOf_60 rfl ?_
      refine aw_homes (h := i) hS rfl (by omega) dX7_lackOf_61 ?_
      refine aw_cV dX7_lackOf_62 kX7_95 mX2_isFree (sX2_isFree hS hC hN hlt) (Nat.le_of_ble_eq_true rfl) (hS.ho (by omega)) ⟨by decide, rfl⟩ (hS.hb (by omega)) rfl rfl (Nat.le_of_ble_eq_true rfl) ⟨Nat.le_refl _, Nat.le_refl _⟩ ?_
      refine aw_if_eq (tgt := 84) dX7_lackOf_65 rfl (fun c65 => ?_) (fun c65 => ?_)
      · refine aw_iinc dX7_lackOf_84 rfl (ginc rfl) (by decide) rfl ?_
        refine aw_goto (tgt := 48) dX7_lackOf_87 rfl ?_
        have := ih hlt
        rw [idn_step, show lackH N x i = 0 from by unfold lackH; rw [bI0.mp c65]; rfl] at this
        rw [Int32.sub_zero] at this
        exact this
      · refine aw_aload_n dX7_lackOf_68 rfl ?_
        refine aw_getR (b := b + 1) dX7_lackOf_69 fX7_11 hS.k hS.b0 rfl hS.r0 ?_
        refine aw_iload_n dX7_lackOf_72 rfl ?_
        refine aw_homes (h := i) hS rfl (by omega) dX7_lackOf_73 ?_
        refine aw_getI dX7_lackOf_74 fX7_134 (hS.ho (by omega)) (hS.hb (by omega)) rfl ?_
        refine AW.top (hC.hf h10 (h := i) (w := 0) (by omega) (by decide)) ?_
        refine aw_iload_n dX7_lackOf_77 rfl ?_
        refine aw_icmp_ne (tgt := 84) dX7_lackOf_78 rfl (fun c78 => ?_) (fun c78 => ?_)
        · refine aw_iinc dX7_lackOf_84 rfl (ginc rfl) (by decide) rfl ?_
          refine aw_goto (tgt := 48) dX7_lackOf_87 rfl ?_
          try simp only [Nat.add_zero] at c78
          have := ih hlt
          rw [idn_step, show lackH N x i = 0 from by unfold lackH; rw [bI1.mp c65]; simp [bB, c78]] at this
          rw [Int32.sub_zero] at this
          exact this
        · refine aw_iinc dX7_lackOf_81 rfl rfl (by decide) rfl ?_
          refine aw_iinc dX7_lackOf_84 rfl (ginc rfl) (by decide) rfl ?_
          refine aw_goto (tgt := 48) dX7_lackOf_87 rfl ?_
          try simp only [Nat.add_zero] at c78
          have := ih hlt
          rw [idn_step, show lackH N x i = 1 from by unfold lackH; rw [bI1.mp c65]; simp [bB, c78]] at this
          rw [sub_1] at this
          exact this
  have loop : ∀ i, i ≤ nPo N → AW X g RX7 cX7_lackOf 4 (2, 0, 0) (z, n, sh, 0, 0) (I) (L) 4 [some (.ref b), some (.int x), some (.int (isum (lackP N x) i)), some (.int (nI i))] [] := by
    refine up_loop (fun i hi ih => ?_)
    refine aw_iload_n dX7_lackOf_4 rfl ?_
    refine aw_aload_n dX7_lackOf_5 rfl ?_
    refine aw_getI dX7_lackOf_6 fX7_62 hS.k hS.b0 rfl ?_
    refine AW.top (hC.np.trans hN.p) ?_
    refine aw_icmp_ge (tgt := 46) dX7_lackOf_9 rfl (fun c9 => ?_) (fun c9 => ?_)
    · have e := ge_t rfl (by omega) hi c9
      subst e
      refine aw_iconst (v := 0) dX7_lackOf_46 rfl ?_
      refine aw_istore_n dX7_lackOf_47 (by decide) rfl ?_
      exact l2 0 (Nat.zero_le _)
    · have hlt := ge_f rfl (by omega) hi c9
      refine aw_aload_n dX7_lackOf_12 rfl ?_
      refine aw_getR (b := b + 12) dX7_lackOf_13 fX7_22 hS.k hS.b0 rfl hS.r1 ?_
      refine aw_iload_n dX7_lackOf_16 rfl ?_
      refine aw_houses (p := i) hS rfl (by omega) dX7_lackOf_17 ?_
      refine aw_getI dX7_lackOf_18 fX7_99 (hS.po (by omega)) (hS.pb (by omega)) rfl ?_
      refine AW.top (hC.pf h8 (p := i) (w := 8) (by omega) (by decide) (by decide) (by decide)) ?_
      refine aw_if_ne (tgt := 40) dX7_lackOf_21 rfl (fun c21 => ?_) (fun c21 => ?_)
      · refine aw_iinc dX7_lackOf_40 rfl (ginc rfl) (by decide) rfl ?_
        refine aw_goto (tgt := 4) dX7_lackOf_43 rfl ?_
        have := ih hlt
        rw [show isum (lackP N x) (i + 1) = isum (lackP N x) i + lackP N x i from rfl, show lackP N x i = 0 from by unfold lackP mIn; simp [bB, c21]] at this
        rw [Int32.add_zero] at this
        exact this
      · refine aw_aload_n dX7_lackOf_24 rfl ?_
        refine aw_getR (b := b + 12) dX7_lackOf_25 fX7_22 hS.k hS.b0 rfl hS.r1 ?_
        refine aw_iload_n dX7_lackOf_28 rfl ?_
        refine aw_houses (p := i) hS rfl (by omega) dX7_lackOf_29 ?_
        refine aw_getI dX7_lackOf_30 fX7_131 (hS.po (by omega)) (hS.pb (by omega)) rfl ?_
        refine AW.top (hC.pf h8 (p := i) (w := 1) (by omega) (by decide) (by decide) (by decide)) ?_
        refine aw_iload_n dX7_lackOf_33 rfl ?_
        refine aw_icmp_ne (tgt := 40) dX7_lackOf_34 rfl (fun c34 => ?_) (fun c34 => ?_)
        · refine aw_iinc dX7_lackOf_40 rfl (ginc rfl) (by decide) rfl ?_
          refine aw_goto (tgt := 4) dX7_lackOf_43 rfl ?_
          have := ih hlt
          rw [show isum (lackP N x) (i + 1) = isum (lackP N x) i + lackP N x i from rfl, show lackP N x i = 0 from by unfold lackP mIn; simp [bB, c21, c34]] at this
          rw [Int32.add_zero] at this
          exact this
        · refine aw_iinc dX7_lackOf_37 rfl rfl (by decide) rfl ?_
          refine aw_iinc dX7_lackOf_40 rfl (ginc rfl) (by decide) rfl ?_
          refine aw_goto (tgt := 4) dX7_lackOf_43 rfl ?_
          have := ih hlt
          rw [show isum (lackP N x) (i + 1) = isum (lackP N x) i + lackP N x i from rfl, show lackP N x i = 1 from by unfold lackP mIn; simp [bB, c21, c34]] at this
          exact this
  refine aw_iconst (v := 0) dX7_lackOf_0 rfl ?_
  refine aw_istore_n dX7_lackOf_1 (by decide) rfl ?_
  refine aw_iconst (v := 0) dX7_lackOf_2 rfl ?_
  refine aw_istore_n dX7_lackOf_3 (by decide) rfl ?_
  exact loop 0 (Nat.zero_le _)
set_option maxHeartbeats 4000000 in
set_option maxRecDepth 100000 in
theorem sX7_wantOf (hS : IsS n sh b) (hC : CtS I L b N Q) (hO : Ok N) {x : Int32}  : CM yX7_wantOf cX7_wantOf 4 (Option.some .int) 2 0 0 [.ref b, .int x] z n sh I L (Pst (some (.int (mWant N x))) z n sh I L) := by
  refine CM.go [some (.ref b), some (.int x), none, none] rfl rfl (Nat.le_of_ble_eq_true rfl) (fun X g q => ?_)
  have hN := hO.1
  have hR := hO.2.1
  have hB := hO.2.2.1
  have hE := hO.2.2.2
  have h8 := hN.p8
  have h10 := hN.h10
  have l2 : ∀ i, i ≤ nHo N → AW X g RX7 cX7_wantOf 4 (2, 0, 0) (z, n, sh, 0, 0) (I) (L) 48 [some (.ref b), some (.int x), some (.int (idn (isum (wantP N x) (nPo N)) (wantH N x) i)), some (.int (nI i))] [] := by
    refine up_loop (fun i hi ih => ?_)
    refine aw_iload_n dX7_wantOf_48 rfl ?_
    refine aw_aload_n dX7_wantOf_49 rfl ?_
    refine aw_getI dX7_wantOf_50 fX7_59 hS.k hS.b0 rfl ?_
    refine AW.top (hC.nh.trans hN.h) ?_
    refine aw_icmp_ge (tgt := 90) dX7_wantOf_53 rfl (fun c53 => ?_) (fun c53 => ?_)
    · have e := ge_t rfl (by omega) hi c53
      subst e
      refine aw_iload_n dX7_wantOf_90 rfl ?_
      refine aw_iret q rfl dX7_wantOf_91 ⟨Nat.le_refl _, Nat.le_refl _⟩ ?_
      exact Pst.rf
    · have hlt := ge_f rfl (by omega) hi c53
      refine aw_aload_n dX7_wantOf_56 rfl ?_
      refine aw_getR (b := b + 1) dX7_wantOf_57 fX7_11 hS.k hS.b0 rfl hS.r0 ?_
      refine aw_iload_n dX7_wantOf_60 rfl ?_
      refine aw_homes (h := i) hS rfl (by omega) dX7_wantOf_61 ?_
      refine aw_cV dX7_wantOf_62 kX7_95 mX2_isFree (sX2_isFree hS hC hN hlt) (Nat.le_of_ble_eq_true rfl) (hS.ho (by omega)) ⟨by decide, rfl⟩ (hS.hb (by omega)) rfl rfl (Nat.le_of_ble_eq_true rfl) ⟨Nat.le_refl _, Nat.le_refl _⟩ ?_
      refine aw_if_eq (tgt := 84) dX7_wantOf_65 rfl (fun c65 => ?_) (fun c65 => ?_)
      · refine aw_iinc dX7_wantOf_84 rfl (ginc rfl) (by decide) rfl ?_
        refine aw_goto (tgt := 48) dX7_wantOf_87 rfl ?_
        have := ih hlt
        rw [idn_step, show wantH N x i = 0 from by unfold wantH; rw [bI0.mp c65]; rfl] at this
        rw [Int32.sub_zero] at this
        exact this
      · refine aw_aload_n dX7_wantOf_68 rfl ?_
        refine aw_getR (b := b + 1) dX7_wantOf_69 fX7_11 hS.k hS.b0 rfl hS.r0 ?_
        refine aw_iload_n dX7_wantOf_72 rfl ?_
        refine aw_homes (h := i) hS rfl (by omega) dX7_wantOf_73 ?_
        refine aw_getI dX7_wantOf_74 fX7_140 (hS.ho (by omega)) (hS.hb (by omega)) rfl ?_
        refine AW.top (hC.hf h10 (h := i) (w := 1) (by omega) (by decide)) ?_
        refine aw_iload_n dX7_wantOf_77 rfl ?_
        refine aw_icmp_ne (tgt := 84) dX7_wantOf_78 rfl (fun c78 => ?_) (fun c78 => ?_)
        · refine aw_iinc dX7_wantOf_84 rfl (ginc rfl) (by decide) rfl ?_
          refine aw_goto (tgt := 48) dX7_wantOf_87 rfl ?_
          try simp only [Nat.add_zero] at c78
          have := ih hlt
          rw [idn_step, show wantH N x i = 0 from by unfold wantH; rw [bI1.mp c65]; simp [bB, c78]] at this
          rw [Int32.sub_zero] at this
          exact this
        · refine aw_iinc dX7_wantOf_81 rfl rfl (by decide) rfl ?_
          refine aw_iinc dX7_wantOf_84 rfl (ginc rfl) (by decide) rfl ?_
          refine aw_goto (tgt := 48) dX7_wantOf_87 rfl ?_
          try simp only [Nat.add_zero] at c78
          have := ih hlt
          rw [idn_step, show wantH N x i = 1 from by unfold wantH; rw [bI1.mp c65]; simp [bB, c78]] at this
          rw [sub_1] at this
          exact this
  have loop : ∀ i, i ≤ nPo N → AW X g RX7 cX7_wantOf 4 (2, 0, 0) (z, n, sh, 0, 0) (I) (L) 4 [some (.ref b), some (.int x), some (.int (isum (wantP N x) i)), some (.int (nI i))] [] := by
    refine up_loop (fun i hi ih => ?_)
    refine aw_iload_n dX7_wantOf_4 rfl ?_
    refine aw_aload_n dX7_wantOf_5 rfl ?_
    refine aw_getI dX7_wantOf_6 fX7_62 hS.k hS.b0 rfl ?_
    refine AW.top (hC.np.trans hN.p) ?_
    refine aw_icmp_ge (tgt := 46) dX7_wantOf_9 rfl (fun c9 => ?_) (fun c9 => ?_)
    · have e := ge_t rfl (by omega) hi c9
      subst e
      refine aw_iconst (v := 0) dX7_wantOf_46 rfl ?_
      refine aw_istore_n dX7_wantOf_47 (by decide) rfl ?_
      exact l2 0 (Nat.zero_le _)
    · have hlt := ge_f rfl (by omega) hi c9
      refine aw_aload_n dX7_wantOf_12 rfl ?_
      refine aw_getR (b := b + 12) dX7_wantOf_13 fX7_22 hS.k hS.b0 rfl hS.r1 ?_
      refine aw_iload_n dX7_wantOf_16 rfl ?_
      refine aw_houses (p := i) hS rfl (by omega) dX7_wantOf_17 ?_
      refine aw_getI dX7_wantOf_18 fX7_99 (hS.po (by omega)) (hS.pb (by omega)) rfl ?_
      refine AW.top (hC.pf h8 (p := i) (w := 8) (by omega) (by decide) (by decide) (by decide)) ?_
      refine aw_if_ne (tgt := 40) dX7_wantOf_21 rfl (fun c21 => ?_) (fun c21 => ?_)
      · refine aw_iinc dX7_wantOf_40 rfl (ginc rfl) (by decide) rfl ?_
        refine aw_goto (tgt := 4) dX7_wantOf_43 rfl ?_
        have := ih hlt
        rw [show isum (wantP N x) (i + 1) = isum (wantP N x) i + wantP N x i from rfl, show wantP N x i = 0 from by unfold wantP mIn; simp [bB, c21]] at this
        rw [Int32.add_zero] at this
        exact this
      · refine aw_aload_n dX7_wantOf_24 rfl ?_
        refine aw_getR (b := b + 12) dX7_wantOf_25 fX7_22 hS.k hS.b0 rfl hS.r1 ?_
        refine aw_iload_n dX7_wantOf_28 rfl ?_
        refine aw_houses (p := i) hS rfl (by omega) dX7_wantOf_29 ?_
        refine aw_getI dX7_wantOf_30 fX7_137 (hS.po (by omega)) (hS.pb (by omega)) rfl ?_
        refine AW.top (hC.pf h8 (p := i) (w := 2) (by omega) (by decide) (by decide) (by decide)) ?_
        refine aw_iload_n dX7_wantOf_33 rfl ?_
        refine aw_icmp_ne (tgt := 40) dX7_wantOf_34 rfl (fun c34 => ?_) (fun c34 => ?_)
        · refine aw_iinc dX7_wantOf_40 rfl (ginc rfl) (by decide) rfl ?_
          refine aw_goto (tgt := 4) dX7_wantOf_43 rfl ?_
          have := ih hlt
          rw [show isum (wantP N x) (i + 1) = isum (wantP N x) i + wantP N x i from rfl, show wantP N x i = 0 from by unfold wantP mIn; simp [bB, c21, c34]] at this
          rw [Int32.add_zero] at this
          exact this
        · refine aw_iinc dX7_wantOf_37 rfl rfl (by decide) rfl ?_
          refine aw_iinc dX7_wantOf_40 rfl (ginc rfl) (by decide) rfl ?_
          refine aw_goto (tgt := 4) dX7_wantOf_43 rfl ?_
          have := ih hlt
          rw [show isum (wantP N x) (i + 1) = isum (wantP N x) i + wantP N x i from rfl, show wantP N x i = 1 from by unfold wantP mIn; simp [bB, c21, c34]] at this
          exact this
  refine aw_iconst (v := 0) dX7_wantOf_0 rfl ?_
  refine aw_istore_n dX7_wantOf_1 (by decide) rfl ?_
  refine aw_iconst (v := 0) dX7_wantOf_2 rfl ?_
  refine aw_istore_n dX7_wantOf_3 (by decide) rfl ?_
  exact loop 0 (Nat.zero_le _)
set_option maxHeartbeats 4000000 in
set_option maxRecDepth 100000 in
theorem sX7_homesThatFit (hS : IsS n sh b) (hC : CtS I L b N Q) (hO : Ok N) {p : Nat} (hp : p < nPo N) {u v : Int32} (hu : z01 u) (hv : z01 v)  : CM yX7_homesThatFit cX7_homesThatFit 8 (Option.some .int) 3 0 0 [.ref b, .ref (b + 13 + 2 * p), .int u, .int v] z n sh I L (Pst (some (.int (iset (fun h => mFit N p h && (!decide (u = 1) || mFree N h) && (!decide (v = 1) || mTake N p (nI h))) (nHo N)))) z n sh I L) := by
  refine CM.go [some (.ref b), some (.ref (b + 13 + 2 * p)), some (.int u), some (.int v), none, none, none, none] rfl rfl (Nat.le_of_ble_eq_true rfl) (fun X g q => ?_)
  have hN := hO.1
  have hR := hO.2.1
  have hB := hO.2.2.1
  have hE := hO.2.2.2
  have h8 := hN.p8
  have h10 := hN.h10
  have loop : ∀ i, i ≤ nHo N → ∀ a6 a7, AW X g RX7 cX7_homesThatFit 8 (3, 0, 0) (z, n, sh, 0, 0) (I) (L) 6 [some (.ref b), some (.ref (b + 13 + 2 * p)), some (.int u), some (.int v), some (.int (iset (fun h => mFit N p h && (!decide (u = 1) || mFree N h) && (!decide (v = 1) || mTake N p (nI h))) i)), some (.int (nI i)), a6, a7] [] := by
    refine up_loop (fun i hi ih a6 a7 => ?_)
    refine aw_iload dX7_homesThatFit_6 rfl ?_
    refine aw_aload_n dX7_homesThatFit_8 rfl ?_
    refine aw_getI dX7_homesThatFit_9 fX7_59 hS.k hS.b0 rfl ?_
    refine AW.top (hC.nh.trans hN.h) ?_
    refine aw_icmp_ge (tgt := 86) dX7_homesThatFit_12 rfl (fun c12 => ?_) (fun c12 => ?_)
    · have e := ge_t rfl (by omega) hi c12
      subst e
      refine aw_iload dX7_homesThatFit_86 rfl ?_
      refine aw_iret q rfl dX7_homesThatFit_88 ⟨Nat.le_refl _, Nat.le_refl _⟩ ?_
      exact Pst.rf
    · have hlt := ge_f rfl (by omega) hi c12
      refine aw_aload_n dX7_homesThatFit_15 rfl ?_
      refine aw_getR (b := b + 1) dX7_homesThatFit_16 fX7_11 hS.k hS.b0 rfl hS.r0 ?_
      refine aw_iload dX7_homesThatFit_19 rfl ?_
      refine aw_homes (h := i) hS rfl (by omega) dX7_homesThatFit_21 ?_
      refine aw_astore dX7_homesThatFit_22 (by decide) rfl ?_
      refine aw_iload_n dX7_homesThatFit_24 rfl ?_
      refine aw_if_eq (tgt := 36) dX7_homesThatFit_25 rfl (fun c25 => ?_) (fun c25 => ?_)
      · refine aw_iload_n dX7_homesThatFit_36 rfl ?_
        refine aw_if_eq (tgt := 49) dX7_homesThatFit_37 rfl (fun c37 => ?_) (fun c37 => ?_)
        · refine aw_iconst (v := 1) dX7_homesThatFit_49 rfl ?_
          refine aw_goto (tgt := 54) dX7_homesThatFit_50 rfl ?_
          refine aw_istore dX7_homesThatFit_54 (by decide) rfl ?_
          refine aw_iload dX7_homesThatFit_56 rfl ?_
          refine aw_if_eq (tgt := 80) dX7_homesThatFit_58 rfl (fun c58 => ?_) (fun c58 => ?_)
          · exact absurd c58 (by decide)
          · skip
            refine aw_aload_n dX7_homesThatFit_61 rfl ?_
            refine aw_aload dX7_homesThatFit_62 rfl ?_
            refine aw_cV dX7_homesThatFit_64 kX7_150 mX3_suits (sX3_suits hS hC hN hp hlt hR) (Nat.le_of_ble_eq_true rfl) (hS.po (by omega)) ⟨by decide, rfl⟩ (hS.pb (by omega)) rfl rfl (Nat.le_of_ble_eq_true rfl) ⟨Nat.le_refl _, Nat.le_refl _⟩ ?_
            refine aw_if_eq (tgt := 80) dX7_homesThatFit_67 rfl (fun c67 => ?_) (fun c67 => ?_)
            · refine aw_iinc dX7_homesThatFit_80 rfl (ginc rfl) (by decide) rfl ?_
              refine aw_goto (tgt := 6) dX7_homesThatFit_83 rfl ?_
              have f67 := bI0.mp c67
              have e9 := iset_or (S := (fun h => mFit N p h && (!decide (u = 1) || mFree N h) && (!decide (v = 1) || mTake N p (nI h)))) (n := i) (by omega)
              rw [if_neg (by
                rcases hu with rfl | rfl <;> rcases hv with rfl | rfl <;> simp_all)] at e9
              have := ih hlt
              rw [e9] at this
              exact this _ _
            · refine aw_iload dX7_homesThatFit_70 rfl ?_
              refine aw_aload dX7_homesThatFit_72 rfl ?_
              refine aw_getI dX7_homesThatFit_74 fX7_153 (hS.ho (by omega)) (hS.hb (by omega)) rfl ?_
              refine AW.top (hC.hi (by omega)) ?_
              refine aw_ior dX7_homesThatFit_77 ?_
              refine aw_istore dX7_homesThatFit_78 (by decide) rfl ?_
              refine aw_iinc dX7_homesThatFit_80 rfl (ginc rfl) (by decide) rfl ?_
              refine aw_goto (tgt := 6) dX7_homesThatFit_83 rfl ?_
              have f67 := bI1.mp c67
              have e9 := iset_or (S := (fun h => mFit N p h && (!decide (u = 1) || mFree N h) && (!decide (v = 1) || mTake N p (nI h)))) (n := i) (by omega)
              rw [if_pos (by
                rcases hu with rfl | rfl <;> rcases hv with rfl | rfl <;> simp_all)] at e9
              have := ih hlt
              rw [e9] at this
              exact this _ _
        · refine aw_aload_n dX7_homesThatFit_40 rfl ?_
          refine aw_aload dX7_homesThatFit_41 rfl ?_
          refine aw_cV dX7_homesThatFit_43 kX7_146 mX3_wouldTake (sX3_wouldTake hS hC hN hp hlt) (Nat.le_of_ble_eq_true rfl) (hS.po (by omega)) ⟨by decide, rfl⟩ (hS.pb (by omega)) rfl rfl (Nat.le_of_ble_eq_true rfl) ⟨Nat.le_refl _, Nat.le_refl _⟩ ?_
          refine aw_if_eq (tgt := 53) dX7_homesThatFit_46 rfl (fun c46 => ?_) (fun c46 => ?_)
          · refine aw_iconst (v := 0) dX7_homesThatFit_53 rfl ?_
            refine aw_istore dX7_homesThatFit_54 (by decide) rfl ?_
            refine aw_iload dX7_homesThatFit_56 rfl ?_
            refine aw_if_eq (tgt := 80) dX7_homesThatFit_58 rfl (fun c58 => ?_) (fun c58 => ?_)
            · skip
              refine aw_iinc dX7_homesThatFit_80 rfl (ginc rfl) (by decide) rfl ?_
              refine aw_goto (tgt := 6) dX7_homesThatFit_83 rfl ?_
              have f46 := bI0.mp c46
              have e9 := iset_or (S := (fun h => mFit N p h && (!decide (u = 1) || mFree N h) && (!decide (v = 1) || mTake N p (nI h)))) (n := i) (by omega)
              rw [if_neg (by
                rcases hu with rfl | rfl <;> rcases hv with rfl | rfl <;> simp_all)] at e9
              have := ih hlt
              rw [e9] at this
              exact this _ _
            · exact absurd rfl c58
          · refine aw_iconst (v := 1) dX7_homesThatFit_49 rfl ?_
            refine aw_goto (tgt := 54) dX7_homesThatFit_50 rfl ?_
            refine aw_istore dX7_homesThatFit_54 (by decide) rfl ?_
            refine aw_iload dX7_homesThatFit_56 rfl ?_
            refine aw_if_eq (tgt := 80) dX7_homesThatFit_58 rfl (fun c58 => ?_) (fun c58 => ?_)
            · exact absurd c58 (by decide)
            · skip
              refine aw_aload_n dX7_homesThatFit_61 rfl ?_
              refine aw_aload dX7_homesThatFit_62 rfl ?_
              refine aw_cV dX7_homesThatFit_64 kX7_150 mX3_suits (sX3_suits hS hC hN hp hlt hR) (Nat.le_of_ble_eq_true rfl) (hS.po (by omega)) ⟨by decide, rfl⟩ (hS.pb (by omega)) rfl rfl (Nat.le_of_ble_eq_true rfl) ⟨Nat.le_refl _, Nat.le_refl _⟩ ?_
              refine aw_if_eq (tgt := 80) dX7_homesThatFit_67 rfl (fun c67 => ?_) (fun c67 => ?_)
              · refine aw_iinc dX7_homesThatFit_80 rfl (ginc rfl) (by decide) rfl ?_
                refine aw_goto (tgt := 6) dX7_homesThatFit_83 rfl ?_
                have f46 := bI1.mp c46
                have f67 := bI0.mp c67
                have e9 := iset_or (S := (fun h => mFit N p h && (!decide (u = 1) || mFree N h) && (!decide (v = 1) || mTake N p (nI h)))) (n := i) (by omega)
                rw [if_neg (by
                  rcases hu with rfl | rfl <;> rcases hv with rfl | rfl <;> simp_all)] at e9
                have := ih hlt
                rw [e9] at this
                exact this _ _
              · refine aw_iload dX7_homesThatFit_70 rfl ?_
                refine aw_aload dX7_homesThatFit_72 rfl ?_
                refine aw_getI dX7_homesThatFit_74 fX7_153 (hS.ho (by omega)) (hS.hb (by omega)) rfl ?_
                refine AW.top (hC.hi (by omega)) ?_
                refine aw_ior dX7_homesThatFit_77 ?_
                refine aw_istore dX7_homesThatFit_78 (by decide) rfl ?_
                refine aw_iinc dX7_homesThatFit_80 rfl (ginc rfl) (by decide) rfl ?_
                refine aw_goto (tgt := 6) dX7_homesThatFit_83 rfl ?_
                have f46 := bI1.mp c46
                have f67 := bI1.mp c67
                have e9 := iset_or (S := (fun h => mFit N p h && (!decide (u = 1) || mFree N h) && (!decide (v = 1) || mTake N p (nI h)))) (n := i) (by omega)
                rw [if_pos (by
                  rcases hu with rfl | rfl <;> rcases hv with rfl | rfl <;> simp_all)] at e9
                have := ih hlt
                rw [e9] at this
                exact this _ _
      · refine aw_aload dX7_homesThatFit_28 rfl ?_
        refine aw_cV dX7_homesThatFit_30 kX7_95 mX2_isFree (sX2_isFree hS hC hN hlt) (Nat.le_of_ble_eq_true rfl) (hS.ho (by omega)) ⟨by decide, rfl⟩ (hS.hb (by omega)) rfl rfl (Nat.le_of_ble_eq_true rfl) ⟨Nat.le_refl _, Nat.le_refl _⟩ ?_
        refine aw_if_eq (tgt := 53) dX7_homesThatFit_33 rfl (fun c33 => ?_) (fun c33 => ?_)
        · refine aw_iconst (v := 0) dX7_homesThatFit_53 rfl ?_
          refine aw_istore dX7_homesThatFit_54 (by decide) rfl ?_
          refine aw_iload dX7_homesThatFit_56 rfl ?_
          refine aw_if_eq (tgt := 80) dX7_homesThatFit_58 rfl (fun c58 => ?_) (fun c58 => ?_)
          · skip
            refine aw_iinc dX7_homesThatFit_80 rfl (ginc rfl) (by decide) rfl ?_
            refine aw_goto (tgt := 6) dX7_homesThatFit_83 rfl ?_
            have f33 := bI0.mp c33
            have e9 := iset_or (S := (fun h => mFit N p h && (!decide (u = 1) || mFree N h) && (!decide (v = 1) || mTake N p (nI h)))) (n := i) (by omega)
            rw [if_neg (by
              rcases hu with rfl | rfl <;> rcases hv with rfl | rfl <;> simp_all)] at e9
            have := ih hlt
            rw [e9] at this
            exact this _ _
          · exact absurd rfl c58
        · refine aw_iload_n dX7_homesThatFit_36 rfl ?_
          refine aw_if_eq (tgt := 49) dX7_homesThatFit_37 rfl (fun c37 => ?_) (fun c37 => ?_)
          · refine aw_iconst (v := 1) dX7_homesThatFit_49 rfl ?_
            refine aw_goto (tgt := 54) dX7_homesThatFit_50 rfl ?_
            refine aw_istore dX7_homesThatFit_54 (by decide) rfl ?_
            refine aw_iload dX7_homesThatFit_56 rfl ?_
            refine aw_if_eq (tgt := 80) dX7_homesThatFit_58 rfl (fun c58 => ?_) (fun c58 => ?_)
            · exact absurd c58 (by decide)
            · skip
              refine aw_aload_n dX7_homesThatFit_61 rfl ?_
              refine aw_aload dX7_homesThatFit_62 rfl ?_
              refine aw_cV dX7_homesThatFit_64 kX7_150 mX3_suits (sX3_suits hS hC hN hp hlt hR) (Nat.le_of_ble_eq_true rfl) (hS.po (by omega)) ⟨by decide, rfl⟩ (hS.pb (by omega)) rfl rfl (Nat.le_of_ble_eq_true rfl) ⟨Nat.le_refl _, Nat.le_refl _⟩ ?_
              refine aw_if_eq (tgt := 80) dX7_homesThatFit_67 rfl (fun c67 => ?_) (fun c67 => ?_)
              · refine aw_iinc dX7_homesThatFit_80 rfl (ginc rfl) (by decide) rfl ?_
                refine aw_goto (tgt := 6) dX7_homesThatFit_83 rfl ?_
                have f33 := bI1.mp c33
                have f67 := bI0.mp c67
                have e9 := iset_or (S := (fun h => mFit N p h && (!decide (u = 1) || mFree N h) && (!decide (v = 1) || mTake N p (nI h)))) (n := i) (by omega)
                rw [if_neg (by
                  rcases hu with rfl | rfl <;> rcases hv with rfl | rfl <;> simp_all)] at e9
                have := ih hlt
                rw [e9] at this
                exact this _ _
              · refine aw_iload dX7_homesThatFit_70 rfl ?_
                refine aw_aload dX7_homesThatFit_72 rfl ?_
                refine aw_getI dX7_homesThatFit_74 fX7_153 (hS.ho (by omega)) (hS.hb (by omega)) rfl ?_
                refine AW.top (hC.hi (by omega)) ?_
                refine aw_ior dX7_homesThatFit_77 ?_
                refine aw_istore dX7_homesThatFit_78 (by decide) rfl ?_
                refine aw_iinc dX7_homesThatFit_80 rfl (ginc rfl) (by decide) rfl ?_
                refine aw_goto (tgt := 6) dX7_homesThatFit_83 rfl ?_
                have f33 := bI1.mp c33
                have f67 := bI1.mp c67
                have e9 := iset_or (S := (fun h => mFit N p h && (!decide (u = 1) || mFree N h) && (!decide (v = 1) || mTake N p (nI h)))) (n := i) (by omega)
                rw [if_pos (by
                  rcases hu with rfl | rfl <;> rcases hv with rfl | rfl <;> simp_all)] at e9
                have := ih hlt
                rw [e9] at this
                exact this _ _
          · refine aw_aload_n dX7_homesThatFit_40 rfl ?_
            refine aw_aload dX7_homesThatFit_41 rfl ?_
            refine aw_cV dX7_homesThatFit_43 kX7_146 mX3_wouldTake (sX3_wouldTake hS hC hN hp hlt) (Nat.le_of_ble_eq_true rfl) (hS.po (by omega)) ⟨by decide, rfl⟩ (hS.pb (by omega)) rfl rfl (Nat.le_of_ble_eq_true rfl) ⟨Nat.le_refl _, Nat.le_refl _⟩ ?_
            refine aw_if_eq (tgt := 53) dX7_homesThatFit_46 rfl (fun c46 => ?_) (fun c46 => ?_)
            · refine aw_iconst (v := 0) dX7_homesThatFit_53 rfl ?_
              refine aw_istore dX7_homesThatFit_54 (by decide) rfl ?_
              refine aw_iload dX7_homesThatFit_56 rfl ?_
              refine aw_if_eq (tgt := 80) dX7_homesThatFit_58 rfl (fun c58 => ?_) (fun c58 => ?_)
              · skip
                refine aw_iinc dX7_homesThatFit_80 rfl (ginc rfl) (by decide) rfl ?_
                refine aw_goto (tgt := 6) dX7_homesThatFit_83 rfl ?_
                have f33 := bI1.mp c33
                have f46 := bI0.mp c46
                have e9 := iset_or (S := (fun h => mFit N p h && (!decide (u = 1) || mFree N h) && (!decide (v = 1) || mTake N p (nI h)))) (n := i) (by omega)
                rw [if_neg (by
                  rcases hu with rfl | rfl <;> rcases hv with rfl | rfl <;> simp_all)] at e9
                have := ih hlt
                rw [e9] at this
                exact this _ _
              · exact absurd rfl c58
            · refine aw_iconst (v := 1) dX7_homesThatFit_49 rfl ?_
              refine aw_goto (tgt := 54) dX7_homesThatFit_50 rfl ?_
              refine aw_istore dX7_homesThatFit_54 (by decide) rfl ?_
              refine aw_iload dX7_homesThatFit_56 rfl ?_
              refine aw_if_eq (tgt := 80) dX7_homesThatFit_58 rfl (fun c58 => ?_) (fun c58 => ?_)
              · exact absurd c58 (by decide)
              · skip
                refine aw_aload_n dX7_homesThatFit_61 rfl ?_
                refine aw_aload dX7_homesThatFit_62 rfl ?_
                refine aw_cV dX7_homesThatFit_64 kX7_150 mX3_suits (sX3_suits hS hC hN hp hlt hR) (Nat.le_of_ble_eq_true rfl) (hS.po (by omega)) ⟨by decide, rfl⟩ (hS.pb (by omega)) rfl rfl (Nat.le_of_ble_eq_true rfl) ⟨Nat.le_refl _, Nat.le_refl _⟩ ?_
                refine aw_if_eq (tgt := 80) dX7_homesThatFit_67 rfl (fun c67 => ?_) (fun c67 => ?_)
                · refine aw_iinc dX7_homesThatFit_80 rfl (ginc rfl) (by decide) rfl ?_
                  refine aw_goto (tgt := 6) dX7_homesThatFit_83 rfl ?_
                  have f33 := bI1.mp c33
                  have f46 := bI1.mp c46
                  have f67 := bI0.mp c67
                  have e9 := iset_or (S := (fun h => mFit N p h && (!decide (u = 1) || mFree N h) && (!decide (v = 1) || mTake N p (nI h)))) (n := i) (by omega)
                  rw [if_neg (by
                    rcases hu with rfl | rfl <;> rcases hv with rfl | rfl <;> simp_all)] at e9
                  have := ih hlt
                  rw [e9] at this
                  exact this _ _
                · refine aw_iload dX7_homesThatFit_70 rfl ?_
                  refine aw_aload dX7_homesThatFit_72 rfl ?_
                  refine aw_getI dX7_homesThatFit_74 fX7_153 (hS.ho (by omega)) (hS.hb (by omega)) rfl ?_
                  refine AW.top (hC.hi (by omega)) ?_
                  refine aw_ior dX7_homesThatFit_77 ?_
                  refine aw_istore dX7_homesThatFit_78 (by decide) rfl ?_
                  refine aw_iinc dX7_homesThatFit_80 rfl (ginc rfl) (by decide) rfl ?_
                  refine aw_goto (tgt := 6) dX7_homesThatFit_83 rfl ?_
                  have f33 := bI1.mp c33
                  have f46 := bI1.mp c46
                  have f67 := bI1.mp c67
                  have e9 := iset_or (S := (fun h => mFit N p h && (!decide (u = 1) || mFree N h) && (!decide (v = 1) || mTake N p (nI h)))) (n := i) (by omega)
                  rw [if_pos (by
                    rcases hu with rfl | rfl <;> rcases hv with rfl | rfl <;> simp_all)] at e9
                  have := ih hlt
                  rw [e9] at this
                  exact this _ _
  refine aw_iconst (v := 0) dX7_homesThatFit_0 rfl ?_
  refine aw_istore dX7_homesThatFit_1 (by decide) rfl ?_
  refine aw_iconst (v := 0) dX7_homesThatFit_3 rfl ?_
  refine aw_istore dX7_homesThatFit_4 (by decide) rfl ?_
  exact loop 0 (Nat.zero_le _) none none
set_option maxHeartbeats 4000000 in
set_option maxRecDepth 100000 in
theorem sX7_waited (hS : IsS n sh b) (hC : CtS I L b N Q) (hO : Ok N) {p : Nat} (hp : p < nPo N)  : CM yX7_waited cX7_waited 2 (Option.some .int) 1 0 0 [.ref b, .ref (b + 13 + 2 * p)] z n sh I L (Pst (some (.int (1000 + 7 * N 232 - N (80 + 18 * p + 3)))) z n sh I L) := by
  refine CM.go [some (.ref b), some (.ref (b + 13 + 2 * p))] rfl rfl (Nat.le_of_ble_eq_true rfl) (fun X g q => ?_)
  have hN := hO.1
  have hR := hO.2.1
  have hB := hO.2.2.1
  have hE := hO.2.2.2
  have h8 := hN.p8
  have h10 := hN.h10
  refine aw_sipush (v := 1000) dX7_waited_0 rfl ?_
  refine aw_bipush (v := 7) dX7_waited_3 rfl ?_
  refine aw_aload_n dX7_waited_5 rfl ?_
  refine aw_getI dX7_waited_6 fX7_65 hS.k hS.b0 rfl ?_
  refine AW.top hC.wk ?_
  refine aw_imul dX7_waited_9 ?_
  refine aw_iadd dX7_waited_10 ?_
  refine aw_aload_n dX7_waited_11 rfl ?_
  refine aw_getI dX7_waited_12 fX7_154 (hS.po (by omega)) (hS.pb (by omega)) rfl ?_
  refine AW.top (hC.pf h8 (p := p) (w := 3) (by omega) (by decide) (by decide) (by decide)) ?_
  refine aw_isub dX7_waited_15 ?_
  refine aw_iret q rfl dX7_waited_16 ⟨Nat.le_refl _, Nat.le_refl _⟩ ?_
  exact Pst.rf
set_option maxHeartbeats 4000000 in
set_option maxRecDepth 100000 in
theorem sX7_bandNow (hS : IsS n sh b) (hC : CtS I L b N Q) (hO : Ok N) {p : Nat} (hp : p < nPo N)  : CM yX7_bandNow cX7_bandNow 4 (Option.some .int) 2 0 0 [.ref b, .ref (b + 13 + 2 * p)] z n sh I L (Pst (some (.int (mBand N p))) z n sh I L) := by
  refine CM.go [some (.ref b), some (.ref (b + 13 + 2 * p)), none, none] rfl rfl (Nat.le_of_ble_eq_true rfl) (fun X g q => ?_)
  have hN := hO.1
  have hR := hO.2.1
  have hB := hO.2.2.1
  have hE := hO.2.2.2
  have h8 := hN.p8
  have h10 := hN.h10
  have ha : 1 ≤ N 228 := (hR.2.2.2 4 (by decide)).1
  refine aw_aload_n dX7_bandNow_0 rfl ?_
  refine aw_getR (b := b + 29) dX7_bandNow_1 fX7_27 hS.k hS.b0 rfl hS.r2 ?_
  refine aw_iconst (v := 4) dX7_bandNow_4 rfl ?_
  refine aw_ialdN (k := 4) dX7_bandNow_5 hS.uk (hS.lt (k := 29) (by decide)) hS.ul rfl (by decide) (by decide) ?_
  refine AW.top (hC.uf (by omega)) ?_
  refine aw_istore_n dX7_bandNow_6 (by decide) rfl ?_
  refine aw_iload_n dX7_bandNow_7 rfl ?_
  refine aw_iconst (v := 1) dX7_bandNow_8 rfl ?_
  refine aw_icmp_ge (tgt := 16) dX7_bandNow_9 rfl (fun c9 => ?_) (fun c9 => ?_)
  · skip
    refine aw_aload_n dX7_bandNow_16 rfl ?_
    refine aw_aload_n dX7_bandNow_17 rfl ?_
    refine aw_cV dX7_bandNow_18 kX7_157 mX7_waited (sX7_waited hS hC hO hp) (Nat.le_of_ble_eq_true rfl) hS.k ⟨by decide, rfl⟩ hS.b0 rfl rfl (Nat.le_of_ble_eq_true rfl) ⟨Nat.le_refl _, Nat.le_refl _⟩ ?_
    refine aw_iload_n dX7_bandNow_21 rfl ?_
    refine aw_idiv dX7_bandNow_22 hN.age ?_
    refine aw_istore_n dX7_bandNow_23 (by decide) rfl ?_
    refine aw_iconst (v := 1) dX7_bandNow_24 rfl ?_
    refine aw_aload_n dX7_bandNow_25 rfl ?_
    refine aw_getI dX7_bandNow_26 fX7_161 (hS.po (by omega)) (hS.pb (by omega)) rfl ?_
    refine AW.top (hC.pf h8 (p := p) (w := 0) (by omega) (by decide) (by decide) (by decide)) ?_
    refine aw_iload_n dX7_bandNow_29 rfl ?_
    refine aw_isub dX7_bandNow_30 ?_
    refine aw_mmax dX7_bandNow_31 kX7_126 (Nat.le_of_ble_eq_true rfl) (Nat.le_of_ble_eq_true rfl) ⟨Nat.le_refl _, Nat.le_refl _⟩ ?_
    refine aw_iret q rfl dX7_bandNow_34 ⟨Nat.le_refl _, Nat.le_refl _⟩ ?_
    exact Pst.rf
  · exact absurd ha c9
set_option maxHeartbeats 4000000 in
set_option maxRecDepth 100000 in
theorem sX7_biddersFor (hS : IsS n sh b) (hC : CtS I L b N Q) (hO : Ok N) {h : Nat} (hh : h < nHo N)  : CM yX7_biddersFor cX7_biddersFor 4 (Option.some .int) 2 0 0 [.ref b, .ref (b + 2 + h)] z n sh I L (Pst (some (.int (iset (fun p => mBid N p (nI h) && mHope N p) (nPo N)))) z n sh I L) := by
  refine CM.go [some (.ref b), some (.ref (b + 2 + h)), none, none] rfl rfl (Nat.le_of_ble_eq_true rfl) (fun X g q => ?_)
  have hN := hO.1
  have hR := hO.2.1
  have hB := hO.2.2.1
  have hE := hO.2.2.2
  have h8 := hN.p8
  have h10 := hN.h10
  have loop : ∀ i, i ≤ nPo N → AW X g RX7 cX7_biddersFor 4 (2, 0, 0) (z, n, sh, 0, 0) (I) (L) 4 [some (.ref b), some (.ref (b + 2 + h)), some (.int (iset (fun p => mBid N p (nI h) && mHope N p) i)), some (.int (nI i))] [] := by
    refine up_loop (fun i hi ih => ?_)
    refine aw_iload_n dX7_biddersFor_4 rfl ?_
    refine aw_aload_n dX7_biddersFor_5 rfl ?_
    refine aw_getI dX7_biddersFor_6 fX7_62 hS.k hS.b0 rfl ?_
    refine AW.top (hC.np.trans hN.p) ?_
    refine aw_icmp_ge (tgt := 55) dX7_biddersFor_9 rfl (fun c9 => ?_) (fun c9 => ?_)
    · have e := ge_t rfl (by omega) hi c9
      subst e
      refine aw_iload_n dX7_biddersFor_55 rfl ?_
      refine aw_iret q rfl dX7_biddersFor_56 ⟨Nat.le_refl _, Nat.le_refl _⟩ ?_
      exact Pst.rf
    · have hlt := ge_f rfl (by omega) hi c9
      refine aw_aload_n dX7_biddersFor_12 rfl ?_
      refine aw_getR (b := b + 12) dX7_biddersFor_13 fX7_22 hS.k hS.b0 rfl hS.r1 ?_
      refine aw_iload_n dX7_biddersFor_16 rfl ?_
      refine aw_houses (p := i) hS rfl (by omega) dX7_biddersFor_17 ?_
      refine aw_aload_n dX7_biddersFor_18 rfl ?_
      refine aw_cV dX7_biddersFor_19 kX7_164 mX3_bidsFor (sX3_bidsFor hS hC hN hlt (by omega)) (Nat.le_of_ble_eq_true rfl) (hS.po (by omega)) ⟨by decide, rfl⟩ (hS.pb (by omega)) rfl rfl (Nat.le_of_ble_eq_true rfl) ⟨Nat.le_refl _, Nat.le_refl _⟩ ?_
      refine aw_if_eq (tgt := 49) dX7_biddersFor_22 rfl (fun c22 => ?_) (fun c22 => ?_)
      · refine aw_iinc dX7_biddersFor_49 rfl (ginc rfl) (by decide) rfl ?_
        refine aw_goto (tgt := 4) dX7_biddersFor_52 rfl ?_
        have fc22 := bI0.mp c22
        have := ih hlt
        rw [iset_or (by omega), if_neg (by simp [fc22])] at this
        exact this
      · refine aw_aload_n dX7_biddersFor_25 rfl ?_
        refine aw_getR (b := b + 12) dX7_biddersFor_26 fX7_22 hS.k hS.b0 rfl hS.r1 ?_
        refine aw_iload_n dX7_biddersFor_29 rfl ?_
        refine aw_houses (p := i) hS rfl (by omega) dX7_biddersFor_30 ?_
        refine aw_cV dX7_biddersFor_31 kX7_167 mX3_isAble (sX3_isAble hS hC hN hlt hB) (Nat.le_of_ble_eq_true rfl) (hS.po (by omega)) ⟨by decide, rfl⟩ (hS.pb (by omega)) rfl rfl (Nat.le_of_ble_eq_true rfl) ⟨Nat.le_refl _, Nat.le_refl _⟩ ?_
        refine aw_if_eq (tgt := 49) dX7_biddersFor_34 rfl (fun c34 => ?_) (fun c34 => ?_)
        · refine aw_iinc dX7_biddersFor_49 rfl (ginc rfl) (by decide) rfl ?_
          refine aw_goto (tgt := 4) dX7_biddersFor_52 rfl ?_
          have fc22 := bI1.mp c22
          have fc34 := bI0.mp c34
          have := ih hlt
          rw [iset_or (by omega), if_neg (by simp [fc22, fc34])] at this
          exact this
        · refine aw_iload_n dX7_biddersFor_37 rfl ?_
          refine aw_aload_n dX7_biddersFor_38 rfl ?_
          refine aw_getR (b := b + 12) dX7_biddersFor_39 fX7_22 hS.k hS.b0 rfl hS.r1 ?_
          refine aw_iload_n dX7_biddersFor_42 rfl ?_
          refine aw_houses (p := i) hS rfl (by omega) dX7_biddersFor_43 ?_
          refine aw_getI dX7_biddersFor_44 fX7_103 (hS.po (by omega)) (hS.pb (by omega)) rfl ?_
          refine AW.top (hC.pi (by omega)) ?_
          refine aw_ior dX7_biddersFor_47 ?_
          refine aw_istore_n dX7_biddersFor_48 (by decide) rfl ?_
          refine aw_iinc dX7_biddersFor_49 rfl (ginc rfl) (by decide) rfl ?_
          refine aw_goto (tgt := 4) dX7_biddersFor_52 rfl ?_
          have fc22 := bI1.mp c22
          have fc34 := bI1.mp c34
          have := ih hlt
          rw [iset_or (by omega), if_pos (by simp [fc22, fc34])] at this
          exact this
  refine aw_iconst (v := 0) dX7_biddersFor_0 rfl ?_
  refine aw_istore_n dX7_biddersFor_1 (by decide) rfl ?_
  refine aw_iconst (v := 0) dX7_biddersFor_2 rfl ?_
  refine aw_istore_n dX7_biddersFor_3 (by decide) rfl ?_
  exact loop 0 (Nat.zero_le _)
set_option maxHeartbeats 4000000 in
set_option maxRecDepth 100000 in
theorem sX7_ableFor (hS : IsS n sh b) (hC : CtS I L b N Q) (hO : Ok N) {h : Nat} (hh : h < nHo N)  : CM yX7_ableFor cX7_ableFor 4 (Option.some .int) 2 0 0 [.ref b, .ref (b + 2 + h)] z n sh I L (Pst (some (.int (iset (fun p => mHope N p && mFit N p h) (nPo N)))) z n sh I L) := by
  refine CM.go [some (.ref b), some (.ref (b + 2 + h)), none, none] rfl rfl (Nat.le_of_ble_eq_true rfl) (fun X g q => ?_)
  have hN := hO.1
  have hR := hO.2.1
  have hB := hO.2.2.1
  have hE := hO.2.2.2
  have h8 := hN.p8
  have h10 := hN.h10
  have loop : ∀ i, i ≤ nPo N → AW X g RX7 cX7_ableFor 4 (2, 0, 0) (z, n, sh, 0, 0) (I) (L) 4 [some (.ref b), some (.ref (b + 2 + h)), some (.int (iset (fun p => mHope N p && mFit N p h) i)), some (.int (nI i))] [] := by
    refine up_loop (fun i hi ih => ?_)
    refine aw_iload_n dX7_ableFor_4 rfl ?_
    refine aw_aload_n dX7_ableFor_5 rfl ?_
    refine aw_getI dX7_ableFor_6 fX7_62 hS.k hS.b0 rfl ?_
    refine AW.top (hC.np.trans hN.p) ?_
    refine aw_icmp_ge (tgt := 55) dX7_ableFor_9 rfl (fun c9 => ?_) (fun c9 => ?_)
    · have e := ge_t rfl (by omega) hi c9
      subst e
      refine aw_iload_n dX7_ableFor_55 rfl ?_
      refine aw_iret q rfl dX7_ableFor_56 ⟨Nat.le_refl _, Nat.le_refl _⟩ ?_
      exact Pst.rf
    · have hlt := ge_f rfl (by omega) hi c9
      refine aw_aload_n dX7_ableFor_12 rfl ?_
      refine aw_getR (b := b + 12) dX7_ableFor_13 fX7_22 hS.k hS.b0 rfl hS.r1 ?_
      refine aw_iload_n dX7_ableFor_16 rfl ?_
      refine aw_houses (p := i) hS rfl (by omega) dX7_ableFor_17 ?_
      refine aw_cV dX7_ableFor_18 kX7_167 mX3_isAble (sX3_isAble hS hC hN hlt hB) (Nat.le_of_ble_eq_true rfl) (hS.po (by omega)) ⟨by decide, rfl⟩ (hS.pb (by omega)) rfl rfl (Nat.le_of_ble_eq_true rfl) ⟨Nat.le_refl _, Nat.le_refl _⟩ ?_
      refine aw_if_eq (tgt := 49) dX7_ableFor_21 rfl (fun c21 => ?_) (fun c21 => ?_)
      · refine aw_iinc dX7_ableFor_49 rfl (ginc rfl) (by decide) rfl ?_
        refine aw_goto (tgt := 4) dX7_ableFor_52 rfl ?_
        have fc21 := bI0.mp c21
        have := ih hlt
        rw [iset_or (by omega), if_neg (by simp [fc21])] at this
        exact this
      · refine aw_aload_n dX7_ableFor_24 rfl ?_
        refine aw_getR (b := b + 12) dX7_ableFor_25 fX7_22 hS.k hS.b0 rfl hS.r1 ?_
        refine aw_iload_n dX7_ableFor_28 rfl ?_
        refine aw_houses (p := i) hS rfl (by omega) dX7_ableFor_29 ?_
        refine aw_aload_n dX7_ableFor_30 rfl ?_
        refine aw_cV dX7_ableFor_31 kX7_150 mX3_suits (sX3_suits hS hC hN hlt hh hR) (Nat.le_of_ble_eq_true rfl) (hS.po (by omega)) ⟨by decide, rfl⟩ (hS.pb (by omega)) rfl rfl (Nat.le_of_ble_eq_true rfl) ⟨Nat.le_refl _, Nat.le_refl _⟩ ?_
        refine aw_if_eq (tgt := 49) dX7_ableFor_34 rfl (fun c34 => ?_) (fun c34 => ?_)
        · refine aw_iinc dX7_ableFor_49 rfl (ginc rfl) (by decide) rfl ?_
          refine aw_goto (tgt := 4) dX7_ableFor_52 rfl ?_
          have fc21 := bI1.mp c21
          have fc34 := bI0.mp c34
          have := ih hlt
          rw [iset_or (by omega), if_neg (by simp [fc21, fc34])] at this
          exact this
        · refine aw_iload_n dX7_ableFor_37 rfl ?_
          refine aw_aload_n dX7_ableFor_38 rfl ?_
          refine aw_getR (b := b + 12) dX7_ableFor_39 fX7_22 hS.k hS.b0 rfl hS.r1 ?_
          refine aw_iload_n dX7_ableFor_42 rfl ?_
          refine aw_houses (p := i) hS rfl (by omega) dX7_ableFor_43 ?_
          refine aw_getI dX7_ableFor_44 fX7_103 (hS.po (by omega)) (hS.pb (by omega)) rfl ?_
          refine AW.top (hC.pi (by omega)) ?_
          refine aw_ior dX7_ableFor_47 ?_
          refine aw_istore_n dX7_ableFor_48 (by decide) rfl ?_
          refine aw_iinc dX7_ableFor_49 rfl (ginc rfl) (by decide) rfl ?_
          refine aw_goto (tgt := 4) dX7_ableFor_52 rfl ?_
          have fc21 := bI1.mp c21
          have fc34 := bI1.mp c34
          have := ih hlt
          rw [iset_or (by omega), if_pos (by simp [fc21, fc34])] at this
          exact this
  refine aw_iconst (v := 0) dX7_ableFor_0 rfl ?_
  refine aw_istore_n dX7_ableFor_1 (by decide) rfl ?_
  refine aw_iconst (v := 0) dX7_ableFor_2 rfl ?_
  refine aw_istore_n dX7_ableFor_3 (by decide) rfl ?_
  exact loop 0 (Nat.zero_le _)
set_option maxHeartbeats 4000000 in
set_option maxRecDepth 100000 in
theorem sX7_takersOf (hS : IsS n sh b) (hC : CtS I L b N Q) (hO : Ok N) {h : Nat} (hh : h < nHo N)  : CM yX7_takersOf cX7_takersOf 4 (Option.some .int) 4 0 0 [.ref b, .ref (b + 2 + h)] z n sh I L (Pst (some (.int (iset (fun p => mCould N p h) (nPo N)))) z n sh I L) := by
  refine CM.go [some (.ref b), some (.ref (b + 2 + h)), none, none] rfl rfl (Nat.le_of_ble_eq_true rfl) (fun X g q => ?_)
  have hN := hO.1
  have hR := hO.2.1
  have hB := hO.2.2.1
  have hE := hO.2.2.2
  have h8 := hN.p8
  have h10 := hN.h10
  have loop : ∀ i, i ≤ nPo N → AW X g RX7 cX7_takersOf 4 (4, 0, 0) (z, n, sh, 0, 0) (I) (L) 4 [some (.ref b), some (.ref (b + 2 + h)), some (.int (iset (fun p => mCould N p h) i)), some (.int (nI i))] [] := by
    refine up_loop (fun i hi ih => ?_)
    refine aw_iload_n dX7_takersOf_4 rfl ?_
    refine aw_aload_n dX7_takersOf_5 rfl ?_
    refine aw_getI dX7_takersOf_6 fX7_62 hS.k hS.b0 rfl ?_
    refine AW.top (hC.np.trans hN.p) ?_
    refine aw_icmp_ge (tgt := 43) dX7_takersOf_9 rfl (fun c9 => ?_) (fun c9 => ?_)
    · have e := ge_t rfl (by omega) hi c9
      subst e
      refine aw_iload_n dX7_takersOf_43 rfl ?_
      refine aw_iret q rfl dX7_takersOf_44 ⟨Nat.le_refl _, Nat.le_refl _⟩ ?_
      exact Pst.rf
    · have hlt := ge_f rfl (by omega) hi c9
      refine aw_aload_n dX7_takersOf_12 rfl ?_
      refine aw_getR (b := b + 12) dX7_takersOf_13 fX7_22 hS.k hS.b0 rfl hS.r1 ?_
      refine aw_iload_n dX7_takersOf_16 rfl ?_
      refine aw_houses (p := i) hS rfl (by omega) dX7_takersOf_17 ?_
      refine aw_aload_n dX7_takersOf_18 rfl ?_
      refine aw_cV dX7_takersOf_19 kX7_170 mX3_couldBeGiven (sX3_couldBeGiven hS hC hN hlt hh hB hR) (Nat.le_of_ble_eq_true rfl) (hS.po (by omega)) ⟨by decide, rfl⟩ (hS.pb (by omega)) rfl rfl (Nat.le_of_ble_eq_true rfl) ⟨Nat.le_refl _, Nat.le_refl _⟩ ?_
      refine aw_if_eq (tgt := 37) dX7_takersOf_22 rfl (fun c22 => ?_) (fun c22 => ?_)
      · refine aw_iinc dX7_takersOf_37 rfl (ginc rfl) (by decide) rfl ?_
        refine aw_goto (tgt := 4) dX7_takersOf_40 rfl ?_
        have fc22 := bI0.mp c22
        have := ih hlt
        rw [iset_or (by omega), if_neg (by simp [fc22])] at this
        exact this
      · refine aw_iload_n dX7_takersOf_25 rfl ?_
        refine aw_aload_n dX7_takersOf_26 rfl ?_
        refine aw_getR (b := b + 12) dX7_takersOf_27 fX7_22 hS.k hS.b0 rfl hS.r1 ?_
        refine aw_iload_n dX7_takersOf_30 rfl ?_
        refine aw_houses (p := i) hS rfl (by omega) dX7_takersOf_31 ?_
        refine aw_getI dX7_takersOf_32 fX7_103 (hS.po (by omega)) (hS.pb (by omega)) rfl ?_
        refine AW.top (hC.pi (by omega)) ?_
        refine aw_ior dX7_takersOf_35 ?_
        refine aw_istore_n dX7_takersOf_36 (by decide) rfl ?_
        refine aw_iinc dX7_takersOf_37 rfl (ginc rfl) (by decide) rfl ?_
        refine aw_goto (tgt := 4) dX7_takersOf_40 rfl ?_
        have fc22 := bI1.mp c22
        have := ih hlt
        rw [iset_or (by omega), if_pos (by simp [fc22])] at this
        exact this
  refine aw_iconst (v := 0) dX7_takersOf_0 rfl ?_
  refine aw_istore_n dX7_takersOf_1 (by decide) rfl ?_
  refine aw_iconst (v := 0) dX7_takersOf_2 rfl ?_
  refine aw_istore_n dX7_takersOf_3 (by decide) rfl ?_
  exact loop 0 (Nat.zero_le _)
theorem lt_ward (hC : CtS I L b N Q) (h : Nat) : fa_cnt (fun r => decide (I (b + 30 + 1) (11 * r + 10) = N (8 * h + 1))) (nLe N) = fa_cnt (fun k => decide (N (8 * lHo N k + 1) = N (8 * h + 1))) (nLe N) :=
  fa_cnt_cong (fun k hk => by rw [show I (b + 30 + 1) (11 * k + 10) = N (8 * lHo N k + 1) from (hC.lt hk).2.2.2.2])
theorem lt_moved (hC : CtS I L b N Q) (hE : LeO N) : nI (fa_cnt (fun r => decide (I (b + 30 + 1) (11 * r + 8) = 1)) (nLe N)) = mLived N := by
  unfold mLived
  rw [fa_cnt_cong (q := fun k => decide (N (234 + 8 * k + 5) >>> (1 &&& 31) = 1)) (fun k hk => by rw [show I (b + 30 + 1) (11 * k + 8) = N (234 + 8 * k + 5) >>> (1 &&& 31) from (hC.lt hk).2.2.1]), ← isB_cnt]
  refine isum_cong (fun k hk => ?_)
  obtain ⟨v, hv, e⟩ := hE k hk
  rw [e]
  have : ∀ v, v < 4 → bB (decide (nI v >>> (1 &&& 31) = 1)) = nI v >>> (1 &&& 31) := by decide
  exact this v hv
theorem loc_pos {N : Nat → Int32} (hR : Rg N) : N 226 ≤ 0 ↔ N 226 = 0 := by
  obtain ⟨v, e, h1, h2⟩ := hR.rule (r := 2) (by decide)
  have e : N 226 = nI v := e
  rw [e]
  have a := nI_leI (a := v) (b := 0) (by omega) (by decide)
  have c := nI_eq (a := v) (b := 0) (by omega) (by decide)
  constructor
  · intro q
    have := a.mp q
    exact c.mpr (by omega)
  · intro q
    have := c.mp q
    exact a.mpr (by omega)
set_option maxHeartbeats 4000000 in
set_option maxRecDepth 100000 in
theorem sX7_turnsAt (hS : IsS n sh b) (hC : CtS I L b N Q) (hO : Ok N) {h : Nat} (hh : h < nHo N)  : CM yX7_turnsAt cX7_turnsAt 4 (Option.some .int) 3 0 0 [.ref b, .ref (b + 2 + h)] z n sh I L (Pst (some (.int (cTrn N h))) z n sh I L) := by
  refine CM.go [some (.ref b), some (.ref (b + 2 + h)), none, none] rfl rfl (Nat.le_of_ble_eq_true rfl) (fun X g q => ?_)
  have hN := hO.1
  have hR := hO.2.1
  have hB := hO.2.2.1
  have hE := hO.2.2.2
  have h8 := hN.p8
  have h10 := hN.h10
  have hT := hC.tbL hS hN
  have hv := lt_moved hC hE
  refine aw_iconst (v := 0) dX7_turnsAt_0 rfl ?_
  refine aw_istore_n dX7_turnsAt_1 (by decide) rfl ?_
  refine aw_aload_n dX7_turnsAt_2 rfl ?_
  refine aw_getR (b := b + 29) dX7_turnsAt_3 fX7_27 hS.k hS.b0 rfl hS.r2 ?_
  refine aw_iconst (v := 2) dX7_turnsAt_6 rfl ?_
  refine aw_ialdN (k := 2) dX7_turnsAt_7 hS.uk (hS.lt (k := 29) (by decide)) hS.ul rfl (by decide) (by decide) ?_
  refine AW.top (hC.uf (by omega)) ?_
  refine aw_istore_n dX7_turnsAt_8 (by decide) rfl ?_
  refine aw_iload_n dX7_turnsAt_9 rfl ?_
  refine aw_if_le (tgt := 37) dX7_turnsAt_10 rfl (fun c10 => ?_) (fun c10 => ?_)
  · refine aw_bipush (v := 100) dX7_turnsAt_37 rfl ?_
    refine aw_aload_n dX7_turnsAt_39 rfl ?_
    refine aw_getR (b := b + 30) dX7_turnsAt_40 fX7_36 hS.k hS.b0 rfl hS.r3 ?_
    refine aw_bipush (v := 8) dX7_turnsAt_43 rfl ?_
    refine aw_iconst (v := 1) dX7_turnsAt_45 rfl ?_
    refine aw_cV dX7_turnsAt_46 kX7_173 mX8_countWith (sX8_countWith hT (k := 8) rfl (by decide)) (Nat.le_of_ble_eq_true rfl) hS.tk ⟨by decide, rfl⟩ (hS.lt (k := 30) (by decide)) rfl rfl (Nat.le_of_ble_eq_true rfl) ⟨Nat.le_refl _, Nat.le_refl _⟩ ?_
    refine aw_imul dX7_turnsAt_49 ?_
    refine aw_aload_n dX7_turnsAt_50 rfl ?_
    refine aw_getR (b := b + 29) dX7_turnsAt_51 fX7_27 hS.k hS.b0 rfl hS.r2 ?_
    refine aw_iconst (v := 3) dX7_turnsAt_54 rfl ?_
    refine aw_ialdN (k := 3) dX7_turnsAt_55 hS.uk (hS.lt (k := 29) (by decide)) hS.ul rfl (by decide) (by decide) ?_
    refine AW.top (hC.uf (by omega)) ?_
    refine aw_aload_n dX7_turnsAt_56 rfl ?_
    refine aw_getR (b := b + 30) dX7_turnsAt_57 fX7_36 hS.k hS.b0 rfl hS.r3 ?_
    refine aw_getI dX7_turnsAt_60 fX7_55 hS.tk (hS.lt (k := 30) (by decide)) rfl ?_
    refine AW.top (hC.nl.trans hN.l) ?_
    refine aw_imul dX7_turnsAt_63 ?_
    refine aw_icmp_ge (tgt := 71) dX7_turnsAt_64 rfl (fun c64 => ?_) (fun c64 => ?_)
    · refine aw_iload_n dX7_turnsAt_71 rfl ?_
      refine aw_iret q rfl dX7_turnsAt_72 ⟨Nat.le_refl _, Nat.le_refl _⟩ ?_
      refine Pst.iv ?_
      have eq9 : mQuota N = false := by
        unfold mQuota
        rw [← hv, hN.l]
        simpa using c64
      have el9 : mLocal N h = false := by
        unfold mLocal
        rw [(loc_pos hR).mp c10]
        rfl
      unfold cTrn
      rw [eq9, el9]
      rfl
    · refine aw_iload_n dX7_turnsAt_67 rfl ?_
      refine aw_iconst (v := 2) dX7_turnsAt_68 rfl ?_
      refine aw_ior dX7_turnsAt_69 ?_
      refine aw_istore_n dX7_turnsAt_70 (by decide) rfl ?_
      refine aw_iload_n dX7_turnsAt_71 rfl ?_
      refine aw_iret q rfl dX7_turnsAt_72 ⟨Nat.le_refl _, Nat.le_refl _⟩ ?_
      refine Pst.iv ?_
      have eq9 : mQuota N = true := by
        unfold mQuota
        rw [← hv, hN.l]
        simpa using c64
      have el9 : mLocal N h = false := by
        unfold mLocal
        rw [(loc_pos hR).mp c10]
        rfl
      unfold cTrn
      rw [eq9, el9]
      rfl
  · refine aw_aload_n dX7_turnsAt_13 rfl ?_
    refine aw_getR (b := b + 30) dX7_turnsAt_14 fX7_36 hS.k hS.b0 rfl hS.r3 ?_
    refine aw_bipush (v := 10) dX7_turnsAt_17 rfl ?_
    refine aw_aload_n dX7_turnsAt_19 rfl ?_
    refine aw_getI dX7_turnsAt_20 fX7_140 (hS.ho (by omega)) (hS.hb (by omega)) rfl ?_
    refine AW.top (hC.hf h10 (h := h) (w := 1) (by omega) (by decide)) ?_
    refine aw_cV dX7_turnsAt_23 kX7_173 mX8_countWith (sX8_countWith hT (k := 10) rfl (by decide)) (Nat.le_of_ble_eq_true rfl) hS.tk ⟨by decide, rfl⟩ (hS.lt (k := 30) (by decide)) rfl rfl (Nat.le_of_ble_eq_true rfl) ⟨Nat.le_refl _, Nat.le_refl _⟩ ?_
    refine aw_iconst (v := 1) dX7_turnsAt_26 rfl ?_
    refine aw_iadd dX7_turnsAt_27 ?_
    refine aw_iload_n dX7_turnsAt_28 rfl ?_
    refine aw_irem dX7_turnsAt_29 (fun q => c10 (by rw [show N 226 = 0 from q]; decide)) ?_
    refine aw_if_ne (tgt := 37) dX7_turnsAt_30 rfl (fun c30 => ?_) (fun c30 => ?_)
    · refine aw_bipush (v := 100) dX7_turnsAt_37 rfl ?_
      refine aw_aload_n dX7_turnsAt_39 rfl ?_
      refine aw_getR (b := b + 30) dX7_turnsAt_40 fX7_36 hS.k hS.b0 rfl hS.r3 ?_
      refine aw_bipush (v := 8) dX7_turnsAt_43 rfl ?_
      refine aw_iconst (v := 1) dX7_turnsAt_45 rfl ?_
      refine aw_cV dX7_turnsAt_46 kX7_173 mX8_countWith (sX8_countWith hT (k := 8) rfl (by decide)) (Nat.le_of_ble_eq_true rfl) hS.tk ⟨by decide, rfl⟩ (hS.lt (k := 30) (by decide)) rfl rfl (Nat.le_of_ble_eq_true rfl) ⟨Nat.le_refl _, Nat.le_refl _⟩ ?_
      refine aw_imul dX7_turnsAt_49 ?_
      refine aw_aload_n dX7_turnsAt_50 rfl ?_
      refine aw_getR (b := b + 29) dX7_turnsAt_51 fX7_27 hS.k hS.b0 rfl hS.r2 ?_
      refine aw_iconst (v := 3) dX7_turnsAt_54 rfl ?_
      refine aw_ialdN (k := 3) dX7_turnsAt_55 hS.uk (hS.lt (k := 29) (by decide)) hS.ul rfl (by decide) (by decide) ?_
      refine AW.top (hC.uf (by omega)) ?_
      refine aw_aload_n dX7_turnsAt_56 rfl ?_
      refine aw_getR (b := b + 30) dX7_turnsAt_57 fX7_36 hS.k hS.b0 rfl hS.r3 ?_
      refine aw_getI dX7_turnsAt_60 fX7_55 hS.tk (hS.lt (k := 30) (by decide)) rfl ?_
      refine AW.top (hC.nl.trans hN.l) ?_
      refine aw_imul dX7_turnsAt_63 ?_
      refine aw_icmp_ge (tgt := 71) dX7_turnsAt_64 rfl (fun c64 => ?_) (fun c64 => ?_)
      · refine aw_iload_n dX7_turnsAt_71 rfl ?_
        refine aw_iret q rfl dX7_turnsAt_72 ⟨Nat.le_refl _, Nat.le_refl _⟩ ?_
        refine Pst.iv ?_
        have eq9 : mQuota N = false := by
          unfold mQuota
          rw [← hv, hN.l]
          simpa using c64
        have el9 : mLocal N h = false := by
          unfold mLocal irem
          rw [isB_cnt, ← lt_ward hC h, Int32.add_comm]
          have : ¬ N 226 = 0 := fun q => c10 ((loc_pos hR).mpr q)
          rw [decide_eq_false this]
          simpa using c30
        unfold cTrn
        rw [eq9, el9]
        rfl
      · refine aw_iload_n dX7_turnsAt_67 rfl ?_
        refine aw_iconst (v := 2) dX7_turnsAt_68 rfl ?_
        refine aw_ior dX7_turnsAt_69 ?_
        refine aw_istore_n dX7_turnsAt_70 (by decide) rfl ?_
        refine aw_iload_n dX7_turnsAt_71 rfl ?_
        refine aw_iret q rfl dX7_turnsAt_72 ⟨Nat.le_refl _, Nat.le_refl _⟩ ?_
        refine Pst.iv ?_
        have eq9 : mQuota N = true := by
          unfold mQuota
          rw [← hv, hN.l]
          simpa using c64
        have el9 : mLocal N h = false := by
          unfold mLocal irem
          rw [isB_cnt, ← lt_ward hC h, Int32.add_comm]
          have : ¬ N 226 = 0 := fun q => c10 ((loc_pos hR).mpr q)
          rw [decide_eq_false this]
          simpa using c30
        unfold cTrn
        rw [eq9, el9]
        rfl
    · refine aw_iload_n dX7_turnsAt_33 rfl ?_
      refine aw_iconst (v := 1) dX7_turnsAt_34 rfl ?_
      refine aw_ior dX7_turnsAt_35 ?_
      refine aw_istore_n dX7_turnsAt_36 (by decide) rfl ?_
      refine aw_bipush (v := 100) dX7_turnsAt_37 rfl ?_
      refine aw_aload_n dX7_turnsAt_39 rfl ?_
      refine aw_getR (b := b + 30) dX7_turnsAt_40 fX7_36 hS.k hS.b0 rfl hS.r3 ?_
      refine aw_bipush (v := 8) dX7_turnsAt_43 rfl ?_
      refine aw_iconst (v := 1) dX7_turnsAt_45 rfl ?_
      refine aw_cV dX7_turnsAt_46 kX7_173 mX8_countWith (sX8_countWith hT (k := 8) rfl (by decide)) (Nat.le_of_ble_eq_true rfl) hS.tk ⟨by decide, rfl⟩ (hS.lt (k := 30) (by decide)) rfl rfl (Nat.le_of_ble_eq_true rfl) ⟨Nat.le_refl _, Nat.le_refl _⟩ ?_
      refine aw_imul dX7_turnsAt_49 ?_
      refine aw_aload_n dX7_turnsAt_50 rfl ?_
      refine aw_getR (b := b + 29) dX7_turnsAt_51 fX7_27 hS.k hS.b0 rfl hS.r2 ?_
      refine aw_iconst (v := 3) dX7_turnsAt_54 rfl ?_
      refine aw_ialdN (k := 3) dX7_turnsAt_55 hS.uk (hS.lt (k := 29) (by decide)) hS.ul rfl (by decide) (by decide) ?_
      refine AW.top (hC.uf (by omega)) ?_
      refine aw_aload_n dX7_turnsAt_56 rfl ?_
      refine aw_getR (b := b + 30) dX7_turnsAt_57 fX7_36 hS.k hS.b0 rfl hS.r3 ?_
      refine aw_getI dX7_turnsAt_60 fX7_55 hS.tk (hS.lt (k := 30) (by decide)) rfl ?_
      refine AW.top (hC.nl.trans hN.l) ?_
      refine aw_imul dX7_turnsAt_63 ?_
      refine aw_icmp_ge (tgt := 71) dX7_turnsAt_64 rfl (fun c64 => ?_) (fun c64 => ?_)
      · refine aw_iload_n dX7_turnsAt_71 rfl ?_
        refine aw_iret q rfl dX7_turnsAt_72 ⟨Nat.le_refl _, Nat.le_refl _⟩ ?_
        refine Pst.iv ?_
        have eq9 : mQuota N = false := by
          unfold mQuota
          rw [← hv, hN.l]
          simpa using c64
        have el9 : mLocal N h = true := by
          unfold mLocal irem
          rw [isB_cnt, ← lt_ward hC h, Int32.add_comm]
          have : ¬ N 226 = 0 := fun q => c10 ((loc_pos hR).mpr q)
          rw [decide_eq_false this]
          simpa using c30
        unfold cTrn
        rw [eq9, el9]
        rfl
      · refine aw_iload_n dX7_turnsAt_67 rfl ?_
        refine aw_iconst (v := 2) dX7_turnsAt_68 rfl ?_
        refine aw_ior dX7_turnsAt_69 ?_
        refine aw_istore_n dX7_turnsAt_70 (by decide) rfl ?_
        refine aw_iload_n dX7_turnsAt_71 rfl ?_
        refine aw_iret q rfl dX7_turnsAt_72 ⟨Nat.le_refl _, Nat.le_refl _⟩ ?_
        refine Pst.iv ?_
        have eq9 : mQuota N = true := by
          unfold mQuota
          rw [← hv, hN.l]
          simpa using c64
        have el9 : mLocal N h = true := by
          unfold mLocal irem
          rw [isB_cnt, ← lt_ward hC h, Int32.add_comm]
          have : ¬ N 226 = 0 := fun q => c10 ((loc_pos hR).mpr q)
          rw [decide_eq_false this]
          simpa using c30
        unfold cTrn
        rw [eq9, el9]
        rfl
end ClsS
