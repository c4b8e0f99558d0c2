/-! constructors: homes, houses, tables, OUT, matching, chains, trades -/
def Fz (n : Nat) (I : MI) (L : ML) : Prop := ∀ a, n ≤ a → I a = (fun _ => 0) ∧ L a = (fun _ => 0)
section AN
variable {X : Cx} {g : Gd} {own : String} {cc : ByteArray} {nL : Nat} {Bd : Nat × Nat × Nat} {I : MI} {L : ML} {pc : Nat} {Lc : List (Option Value)} {st : List Value} {n c s : Nat} {sh : Shp}
theorem an_o {idx ci : Nat} (hci : ci < 12) (d : decode cc pc = .ok (.new idx, 3)) (hl : Cond.classLink own idx (clR ci) ∈ tblG) (hi : Cond.instantiable (clR ci) (nfK ci) ∈ tblG ∧ Cond.initialized (clR ci) ∈ tblG) (h9 : n < 900000) (hI : I n = fun _ => 0) (hL : L n = fun _ => 0) (hf : c + 1 ≤ Bd.2.1 ∧ s + nfK ci ≤ Bd.2.2)
    (kk : AW X g own cc nL Bd (n + 1, n + 1, upS sh n (ci, 0, fun _ => none), c + 1, s + nfK ci) I L (pc + 3) Lc (.ref n :: st)) : AW X g own cc nL Bd (n, n, sh, c, s) I L pc Lc st := aw_new hci d hl hi rfl h9 hI hL hf kk
theorem an_I {N : Nat} {x : Int32} (d : decode cc pc = .ok (.newarray .int, 2)) (hx : x = nI N) (hN : N ≤ 100000) (h9 : n < 900000) (hI : I n = fun _ => 0) (hf : c + 1 ≤ Bd.2.1 ∧ s + N ≤ Bd.2.2)
    (kk : AW X g own cc nL Bd (n + 1, n + 1, upS sh n (100, N, fun _ => none), c + 1, s + N) I L (pc + 2) Lc (.ref n :: st)) : AW X g own cc nL Bd (n, n, sh, c, s) I L pc Lc (.int x :: st) := aw_newaI d hx hN rfl h9 hI hf kk
theorem an_B {N : Nat} {x : Int32} (d : decode cc pc = .ok (.newarray .byte, 2)) (hx : x = nI N) (hN : N ≤ 100000) (h9 : n < 900000) (hI : I n = fun _ => 0) (hf : c + 1 ≤ Bd.2.1 ∧ s + N ≤ Bd.2.2)
    (kk : AW X g own cc nL Bd (n + 1, n + 1, upS sh n (102, N, fun _ => none), c + 1, s + N) I L (pc + 2) Lc (.ref n :: st)) : AW X g own cc nL Bd (n, n, sh, c, s) I L pc Lc (.int x :: st) := aw_newaB d hx hN rfl h9 hI hf kk
theorem an_L {N : Nat} {x : Int32} (d : decode cc pc = .ok (.newarray .long, 2)) (hx : x = nI N) (hN : N ≤ 100000) (h9 : n < 900000) (hL : L n = fun _ => 0) (hf : c + 1 ≤ Bd.2.1 ∧ s + N ≤ Bd.2.2)
    (kk : AW X g own cc nL Bd (n + 1, n + 1, upS sh n (101, N, fun _ => none), c + 1, s + N) I L (pc + 2) Lc (.ref n :: st)) : AW X g own cc nL Bd (n, n, sh, c, s) I L pc Lc (.int x :: st) := aw_newaL d hx hN rfl h9 hL hf kk
theorem an_R {idx k N : Nat} {C : String} {x : Int32} (d : decode cc pc = .ok (.anewarray idx, 3)) (hl : Cond.classLink own idx C ∈ tblG) (hk : 103 ≤ k) (hy : ∀ g : Gd, (tysK g)[k - 100]? = some (g.2.2.2 k, .object C)) (ho : ∀ (g : Gd) (U : State) (H : Heap), StK g U H → va_AO C U) (hx : x = nI N) (hN : N ≤ 100000) (h9 : n < 900000) (hf : c + 1 ≤ Bd.2.1 ∧ s + N ≤ Bd.2.2)
    (kk : AW X g own cc nL Bd (n + 1, n + 1, upS sh n (k, N, fun _ => none), c + 1, s + N) I L (pc + 3) Lc (.ref n :: st)) : AW X g own cc nL Bd (n, n, sh, c, s) I L pc Lc (.int x :: st) := aw_anew d hl hk hy ho hx hN rfl h9 hf kk
end AN
section IniS
variable {n a : Nat} {sh : Shp} {I : MI} {L : ML}
set_option maxHeartbeats 4000000 in
set_option maxRecDepth 100000 in
theorem sX2_init {k : Nat} (h10 : k < 10) (hk : (sh a).1 = 2) (ha : a < n) (hn : n + 1 ≤ 900000) (hF : Fz n I L) : CM yX2_init cX2_init 2 (Option.none : Option FieldType) 1 0 0 [.ref a, .int (nI k)] n n sh I L (Pst none (n) (n) (sh) (upI (upI (upI (I) a 0 (nI k)) a 1 (nI (2 ^ k))) a 5 (-1)) L) := by
  refine CM.goI [some (.ref a), some (.int (nI k))] rfl rfl (Nat.le_of_ble_eq_true rfl) (fun X g q hin => ?_)
  refine aw_aload_n dX2_init_0 rfl ?_
  refine aw_obj dX2_init_1 oX2_3 (Nat.le_of_ble_eq_true rfl) (Nat.le_of_ble_eq_true rfl) ?_
  refine aw_aload_n dX2_init_4 rfl ?_
  refine aw_iload_n dX2_init_5 rfl ?_
  refine aw_putFI dX2_init_6 fX2_9 hk (show a < n by omega) rfl rfl hin rfl ?_
  refine aw_aload_n dX2_init_9 rfl ?_
  refine aw_iconst (v := 1) dX2_init_10 rfl ?_
  refine aw_iload_n dX2_init_11 rfl ?_
  refine aw_ishl dX2_init_12 ?_
  refine AW.top (shl_bit _ (by omega)) ?_
  refine aw_putFI dX2_init_13 fX2_15 hk (show a < n by omega) rfl rfl hin rfl ?_
  refine aw_aload_n dX2_init_16 rfl ?_
  refine aw_iconst (v := (-1)) dX2_init_17 rfl ?_
  refine aw_putI dX2_init_18 fX2_18 hk (show a < n by omega) rfl rfl ?_
  refine aw_vret q rfl dX2_init_21 ⟨(Nat.le_of_ble_eq_true rfl), (Nat.le_of_ble_eq_true rfl)⟩ ?_
  exact Pst.rf
set_option maxHeartbeats 4000000 in
set_option maxRecDepth 100000 in
theorem sX3_init {k : Nat} (h10 : k < 10) (hk : (sh a).1 = 3) (ha : a < n) (hn : n + 1 ≤ 900000) (hF : Fz n I L) : CM yX3_init cX3_init 2 (Option.none : Option FieldType) 1 1 6 [.ref a, .int (nI k)] n n sh I L (Pst none (n + 1) (n + 1) (upR (upS (sh) (n) (100, 6, fun _ => none)) a 2 (some (n))) (upI (upI (upI (I) a 0 (nI k)) a 1 (nI (2 ^ k))) a 9 (-1)) L) := by
  refine CM.goI [some (.ref a), some (.int (nI k))] rfl rfl (Nat.le_of_ble_eq_true rfl) (fun X g q hin => ?_)
  refine aw_aload_n dX3_init_0 rfl ?_
  refine aw_obj dX3_init_1 oX3_3 (Nat.le_of_ble_eq_true rfl) (Nat.le_of_ble_eq_true rfl) ?_
  refine aw_aload_n dX3_init_4 rfl ?_
  refine aw_iload_n dX3_init_5 rfl ?_
  refine aw_putFI dX3_init_6 fX3_9 hk (show a < n by omega) rfl rfl hin rfl ?_
  refine aw_aload_n dX3_init_9 rfl ?_
  refine aw_iconst (v := 1) dX3_init_10 rfl ?_
  refine aw_iload_n dX3_init_11 rfl ?_
  refine aw_ishl dX3_init_12 ?_
  refine AW.top (shl_bit _ (by omega)) ?_
  refine aw_putFI dX3_init_13 fX3_15 hk (show a < n by omega) rfl rfl hin rfl ?_
  refine aw_aload_n dX3_init_16 rfl ?_
  refine aw_bipush (v := 6) dX3_init_17 rfl ?_
  refine an_I (N := 6) dX3_init_19 rfl (Nat.le_of_ble_eq_true rfl) (show n < 900000 by omega) ((upI_row2 (by omega)).trans ((upI_row2 (by omega)).trans (hF _ (by omega)).1)) ⟨(Nat.le_of_ble_eq_true rfl), (Nat.le_of_ble_eq_true rfl)⟩ ?_
  refine aw_putFR dX3_init_21 fX3_18 ((congrArg Prod.fst (upS_n (by omega))).trans hk) (show a < n + 1 by omega) (show n < n + 1 by omega) rfl (fun _ => rfl) (fun _ => rfl) rfl hin rfl ?_
  refine aw_aload_n dX3_init_24 rfl ?_
  refine aw_iconst (v := (-1)) dX3_init_25 rfl ?_
  refine aw_putI dX3_init_26 fX3_22 (upR_1.trans ((congrArg Prod.fst (upS_n (by omega))).trans hk)) (show a < n + 1 by omega) rfl rfl ?_
  refine aw_vret q rfl dX3_init_29 ⟨(Nat.le_of_ble_eq_true rfl), (Nat.le_of_ble_eq_true rfl)⟩ ?_
  exact Pst.rf
set_option maxHeartbeats 4000000 in
set_option maxRecDepth 100000 in
theorem sX8_init {r w : Nat} (hrw : r * w ≤ 100000) (hk : (sh a).1 = 8) (ha : a < n) (hn : n + 1 ≤ 900000) (hF : Fz n I L) : CM yX8_init cX8_init 3 (Option.none : Option FieldType) 1 1 (r * w) [.ref a, .int (nI r), .int (nI w)] n n sh I L (Pst none (n + 1) (n + 1) (upR (upS (sh) (n) (100, r * w, fun _ => none)) a 1 (some (n))) (upI (upI (I) a 0 (nI w)) a 2 0) L) := by
  refine CM.goI [some (.ref a), some (.int (nI r)), some (.int (nI w))] rfl rfl (Nat.le_of_ble_eq_true rfl) (fun X g q hin => ?_)
  refine aw_aload_n dX8_init_0 rfl ?_
  refine aw_obj dX8_init_1 oX8_3 (Nat.le_of_ble_eq_true rfl) (Nat.le_of_ble_eq_true rfl) ?_
  refine aw_aload_n dX8_init_4 rfl ?_
  refine aw_iload_n dX8_init_5 rfl ?_
  refine aw_putFI dX8_init_6 fX8_9 hk (show a < n by omega) rfl rfl hin rfl ?_
  refine aw_aload_n dX8_init_9 rfl ?_
  refine aw_iload_n dX8_init_10 rfl ?_
  refine aw_iload_n dX8_init_11 rfl ?_
  refine aw_imul dX8_init_12 ?_
  refine AW.top (gmul rfl rfl) ?_
  refine an_I (N := (r * w)) dX8_init_13 rfl (by omega) (show n < 900000 by omega) ((upI_row2 (by omega)).trans (hF _ (by omega)).1) ⟨(Nat.le_of_ble_eq_true rfl), (Nat.le_of_eq (Nat.zero_add _))⟩ ?_
  refine aw_putFR dX8_init_15 fX8_15 ((congrArg Prod.fst (upS_n (by omega))).trans hk) (show a < n + 1 by omega) (show n < n + 1 by omega) rfl (fun _ => rfl) (fun _ => rfl) rfl hin rfl ?_
  refine aw_aload_n dX8_init_18 rfl ?_
  refine aw_iconst (v := 0) dX8_init_19 rfl ?_
  refine aw_putI dX8_init_20 fX8_19 (upR_1.trans ((congrArg Prod.fst (upS_n (by omega))).trans hk)) (show a < n + 1 by omega) rfl rfl ?_
  refine aw_vret q rfl dX8_init_23 ⟨(Nat.le_of_ble_eq_true rfl), (Nat.le_of_eq (Nat.zero_add _))⟩ ?_
  exact Pst.rf
set_option maxHeartbeats 4000000 in
set_option maxRecDepth 100000 in
theorem sX5_init (hk : (sh a).1 = 5) (ha : a < n) (hn : n + 1 ≤ 900000) (hF : Fz n I L) : CM yX5_init cX5_init 1 (Option.none : Option FieldType) 1 1 1024 [.ref a] n n sh I L (Pst none (n + 1) (n + 1) (upR (upS (sh) (n) (100, 1024, fun _ => none)) a 0 (some (n))) (upI (I) a 1 0) L) := by
  refine CM.goI [some (.ref a)] rfl rfl (Nat.le_of_ble_eq_true rfl) (fun X g q hin => ?_)
  refine aw_aload_n dX5_init_0 rfl ?_
  refine aw_obj dX5_init_1 oX5_3 (Nat.le_of_ble_eq_true rfl) (Nat.le_of_ble_eq_true rfl) ?_
  refine aw_aload_n dX5_init_4 rfl ?_
  refine aw_sipush (v := 1024) dX5_init_5 rfl ?_
  refine an_I (N := 1024) dX5_init_8 rfl (Nat.le_of_ble_eq_true rfl) (show n < 900000 by omega) (hF _ (by omega)).1 ⟨(Nat.le_of_ble_eq_true rfl), (Nat.le_of_ble_eq_true rfl)⟩ ?_
  refine aw_putFR dX5_init_10 fX5_9 ((congrArg Prod.fst (upS_n (by omega))).trans hk) (show a < n + 1 by omega) (show n < n + 1 by omega) rfl (fun _ => rfl) (fun _ => rfl) rfl hin rfl ?_
  refine aw_aload_n dX5_init_13 rfl ?_
  refine aw_iconst (v := 0) dX5_init_14 rfl ?_
  refine aw_putI dX5_init_15 fX5_15 (upR_1.trans ((congrArg Prod.fst (upS_n (by omega))).trans hk)) (show a < n + 1 by omega) rfl rfl ?_
  refine aw_vret q rfl dX5_init_18 ⟨(Nat.le_of_ble_eq_true rfl), (Nat.le_of_ble_eq_true rfl)⟩ ?_
  exact Pst.rf
set_option maxHeartbeats 4000000 in
set_option maxRecDepth 100000 in
theorem sX4_init (hk : (sh a).1 = 4) (ha : a < n) (hn : n + 2 ≤ 900000) (hF : Fz n I L) : CM yX4_init cX4_init 1 (Option.none : Option FieldType) 1 2 18 [.ref a] n n sh I L (Pst none (n + 2) (n + 2) (upR (upS (upR (upS (sh) (n) (100, 8, fun _ => none)) a 0 (some (n))) (n + 1) (100, 10, fun _ => none)) a 1 (some (n + 1))) (I) L) := by
  refine CM.goI [some (.ref a)] rfl rfl (Nat.le_of_ble_eq_true rfl) (fun X g q hin => ?_)
  refine aw_aload_n dX4_init_0 rfl ?_
  refine aw_obj dX4_init_1 oX4_3 (Nat.le_of_ble_eq_true rfl) (Nat.le_of_ble_eq_true rfl) ?_
  refine aw_aload_n dX4_init_4 rfl ?_
  refine aw_bipush (v := 8) dX4_init_5 rfl ?_
  refine an_I (N := 8) dX4_init_7 rfl (Nat.le_of_ble_eq_true rfl) (show n < 900000 by omega) (hF _ (by omega)).1 ⟨(Nat.le_of_ble_eq_true rfl), (Nat.le_of_ble_eq_true rfl)⟩ ?_
  refine aw_putFR dX4_init_9 fX4_9 ((congrArg Prod.fst (upS_n (by omega))).trans hk) (show a < n + 1 by omega) (show n < n + 1 by omega) rfl (fun _ => rfl) (fun _ => rfl) rfl hin rfl ?_
  refine aw_aload_n dX4_init_12 rfl ?_
  refine aw_bipush (v := 10) dX4_init_13 rfl ?_
  refine an_I (N := 10) dX4_init_15 rfl (Nat.le_of_ble_eq_true rfl) (show n + 1 < 900000 by omega) (hF _ (by omega)).1 ⟨(Nat.le_of_ble_eq_true rfl), (Nat.le_of_ble_eq_true rfl)⟩ ?_
  refine aw_putFR dX4_init_17 fX4_15 ((congrArg Prod.fst (upS_n (by omega))).trans (upR_1.trans ((congrArg Prod.fst (upS_n (by omega))).trans hk))) (show a < n + 2 by omega) (show n + 1 < n + 2 by omega) rfl (fun _ => rfl) (fun _ => rfl) rfl hin rfl ?_
  refine aw_vret q rfl dX4_init_20 ⟨(Nat.le_of_ble_eq_true rfl), (Nat.le_of_ble_eq_true rfl)⟩ ?_
  exact Pst.rf
set_option maxHeartbeats 4000000 in
set_option maxRecDepth 100000 in
theorem sX0_init (hk : (sh a).1 = 0) (ha : a < n) (hn : n + 5 ≤ 900000) (hF : Fz n I L) : CM yX0_init cX0_init 1 (Option.none : Option FieldType) 1 5 2080 [.ref a] n n sh I L (Pst none (n + 5) (n + 5) (upR (upS (upR (upS (upR (upS (upR (upS (upR (upS (sh) (n) (100, 8, fun _ => none)) a 0 (some (n))) (n + 1) (100, 8, fun _ => none)) a 1 (some (n + 1))) (n + 2) (100, 2048, fun _ => none)) a 2 (some (n + 2))) (n + 3) (100, 8, fun _ => none)) a 3 (some (n + 3))) (n + 4) (100, 8, fun _ => none)) a 4 (some (n + 4))) (I) L) := by
  refine CM.goI [some (.ref a)] rfl rfl (Nat.le_of_ble_eq_true rfl) (fun X g q hin => ?_)
  refine aw_aload_n dX0_init_0 rfl ?_
  refine aw_obj dX0_init_1 oX0_3 (Nat.le_of_ble_eq_true rfl) (Nat.le_of_ble_eq_true rfl) ?_
  refine aw_aload_n dX0_init_4 rfl ?_
  refine aw_bipush (v := 8) dX0_init_5 rfl ?_
  refine an_I (N := 8) dX0_init_7 rfl (Nat.le_of_ble_eq_true rfl) (show n < 900000 by omega) (hF _ (by omega)).1 ⟨(Nat.le_of_ble_eq_true rfl), (Nat.le_of_ble_eq_true rfl)⟩ ?_
  refine aw_putFR dX0_init_9 fX0_9 ((congrArg Prod.fst (upS_n (by omega))).trans hk) (show a < n + 1 by omega) (show n < n + 1 by omega) rfl (fun _ => rfl) (fun _ => rfl) rfl hin rfl ?_
  refine aw_aload_n dX0_init_12 rfl ?_
  refine aw_bipush (v := 8) dX0_init_13 rfl ?_
  refine an_I (N := 8) dX0_init_15 rfl (Nat.le_of_ble_eq_true rfl) (show n + 1 < 900000 by omega) (hF _ (by omega)).1 ⟨(Nat.le_of_ble_eq_true rfl), (Nat.le_of_ble_eq_true rfl)⟩ ?_
  refine aw_putFR dX0_init_17 fX0_15 ((congrArg Prod.fst (upS_n (by omega))).trans (upR_1.trans ((congrArg Prod.fst (upS_n (by omega))).trans hk))) (show a < n + 2 by omega) (show n + 1 < n + 2 by omega) rfl (fun _ => rfl) (fun _ => rfl) rfl hin rfl ?_
  refine aw_aload_n dX0_init_20 rfl ?_
  refine aw_sipush (v := 2048) dX0_init_21 rfl ?_
  refine an_I (N := 2048) dX0_init_24 rfl (Nat.le_of_ble_eq_true rfl) (show n + 2 < 900000 by omega) (hF _ (by omega)).1 ⟨(Nat.le_of_ble_eq_true rfl), (Nat.le_of_ble_eq_true rfl)⟩ ?_
  refine aw_putFR dX0_init_26 fX0_18 ((congrArg Prod.fst (upS_n (by omega))).trans (upR_1.trans ((congrArg Prod.fst (upS_n (by omega))).trans (upR_1.trans ((congrArg Prod.fst (upS_n (by omega))).trans hk))))) (show a < n + 3 by omega) (show n + 2 < n + 3 by omega) rfl (fun _ => rfl) (fun _ => rfl) rfl hin rfl ?_
  refine aw_aload_n dX0_init_29 rfl ?_
  refine aw_bipush (v := 8) dX0_init_30 rfl ?_
  refine an_I (N := 8) dX0_init_32 rfl (Nat.le_of_ble_eq_true rfl) (show n + 3 < 900000 by omega) (hF _ (by omega)).1 ⟨(Nat.le_of_ble_eq_true rfl), (Nat.le_of_ble_eq_true rfl)⟩ ?_
  refine aw_putFR dX0_init_34 fX0_21 ((congrArg Prod.fst (upS_n (by omega))).trans (upR_1.trans ((congrArg Prod.fst (upS_n (by omega))).trans (upR_1.trans ((congrArg Prod.fst (upS_n (by omega))).trans (upR_1.trans ((congrArg Prod.fst (upS_n (by omega))).trans hk))))))) (show a < n + 4 by omega) (show n + 3 < n + 4 by omega) rfl (fun _ => rfl) (fun _ => rfl) rfl hin rfl ?_
  refine aw_aload_n dX0_init_37 rfl ?_
  refine aw_bipush (v := 8) dX0_init_38 rfl ?_
  refine an_I (N := 8) dX0_init_40 rfl (Nat.le_of_ble_eq_true rfl) (show n + 4 < 900000 by omega) (hF _ (by omega)).1 ⟨(Nat.le_of_ble_eq_true rfl), (Nat.le_of_ble_eq_true rfl)⟩ ?_
  refine aw_putFR dX0_init_42 fX0_24 ((congrArg Prod.fst (upS_n (by omega))).trans (upR_1.trans ((congrArg Prod.fst (upS_n (by omega))).trans (upR_1.trans ((congrArg Prod.fst (upS_n (by omega))).trans (upR_1.trans ((congrArg Prod.fst (upS_n (by omega))).trans (upR_1.trans ((congrArg Prod.fst (upS_n (by omega))).trans hk))))))))) (show a < n + 5 by omega) (show n + 4 < n + 5 by omega) rfl (fun _ => rfl) (fun _ => rfl) rfl hin rfl ?_
  refine aw_vret q rfl dX0_init_45 ⟨(Nat.le_of_ble_eq_true rfl), (Nat.le_of_ble_eq_true rfl)⟩ ?_
  exact Pst.rf
set_option maxHeartbeats 4000000 in
set_option maxRecDepth 100000 in
theorem sX9_init (hk : (sh a).1 = 9) (ha : a < n) (hn : n + 2 ≤ 900000) (hF : Fz n I L) : CM yX9_init cX9_init 1 (Option.none : Option FieldType) 1 2 16 [.ref a] n n sh I L (Pst none (n + 2) (n + 2) (upR (upS (upR (upS (sh) (n) (100, 8, fun _ => none)) a 0 (some (n))) (n + 1) (100, 8, fun _ => none)) a 1 (some (n + 1))) (I) L) := by
  refine CM.goI [some (.ref a)] rfl rfl (Nat.le_of_ble_eq_true rfl) (fun X g q hin => ?_)
  refine aw_aload_n dX9_init_0 rfl ?_
  refine aw_obj dX9_init_1 oX9_3 (Nat.le_of_ble_eq_true rfl) (Nat.le_of_ble_eq_true rfl) ?_
  refine aw_aload_n dX9_init_4 rfl ?_
  refine aw_bipush (v := 8) dX9_init_5 rfl ?_
  refine an_I (N := 8) dX9_init_7 rfl (Nat.le_of_ble_eq_true rfl) (show n < 900000 by omega) (hF _ (by omega)).1 ⟨(Nat.le_of_ble_eq_true rfl), (Nat.le_of_ble_eq_true rfl)⟩ ?_
  refine aw_putFR dX9_init_9 fX9_9 ((congrArg Prod.fst (upS_n (by omega))).trans hk) (show a < n + 1 by omega) (show n < n + 1 by omega) rfl (fun _ => rfl) (fun _ => rfl) rfl hin rfl ?_
  refine aw_aload_n dX9_init_12 rfl ?_
  refine aw_bipush (v := 8) dX9_init_13 rfl ?_
  refine an_I (N := 8) dX9_init_15 rfl (Nat.le_of_ble_eq_true rfl) (show n + 1 < 900000 by omega) (hF _ (by omega)).1 ⟨(Nat.le_of_ble_eq_true rfl), (Nat.le_of_ble_eq_true rfl)⟩ ?_
  refine aw_putFR dX9_init_17 fX9_15 ((congrArg Prod.fst (upS_n (by omega))).trans (upR_1.trans ((congrArg Prod.fst (upS_n (by omega))).trans hk))) (show a < n + 2 by omega) (show n + 1 < n + 2 by omega) rfl (fun _ => rfl) (fun _ => rfl) rfl hin rfl ?_
  refine aw_vret q rfl dX9_init_20 ⟨(Nat.le_of_ble_eq_true rfl), (Nat.le_of_ble_eq_true rfl)⟩ ?_
  exact Pst.rf
end IniS
