/-! the reference: trades -/
section RefS
variable {z n m : Nat} {sh : Shp} {I : MI} {L : ML}
set_option maxHeartbeats 4000000 in
set_option maxRecDepth 100000 in
theorem sJ6_ntz {x : Int32} {v : Nat} (hx : x = nI v) (hv : v < 256) (h0 : ¬ v = 0) : CM yJ6_numberOfTrailingZeros_0f7a4 cJ6_numberOfTrailingZeros_0f7a4 2 (Option.some .int) 1 0 0 [.int x] z n sh I L (Pst (some (.int (nI (ctz v)))) z n sh I L) := by
  subst hx
  obtain ⟨hz, -, he⟩ := ctz_all v hv h0
  refine CM.go [some (.int (nI v)), none] rfl rfl (Nat.le_of_ble_eq_true rfl) (fun X g q => ?_)
  refine aw_iload_n dJ6_numberOfTrailingZeros_0f7a4_0 rfl ?_
  refine aw_iconst (v := (-1)) dJ6_numberOfTrailingZeros_0f7a4_1 rfl ?_
  refine aw_ixor dJ6_numberOfTrailingZeros_0f7a4_2 ?_
  refine aw_iload_n dJ6_numberOfTrailingZeros_0f7a4_3 rfl ?_
  refine aw_iconst (v := 1) dJ6_numberOfTrailingZeros_0f7a4_4 rfl ?_
  refine aw_isub dJ6_numberOfTrailingZeros_0f7a4_5 ?_
  refine aw_iand dJ6_numberOfTrailingZeros_0f7a4_6 ?_
  refine AW.top he ?_
  refine aw_istore_n dJ6_numberOfTrailingZeros_0f7a4_7 (by decide) rfl ?_
  generalize ctz v = t at hz q
  match t, hz with
  | 0, _ =>
    refine aw_iload_n dJ6_numberOfTrailingZeros_0f7a4_8 rfl ?_
    refine aw_if_gt (tgt := 17) dJ6_numberOfTrailingZeros_0f7a4_9 rfl (fun c9 => ?_) (fun c9 => ?_)
    · exact absurd c9 (by decide)
    · skip
      refine aw_iload_n dJ6_numberOfTrailingZeros_0f7a4_12 rfl ?_
      refine aw_bipush (v := 32) dJ6_numberOfTrailingZeros_0f7a4_13 rfl ?_
      refine aw_iand dJ6_numberOfTrailingZeros_0f7a4_15 ?_
      refine aw_iret q rfl dJ6_numberOfTrailingZeros_0f7a4_16 ⟨Nat.le_refl _, Nat.le_refl _⟩ ?_
      exact Pst.iv (by decide)
  | 1, _ =>
    refine aw_iload_n dJ6_numberOfTrailingZeros_0f7a4_8 rfl ?_
    refine aw_if_gt (tgt := 17) dJ6_numberOfTrailingZeros_0f7a4_9 rfl (fun c9 => ?_) (fun c9 => ?_)
    · skip
      refine aw_iconst (v := 1) dJ6_numberOfTrailingZeros_0f7a4_17 rfl ?_
      refine aw_istore_n dJ6_numberOfTrailingZeros_0f7a4_18 (by decide) rfl ?_
      refine aw_iload_n dJ6_numberOfTrailingZeros_0f7a4_19 rfl ?_
      refine aw_ldcw dJ6_numberOfTrailingZeros_0f7a4_20 qJ6_264 ?_
      refine aw_icmp_le (tgt := 34) dJ6_numberOfTrailingZeros_0f7a4_23 rfl (fun c23 => ?_) (fun c23 => ?_)
      · skip
        refine aw_iload_n dJ6_numberOfTrailingZeros_0f7a4_34 rfl ?_
        refine aw_sipush (v := 256) dJ6_numberOfTrailingZeros_0f7a4_35 rfl ?_
        refine aw_icmp_le (tgt := 49) dJ6_numberOfTrailingZeros_0f7a4_38 rfl (fun c38 => ?_) (fun c38 => ?_)
        · skip
          refine aw_iload_n dJ6_numberOfTrailingZeros_0f7a4_49 rfl ?_
          refine aw_bipush (v := 16) dJ6_numberOfTrailingZeros_0f7a4_50 rfl ?_
          refine aw_icmp_le (tgt := 62) dJ6_numberOfTrailingZeros_0f7a4_52 rfl (fun c52 => ?_) (fun c52 => ?_)
          · skip
            refine aw_iload_n dJ6_numberOfTrailingZeros_0f7a4_62 rfl ?_
            refine aw_iconst (v := 4) dJ6_numberOfTrailingZeros_0f7a4_63 rfl ?_
            refine aw_icmp_le (tgt := 74) dJ6_numberOfTrailingZeros_0f7a4_64 rfl (fun c64 => ?_) (fun c64 => ?_)
            · skip
              refine aw_iload_n dJ6_numberOfTrailingZeros_0f7a4_74 rfl ?_
              refine aw_iload_n dJ6_numberOfTrailingZeros_0f7a4_75 rfl ?_
              refine aw_iconst (v := 1) dJ6_numberOfTrailingZeros_0f7a4_76 rfl ?_
              refine aw_iushr dJ6_numberOfTrailingZeros_0f7a4_77 ?_
              refine aw_iadd dJ6_numberOfTrailingZeros_0f7a4_78 ?_
              refine aw_iret q rfl dJ6_numberOfTrailingZeros_0f7a4_79 ⟨Nat.le_refl _, Nat.le_refl _⟩ ?_
              exact Pst.iv (by decide)
            · exact absurd (by decide) c64
          · exact absurd (by decide) c52
        · exact absurd (by decide) c38
      · exact absurd (by decide) c23
    · exact absurd (by decide) c9
  | 2, _ =>
    refine aw_iload_n dJ6_numberOfTrailingZeros_0f7a4_8 rfl ?_
    refine aw_if_gt (tgt := 17) dJ6_numberOfTrailingZeros_0f7a4_9 rfl (fun c9 => ?_) (fun c9 => ?_)
    · skip
      refine aw_iconst (v := 1) dJ6_numberOfTrailingZeros_0f7a4_17 rfl ?_
      refine aw_istore_n dJ6_numberOfTrailingZeros_0f7a4_18 (by decide) rfl ?_
      refine aw_iload_n dJ6_numberOfTrailingZeros_0f7a4_19 rfl ?_
      refine aw_ldcw dJ6_numberOfTrailingZeros_0f7a4_20 qJ6_264 ?_
      refine aw_icmp_le (tgt := 34) dJ6_numberOfTrailingZeros_0f7a4_23 rfl (fun c23 => ?_) (fun c23 => ?_)
      · skip
        refine aw_iload_n dJ6_numberOfTrailingZeros_0f7a4_34 rfl ?_
        refine aw_sipush (v := 256) dJ6_numberOfTrailingZeros_0f7a4_35 rfl ?_
        refine aw_icmp_le (tgt := 49) dJ6_numberOfTrailingZeros_0f7a4_38 rfl (fun c38 => ?_) (fun c38 => ?_)
        · skip
          refine aw_iload_n dJ6_numberOfTrailingZeros_0f7a4_49 rfl ?_
          refine aw_bipush (v := 16) dJ6_numberOfTrailingZeros_0f7a4_50 rfl ?_
          refine aw_icmp_le (tgt := 62) dJ6_numberOfTrailingZeros_0f7a4_52 rfl (fun c52 => ?_) (fun c52 => ?_)
          · skip
            refine aw_iload_n dJ6_numberOfTrailingZeros_0f7a4_62 rfl ?_
            refine aw_iconst (v := 4) dJ6_numberOfTrailingZeros_0f7a4_63 rfl ?_
            refine aw_icmp_le (tgt := 74) dJ6_numberOfTrailingZeros_0f7a4_64 rfl (fun c64 => ?_) (fun c64 => ?_)
            · skip
              refine aw_iload_n dJ6_numberOfTrailingZeros_0f7a4_74 rfl ?_
              refine aw_iload_n dJ6_numberOfTrailingZeros_0f7a4_75 rfl ?_
              refine aw_iconst (v := 1) dJ6_numberOfTrailingZeros_0f7a4_76 rfl ?_
              refine aw_iushr dJ6_numberOfTrailingZeros_0f7a4_77 ?_
              refine aw_iadd dJ6_numberOfTrailingZeros_0f7a4_78 ?_
              refine aw_iret q rfl dJ6_numberOfTrailingZeros_0f7a4_79 ⟨Nat.le_refl _, Nat.le_refl _⟩ ?_
              exact Pst.iv (by decide)
            · exact absurd (by decide) c64
          · exact absurd (by decide) c52
        · exact absurd (by decide) c38
      · exact absurd (by decide) c23
    · exact absurd (by decide) c9
  | 3, _ =>
    refine aw_iload_n dJ6_numberOfTrailingZeros_0f7a4_8 rfl ?_
    refine aw_if_gt (tgt := 17) dJ6_numberOfTrailingZeros_0f7a4_9 rfl (fun c9 => ?_) (fun c9 => ?_)
    · skip
      refine aw_iconst (v := 1) dJ6_numberOfTrailingZeros_0f7a4_17 rfl ?_
      refine aw_istore_n dJ6_numberOfTrailingZeros_0f7a4_18 (by decide) rfl ?_
      refine aw_iload_n dJ6_numberOfTrailingZeros_0f7a4_19 rfl ?_
      refine aw_ldcw dJ6_numberOfTrailingZeros_0f7a4_20 qJ6_264 ?_
      refine aw_icmp_le (tgt := 34) dJ6_numberOfTrailingZeros_0f7a4_23 rfl (fun c23 => ?_) (fun c23 => ?_)
      · skip
        refine aw_iload_n dJ6_numberOfTrailingZeros_0f7a4_34 rfl ?_
        refine aw_sipush (v := 256) dJ6_numberOfTrailingZeros_0f7a4_35 rfl ?_
        refine aw_icmp_le (tgt := 49) dJ6_numberOfTrailingZeros_0f7a4_38 rfl (fun c38 => ?_) (fun c38 => ?_)
        · skip
          refine aw_iload_n dJ6_numberOfTrailingZeros_0f7a4_49 rfl ?_
          refine aw_bipush (v := 16) dJ6_numberOfTrailingZeros_0f7a4_50 rfl ?_
          refine aw_icmp_le (tgt := 62) dJ6_numberOfTrailingZeros_0f7a4_52 rfl (fun c52 => ?_) (fun c52 => ?_)
          · skip
            refine aw_iload_n dJ6_numberOfTrailingZeros_0f7a4_62 rfl ?_
            refine aw_iconst (v := 4) dJ6_numberOfTrailingZeros_0f7a4_63 rfl ?_
            refine aw_icmp_le (tgt := 74) dJ6_numberOfTrailingZeros_0f7a4_64 rfl (fun c64 => ?_) (fun c64 => ?_)
            · exact absurd c64 (by decide)
            · skip
              refine aw_iinc dJ6_numberOfTrailingZeros_0f7a4_67 rfl rfl (by decide) rfl ?_
              refine aw_iload_n dJ6_numberOfTrailingZeros_0f7a4_70 rfl ?_
              refine aw_iconst (v := 2) dJ6_numberOfTrailingZeros_0f7a4_71 rfl ?_
              refine aw_iushr dJ6_numberOfTrailingZeros_0f7a4_72 ?_
              refine aw_istore_n dJ6_numberOfTrailingZeros_0f7a4_73 (by decide) rfl ?_
              refine aw_iload_n dJ6_numberOfTrailingZeros_0f7a4_74 rfl ?_
              refine aw_iload_n dJ6_numberOfTrailingZeros_0f7a4_75 rfl ?_
              refine aw_iconst (v := 1) dJ6_numberOfTrailingZeros_0f7a4_76 rfl ?_
              refine aw_iushr dJ6_numberOfTrailingZeros_0f7a4_77 ?_
              refine aw_iadd dJ6_numberOfTrailingZeros_0f7a4_78 ?_
              refine aw_iret q rfl dJ6_numberOfTrailingZeros_0f7a4_79 ⟨Nat.le_refl _, Nat.le_refl _⟩ ?_
              exact Pst.iv (by decide)
          · exact absurd (by decide) c52
        · exact absurd (by decide) c38
      · exact absurd (by decide) c23
    · exact absurd (by decide) c9
  | 4, _ =>
    refine aw_iload_n dJ6_numberOfTrailingZeros_0f7a4_8 rfl ?_
    refine aw_if_gt (tgt := 17) dJ6_numberOfTrailingZeros_0f7a4_9 rfl (fun c9 => ?_) (fun c9 => ?_)
    · skip
      refine aw_iconst (v := 1) dJ6_numberOfTrailingZeros_0f7a4_17 rfl ?_
      refine aw_istore_n dJ6_numberOfTrailingZeros_0f7a4_18 (by decide) rfl ?_
      refine aw_iload_n dJ6_numberOfTrailingZeros_0f7a4_19 rfl ?_
      refine aw_ldcw dJ6_numberOfTrailingZeros_0f7a4_20 qJ6_264 ?_
      refine aw_icmp_le (tgt := 34) dJ6_numberOfTrailingZeros_0f7a4_23 rfl (fun c23 => ?_) (fun c23 => ?_)
      · skip
        refine aw_iload_n dJ6_numberOfTrailingZeros_0f7a4_34 rfl ?_
        refine aw_sipush (v := 256) dJ6_numberOfTrailingZeros_0f7a4_35 rfl ?_
        refine aw_icmp_le (tgt := 49) dJ6_numberOfTrailingZeros_0f7a4_38 rfl (fun c38 => ?_) (fun c38 => ?_)
        · skip
          refine aw_iload_n dJ6_numberOfTrailingZeros_0f7a4_49 rfl ?_
          refine aw_bipush (v := 16) dJ6_numberOfTrailingZeros_0f7a4_50 rfl ?_
          refine aw_icmp_le (tgt := 62) dJ6_numberOfTrailingZeros_0f7a4_52 rfl (fun c52 => ?_) (fun c52 => ?_)
          · skip
            refine aw_iload_n dJ6_numberOfTrailingZeros_0f7a4_62 rfl ?_
            refine aw_iconst (v := 4) dJ6_numberOfTrailingZeros_0f7a4_63 rfl ?_
            refine aw_icmp_le (tgt := 74) dJ6_numberOfTrailingZeros_0f7a4_64 rfl (fun c64 => ?_) (fun c64 => ?_)
            · exact absurd c64 (by decide)
            · skip
              refine aw_iinc dJ6_numberOfTrailingZeros_0f7a4_67 rfl rfl (by decide) rfl ?_
              refine aw_iload_n dJ6_numberOfTrailingZeros_0f7a4_70 rfl ?_
              refine aw_iconst (v := 2) dJ6_numberOfTrailingZeros_0f7a4_71 rfl ?_
              refine aw_iushr dJ6_numberOfTrailingZeros_0f7a4_72 ?_
              refine aw_istore_n dJ6_numberOfTrailingZeros_0f7a4_73 (by decide) rfl ?_
              refine aw_iload_n dJ6_numberOfTrailingZeros_0f7a4_74 rfl ?_
              refine aw_iload_n dJ6_numberOfTrailingZeros_0f7a4_75 rfl ?_
              refine aw_iconst (v := 1) dJ6_numberOfTrailingZeros_0f7a4_76 rfl ?_
              refine aw_iushr dJ6_numberOfTrailingZeros_0f7a4_77 ?_
              refine aw_iadd dJ6_numberOfTrailingZeros_0f7a4_78 ?_
              refine aw_iret q rfl dJ6_numberOfTrailingZeros_0f7a4_79 ⟨Nat.le_refl _, Nat.le_refl _⟩ ?_
              exact Pst.iv (by decide)
          · exact absurd (by decide) c52
        · exact absurd (by decide) c38
      · exact absurd (by decide) c23
    · exact absurd (by decide) c9
  | 5, _ =>
    refine aw_iload_n dJ6_numberOfTrailingZeros_0f7a4_8 rfl ?_
    refine aw_if_gt (tgt := 17) dJ6_numberOfTrailingZeros_0f7a4_9 rfl (fun c9 => ?_) (fun c9 => ?_)
    · skip
      refine aw_iconst (v := 1) dJ6_numberOfTrailingZeros_0f7a4_17 rfl ?_
      refine aw_istore_n dJ6_numberOfTrailingZeros_0f7a4_18 (by decide) rfl ?_
      refine aw_iload_n dJ6_numberOfTrailingZeros_0f7a4_19 rfl ?_
      refine aw_ldcw dJ6_numberOfTrailingZeros_0f7a4_20 qJ6_264 ?_
      refine aw_icmp_le (tgt := 34) dJ6_numberOfTrailingZeros_0f7a4_23 rfl (fun c23 => ?_) (fun c23 => ?_)
      · skip
        refine aw_iload_n dJ6_numberOfTrailingZeros_0f7a4_34 rfl ?_
        refine aw_sipush (v := 256) dJ6_numberOfTrailingZeros_0f7a4_35 rfl ?_
        refine aw_icmp_le (tgt := 49) dJ6_numberOfTrailingZeros_0f7a4_38 rfl (fun c38 => ?_) (fun c38 => ?_)
        · skip
          refine aw_iload_n dJ6_numberOfTrailingZeros_0f7a4_49 rfl ?_
          refine aw_bipush (v := 16) dJ6_numberOfTrailingZeros_0f7a4_50 rfl ?_
          refine aw_icmp_le (tgt := 62) dJ6_numberOfTrailingZeros_0f7a4_52 rfl (fun c52 => ?_) (fun c52 => ?_)
          · exact absurd c52 (by decide)
          · skip
            refine aw_iinc dJ6_numberOfTrailingZeros_0f7a4_55 rfl rfl (by decide) rfl ?_
            refine aw_iload_n dJ6_numberOfTrailingZeros_0f7a4_58 rfl ?_
            refine aw_iconst (v := 4) dJ6_numberOfTrailingZeros_0f7a4_59 rfl ?_
            refine aw_iushr dJ6_numberOfTrailingZeros_0f7a4_60 ?_
            refine aw_istore_n dJ6_numberOfTrailingZeros_0f7a4_61 (by decide) rfl ?_
            refine aw_iload_n dJ6_numberOfTrailingZeros_0f7a4_62 rfl ?_
            refine aw_iconst (v := 4) dJ6_numberOfTrailingZeros_0f7a4_63 rfl ?_
            refine aw_icmp_le (tgt := 74) dJ6_numberOfTrailingZeros_0f7a4_64 rfl (fun c64 => ?_) (fun c64 => ?_)
            · skip
              refine aw_iload_n dJ6_numberOfTrailingZeros_0f7a4_74 rfl ?_
              refine aw_iload_n dJ6_numberOfTrailingZeros_0f7a4_75 rfl ?_
              refine aw_iconst (v := 1) dJ6_numberOfTrailingZeros_0f7a4_76 rfl ?_
              refine aw_iushr dJ6_numberOfTrailingZeros_0f7a4_77 ?_
              refine aw_iadd dJ6_numberOfTrailingZeros_0f7a4_78 ?_
              refine aw_iret q rfl dJ6_numberOfTrailingZeros_0f7a4_79 ⟨Nat.le_refl _, Nat.le_refl _⟩ ?_
              exact Pst.iv (by decide)
            · exact absurd (by decide) c64
        · exact absurd (by decide) c38
      · exact absurd (by decide) c23
    · exact absurd (by decide) c9
  | 6, _ =>
    refine aw_iload_n dJ6_numberOfTrailingZeros_0f7a4_8 rfl ?_
    refine aw_if_gt (tgt := 17) dJ6_numberOfTrailingZeros_0f7a4_9 rfl (fun c9 => ?_) (fun c9 => ?_)
    · skip
      refine aw_iconst (v := 1) dJ6_numberOfTrailingZeros_0f7a4_17 rfl ?_
      refine aw_istore_n dJ6_numberOfTrailingZeros_0f7a4_18 (by decide) rfl ?_
      refine aw_iload_n dJ6_numberOfTrailingZeros_0f7a4_19 rfl ?_
      refine aw_ldcw dJ6_numberOfTrailingZeros_0f7a4_20 qJ6_264 ?_
      refine aw_icmp_le (tgt := 34) dJ6_numberOfTrailingZeros_0f7a4_23 rfl (fun c23 => ?_) (fun c23 => ?_)
      · skip
        refine aw_iload_n dJ6_numberOfTrailingZeros_0f7a4_34 rfl ?_
        refine aw_sipush (v := 256) dJ6_numberOfTrailingZeros_0f7a4_35 rfl ?_
        refine aw_icmp_le (tgt := 49) dJ6_numberOfTrailingZeros_0f7a4_38 rfl (fun c38 => ?_) (fun c38 => ?_)
        · skip
          refine aw_iload_n dJ6_numberOfTrailingZeros_0f7a4_49 rfl ?_
          refine aw_bipush (v := 16) dJ6_numberOfTrailingZeros_0f7a4_50 rfl ?_
          refine aw_icmp_le (tgt := 62) dJ6_numberOfTrailingZeros_0f7a4_52 rfl (fun c52 => ?_) (fun c52 => ?_)
          · exact absurd c52 (by decide)
          · skip
            refine aw_iinc dJ6_numberOfTrailingZeros_0f7a4_55 rfl rfl (by decide) rfl ?_
            refine aw_iload_n dJ6_numberOfTrailingZeros_0f7a4_58 rfl ?_
            refine aw_iconst (v := 4) dJ6_numberOfTrailingZeros_0f7a4_59 rfl ?_
            refine aw_iushr dJ6_numberOfTrailingZeros_0f7a4_60 ?_
            refine aw_istore_n dJ6_numberOfTrailingZeros_0f7a4_61 (by decide) rfl ?_
            refine aw_iload_n dJ6_numberOfTrailingZeros_0f7a4_62 rfl ?_
            refine aw_iconst (v := 4) dJ6_numberOfTrailingZeros_0f7a4_63 rfl ?_
            refine aw_icmp_le (tgt := 74) dJ6_numberOfTrailingZeros_0f7a4_64 rfl (fun c64 => ?_) (fun c64 => ?_)
            · skip
              refine aw_iload_n dJ6_numberOfTrailingZeros_0f7a4_74 rfl ?_
              refine aw_iload_n dJ6_numberOfTrailingZeros_0f7a4_75 rfl ?_
              refine aw_iconst (v := 1) dJ6_numberOfTrailingZeros_0f7a4_76 rfl ?_
              refine aw_iushr dJ6_numberOfTrailingZeros_0f7a4_77 ?_
              refine aw_iadd dJ6_numberOfTrailingZeros_0f7a4_78 ?_
              refine aw_iret q rfl dJ6_numberOfTrailingZeros_0f7a4_79 ⟨Nat.le_refl _, Nat.le_refl _⟩ ?_
              exact Pst.iv (by decide)
            · exact absurd (by decide) c64
        · exact absurd (by decide) c38
      · exact absurd (by decide) c23
    · exact absurd (by decide) c9
  | 7, _ =>
    refine aw_iload_n dJ6_numberOfTrailingZeros_0f7a4_8 rfl ?_
    refine aw_if_gt (tgt := 17) dJ6_numberOfTrailingZeros_0f7a4_9 rfl (fun c9 => ?_) (fun c9 => ?_)
    · skip
      refine aw_iconst (v := 1) dJ6_numberOfTrailingZeros_0f7a4_17 rfl ?_
      refine aw_istore_n dJ6_numberOfTrailingZeros_0f7a4_18 (by decide) rfl ?_
      refine aw_iload_n dJ6_numberOfTrailingZeros_0f7a4_19 rfl ?_
      refine aw_ldcw dJ6_numberOfTrailingZeros_0f7a4_20 qJ6_264 ?_
      refine aw_icmp_le (tgt := 34) dJ6_numberOfTrailingZeros_0f7a4_23 rfl (fun c23 => ?_) (fun c23 => ?_)
      · skip
        refine aw_iload_n dJ6_numberOfTrailingZeros_0f7a4_34 rfl ?_
        refine aw_sipush (v := 256) dJ6_numberOfTrailingZeros_0f7a4_35 rfl ?_
        refine aw_icmp_le (tgt := 49) dJ6_numberOfTrailingZeros_0f7a4_38 rfl (fun c38 => ?_) (fun c38 => ?_)
        · skip
          refine aw_iload_n dJ6_numberOfTrailingZeros_0f7a4_49 rfl ?_
          refine aw_bipush (v := 16) dJ6_numberOfTrailingZeros_0f7a4_50 rfl ?_
          refine aw_icmp_le (tgt := 62) dJ6_numberOfTrailingZeros_0f7a4_52 rfl (fun c52 => ?_) (fun c52 => ?_)
          · exact absurd c52 (by decide)
          · skip
            refine aw_iinc dJ6_numberOfTrailingZeros_0f7a4_55 rfl rfl (by decide) rfl ?_
            refine aw_iload_n dJ6_numberOfTrailingZeros_0f7a4_58 rfl ?_
            refine aw_iconst (v := 4) dJ6_numberOfTrailingZeros_0f7a4_59 rfl ?_
            refine aw_iushr dJ6_numberOfTrailingZeros_0f7a4_60 ?_
            refine aw_istore_n dJ6_numberOfTrailingZeros_0f7a4_61 (by decide) rfl ?_
            refine aw_iload_n dJ6_numberOfTrailingZeros_0f7a4_62 rfl ?_
            refine aw_iconst (v := 4) dJ6_numberOfTrailingZeros_0f7a4_63 rfl ?_
            refine aw_icmp_le (tgt := 74) dJ6_numberOfTrailingZeros_0f7a4_64 rfl (fun c64 => ?_) (fun c64 => ?_)
            · exact absurd c64 (by decide)
            · skip
              refine aw_iinc dJ6_numberOfTrailingZeros_0f7a4_67 rfl rfl (by decide) rfl ?_
              refine aw_iload_n dJ6_numberOfTrailingZeros_0f7a4_70 rfl ?_
              refine aw_iconst (v := 2) dJ6_numberOfTrailingZeros_0f7a4_71 rfl ?_
              refine aw_iushr dJ6_numberOfTrailingZeros_0f7a4_72 ?_
              refine aw_istore_n dJ6_numberOfTrailingZeros_0f7a4_73 (by decide) rfl ?_
              refine aw_iload_n dJ6_numberOfTrailingZeros_0f7a4_74 rfl ?_
              refine aw_iload_n dJ6_numberOfTrailingZeros_0f7a4_75 rfl ?_
              refine aw_iconst (v := 1) dJ6_numberOfTrailingZeros_0f7a4_76 rfl ?_
              refine aw_iushr dJ6_numberOfTrailingZeros_0f7a4_77 ?_
              refine aw_iadd dJ6_numberOfTrailingZeros_0f7a4_78 ?_
              refine aw_iret q rfl dJ6_numberOfTrailingZeros_0f7a4_79 ⟨Nat.le_refl _, Nat.le_refl _⟩ ?_
              exact Pst.iv (by decide)
        · exact absurd (by decide) c38
      · exact absurd (by decide) c23
    · exact absurd (by decide) c9
set_option maxHeartbeats 4000000 in
set_option maxRecDepth 100000 in
theorem rX11_looksAt (hM : IsM n sh m) {N : Nat → Int32} (hI : I (m + 1) = N) (hN : Cn N) (hC : Co N) {v : Nat} (hL : Liv N v) {x y : Int32} {p : Nat} (hx : x = nI p) (hp : p < 8) (hv : v.testBit p = true) (hy : y = nI v) : CM yX11_looksAt cX11_looksAt 6 (Option.some .int) 4 0 0 [.ref m, .int x, .int y] z n sh I L (Pst (some (.int (nI (lkH N v p)))) z n sh I L) := by
  refine CM.go [some (.ref m), some (.int x), some (.int y), none, none, none] rfl rfl (Nat.le_of_ble_eq_true rfl) (fun X g q => ?_)
  have h8 := hN.p8
  have h10 := hN.h10
  obtain ⟨hpn, hho⟩ := hL.2 p hp hv
  have hw6 := hN.w6 hp
  have loop : ∀ i, i ≤ nWi N p → ∀ a4 a5, fa_first (fun k => lkW N v p (wiN N p k)) i = i → AW X g RX11 cX11_looksAt 6 (4, 0, 0) (z, n, sh, 0, 0) (I) (L) 2 [some (.ref m), some (.int x), some (.int y), some (.int (nI i)), a4, a5] [] := by
    refine up_loop (fun i hi ih a4 a5 hfi => ?_)
    refine aw_iload_n dX11_looksAt_2 rfl ?_
    refine aw_aload_n dX11_looksAt_3 rfl ?_
    refine aw_iload_n dX11_looksAt_4 rfl ?_
    refine aw_bipush (v := 11) dX11_looksAt_5 rfl ?_
    refine aw_cV dX11_looksAt_7 kX11_205 mX11_of (rX11_of (p := p) (w := 11) hM hI hx rfl (by omega)) (Nat.le_of_ble_eq_true rfl) hM.k ⟨by decide, rfl⟩ hM.b rfl rfl (Nat.le_of_ble_eq_true rfl) ⟨Nat.le_refl _, Nat.le_refl _⟩ ?_
    refine aw_icmp_ge (tgt := 68) dX11_looksAt_10 rfl (fun c10 => ?_) (fun c10 => ?_)
    · have e := ge_t (hN.w hp) (by omega) hi c10
      subst e
      refine aw_aload_n dX11_looksAt_68 rfl ?_
      refine aw_iload_n dX11_looksAt_69 rfl ?_
      refine aw_iconst (v := 4) dX11_looksAt_70 rfl ?_
      refine aw_cV dX11_looksAt_71 kX11_205 mX11_of (rX11_of (p := p) (w := 4) hM hI hx rfl (by omega)) (Nat.le_of_ble_eq_true rfl) hM.k ⟨by decide, rfl⟩ hM.b rfl rfl (Nat.le_of_ble_eq_true rfl) ⟨Nat.le_refl _, Nat.le_refl _⟩ ?_
      refine aw_iret q rfl dX11_looksAt_74 ⟨Nat.le_refl _, Nat.le_refl _⟩ ?_
      refine Pst.iv ?_
      have e9 : lkK N v p = nWi N p := hfi
      obtain ⟨h, h1, h2, h3⟩ := (hC.1 p hpn).resolve_left hho
      unfold lkH nHm
      rw [e9, if_neg (Nat.lt_irrefl _), h2, nI_clamp (by omega)]
    · have hlt := ge_f (hN.w hp) (by omega) hi c10
      obtain ⟨h, h1, h2⟩ := hC.2.2 p hpn i hlt
      have ew : wiN N p i = h := by
        unfold wiN
        rw [h2]
        exact nI_clamp (by omega)
      refine aw_aload_n dX11_looksAt_13 rfl ?_
      refine aw_iload_n dX11_looksAt_14 rfl ?_
      refine aw_bipush (v := 12) dX11_looksAt_15 rfl ?_
      refine aw_iload_n dX11_looksAt_17 rfl ?_
      refine aw_iadd dX11_looksAt_18 ?_
      refine AW.top (gadd rfl rfl) ?_
      refine aw_cV dX11_looksAt_19 kX11_205 mX11_of (rX11_of (p := p) (w := 12 + i) hM hI hx rfl (by omega)) (Nat.le_of_ble_eq_true rfl) hM.k ⟨by decide, rfl⟩ hM.b rfl rfl (Nat.le_of_ble_eq_true rfl) ⟨Nat.le_refl _, Nat.le_refl _⟩ ?_
      refine AW.top h2 ?_
      refine aw_istore dX11_looksAt_22 (by decide) rfl ?_
      refine aw_aload_n dX11_looksAt_24 rfl ?_
      refine aw_iload dX11_looksAt_25 rfl ?_
      refine aw_iconst (v := 2) dX11_looksAt_27 rfl ?_
      refine aw_cV dX11_looksAt_28 kX11_202 mX11_home0 (rX11_home0 (h := h) (w := 2) hM hI rfl rfl (by omega)) (Nat.le_of_ble_eq_true rfl) hM.k ⟨by decide, rfl⟩ hM.b rfl rfl (Nat.le_of_ble_eq_true rfl) ⟨Nat.le_refl _, Nat.le_refl _⟩ ?_
      refine aw_istore dX11_looksAt_31 (by decide) rfl ?_
      refine aw_iload dX11_looksAt_33 rfl ?_
      refine aw_iconst (v := (-1)) dX11_looksAt_35 rfl ?_
      refine aw_icmp_eq (tgt := 62) dX11_looksAt_36 rfl (fun c36 => ?_) (fun c36 => ?_)
      · skip
        refine aw_iinc dX11_looksAt_62 rfl (ginc rfl) (by decide) rfl ?_
        refine aw_goto (tgt := 2) dX11_looksAt_65 rfl ?_
        exact ih hlt _ _ (fa_first_no1 hfi (by
          show ¬ lkW N v p (wiN N p i) = true
          rw [ew]
          unfold lkW
          simp [c36]))
      · obtain ⟨r, r1, r2, r3⟩ := (hC.2.1 h h1).resolve_left c36
        have er : (N (8 * h + 2)).toNatClampNeg = r := by
          rw [r2]
          exact nI_clamp (by omega)
        refine aw_iload_n dX11_looksAt_39 rfl ?_
        refine aw_iload dX11_looksAt_40 rfl ?_
        refine aw_ishr dX11_looksAt_42 ?_
        refine aw_iconst (v := 1) dX11_looksAt_43 rfl ?_
        refine aw_iand dX11_looksAt_44 ?_
        refine aw_iconst (v := 1) dX11_looksAt_45 rfl ?_
        refine aw_icmp_ne (tgt := 62) dX11_looksAt_46 rfl (fun c46 => ?_) (fun c46 => ?_)
        · have b9 : v.testBit r = false := by
            have := bt_f (x := nI v) (i := r) (by rw [← hy, ← r2]; exact c46)
            rw [(bit_all v (by have := hL.1; omega) r (by omega)).1] at this
            exact this
          refine aw_iinc dX11_looksAt_62 rfl (ginc rfl) (by decide) rfl ?_
          refine aw_goto (tgt := 2) dX11_looksAt_65 rfl ?_
          exact ih hlt _ _ (fa_first_no1 hfi (by
            show ¬ lkW N v p (wiN N p i) = true
            rw [ew]
            unfold lkW
            rw [er, b9]
            simp))
        · have b9 : v.testBit r = true := by
            have := bt_t (x := nI v) (i := r) (by rw [← hy, ← r2]; exact c46)
            rw [(bit_all v (by have := hL.1; omega) r (by omega)).1] at this
            exact this
          refine aw_aload_n dX11_looksAt_49 rfl ?_
          refine aw_iload_n dX11_looksAt_50 rfl ?_
          refine aw_iload dX11_looksAt_51 rfl ?_
          refine aw_cV dX11_looksAt_53 kX11_250 mX11_doesFit (rX11_doesFit (p := p) (h := h) hM hI hx rfl (by omega) (by omega)) (Nat.le_of_ble_eq_true rfl) hM.k ⟨by decide, rfl⟩ hM.b rfl rfl (Nat.le_of_ble_eq_true rfl) ⟨Nat.le_refl _, Nat.le_refl _⟩ ?_
          refine aw_if_eq (tgt := 62) dX11_looksAt_56 rfl (fun c56 => ?_) (fun c56 => ?_)
          · have f9 := bI0.mp c56
            refine aw_iinc dX11_looksAt_62 rfl (ginc rfl) (by decide) rfl ?_
            refine aw_goto (tgt := 2) dX11_looksAt_65 rfl ?_
            exact ih hlt _ _ (fa_first_no1 hfi (by
              show ¬ lkW N v p (wiN N p i) = true
              rw [ew]
              unfold lkW
              rw [f9]
              simp))
          · have f9 := bI1.mp c56
            refine aw_iload dX11_looksAt_59 rfl ?_
            refine aw_iret q rfl dX11_looksAt_61 ⟨Nat.le_refl _, Nat.le_refl _⟩ ?_
            refine Pst.iv ?_
            have e9 : lkK N v p = i := fa_first_yes1 hfi (by show lkW N v p (wiN N p i) = true; rw [ew]; unfold lkW; rw [er, b9, f9]; simp [c36]) hlt
            unfold lkH
            rw [e9, if_pos hlt, ew]
  refine aw_iconst (v := 0) dX11_looksAt_0 rfl ?_
  refine aw_istore_n dX11_looksAt_1 (by decide) rfl ?_
  exact loop 0 (Nat.zero_le _) none none rfl
/-- what trades change of the reference's store -/
def TrF (m : Nat) (I J : MI) : Prop := (∀ a, a ≠ m → a ≠ m + 9 → J a = I a) ∧ ∀ k, k ≠ 24 → k ≠ 25 → J m k = I m k
theorem TrF.rsc {m : Nat} {I J : MI} (h : TrF m I J) : RSc m I J := ⟨fun a a1 a2 a3 => h.1 a a1 (by omega), fun k k1 k2 _ => h.2 k k1 k2⟩
theorem TrF.put {m k : Nat} {I J : MI} {v : Int32} (h : TrF m I J) (hk : k = 24 ∨ k = 25) : TrF m I (upI J m k v) := ⟨fun a a1 a2 => (if_neg a1).trans (h.1 a a1 a2), fun j j1 j2 => fI_n (by omega) (h.2 j j1 j2)⟩
theorem TrF.row {m k : Nat} {I J : MI} {v : Int32} (h : TrF m I J) : TrF m I (upI J (m + 9) k v) := ⟨fun a a1 a2 => (if_neg a2).trans (h.1 a a1 a2), fun j j1 j2 => (congrFun (if_neg (by omega)) j).trans (h.2 j j1 j2)⟩
/-- the store holds what came of the trades so far -/
def TrS (m : Nat) (J : MI) (v0 : Nat) (t : TSt) : Prop := J m 24 = nI t.2.2.1 ∧ J m 25 = nI t.2.2.2 ∧ ∀ p, p < 8 → v0.testBit p = true → t.1.testBit p = false → J (m + 9) p = nI (t.2.1 p)
def TrP (z n : Nat) (sh : Shp) (I : MI) (L : ML) (m : Nat) (N : Nat → Int32) : PoT := fun v z' n' sh' J M => v = none ∧ z' = z ∧ n' = n ∧ sh' = sh ∧ L = M ∧ TrF m I J ∧ J m 24 = nI (tEnd N).2.2.1 ∧ J m 25 = nI (tEnd N).2.2.2 ∧ ∀ p, p < nPo N → ¬ N (80 + 18 * p + 4) = -1 → J (m + 9) p = nI ((tEnd N).2.1 p)
theorem pcn_le8 {v : Nat} (h : v < 256) : pcn v ≤ 8 := pcn_8 v h
theorem pcn_sd : ∀ v, v < 256 → ∀ p, p < 8 → v.testBit p = true → ∀ c, c < 256 → c.testBit p = true → True := fun _ _ _ _ _ _ _ _ => trivial
theorem pcn_less {v w : Nat} (hv : v < 256) (hw : w < 256) (hs : ∀ i, i < 8 → w.testBit i = true → v.testBit i = true) {p : Nat} (hp : p < 8) (h1 : v.testBit p = true) (h2 : w.testBit p = false) : pcn w < pcn v := by
  have big : ∀ (u : Nat), u < 256 → ∀ i, 8 ≤ i → u.testBit i = false := fun u hu i hi => Nat.testBit_lt_two_pow (Nat.lt_of_lt_of_le hu (Nat.pow_le_pow_right (n := 2) (i := 8) (by decide) hi))
  have hle : fa_cnt (fun j => w.testBit j) 10 ≤ fa_cnt (fun j => v.testBit j && !decide (j = p)) 10 := fa_cnt_mono (fun k hk hb => by
    by_cases h8 : k < 8
    · have h3 := hs k h8 hb
      have h4 : ¬ k = p := fun e => by
        rw [e, h2] at hb
        cases hb
      simp [h3, h4]
    · rw [big w hw k (by omega)] at hb
      cases hb)
  have hpl := fa_cnt_plus (P := fun j => v.testBit j && !decide (j = p)) (Q := fun j => v.testBit j) (p := p) (by simp) h1 (fun q hq => by simp [hq]) 10
  unfold pcn
  rw [hpl, if_pos (by omega)]
  omega
set_option maxHeartbeats 4000000 in
set_option maxRecDepth 100000 in
theorem rX11_laysTrades (hM : IsM n sh m) {N : Nat → Int32} (hI : I (m + 1) = N) (hN : Cn N) (hC : Co N) : CM yX11_laysTrades cX11_laysTrades 4 (Option.none : Option FieldType) 5 0 0 [.ref m] z n sh I L (TrP z n sh I L m N) := by
  refine CM.go [some (.ref m), none, none, none] rfl rfl (Nat.le_of_ble_eq_true rfl) (fun X g q => ?_)
  have h8 := hN.p8
  have h10 := hN.h10
  have ce : ∀ (v c : Nat) (t : TSt) (J : MI) a2, c = tcir N v → c < 256 → Liv N v → t.1 = v → TrF m I J → J m 24 = nI t.2.2.1 → J m 25 = nI t.2.2.2 → t.2.2.1 ≤ 8 → t.2.2.2 ≤ 8 → (∀ (K : MI) a2 a3, TrF m I K → K m 24 = nI (tRound N t).2.2.1 → K m 25 = nI (tRound N t).2.2.2 → K (m + 9) = J (m + 9) → AW X g RX11 cX11_laysTrades 4 (5, 0, 0) (z, n, sh, 0, 0) (K) (L) 52 [some (.ref m), some (.int (nI (sdiff v c))), a2, a3] []) → AW X g RX11 cX11_laysTrades 4 (5, 0, 0) (z, n, sh, 0, 0) (J) (L) 130 [some (.ref m), some (.int (nI v)), a2, some (.int (nI c))] [] := by
    intro v c t J a2 ec hc hL hv hF h24 h25 l24 l25 nxt
    have hp := pcn_le8 hc
    have e1 : (tRound N t).2.2.1 = t.2.2.1 + (if 1 < pcn c then 1 else 0) := by
      unfold tRound
      rw [hv, ← ec]
    have e2 : (tRound N t).2.2.2 = max t.2.2.2 (pcn c) := by
      unfold tRound
      rw [hv, ← ec]
    refine aw_aload_n dX11_laysTrades_130 rfl ?_
    refine aw_dup dX11_laysTrades_131 rfl ?_
    refine aw_getI dX11_laysTrades_132 fX11_366 hM.k hM.b rfl ?_
    refine aw_iload_n dX11_laysTrades_135 rfl ?_
    refine aw_cS dX11_laysTrades_136 kX11_222 mX11_bits (sX11_bits (v := c) rfl (by omega)) (Nat.le_of_ble_eq_true rfl) rfl rfl (Nat.le_of_ble_eq_true rfl) ⟨Nat.le_refl _, Nat.le_refl _⟩ ?_
    refine aw_iconst (v := 1) dX11_laysTrades_139 rfl ?_
    refine aw_icmp_le (tgt := 147) dX11_laysTrades_140 rfl (fun c140 => ?_) (fun c140 => ?_)
    · have d9 : ¬ 1 < pcn c := by
        have := (nI_leI (b := 1) (by omega) (by decide)).mp c140
        omega
      refine aw_iconst (v := 0) dX11_laysTrades_147 rfl ?_
      refine aw_iadd dX11_laysTrades_148 ?_
      refine aw_putI dX11_laysTrades_149 fX11_366 hM.k hM.b rfl rfl ?_
      refine aw_aload_n dX11_laysTrades_152 rfl ?_
      refine aw_aload_n dX11_laysTrades_153 rfl ?_
      refine aw_getI dX11_laysTrades_154 fX11_369 hM.k hM.b rfl ?_
      refine aw_iload_n dX11_laysTrades_157 rfl ?_
      refine aw_cS dX11_laysTrades_158 kX11_222 mX11_bits (sX11_bits (v := c) rfl (by omega)) (Nat.le_of_ble_eq_true rfl) rfl rfl (Nat.le_of_ble_eq_true rfl) ⟨Nat.le_refl _, Nat.le_refl _⟩ ?_
      refine aw_mmax dX11_laysTrades_161 kX11_211 (Nat.le_of_ble_eq_true rfl) (Nat.le_of_ble_eq_true rfl) ⟨Nat.le_refl _, Nat.le_refl _⟩ ?_
      refine aw_putI dX11_laysTrades_164 fX11_369 hM.k hM.b rfl rfl ?_
      refine aw_iload_n dX11_laysTrades_167 rfl ?_
      refine aw_iload_n dX11_laysTrades_168 rfl ?_
      refine aw_iconst (v := (-1)) dX11_laysTrades_169 rfl ?_
      refine aw_ixor dX11_laysTrades_170 ?_
      refine aw_iand dX11_laysTrades_171 ?_
      refine AW.top (sdiff_n v c) ?_
      refine aw_istore_n dX11_laysTrades_172 (by decide) rfl ?_
      refine aw_goto (tgt := 52) dX11_laysTrades_173 rfl ?_
      refine nxt _ _ _ ((hF.put (Or.inl rfl)).put (Or.inr rfl)) (fI_n (by decide) (fI_s.trans ?_)) (fI_s.trans ?_) ((if_neg (by omega)).trans (if_neg (by omega)))
      · rw [e1]
        rw [h24, if_neg d9]
        exact Int32.add_zero _
      · rw [fI_n (by decide) h25, e2]
        exact imax_nn (by omega) (by omega)
    · have d9 : 1 < pcn c := by
        have := mt (nI_leI (a := pcn c) (b := 1) (by omega) (by decide)).mpr c140
        omega
      refine aw_iconst (v := 1) dX11_laysTrades_143 rfl ?_
      refine aw_goto (tgt := 148) dX11_laysTrades_144 rfl ?_
      refine aw_iadd dX11_laysTrades_148 ?_
      refine aw_putI dX11_laysTrades_149 fX11_366 hM.k hM.b rfl rfl ?_
      refine aw_aload_n dX11_laysTrades_152 rfl ?_
      refine aw_aload_n dX11_laysTrades_153 rfl ?_
      refine aw_getI dX11_laysTrades_154 fX11_369 hM.k hM.b rfl ?_
      refine aw_iload_n dX11_laysTrades_157 rfl ?_
      refine aw_cS dX11_laysTrades_158 kX11_222 mX11_bits (sX11_bits (v := c) rfl (by omega)) (Nat.le_of_ble_eq_true rfl) rfl rfl (Nat.le_of_ble_eq_true rfl) ⟨Nat.le_refl _, Nat.le_refl _⟩ ?_
      refine aw_mmax dX11_laysTrades_161 kX11_211 (Nat.le_of_ble_eq_true rfl) (Nat.le_of_ble_eq_true rfl) ⟨Nat.le_refl _, Nat.le_refl _⟩ ?_
      refine aw_putI dX11_laysTrades_164 fX11_369 hM.k hM.b rfl rfl ?_
      refine aw_iload_n dX11_laysTrades_167 rfl ?_
      refine aw_iload_n dX11_laysTrades_168 rfl ?_
      refine aw_iconst (v := (-1)) dX11_laysTrades_169 rfl ?_
      refine aw_ixor dX11_laysTrades_170 ?_
      refine aw_iand dX11_laysTrades_171 ?_
      refine AW.top (sdiff_n v c) ?_
      refine aw_istore_n dX11_laysTrades_172 (by decide) rfl ?_
      refine aw_goto (tgt := 52) dX11_laysTrades_173 rfl ?_
      refine nxt _ _ _ ((hF.put (Or.inl rfl)).put (Or.inr rfl)) (fI_n (by decide) (fI_s.trans ?_)) (fI_s.trans ?_) ((if_neg (by omega)).trans (if_neg (by omega)))
      · rw [e1]
        rw [h24, if_pos d9]
        exact nI_1 _
      · rw [fI_n (by decide) h25, e2]
        exact imax_nn (by omega) (by omega)
  have cl : ∀ (v : Nat) (t : TSt) (J0 : MI), Liv N v → t.1 = v → t.2.2.1 ≤ 8 → t.2.2.2 ≤ 8 → (∀ (K : MI) a2 a3, TrF m I K → K m 24 = nI (tRound N t).2.2.1 → K m 25 = nI (tRound N t).2.2.2 → (∀ p, p < 8 → (tcir N v).testBit p = true → K (m + 9) p = nI (lkH N v p)) → (∀ p, p < 8 → (tcir N v).testBit p = false → K (m + 9) p = J0 (m + 9) p) → AW X g RX11 cX11_laysTrades 4 (5, 0, 0) (z, n, sh, 0, 0) (K) (L) 52 [some (.ref m), some (.int (nI (sdiff v (tcir N v)))), a2, a3] []) → ∀ d c p (J : MI), cir N v d c p = tcir N v → p < 8 → v.testBit p = true → 9 ≤ d + pcn c → (c < 256 ∧ ∀ i, i < 8 → c.testBit i = true → v.testBit i = true) → TrF m I J → J m 24 = nI t.2.2.1 → J m 25 = nI t.2.2.2 → (∀ r, r < 8 → c.testBit r = true → J (m + 9) r = nI (lkH N v r)) → (∀ r, r < 8 → c.testBit r = false → J (m + 9) r = J0 (m + 9) r) → AW X g RX11 cX11_laysTrades 4 (5, 0, 0) (z, n, sh, 0, 0) (J) (L) 89 [some (.ref m), some (.int (nI v)), some (.int (nI p)), some (.int (nI c))] [] := by
    intro v t J0 hL hvt l24 l25 nxt d
    induction d with
    | zero =>
      intro c p J hcir hp hvp hd hc hF h24 h25 hrow hold
      have := pcn_le8 hc.1
      omega
    | succ d ih =>
      intro c p J hcir hp hvp hd hc hF h24 h25 hrow hold
      have hI3 : J (m + 1) = N := (hF.1 _ (by omega) (by omega)).trans hI
      have hk := lkH_ok hC hN hL hp hvp
      have hb := (bit_all c (by have := hc.1; omega) p (by omega)).2.1
      refine aw_iload_n dX11_laysTrades_89 rfl ?_
      refine aw_iload_n dX11_laysTrades_90 rfl ?_
      refine aw_ishr dX11_laysTrades_91 ?_
      refine aw_iconst (v := 1) dX11_laysTrades_92 rfl ?_
      refine aw_iand dX11_laysTrades_93 ?_
      refine aw_if_ne (tgt := 130) dX11_laysTrades_94 rfl (fun c94 => ?_) (fun c94 => ?_)
      · have t9 : c.testBit p = true := by
          cases tt : c.testBit p with
          | true => rfl
          | false => exact absurd (hb.mpr tt) c94
        have ec : c = tcir N v := by
          rw [← hcir]
          exact (if_pos t9).symm
        refine ce v c t J _ ec hc.1 hL hvt hF h24 h25 l24 l25 (fun K a2 a3 k1 k2 k3 k4 => ?_)
        subst ec
        refine nxt K a2 a3 k1 k2 k3 (fun r hr hrb => ?_) (fun r hr hrb => ?_)
        · rw [k4]
          exact hrow r hr hrb
        · rw [k4]
          exact hold r hr hrb
      · have t9 := hb.mp c94
        have o1 := (gv_or c (by have := hc.1; omega) p (by omega) t9).1
        have ba := bit_add c hc.1 p hp t9
        have ecir : cir N v d (c + 2 ^ p) (tnx N v p) = tcir N v := by
          rw [← hcir]
          exact (if_neg (by rw [t9]; exact Bool.false_ne_true)).symm
        refine aw_iload_n dX11_laysTrades_97 rfl ?_
        refine aw_iconst (v := 1) dX11_laysTrades_98 rfl ?_
        refine aw_iload_n dX11_laysTrades_99 rfl ?_
        refine aw_ishl dX11_laysTrades_100 ?_
        refine aw_ior dX11_laysTrades_101 ?_
        refine AW.top o1 ?_
        refine aw_istore_n dX11_laysTrades_102 (by decide) rfl ?_
        refine aw_aload_n dX11_laysTrades_103 rfl ?_
        refine aw_getR (b := m + 9) dX11_laysTrades_104 fX11_42 hM.k hM.b rfl hM.r8 ?_
        refine aw_iload_n dX11_laysTrades_107 rfl ?_
        refine aw_aload_n dX11_laysTrades_108 rfl ?_
        refine aw_iload_n dX11_laysTrades_109 rfl ?_
        refine aw_iload_n dX11_laysTrades_110 rfl ?_
        refine aw_cV dX11_laysTrades_111 kX11_377 mX11_looksAt (rX11_looksAt (p := p) hM hI3 hN hC hL rfl hp hvp rfl) (Nat.le_of_ble_eq_true rfl) hM.k ⟨by decide, rfl⟩ hM.b rfl rfl (Nat.le_of_ble_eq_true rfl) ⟨Nat.le_refl _, Nat.le_refl _⟩ ?_
        refine aw_iastN (k := p) dX11_laysTrades_114 hM.k8 hM.b8 hM.l8 rfl (by omega) (by decide) ?_
        refine aw_aload_n dX11_laysTrades_115 rfl ?_
        refine aw_aload_n dX11_laysTrades_116 rfl ?_
        refine aw_getR (b := m + 9) dX11_laysTrades_117 fX11_42 hM.k hM.b rfl hM.r8 ?_
        refine aw_iload_n dX11_laysTrades_120 rfl ?_
        refine aw_ialdN (k := p) dX11_laysTrades_121 hM.k8 hM.b8 hM.l8 rfl (by omega) (by decide) ?_
        refine AW.top (y := nI (lkH N v p)) (by rw [upI_row rfl]; exact pk_us) ?_
        refine aw_iconst (v := 2) dX11_laysTrades_122 rfl ?_
        refine aw_cV dX11_laysTrades_123 kX11_202 mX11_home0 (rX11_home0 (h := lkH N v p) (w := 2) hM ((if_neg (by omega)).trans hI3) rfl rfl (by omega)) (Nat.le_of_ble_eq_true rfl) hM.k ⟨by decide, rfl⟩ hM.b rfl rfl (Nat.le_of_ble_eq_true rfl) ⟨Nat.le_refl _, Nat.le_refl _⟩ ?_
        refine AW.top hk.2.2.2 ?_
        refine aw_istore_n dX11_laysTrades_126 (by decide) rfl ?_
        refine aw_goto (tgt := 89) dX11_laysTrades_127 rfl ?_
        have hpc : pcn (c + 2 ^ p) = pcn c + 1 := by
          have q := (bit_all (c + 2 ^ p) (by have := ba.1; omega) p (by omega)).2.2 (by rw [ba.2 p hp]; simp)
          rw [Nat.add_sub_cancel] at q
          omega
        refine ih (c + 2 ^ p) (tnx N v p) _ ecir hk.2.1 hk.2.2.1 (by omega) ⟨ba.1, fun i hi hib => ?_⟩ hF.row ((congrFun (if_neg (by omega)) _).trans h24) ((congrFun (if_neg (by omega)) _).trans h25) (fun r hr hrb => ?_) (fun r hr hrb => ?_)
        · rw [ba.2 i hi] at hib
          simp at hib
          rcases hib with hib | hib
          · exact hc.2 i hi hib
          · rw [hib]
            exact hvp
        · rw [upI_row rfl]
          by_cases e : r = p
          · rw [e]
            exact pk_us
          · rw [pk_un e]
            rw [ba.2 r hr] at hrb
            simp [e] at hrb
            exact hrow r hr hrb
        · rw [ba.2 r hr] at hrb
          simp at hrb
          rw [upI_row rfl, pk_un hrb.2]
          exact hold r hr hrb.1
  have rd : ∀ d (t : TSt) (J : MI) a2 a3, pcn t.1 ≤ d → tAll N d t = tEnd N → Liv N t.1 → t.2.2.1 + d ≤ 8 → t.2.2.2 ≤ 8 → TrF m I J → TrS m J (livS N) t → AW X g RX11 cX11_laysTrades 4 (5, 0, 0) (z, n, sh, 0, 0) (J) (L) 52 [some (.ref m), some (.int (nI t.1)), a2, a3] [] := by
    intro d
    induction d with
    | zero =>
      intro t J a2 a3 hd hE hL h1 h2 hF hS
      have h0 : t.1 = 0 := pcn_0 (by have := hL.1; omega) (by omega)
      rw [h0]
      refine aw_iload_n dX11_laysTrades_52 rfl ?_
      refine aw_if_eq (tgt := 176) dX11_laysTrades_53 rfl (fun c53 => ?_) (fun c53 => ?_)
      · skip
        refine aw_vret q rfl dX11_laysTrades_176 ⟨Nat.le_refl _, Nat.le_refl _⟩ ?_
        have h0 : t.1 = 0 := h0
        have et : tEnd N = t := hE.symm
        refine ⟨rfl, rfl, rfl, rfl, rfl, hF, ?_, ?_, fun p hp hh => ?_⟩
        · rw [et]
          exact hS.1
        · rw [et]
          exact hS.2.1
        · rw [et]
          refine hS.2.2 p (by omega) ?_ (by rw [h0]; exact Nat.zero_testBit _)
          unfold livS
          rw [nset_bit _ _ (by omega) p (by omega)]
          simp [hp, hh]
      · exact absurd rfl c53
    | succ d ih =>
      intro t J a2 a3 hd hE hL h1 h2 hF hS
      have hI3 : J (m + 1) = N := (hF.1 _ (by omega) (by omega)).trans hI
      refine aw_iload_n dX11_laysTrades_52 rfl ?_
      refine aw_if_eq (tgt := 176) dX11_laysTrades_53 rfl (fun c53 => ?_) (fun c53 => ?_)
      · have hz : t.1 = 0 := (nI_eq (b := 0) (by have := hL.1; omega) (by decide)).mp c53
        refine aw_vret q rfl dX11_laysTrades_176 ⟨Nat.le_refl _, Nat.le_refl _⟩ ?_
        have h0 : t.1 = 0 := hz
        have et : tEnd N = t := hE.symm.trans (if_pos hz)
        refine ⟨rfl, rfl, rfl, rfl, rfl, hF, ?_, ?_, fun p hp hh => ?_⟩
        · rw [et]
          exact hS.1
        · rw [et]
          exact hS.2.1
        · rw [et]
          refine hS.2.2 p (by omega) ?_ (by rw [h0]; exact Nat.zero_testBit _)
          unfold livS
          rw [nset_bit _ _ (by omega) p (by omega)]
          simp [hp, hh]
      · have hz : ¬ t.1 = 0 := mt (nI_eq (b := 0) (by have := hL.1; omega) (by decide)).mpr c53
        have hct := ctz_all t.1 hL.1 hz
        have hE : tAll N d (tRound N t) = tEnd N := by
          rw [← hE]
          exact (if_neg hz).symm
        refine aw_iload_n dX11_laysTrades_56 rfl ?_
        refine aw_cS dX11_laysTrades_57 kX11_372 mJ6_numberOfTrailingZeros_0f7a4 (sJ6_ntz (v := t.1) rfl hL.1 hz) (Nat.le_of_ble_eq_true rfl) rfl rfl (Nat.le_of_ble_eq_true rfl) ⟨Nat.le_refl _, Nat.le_refl _⟩ ?_
        refine aw_istore_n dX11_laysTrades_60 (by decide) rfl ?_
        refine aw_iconst (v := 0) dX11_laysTrades_61 rfl ?_
        refine aw_istore_n dX11_laysTrades_62 (by decide) rfl ?_
        have go8 : ∀ k, k ≤ 8 → AW X g RX11 cX11_laysTrades 4 (5, 0, 0) (z, n, sh, 0, 0) (J) (L) 63 [some (.ref m), some (.int (nI t.1)), some (.int (nI (itr (tnx N t.1) k (ctz t.1)))), some (.int (nI k))] [] := by
          refine up_loop (fun k hk ihk => ?_)
          have hit := itr_in hC hN hL k (ctz t.1) hct.1 hct.2.1
          have hok := lkH_ok hC hN hL hit.1 hit.2
          refine aw_iload_n dX11_laysTrades_63 rfl ?_
          refine aw_bipush (v := 8) dX11_laysTrades_64 rfl ?_
          refine aw_icmp_ge (tgt := 87) dX11_laysTrades_66 rfl (fun c66 => ?_) (fun c66 => ?_)
          · have e := ge_t (B := 8) rfl (by decide) hk c66
            subst e
            refine aw_iconst (v := 0) dX11_laysTrades_87 rfl ?_
            refine aw_istore_n dX11_laysTrades_88 (by decide) rfl ?_
            have tc := tcir_ok hC hN hL hz
            refine cl t.1 t J hL rfl (by omega) h2 (fun K b2 b3 k1 k2 k3 k4 k5 => ?_) 9 0 _ J rfl hit.1 hit.2 (by omega) ⟨by decide, fun i _ hib => by rw [Nat.zero_testBit] at hib; cases hib⟩ hF hS.1 hS.2.1 (fun r _ hrb => by rw [Nat.zero_testBit] at hrb; cases hrb) (fun r _ _ => rfl)
            obtain ⟨b, hb8, hbb⟩ := tc.2
            have hlt2 : pcn (sdiff t.1 (tcir N t.1)) < pcn t.1 := pcn_less hL.1 (sdiff_lt hL.1) (fun i hi hib => by
              rw [sdiff_bit (by omega)] at hib
              simp at hib
              exact hib.1) hb8 (tc.1.2 b hb8 hbb) (by rw [sdiff_bit (by omega), hbb]; simp)
            refine ih (tRound N t) K b2 b3 (Nat.le_of_lt_succ (Nat.lt_of_lt_of_le hlt2 hd)) hE hL.diff ?_ ?_ k1 ⟨k2, k3, fun r hr hl hn => ?_⟩
            · show t.2.2.1 + (if 1 < pcn (tcir N t.1) then 1 else 0) + d ≤ 8
              split <;> omega
            · show max t.2.2.2 (pcn (tcir N t.1)) ≤ 8
              exact Nat.max_le.mpr ⟨h2, pcn_le8 tc.1.1⟩
            · have hn : (sdiff t.1 (tcir N t.1)).testBit r = false := hn
              rw [sdiff_bit (by omega)] at hn
              show K (m + 9) r = nI (if (tcir N t.1).testBit r then lkH N t.1 r else t.2.1 r)
              cases hcr : (tcir N t.1).testBit r with
              | true =>
                rw [if_pos rfl]
                exact k4 r hr hcr
              | false =>
                rw [hcr] at hn
                simp at hn
                rw [if_neg Bool.false_ne_true, k5 r hr hcr]
                exact hS.2.2 r hr hl hn
          · have hlt := ge_f (B := 8) rfl (by decide) hk c66
            refine aw_aload_n dX11_laysTrades_69 rfl ?_
            refine aw_aload_n dX11_laysTrades_70 rfl ?_
            refine aw_iload_n dX11_laysTrades_71 rfl ?_
            refine aw_iload_n dX11_laysTrades_72 rfl ?_
            refine aw_cV dX11_laysTrades_73 kX11_377 mX11_looksAt (rX11_looksAt (p := itr (tnx N t.1) k (ctz t.1)) hM hI3 hN hC hL rfl hit.1 hit.2 rfl) (Nat.le_of_ble_eq_true rfl) hM.k ⟨by decide, rfl⟩ hM.b rfl rfl (Nat.le_of_ble_eq_true rfl) ⟨Nat.le_refl _, Nat.le_refl _⟩ ?_
            refine aw_iconst (v := 2) dX11_laysTrades_76 rfl ?_
            refine aw_cV dX11_laysTrades_77 kX11_202 mX11_home0 (rX11_home0 (h := lkH N t.1 (itr (tnx N t.1) k (ctz t.1))) (w := 2) hM hI3 rfl rfl (by omega)) (Nat.le_of_ble_eq_true rfl) hM.k ⟨by decide, rfl⟩ hM.b rfl rfl (Nat.le_of_ble_eq_true rfl) ⟨Nat.le_refl _, Nat.le_refl _⟩ ?_
            refine AW.top hok.2.2.2 ?_
            refine aw_istore_n dX11_laysTrades_80 (by decide) rfl ?_
            refine aw_iinc dX11_laysTrades_81 rfl (ginc rfl) (by decide) rfl ?_
            refine aw_goto (tgt := 63) dX11_laysTrades_84 rfl ?_
            have := ihk hlt
            rw [itr_succ] at this
            exact this
        exact go8 0 (Nat.zero_le _)
  have st : ∀ i, i ≤ nPo N → ∀ (J : MI), TrF m I J → J m 24 = 0 → J m 25 = 0 → AW X g RX11 cX11_laysTrades 4 (5, 0, 0) (z, n, sh, 0, 0) (J) (L) 14 [some (.ref m), some (.int (iset (fun p => !decide (N (80 + 18 * p + 4) = -1)) i)), some (.int (nI i)), none] [] := by
    refine up_loop (fun i hi ih J hF h24 h25 => ?_)
    have hI3 : J (m + 1) = N := (hF.1 _ (by omega) (by omega)).trans hI
    refine aw_iload_n dX11_laysTrades_14 rfl ?_
    refine aw_aload_n dX11_laysTrades_15 rfl ?_
    refine aw_getR (b := m + 1) dX11_laysTrades_16 fX11_7 hM.k hM.b rfl hM.r0 ?_
    refine aw_sipush (v := 231) dX11_laysTrades_19 rfl ?_
    refine aw_ialdN (k := 231) dX11_laysTrades_22 hM.k0 hM.b0 hM.l0 rfl (by decide) (by decide) ?_
    refine aw_icmp_ge (tgt := 52) dX11_laysTrades_23 rfl (fun c23 => ?_) (fun c23 => ?_)
    · rw [hI3] at c23
      have e := ge_t hN.p (by omega) hi c23
      subst e
      have e : iset (fun p => !decide (N (80 + 18 * p + 4) = -1)) (nPo N) = nI (livS N) := iset_n _ _ (by omega)
      rw [e]
      have hL := livS_ok hN
      refine rd 8 (livS N, fun _ => 0, 0, 0) J _ _ (pcn_le8 hL.1) rfl hL (Nat.le_refl 8) (Nat.zero_le 8) hF ⟨h24, h25, fun p _ h1 h2 => ?_⟩
      have h2 : (livS N).testBit p = false := h2
      rw [h1] at h2
      cases h2
    · rw [hI3] at c23
      have hlt := ge_f hN.p (by omega) hi c23
      refine aw_iload_n dX11_laysTrades_26 rfl ?_
      refine aw_aload_n dX11_laysTrades_27 rfl ?_
      refine aw_iload_n dX11_laysTrades_28 rfl ?_
      refine aw_iconst (v := 4) dX11_laysTrades_29 rfl ?_
      refine aw_cV dX11_laysTrades_30 kX11_205 mX11_of (rX11_of (p := i) (w := 4) hM hI3 rfl rfl (by omega)) (Nat.le_of_ble_eq_true rfl) hM.k ⟨by decide, rfl⟩ hM.b rfl rfl (Nat.le_of_ble_eq_true rfl) ⟨Nat.le_refl _, Nat.le_refl _⟩ ?_
      refine aw_iconst (v := (-1)) dX11_laysTrades_33 rfl ?_
      refine aw_icmp_ne (tgt := 41) dX11_laysTrades_34 rfl (fun c34 => ?_) (fun c34 => ?_)
      · refine aw_iconst (v := 1) dX11_laysTrades_41 rfl ?_
        refine aw_iload_n dX11_laysTrades_42 rfl ?_
        refine aw_ishl dX11_laysTrades_43 ?_
        refine aw_ior dX11_laysTrades_44 ?_
        refine aw_istore_n dX11_laysTrades_45 (by decide) rfl ?_
        refine aw_iinc dX11_laysTrades_46 rfl (ginc rfl) (by decide) rfl ?_
        refine aw_goto (tgt := 14) dX11_laysTrades_49 rfl ?_
        have := ih hlt J hF h24 h25
        rw [show iset (fun p => !decide (N (80 + 18 * p + 4) = -1)) (i + 1) = iset (fun p => !decide (N (80 + 18 * p + 4) = -1)) i ||| (if (fun p => !decide (N (80 + 18 * p + 4) = -1)) i then (1 : Int32) <<< (nI i &&& 31) else 0) from rfl] at this
        rw [if_pos (by simp [c34])] at this
        exact this
      · refine aw_iconst (v := 0) dX11_laysTrades_37 rfl ?_
        refine aw_goto (tgt := 44) dX11_laysTrades_38 rfl ?_
        refine aw_ior dX11_laysTrades_44 ?_
        refine aw_istore_n dX11_laysTrades_45 (by decide) rfl ?_
        refine aw_iinc dX11_laysTrades_46 rfl (ginc rfl) (by decide) rfl ?_
        refine aw_goto (tgt := 14) dX11_laysTrades_49 rfl ?_
        have := ih hlt J hF h24 h25
        rw [show iset (fun p => !decide (N (80 + 18 * p + 4) = -1)) (i + 1) = iset (fun p => !decide (N (80 + 18 * p + 4) = -1)) i ||| (if (fun p => !decide (N (80 + 18 * p + 4) = -1)) i then (1 : Int32) <<< (nI i &&& 31) else 0) from rfl] at this
        rw [if_neg (by simp [c34])] at this
        exact this
  refine aw_iconst (v := 0) dX11_laysTrades_0 rfl ?_
  refine aw_istore_n dX11_laysTrades_1 (by decide) rfl ?_
  refine aw_aload_n dX11_laysTrades_2 rfl ?_
  refine aw_iconst (v := 0) dX11_laysTrades_3 rfl ?_
  refine aw_putI dX11_laysTrades_4 fX11_366 hM.k hM.b rfl rfl ?_
  refine aw_aload_n dX11_laysTrades_7 rfl ?_
  refine aw_iconst (v := 0) dX11_laysTrades_8 rfl ?_
  refine aw_putI dX11_laysTrades_9 fX11_369 hM.k hM.b rfl rfl ?_
  refine aw_iconst (v := 0) dX11_laysTrades_12 rfl ?_
  refine aw_istore_n dX11_laysTrades_13 (by decide) rfl ?_
  exact st 0 (Nat.zero_le _) _ (TrF.put (TrF.put (show TrF m I I from ⟨fun _ _ _ => rfl, fun _ _ _ => rfl⟩) (Or.inl rfl)) (Or.inr rfl)) (fI_n (by decide) fI_s) fI_s
end RefS
