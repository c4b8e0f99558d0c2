/-! the class: order among houses -/
theorem trn_lo' (lo qu : Bool) : ¬ trn lo qu &&& 1 = 0 ↔ lo = true := by cases lo <;> cases qu <;> decide
theorem trn_qu' (lo qu : Bool) : ¬ trn lo qu &&& 2 = 0 ↔ qu = true := by cases lo <;> cases qu <;> decide
theorem fz_new {w : Nat → Int32} {S : Nat → Bool} {i : Nat} (hs : S i = true) (h : ∀ f, fst w S i = some f → w i < w f) : fst w S (i + 1) = some i := by
  rw [fst]
  cases hf : fst w S i with
  | none => simp [hs]
  | some f => simp [hs, h f hf]
theorem fz_no {w : Nat → Int32} {S : Nat → Bool} {i : Nat} (hs : S i = false) : fst w S (i + 1) = fst w S i := by
  rw [fst]
  simp [hs]
theorem fz_old {w : Nat → Int32} {S : Nat → Bool} {i f : Nat} (hf : fst w S i = some f) (h : ¬ w i < w f) : fst w S (i + 1) = fst w S i := by
  rw [fst]
  simp [hf, h]
/-- the first of a set by a weight, taken out; the k-th -/
def kDr (w : Nat → Int32) (n : Nat) (s : Int32) : Int32 := match fst w (bt s) n with
  | none => s
  | some p => iDrop s (nI p)
def kO (w : Nat → Int32) (n : Nat) (s : Int32) (k : Nat) : Option Nat := if k < n then fst w (bt s |> fun _ => bt (itr (kDr w n) k s)) n else none
theorem kDr_n {w : Nat → Int32} {n : Nat} (hn : n ≤ 8) {v : Nat} (hv : v < 1024) : ∃ u, u < 1024 ∧ kDr w n (nI v) = nI u := by
  unfold kDr
  cases h : fst w (bt (nI v)) n with
  | none => exact ⟨v, hv, rfl⟩
  | some p => exact dropB_v hv (by have := (fst_lt h).1; omega)
theorem kDr_itr {w : Nat → Int32} {n : Nat} (hn : n ≤ 8) : ∀ k {v : Nat}, v < 1024 → ∃ u, u < 1024 ∧ itr (kDr w n) k (nI v) = nI u
  | 0, v, hv => ⟨v, hv, rfl⟩
  | k + 1, v, hv => by
    obtain ⟨u, hu, e⟩ := kDr_n (w := w) hn hv
    obtain ⟨t, ht, e2⟩ := kDr_itr (w := w) hn k hu
    exact ⟨t, ht, by rw [itr, e, e2]⟩
theorem kDr_none {w : Nat → Int32} {n : Nat} {s : Int32} (h : fst w (bt s) n = none) : ∀ k, itr (kDr w n) k s = s
  | 0 => rfl
  | k + 1 => by rw [itr, show kDr w n s = s from by unfold kDr; rw [h]]; exact kDr_none h k
theorem itr_add {α : Type} (f : α → α) : ∀ (i j : Nat) (a : α), itr f (i + j) a = itr f j (itr f i a)
  | 0, j, a => by rw [Nat.zero_add]; rfl
  | i + 1, j, a => by rw [show i + 1 + j = (i + j) + 1 by omega, itr, itr_add f i j (f a), itr]
def cAh (N : Nat → Int32) (p h : Nat) (band x : Int32) : Nat := fa_cnt (fun q => !decide (q = p) && bt x q && decide (cRk N q h (mLocal N h) (mQuota N) (mBand N q) < cRk N p h (mLocal N h) (mQuota N) band)) (nPo N)
section ClsS
variable {z n b : Nat} {sh : Shp} {I : MI} {L : ML} {N : Nat → Int32} {Q : Nat → Int64}
set_option maxHeartbeats 4000000 in
set_option maxRecDepth 100000 in
theorem sX7_rank (hS : IsS n sh b) (hC : CtS I L b N Q) (hO : Ok N) {p : Nat} (hp : p < nPo N) {h : Nat} (hh : h < nHo N) {lo qu : Bool} {band : Int32}  : CM yX7_rank cX7_rank 8 (Option.some .int) 1 0 0 [.ref b, .ref (b + 13 + 2 * p), .ref (b + 2 + h), .int (trn lo qu), .int band] z n sh I L (Pst (some (.int (cRk N p h lo qu band))) z n sh I L) := by
  refine CM.go [some (.ref b), some (.ref (b + 13 + 2 * p)), some (.ref (b + 2 + h)), some (.int (trn lo qu)), some (.int band), none, none, none] rfl rfl (Nat.le_of_ble_eq_true rfl) (fun X g q => ?_)
  have hN := hO.1
  have hR := hO.2.1
  have hB := hO.2.2.1
  have hE := hO.2.2.2
  have h8 := hN.p8
  have h10 := hN.h10
  refine aw_aload_n dX7_rank_0 rfl ?_
  refine aw_ifnull dX7_rank_1 ?_
  refine aw_iload_n dX7_rank_4 rfl ?_
  refine aw_iconst (v := 1) dX7_rank_5 rfl ?_
  refine aw_iand dX7_rank_6 ?_
  refine aw_if_eq (tgt := 14) dX7_rank_7 rfl (fun c7 => ?_) (fun c7 => ?_)
  · refine aw_iconst (v := 0) dX7_rank_14 rfl ?_
    refine aw_istore dX7_rank_15 (by decide) rfl ?_
    refine aw_iload dX7_rank_17 rfl ?_
    refine aw_if_eq (tgt := 37) dX7_rank_19 rfl (fun c19 => ?_) (fun c19 => ?_)
    · skip
      refine aw_iconst (v := 0) dX7_rank_37 rfl ?_
      refine aw_istore dX7_rank_38 (by decide) rfl ?_
      refine aw_iload_n dX7_rank_40 rfl ?_
      refine aw_iconst (v := 2) dX7_rank_41 rfl ?_
      refine aw_iand dX7_rank_42 ?_
      refine aw_if_eq (tgt := 58) dX7_rank_43 rfl (fun c43 => ?_) (fun c43 => ?_)
      · refine aw_iconst (v := 0) dX7_rank_58 rfl ?_
        refine aw_istore dX7_rank_59 (by decide) rfl ?_
        refine aw_iload dX7_rank_61 rfl ?_
        refine aw_iconst (v := 2) dX7_rank_63 rfl ?_
        refine aw_imul dX7_rank_64 ?_
        refine aw_iload dX7_rank_65 rfl ?_
        refine aw_iadd dX7_rank_67 ?_
        refine aw_bipush (v := 8) dX7_rank_68 rfl ?_
        refine aw_imul dX7_rank_70 ?_
        refine aw_iload dX7_rank_71 rfl ?_
        refine aw_iadd dX7_rank_73 ?_
        refine aw_sipush (v := 1000) dX7_rank_74 rfl ?_
        refine aw_imul dX7_rank_77 ?_
        refine aw_aload_n dX7_rank_78 rfl ?_
        refine aw_getI dX7_rank_79 fX7_154 (hS.po (by omega)) (hS.pb (by omega)) rfl ?_
        refine AW.top (hC.pf h8 (p := p) (w := 3) (by omega) (by decide) (by decide) (by decide)) ?_
        refine aw_iadd dX7_rank_82 ?_
        refine aw_bipush (v := 8) dX7_rank_83 rfl ?_
        refine aw_imul dX7_rank_85 ?_
        refine aw_aload_n dX7_rank_86 rfl ?_
        refine aw_getI dX7_rank_87 fX7_179 (hS.po (by omega)) (hS.pb (by omega)) rfl ?_
        refine AW.top (hC.pn (by omega)) ?_
        refine aw_iadd dX7_rank_90 ?_
        refine aw_iret q rfl dX7_rank_91 ⟨Nat.le_refl _, Nat.le_refl _⟩ ?_
        refine Pst.iv ?_
        unfold cRk
        rw [(trn_lo lo qu).mp c7]
        rw [(trn_qu lo qu).mp c43]
        rfl
      · refine aw_aload_n dX7_rank_46 rfl ?_
        refine aw_getI dX7_rank_47 fX7_176 (hS.po (by omega)) (hS.pb (by omega)) rfl ?_
        refine AW.top (hC.pf h8 (p := p) (w := 4) (by omega) (by decide) (by decide) (by decide)) ?_
        refine aw_iconst (v := (-1)) dX7_rank_50 rfl ?_
        refine aw_icmp_ne (tgt := 58) dX7_rank_51 rfl (fun c51 => ?_) (fun c51 => ?_)
        · refine aw_iconst (v := 0) dX7_rank_58 rfl ?_
          refine aw_istore dX7_rank_59 (by decide) rfl ?_
          refine aw_iload dX7_rank_61 rfl ?_
          refine aw_iconst (v := 2) dX7_rank_63 rfl ?_
          refine aw_imul dX7_rank_64 ?_
          refine aw_iload dX7_rank_65 rfl ?_
          refine aw_iadd dX7_rank_67 ?_
          refine aw_bipush (v := 8) dX7_rank_68 rfl ?_
          refine aw_imul dX7_rank_70 ?_
          refine aw_iload dX7_rank_71 rfl ?_
          refine aw_iadd dX7_rank_73 ?_
          refine aw_sipush (v := 1000) dX7_rank_74 rfl ?_
          refine aw_imul dX7_rank_77 ?_
          refine aw_aload_n dX7_rank_78 rfl ?_
          refine aw_getI dX7_rank_79 fX7_154 (hS.po (by omega)) (hS.pb (by omega)) rfl ?_
          refine AW.top (hC.pf h8 (p := p) (w := 3) (by omega) (by decide) (by decide) (by decide)) ?_
          refine aw_iadd dX7_rank_82 ?_
          refine aw_bipush (v := 8) dX7_rank_83 rfl ?_
          refine aw_imul dX7_rank_85 ?_
          refine aw_aload_n dX7_rank_86 rfl ?_
          refine aw_getI dX7_rank_87 fX7_179 (hS.po (by omega)) (hS.pb (by omega)) rfl ?_
          refine AW.top (hC.pn (by omega)) ?_
          refine aw_iadd dX7_rank_90 ?_
          refine aw_iret q rfl dX7_rank_91 ⟨Nat.le_refl _, Nat.le_refl _⟩ ?_
          refine Pst.iv ?_
          unfold cRk
          rw [(trn_lo lo qu).mp c7]
          rw [(trn_qu' lo qu).mp c43, decide_eq_false c51]
          rfl
        · refine aw_iconst (v := 1) dX7_rank_54 rfl ?_
          refine aw_goto (tgt := 59) dX7_rank_55 rfl ?_
          refine aw_istore dX7_rank_59 (by decide) rfl ?_
          refine aw_iload dX7_rank_61 rfl ?_
          refine aw_iconst (v := 2) dX7_rank_63 rfl ?_
          refine aw_imul dX7_rank_64 ?_
          refine aw_iload dX7_rank_65 rfl ?_
          refine aw_iadd dX7_rank_67 ?_
          refine aw_bipush (v := 8) dX7_rank_68 rfl ?_
          refine aw_imul dX7_rank_70 ?_
          refine aw_iload dX7_rank_71 rfl ?_
          refine aw_iadd dX7_rank_73 ?_
          refine aw_sipush (v := 1000) dX7_rank_74 rfl ?_
          refine aw_imul dX7_rank_77 ?_
          refine aw_aload_n dX7_rank_78 rfl ?_
          refine aw_getI dX7_rank_79 fX7_154 (hS.po (by omega)) (hS.pb (by omega)) rfl ?_
          refine AW.top (hC.pf h8 (p := p) (w := 3) (by omega) (by decide) (by decide) (by decide)) ?_
          refine aw_iadd dX7_rank_82 ?_
          refine aw_bipush (v := 8) dX7_rank_83 rfl ?_
          refine aw_imul dX7_rank_85 ?_
          refine aw_aload_n dX7_rank_86 rfl ?_
          refine aw_getI dX7_rank_87 fX7_179 (hS.po (by omega)) (hS.pb (by omega)) rfl ?_
          refine AW.top (hC.pn (by omega)) ?_
          refine aw_iadd dX7_rank_90 ?_
          refine aw_iret q rfl dX7_rank_91 ⟨Nat.le_refl _, Nat.le_refl _⟩ ?_
          refine Pst.iv ?_
          unfold cRk
          rw [(trn_lo lo qu).mp c7]
          rw [(trn_qu' lo qu).mp c43, decide_eq_true c51]
          rfl
    · exact absurd rfl c19
  · refine aw_iconst (v := 1) dX7_rank_10 rfl ?_
    refine aw_goto (tgt := 15) dX7_rank_11 rfl ?_
    refine aw_istore dX7_rank_15 (by decide) rfl ?_
    refine aw_iload dX7_rank_17 rfl ?_
    refine aw_if_eq (tgt := 37) dX7_rank_19 rfl (fun c19 => ?_) (fun c19 => ?_)
    · exact absurd c19 (by decide)
    · skip
      refine aw_aload_n dX7_rank_22 rfl ?_
      refine aw_getI dX7_rank_23 fX7_137 (hS.po (by omega)) (hS.pb (by omega)) rfl ?_
      refine AW.top (hC.pf h8 (p := p) (w := 2) (by omega) (by decide) (by decide) (by decide)) ?_
      refine aw_aload_n dX7_rank_26 rfl ?_
      refine aw_getI dX7_rank_27 fX7_140 (hS.ho (by omega)) (hS.hb (by omega)) rfl ?_
      refine AW.top (hC.hf h10 (h := h) (w := 1) (by omega) (by decide)) ?_
      refine aw_icmp_eq (tgt := 37) dX7_rank_30 rfl (fun c30 => ?_) (fun c30 => ?_)
      · refine aw_iconst (v := 0) dX7_rank_37 rfl ?_
        refine aw_istore dX7_rank_38 (by decide) rfl ?_
        refine aw_iload_n dX7_rank_40 rfl ?_
        refine aw_iconst (v := 2) dX7_rank_41 rfl ?_
        refine aw_iand dX7_rank_42 ?_
        refine aw_if_eq (tgt := 58) dX7_rank_43 rfl (fun c43 => ?_) (fun c43 => ?_)
        · refine aw_iconst (v := 0) dX7_rank_58 rfl ?_
          refine aw_istore dX7_rank_59 (by decide) rfl ?_
          refine aw_iload dX7_rank_61 rfl ?_
          refine aw_iconst (v := 2) dX7_rank_63 rfl ?_
          refine aw_imul dX7_rank_64 ?_
          refine aw_iload dX7_rank_65 rfl ?_
          refine aw_iadd dX7_rank_67 ?_
          refine aw_bipush (v := 8) dX7_rank_68 rfl ?_
          refine aw_imul dX7_rank_70 ?_
          refine aw_iload dX7_rank_71 rfl ?_
          refine aw_iadd dX7_rank_73 ?_
          refine aw_sipush (v := 1000) dX7_rank_74 rfl ?_
          refine aw_imul dX7_rank_77 ?_
          refine aw_aload_n dX7_rank_78 rfl ?_
          refine aw_getI dX7_rank_79 fX7_154 (hS.po (by omega)) (hS.pb (by omega)) rfl ?_
          refine AW.top (hC.pf h8 (p := p) (w := 3) (by omega) (by decide) (by decide) (by decide)) ?_
          refine aw_iadd dX7_rank_82 ?_
          refine aw_bipush (v := 8) dX7_rank_83 rfl ?_
          refine aw_imul dX7_rank_85 ?_
          refine aw_aload_n dX7_rank_86 rfl ?_
          refine aw_getI dX7_rank_87 fX7_179 (hS.po (by omega)) (hS.pb (by omega)) rfl ?_
          refine AW.top (hC.pn (by omega)) ?_
          refine aw_iadd dX7_rank_90 ?_
          refine aw_iret q rfl dX7_rank_91 ⟨Nat.le_refl _, Nat.le_refl _⟩ ?_
          refine Pst.iv ?_
          unfold cRk
          rw [(trn_lo' lo qu).mp c7, decide_eq_true c30]
          rw [(trn_qu lo qu).mp c43]
          rfl
        · refine aw_aload_n dX7_rank_46 rfl ?_
          refine aw_getI dX7_rank_47 fX7_176 (hS.po (by omega)) (hS.pb (by omega)) rfl ?_
          refine AW.top (hC.pf h8 (p := p) (w := 4) (by omega) (by decide) (by decide) (by decide)) ?_
          refine aw_iconst (v := (-1)) dX7_rank_50 rfl ?_
          refine aw_icmp_ne (tgt := 58) dX7_rank_51 rfl (fun c51 => ?_) (fun c51 => ?_)
          · refine aw_iconst (v := 0) dX7_rank_58 rfl ?_
            refine aw_istore dX7_rank_59 (by decide) rfl ?_
            refine aw_iload dX7_rank_61 rfl ?_
            refine aw_iconst (v := 2) dX7_rank_63 rfl ?_
            refine aw_imul dX7_rank_64 ?_
            refine aw_iload dX7_rank_65 rfl ?_
            refine aw_iadd dX7_rank_67 ?_
            refine aw_bipush (v := 8) dX7_rank_68 rfl ?_
            refine aw_imul dX7_rank_70 ?_
            refine aw_iload dX7_rank_71 rfl ?_
            refine aw_iadd dX7_rank_73 ?_
            refine aw_sipush (v := 1000) dX7_rank_74 rfl ?_
            refine aw_imul dX7_rank_77 ?_
            refine aw_aload_n dX7_rank_78 rfl ?_
            refine aw_getI dX7_rank_79 fX7_154 (hS.po (by omega)) (hS.pb (by omega)) rfl ?_
            refine AW.top (hC.pf h8 (p := p) (w := 3) (by omega) (by decide) (by decide) (by decide)) ?_
            refine aw_iadd dX7_rank_82 ?_
            refine aw_bipush (v := 8) dX7_rank_83 rfl ?_
            refine aw_imul dX7_rank_85 ?_
            refine aw_aload_n dX7_rank_86 rfl ?_
            refine aw_getI dX7_rank_87 fX7_179 (hS.po (by omega)) (hS.pb (by omega)) rfl ?_
            refine AW.top (hC.pn (by omega)) ?_
            refine aw_iadd dX7_rank_90 ?_
            refine aw_iret q rfl dX7_rank_91 ⟨Nat.le_refl _, Nat.le_refl _⟩ ?_
            refine Pst.iv ?_
            unfold cRk
            rw [(trn_lo' lo qu).mp c7, decide_eq_true c30]
            rw [(trn_qu' lo qu).mp c43, decide_eq_false c51]
            rfl
          · refine aw_iconst (v := 1) dX7_rank_54 rfl ?_
            refine aw_goto (tgt := 59) dX7_rank_55 rfl ?_
            refine aw_istore dX7_rank_59 (by decide) rfl ?_
            refine aw_iload dX7_rank_61 rfl ?_
            refine aw_iconst (v := 2) dX7_rank_63 rfl ?_
            refine aw_imul dX7_rank_64 ?_
            refine aw_iload dX7_rank_65 rfl ?_
            refine aw_iadd dX7_rank_67 ?_
            refine aw_bipush (v := 8) dX7_rank_68 rfl ?_
            refine aw_imul dX7_rank_70 ?_
            refine aw_iload dX7_rank_71 rfl ?_
            refine aw_iadd dX7_rank_73 ?_
            refine aw_sipush (v := 1000) dX7_rank_74 rfl ?_
            refine aw_imul dX7_rank_77 ?_
            refine aw_aload_n dX7_rank_78 rfl ?_
            refine aw_getI dX7_rank_79 fX7_154 (hS.po (by omega)) (hS.pb (by omega)) rfl ?_
            refine AW.top (hC.pf h8 (p := p) (w := 3) (by omega) (by decide) (by decide) (by decide)) ?_
            refine aw_iadd dX7_rank_82 ?_
            refine aw_bipush (v := 8) dX7_rank_83 rfl ?_
            refine aw_imul dX7_rank_85 ?_
            refine aw_aload_n dX7_rank_86 rfl ?_
            refine aw_getI dX7_rank_87 fX7_179 (hS.po (by omega)) (hS.pb (by omega)) rfl ?_
            refine AW.top (hC.pn (by omega)) ?_
            refine aw_iadd dX7_rank_90 ?_
            refine aw_iret q rfl dX7_rank_91 ⟨Nat.le_refl _, Nat.le_refl _⟩ ?_
            refine Pst.iv ?_
            unfold cRk
            rw [(trn_lo' lo qu).mp c7, decide_eq_true c30]
            rw [(trn_qu' lo qu).mp c43, decide_eq_true c51]
            rfl
      · refine aw_iconst (v := 1) dX7_rank_33 rfl ?_
        refine aw_goto (tgt := 38) dX7_rank_34 rfl ?_
        refine aw_istore dX7_rank_38 (by decide) rfl ?_
        refine aw_iload_n dX7_rank_40 rfl ?_
        refine aw_iconst (v := 2) dX7_rank_41 rfl ?_
        refine aw_iand dX7_rank_42 ?_
        refine aw_if_eq (tgt := 58) dX7_rank_43 rfl (fun c43 => ?_) (fun c43 => ?_)
        · refine aw_iconst (v := 0) dX7_rank_58 rfl ?_
          refine aw_istore dX7_rank_59 (by decide) rfl ?_
          refine aw_iload dX7_rank_61 rfl ?_
          refine aw_iconst (v := 2) dX7_rank_63 rfl ?_
          refine aw_imul dX7_rank_64 ?_
          refine aw_iload dX7_rank_65 rfl ?_
          refine aw_iadd dX7_rank_67 ?_
          refine aw_bipush (v := 8) dX7_rank_68 rfl ?_
          refine aw_imul dX7_rank_70 ?_
          refine aw_iload dX7_rank_71 rfl ?_
          refine aw_iadd dX7_rank_73 ?_
          refine aw_sipush (v := 1000) dX7_rank_74 rfl ?_
          refine aw_imul dX7_rank_77 ?_
          refine aw_aload_n dX7_rank_78 rfl ?_
          refine aw_getI dX7_rank_79 fX7_154 (hS.po (by omega)) (hS.pb (by omega)) rfl ?_
          refine AW.top (hC.pf h8 (p := p) (w := 3) (by omega) (by decide) (by decide) (by decide)) ?_
          refine aw_iadd dX7_rank_82 ?_
          refine aw_bipush (v := 8) dX7_rank_83 rfl ?_
          refine aw_imul dX7_rank_85 ?_
          refine aw_aload_n dX7_rank_86 rfl ?_
          refine aw_getI dX7_rank_87 fX7_179 (hS.po (by omega)) (hS.pb (by omega)) rfl ?_
          refine AW.top (hC.pn (by omega)) ?_
          refine aw_iadd dX7_rank_90 ?_
          refine aw_iret q rfl dX7_rank_91 ⟨Nat.le_refl _, Nat.le_refl _⟩ ?_
          refine Pst.iv ?_
          unfold cRk
          rw [(trn_lo' lo qu).mp c7, decide_eq_false c30]
          rw [(trn_qu lo qu).mp c43]
          rfl
        · refine aw_aload_n dX7_rank_46 rfl ?_
          refine aw_getI dX7_rank_47 fX7_176 (hS.po (by omega)) (hS.pb (by omega)) rfl ?_
          refine AW.top (hC.pf h8 (p := p) (w := 4) (by omega) (by decide) (by decide) (by decide)) ?_
          refine aw_iconst (v := (-1)) dX7_rank_50 rfl ?_
          refine aw_icmp_ne (tgt := 58) dX7_rank_51 rfl (fun c51 => ?_) (fun c51 => ?_)
          · refine aw_iconst (v := 0) dX7_rank_58 rfl ?_
            refine aw_istore dX7_rank_59 (by decide) rfl ?_
            refine aw_iload dX7_rank_61 rfl ?_
            refine aw_iconst (v := 2) dX7_rank_63 rfl ?_
            refine aw_imul dX7_rank_64 ?_
            refine aw_iload dX7_rank_65 rfl ?_
            refine aw_iadd dX7_rank_67 ?_
            refine aw_bipush (v := 8) dX7_rank_68 rfl ?_
            refine aw_imul dX7_rank_70 ?_
            refine aw_iload dX7_rank_71 rfl ?_
            refine aw_iadd dX7_rank_73 ?_
            refine aw_sipush (v := 1000) dX7_rank_74 rfl ?_
            refine aw_imul dX7_rank_77 ?_
            refine aw_aload_n dX7_rank_78 rfl ?_
            refine aw_getI dX7_rank_79 fX7_154 (hS.po (by omega)) (hS.pb (by omega)) rfl ?_
            refine AW.top (hC.pf h8 (p := p) (w := 3) (by omega) (by decide) (by decide) (by decide)) ?_
            refine aw_iadd dX7_rank_82 ?_
            refine aw_bipush (v := 8) dX7_rank_83 rfl ?_
            refine aw_imul dX7_rank_85 ?_
            refine aw_aload_n dX7_rank_86 rfl ?_
            refine aw_getI dX7_rank_87 fX7_179 (hS.po (by omega)) (hS.pb (by omega)) rfl ?_
            refine AW.top (hC.pn (by omega)) ?_
            refine aw_iadd dX7_rank_90 ?_
            refine aw_iret q rfl dX7_rank_91 ⟨Nat.le_refl _, Nat.le_refl _⟩ ?_
            refine Pst.iv ?_
            unfold cRk
            rw [(trn_lo' lo qu).mp c7, decide_eq_false c30]
            rw [(trn_qu' lo qu).mp c43, decide_eq_false c51]
            rfl
          · refine aw_iconst (v := 1) dX7_rank_54 rfl ?_
            refine aw_goto (tgt := 59) dX7_rank_55 rfl ?_
            refine aw_istore dX7_rank_59 (by decide) rfl ?_
            refine aw_iload dX7_rank_61 rfl ?_
            refine aw_iconst (v := 2) dX7_rank_63 rfl ?_
            refine aw_imul dX7_rank_64 ?_
            refine aw_iload dX7_rank_65 rfl ?_
            refine aw_iadd dX7_rank_67 ?_
            refine aw_bipush (v := 8) dX7_rank_68 rfl ?_
            refine aw_imul dX7_rank_70 ?_
            refine aw_iload dX7_rank_71 rfl ?_
            refine aw_iadd dX7_rank_73 ?_
            refine aw_sipush (v := 1000) dX7_rank_74 rfl ?_
            refine aw_imul dX7_rank_77 ?_
            refine aw_aload_n dX7_rank_78 rfl ?_
            refine aw_getI dX7_rank_79 fX7_154 (hS.po (by omega)) (hS.pb (by omega)) rfl ?_
            refine AW.top (hC.pf h8 (p := p) (w := 3) (by omega) (by decide) (by decide) (by decide)) ?_
            refine aw_iadd dX7_rank_82 ?_
            refine aw_bipush (v := 8) dX7_rank_83 rfl ?_
            refine aw_imul dX7_rank_85 ?_
            refine aw_aload_n dX7_rank_86 rfl ?_
            refine aw_getI dX7_rank_87 fX7_179 (hS.po (by omega)) (hS.pb (by omega)) rfl ?_
            refine AW.top (hC.pn (by omega)) ?_
            refine aw_iadd dX7_rank_90 ?_
            refine aw_iret q rfl dX7_rank_91 ⟨Nat.le_refl _, Nat.le_refl _⟩ ?_
            refine Pst.iv ?_
            unfold cRk
            rw [(trn_lo' lo qu).mp c7, decide_eq_false c30]
            rw [(trn_qu' lo qu).mp c43, decide_eq_true c51]
            rfl
set_option maxHeartbeats 4000000 in
set_option maxRecDepth 100000 in
theorem sX7_rankN (hS : IsS n sh b) (hC : CtS I L b N Q) (hO : Ok N) {p : Nat} (hp : p < nPo N) {t band : Int32} (ht : t = 0)  : CM yX7_rank cX7_rank 8 (Option.some .int) 1 0 0 [.ref b, .ref (b + 13 + 2 * p), .null, .int t, .int band] z n sh I L (Pst (some (.int (cRk N p 0 false false band))) z n sh I L) := by
  refine CM.go [some (.ref b), some (.ref (b + 13 + 2 * p)), some .null, some (.int t), some (.int band), none, none, none] rfl rfl (Nat.le_of_ble_eq_true rfl) (fun X g q => ?_)
  have hN := hO.1
  have hR := hO.2.1
  have hB := hO.2.2.1
  have hE := hO.2.2.2
  have h8 := hN.p8
  have h10 := hN.h10
  refine aw_aload_nN dX7_rank_0 rfl ?_
  refine aw_ifnullN (tgt := 14) dX7_rank_1 rfl ?_
  refine aw_iconst (v := 0) dX7_rank_14 rfl ?_
  refine aw_istore dX7_rank_15 (by decide) rfl ?_
  refine aw_iload dX7_rank_17 rfl ?_
  refine aw_if_eq (tgt := 37) dX7_rank_19 rfl (fun c19 => ?_) (fun c19 => ?_)
  · skip
    refine aw_iconst (v := 0) dX7_rank_37 rfl ?_
    refine aw_istore dX7_rank_38 (by decide) rfl ?_
    refine aw_iload_n dX7_rank_40 rfl ?_
    refine aw_iconst (v := 2) dX7_rank_41 rfl ?_
    refine aw_iand dX7_rank_42 ?_
    refine aw_if_eq (tgt := 58) dX7_rank_43 rfl (fun c43 => ?_) (fun c43 => ?_)
    · refine aw_iconst (v := 0) dX7_rank_58 rfl ?_
      refine aw_istore dX7_rank_59 (by decide) rfl ?_
      refine aw_iload dX7_rank_61 rfl ?_
      refine aw_iconst (v := 2) dX7_rank_63 rfl ?_
      refine aw_imul dX7_rank_64 ?_
      refine aw_iload dX7_rank_65 rfl ?_
      refine aw_iadd dX7_rank_67 ?_
      refine aw_bipush (v := 8) dX7_rank_68 rfl ?_
      refine aw_imul dX7_rank_70 ?_
      refine aw_iload dX7_rank_71 rfl ?_
      refine aw_iadd dX7_rank_73 ?_
      refine aw_sipush (v := 1000) dX7_rank_74 rfl ?_
      refine aw_imul dX7_rank_77 ?_
      refine aw_aload_n dX7_rank_78 rfl ?_
      refine aw_getI dX7_rank_79 fX7_154 (hS.po (by omega)) (hS.pb (by omega)) rfl ?_
      refine AW.top (hC.pf h8 (p := p) (w := 3) (by omega) (by decide) (by decide) (by decide)) ?_
      refine aw_iadd dX7_rank_82 ?_
      refine aw_bipush (v := 8) dX7_rank_83 rfl ?_
      refine aw_imul dX7_rank_85 ?_
      refine aw_aload_n dX7_rank_86 rfl ?_
      refine aw_getI dX7_rank_87 fX7_179 (hS.po (by omega)) (hS.pb (by omega)) rfl ?_
      refine AW.top (hC.pn (by omega)) ?_
      refine aw_iadd dX7_rank_90 ?_
      refine aw_iret q rfl dX7_rank_91 ⟨Nat.le_refl _, Nat.le_refl _⟩ ?_
      refine Pst.iv ?_
      unfold cRk
      rfl
    · refine aw_aload_n dX7_rank_46 rfl ?_
      refine aw_getI dX7_rank_47 fX7_176 (hS.po (by omega)) (hS.pb (by omega)) rfl ?_
      refine AW.top (hC.pf h8 (p := p) (w := 4) (by omega) (by decide) (by decide) (by decide)) ?_
      refine aw_iconst (v := (-1)) dX7_rank_50 rfl ?_
      refine aw_icmp_ne (tgt := 58) dX7_rank_51 rfl (fun c51 => ?_) (fun c51 => ?_)
      · refine aw_iconst (v := 0) dX7_rank_58 rfl ?_
        refine aw_istore dX7_rank_59 (by decide) rfl ?_
        refine aw_iload dX7_rank_61 rfl ?_
        refine aw_iconst (v := 2) dX7_rank_63 rfl ?_
        refine aw_imul dX7_rank_64 ?_
        refine aw_iload dX7_rank_65 rfl ?_
        refine aw_iadd dX7_rank_67 ?_
        refine aw_bipush (v := 8) dX7_rank_68 rfl ?_
        refine aw_imul dX7_rank_70 ?_
        refine aw_iload dX7_rank_71 rfl ?_
        refine aw_iadd dX7_rank_73 ?_
        refine aw_sipush (v := 1000) dX7_rank_74 rfl ?_
        refine aw_imul dX7_rank_77 ?_
        refine aw_aload_n dX7_rank_78 rfl ?_
        refine aw_getI dX7_rank_79 fX7_154 (hS.po (by omega)) (hS.pb (by omega)) rfl ?_
        refine AW.top (hC.pf h8 (p := p) (w := 3) (by omega) (by decide) (by decide) (by decide)) ?_
        refine aw_iadd dX7_rank_82 ?_
        refine aw_bipush (v := 8) dX7_rank_83 rfl ?_
        refine aw_imul dX7_rank_85 ?_
        refine aw_aload_n dX7_rank_86 rfl ?_
        refine aw_getI dX7_rank_87 fX7_179 (hS.po (by omega)) (hS.pb (by omega)) rfl ?_
        refine AW.top (hC.pn (by omega)) ?_
        refine aw_iadd dX7_rank_90 ?_
        refine aw_iret q rfl dX7_rank_91 ⟨Nat.le_refl _, Nat.le_refl _⟩ ?_
        refine Pst.iv ?_
        unfold cRk
        exact absurd (by rw [ht]; decide) c43
      · refine aw_iconst (v := 1) dX7_rank_54 rfl ?_
        refine aw_goto (tgt := 59) dX7_rank_55 rfl ?_
        refine aw_istore dX7_rank_59 (by decide) rfl ?_
        refine aw_iload dX7_rank_61 rfl ?_
        refine aw_iconst (v := 2) dX7_rank_63 rfl ?_
        refine aw_imul dX7_rank_64 ?_
        refine aw_iload dX7_rank_65 rfl ?_
        refine aw_iadd dX7_rank_67 ?_
        refine aw_bipush (v := 8) dX7_rank_68 rfl ?_
        refine aw_imul dX7_rank_70 ?_
        refine aw_iload dX7_rank_71 rfl ?_
        refine aw_iadd dX7_rank_73 ?_
        refine aw_sipush (v := 1000) dX7_rank_74 rfl ?_
        refine aw_imul dX7_rank_77 ?_
        refine aw_aload_n dX7_rank_78 rfl ?_
        refine aw_getI dX7_rank_79 fX7_154 (hS.po (by omega)) (hS.pb (by omega)) rfl ?_
        refine AW.top (hC.pf h8 (p := p) (w := 3) (by omega) (by decide) (by decide) (by decide)) ?_
        refine aw_iadd dX7_rank_82 ?_
        refine aw_bipush (v := 8) dX7_rank_83 rfl ?_
        refine aw_imul dX7_rank_85 ?_
        refine aw_aload_n dX7_rank_86 rfl ?_
        refine aw_getI dX7_rank_87 fX7_179 (hS.po (by omega)) (hS.pb (by omega)) rfl ?_
        refine AW.top (hC.pn (by omega)) ?_
        refine aw_iadd dX7_rank_90 ?_
        refine aw_iret q rfl dX7_rank_91 ⟨Nat.le_refl _, Nat.le_refl _⟩ ?_
        refine Pst.iv ?_
        unfold cRk
        exact absurd (by rw [ht]; decide) c43
  · exact absurd rfl c19
set_option maxHeartbeats 4000000 in
set_option maxRecDepth 100000 in
theorem sX7_firstOf (hS : IsS n sh b) (hC : CtS I L b N Q) (hO : Ok N) {x : Int32} {v : Nat} (hx : x = nI v) (hv : v < 1024) {h : Nat} (hh : h < nHo N) {lo qu : Bool} : CM yX7_firstOf cX7_firstOf 9 (Option.some (.object "HomesQueue$House")) 3 0 0 [.ref b, .int x, .ref (b + 2 + h), .int (trn lo qu)] z n sh I L (Pst (some (oH b (fst (fun p => cRk N p h lo qu (mBand N p)) (bt x) (nPo N)))) z n sh I L) := by
  refine CM.go [some (.ref b), some (.int x), some (.ref (b + 2 + h)), some (.int (trn lo qu)), none, none, none, none, none] rfl rfl (Nat.le_of_ble_eq_true rfl) (fun X g q => ?_)
  have hN := hO.1
  have hR := hO.2.1
  have hB := hO.2.2.1
  have hE := hO.2.2.2
  have h8 := hN.p8
  have h10 := hN.h10
  have loop : ∀ i, i ≤ nPo N → ∀ (l : Int32) a7 a8, (∀ f, fst (fun p => cRk N p h lo qu (mBand N p)) (bt x) i = some f → l = (fun p => cRk N p h lo qu (mBand N p)) f) → AW X g RX7 cX7_firstOf 9 (3, 0, 0) (z, n, sh, 0, 0) (I) (L) 9 [some (.ref b), some (.int x), some (.ref (b + 2 + h)), some (.int (trn lo qu)), some (oH b (fst (fun p => cRk N p h lo qu (mBand N p)) (bt x) i)), some (.int l), some (.int (nI i)), a7, a8] [] := by
    refine up_loop (fun i hi ih l a7 a8 hl => ?_)
    have hbt : i < nPo N → (x &&& nI (2 ^ i) = 0 ↔ bt x i = false) := fun q => bt_and hx hv (by omega)
    cases hf : fst (fun p => cRk N p h lo qu (mBand N p)) (bt x) i with
    | none =>
      refine aw_iload dX7_firstOf_9 rfl ?_
      refine aw_aload_n dX7_firstOf_11 rfl ?_
      refine aw_getI dX7_firstOf_12 fX7_62 hS.k hS.b0 rfl ?_
      refine AW.top (hC.np.trans hN.p) ?_
      refine aw_icmp_ge (tgt := 82) dX7_firstOf_15 rfl (fun c15 => ?_) (fun c15 => ?_)
      · have e := ge_t rfl (by omega) hi c15
        subst e
        refine aw_aloadN dX7_firstOf_82 rfl ?_
        refine aw_aret q rfl (Or.inl rfl) dX7_firstOf_84 ⟨Nat.le_refl _, Nat.le_refl _⟩ ?_
        exact ⟨by rw [hf]; rfl, rfl, rfl, rfl, rfl, rfl⟩
      · have hlt := ge_f rfl (by omega) hi c15
        refine aw_aload_n dX7_firstOf_18 rfl ?_
        refine aw_getR (b := b + 12) dX7_firstOf_19 fX7_22 hS.k hS.b0 rfl hS.r1 ?_
        refine aw_iload dX7_firstOf_22 rfl ?_
        refine aw_houses (p := i) hS rfl (by omega) dX7_firstOf_24 ?_
        refine aw_astore dX7_firstOf_25 (by decide) rfl ?_
        refine aw_iload_n dX7_firstOf_27 rfl ?_
        refine aw_aload dX7_firstOf_28 rfl ?_
        refine aw_getI dX7_firstOf_30 fX7_103 (hS.po (by omega)) (hS.pb (by omega)) rfl ?_
        refine AW.top (hC.pi (by omega)) ?_
        refine aw_iand dX7_firstOf_33 ?_
        refine aw_if_ne (tgt := 40) dX7_firstOf_34 rfl (fun c34 => ?_) (fun c34 => ?_)
        · have hs : bt x i = true := by
            cases hb : bt x i with
            | true => rfl
            | false => exact absurd ((hbt hlt).mpr hb) c34
          refine aw_aload_n dX7_firstOf_40 rfl ?_
          refine aw_aload dX7_firstOf_41 rfl ?_
          refine aw_aload_n dX7_firstOf_43 rfl ?_
          refine aw_iload_n dX7_firstOf_44 rfl ?_
          refine aw_aload_n dX7_firstOf_45 rfl ?_
          refine aw_aload dX7_firstOf_46 rfl ?_
          refine aw_cV dX7_firstOf_48 kX7_182 mX7_bandNow (sX7_bandNow hS hC hO hlt) (Nat.le_of_ble_eq_true rfl) hS.k ⟨by decide, rfl⟩ hS.b0 rfl rfl (Nat.le_of_ble_eq_true rfl) ⟨Nat.le_refl _, Nat.le_refl _⟩ ?_
          refine aw_cV dX7_firstOf_51 kX7_185 mX7_rank (sX7_rank hS hC hO hlt hh) (Nat.le_of_ble_eq_true rfl) hS.k ⟨by decide, rfl⟩ hS.b0 rfl rfl (Nat.le_of_ble_eq_true rfl) ⟨Nat.le_refl _, Nat.le_refl _⟩ ?_
          refine aw_istore dX7_firstOf_54 (by decide) rfl ?_
          refine aw_aloadN dX7_firstOf_56 rfl ?_
          refine aw_ifnullN (tgt := 68) dX7_firstOf_58 rfl ?_
          refine aw_aload dX7_firstOf_68 rfl ?_
          refine aw_astore dX7_firstOf_70 (by decide) rfl ?_
          refine aw_iload dX7_firstOf_72 rfl ?_
          refine aw_istore dX7_firstOf_74 (by decide) rfl ?_
          refine aw_iinc dX7_firstOf_76 rfl (ginc rfl) (by decide) rfl ?_
          refine aw_goto (tgt := 9) dX7_firstOf_79 rfl ?_
          have e9 : fst (fun p => cRk N p h lo qu (mBand N p)) (bt x) (i + 1) = some i := fz_new hs (fun f q => by rw [hf] at q; cases q)
          have := ih hlt ((fun p => cRk N p h lo qu (mBand N p)) i)
          rw [e9] at this
          exact this _ _ (fun f q => by cases q; rfl)
        · have hs := (hbt hlt).mp c34
          refine aw_goto (tgt := 76) dX7_firstOf_37 rfl ?_
          refine aw_iinc dX7_firstOf_76 rfl (ginc rfl) (by decide) rfl ?_
          refine aw_goto (tgt := 9) dX7_firstOf_79 rfl ?_
          have e9 : fst (fun p => cRk N p h lo qu (mBand N p)) (bt x) (i + 1) = none := (fz_no hs).trans hf
          have := ih hlt l
          rw [e9] at this
          exact this _ _ (fun f q => by cases q)
    | some f =>
      have hl : l = cRk N f h lo qu (mBand N f) := hl f hf
      have hff := fst_lt hf
      refine aw_iload dX7_firstOf_9 rfl ?_
      refine aw_aload_n dX7_firstOf_11 rfl ?_
      refine aw_getI dX7_firstOf_12 fX7_62 hS.k hS.b0 rfl ?_
      refine AW.top (hC.np.trans hN.p) ?_
      refine aw_icmp_ge (tgt := 82) dX7_firstOf_15 rfl (fun c15 => ?_) (fun c15 => ?_)
      · have e := ge_t rfl (by omega) hi c15
        subst e
        refine aw_aload dX7_firstOf_82 rfl ?_
        refine aw_aret q rfl (Or.inr ⟨_, rfl⟩) dX7_firstOf_84 ⟨Nat.le_refl _, Nat.le_refl _⟩ ?_
        exact ⟨by rw [hf]; rfl, rfl, rfl, rfl, rfl, rfl⟩
      · have hlt := ge_f rfl (by omega) hi c15
        refine aw_aload_n dX7_firstOf_18 rfl ?_
        refine aw_getR (b := b + 12) dX7_firstOf_19 fX7_22 hS.k hS.b0 rfl hS.r1 ?_
        refine aw_iload dX7_firstOf_22 rfl ?_
        refine aw_houses (p := i) hS rfl (by omega) dX7_firstOf_24 ?_
        refine aw_astore dX7_firstOf_25 (by decide) rfl ?_
        refine aw_iload_n dX7_firstOf_27 rfl ?_
        refine aw_aload dX7_firstOf_28 rfl ?_
        refine aw_getI dX7_firstOf_30 fX7_103 (hS.po (by omega)) (hS.pb (by omega)) rfl ?_
        refine AW.top (hC.pi (by omega)) ?_
        refine aw_iand dX7_firstOf_33 ?_
        refine aw_if_ne (tgt := 40) dX7_firstOf_34 rfl (fun c34 => ?_) (fun c34 => ?_)
        · have hs : bt x i = true := by
            cases hb : bt x i with
            | true => rfl
            | false => exact absurd ((hbt hlt).mpr hb) c34
          refine aw_aload_n dX7_firstOf_40 rfl ?_
          refine aw_aload dX7_firstOf_41 rfl ?_
          refine aw_aload_n dX7_firstOf_43 rfl ?_
          refine aw_iload_n dX7_firstOf_44 rfl ?_
          refine aw_aload_n dX7_firstOf_45 rfl ?_
          refine aw_aload dX7_firstOf_46 rfl ?_
          refine aw_cV dX7_firstOf_48 kX7_182 mX7_bandNow (sX7_bandNow hS hC hO hlt) (Nat.le_of_ble_eq_true rfl) hS.k ⟨by decide, rfl⟩ hS.b0 rfl rfl (Nat.le_of_ble_eq_true rfl) ⟨Nat.le_refl _, Nat.le_refl _⟩ ?_
          refine aw_cV dX7_firstOf_51 kX7_185 mX7_rank (sX7_rank hS hC hO hlt hh) (Nat.le_of_ble_eq_true rfl) hS.k ⟨by decide, rfl⟩ hS.b0 rfl rfl (Nat.le_of_ble_eq_true rfl) ⟨Nat.le_refl _, Nat.le_refl _⟩ ?_
          refine aw_istore dX7_firstOf_54 (by decide) rfl ?_
          refine aw_aload dX7_firstOf_56 rfl ?_
          refine aw_ifnull dX7_firstOf_58 ?_
          refine aw_iload dX7_firstOf_61 rfl ?_
          refine aw_iload dX7_firstOf_63 rfl ?_
          refine aw_icmp_ge (tgt := 76) dX7_firstOf_65 rfl (fun c65 => ?_) (fun c65 => ?_)
          · refine aw_iinc dX7_firstOf_76 rfl (ginc rfl) (by decide) rfl ?_
            refine aw_goto (tgt := 9) dX7_firstOf_79 rfl ?_
            have e9 : fst (fun p => cRk N p h lo qu (mBand N p)) (bt x) (i + 1) = some f := (fz_old hf (by rw [← hl]; exact Int32.not_lt.mpr c65)).trans hf
            have := ih hlt l
            rw [e9] at this
            exact this _ _ (fun f q => by cases q; exact hl)
          · refine aw_aload dX7_firstOf_68 rfl ?_
            refine aw_astore dX7_firstOf_70 (by decide) rfl ?_
            refine aw_iload dX7_firstOf_72 rfl ?_
            refine aw_istore dX7_firstOf_74 (by decide) rfl ?_
            refine aw_iinc dX7_firstOf_76 rfl (ginc rfl) (by decide) rfl ?_
            refine aw_goto (tgt := 9) dX7_firstOf_79 rfl ?_
            have e9 : fst (fun p => cRk N p h lo qu (mBand N p)) (bt x) (i + 1) = some i := fz_new hs (fun f q => by rw [hf] at q; cases q; rw [← hl]; exact fa_of_nle c65)
            have := ih hlt ((fun p => cRk N p h lo qu (mBand N p)) i)
            rw [e9] at this
            exact this _ _ (fun f q => by cases q; rfl)
        · have hs := (hbt hlt).mp c34
          refine aw_goto (tgt := 76) dX7_firstOf_37 rfl ?_
          refine aw_iinc dX7_firstOf_76 rfl (ginc rfl) (by decide) rfl ?_
          refine aw_goto (tgt := 9) dX7_firstOf_79 rfl ?_
          have e9 : fst (fun p => cRk N p h lo qu (mBand N p)) (bt x) (i + 1) = some f := (fz_no hs).trans hf
          have := ih hlt l
          rw [e9] at this
          exact this _ _ (fun f q => by cases q; exact hl)
  refine aw_null dX7_firstOf_0 ?_
  refine aw_astoreN dX7_firstOf_1 (by decide) rfl ?_
  refine aw_iconst (v := 0) dX7_firstOf_3 rfl ?_
  refine aw_istore dX7_firstOf_4 (by decide) rfl ?_
  refine aw_iconst (v := 0) dX7_firstOf_6 rfl ?_
  refine aw_istore dX7_firstOf_7 (by decide) rfl ?_
  exact loop 0 (Nat.zero_le _) 0 none none (fun f q => by cases q)
set_option maxHeartbeats 4000000 in
set_option maxRecDepth 100000 in
theorem sX7_firstOfN (hS : IsS n sh b) (hC : CtS I L b N Q) (hO : Ok N) {x : Int32} {v : Nat} (hx : x = nI v) (hv : v < 1024) : CM yX7_firstOf cX7_firstOf 9 (Option.some (.object "HomesQueue$House")) 3 0 0 [.ref b, .int x, .null, .int 0] z n sh I L (Pst (some (oH b (fst (fun p => cRk N p 0 false false (mBand N p)) (bt x) (nPo N)))) z n sh I L) := by
  refine CM.go [some (.ref b), some (.int x), some (.null), some (.int 0), none, none, none, none, none] rfl rfl (Nat.le_of_ble_eq_true rfl) (fun X g q => ?_)
  have hN := hO.1
  have hR := hO.2.1
  have hB := hO.2.2.1
  have hE := hO.2.2.2
  have h8 := hN.p8
  have h10 := hN.h10
  have loop : ∀ i, i ≤ nPo N → ∀ (l : Int32) a7 a8, (∀ f, fst (fun p => cRk N p 0 false false (mBand N p)) (bt x) i = some f → l = (fun p => cRk N p 0 false false (mBand N p)) f) → AW X g RX7 cX7_firstOf 9 (3, 0, 0) (z, n, sh, 0, 0) (I) (L) 9 [some (.ref b), some (.int x), some (.null), some (.int 0), some (oH b (fst (fun p => cRk N p 0 false false (mBand N p)) (bt x) i)), some (.int l), some (.int (nI i)), a7, a8] [] := by
    refine up_loop (fun i hi ih l a7 a8 hl => ?_)
    have hbt : i < nPo N → (x &&& nI (2 ^ i) = 0 ↔ bt x i = false) := fun q => bt_and hx hv (by omega)
    cases hf : fst (fun p => cRk N p 0 false false (mBand N p)) (bt x) i with
    | none =>
      refine aw_iload dX7_firstOf_9 rfl ?_
      refine aw_aload_n dX7_firstOf_11 rfl ?_
      refine aw_getI dX7_firstOf_12 fX7_62 hS.k hS.b0 rfl ?_
      refine AW.top (hC.np.trans hN.p) ?_
      refine aw_icmp_ge (tgt := 82) dX7_firstOf_15 rfl (fun c15 => ?_) (fun c15 => ?_)
      · have e := ge_t rfl (by omega) hi c15
        subst e
        refine aw_aloadN dX7_firstOf_82 rfl ?_
        refine aw_aret q rfl (Or.inl rfl) dX7_firstOf_84 ⟨Nat.le_refl _, Nat.le_refl _⟩ ?_
        exact ⟨by rw [hf]; rfl, rfl, rfl, rfl, rfl, rfl⟩
      · have hlt := ge_f rfl (by omega) hi c15
        refine aw_aload_n dX7_firstOf_18 rfl ?_
        refine aw_getR (b := b + 12) dX7_firstOf_19 fX7_22 hS.k hS.b0 rfl hS.r1 ?_
        refine aw_iload dX7_firstOf_22 rfl ?_
        refine aw_houses (p := i) hS rfl (by omega) dX7_firstOf_24 ?_
        refine aw_astore dX7_firstOf_25 (by decide) rfl ?_
        refine aw_iload_n dX7_firstOf_27 rfl ?_
        refine aw_aload dX7_firstOf_28 rfl ?_
        refine aw_getI dX7_firstOf_30 fX7_103 (hS.po (by omega)) (hS.pb (by omega)) rfl ?_
        refine AW.top (hC.pi (by omega)) ?_
        refine aw_iand dX7_firstOf_33 ?_
        refine aw_if_ne (tgt := 40) dX7_firstOf_34 rfl (fun c34 => ?_) (fun c34 => ?_)
        · have hs : bt x i = true := by
            cases hb : bt x i with
            | true => rfl
            | false => exact absurd ((hbt hlt).mpr hb) c34
          refine aw_aload_n dX7_firstOf_40 rfl ?_
          refine aw_aload dX7_firstOf_41 rfl ?_
          refine aw_aload_nN dX7_firstOf_43 rfl ?_
          refine aw_iload_n dX7_firstOf_44 rfl ?_
          refine aw_aload_n dX7_firstOf_45 rfl ?_
          refine aw_aload dX7_firstOf_46 rfl ?_
          refine aw_cV dX7_firstOf_48 kX7_182 mX7_bandNow (sX7_bandNow hS hC hO hlt) (Nat.le_of_ble_eq_true rfl) hS.k ⟨by decide, rfl⟩ hS.b0 rfl rfl (Nat.le_of_ble_eq_true rfl) ⟨Nat.le_refl _, Nat.le_refl _⟩ ?_
          refine aw_cV dX7_firstOf_51 kX7_185 mX7_rank (sX7_rankN hS hC hO hlt rfl) (Nat.le_of_ble_eq_true rfl) hS.k ⟨by decide, rfl⟩ hS.b0 rfl rfl (Nat.le_of_ble_eq_true rfl) ⟨Nat.le_refl _, Nat.le_refl _⟩ ?_
          refine aw_istore dX7_firstOf_54 (by decide) rfl ?_
          refine aw_aloadN dX7_firstOf_56 rfl ?_
          refine aw_ifnullN (tgt := 68) dX7_firstOf_58 rfl ?_
          refine aw_aload dX7_firstOf_68 rfl ?_
          refine aw_astore dX7_firstOf_70 (by decide) rfl ?_
          refine aw_iload dX7_firstOf_72 rfl ?_
          refine aw_istore dX7_firstOf_74 (by decide) rfl ?_
          refine aw_iinc dX7_firstOf_76 rfl (ginc rfl) (by decide) rfl ?_
          refine aw_goto (tgt := 9) dX7_firstOf_79 rfl ?_
          have e9 : fst (fun p => cRk N p 0 false false (mBand N p)) (bt x) (i + 1) = some i := fz_new hs (fun f q => by rw [hf] at q; cases q)
          have := ih hlt ((fun p => cRk N p 0 false false (mBand N p)) i)
          rw [e9] at this
          exact this _ _ (fun f q => by cases q; rfl)
        · have hs := (hbt hlt).mp c34
          refine aw_goto (tgt := 76) dX7_firstOf_37 rfl ?_
          refine aw_iinc dX7_firstOf_76 rfl (ginc rfl) (by decide) rfl ?_
          refine aw_goto (tgt := 9) dX7_firstOf_79 rfl ?_
          have e9 : fst (fun p => cRk N p 0 false false (mBand N p)) (bt x) (i + 1) = none := (fz_no hs).trans hf
          have := ih hlt l
          rw [e9] at this
          exact this _ _ (fun f q => by cases q)
    | some f =>
      have hl : l = cRk N f 0 false false (mBand N f) := hl f hf
      have hff := fst_lt hf
      refine aw_iload dX7_firstOf_9 rfl ?_
      refine aw_aload_n dX7_firstOf_11 rfl ?_
      refine aw_getI dX7_firstOf_12 fX7_62 hS.k hS.b0 rfl ?_
      refine AW.top (hC.np.trans hN.p) ?_
      refine aw_icmp_ge (tgt := 82) dX7_firstOf_15 rfl (fun c15 => ?_) (fun c15 => ?_)
      · have e := ge_t rfl (by omega) hi c15
        subst e
        refine aw_aload dX7_firstOf_82 rfl ?_
        refine aw_aret q rfl (Or.inr ⟨_, rfl⟩) dX7_firstOf_84 ⟨Nat.le_refl _, Nat.le_refl _⟩ ?_
        exact ⟨by rw [hf]; rfl, rfl, rfl, rfl, rfl, rfl⟩
      · have hlt := ge_f rfl (by omega) hi c15
        refine aw_aload_n dX7_firstOf_18 rfl ?_
        refine aw_getR (b := b + 12) dX7_firstOf_19 fX7_22 hS.k hS.b0 rfl hS.r1 ?_
        refine aw_iload dX7_firstOf_22 rfl ?_
        refine aw_houses (p := i) hS rfl (by omega) dX7_firstOf_24 ?_
        refine aw_astore dX7_firstOf_25 (by decide) rfl ?_
        refine aw_iload_n dX7_firstOf_27 rfl ?_
        refine aw_aload dX7_firstOf_28 rfl ?_
        refine aw_getI dX7_firstOf_30 fX7_103 (hS.po (by omega)) (hS.pb (by omega)) rfl ?_
        refine AW.top (hC.pi (by omega)) ?_
        refine aw_iand dX7_firstOf_33 ?_
        refine aw_if_ne (tgt := 40) dX7_firstOf_34 rfl (fun c34 => ?_) (fun c34 => ?_)
        · have hs : bt x i = true := by
            cases hb : bt x i with
            | true => rfl
            | false => exact absurd ((hbt hlt).mpr hb) c34
          refine aw_aload_n dX7_firstOf_40 rfl ?_
          refine aw_aload dX7_firstOf_41 rfl ?_
          refine aw_aload_nN dX7_firstOf_43 rfl ?_
          refine aw_iload_n dX7_firstOf_44 rfl ?_
          refine aw_aload_n dX7_firstOf_45 rfl ?_
          refine aw_aload dX7_firstOf_46 rfl ?_
          refine aw_cV dX7_firstOf_48 kX7_182 mX7_bandNow (sX7_bandNow hS hC hO hlt) (Nat.le_of_ble_eq_true rfl) hS.k ⟨by decide, rfl⟩ hS.b0 rfl rfl (Nat.le_of_ble_eq_true rfl) ⟨Nat.le_refl _, Nat.le_refl _⟩ ?_
          refine aw_cV dX7_firstOf_51 kX7_185 mX7_rank (sX7_rankN hS hC hO hlt rfl) (Nat.le_of_ble_eq_true rfl) hS.k ⟨by decide, rfl⟩ hS.b0 rfl rfl (Nat.le_of_ble_eq_true rfl) ⟨Nat.le_refl _, Nat.le_refl _⟩ ?_
          refine aw_istore dX7_firstOf_54 (by decide) rfl ?_
          refine aw_aload dX7_firstOf_56 rfl ?_
          refine aw_ifnull dX7_firstOf_58 ?_
          refine aw_iload dX7_firstOf_61 rfl ?_
          refine aw_iload dX7_firstOf_63 rfl ?_
          refine aw_icmp_ge (tgt := 76) dX7_firstOf_65 rfl (fun c65 => ?_) (fun c65 => ?_)
          · refine aw_iinc dX7_firstOf_76 rfl (ginc rfl) (by decide) rfl ?_
            refine aw_goto (tgt := 9) dX7_firstOf_79 rfl ?_
            have e9 : fst (fun p => cRk N p 0 false false (mBand N p)) (bt x) (i + 1) = some f := (fz_old hf (by rw [← hl]; exact Int32.not_lt.mpr c65)).trans hf
            have := ih hlt l
            rw [e9] at this
            exact this _ _ (fun f q => by cases q; exact hl)
          · refine aw_aload dX7_firstOf_68 rfl ?_
            refine aw_astore dX7_firstOf_70 (by decide) rfl ?_
            refine aw_iload dX7_firstOf_72 rfl ?_
            refine aw_istore dX7_firstOf_74 (by decide) rfl ?_
            refine aw_iinc dX7_firstOf_76 rfl (ginc rfl) (by decide) rfl ?_
            refine aw_goto (tgt := 9) dX7_firstOf_79 rfl ?_
            have e9 : fst (fun p => cRk N p 0 false false (mBand N p)) (bt x) (i + 1) = some i := fz_new hs (fun f q => by rw [hf] at q; cases q; rw [← hl]; exact fa_of_nle c65)
            have := ih hlt ((fun p => cRk N p 0 false false (mBand N p)) i)
            rw [e9] at this
            exact this _ _ (fun f q => by cases q; rfl)
        · have hs := (hbt hlt).mp c34
          refine aw_goto (tgt := 76) dX7_firstOf_37 rfl ?_
          refine aw_iinc dX7_firstOf_76 rfl (ginc rfl) (by decide) rfl ?_
          refine aw_goto (tgt := 9) dX7_firstOf_79 rfl ?_
          have e9 : fst (fun p => cRk N p 0 false false (mBand N p)) (bt x) (i + 1) = some f := (fz_no hs).trans hf
          have := ih hlt l
          rw [e9] at this
          exact this _ _ (fun f q => by cases q; exact hl)
  refine aw_null dX7_firstOf_0 ?_
  refine aw_astoreN dX7_firstOf_1 (by decide) rfl ?_
  refine aw_iconst (v := 0) dX7_firstOf_3 rfl ?_
  refine aw_istore dX7_firstOf_4 (by decide) rfl ?_
  refine aw_iconst (v := 0) dX7_firstOf_6 rfl ?_
  refine aw_istore dX7_firstOf_7 (by decide) rfl ?_
  exact loop 0 (Nat.zero_le _) 0 none none (fun f q => by cases q)
theorem firstAs {y : MethodName} {cc : ByteArray} {nL : Nat} {ret : Option FieldType} {d : Nat} {vs : List Value} {f g : Option Nat} (h : f = g) (k : CM y cc nL ret d 0 0 vs z n sh I L (Pst (some (oH b f)) z n sh I L)) : CM y cc nL ret d 0 0 vs z n sh I L (Pst (some (oH b g)) z n sh I L) := h ▸ k
set_option maxHeartbeats 4000000 in
set_option maxRecDepth 100000 in
theorem sX7_kthOf (hS : IsS n sh b) (hC : CtS I L b N Q) (hO : Ok N) {x : Int32} {v : Nat} (hx : x = nI v) (hv : v < 1024) {y : Int32} {k : Nat} (hy : y = nI k) (hk : k < 2 ^ 31) {h : Nat} (hh : h < nHo N) : CM yX7_kthOf cX7_kthOf 8 (Option.some (.object "HomesQueue$House")) 4 0 0 [.ref b, .int x, .ref (b + 2 + h), .int y] z n sh I L (Pst (some (oH b (kO (fun p => cRk N p h (mLocal N h) (mQuota N) (mBand N p)) (nPo N) x k))) z n sh I L) := by
  refine CM.go [some (.ref b), some (.int x), some (.ref (b + 2 + h)), some (.int y), none, none, none, none] rfl rfl (Nat.le_of_ble_eq_true rfl) (fun X g q => ?_)
  have hN := hO.1
  have hR := hO.2.1
  have hB := hO.2.2.1
  have hE := hO.2.2.2
  have h8 := hN.p8
  have h10 := hN.h10
  have loop : ∀ i, i ≤ nPo N → ∀ a7, i ≤ k → AW X g RX7 cX7_kthOf 8 (4, 0, 0) (z, n, sh, 0, 0) (I) (L) 21 [some (.ref b), some (.int x), some (.ref (b + 2 + h)), some (.int y), some (.int (itr (kDr (fun p => cRk N p h (mLocal N h) (mQuota N) (mBand N p)) (nPo N)) i x)), some (.int (cTrn N h)), some (.int (nI i)), a7] [] := by
    refine up_loop (fun i hi ih a7 hik => ?_)
    obtain ⟨u, hu, eu⟩ := kDr_itr (w := (fun p => cRk N p h (mLocal N h) (mQuota N) (mBand N p))) h8 i hv
    rw [← hx] at eu
    have hnx : ∀ f, fst (fun p => cRk N p h (mLocal N h) (mQuota N) (mBand N p)) (bt (itr (kDr (fun p => cRk N p h (mLocal N h) (mQuota N) (mBand N p)) (nPo N)) i x)) (nPo N) = some f → itr (kDr (fun p => cRk N p h (mLocal N h) (mQuota N) (mBand N p)) (nPo N)) (i + 1) x = iDrop (itr (kDr (fun p => cRk N p h (mLocal N h) (mQuota N) (mBand N p)) (nPo N)) i x) (nI f) := fun f q => by
      rw [itr_succ]
      unfold kDr at q ⊢
      rw [q]
    cases hf : fst (fun p => cRk N p h (mLocal N h) (mQuota N) (mBand N p)) (bt (itr (kDr (fun p => cRk N p h (mLocal N h) (mQuota N) (mBand N p)) (nPo N)) i x)) (nPo N) with
    | none =>
      refine aw_iload dX7_kthOf_21 rfl ?_
      refine aw_aload_n dX7_kthOf_23 rfl ?_
      refine aw_getI dX7_kthOf_24 fX7_62 hS.k hS.b0 rfl ?_
      refine AW.top (hC.np.trans hN.p) ?_
      refine aw_icmp_ge (tgt := 73) dX7_kthOf_27 rfl (fun c27 => ?_) (fun c27 => ?_)
      · have e := ge_t rfl (by omega) hi c27
        subst e
        refine aw_null dX7_kthOf_73 ?_
        refine aw_aret q rfl (Or.inl rfl) dX7_kthOf_74 ⟨Nat.le_refl _, Nat.le_refl _⟩ ?_
        refine ⟨?_, rfl, rfl, rfl, rfl, rfl⟩
        show some (oH b none) = some (oH b (kO _ _ _ _))
        unfold kO
        rw [if_neg (by omega)]
      · have hlt := ge_f rfl (by omega) hi c27
        refine aw_aload_n dX7_kthOf_30 rfl ?_
        refine aw_iload dX7_kthOf_31 rfl ?_
        refine aw_aload_n dX7_kthOf_33 rfl ?_
        refine aw_iload dX7_kthOf_34 rfl ?_
        refine aw_cV dX7_kthOf_36 kX7_193 mX7_firstOf (firstAs hf (sX7_firstOf hS hC hO eu hu hh (lo := mLocal N h) (qu := mQuota N))) (Nat.le_of_ble_eq_true rfl) hS.k ⟨by decide, rfl⟩ hS.b0 rfl rfl (Nat.le_of_ble_eq_true rfl) ⟨Nat.le_refl _, Nat.le_refl _⟩ ?_
        refine aw_astoreN dX7_kthOf_39 (by decide) rfl ?_
        refine aw_aloadN dX7_kthOf_41 rfl ?_
        refine aw_ifnullN (tgt := 52) dX7_kthOf_43 rfl ?_
        refine aw_aloadN dX7_kthOf_52 rfl ?_
        refine aw_aret q rfl (Or.inl rfl) dX7_kthOf_54 ⟨Nat.le_refl _, Nat.le_refl _⟩ ?_
        refine ⟨?_, rfl, rfl, rfl, rfl, rfl⟩
        show some Value.null = some (oH b (kO _ _ _ _))
        unfold kO
        split
        · rw [show k = i + (k - i) by omega, itr_add, kDr_none hf, hf]
          rfl
        · rfl
    | some f =>
      have hff := fst_lt hf
      refine aw_iload dX7_kthOf_21 rfl ?_
      refine aw_aload_n dX7_kthOf_23 rfl ?_
      refine aw_getI dX7_kthOf_24 fX7_62 hS.k hS.b0 rfl ?_
      refine AW.top (hC.np.trans hN.p) ?_
      refine aw_icmp_ge (tgt := 73) dX7_kthOf_27 rfl (fun c27 => ?_) (fun c27 => ?_)
      · have e := ge_t rfl (by omega) hi c27
        subst e
        refine aw_null dX7_kthOf_73 ?_
        refine aw_aret q rfl (Or.inl rfl) dX7_kthOf_74 ⟨Nat.le_refl _, Nat.le_refl _⟩ ?_
        refine ⟨?_, rfl, rfl, rfl, rfl, rfl⟩
        show some (oH b none) = some (oH b (kO _ _ _ _))
        unfold kO
        rw [if_neg (by omega)]
      · have hlt := ge_f rfl (by omega) hi c27
        refine aw_aload_n dX7_kthOf_30 rfl ?_
        refine aw_iload dX7_kthOf_31 rfl ?_
        refine aw_aload_n dX7_kthOf_33 rfl ?_
        refine aw_iload dX7_kthOf_34 rfl ?_
        refine aw_cV dX7_kthOf_36 kX7_193 mX7_firstOf (firstAs hf (sX7_firstOf hS hC hO eu hu hh (lo := mLocal N h) (qu := mQuota N))) (Nat.le_of_ble_eq_true rfl) hS.k ⟨by decide, rfl⟩ hS.b0 rfl rfl (Nat.le_of_ble_eq_true rfl) ⟨Nat.le_refl _, Nat.le_refl _⟩ ?_
        refine aw_astore dX7_kthOf_39 (by decide) rfl ?_
        refine aw_aload dX7_kthOf_41 rfl ?_
        refine aw_ifnull dX7_kthOf_43 ?_
        refine aw_iload dX7_kthOf_46 rfl ?_
        refine aw_iload_n dX7_kthOf_48 rfl ?_
        refine aw_icmp_ne (tgt := 55) dX7_kthOf_49 rfl (fun c49 => ?_) (fun c49 => ?_)
        · have hne : i ≠ k := fun q => c49 (by rw [hy, q])
          refine aw_iload dX7_kthOf_55 rfl ?_
          refine aw_aload dX7_kthOf_57 rfl ?_
          refine aw_getI dX7_kthOf_59 fX7_103 (hS.po (by omega)) (hS.pb (by omega)) rfl ?_
          refine AW.top (hC.pi (by omega)) ?_
          refine aw_iconst (v := (-1)) dX7_kthOf_62 rfl ?_
          refine aw_ixor dX7_kthOf_63 ?_
          refine aw_iand dX7_kthOf_64 ?_
          refine aw_istore dX7_kthOf_65 (by decide) rfl ?_
          refine aw_iinc dX7_kthOf_67 rfl (ginc rfl) (by decide) rfl ?_
          refine aw_goto (tgt := 21) dX7_kthOf_70 rfl ?_
          have := ih hlt
          rw [hnx f hf] at this
          unfold iDrop at this
          rw [shl_bit f (by omega)] at this
          exact this _ (by omega)
        · have e9 : i = k := by
            have c49 : nI i = y := c49
            rw [hy] at c49
            exact (nI_eq (by omega) hk).mp c49
          subst e9
          refine aw_aload dX7_kthOf_52 rfl ?_
          refine aw_aret q rfl (Or.inr ⟨_, rfl⟩) dX7_kthOf_54 ⟨Nat.le_refl _, Nat.le_refl _⟩ ?_
          refine ⟨?_, rfl, rfl, rfl, rfl, rfl⟩
          show some (oH b (some f)) = some (oH b (kO _ _ _ _))
          unfold kO
          rw [if_pos hlt, hf]
  refine aw_iload_n dX7_kthOf_0 rfl ?_
  refine aw_istore dX7_kthOf_1 (by decide) rfl ?_
  refine aw_aload_n dX7_kthOf_3 rfl ?_
  refine aw_ifnonnull (tgt := 11) dX7_kthOf_4 rfl ?_
  refine aw_aload_n dX7_kthOf_11 rfl ?_
  refine aw_aload_n dX7_kthOf_12 rfl ?_
  refine aw_cV dX7_kthOf_13 kX7_189 mX7_turnsAt (sX7_turnsAt hS hC hO hh) (Nat.le_of_ble_eq_true rfl) hS.k ⟨by decide, rfl⟩ hS.b0 rfl rfl (Nat.le_of_ble_eq_true rfl) ⟨Nat.le_refl _, Nat.le_refl _⟩ ?_
  refine aw_istore dX7_kthOf_16 (by decide) rfl ?_
  refine aw_iconst (v := 0) dX7_kthOf_18 rfl ?_
  refine aw_istore dX7_kthOf_19 (by decide) rfl ?_
  exact loop 0 (Nat.zero_le _) none (Nat.zero_le _)
set_option maxHeartbeats 4000000 in
set_option maxRecDepth 100000 in
theorem sX7_kthOfN (hS : IsS n sh b) (hC : CtS I L b N Q) (hO : Ok N) {x : Int32} {v : Nat} (hx : x = nI v) (hv : v < 1024) {y : Int32} {k : Nat} (hy : y = nI k) (hk : k < 2 ^ 31) : CM yX7_kthOf cX7_kthOf 8 (Option.some (.object "HomesQueue$House")) 4 0 0 [.ref b, .int x, .null, .int y] z n sh I L (Pst (some (oH b (kO (fun p => cRk N p 0 false false (mBand N p)) (nPo N) x k))) z n sh I L) := by
  refine CM.go [some (.ref b), some (.int x), some (.null), some (.int y), none, none, none, none] rfl rfl (Nat.le_of_ble_eq_true rfl) (fun X g q => ?_)
  have hN := hO.1
  have hR := hO.2.1
  have hB := hO.2.2.1
  have hE := hO.2.2.2
  have h8 := hN.p8
  have h10 := hN.h10
  have loop : ∀ i, i ≤ nPo N → ∀ a7, i ≤ k → AW X g RX7 cX7_kthOf 8 (4, 0, 0) (z, n, sh, 0, 0) (I) (L) 21 [some (.ref b), some (.int x), some (.null), some (.int y), some (.int (itr (kDr (fun p => cRk N p 0 false false (mBand N p)) (nPo N)) i x)), some (.int 0), some (.int (nI i)), a7] [] := by
    refine up_loop (fun i hi ih a7 hik => ?_)
    obtain ⟨u, hu, eu⟩ := kDr_itr (w := (fun p => cRk N p 0 false false (mBand N p))) h8 i hv
    rw [← hx] at eu
    have hnx : ∀ f, fst (fun p => cRk N p 0 false false (mBand N p)) (bt (itr (kDr (fun p => cRk N p 0 false false (mBand N p)) (nPo N)) i x)) (nPo N) = some f → itr (kDr (fun p => cRk N p 0 false false (mBand N p)) (nPo N)) (i + 1) x = iDrop (itr (kDr (fun p => cRk N p 0 false false (mBand N p)) (nPo N)) i x) (nI f) := fun f q => by
      rw [itr_succ]
      unfold kDr at q ⊢
      rw [q]
    cases hf : fst (fun p => cRk N p 0 false false (mBand N p)) (bt (itr (kDr (fun p => cRk N p 0 false false (mBand N p)) (nPo N)) i x)) (nPo N) with
    | none =>
      refine aw_iload dX7_kthOf_21 rfl ?_
      refine aw_aload_n dX7_kthOf_23 rfl ?_
      refine aw_getI dX7_kthOf_24 fX7_62 hS.k hS.b0 rfl ?_
      refine AW.top (hC.np.trans hN.p) ?_
      refine aw_icmp_ge (tgt := 73) dX7_kthOf_27 rfl (fun c27 => ?_) (fun c27 => ?_)
      · have e := ge_t rfl (by omega) hi c27
        subst e
        refine aw_null dX7_kthOf_73 ?_
        refine aw_aret q rfl (Or.inl rfl) dX7_kthOf_74 ⟨Nat.le_refl _, Nat.le_refl _⟩ ?_
        refine ⟨?_, rfl, rfl, rfl, rfl, rfl⟩
        show some (oH b none) = some (oH b (kO _ _ _ _))
        unfold kO
        rw [if_neg (by omega)]
      · have hlt := ge_f rfl (by omega) hi c27
        refine aw_aload_n dX7_kthOf_30 rfl ?_
        refine aw_iload dX7_kthOf_31 rfl ?_
        refine aw_aload_nN dX7_kthOf_33 rfl ?_
        refine aw_iload dX7_kthOf_34 rfl ?_
        refine aw_cV dX7_kthOf_36 kX7_193 mX7_firstOf (firstAs hf (sX7_firstOfN hS hC hO eu hu)) (Nat.le_of_ble_eq_true rfl) hS.k ⟨by decide, rfl⟩ hS.b0 rfl rfl (Nat.le_of_ble_eq_true rfl) ⟨Nat.le_refl _, Nat.le_refl _⟩ ?_
        refine aw_astoreN dX7_kthOf_39 (by decide) rfl ?_
        refine aw_aloadN dX7_kthOf_41 rfl ?_
        refine aw_ifnullN (tgt := 52) dX7_kthOf_43 rfl ?_
        refine aw_aloadN dX7_kthOf_52 rfl ?_
        refine aw_aret q rfl (Or.inl rfl) dX7_kthOf_54 ⟨Nat.le_refl _, Nat.le_refl _⟩ ?_
        refine ⟨?_, rfl, rfl, rfl, rfl, rfl⟩
        show some Value.null = some (oH b (kO _ _ _ _))
        unfold kO
        split
        · rw [show k = i + (k - i) by omega, itr_add, kDr_none hf, hf]
          rfl
        · rfl
    | some f =>
      have hff := fst_lt hf
      refine aw_iload dX7_kthOf_21 rfl ?_
      refine aw_aload_n dX7_kthOf_23 rfl ?_
      refine aw_getI dX7_kthOf_24 fX7_62 hS.k hS.b0 rfl ?_
      refine AW.top (hC.np.trans hN.p) ?_
      refine aw_icmp_ge (tgt := 73) dX7_kthOf_27 rfl (fun c27 => ?_) (fun c27 => ?_)
      · have e := ge_t rfl (by omega) hi c27
        subst e
        refine aw_null dX7_kthOf_73 ?_
        refine aw_aret q rfl (Or.inl rfl) dX7_kthOf_74 ⟨Nat.le_refl _, Nat.le_refl _⟩ ?_
        refine ⟨?_, rfl, rfl, rfl, rfl, rfl⟩
        show some (oH b none) = some (oH b (kO _ _ _ _))
        unfold kO
        rw [if_neg (by omega)]
      · have hlt := ge_f rfl (by omega) hi c27
        refine aw_aload_n dX7_kthOf_30 rfl ?_
        refine aw_iload dX7_kthOf_31 rfl ?_
        refine aw_aload_nN dX7_kthOf_33 rfl ?_
        refine aw_iload dX7_kthOf_34 rfl ?_
        refine aw_cV dX7_kthOf_36 kX7_193 mX7_firstOf (firstAs hf (sX7_firstOfN hS hC hO eu hu)) (Nat.le_of_ble_eq_true rfl) hS.k ⟨by decide, rfl⟩ hS.b0 rfl rfl (Nat.le_of_ble_eq_true rfl) ⟨Nat.le_refl _, Nat.le_refl _⟩ ?_
        refine aw_astore dX7_kthOf_39 (by decide) rfl ?_
        refine aw_aload dX7_kthOf_41 rfl ?_
        refine aw_ifnull dX7_kthOf_43 ?_
        refine aw_iload dX7_kthOf_46 rfl ?_
        refine aw_iload_n dX7_kthOf_48 rfl ?_
        refine aw_icmp_ne (tgt := 55) dX7_kthOf_49 rfl (fun c49 => ?_) (fun c49 => ?_)
        · have hne : i ≠ k := fun q => c49 (by rw [hy, q])
          refine aw_iload dX7_kthOf_55 rfl ?_
          refine aw_aload dX7_kthOf_57 rfl ?_
          refine aw_getI dX7_kthOf_59 fX7_103 (hS.po (by omega)) (hS.pb (by omega)) rfl ?_
          refine AW.top (hC.pi (by omega)) ?_
          refine aw_iconst (v := (-1)) dX7_kthOf_62 rfl ?_
          refine aw_ixor dX7_kthOf_63 ?_
          refine aw_iand dX7_kthOf_64 ?_
          refine aw_istore dX7_kthOf_65 (by decide) rfl ?_
          refine aw_iinc dX7_kthOf_67 rfl (ginc rfl) (by decide) rfl ?_
          refine aw_goto (tgt := 21) dX7_kthOf_70 rfl ?_
          have := ih hlt
          rw [hnx f hf] at this
          unfold iDrop at this
          rw [shl_bit f (by omega)] at this
          exact this _ (by omega)
        · have e9 : i = k := by
            have c49 : nI i = y := c49
            rw [hy] at c49
            exact (nI_eq (by omega) hk).mp c49
          subst e9
          refine aw_aload dX7_kthOf_52 rfl ?_
          refine aw_aret q rfl (Or.inr ⟨_, rfl⟩) dX7_kthOf_54 ⟨Nat.le_refl _, Nat.le_refl _⟩ ?_
          refine ⟨?_, rfl, rfl, rfl, rfl, rfl⟩
          show some (oH b (some f)) = some (oH b (kO _ _ _ _))
          unfold kO
          rw [if_pos hlt, hf]
  refine aw_iload_n dX7_kthOf_0 rfl ?_
  refine aw_istore dX7_kthOf_1 (by decide) rfl ?_
  refine aw_aload_nN dX7_kthOf_3 rfl ?_
  refine aw_ifnonnullN dX7_kthOf_4 ?_
  refine aw_iconst (v := 0) dX7_kthOf_7 rfl ?_
  refine aw_goto (tgt := 16) dX7_kthOf_8 rfl ?_
  refine aw_istore dX7_kthOf_16 (by decide) rfl ?_
  refine aw_iconst (v := 0) dX7_kthOf_18 rfl ?_
  refine aw_istore dX7_kthOf_19 (by decide) rfl ?_
  exact loop 0 (Nat.zero_le _) none (Nat.zero_le _)
set_option maxHeartbeats 4000000 in
set_option maxRecDepth 100000 in
theorem sX7_countAhead (hS : IsS n sh b) (hC : CtS I L b N Q) (hO : Ok N) {p : Nat} (hp : p < nPo N) {h : Nat} (hh : h < nHo N) {band x : Int32} {v : Nat} (hx : x = nI v) (hv : v < 1024)  : CM yX7_countAhead cX7_countAhead 11 (Option.some .int) 4 0 0 [.ref b, .ref (b + 13 + 2 * p), .ref (b + 2 + h), .int band, .int x] z n sh I L (Pst (some (.int (nI (cAh N p h band x)))) z n sh I L) := by
  refine CM.go [some (.ref b), some (.ref (b + 13 + 2 * p)), some (.ref (b + 2 + h)), some (.int band), some (.int x), none, none, none, none, none, none] rfl rfl (Nat.le_of_ble_eq_true rfl) (fun X g q => ?_)
  have hN := hO.1
  have hR := hO.2.1
  have hB := hO.2.2.1
  have hE := hO.2.2.2
  have h8 := hN.p8
  have h10 := hN.h10
  have loop : ∀ i, i ≤ nPo N → ∀ a9 a10, AW X g RX7 cX7_countAhead 11 (4, 0, 0) (z, n, sh, 0, 0) (I) (L) 24 [some (.ref b), some (.ref (b + 13 + 2 * p)), some (.ref (b + 2 + h)), some (.int band), some (.int x), some (.int (cTrn N h)), some (.int (cRk N p h (mLocal N h) (mQuota N) band)), some (.int (nI (fa_cnt (fun q => !decide (q = p) && bt x q && decide (cRk N q h (mLocal N h) (mQuota N) (mBand N q) < cRk N p h (mLocal N h) (mQuota N) band)) i))), some (.int (nI i)), a9, a10] [] := by
    refine up_loop (fun i hi ih a9 a10 => ?_)
    refine aw_iload dX7_countAhead_24 rfl ?_
    refine aw_aload_n dX7_countAhead_26 rfl ?_
    refine aw_getI dX7_countAhead_27 fX7_62 hS.k hS.b0 rfl ?_
    refine AW.top (hC.np.trans hN.p) ?_
    refine aw_icmp_ge (tgt := 106) dX7_countAhead_30 rfl (fun c30 => ?_) (fun c30 => ?_)
    · have e := ge_t rfl (by omega) hi c30
      subst e
      refine aw_iload dX7_countAhead_106 rfl ?_
      refine aw_iret q rfl dX7_countAhead_108 ⟨Nat.le_refl _, Nat.le_refl _⟩ ?_
      exact Pst.rf
    · have hlt := ge_f rfl (by omega) hi c30
      refine aw_aload_n dX7_countAhead_33 rfl ?_
      refine aw_getR (b := b + 12) dX7_countAhead_34 fX7_22 hS.k hS.b0 rfl hS.r1 ?_
      refine aw_iload dX7_countAhead_37 rfl ?_
      refine aw_houses (p := i) hS rfl (by omega) dX7_countAhead_39 ?_
      refine aw_astore dX7_countAhead_40 (by decide) rfl ?_
      refine aw_aload dX7_countAhead_42 rfl ?_
      refine aw_getI dX7_countAhead_44 fX7_179 (hS.po (by omega)) (hS.pb (by omega)) rfl ?_
      refine AW.top (hC.pn (by omega)) ?_
      refine aw_aload_n dX7_countAhead_47 rfl ?_
      refine aw_getI dX7_countAhead_48 fX7_179 (hS.po (by omega)) (hS.pb (by omega)) rfl ?_
      refine AW.top (hC.pn (by omega)) ?_
      refine aw_icmp_eq (tgt := 69) dX7_countAhead_51 rfl (fun c51 => ?_) (fun c51 => ?_)
      · refine aw_iconst (v := 0) dX7_countAhead_69 rfl ?_
        refine aw_istore dX7_countAhead_70 (by decide) rfl ?_
        refine aw_iload dX7_countAhead_72 rfl ?_
        refine aw_if_eq (tgt := 100) dX7_countAhead_74 rfl (fun c74 => ?_) (fun c74 => ?_)
        · skip
          refine aw_iinc dX7_countAhead_100 rfl (ginc rfl) (by decide) rfl ?_
          refine aw_goto (tgt := 24) dX7_countAhead_103 rfl ?_
          have e9 : i = p := (nI_eq (by omega) (by omega)).mp c51
          subst e9
          have := ih hlt
          rw [fa_cnt_no (by simp)] at this
          exact this _ _
        · exact absurd rfl c74
      · refine aw_iload dX7_countAhead_54 rfl ?_
        refine aw_aload dX7_countAhead_56 rfl ?_
        refine aw_getI dX7_countAhead_58 fX7_103 (hS.po (by omega)) (hS.pb (by omega)) rfl ?_
        refine AW.top (hC.pi (by omega)) ?_
        refine aw_iand dX7_countAhead_61 ?_
        refine aw_if_eq (tgt := 69) dX7_countAhead_62 rfl (fun c62 => ?_) (fun c62 => ?_)
        · refine aw_iconst (v := 0) dX7_countAhead_69 rfl ?_
          refine aw_istore dX7_countAhead_70 (by decide) rfl ?_
          refine aw_iload dX7_countAhead_72 rfl ?_
          refine aw_if_eq (tgt := 100) dX7_countAhead_74 rfl (fun c74 => ?_) (fun c74 => ?_)
          · skip
            refine aw_iinc dX7_countAhead_100 rfl (ginc rfl) (by decide) rfl ?_
            refine aw_goto (tgt := 24) dX7_countAhead_103 rfl ?_
            have hbt := bt_and hx hv (show i < 10 by omega)
            have b9 := hbt.mp c62
            have := ih hlt
            rw [fa_cnt_no (by simp [b9])] at this
            exact this _ _
          · exact absurd rfl c74
        · refine aw_iconst (v := 1) dX7_countAhead_65 rfl ?_
          refine aw_goto (tgt := 70) dX7_countAhead_66 rfl ?_
          refine aw_istore dX7_countAhead_70 (by decide) rfl ?_
          refine aw_iload dX7_countAhead_72 rfl ?_
          refine aw_if_eq (tgt := 100) dX7_countAhead_74 rfl (fun c74 => ?_) (fun c74 => ?_)
          · exact absurd c74 (by decide)
          · skip
            refine aw_aload_n dX7_countAhead_77 rfl ?_
            refine aw_aload dX7_countAhead_78 rfl ?_
            refine aw_aload_n dX7_countAhead_80 rfl ?_
            refine aw_iload dX7_countAhead_81 rfl ?_
            refine aw_aload_n dX7_countAhead_83 rfl ?_
            refine aw_aload dX7_countAhead_84 rfl ?_
            refine aw_cV dX7_countAhead_86 kX7_182 mX7_bandNow (sX7_bandNow hS hC hO hlt) (Nat.le_of_ble_eq_true rfl) hS.k ⟨by decide, rfl⟩ hS.b0 rfl rfl (Nat.le_of_ble_eq_true rfl) ⟨Nat.le_refl _, Nat.le_refl _⟩ ?_
            refine aw_cV dX7_countAhead_89 kX7_185 mX7_rank (sX7_rank hS hC hO hlt hh (lo := mLocal N h) (qu := mQuota N)) (Nat.le_of_ble_eq_true rfl) hS.k ⟨by decide, rfl⟩ hS.b0 rfl rfl (Nat.le_of_ble_eq_true rfl) ⟨Nat.le_refl _, Nat.le_refl _⟩ ?_
            refine aw_iload dX7_countAhead_92 rfl ?_
            refine aw_icmp_ge (tgt := 100) dX7_countAhead_94 rfl (fun c94 => ?_) (fun c94 => ?_)
            · refine aw_iinc dX7_countAhead_100 rfl (ginc rfl) (by decide) rfl ?_
              refine aw_goto (tgt := 24) dX7_countAhead_103 rfl ?_
              have hbt := bt_and hx hv (show i < 10 by omega)
              have e9 : ¬ i = p := fun q => c51 (by rw [q])
              have b9 : bt x i = true := by
                cases hb : bt x i with
                | true => rfl
                | false => exact absurd (hbt.mpr hb) c62
              have := ih hlt
              rw [fa_cnt_no (by simp [e9, b9, Int32.not_lt.mpr c94])] at this
              exact this _ _
            · refine aw_iinc dX7_countAhead_97 rfl (ginc rfl) (by decide) rfl ?_
              refine aw_iinc dX7_countAhead_100 rfl (ginc rfl) (by decide) rfl ?_
              refine aw_goto (tgt := 24) dX7_countAhead_103 rfl ?_
              have hbt := bt_and hx hv (show i < 10 by omega)
              have e9 : ¬ i = p := fun q => c51 (by rw [q])
              have b9 : bt x i = true := by
                cases hb : bt x i with
                | true => rfl
                | false => exact absurd (hbt.mpr hb) c62
              have := ih hlt
              rw [fa_cnt_yes (by simp [e9, b9, fa_of_nle c94])] at this
              exact this _ _
  refine aw_aload_n dX7_countAhead_0 rfl ?_
  refine aw_aload_n dX7_countAhead_1 rfl ?_
  refine aw_cV dX7_countAhead_2 kX7_189 mX7_turnsAt (sX7_turnsAt hS hC hO hh) (Nat.le_of_ble_eq_true rfl) hS.k ⟨by decide, rfl⟩ hS.b0 rfl rfl (Nat.le_of_ble_eq_true rfl) ⟨Nat.le_refl _, Nat.le_refl _⟩ ?_
  refine aw_istore dX7_countAhead_5 (by decide) rfl ?_
  refine aw_aload_n dX7_countAhead_7 rfl ?_
  refine aw_aload_n dX7_countAhead_8 rfl ?_
  refine aw_aload_n dX7_countAhead_9 rfl ?_
  refine aw_iload dX7_countAhead_10 rfl ?_
  refine aw_iload_n dX7_countAhead_12 rfl ?_
  refine aw_cV dX7_countAhead_13 kX7_185 mX7_rank (sX7_rank hS hC hO hp hh (lo := mLocal N h) (qu := mQuota N)) (Nat.le_of_ble_eq_true rfl) hS.k ⟨by decide, rfl⟩ hS.b0 rfl rfl (Nat.le_of_ble_eq_true rfl) ⟨Nat.le_refl _, Nat.le_refl _⟩ ?_
  refine aw_istore dX7_countAhead_16 (by decide) rfl ?_
  refine aw_iconst (v := 0) dX7_countAhead_18 rfl ?_
  refine aw_istore dX7_countAhead_19 (by decide) rfl ?_
  refine aw_iconst (v := 0) dX7_countAhead_21 rfl ?_
  refine aw_istore dX7_countAhead_22 (by decide) rfl ?_
  exact loop 0 (Nat.zero_le _) none none
end ClsS
