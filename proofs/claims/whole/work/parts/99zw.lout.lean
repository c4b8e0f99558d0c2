/-! the law's own out: it catches what HomesQueue.out throws -/
abbrev hhO : List (Nat × Nat × Nat × Nat) := [(0, 9, 12, 13)]
theorem wL_out : Cond.codeWith yL_out cL_out 4 (some .int) hhO ∈ tblG := t6 (i := 144) rfl rfl
theorem wL_outS : Cond.static yL_out ∈ tblG := t6 (i := 143) rfl rfl
section LOUT
variable {z n : Nat} {sh : Shp} {I : MI} {L : ML}
def LoP (B : List Int32) (x : Int32) (n : Nat) (sh : Shp) (I : MI) (L : ML) : PoT := fun v _ n' sh' I' L' => v = some (.int (outT B x)) ∧ n' = n ∧ sh' = sh ∧ I' = I ∧ L' = if outT B x = 0 then upL L 511 0 (outV B x).toInt64 else L
set_option maxHeartbeats 1000000 in
theorem aw_outX {X : Cx} {g : Gd} {Po : PoT} {Lc : List (Option Value)} (q : XQ X g (some .int) (7, 1, 6) Po) (htab : (xC X).exceptionTable.toList = tableOf hhO) (hst : (xL X).stackTraces = false) (hX : IsX n sh) {B : List Int32} (hB : Prc I B) (hl : B.length ≤ 1024) {x : Int32}
    (kk : outT B x = 0 → AW X g RL cL_out 4 (7, 1, 6) (z, n, sh, 1, 6) I L 7 Lc [.int (outV B x), .int 0, .ref 511]) (hp : outT B x = 1 → ∀ z', Po (some (.int 1)) z' n sh I L) :
    AW X g RL cL_out 4 (7, 1, 6) (z, n, sh, 0, 0) I L 4 Lc [.int x, .ref 0, .int 0, .ref 511] := by
  intro F H locs ls h1 h2 h3 h4 h5
  obtain ⟨hx, hbc, hml, ho, hts, hK, hSt, hlk, ⟨r1, r2, r3, r4⟩, hgs⟩ := id F
  have hrecv := va_recv (a := g.1 + 0) (q0 := 0) (ci := 10) (q := (clR 10, clT 10, nfK 10)) (fs := fsK g sh I L 10 0) hK h3 (clF_of (by decide)).2.1 (by rw [wd_get hX.b, en_obj hX.k (by omega)])
  have hpc := PcK_start (E := (z, n, sh, 0, 0)) (vs := [.ref 0, .int x]) hK hSt h1 h2 h3 h4
  have hs0 : ([.int x, .ref 0, .int 0, .ref 511] : List Value).map (cvK g) = ([.int x] : List Value).reverse ++ .ref (g.1 + 0) :: ([.int 0, .ref 511] : List Value).map (cvK g) := by
    rw [List.map_cons, List.map_cons, cv_ref hX.b h2.2]
    rfl
  rw [hs0]
  have hv2 : ([.ref 0, .int x] : List Value).map (cvK g) = .ref (g.1 + 0) :: [.int x] := by
    rw [List.map_cons, cv_ref hX.b h2.2]
    rfl
  rw [hv2] at hpc
  have run := vx_runV (C := RX10) (b := g.1 + 0) (As := [.int x]) (rest := ([.int 0, .ref 511] : List Value).map (cvK g)) (H := H) (locs := locs) (cells := 0) (slots := 0) (g := F0 (xM X) 4 ls (([.int x] : List Value).reverse ++ .ref (g.1 + 0) :: ([.int 0, .ref 511] : List Value).map (cvK g))) (e := xE X) (below := xB X) (meth := xT X)
    ⟨hx, hbc, hml, ho, hts⟩ (sX10_out (z := z) (L := L) hst g hX hB hl (x := x)) ⟨callB_K (D := 7) hts mX10_out.1 kL_7 (Nat.le_refl _) ⟨r1, r2⟩, hts _ mX10_out.2.1, hts _ mX10_out.2.2⟩ ⟨PcK_blind, hrecv, hpc⟩ rfl rfl h5.2.1 rfl (lv_room (by rw [cvK_cats]; decide)) dL_out_4 ⟨by rw [← r3]; decide, by rw [← r4]; decide⟩
  intro T hT XS
  rcases run T hT XS with ⟨v, st₀, t, T', Lx, e0, X', hL, e1, e2, ⟨⟨v1, z1, n1, sh1, I2, L2, hv, ⟨ho0, hp1, rfl, rfl, rfl, rfl, rfl⟩, hz, hn, hP⟩, hF⟩, hst2⟩ | ⟨q9, st₀, t, T', Lx, E, ce, e0, X', hL, e1, e2, ⟨ho1, rfl, ⟨z1, hz, hn, hP⟩, hF⟩, hce, hcv, hcl, hst2⟩
  · cases hv
    subst hp1
    have k := kk ho0 F t.heap (locs ++ Lx) ls hz hn hP ⟨Nat.le_trans h4.1 (by rw [← e0]; exact hF.1), fun q q1 q2 => ?_, fun q hq => ?_⟩ h5
    · obtain ⟨t2, a1, b1⟩ := k T' e1 X'
      exact ⟨t2, hst2 t2 a1, b1⟩
    · have hlt : q < st₀.heap.size := by rw [e0]; exact Nat.lt_of_lt_of_le q1 h4.1
      rw [hF.2 q hlt q2, e0]
      exact h4.2.1 q q1 q2
    · rcases List.mem_append.mp hq with h | h
      · exact h4.2.2 q h
      · exact hL q h
  · have h4' : va_S (fun q => g.1 ≤ q) (xS X).heap t.heap (locs ++ Lx) := by
      refine ⟨Nat.le_trans h4.1 (by rw [← e0]; exact hF.1), fun q q1 q2 => ?_, fun q hq => ?_⟩
      · have hlt : q < st₀.heap.size := by rw [e0]; exact Nat.lt_of_lt_of_le q1 h4.1
        rw [hF.2 q hlt q2, e0]
        exact h4.2.1 q q1 q2
      · rcases List.mem_append.mp hq with h | h
        · exact h4.2.2 q h
        · exact hL q h
    have w1 := hSt.2.2.2.2.2.2.2.2.2.2.1
    have K : vx_W (xP X) (xL X) (xE X) (xR X) (xS X) (xM X) (xA X) (xB X) (xT X) (xC X) t.heap (locs ++ Lx) (0 + 1) (0 + 6) (xQ X) (F0 (xM X) 4 ls (([.int 0, .ref 511] : List Value).map (cvK g))) q9 := by
      refine vx_catch (own := RL) (name := nseN) (E := nseN) (ce := ce) ho [] ⟨0, 9, 12, 13⟩ [] htab (fun z hz => nomatch hz) rfl (by decide) (hts _ (t6 (i := 145) rfl rfl)) (va_Nw.use rfl w1) hce hcv hcl ?_
      refine lv_astore_n hx hbc dL_out_12 rfl h5.2 (by decide) rfl (fun ls2 hl2 => ?_)
      refine lv_iconst hx hbc dL_out_13 rfl ?_
      rw [q.1]
      refine W.widen (k := 1) (n := 6) (Nat.le_refl _) (Nat.le_refl _) ?_
      exact W.iret hx hbc q.2 (fun t9 ht hW => ⟨⟨some (.int 1), z1, n, sh, I, L, rfl, hp ho1 z1, by rw [ht]; exact hz, hn, by rw [ht]; exact hP⟩, h4'.F ht⟩) h4'.2.2 dL_out_14 hlk
    obtain ⟨t2, a1, b1⟩ := K T' e1 X'
    exact ⟨t2, hst2.trans a1, b1⟩
theorem sL_out {l : Launch} (hst : l.stackTraces = false) (g : Gd) (hX : IsX n sh) {B : List Int32} (hB : Prc I B) (hl : B.length ≤ 1024) {x : Int32} (hk : (sh 511).1 = 101 ∧ (sh 511).2.1 = 1) (hn : 511 < n) :
    Met l yL_out (.codeWith yL_out cL_out 4 (some .int) hhO :: tblG) (rmK 7 1 6) (PcK g [.ref 0, .int x, .ref 511] z n sh I L) (QcK g (LoP B x n sh I L)) 1 6 (fun q => g.1 ≤ q) := by
  have body : ∀ X : Cx, XQ X g (some .int) (7, 1, 6) (LoP B x n sh I L) → (xC X).exceptionTable.toList = tableOf hhO → (xL X).stackTraces = false → AW X g RL cL_out 4 (7, 1, 6) (z, n, sh, 0, 0) I L 0 [some (.ref 0), some (.int x), some (.ref 511), none] [] := by
    intro X q ht hs
    refine aw_aload_n dL_out_0 rfl ?_
    refine aw_iconst (v := 0) dL_out_1 rfl ?_
    refine aw_aload_n dL_out_2 rfl ?_
    refine aw_iload_n dL_out_3 rfl ?_
    refine aw_outX q ht hs hX hB hl (fun h0 => ?_) (fun h1 z' => ?_)
    · refine aw_i2l dL_out_7 ?_
      refine aw_last dL_out_8 hk.1 hn (by show ¬ ((0 : Int32) < 0 ∨ (sh 511).2.1 ≤ (0 : Int32).toNatClampNeg); rw [hk.2]; decide) ?_
      refine aw_goto (tgt := 15) dL_out_9 rfl ?_
      refine aw_iconst (v := 0) dL_out_15 rfl ?_
      exact aw_iret q rfl dL_out_16 ⟨Nat.le_refl _, Nat.le_refl _⟩ ⟨by rw [h0], rfl, rfl, rfl, by rw [if_pos h0]; rfl⟩
    · exact ⟨by rw [h1], rfl, rfl, rfl, by rw [if_neg (by rw [h1]; decide)]⟩
  refine va_MetW (cc := cL_out) (maxL := 4) (ret := some .int) (hh := hhO) rfl rfl ?_
  intro p e s m args below meth c s₁ B9 hml hv
  obtain ⟨ha, hK, hSt, hz, hn9, hP⟩ := hv
  have hts := atoms_spec (ws := .codeWith yL_out cL_out 4 (some .int) hhO :: tblG) B9.pre
  have b := body (p, l, e, rmK 7 1 6, s, m, args, below, meth, c, MQ below (QcK g (LoP B x n sh I L)) args s 1 6 (fun q => g.1 ≤ q)) ⟨rfl, B9.returns⟩ (vx_table (x := yL_out) B9 (hts _ List.mem_cons_self)) hst
    ⟨B9.exec, B9.bytes, hml, findClass_of_methodNamed B9.named, fun w hw => hts w (List.mem_cons_of_mem _ hw), hK, hSt, B9.notSynchronized, ⟨Nat.le_refl _, Nat.le_refl _, rfl, rfl⟩, by rw [hz]; exact Nat.le_add_right _ _⟩
    s.heap [] _ hz hn9 hP va_S.rf (lr_entry g [.ref 0, .int x, .ref 511] (Nat.le_of_ble_eq_true rfl))
  rw [ha, lg_entry_eq]
  rw [ha] at b
  exact b
end LOUT
