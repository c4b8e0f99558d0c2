/-! the law, from its entry to its end -/
theorem law_end {p : Program} {l : Launch} {e : Env} {s : State} {m : MethodId} {below : List Frame} {meth : Method} {c : Code} {b : Nat} {g : Gd} (hr : meth.sig.returnType = ret) (hg : g.1 = s.heap.size) {z n cl sl : Nat} {sh : Shp} {I : MI} {L : ML} {Lc : List (Option Value)} (hc : cl ≤ 601024 ∧ sl ≤ 7293034) :
    AW (p, l, e, room_1, s, m, #[Value.ref b], below, meth, c, lw_Z below #[Value.ref b] s) g RL cL_law 7 LBd (z, n, sh, cl, sl) I L 1796 Lc [] := by
  refine aw_iconst (v := 1) dL_law_1796 rfl ?_
  intro F H locs ls h1 h2 h3 h4 h5
  refine va_forget (fun q hq => ?_) ?_
  · show s.heap.size ≤ q.base
    rw [← hg]
    exact h4.2.2 q hq
  · refine W.widen (k := 601024) (n := 7293034) hc.1 hc.2 ?_
    exact lw_ret F.1 F.2.1 hr F.2.2.2.2.2.2.2.1 dL_law_1797
set_option maxHeartbeats 1000000 in
set_option maxRecDepth 100000 in
theorem law_walk {X : Cx} {g : Gd} {Ls : Nat} {xs : Nat → Int32} {sh : Shp} (S : Scr X g Ls xs) (hst : (xL X).stackTraces = false)
    (hE : ∀ (z n cl sl : Nat) (sh : Shp) (I : MI) (L : ML) (Lc : List (Option Value)), cl ≤ 601024 ∧ sl ≤ 7293034 → AW X g RL cL_law 7 LBd (z, n, sh, cl, sl) I L 1796 Lc []) :
    AW X g RL cL_law 7 LBd (0, 0, sh, 0, 0) (fun _ _ => 0) (fun _ _ => 0) 0 [some (.ref 1000300), none, none, none, none, none, none] [] := by
  refine an_o (n := 0) (ci := 10) (by decide) dL_law_0 (t1 (i := 24) rfl rfl) iX10 (by decide) rfl rfl ⟨Nat.le_of_ble_eq_true rfl, Nat.le_of_ble_eq_true rfl⟩ ?_
  refine aw_dup dL_law_3 rfl ?_
  refine aw_callI (ci := 0) (b := 0) (As := []) dL_law_4 kL_15 mX10_init (sX10_init (congrArg Prod.fst upS_s) (fun _ _ => ⟨rfl, rfl⟩)) (Nat.le_of_ble_eq_true rfl) (Nat.le_of_ble_eq_true rfl) rfl rfl (Nat.le_of_ble_eq_true rfl) ⟨Nat.le_of_ble_eq_true rfl, Nat.le_of_ble_eq_true rfl⟩ (fun v z n s1 J M q => ?_)
  obtain ⟨rfl, rfl, rfl, hX, -, -, -, -, -, -, -, -, -, hF⟩ := id q
  refine aw_astore_n dL_law_7 (by decide) rfl ?_
  refine an_o (n := 496) (ci := 11) (by decide) dL_law_8 (t6 (i := 219) rfl rfl) iX11 (by decide) (hF 496 (by decide)).1 (hF 496 (by decide)).2 ⟨Nat.le_of_ble_eq_true rfl, Nat.le_of_ble_eq_true rfl⟩ ?_
  refine aw_dup dL_law_11 rfl ?_
  refine aw_callI (ci := 0) (b := 496) (As := []) dL_law_12 kL_18 mX11_init (sX11_init (congrArg Prod.fst upS_s) (hF 496 (by decide)).1 (fun a ha => hF a (by omega))) (Nat.le_of_ble_eq_true rfl) (Nat.le_of_ble_eq_true rfl) rfl rfl (Nat.le_of_ble_eq_true rfl) ⟨Nat.le_of_ble_eq_true rfl, Nat.le_of_ble_eq_true rfl⟩ (fun v z n s2 J' M' r => ?_)
  have G := Good.begin q r
  obtain ⟨rfl, rfl, rfl, eM, hM, r1, -⟩ := r
  refine aw_astore_n dL_law_15 (by decide) rfl ?_
  refine aw_iconst (v := 1) dL_law_16 rfl ?_
  refine an_L (n := 511) (N := 1) dL_law_17 rfl (by decide) (by decide) (by rw [eM]; exact (hF 511 (by decide)).2) ⟨Nat.le_of_ble_eq_true rfl, Nat.le_of_ble_eq_true rfl⟩ ?_
  refine aw_astore_n dL_law_19 (by decide) rfl ?_
  refine aw_iconst (v := 0) dL_law_20 rfl ?_
  refine aw_istore dL_law_21 (by decide) rfl ?_
  have hL := S.2.2.2
  refine law_loop S hst (sh := upS s2 511 (101, 1, fun _ => none)) ?_ ?_ ⟨congrArg Prod.fst upS_s, congrArg (fun q => q.2.1) upS_s⟩ (fun z cl sl I L Lc h => hE z 512 cl sl _ I L Lc h) 512 0 _ _ _ _ _ none none (by omega) (by omega) (Nat.le_of_ble_eq_true rfl) (Nat.le_of_ble_eq_true rfl) G
  · exact hX.up (by decide) (fun a ha => (upS_n (by omega)).trans ((r1 a ha).1.trans (upS_n (by omega))))
  · exact hM.up (by decide) (fun a h1 h2 => upS_n (by omega))
theorem whole_start {p : Program} {e : Env} {s : State} {m : MethodId} {below : List Frame} {meth : Method} {c : Code} (l : Launch) (hflags : l.flags = flags0) {b L : Nat} {xs : Nat → Int32} (hL : L ≤ 3072) (C0 : lw_At p s m meth c b L xs) : W p l e room_1 s m #[Value.ref b] below meth c s.heap [] 0 0 (lw_Z below #[Value.ref b] s) (entryFrame m ([Value.ref b] : List Value).toArray 7) := by
  obtain ⟨hx, hb, hr, hml, hown, hts, hX, hbl, hlocks, hgv⟩ := C0
  obtain ⟨g, g1, g3, hK, hSt⟩ := st_K b hts hgv
  have htg : ∀ w ∈ tblG, w.before #[Value.ref b] s = true := fun w hw => hts w (List.mem_filter.mp hw).1
  have hst : l.stackTraces = false := by
    unfold Launch.stackTraces
    rw [hflags]
    decide +kernel
  have S : Scr (p, l, e, room_1, s, m, #[Value.ref b], below, meth, c, lw_Z below #[Value.ref b] s) g L xs := ⟨by rw [g3]; exact hX, by rw [g3]; exact hbl, g1, hL⟩
  have A := law_walk (sh := fun _ => (0, 0, fun _ => none)) S hst (fun z n cl sl sh I L Lc h => law_end hr g1 h)
    ⟨hx, hb, hml, hown, htg, hK, hSt, hlocks, ⟨by show 40 ≤ 2048; decide, by show 4000 ≤ 84000; decide, rfl, rfl⟩, by rw [g1]; exact Nat.le_refl _⟩
    s.heap [] _ g1.symm ⟨Nat.le_refl _, Nat.zero_le _⟩ (fun k q hq => by simp [wdK] at hq) va_S.rf (lr_entry g [.ref 1000300] (nL := 7) (Nat.le_of_ble_eq_true rfl))
  have e1 : ([.ref 1000300] : List Value).map (cvK g) = [.ref b] := by
    rw [List.map_cons, cv_hi (by decide), g3]
    rfl
  rw [e1] at A
  rw [lg_entry_eq]
  exact A
