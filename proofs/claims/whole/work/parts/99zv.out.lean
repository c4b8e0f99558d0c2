/-! HomesQueue.out: a byte, or thrown; the law's own out catches -/
section OUT
variable {z n : Nat} {sh : Shp} {I : MI} {L : ML}
def OuP (B : List Int32) (x : Int32) (z n : Nat) (sh : Shp) (I : MI) (L : ML) : PoT := fun v z' n' sh' I' L' => outT B x = 0 ∧ Pst (some (.int (outV B x))) z n sh I L v z' n' sh' I' L'
theorem sX10_out {l : Launch} (hst : l.stackTraces = false) (g : Gd) (hX : IsX n sh) {B : List Int32} (hB : Prc I B) (hl : B.length ≤ 1024) {x : Int32} :
    vx_Met l yX10_out (.code yX10_out cX10_out 2 (some .int) :: tblG) (rmK 6 1 6) (PcK g [.ref 0, .int x] z n sh I L) (QcK g (OuP B x z n sh I L)) (XcK (outT B x = 1) g n sh I L) 1 6 (fun q => g.1 ≤ q) := by
  have fl := from_lt (x := x) (k := B.length) (by omega)
  have body : ∀ X : Cx, XQX X g (some .int) (6, 1, 6) (OuP B x z n sh I L) (outT B x = 1) n sh I L → AW X g RX10 cX10_out 2 (6, 1, 6) (z, n, sh, 0, 0) I L 0 [some (.ref 0), some (.int x)] [] := by
    intro X q
    refine aw_iload_n dX10_out_0 rfl ?_
    refine aw_if_lt (tgt := 15) dX10_out_1 rfl (fun c1 => ?_) (fun c1 => ?_)
    · exact aw_nse (if_neg (fun hh => (fl.mp hh).1 c1)) q (Nat.le_refl _) ⟨rfl, rfl⟩
    refine aw_iload_n dX10_out_4 rfl ?_
    refine aw_aload_n dX10_out_5 rfl ?_
    refine aw_getR (b := 482) dX10_out_6 fX10_36 hX.k hX.b rfl hX.r4 ?_
    refine aw_getI dX10_out_9 fX10_397 hX.pap.1 (hX.lt (by omega)) rfl ?_
    rw [hB.1]
    refine aw_icmp_lt (tgt := 26) dX10_out_12 rfl (fun c2 => ?_) (fun c2 => ?_)
    · obtain ⟨j, hj, rfl⟩ := nI_of c1
      have hjl : j < B.length := (nI_ltI hj (by omega)).mp c2
      have e1 : outT B (nI j) = 0 := if_pos (fl.mpr ⟨c1, c2⟩)
      have e2 : outV B (nI j) = B.getD j 0 := by
        unfold outV
        rw [if_pos (fl.mpr ⟨c1, c2⟩), nI_clamp hj]
      refine aw_aload_n dX10_out_26 rfl ?_
      refine aw_getR (b := 482) dX10_out_27 fX10_36 hX.k hX.b rfl hX.r4 ?_
      refine aw_iload_n dX10_out_30 rfl ?_
      refine aw_cV dX10_out_31 kX10_405 mX5_byteAt (sX5_byteAt hX hB hjl hl) (Nat.le_of_ble_eq_true rfl) hX.pap.1 ⟨by decide, rfl⟩ (hX.lt (by omega)) rfl rfl (Nat.le_of_ble_eq_true rfl) ⟨Nat.le_of_ble_eq_true rfl, Nat.le_of_ble_eq_true rfl⟩ ?_
      refine aw_iretX q rfl dX10_out_34 ⟨Nat.le_of_ble_eq_true rfl, Nat.le_of_ble_eq_true rfl⟩ ⟨e1, ?_⟩
      rw [e2]
      exact Pst.rf
    · exact aw_nse (if_neg (fun hh => c2 (fl.mp hh).2)) q (Nat.le_refl _) ⟨rfl, rfl⟩
  refine vx_ofW (cc := cX10_out) (maxL := 2) (ret := some .int) rfl rfl ?_
  intro p e s m args below meth c s₁ B9 hml htab hv
  obtain ⟨ha, hK, hSt, hz, hn, hP⟩ := hv
  have hts := atoms_spec (ws := .code yX10_out cX10_out 2 (some .int) :: tblG) B9.pre
  have b := body (p, l, e, rmK 6 1 6, s, m, args, below, meth, c, vx_MQ below (QcK g (OuP B x z n sh I L)) (XcK (outT B x = 1) g n sh I L) args s 1 6 (fun q => g.1 ≤ q)) ⟨rfl, B9.returns, htab, hst⟩
    ⟨B9.exec, B9.bytes, hml, findClass_of_methodNamed B9.named, fun w hw => hts w (List.mem_cons_of_mem _ hw), hK, hSt, B9.notSynchronized, ⟨Nat.le_refl _, Nat.le_refl _, rfl, rfl⟩, by rw [hz]; exact Nat.le_add_right _ _⟩
    s.heap [] _ hz hn hP va_S.rf (lr_entry g [.ref 0, .int x] (Nat.le_of_ble_eq_true rfl))
  rw [ha, lg_entry_eq]
  rw [ha] at b
  exact b
end OUT
