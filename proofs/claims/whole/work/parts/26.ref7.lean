/-! the reference: a home taken -/
theorem AW.mem {X : Cx} {g : Gd} {own : String} {cc : ByteArray} {nL : Nat} {Bd : Nat × Nat × Nat} {E : En} {I1 I2 : MI} {L : ML} {pc : Nat} {Lc : List (Option Value)} {st : List Value} (h : I1 = I2) (k : AW X g own cc nL Bd E I2 L pc Lc st) : AW X g own cc nL Bd E I1 L pc Lc st := h ▸ k
theorem AW.top {X : Cx} {g : Gd} {own : String} {cc : ByteArray} {nL : Nat} {Bd : Nat × Nat × Nat} {E : En} {I : MI} {L : ML} {pc : Nat} {Lc : List (Option Value)} {st : List Value} {x y : Int32} (h : x = y) (k : AW X g own cc nL Bd E I L pc Lc (.int y :: st)) : AW X g own cc nL Bd E I L pc Lc (.int x :: st) := h ▸ k
def tk1 (N : Nat → Int32) (p : Nat) : Nat → Int32 := upd N (234 + 8 * nLe N) (nI p)
def tk2 (N : Nat → Int32) (p h : Nat) : Nat → Int32 := upd (tk1 N p) (234 + 8 * nLe N + 1) (nI h)
def tk3 (N : Nat → Int32) (p h : Nat) : Nat → Int32 := upd (tk2 N p h) (234 + 8 * nLe N + 2) (N 232)
def tk4 (N : Nat → Int32) (p h : Nat) : Nat → Int32 := upd (tk3 N p h) (234 + 8 * nLe N + 3) (N (8 * h + 5) + 1)
def tk5 (N : Nat → Int32) (p h : Nat) : Nat → Int32 := upd (tk4 N p h) (234 + 8 * nLe N + 4) (bI (mLocal N h))
def tk6 (N : Nat → Int32) (p h : Nat) : Nat → Int32 := upd (tk5 N p h) (234 + 8 * nLe N + 5) (bI (mQuota N) + (if N (80 + 18 * p + 4) = -1 then 0 else 2))
def tk7 (N : Nat → Int32) (p h : Nat) (o : Int32) : Nat → Int32 := upd (tk6 N p h) (234 + 8 * nLe N + 6) o
def tk8 (N : Nat → Int32) (p h : Nat) (o : Int32) : Nat → Int32 := upd (tk7 N p h o) (234 + 8 * nLe N + 7) (mBand N p)
def psd (N : Nat → Int32) (p h q : Nat) : Bool := mBid N q (nI h) && mHope N q && decide (mBand N q < mBand N p)
def tkP (N : Nat → Int32) (p h : Nat) (o : Int32) : Nat → Nat → Int32
  | 0 => tk8 N p h o
  | q + 1 => if psd N p h q then mPuts (tkP N p h o q) q 9 (N (80 + 18 * q + 9) + 1) else tkP N p h o q
def tk9 (N : Nat → Int32) (p h : Nat) (o : Int32) : Nat → Int32 := upd (tkP N p h o (nPo N)) 233 (N 233 + 1)
def tkA (N : Nat → Int32) (p h : Nat) (o : Int32) : Nat → Int32 := mPutsH (mPutsH (mPuts (mPuts (tk9 N p h o) p 8 1) p 4 (nI h)) h 2 (nI p)) h 4 (N (8 * h + 4) + 1)
def mTakes (N : Nat → Int32) (p h : Nat) (o : Int32) : Nat → Int32 := if N (80 + 18 * p + 4) = -1 then tkA N p h o else mLeaves (tkA N p h o) (N (80 + 18 * p + 4)).toNatClampNeg (N (8 * h + 5) + 1)
theorem upd_ne {N : Nat → Int32} {j i : Nat} {v : Int32} (h : i ≠ j) : upd N j v i = N i := if_neg h
theorem upd_eq {N : Nat → Int32} {j : Nat} {v : Int32} : upd N j v j = v := if_pos rfl
section TkReads
variable {N : Nat → Int32} {p h : Nat} {o : Int32} {j : Nat}
theorem tk2_lo (hj : j < 234 + 8 * nLe N) : tk2 N p h j = N j := by
  unfold tk2 tk1
  rw [upd_ne (by omega), upd_ne (by omega)]
theorem tk3_lo (hj : j < 234 + 8 * nLe N) : tk3 N p h j = N j := by
  unfold tk3
  rw [upd_ne (by omega), tk2_lo hj]
theorem tk4_lo (hj : j < 234 + 8 * nLe N) : tk4 N p h j = N j := by
  unfold tk4
  rw [upd_ne (by omega), tk3_lo hj]
theorem tk5_lo (hj : j < 234 + 8 * nLe N) : tk5 N p h j = N j := by
  unfold tk5
  rw [upd_ne (by omega), tk4_lo hj]
theorem tk8_lo (hj : j < 234 + 8 * nLe N) : tk8 N p h o j = N j := by
  unfold tk8 tk7 tk6
  rw [upd_ne (by omega), upd_ne (by omega), upd_ne (by omega), tk5_lo hj]
theorem tkP_rd (hj : ∀ q, q < 8 → j ≠ 80 + 18 * q + 9) : ∀ i, i ≤ 8 → tkP N p h o i j = tk8 N p h o j
  | 0, _ => rfl
  | i + 1, hi => by
    rw [tkP]
    split
    · unfold mPuts
      rw [upd_ne (hj i (by omega)), tkP_rd hj i (by omega)]
    · exact tkP_rd hj i (by omega)
theorem tkP_9 {q : Nat} (hl : 80 + 18 * q + 9 < 234 + 8 * nLe N) : ∀ i, i ≤ q → tkP N p h o i (80 + 18 * q + 9) = N (80 + 18 * q + 9)
  | 0, _ => tk8_lo hl
  | i + 1, hi => by
    rw [tkP]
    split
    · unfold mPuts
      rw [upd_ne (by omega), tkP_9 hl i (by omega)]
    · exact tkP_9 hl i (by omega)
theorem tkP_lo (hj : j < 234 + 8 * nLe N) (h9 : ∀ q, q < 8 → j ≠ 80 + 18 * q + 9) {i : Nat} (hi : i ≤ 8) : tkP N p h o i j = N j := by rw [tkP_rd h9 i hi, tk8_lo hj]
end TkReads
theorem mLocal_cong {N M : Nat → Int32} (hN : Cn N) {h : Nat} (hh : h < 10) (hc : ∀ j, j < 234 + 8 * nLe N → M j = N j) : mLocal M h = mLocal N h := by
  have eL : nLe M = nLe N := by unfold nLe; rw [hc _ (by omega)]
  have hl := hN.l8
  unfold mLocal
  rw [eL, hc 226 (by omega)]
  congr 3
  congr 1
  congr 1
  refine isum_cong fun k hk => ?_
  obtain ⟨i, hi, e⟩ := hN.lh hk
  have e1 : lHo M k = lHo N k := by unfold lHo; rw [hc _ (by omega)]
  have e2 : lHo N k = i := by unfold lHo; rw [e]; exact nI_clamp (by omega)
  rw [e1, e2, hc _ (by omega), hc _ (by omega)]
theorem mLived_cong {N M : Nat → Int32} (hc : ∀ j, j < 234 + 8 * nLe N → M j = N j) : mLived M = mLived N := by
  have eL : nLe M = nLe N := by unfold nLe; rw [hc _ (by omega)]
  unfold mLived
  rw [eL]
  exact isum_cong fun k hk => by rw [hc _ (by omega)]
theorem mQuota_cong {N M : Nat → Int32} (hc : ∀ j, j < 234 + 8 * nLe N → M j = N j) : mQuota M = mQuota N := by
  unfold mQuota
  rw [mLived_cong hc, hc _ (by omega), hc _ (by omega)]
theorem mBand_cong {N M : Nat → Int32} {q : Nat} (h0 : M (80 + 18 * q + 0) = N (80 + 18 * q + 0)) (h3 : M (80 + 18 * q + 3) = N (80 + 18 * q + 3)) (hw : M 232 = N 232) (ha : M 228 = N 228) : mBand M q = mBand N q := by
  unfold mBand
  rw [h0, h3, hw, ha]
theorem Cn.cong {N M : Nat → Int32} (c : Cn N) (hc : ∀ j, j < 234 + 8 * nLe N → (∀ q, q < 8 → j ≠ 80 + 18 * q + 9) → M j = N j) (ho : M 299 = N 299) : Cn M := by
  have hl := c.l8
  have eH : nHo M = nHo N := by unfold nHo; rw [hc _ (by omega) (fun q hq => by omega)]
  have eP : nPo M = nPo N := by unfold nPo; rw [hc _ (by omega) (fun q hq => by omega)]
  have eL : nLe M = nLe N := by unfold nLe; rw [hc _ (by omega) (fun q hq => by omega)]
  have eO : nOf M = nOf N := by unfold nOf; rw [ho]
  have eW : ∀ p, p < 8 → nWi M p = nWi N p := fun p hp => by unfold nWi; rw [hc _ (by omega) (fun q hq => by omega)]
  have eB : ∀ p, p < 8 → nBi M p = nBi N p := fun p hp => by unfold nBi; rw [hc _ (by omega) (fun q hq => by omega)]
  refine ⟨⟨by rw [eH, hc _ (by omega) (fun q hq => by omega)]; exact c.h, by rw [eH]; exact c.h10⟩, ⟨by rw [eP, hc _ (by omega) (fun q hq => by omega)]; exact c.p, by rw [eP]; exact c.p8⟩, ⟨by rw [eL, hc _ (by omega) (fun q hq => by omega)]; exact c.l, by rw [eL]; exact c.l8⟩, ⟨by rw [eO, ho]; exact c.o, by rw [eO]; exact c.o30⟩, by rw [hc _ (by omega) (fun q hq => by omega)]; exact c.age, fun p hp => ⟨⟨by rw [eW p hp, hc _ (by omega) (fun q hq => by omega)]; exact c.w hp, by rw [eW p hp]; exact c.w6 hp⟩, ⟨by rw [eB p hp, hc _ (by omega) (fun q hq => by omega)]; exact c.bi hp, by rw [eB p hp]; exact c.bi10 hp⟩, by rw [hc _ (by omega) (fun q hq => by omega)]; exact c.ho hp, fun k hk => ?_⟩, fun h hh => ?_, fun k hk => ?_⟩
  · rw [eW p hp] at hk
    have := c.w6 hp
    rw [hc _ (by omega) (fun q hq => by omega)]
    exact c.wi hp hk
  · rw [hc _ (by omega) (fun q hq => by omega)]
    exact c.who hh
  · rw [eL] at hk
    rw [hc _ (by omega) (fun q hq => by omega), hc _ (by omega) (fun q hq => by omega)]
    exact ⟨c.lp hk, c.lh hk⟩
section RefS
variable {z n m : Nat} {sh : Shp} {I : MI} {L : ML}
set_option maxHeartbeats 4000000 in
set_option maxRecDepth 100000 in
theorem rX11_takes (hM : IsM n sh m) {N : Nat → Int32} (hI : I (m + 1) = N) (hN : Cn N) {x y oo : Int32} {p h : Nat} (hx : x = nI p) (hy : y = nI h) (hp : p < 8) (hh : h < 10) (hl : nLe N < 8) : CM yX11_takes cX11_takes 8 (Option.none : Option FieldType) 5 0 0 [.ref m, .int x, .int y, .int oo] z n sh I L (Pst none z n sh (upA I (m + 1) (mTakes N p h oo)) L) := by
  refine CM.go [some (.ref m), some (.int x), some (.int y), some (.int oo), none, none, none, none] rfl rfl (Nat.le_of_ble_eq_true rfl) (fun X g q => ?_)
  have hl8 := hl
  have hp8n := hN.p8
  have e4o : tk4 N p h 299 = N 299 := by unfold tk4 tk3 tk2 tk1; rw [upd_ne (by omega), upd_ne (by omega), upd_ne (by omega), upd_ne (by omega)]
  have e5o : tk5 N p h 299 = N 299 := by unfold tk5; rw [upd_ne (by omega), e4o]
  have ePo : ∀ i, i ≤ 8 → tkP N p h oo i 299 = N 299 := fun i hi => by
    rw [tkP_rd (fun q hq => by omega) i hi]
    unfold tk8 tk7 tk6
    rw [upd_ne (by omega), upd_ne (by omega), upd_ne (by omega), e5o]
  have cP : ∀ i, i ≤ 8 → Cn (tkP N p h oo i) := fun i hi => hN.cong (fun j hj h9 => tkP_lo hj h9 hi) (ePo i hi)
  have rP : ∀ i q w, i ≤ 8 → q < 8 → w ≠ 9 → w < 18 → tkP N p h oo i (80 + 18 * q + w) = N (80 + 18 * q + w) := fun i q w hi hq hw h18 => tkP_lo (by omega) (fun r hr => by omega) hi
  have bP : ∀ i q, i ≤ 8 → q < 8 → mBand (tkP N p h oo i) q = mBand N q := fun i q hi hq => mBand_cong (rP i q 0 hi hq (by decide) (by decide)) (rP i q 3 hi hq (by decide) (by decide)) (tkP_lo (by omega) (fun r hr => by omega) hi) (tkP_lo (by omega) (fun r hr => by omega) hi)
  have loop : ∀ i, i ≤ nPo N → AW X g RX11 cX11_takes 8 (5, 0, 0) (z, n, sh, 0, 0) (upA I (m + 1) (tkP N p h oo i)) (L) 165 [some (.ref m), some (.int x), some (.int y), some (.int oo), some (.int (nI (234 + 8 * nLe N))), some (.int (mBand N p)), some (.int (N (80 + 18 * p + 4))), some (.int (nI i))] [] := by
    refine up_loop (fun i hi ih => ?_)
    refine aw_iload dX11_takes_165 rfl ?_
    refine aw_aload_n dX11_takes_167 rfl ?_
    refine aw_getR (b := m + 1) dX11_takes_168 fX11_7 hM.k hM.b rfl hM.r0 ?_
    refine aw_sipush (v := 231) dX11_takes_171 rfl ?_
    refine aw_ialdH (k := 231) upA_self dX11_takes_174 hM.k0 hM.b0 hM.l0 rfl (by decide) (by decide) ?_
    rw [tkP_lo (by omega) (fun r hr => by omega) (by omega : i ≤ 8)]
    refine aw_icmp_ge (tgt := 232) dX11_takes_175 rfl (fun c175 => ?_) (fun c175 => ?_)
    · have e := ge_t hN.p (by omega) hi c175
      subst e
      refine aw_aload_n dX11_takes_232 rfl ?_
      refine aw_getR (b := m + 1) dX11_takes_233 fX11_7 hM.k hM.b rfl hM.r0 ?_
      refine aw_sipush (v := 233) dX11_takes_236 rfl ?_
      refine aw_dup2 dX11_takes_239 rfl rfl ?_
      refine aw_ialdH (k := 233) upA_self dX11_takes_240 hM.k0 hM.b0 hM.l0 rfl (by decide) (by decide) ?_
      rw [tkP_lo (by omega) (fun r hr => by omega) (by omega : nPo N ≤ 8)]
      refine aw_iconst (v := 1) dX11_takes_241 rfl ?_
      refine aw_iadd dX11_takes_242 ?_
      refine aw_iastN (k := 233) dX11_takes_243 hM.k0 hM.b0 hM.l0 rfl (by decide) (by decide) ?_
      refine AW.mem (I2 := upA I (m + 1) (tk9 N p h oo)) (by simp only [upI_upA, upA_upA, upA_self, hI, tk9]) ?_
      refine aw_aload_n dX11_takes_244 rfl ?_
      refine aw_iload_n dX11_takes_245 rfl ?_
      refine aw_bipush (v := 8) dX11_takes_246 rfl ?_
      refine aw_iconst (v := 1) dX11_takes_248 rfl ?_
      refine aw_cV dX11_takes_249 kX11_289 mX11_puts (rX11_puts (p := p) (w := 8) hM upA_self hx rfl (by omega)) (Nat.le_of_ble_eq_true rfl) hM.k ⟨by decide, rfl⟩ hM.b rfl rfl (Nat.le_of_ble_eq_true rfl) ⟨Nat.le_refl _, Nat.le_refl _⟩ ?_
      refine aw_aload_n dX11_takes_252 rfl ?_
      refine aw_iload_n dX11_takes_253 rfl ?_
      refine aw_iconst (v := 4) dX11_takes_254 rfl ?_
      refine aw_iload_n dX11_takes_255 rfl ?_
      refine aw_cV dX11_takes_256 kX11_289 mX11_puts (rX11_puts (p := p) (w := 4) hM upA_self hx rfl (by omega)) (Nat.le_of_ble_eq_true rfl) hM.k ⟨by decide, rfl⟩ hM.b rfl rfl (Nat.le_of_ble_eq_true rfl) ⟨Nat.le_refl _, Nat.le_refl _⟩ ?_
      refine aw_aload_n dX11_takes_259 rfl ?_
      refine aw_iload_n dX11_takes_260 rfl ?_
      refine aw_iconst (v := 2) dX11_takes_261 rfl ?_
      refine aw_iload_n dX11_takes_262 rfl ?_
      refine aw_cV dX11_takes_263 kX11_293 mX11_putsHome (rX11_putsHome (h := h) (w := 2) hM upA_self hy rfl (by omega)) (Nat.le_of_ble_eq_true rfl) hM.k ⟨by decide, rfl⟩ hM.b rfl rfl (Nat.le_of_ble_eq_true rfl) ⟨Nat.le_refl _, Nat.le_refl _⟩ ?_
      refine aw_aload_n dX11_takes_266 rfl ?_
      refine aw_iload_n dX11_takes_267 rfl ?_
      refine aw_iconst (v := 4) dX11_takes_268 rfl ?_
      refine aw_aload_n dX11_takes_269 rfl ?_
      refine aw_iload_n dX11_takes_270 rfl ?_
      refine aw_iconst (v := 4) dX11_takes_271 rfl ?_
      refine aw_cV dX11_takes_272 kX11_202 mX11_home0 (rX11_home0 (h := h) (w := 4) hM upA_self hy rfl (by omega)) (Nat.le_of_ble_eq_true rfl) hM.k ⟨by decide, rfl⟩ hM.b rfl rfl (Nat.le_of_ble_eq_true rfl) ⟨Nat.le_refl _, Nat.le_refl _⟩ ?_
      rw [show mPutsH (mPuts (mPuts (tk9 N p h oo) p 8 1) p 4 y) h 2 x (8 * h + 4) = N (8 * h + 4) from by unfold mPutsH mPuts tk9; rw [upd_ne (by omega), upd_ne (by omega), upd_ne (by omega), upd_ne (by omega), tkP_lo (by omega) (fun r hr => by omega) (by omega)]]
      refine aw_iconst (v := 1) dX11_takes_275 rfl ?_
      refine aw_iadd dX11_takes_276 ?_
      refine aw_cV dX11_takes_277 kX11_293 mX11_putsHome (rX11_putsHome (h := h) (w := 4) hM upA_self hy rfl (by omega)) (Nat.le_of_ble_eq_true rfl) hM.k ⟨by decide, rfl⟩ hM.b rfl rfl (Nat.le_of_ble_eq_true rfl) ⟨Nat.le_refl _, Nat.le_refl _⟩ ?_
      refine AW.mem (I2 := upA I (m + 1) (tkA N p h oo)) (by simp only [upA_upA, tkA, hx, hy]) ?_
      refine aw_iload dX11_takes_280 rfl ?_
      refine aw_iconst (v := (-1)) dX11_takes_282 rfl ?_
      refine aw_icmp_eq (tgt := 301) dX11_takes_283 rfl (fun c283 => ?_) (fun c283 => ?_)
      · refine aw_vret q rfl dX11_takes_301 ⟨Nat.le_refl _, Nat.le_refl _⟩ ?_
        refine Pst.mem ?_
        unfold mTakes
        rw [if_pos c283]
      · obtain ⟨u, hu10, hu⟩ : ∃ u, u < 10 ∧ N (80 + 18 * p + 4) = nI u := (hN.ho hp).resolve_left c283
        refine aw_aload_n dX11_takes_286 rfl ?_
        refine aw_iload dX11_takes_287 rfl ?_
        refine aw_aload_n dX11_takes_289 rfl ?_
        refine aw_getR (b := m + 1) dX11_takes_290 fX11_7 hM.k hM.b rfl hM.r0 ?_
        refine aw_iload dX11_takes_293 rfl ?_
        refine aw_iconst (v := 3) dX11_takes_295 rfl ?_
        refine aw_iadd dX11_takes_296 ?_
        refine aw_ialdH (k := ((234 + 8 * nLe N) + 3)) upA_self dX11_takes_297 hM.k0 hM.b0 hM.l0 (gadd rfl rfl) (by omega) (by decide) ?_
        rw [show tkA N p h oo (234 + 8 * nLe N + 3) = N (8 * h + 5) + 1 from by unfold tkA mPutsH mPuts tk9; rw [upd_ne (by omega), upd_ne (by omega), upd_ne (by omega), upd_ne (by omega), upd_ne (by omega), tkP_rd (fun r hr => by omega) _ (by omega)]; unfold tk8 tk7 tk6 tk5 tk4; rw [upd_ne (by omega), upd_ne (by omega), upd_ne (by omega), upd_ne (by omega), upd_eq]]
        refine aw_cV dX11_takes_298 kX11_296 mX11_leaves (rX11_leaves (h := u) hM upA_self hu (by omega)) (Nat.le_of_ble_eq_true rfl) hM.k ⟨by decide, rfl⟩ hM.b rfl rfl (Nat.le_of_ble_eq_true rfl) ⟨Nat.le_refl _, Nat.le_refl _⟩ ?_
        refine aw_vret q rfl dX11_takes_301 ⟨Nat.le_refl _, Nat.le_refl _⟩ ?_
        refine Pst.mem ?_
        unfold mTakes
        rw [if_neg c283, hu, nI_clamp (by omega), upA_upA]
    · have hlt := ge_f hN.p (by omega) hi c175
      refine aw_aload_n dX11_takes_178 rfl ?_
      refine aw_iload dX11_takes_179 rfl ?_
      refine aw_iload_n dX11_takes_181 rfl ?_
      refine aw_cV dX11_takes_182 kX11_234 mX11_isBid (rX11_isBid (p := i) hM upA_self rfl (by omega)) (Nat.le_of_ble_eq_true rfl) hM.k ⟨by decide, rfl⟩ hM.b rfl rfl (Nat.le_of_ble_eq_true rfl) ⟨Nat.le_refl _, Nat.le_refl _⟩ ?_
      rw [show mBid (tkP N p h oo i) i y = mBid N i (nI h) from by unfold mBid; rw [rP i i 10 (by omega) (by omega) (by decide) (by decide), hy]]
      refine aw_if_eq (tgt := 226) dX11_takes_185 rfl (fun c185 => ?_) (fun c185 => ?_)
      · refine aw_iinc dX11_takes_226 rfl (ginc rfl) (by decide) rfl ?_
        refine aw_goto (tgt := 165) dX11_takes_229 rfl ?_
        have ps : psd N p h i = false := by simp [psd, bI0.mp c185]
        have := ih hlt
        rw [tkP, ps] at this
        exact this
      · refine aw_aload_n dX11_takes_188 rfl ?_
        refine aw_iload dX11_takes_189 rfl ?_
        refine aw_cV dX11_takes_191 kX11_283 mX11_mayHope (rX11_mayHope (p := i) hM upA_self rfl (by omega)) (Nat.le_of_ble_eq_true rfl) hM.k ⟨by decide, rfl⟩ hM.b rfl rfl (Nat.le_of_ble_eq_true rfl) ⟨Nat.le_refl _, Nat.le_refl _⟩ ?_
        rw [show mHope (tkP N p h oo i) i = mHope N i from by unfold mHope mIn; rw [rP i i 8 (by omega) (by omega) (by decide) (by decide), rP i i 6 (by omega) (by omega) (by decide) (by decide)]]
        refine aw_if_eq (tgt := 226) dX11_takes_194 rfl (fun c194 => ?_) (fun c194 => ?_)
        · refine aw_iinc dX11_takes_226 rfl (ginc rfl) (by decide) rfl ?_
          refine aw_goto (tgt := 165) dX11_takes_229 rfl ?_
          have ps : psd N p h i = false := by simp [psd, bI0.mp c194]
          have := ih hlt
          rw [tkP, ps] at this
          exact this
        · refine aw_aload_n dX11_takes_197 rfl ?_
          refine aw_iload dX11_takes_198 rfl ?_
          refine aw_cV dX11_takes_200 kX11_247 mX11_bandNow (rX11_bandNow (p := i) hM upA_self rfl (by omega) (cP i (by omega)).age) (Nat.le_of_ble_eq_true rfl) hM.k ⟨by decide, rfl⟩ hM.b rfl rfl (Nat.le_of_ble_eq_true rfl) ⟨Nat.le_refl _, Nat.le_refl _⟩ ?_
          rw [bP i i (by omega) (by omega)]
          refine aw_iload dX11_takes_203 rfl ?_
          refine aw_icmp_ge (tgt := 226) dX11_takes_205 rfl (fun c205 => ?_) (fun c205 => ?_)
          · refine aw_iinc dX11_takes_226 rfl (ginc rfl) (by decide) rfl ?_
            refine aw_goto (tgt := 165) dX11_takes_229 rfl ?_
            have ps : psd N p h i = false := by simp [psd, Int32.not_lt.mpr c205]
            have := ih hlt
            rw [tkP, ps] at this
            exact this
          · refine aw_aload_n dX11_takes_208 rfl ?_
            refine aw_iload dX11_takes_209 rfl ?_
            refine aw_bipush (v := 9) dX11_takes_211 rfl ?_
            refine aw_aload_n dX11_takes_213 rfl ?_
            refine aw_iload dX11_takes_214 rfl ?_
            refine aw_bipush (v := 9) dX11_takes_216 rfl ?_
            refine aw_cV dX11_takes_218 kX11_205 mX11_of (rX11_of (p := i) (w := 9) hM upA_self rfl rfl (by omega)) (Nat.le_of_ble_eq_true rfl) hM.k ⟨by decide, rfl⟩ hM.b rfl rfl (Nat.le_of_ble_eq_true rfl) ⟨Nat.le_refl _, Nat.le_refl _⟩ ?_
            rw [tkP_9 (by omega) i (Nat.le_refl i)]
            refine aw_iconst (v := 1) dX11_takes_221 rfl ?_
            refine aw_iadd dX11_takes_222 ?_
            refine aw_cV dX11_takes_223 kX11_289 mX11_puts (rX11_puts (p := i) (w := 9) hM upA_self rfl rfl (by omega)) (Nat.le_of_ble_eq_true rfl) hM.k ⟨by decide, rfl⟩ hM.b rfl rfl (Nat.le_of_ble_eq_true rfl) ⟨Nat.le_refl _, Nat.le_refl _⟩ ?_
            refine aw_iinc dX11_takes_226 rfl (ginc rfl) (by decide) rfl ?_
            refine aw_goto (tgt := 165) dX11_takes_229 rfl ?_
            have ps : psd N p h i = true := by simp [psd, bI1.mp c185, bI1.mp c194, fa_of_nle c205]
            refine AW.mem (I2 := upA I (m + 1) (mPuts (tkP N p h oo i) i 9 (N (80 + 18 * i + 9) + 1))) (by simp only [upA_upA]) ?_
            have := ih hlt
            rw [tkP, ps] at this
            exact this
  refine aw_sipush (v := 234) dX11_takes_0 rfl ?_
  refine aw_bipush (v := 8) dX11_takes_3 rfl ?_
  refine aw_aload_n dX11_takes_5 rfl ?_
  refine aw_getR (b := m + 1) dX11_takes_6 fX11_7 hM.k hM.b rfl hM.r0 ?_
  refine aw_sipush (v := 233) dX11_takes_9 rfl ?_
  refine aw_ialdH (k := 233) hI dX11_takes_12 hM.k0 hM.b0 hM.l0 rfl (by decide) (by decide) ?_
  refine aw_imul dX11_takes_13 ?_
  refine aw_iadd dX11_takes_14 ?_
  refine AW.top (gadd rfl (gmul rfl hN.l)) ?_
  refine aw_istore dX11_takes_15 (by decide) rfl ?_
  refine aw_aload_n dX11_takes_17 rfl ?_
  refine aw_iload_n dX11_takes_18 rfl ?_
  refine aw_cV dX11_takes_19 kX11_247 mX11_bandNow (rX11_bandNow (p := p) hM hI hx (by omega) (hN).age) (Nat.le_of_ble_eq_true rfl) hM.k ⟨by decide, rfl⟩ hM.b rfl rfl (Nat.le_of_ble_eq_true rfl) ⟨Nat.le_refl _, Nat.le_refl _⟩ ?_
  refine aw_istore dX11_takes_22 (by decide) rfl ?_
  refine aw_aload_n dX11_takes_24 rfl ?_
  refine aw_iload_n dX11_takes_25 rfl ?_
  refine aw_iconst (v := 4) dX11_takes_26 rfl ?_
  refine aw_cV dX11_takes_27 kX11_205 mX11_of (rX11_of (p := p) (w := 4) hM hI hx rfl (by omega)) (Nat.le_of_ble_eq_true rfl) hM.k ⟨by decide, rfl⟩ hM.b rfl rfl (Nat.le_of_ble_eq_true rfl) ⟨Nat.le_refl _, Nat.le_refl _⟩ ?_
  refine aw_istore dX11_takes_30 (by decide) rfl ?_
  refine aw_aload_n dX11_takes_32 rfl ?_
  refine aw_getR (b := m + 1) dX11_takes_33 fX11_7 hM.k hM.b rfl hM.r0 ?_
  refine aw_iload dX11_takes_36 rfl ?_
  refine aw_iload_n dX11_takes_38 rfl ?_
  refine aw_iastN (k := (234 + (8 * (nLe N)))) dX11_takes_39 hM.k0 hM.b0 hM.l0 rfl (by omega) (by decide) ?_
  refine AW.mem (I2 := upA I (m + 1) (tk1 N p)) (by simp only [upI_upA, upA_upA, upA_self, hI, tk1, hx]) ?_
  refine aw_aload_n dX11_takes_40 rfl ?_
  refine aw_getR (b := m + 1) dX11_takes_41 fX11_7 hM.k hM.b rfl hM.r0 ?_
  refine aw_iload dX11_takes_44 rfl ?_
  refine aw_iconst (v := 1) dX11_takes_46 rfl ?_
  refine aw_iadd dX11_takes_47 ?_
  refine aw_iload_n dX11_takes_48 rfl ?_
  refine aw_iastN (k := ((234 + (8 * (nLe N))) + 1)) dX11_takes_49 hM.k0 hM.b0 hM.l0 (gadd rfl rfl) (by omega) (by decide) ?_
  refine AW.mem (I2 := upA I (m + 1) (tk2 N p h)) (by simp only [upI_upA, upA_upA, upA_self, hI, tk2, hy]) ?_
  refine aw_aload_n dX11_takes_50 rfl ?_
  refine aw_getR (b := m + 1) dX11_takes_51 fX11_7 hM.k hM.b rfl hM.r0 ?_
  refine aw_iload dX11_takes_54 rfl ?_
  refine aw_iconst (v := 2) dX11_takes_56 rfl ?_
  refine aw_iadd dX11_takes_57 ?_
  refine aw_aload_n dX11_takes_58 rfl ?_
  refine aw_getR (b := m + 1) dX11_takes_59 fX11_7 hM.k hM.b rfl hM.r0 ?_
  refine aw_sipush (v := 232) dX11_takes_62 rfl ?_
  refine aw_ialdH (k := 232) upA_self dX11_takes_65 hM.k0 hM.b0 hM.l0 rfl (by decide) (by decide) ?_
  rw [tk2_lo (by omega)]
  refine aw_iastN (k := ((234 + (8 * (nLe N))) + 2)) dX11_takes_66 hM.k0 hM.b0 hM.l0 (gadd rfl rfl) (by omega) (by decide) ?_
  refine AW.mem (I2 := upA I (m + 1) (tk3 N p h)) (by simp only [upI_upA, upA_upA, upA_self, hI, tk3]) ?_
  refine aw_aload_n dX11_takes_67 rfl ?_
  refine aw_getR (b := m + 1) dX11_takes_68 fX11_7 hM.k hM.b rfl hM.r0 ?_
  refine aw_iload dX11_takes_71 rfl ?_
  refine aw_iconst (v := 3) dX11_takes_73 rfl ?_
  refine aw_iadd dX11_takes_74 ?_
  refine aw_aload_n dX11_takes_75 rfl ?_
  refine aw_iload_n dX11_takes_76 rfl ?_
  refine aw_iconst (v := 5) dX11_takes_77 rfl ?_
  refine aw_cV dX11_takes_78 kX11_202 mX11_home0 (rX11_home0 (h := h) (w := 5) hM upA_self hy rfl (by omega)) (Nat.le_of_ble_eq_true rfl) hM.k ⟨by decide, rfl⟩ hM.b rfl rfl (Nat.le_of_ble_eq_true rfl) ⟨Nat.le_refl _, Nat.le_refl _⟩ ?_
  rw [tk3_lo (by omega)]
  refine aw_iconst (v := 1) dX11_takes_81 rfl ?_
  refine aw_iadd dX11_takes_82 ?_
  refine aw_iastN (k := ((234 + (8 * (nLe N))) + 3)) dX11_takes_83 hM.k0 hM.b0 hM.l0 (gadd rfl rfl) (by omega) (by decide) ?_
  refine AW.mem (I2 := upA I (m + 1) (tk4 N p h)) (by simp only [upI_upA, upA_upA, upA_self, hI, tk4]) ?_
  refine aw_aload_n dX11_takes_84 rfl ?_
  refine aw_getR (b := m + 1) dX11_takes_85 fX11_7 hM.k hM.b rfl hM.r0 ?_
  refine aw_iload dX11_takes_88 rfl ?_
  refine aw_iconst (v := 4) dX11_takes_90 rfl ?_
  refine aw_iadd dX11_takes_91 ?_
  refine aw_aload_n dX11_takes_92 rfl ?_
  refine aw_iload_n dX11_takes_93 rfl ?_
  refine aw_cV dX11_takes_94 kX11_265 mX11_isLocal (rX11_isLocal (h := h) hM upA_self (hN.cong (fun j hj _ => tk4_lo hj) e4o) hy hh) (Nat.le_of_ble_eq_true rfl) hM.k ⟨by decide, rfl⟩ hM.b rfl rfl (Nat.le_of_ble_eq_true rfl) ⟨Nat.le_refl _, Nat.le_refl _⟩ ?_
  rw [mLocal_cong hN hh (fun j hj => tk4_lo hj)]
  refine awt_bool dX11_takes_97 dX11_takes_100 dX11_takes_101 dX11_takes_104 ?_
  refine aw_iastN (k := ((234 + (8 * (nLe N))) + 4)) dX11_takes_105 hM.k0 hM.b0 hM.l0 (gadd rfl rfl) (by omega) (by decide) ?_
  refine AW.mem (I2 := upA I (m + 1) (tk5 N p h)) (by simp only [upI_upA, upA_upA, upA_self, hI, tk5]) ?_
  refine aw_aload_n dX11_takes_106 rfl ?_
  refine aw_getR (b := m + 1) dX11_takes_107 fX11_7 hM.k hM.b rfl hM.r0 ?_
  refine aw_iload dX11_takes_110 rfl ?_
  refine aw_iconst (v := 5) dX11_takes_112 rfl ?_
  refine aw_iadd dX11_takes_113 ?_
  refine aw_aload_n dX11_takes_114 rfl ?_
  refine aw_cV dX11_takes_115 kX11_268 mX11_isQuota (rX11_isQuota hM upA_self (hN.cong (fun j hj _ => tk5_lo hj) e5o)) (Nat.le_of_ble_eq_true rfl) hM.k ⟨by decide, rfl⟩ hM.b rfl rfl (Nat.le_of_ble_eq_true rfl) ⟨Nat.le_refl _, Nat.le_refl _⟩ ?_
  rw [mQuota_cong (fun j hj => tk5_lo hj)]
  refine awt_bool dX11_takes_118 dX11_takes_121 dX11_takes_122 dX11_takes_125 ?_
  refine aw_iload dX11_takes_126 rfl ?_
  refine aw_iconst (v := (-1)) dX11_takes_128 rfl ?_
  refine awt_icmp_ne (A := 0) (B := 2) dX11_takes_129 dX11_takes_132 dX11_takes_133 dX11_takes_136 rfl rfl ?_
  refine aw_iadd dX11_takes_137 ?_
  refine aw_iastN (k := ((234 + (8 * (nLe N))) + 5)) dX11_takes_138 hM.k0 hM.b0 hM.l0 (gadd rfl rfl) (by omega) (by decide) ?_
  refine AW.mem (I2 := upA I (m + 1) (tk6 N p h)) (by simp only [upI_upA, upA_upA, upA_self, hI, tk6]) ?_
  refine aw_aload_n dX11_takes_139 rfl ?_
  refine aw_getR (b := m + 1) dX11_takes_140 fX11_7 hM.k hM.b rfl hM.r0 ?_
  refine aw_iload dX11_takes_143 rfl ?_
  refine aw_bipush (v := 6) dX11_takes_145 rfl ?_
  refine aw_iadd dX11_takes_147 ?_
  refine aw_iload_n dX11_takes_148 rfl ?_
  refine aw_iastN (k := ((234 + (8 * (nLe N))) + 6)) dX11_takes_149 hM.k0 hM.b0 hM.l0 (gadd rfl rfl) (by omega) (by decide) ?_
  refine AW.mem (I2 := upA I (m + 1) (tk7 N p h oo)) (by simp only [upI_upA, upA_upA, upA_self, hI, tk7]) ?_
  refine aw_aload_n dX11_takes_150 rfl ?_
  refine aw_getR (b := m + 1) dX11_takes_151 fX11_7 hM.k hM.b rfl hM.r0 ?_
  refine aw_iload dX11_takes_154 rfl ?_
  refine aw_bipush (v := 7) dX11_takes_156 rfl ?_
  refine aw_iadd dX11_takes_158 ?_
  refine aw_iload dX11_takes_159 rfl ?_
  refine aw_iastN (k := ((234 + (8 * (nLe N))) + 7)) dX11_takes_161 hM.k0 hM.b0 hM.l0 (gadd rfl rfl) (by omega) (by decide) ?_
  refine AW.mem (I2 := upA I (m + 1) (tk8 N p h oo)) (by simp only [upI_upA, upA_upA, upA_self, hI, tk8]) ?_
  refine aw_iconst (v := 0) dX11_takes_162 rfl ?_
  refine aw_istore dX11_takes_163 (by decide) rfl ?_
  exact loop 0 (Nat.zero_le _)
end RefS
