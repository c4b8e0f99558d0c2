/-! the class whole: acts -/
def SpF (I : MI) (L : ML) (J : MI) (M : ML) : Prop := Fr 35 I J ∧ FrL 35 L M ∧ FxS J 35
theorem SpF.rf {I : MI} {L : ML} (h : FxS I 35) : SpF I L I L := ⟨Fr.rf, fun _ _ => rfl, h⟩
def KF (t c : Nat) (N N' : Nat → Int32) (Q : Nat → Int64) (I : MI) (L : ML) (J : MI) (M : ML) : Prop :=
  (∀ x, (x = 0 ∨ 70 ≤ x) → (x < 69 + 2 + 34 * t ∨ 69 + 2 + 34 * t + 34 ≤ x) → J x = I x) ∧ (∀ x, (x = 0 ∨ 70 ≤ x) → (x < 69 + 2 + 34 * t ∨ 69 + 2 + 34 * t + 34 ≤ x) → M x = L x) ∧ CtS J M 1 N' Q ∧ CtS J M (69 + 2 + 34 * t) N Q ∧ J 69 1 = nI ((t + 1) % 12) ∧ J 69 2 = nI (min (c + 1) 12) ∧ FxS J 35
def CA (a : Act) (t c : Nat) (N : Nat → Int32) (Q : Nat → Int64) (z n : Nat) (sh : Shp) (I : MI) (L : ML) : PoT := fun v z' n' sh' J' M' => z' = z ∧ n' = n ∧ sh' = sh ∧ ∃ J, match a with
  | .inl s => v = some (.int (-1)) ∧ J' = upI J 0 8 s ∧ SpF I L J M'
  | .inr w => v = some (.int w.1) ∧ J' = upI J 0 8 0 ∧ KF t c N w.2 Q I L J M'
section CAs
variable {a : Act} {t c : Nat} {N N' : Nat → Int32} {Q : Nat → Int64} {z n : Nat} {sh : Shp} {I J : MI} {L M : ML}
theorem CA.no {s : Int32} (h : a = .inl s) (hs : SpF I L J M) : CA a t c N Q z n sh I L (some (.int (-1))) z n sh (upI J 0 8 s) M := by subst h; exact ⟨rfl, rfl, rfl, J, rfl, rfl, hs⟩
theorem CA.ok {v : Int32} (h : a = .inr (v, N')) (hk : KF t c N N' Q I L J M) : CA a t c N Q z n sh I L (some (.int v)) z n sh (upI J 0 8 0) M := by subst h; exact ⟨rfl, rfl, rfl, J, rfl, rfl, hk⟩
/-- kept, then the state of now changed -/
theorem KpH.kf {J1 : MI} (h : KpH 69 t c N Q I L J1 M) (ht : t < 12) (hN : Cn N) (hF : FxS I 35) (hf : Fr 1 J1 J) (hC : CtS J M 1 N' Q) : KF t c N N' Q I L J M := by
  obtain ⟨h1, h2, h3, h4, h5⟩ := h
  refine ⟨fun x q1 q2 => (hf x (by omega)).trans (h1 x (by omega) q2), fun x q1 q2 => h2 x q2, hC, h3.fr hN (fun a ha => hf _ (by omega)) (fun a ha => rfl), by rw [hf 69 (by omega)]; exact h4, by rw [hf 69 (by omega)]; exact h5, hF.fr (fun a ha => (hf _ (by omega)).trans (h1 _ (by omega) (by omega)))⟩
theorem KpH.now {J1 : MI} (h : KpH 69 t c N Q I L J1 M) (hN : Cn N) (hC : CtS I L 1 N Q) : CtS J1 M 1 N Q := hC.fr hN (fun a ha => h.1 _ (by omega) (by omega)) (fun a ha => h.2.1 _ (by omega))
end CAs
section ClsS
variable {z n : Nat} {sh : Shp} {I : MI} {L : ML} {N : Nat → Int32} {Q : Nat → Int64}
set_option maxHeartbeats 4000000 in
set_option maxRecDepth 100000 in
theorem sX10_bid (hX : IsX n sh) (hC : CtS I L 1 N Q) (hIv : Iv N) {t c : Nat} (ht : t < 12) (hc : c ≤ 12) (e1 : I 69 1 = nI t) (e2 : I 69 2 = nI c) (hFk : FxS I (69 + 2 + 34 * t)) (hFs : FxS I 35) {x y : Int32} : CM yX10_bid cX10_bid 5 (Option.some .int) 5 0 0 [.ref 0, .int x, .int y] z n sh I L (CA (aBid N x y) t c N Q z n sh I L) := by
  refine CM.go [some (.ref 0), some (.int x), some (.int y), none, none] rfl rfl (Nat.le_of_ble_eq_true rfl) (fun X g q => ?_)
  have hO := hIv.ok
  have hN := hO.1
  have hR := hO.2.1
  have hB := hO.2.2.1
  have hE := hO.2.2.2
  have h8 := hN.p8
  have h10 := hN.h10
  have hS := hX.now
  cases h9x : mFrom x 0 (N 231 - 1) with
  | false =>
    cases h9y : mFrom y 0 (N 230 - 1) with
    | false =>
      refine aw_aload_n dX10_bid_0 rfl ?_
      refine aw_getR (b := 1) dX10_bid_1 fX10_10 hX.k hX.b rfl hX.r0 ?_
      refine aw_iload_n dX10_bid_4 rfl ?_
      refine aw_cV dX10_bid_5 kX10_176 mX7_houseAt (sX7_houseAtN hS hC hO h9x) (Nat.le_of_ble_eq_true rfl) hS.k ⟨by decide, rfl⟩ hS.b0 rfl rfl (Nat.le_of_ble_eq_true rfl) ⟨Nat.le_refl _, Nat.le_refl _⟩ ?_
      refine aw_astore_nN dX10_bid_8 (by decide) rfl ?_
      refine aw_aload_n dX10_bid_9 rfl ?_
      refine aw_getR (b := 1) dX10_bid_10 fX10_10 hX.k hX.b rfl hX.r0 ?_
      refine aw_iload_n dX10_bid_13 rfl ?_
      refine aw_cV dX10_bid_14 kX10_132 mX7_homeAt (sX7_homeAtN hS hC hO h9y) (Nat.le_of_ble_eq_true rfl) hS.k ⟨by decide, rfl⟩ hS.b0 rfl rfl (Nat.le_of_ble_eq_true rfl) ⟨Nat.le_refl _, Nat.le_refl _⟩ ?_
      refine aw_astoreN dX10_bid_17 (by decide) rfl ?_
      refine aw_aload_nN dX10_bid_19 rfl ?_
      refine aw_ifnullN (tgt := 28) dX10_bid_20 rfl ?_
      refine aw_aload_n dX10_bid_28 rfl ?_
      refine aw_iconst (v := 2) dX10_bid_29 rfl ?_
      refine aw_cV dX10_bid_30 kX10_76 mX10_fail (sX10_fail hX) (Nat.le_of_ble_eq_true rfl) hX.k ⟨by decide, rfl⟩ hX.b rfl rfl (Nat.le_of_ble_eq_true rfl) ⟨Nat.le_refl _, Nat.le_refl _⟩ ?_
      refine aw_iret q rfl dX10_bid_33 ⟨Nat.le_refl _, Nat.le_refl _⟩ ?_
      refine CA.no (s := 2) ?_ (SpF.rf hFs)
      unfold aBid mOnes
      rw [h9x, h9y]
      rfl
    | true =>
      obtain ⟨h, hh, rfl⟩ := from_ix hN.h (by omega) h9y
      have e9h : (nI h).toNatClampNeg = h := nI_clamp (by omega)
      refine aw_aload_n dX10_bid_0 rfl ?_
      refine aw_getR (b := 1) dX10_bid_1 fX10_10 hX.k hX.b rfl hX.r0 ?_
      refine aw_iload_n dX10_bid_4 rfl ?_
      refine aw_cV dX10_bid_5 kX10_176 mX7_houseAt (sX7_houseAtN hS hC hO h9x) (Nat.le_of_ble_eq_true rfl) hS.k ⟨by decide, rfl⟩ hS.b0 rfl rfl (Nat.le_of_ble_eq_true rfl) ⟨Nat.le_refl _, Nat.le_refl _⟩ ?_
      refine aw_astore_nN dX10_bid_8 (by decide) rfl ?_
      refine aw_aload_n dX10_bid_9 rfl ?_
      refine aw_getR (b := 1) dX10_bid_10 fX10_10 hX.k hX.b rfl hX.r0 ?_
      refine aw_iload_n dX10_bid_13 rfl ?_
      refine aw_cV dX10_bid_14 kX10_132 mX7_homeAt (sX7_homeAt hS hC hO rfl hh) (Nat.le_of_ble_eq_true rfl) hS.k ⟨by decide, rfl⟩ hS.b0 rfl rfl (Nat.le_of_ble_eq_true rfl) ⟨Nat.le_refl _, Nat.le_refl _⟩ ?_
      refine aw_astore dX10_bid_17 (by decide) rfl ?_
      refine aw_aload_nN dX10_bid_19 rfl ?_
      refine aw_ifnullN (tgt := 28) dX10_bid_20 rfl ?_
      refine aw_aload_n dX10_bid_28 rfl ?_
      refine aw_iconst (v := 2) dX10_bid_29 rfl ?_
      refine aw_cV dX10_bid_30 kX10_76 mX10_fail (sX10_fail hX) (Nat.le_of_ble_eq_true rfl) hX.k ⟨by decide, rfl⟩ hX.b rfl rfl (Nat.le_of_ble_eq_true rfl) ⟨Nat.le_refl _, Nat.le_refl _⟩ ?_
      refine aw_iret q rfl dX10_bid_33 ⟨Nat.le_refl _, Nat.le_refl _⟩ ?_
      refine CA.no (s := 2) ?_ (SpF.rf hFs)
      unfold aBid mOnes
      rw [h9x, h9y]
      rfl
  | true =>
    obtain ⟨p, hp, rfl⟩ := from_ix hN.p (by omega) h9x
    have e9p : (nI p).toNatClampNeg = p := nI_clamp (by omega)
    cases h9y : mFrom y 0 (N 230 - 1) with
    | false =>
      refine aw_aload_n dX10_bid_0 rfl ?_
      refine aw_getR (b := 1) dX10_bid_1 fX10_10 hX.k hX.b rfl hX.r0 ?_
      refine aw_iload_n dX10_bid_4 rfl ?_
      refine aw_cV dX10_bid_5 kX10_176 mX7_houseAt (sX7_houseAt hS hC hO rfl hp) (Nat.le_of_ble_eq_true rfl) hS.k ⟨by decide, rfl⟩ hS.b0 rfl rfl (Nat.le_of_ble_eq_true rfl) ⟨Nat.le_refl _, Nat.le_refl _⟩ ?_
      refine aw_astore_n dX10_bid_8 (by decide) rfl ?_
      refine aw_aload_n dX10_bid_9 rfl ?_
      refine aw_getR (b := 1) dX10_bid_10 fX10_10 hX.k hX.b rfl hX.r0 ?_
      refine aw_iload_n dX10_bid_13 rfl ?_
      refine aw_cV dX10_bid_14 kX10_132 mX7_homeAt (sX7_homeAtN hS hC hO h9y) (Nat.le_of_ble_eq_true rfl) hS.k ⟨by decide, rfl⟩ hS.b0 rfl rfl (Nat.le_of_ble_eq_true rfl) ⟨Nat.le_refl _, Nat.le_refl _⟩ ?_
      refine aw_astoreN dX10_bid_17 (by decide) rfl ?_
      refine aw_aload_n dX10_bid_19 rfl ?_
      refine aw_ifnull dX10_bid_20 ?_
      refine aw_aloadN dX10_bid_23 rfl ?_
      refine aw_ifnonnullN dX10_bid_25 ?_
      refine aw_aload_n dX10_bid_28 rfl ?_
      refine aw_iconst (v := 2) dX10_bid_29 rfl ?_
      refine aw_cV dX10_bid_30 kX10_76 mX10_fail (sX10_fail hX) (Nat.le_of_ble_eq_true rfl) hX.k ⟨by decide, rfl⟩ hX.b rfl rfl (Nat.le_of_ble_eq_true rfl) ⟨Nat.le_refl _, Nat.le_refl _⟩ ?_
      refine aw_iret q rfl dX10_bid_33 ⟨Nat.le_refl _, Nat.le_refl _⟩ ?_
      refine CA.no (s := 2) ?_ (SpF.rf hFs)
      unfold aBid mOnes
      rw [h9x, h9y]
      rfl
    | true =>
      obtain ⟨h, hh, rfl⟩ := from_ix hN.h (by omega) h9y
      have e9h : (nI h).toNatClampNeg = h := nI_clamp (by omega)
      refine aw_aload_n dX10_bid_0 rfl ?_
      refine aw_getR (b := 1) dX10_bid_1 fX10_10 hX.k hX.b rfl hX.r0 ?_
      refine aw_iload_n dX10_bid_4 rfl ?_
      refine aw_cV dX10_bid_5 kX10_176 mX7_houseAt (sX7_houseAt hS hC hO rfl hp) (Nat.le_of_ble_eq_true rfl) hS.k ⟨by decide, rfl⟩ hS.b0 rfl rfl (Nat.le_of_ble_eq_true rfl) ⟨Nat.le_refl _, Nat.le_refl _⟩ ?_
      refine aw_astore_n dX10_bid_8 (by decide) rfl ?_
      refine aw_aload_n dX10_bid_9 rfl ?_
      refine aw_getR (b := 1) dX10_bid_10 fX10_10 hX.k hX.b rfl hX.r0 ?_
      refine aw_iload_n dX10_bid_13 rfl ?_
      refine aw_cV dX10_bid_14 kX10_132 mX7_homeAt (sX7_homeAt hS hC hO rfl hh) (Nat.le_of_ble_eq_true rfl) hS.k ⟨by decide, rfl⟩ hS.b0 rfl rfl (Nat.le_of_ble_eq_true rfl) ⟨Nat.le_refl _, Nat.le_refl _⟩ ?_
      refine aw_astore dX10_bid_17 (by decide) rfl ?_
      refine aw_aload_n dX10_bid_19 rfl ?_
      refine aw_ifnull dX10_bid_20 ?_
      refine aw_aload dX10_bid_23 rfl ?_
      refine aw_ifnonnull (tgt := 34) dX10_bid_25 rfl ?_
      refine aw_aload_n dX10_bid_34 rfl ?_
      refine aw_getR (b := 1) dX10_bid_35 fX10_10 hX.k hX.b rfl hX.r0 ?_
      refine aw_aload_n dX10_bid_38 rfl ?_
      refine aw_aload dX10_bid_39 rfl ?_
      refine aw_cV dX10_bid_41 kX10_221 mX7_whyNot (sX7_whyNot hS hC hO hp hh) (Nat.le_of_ble_eq_true rfl) hS.k ⟨by decide, rfl⟩ hS.b0 rfl rfl (Nat.le_of_ble_eq_true rfl) ⟨Nat.le_refl _, Nat.le_refl _⟩ ?_
      refine aw_if_eq (tgt := 54) dX10_bid_44 rfl (fun c44 => ?_) (fun c44 => ?_)
      · refine aw_aload_n dX10_bid_54 rfl ?_
        refine aw_getR (b := 69) dX10_bid_55 fX10_22 hX.k hX.b rfl hX.r2 ?_
        refine aw_aload_n dX10_bid_58 rfl ?_
        refine aw_getR (b := 1) dX10_bid_59 fX10_10 hX.k hX.b rfl hX.r0 ?_
        refine aw_kV dX10_bid_62 kX10_358 mX1_keep (sX1_keep hX.his hX.now (Or.inl (by decide)) ht e1 e2 hc hFk hC hN) (Nat.le_of_ble_eq_true rfl) hX.his.2.1 ⟨by decide, rfl⟩ hX.his.b0 rfl rfl (Nat.le_of_ble_eq_true rfl) ⟨Nat.le_refl _, Nat.le_refl _⟩ (fun J1 M1 hK1 => ?_)
        have hC1 := hK1.now hN hC
        refine aw_aload_n dX10_bid_65 rfl ?_
        refine aw_dup dX10_bid_66 rfl ?_
        refine aw_getI dX10_bid_67 fX10_361 (hS.po (by omega)) (hS.pb (by omega)) rfl ?_
        refine AW.top (hC1.pf h8 (p := p) (w := 10) hp (by decide) (by decide) (by decide)) ?_
        refine aw_aload dX10_bid_70 rfl ?_
        refine aw_getI dX10_bid_72 fX10_364 (hS.ho (by omega)) (hS.hb (by omega)) rfl ?_
        refine AW.top (hC1.hi (h := h) (by omega)) ?_
        refine aw_ior dX10_bid_75 ?_
        refine aw_putI dX10_bid_76 fX10_361 (hS.po (by omega)) (hS.pb (by omega)) rfl rfl ?_
        have hor := or_bits (hN.bi10 (show p < 8 by omega)) (show h < 10 by omega)
        have c2 : Cn (bidN N p h) := hN.bids' (by omega) (b := nBi N p ||| 2 ^ h) (by rw [hN.bi (by omega)]; exact hor.1) hor.2
        have hJ2 : CtS (upI J1 (1 + 13 + 2 * p) 13 (N (80 + 18 * p + 10) ||| nI (2 ^ h))) M1 1 (bidN N p h) Q := by
          unfold bidN
          rw [shl_bit h (by omega)]
          exact hC1.putP hN (p := p) (w := 10) (by omega) (by decide) (by decide) (by decide) (by decide) (by decide) (fun q => absurd q (by decide))
        have eP2 : nPo (bidN N p h) = nPo N := by unfold nPo bidN mPuts; rw [upd_ne (by omega)]
        refine aw_aload_n dX10_bid_79 rfl ?_
        refine aw_aload_n dX10_bid_80 rfl ?_
        refine aw_cV dX10_bid_81 kX10_208 mX3_countBids (sX3_countBids hS hJ2 c2 (by omega)) (Nat.le_of_ble_eq_true rfl) (hS.po (by omega)) ⟨by decide, rfl⟩ (hS.pb (by omega)) rfl rfl (Nat.le_of_ble_eq_true rfl) ⟨Nat.le_refl _, Nat.le_refl _⟩ ?_
        refine aw_cV dX10_bid_84 kX10_94 mX10_answer (sX10_answer hX) (Nat.le_of_ble_eq_true rfl) hX.k ⟨by decide, rfl⟩ hX.b rfl rfl (Nat.le_of_ble_eq_true rfl) ⟨Nat.le_refl _, Nat.le_refl _⟩ ?_
        refine aw_iret q rfl dX10_bid_87 ⟨Nat.le_refl _, Nat.le_refl _⟩ ?_
        refine CA.ok ?_ (hK1.kf ht hN hFs (Fr.rf.put (by omega)) hJ2)
        unfold aBid mOnes
        rw [h9x, h9y, e9p, e9h]
        exact if_neg (show ¬ ¬ mWhy N p h = 0 from fun q => q c44)
      · refine aw_aload_n dX10_bid_47 rfl ?_
        refine aw_bipush (v := 7) dX10_bid_48 rfl ?_
        refine aw_cV dX10_bid_50 kX10_76 mX10_fail (sX10_fail hX) (Nat.le_of_ble_eq_true rfl) hX.k ⟨by decide, rfl⟩ hX.b rfl rfl (Nat.le_of_ble_eq_true rfl) ⟨Nat.le_refl _, Nat.le_refl _⟩ ?_
        refine aw_iret q rfl dX10_bid_53 ⟨Nat.le_refl _, Nat.le_refl _⟩ ?_
        refine CA.no (s := 7) ?_ (SpF.rf hFs)
        unfold aBid mOnes
        rw [h9x, h9y, e9p, e9h]
        exact if_pos c44
set_option maxHeartbeats 4000000 in
set_option maxRecDepth 100000 in
theorem sX10_unbid (hX : IsX n sh) (hC : CtS I L 1 N Q) (hIv : Iv N) {t c : Nat} (ht : t < 12) (hc : c ≤ 12) (e1 : I 69 1 = nI t) (e2 : I 69 2 = nI c) (hFk : FxS I (69 + 2 + 34 * t)) (hFs : FxS I 35) {x y : Int32} : CM yX10_unbid cX10_unbid 5 (Option.some .int) 5 0 0 [.ref 0, .int x, .int y] z n sh I L (CA (aUnbid N x y) t c N Q z n sh I L) := by
  refine CM.go [some (.ref 0), some (.int x), some (.int y), none, none] rfl rfl (Nat.le_of_ble_eq_true rfl) (fun X g q => ?_)
  have hO := hIv.ok
  have hN := hO.1
  have hR := hO.2.1
  have hB := hO.2.2.1
  have hE := hO.2.2.2
  have h8 := hN.p8
  have h10 := hN.h10
  have hS := hX.now
  cases h9x : mFrom x 0 (N 231 - 1) with
  | false =>
    cases h9y : mFrom y 0 (N 230 - 1) with
    | false =>
      refine aw_aload_n dX10_unbid_0 rfl ?_
      refine aw_getR (b := 1) dX10_unbid_1 fX10_10 hX.k hX.b rfl hX.r0 ?_
      refine aw_iload_n dX10_unbid_4 rfl ?_
      refine aw_cV dX10_unbid_5 kX10_176 mX7_houseAt (sX7_houseAtN hS hC hO h9x) (Nat.le_of_ble_eq_true rfl) hS.k ⟨by decide, rfl⟩ hS.b0 rfl rfl (Nat.le_of_ble_eq_true rfl) ⟨Nat.le_refl _, Nat.le_refl _⟩ ?_
      refine aw_astore_nN dX10_unbid_8 (by decide) rfl ?_
      refine aw_aload_n dX10_unbid_9 rfl ?_
      refine aw_getR (b := 1) dX10_unbid_10 fX10_10 hX.k hX.b rfl hX.r0 ?_
      refine aw_iload_n dX10_unbid_13 rfl ?_
      refine aw_cV dX10_unbid_14 kX10_132 mX7_homeAt (sX7_homeAtN hS hC hO h9y) (Nat.le_of_ble_eq_true rfl) hS.k ⟨by decide, rfl⟩ hS.b0 rfl rfl (Nat.le_of_ble_eq_true rfl) ⟨Nat.le_refl _, Nat.le_refl _⟩ ?_
      refine aw_astoreN dX10_unbid_17 (by decide) rfl ?_
      refine aw_aload_nN dX10_unbid_19 rfl ?_
      refine aw_ifnullN (tgt := 28) dX10_unbid_20 rfl ?_
      refine aw_aload_n dX10_unbid_28 rfl ?_
      refine aw_iconst (v := 2) dX10_unbid_29 rfl ?_
      refine aw_cV dX10_unbid_30 kX10_76 mX10_fail (sX10_fail hX) (Nat.le_of_ble_eq_true rfl) hX.k ⟨by decide, rfl⟩ hX.b rfl rfl (Nat.le_of_ble_eq_true rfl) ⟨Nat.le_refl _, Nat.le_refl _⟩ ?_
      refine aw_iret q rfl dX10_unbid_33 ⟨Nat.le_refl _, Nat.le_refl _⟩ ?_
      refine CA.no (s := 2) ?_ (SpF.rf hFs)
      unfold aUnbid mOnes
      rw [h9x, h9y]
      rfl
    | true =>
      obtain ⟨h, hh, rfl⟩ := from_ix hN.h (by omega) h9y
      have e9h : (nI h).toNatClampNeg = h := nI_clamp (by omega)
      refine aw_aload_n dX10_unbid_0 rfl ?_
      refine aw_getR (b := 1) dX10_unbid_1 fX10_10 hX.k hX.b rfl hX.r0 ?_
      refine aw_iload_n dX10_unbid_4 rfl ?_
      refine aw_cV dX10_unbid_5 kX10_176 mX7_houseAt (sX7_houseAtN hS hC hO h9x) (Nat.le_of_ble_eq_true rfl) hS.k ⟨by decide, rfl⟩ hS.b0 rfl rfl (Nat.le_of_ble_eq_true rfl) ⟨Nat.le_refl _, Nat.le_refl _⟩ ?_
      refine aw_astore_nN dX10_unbid_8 (by decide) rfl ?_
      refine aw_aload_n dX10_unbid_9 rfl ?_
      refine aw_getR (b := 1) dX10_unbid_10 fX10_10 hX.k hX.b rfl hX.r0 ?_
      refine aw_iload_n dX10_unbid_13 rfl ?_
      refine aw_cV dX10_unbid_14 kX10_132 mX7_homeAt (sX7_homeAt hS hC hO rfl hh) (Nat.le_of_ble_eq_true rfl) hS.k ⟨by decide, rfl⟩ hS.b0 rfl rfl (Nat.le_of_ble_eq_true rfl) ⟨Nat.le_refl _, Nat.le_refl _⟩ ?_
      refine aw_astore dX10_unbid_17 (by decide) rfl ?_
      refine aw_aload_nN dX10_unbid_19 rfl ?_
      refine aw_ifnullN (tgt := 28) dX10_unbid_20 rfl ?_
      refine aw_aload_n dX10_unbid_28 rfl ?_
      refine aw_iconst (v := 2) dX10_unbid_29 rfl ?_
      refine aw_cV dX10_unbid_30 kX10_76 mX10_fail (sX10_fail hX) (Nat.le_of_ble_eq_true rfl) hX.k ⟨by decide, rfl⟩ hX.b rfl rfl (Nat.le_of_ble_eq_true rfl) ⟨Nat.le_refl _, Nat.le_refl _⟩ ?_
      refine aw_iret q rfl dX10_unbid_33 ⟨Nat.le_refl _, Nat.le_refl _⟩ ?_
      refine CA.no (s := 2) ?_ (SpF.rf hFs)
      unfold aUnbid mOnes
      rw [h9x, h9y]
      rfl
  | true =>
    obtain ⟨p, hp, rfl⟩ := from_ix hN.p (by omega) h9x
    have e9p : (nI p).toNatClampNeg = p := nI_clamp (by omega)
    cases h9y : mFrom y 0 (N 230 - 1) with
    | false =>
      refine aw_aload_n dX10_unbid_0 rfl ?_
      refine aw_getR (b := 1) dX10_unbid_1 fX10_10 hX.k hX.b rfl hX.r0 ?_
      refine aw_iload_n dX10_unbid_4 rfl ?_
      refine aw_cV dX10_unbid_5 kX10_176 mX7_houseAt (sX7_houseAt hS hC hO rfl hp) (Nat.le_of_ble_eq_true rfl) hS.k ⟨by decide, rfl⟩ hS.b0 rfl rfl (Nat.le_of_ble_eq_true rfl) ⟨Nat.le_refl _, Nat.le_refl _⟩ ?_
      refine aw_astore_n dX10_unbid_8 (by decide) rfl ?_
      refine aw_aload_n dX10_unbid_9 rfl ?_
      refine aw_getR (b := 1) dX10_unbid_10 fX10_10 hX.k hX.b rfl hX.r0 ?_
      refine aw_iload_n dX10_unbid_13 rfl ?_
      refine aw_cV dX10_unbid_14 kX10_132 mX7_homeAt (sX7_homeAtN hS hC hO h9y) (Nat.le_of_ble_eq_true rfl) hS.k ⟨by decide, rfl⟩ hS.b0 rfl rfl (Nat.le_of_ble_eq_true rfl) ⟨Nat.le_refl _, Nat.le_refl _⟩ ?_
      refine aw_astoreN dX10_unbid_17 (by decide) rfl ?_
      refine aw_aload_n dX10_unbid_19 rfl ?_
      refine aw_ifnull dX10_unbid_20 ?_
      refine aw_aloadN dX10_unbid_23 rfl ?_
      refine aw_ifnonnullN dX10_unbid_25 ?_
      refine aw_aload_n dX10_unbid_28 rfl ?_
      refine aw_iconst (v := 2) dX10_unbid_29 rfl ?_
      refine aw_cV dX10_unbid_30 kX10_76 mX10_fail (sX10_fail hX) (Nat.le_of_ble_eq_true rfl) hX.k ⟨by decide, rfl⟩ hX.b rfl rfl (Nat.le_of_ble_eq_true rfl) ⟨Nat.le_refl _, Nat.le_refl _⟩ ?_
      refine aw_iret q rfl dX10_unbid_33 ⟨Nat.le_refl _, Nat.le_refl _⟩ ?_
      refine CA.no (s := 2) ?_ (SpF.rf hFs)
      unfold aUnbid mOnes
      rw [h9x, h9y]
      rfl
    | true =>
      obtain ⟨h, hh, rfl⟩ := from_ix hN.h (by omega) h9y
      have e9h : (nI h).toNatClampNeg = h := nI_clamp (by omega)
      refine aw_aload_n dX10_unbid_0 rfl ?_
      refine aw_getR (b := 1) dX10_unbid_1 fX10_10 hX.k hX.b rfl hX.r0 ?_
      refine aw_iload_n dX10_unbid_4 rfl ?_
      refine aw_cV dX10_unbid_5 kX10_176 mX7_houseAt (sX7_houseAt hS hC hO rfl hp) (Nat.le_of_ble_eq_true rfl) hS.k ⟨by decide, rfl⟩ hS.b0 rfl rfl (Nat.le_of_ble_eq_true rfl) ⟨Nat.le_refl _, Nat.le_refl _⟩ ?_
      refine aw_astore_n dX10_unbid_8 (by decide) rfl ?_
      refine aw_aload_n dX10_unbid_9 rfl ?_
      refine aw_getR (b := 1) dX10_unbid_10 fX10_10 hX.k hX.b rfl hX.r0 ?_
      refine aw_iload_n dX10_unbid_13 rfl ?_
      refine aw_cV dX10_unbid_14 kX10_132 mX7_homeAt (sX7_homeAt hS hC hO rfl hh) (Nat.le_of_ble_eq_true rfl) hS.k ⟨by decide, rfl⟩ hS.b0 rfl rfl (Nat.le_of_ble_eq_true rfl) ⟨Nat.le_refl _, Nat.le_refl _⟩ ?_
      refine aw_astore dX10_unbid_17 (by decide) rfl ?_
      refine aw_aload_n dX10_unbid_19 rfl ?_
      refine aw_ifnull dX10_unbid_20 ?_
      refine aw_aload dX10_unbid_23 rfl ?_
      refine aw_ifnonnull (tgt := 34) dX10_unbid_25 rfl ?_
      refine aw_aload_n dX10_unbid_34 rfl ?_
      refine aw_aload dX10_unbid_35 rfl ?_
      refine aw_cV dX10_unbid_37 kX10_225 mX3_bidsFor (sX3_bidsFor hS hC hN hp (by omega)) (Nat.le_of_ble_eq_true rfl) (hS.po (by omega)) ⟨by decide, rfl⟩ (hS.pb (by omega)) rfl rfl (Nat.le_of_ble_eq_true rfl) ⟨Nat.le_refl _, Nat.le_refl _⟩ ?_
      refine aw_if_ne (tgt := 49) dX10_unbid_40 rfl (fun c40 => ?_) (fun c40 => ?_)
      · refine aw_aload_n dX10_unbid_49 rfl ?_
        refine aw_getR (b := 69) dX10_unbid_50 fX10_22 hX.k hX.b rfl hX.r2 ?_
        refine aw_aload_n dX10_unbid_53 rfl ?_
        refine aw_getR (b := 1) dX10_unbid_54 fX10_10 hX.k hX.b rfl hX.r0 ?_
        refine aw_kV dX10_unbid_57 kX10_358 mX1_keep (sX1_keep hX.his hX.now (Or.inl (by decide)) ht e1 e2 hc hFk hC hN) (Nat.le_of_ble_eq_true rfl) hX.his.2.1 ⟨by decide, rfl⟩ hX.his.b0 rfl rfl (Nat.le_of_ble_eq_true rfl) ⟨Nat.le_refl _, Nat.le_refl _⟩ (fun J1 M1 hK1 => ?_)
        have hC1 := hK1.now hN hC
        refine aw_aload_n dX10_unbid_60 rfl ?_
        refine aw_dup dX10_unbid_61 rfl ?_
        refine aw_getI dX10_unbid_62 fX10_361 (hS.po (by omega)) (hS.pb (by omega)) rfl ?_
        refine AW.top (hC1.pf h8 (p := p) (w := 10) hp (by decide) (by decide) (by decide)) ?_
        refine aw_aload dX10_unbid_65 rfl ?_
        refine aw_getI dX10_unbid_67 fX10_364 (hS.ho (by omega)) (hS.hb (by omega)) rfl ?_
        refine AW.top (hC1.hi (h := h) (by omega)) ?_
        refine aw_iconst (v := (-1)) dX10_unbid_70 rfl ?_
        refine aw_ixor dX10_unbid_71 ?_
        refine aw_iand dX10_unbid_72 ?_
        refine aw_putI dX10_unbid_73 fX10_361 (hS.po (by omega)) (hS.pb (by omega)) rfl rfl ?_
        have e9 := drop_bit (x := N (80 + 18 * p + 10)) (show h < 10 by omega)
        obtain ⟨u, hu, eu⟩ := dropB_v (hN.bi10 (show p < 8 by omega)) (show h < 10 by omega)
        have c2 : Cn (mDropB N p h) := hN.bids' (by omega) (b := u) (by rw [hN.bi (by omega)]; exact eu) hu
        have hJ2 : CtS (upI J1 (1 + 13 + 2 * p) 13 (N (80 + 18 * p + 10) &&& (nI (2 ^ h) ^^^ (-1)))) M1 1 (mDropB N p h) Q := by
          unfold mDropB
          rw [e9]
          exact hC1.putP hN (p := p) (w := 10) (by omega) (by decide) (by decide) (by decide) (by decide) (by decide) (fun q => absurd q (by decide))
        have eP2 : nPo (mDropB N p h) = nPo N := by unfold nPo mDropB mPuts; rw [upd_ne (by omega)]
        refine aw_aload_n dX10_unbid_76 rfl ?_
        refine aw_aload_n dX10_unbid_77 rfl ?_
        refine aw_cV dX10_unbid_78 kX10_208 mX3_countBids (sX3_countBids hS hJ2 c2 (by omega)) (Nat.le_of_ble_eq_true rfl) (hS.po (by omega)) ⟨by decide, rfl⟩ (hS.pb (by omega)) rfl rfl (Nat.le_of_ble_eq_true rfl) ⟨Nat.le_refl _, Nat.le_refl _⟩ ?_
        refine aw_cV dX10_unbid_81 kX10_94 mX10_answer (sX10_answer hX) (Nat.le_of_ble_eq_true rfl) hX.k ⟨by decide, rfl⟩ hX.b rfl rfl (Nat.le_of_ble_eq_true rfl) ⟨Nat.le_refl _, Nat.le_refl _⟩ ?_
        refine aw_iret q rfl dX10_unbid_84 ⟨Nat.le_refl _, Nat.le_refl _⟩ ?_
        refine CA.ok ?_ (hK1.kf ht hN hFs (Fr.rf.put (by omega)) hJ2)
        unfold aUnbid mOnes
        rw [h9x, h9y, e9p, e9h, bI1.mp c40]
        rfl
      · refine aw_aload_n dX10_unbid_43 rfl ?_
        refine aw_iconst (v := 5) dX10_unbid_44 rfl ?_
        refine aw_cV dX10_unbid_45 kX10_76 mX10_fail (sX10_fail hX) (Nat.le_of_ble_eq_true rfl) hX.k ⟨by decide, rfl⟩ hX.b rfl rfl (Nat.le_of_ble_eq_true rfl) ⟨Nat.le_refl _, Nat.le_refl _⟩ ?_
        refine aw_iret q rfl dX10_unbid_48 ⟨Nat.le_refl _, Nat.le_refl _⟩ ?_
        refine CA.no (s := 5) ?_ (SpF.rf hFs)
        unfold aUnbid mOnes
        rw [h9x, h9y, e9p, bI0.mp c40]
        rfl
theorem wk_999 {N : Nat → Int32} (hR : Rg N) (h : ¬ N 232 < 999) : N 232 = 999 := by
  obtain ⟨v, e, -, hv⟩ := hR.2.2.1
  rw [e] at h ⊢
  have := mt (nI_ltI (a := v) (b := 999) (by omega) (by decide)).mpr h
  rw [show v = 999 by omega]
  rfl
set_option maxHeartbeats 4000000 in
set_option maxRecDepth 100000 in
theorem sX10_week (hX : IsX n sh) (hC : CtS I L 1 N Q) (hIv : Iv N) {t c : Nat} (ht : t < 12) (hc : c ≤ 12) (e1 : I 69 1 = nI t) (e2 : I 69 2 = nI c) (hFk : FxS I (69 + 2 + 34 * t)) (hFs : FxS I 35) : CM yX10_week cX10_week 1 (Option.some .int) 6 0 0 [.ref 0] z n sh I L (CA (aWeek N) t c N Q z n sh I L) := by
  refine CM.go [some (.ref 0)] rfl rfl (Nat.le_of_ble_eq_true rfl) (fun X g q => ?_)
  have hO := hIv.ok
  have hN := hO.1
  have hR := hO.2.1
  have hB := hO.2.2.1
  have hE := hO.2.2.2
  have h8 := hN.p8
  have h10 := hN.h10
  have hS := hX.now
  refine aw_aload_n dX10_week_0 rfl ?_
  refine aw_getR (b := 1) dX10_week_1 fX10_10 hX.k hX.b rfl hX.r0 ?_
  refine aw_getI dX10_week_4 fX10_106 hS.k hS.b0 rfl ?_
  refine AW.top hC.wk ?_
  refine aw_sipush (v := 999) dX10_week_7 rfl ?_
  refine aw_icmp_lt (tgt := 19) dX10_week_10 rfl (fun c10 => ?_) (fun c10 => ?_)
  · refine aw_aload_n dX10_week_19 rfl ?_
    refine aw_getR (b := 69) dX10_week_20 fX10_22 hX.k hX.b rfl hX.r2 ?_
    refine aw_aload_n dX10_week_23 rfl ?_
    refine aw_getR (b := 1) dX10_week_24 fX10_10 hX.k hX.b rfl hX.r0 ?_
    refine aw_kV dX10_week_27 kX10_358 mX1_keep (sX1_keep hX.his hX.now (Or.inl (by decide)) ht e1 e2 hc hFk hC hN) (Nat.le_of_ble_eq_true rfl) hX.his.2.1 ⟨by decide, rfl⟩ hX.his.b0 rfl rfl (Nat.le_of_ble_eq_true rfl) ⟨Nat.le_refl _, Nat.le_refl _⟩ (fun J1 M1 hK1 => ?_)
    have hC1 := hK1.now hN hC
    refine aw_aload_n dX10_week_30 rfl ?_
    refine aw_aload_n dX10_week_31 rfl ?_
    refine aw_getR (b := 1) dX10_week_32 fX10_10 hX.k hX.b rfl hX.r0 ?_
    refine aw_mV dX10_week_35 kX10_281 mX7_endWeek (sX7_endWeek hS hC1 hIv) (Nat.le_of_ble_eq_true rfl) hS.k ⟨by decide, rfl⟩ hS.b0 rfl rfl (Nat.le_of_ble_eq_true rfl) ⟨Nat.le_refl _, Nat.le_refl _⟩ (fun J2 hF2 hJ2 => ?_)
    
    refine aw_cV dX10_week_38 kX10_94 mX10_answer (sX10_answer hX) (Nat.le_of_ble_eq_true rfl) hX.k ⟨by decide, rfl⟩ hX.b rfl rfl (Nat.le_of_ble_eq_true rfl) ⟨Nat.le_refl _, Nat.le_refl _⟩ ?_
    refine aw_iret q rfl dX10_week_41 ⟨Nat.le_refl _, Nat.le_refl _⟩ ?_
    refine CA.ok ?_ (hK1.kf ht hN hFs hF2 hJ2)
    unfold aWeek
    rw [if_neg (fun q => by rw [q] at c10; exact absurd c10 (by decide))]
  · refine aw_aload_n dX10_week_13 rfl ?_
    refine aw_iconst (v := 3) dX10_week_14 rfl ?_
    refine aw_cV dX10_week_15 kX10_76 mX10_fail (sX10_fail hX) (Nat.le_of_ble_eq_true rfl) hX.k ⟨by decide, rfl⟩ hX.b rfl rfl (Nat.le_of_ble_eq_true rfl) ⟨Nat.le_refl _, Nat.le_refl _⟩ ?_
    refine aw_iret q rfl dX10_week_18 ⟨Nat.le_refl _, Nat.le_refl _⟩ ?_
    have e9 : N 232 = 999 := wk_999 hR c10
    refine CA.no (s := 3) ?_ (SpF.rf hFs)
    unfold aWeek
    rw [if_pos e9]
set_option maxHeartbeats 4000000 in
set_option maxRecDepth 100000 in
theorem sX10_auto (hX : IsX n sh) (hC : CtS I L 1 N Q) (hIv : Iv N) {t c : Nat} (ht : t < 12) (hc : c ≤ 12) (e1 : I 69 1 = nI t) (e2 : I 69 2 = nI c) (hFk : FxS I (69 + 2 + 34 * t)) (hFs : FxS I 35) : CM yX10_auto cX10_auto 2 (Option.some .int) 6 0 0 [.ref 0] z n sh I L (CA (aAuto N) t c N Q z n sh I L) := by
  refine CM.go [some (.ref 0), none] rfl rfl (Nat.le_of_ble_eq_true rfl) (fun X g q => ?_)
  have hO := hIv.ok
  have hN := hO.1
  have hR := hO.2.1
  have hB := hO.2.2.1
  have hE := hO.2.2.2
  have h8 := hN.p8
  have h10 := hN.h10
  have hS := hX.now
  refine aw_aload_n dX10_auto_0 rfl ?_
  refine aw_getR (b := 35) dX10_auto_1 fX10_16 hX.k hX.b rfl hX.r1 ?_
  refine aw_aload_n dX10_auto_4 rfl ?_
  refine aw_getR (b := 1) dX10_auto_5 fX10_10 hX.k hX.b rfl hX.r0 ?_
  refine aw_pV dX10_auto_8 kX10_84 mX7_copy (sX7_copy hX.spr hX.now (Or.inr (by decide)) hFs hC hN) (Nat.le_of_ble_eq_true rfl) hX.spr.k ⟨by decide, rfl⟩ hX.spr.b0 rfl rfl (Nat.le_of_ble_eq_true rfl) ⟨Nat.le_refl _, Nat.le_refl _⟩ (fun J1 M1 hF1 hG1 hJ1 => ?_)
  
  refine aw_aload_n dX10_auto_11 rfl ?_
  refine aw_getR (b := 35) dX10_auto_12 fX10_16 hX.k hX.b rfl hX.r1 ?_
  refine aw_mV dX10_auto_15 kX10_367 mX7_bidAsTheyWould (sX7_bidAsTheyWould hX.spr hJ1 hIv) (Nat.le_of_ble_eq_true rfl) hX.spr.k ⟨by decide, rfl⟩ hX.spr.b0 rfl rfl (Nat.le_of_ble_eq_true rfl) ⟨Nat.le_refl _, Nat.le_refl _⟩ (fun J2 hF2 hJ2 => ?_)
  
  refine aw_istore_n dX10_auto_18 (by decide) rfl ?_
  refine aw_iload_n dX10_auto_19 rfl ?_
  refine aw_if_ne (tgt := 29) dX10_auto_20 rfl (fun c20 => ?_) (fun c20 => ?_)
  · refine aw_aload_n dX10_auto_29 rfl ?_
    refine aw_getR (b := 69) dX10_auto_30 fX10_22 hX.k hX.b rfl hX.r2 ?_
    refine aw_aload_n dX10_auto_33 rfl ?_
    refine aw_getR (b := 1) dX10_auto_34 fX10_10 hX.k hX.b rfl hX.r0 ?_
    refine aw_kV dX10_auto_37 kX10_358 mX1_keep (sX1_keep hX.his hX.now (Or.inl (by decide)) ht ((congrFun (hF2 69 (by decide)) 1).trans ((congrFun (hF1 69 (by decide)) 1).trans e1)) ((congrFun (hF2 69 (by decide)) 2).trans ((congrFun (hF1 69 (by decide)) 2).trans e2)) hc (hFk.fr (fun a ha => (hF2 _ (by omega)).trans (hF1 _ (by omega)))) (hC.fr hN (fun a ha => (hF2 _ (by omega)).trans (hF1 _ (by omega))) (fun a ha => hG1 _ (by omega))) hN) (Nat.le_of_ble_eq_true rfl) hX.his.2.1 ⟨by decide, rfl⟩ hX.his.b0 rfl rfl (Nat.le_of_ble_eq_true rfl) ⟨Nat.le_refl _, Nat.le_refl _⟩ (fun J3 M3 hK3 => ?_)
    have iA := allBid_Iv hIv
    have hC3 : CtS J3 M3 35 (mAllBid N).1 Q := hJ2.fr iA.1 (fun a ha => hK3.1 _ (by omega) (by omega)) (fun a ha => hK3.2.1 _ (by omega))
    have hF3 : FxS J3 1 := hC.1.fr (fun a ha => (hK3.1 _ (by omega) (by omega)).trans ((hF2 _ (by omega)).trans (hF1 _ (by omega))))
    refine aw_aload_n dX10_auto_40 rfl ?_
    refine aw_getR (b := 1) dX10_auto_41 fX10_10 hX.k hX.b rfl hX.r0 ?_
    refine aw_aload_n dX10_auto_44 rfl ?_
    refine aw_getR (b := 35) dX10_auto_45 fX10_16 hX.k hX.b rfl hX.r1 ?_
    refine aw_pV dX10_auto_48 kX10_84 mX7_copy (sX7_copy hX.now hX.spr (Or.inl (by decide)) hF3 hC3 iA.1) (Nat.le_of_ble_eq_true rfl) hS.k ⟨by decide, rfl⟩ hS.b0 rfl rfl (Nat.le_of_ble_eq_true rfl) ⟨Nat.le_refl _, Nat.le_refl _⟩ (fun J4 M4 hF4 hG4 hJ4 => ?_)
    
    refine aw_aload_n dX10_auto_51 rfl ?_
    refine aw_iload_n dX10_auto_52 rfl ?_
    refine aw_cV dX10_auto_53 kX10_94 mX10_answer (sX10_answer hX) (Nat.le_of_ble_eq_true rfl) hX.k ⟨by decide, rfl⟩ hX.b rfl rfl (Nat.le_of_ble_eq_true rfl) ⟨Nat.le_refl _, Nat.le_refl _⟩ ?_
    refine aw_iret q rfl dX10_auto_56 ⟨Nat.le_refl _, Nat.le_refl _⟩ ?_
    refine CA.ok ?_ ⟨fun x q1 q2 => ?_, fun x q1 q2 => ?_, hJ4, ?_, ?_, ?_, ?_⟩
    · unfold aAuto
      rw [if_neg c20]
    · rw [hF4 x (by omega), hK3.1 x (by omega) q2, hF2 x (by omega), hF1 x (by omega)]
    · rw [hG4 x (by omega), hK3.2.1 x q2, hG1 x (by omega)]
    · exact hK3.2.2.1.fr hN (fun a ha => hF4 _ (by omega)) (fun a ha => hG4 _ (by omega))
    · rw [hF4 69 (by omega)]; exact hK3.2.2.2.1
    · rw [hF4 69 (by omega)]; exact hK3.2.2.2.2
    · exact hJ2.1.fr (fun a ha => (hF4 _ (by omega)).trans (hK3.1 _ (by omega) (by omega)))
  · refine aw_aload_n dX10_auto_23 rfl ?_
    refine aw_iconst (v := 4) dX10_auto_24 rfl ?_
    refine aw_cV dX10_auto_25 kX10_76 mX10_fail (sX10_fail hX) (Nat.le_of_ble_eq_true rfl) hX.k ⟨by decide, rfl⟩ hX.b rfl rfl (Nat.le_of_ble_eq_true rfl) ⟨Nat.le_refl _, Nat.le_refl _⟩ ?_
    refine aw_iret q rfl dX10_auto_28 ⟨Nat.le_refl _, Nat.le_refl _⟩ ?_
    refine CA.no (s := 4) ?_ ⟨hF1.tr hF2, hG1, hJ2.1⟩
    unfold aAuto
    rw [if_pos c20]
end ClsS
