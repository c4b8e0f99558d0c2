/-! the law: one case of the switch, for each of the calls in pairs -/
section LAWC
variable {X : Cx} {g : Gd} {I : MI} {L : ML} {i Ls z n cl sl : Nat} {sh : Shp} {xs : Nat → Int32} {u5 u6 : Option Value}
theorem lc_status (S : Scr X g Ls xs) (hX : IsX n sh) (hM : IsM n sh 496) (G : Good I L) (hi : i + 6 ≤ Ls) (hb : cl ≤ 601024 ∧ sl ≤ 7293034) (kk : ∀ J M, Good J M → AW X g RL cL_law 7 LBd (z, n, sh, cl, sl) J M 1790 (LcL i u5 u6) []) : AW X g RL cL_law 7 LBd (z, n, sh, cl, sl) I L 244 (LcL i u5 u6) [] := by
  refine aw_aload_n dL_law_244 rfl ?_
  obtain ⟨Po1, a, hc1, hk1⟩ := pr_status (z := z) hX hM G 
  refine aw_callV dL_law_245 kL_19 mX10_status hc1 (Nat.le_of_ble_eq_true rfl) hX.k ⟨by decide, rfl⟩ hX.b rfl rfl (Nat.le_of_ble_eq_true rfl) hb (fun v z' n' sh' J M hp => ?_)
  obtain ⟨rfl, rfl, rfl, rfl, Po2, hc2, hk2⟩ := hk1 _ _ _ _ _ _ hp
  refine aw_aload_n dL_law_248 rfl ?_
  refine aw_callV dL_law_249 kL_23 mX11_status hc2 (Nat.le_of_ble_eq_true rfl) hM.k ⟨by decide, rfl⟩ hM.b rfl rfl (Nat.le_of_ble_eq_true rfl) hb (fun v z' n' sh' J' M' hp2 => ?_)
  obtain ⟨rfl, rfl, rfl, rfl, G2⟩ := hk2 _ _ _ _ _ _ hp2
  exact aw_icmp_eq (tgt := 1790) dL_law_252 rfl (fun _ => kk _ _ G2) (fun c => absurd rfl c)
theorem lc_feed (S : Scr X g Ls xs) (hX : IsX n sh) (hM : IsM n sh 496) (G : Good I L) (hi : i + 6 ≤ Ls) (hb : cl ≤ 601024 ∧ sl ≤ 7293034) (kk : ∀ J M, Good J M → AW X g RL cL_law 7 LBd (z, n, sh, cl, sl) J M 1790 (LcL i u5 u6) []) : AW X g RL cL_law 7 LBd (z, n, sh, cl, sl) I L 257 (LcL i u5 u6) [] := by
  refine aw_aload_n dL_law_257 rfl ?_
  refine aw_arg S hi (j := 1) (by decide) rfl dL_law_258 dL_law_259 dL_law_261 dL_law_262 dL_law_263 ?_
  refine aw_arg S hi (j := 2) (by decide) rfl dL_law_264 dL_law_265 dL_law_267 dL_law_268 dL_law_269 ?_
  refine aw_arg S hi (j := 3) (by decide) rfl dL_law_270 dL_law_271 dL_law_273 dL_law_274 dL_law_275 ?_
  refine aw_arg S hi (j := 4) (by decide) rfl dL_law_276 dL_law_277 dL_law_279 dL_law_280 dL_law_281 ?_
  refine aw_arg S hi (j := 5) (by decide) rfl dL_law_282 dL_law_283 dL_law_285 dL_law_286 dL_law_287 ?_
  obtain ⟨Po1, a, hc1, hk1⟩ := pr_feed (z := z) hX hM G (a := xs (i + 1)) (b := xs (i + 2)) (c := xs (i + 3)) (d := xs (i + 4)) (e := xs (i + 5))
  refine aw_callV dL_law_288 kL_24 mX10_feed hc1 (Nat.le_of_ble_eq_true rfl) hX.k ⟨by decide, rfl⟩ hX.b rfl rfl (Nat.le_of_ble_eq_true rfl) hb (fun v z' n' sh' J M hp => ?_)
  obtain ⟨rfl, rfl, rfl, rfl, Po2, hc2, hk2⟩ := hk1 _ _ _ _ _ _ hp
  refine aw_aload_n dL_law_291 rfl ?_
  refine aw_arg S hi (j := 1) (by decide) rfl dL_law_292 dL_law_293 dL_law_295 dL_law_296 dL_law_297 ?_
  refine aw_arg S hi (j := 2) (by decide) rfl dL_law_298 dL_law_299 dL_law_301 dL_law_302 dL_law_303 ?_
  refine aw_arg S hi (j := 3) (by decide) rfl dL_law_304 dL_law_305 dL_law_307 dL_law_308 dL_law_309 ?_
  refine aw_arg S hi (j := 4) (by decide) rfl dL_law_310 dL_law_311 dL_law_313 dL_law_314 dL_law_315 ?_
  refine aw_arg S hi (j := 5) (by decide) rfl dL_law_316 dL_law_317 dL_law_319 dL_law_320 dL_law_321 ?_
  refine aw_callV dL_law_322 kL_28 mX11_feed hc2 (Nat.le_of_ble_eq_true rfl) hM.k ⟨by decide, rfl⟩ hM.b rfl rfl (Nat.le_of_ble_eq_true rfl) hb (fun v z' n' sh' J' M' hp2 => ?_)
  obtain ⟨rfl, rfl, rfl, rfl, G2⟩ := hk2 _ _ _ _ _ _ hp2
  exact aw_icmp_eq (tgt := 1790) dL_law_325 rfl (fun _ => kk _ _ G2) (fun c => absurd rfl c)
theorem lc_load (S : Scr X g Ls xs) (hX : IsX n sh) (hM : IsM n sh 496) (G : Good I L) (hi : i + 6 ≤ Ls) (hb : cl ≤ 601024 ∧ sl ≤ 7293034) (kk : ∀ J M, Good J M → AW X g RL cL_law 7 LBd (z, n, sh, cl, sl) J M 1790 (LcL i u5 u6) []) : AW X g RL cL_law 7 LBd (z, n, sh, cl, sl) I L 330 (LcL i u5 u6) [] := by
  refine aw_aload_n dL_law_330 rfl ?_
  refine aw_arg S hi (j := 1) (by decide) rfl dL_law_331 dL_law_332 dL_law_334 dL_law_335 dL_law_336 ?_
  obtain ⟨Po1, a, hc1, hk1⟩ := pr_load (z := z) hX hM G (x := xs (i + 1))
  refine aw_callV dL_law_337 kL_29 mX10_load hc1 (Nat.le_of_ble_eq_true rfl) hX.k ⟨by decide, rfl⟩ hX.b rfl rfl (Nat.le_of_ble_eq_true rfl) hb (fun v z' n' sh' J M hp => ?_)
  obtain ⟨rfl, rfl, rfl, rfl, Po2, hc2, hk2⟩ := hk1 _ _ _ _ _ _ hp
  refine aw_aload_n dL_law_340 rfl ?_
  refine aw_arg S hi (j := 1) (by decide) rfl dL_law_341 dL_law_342 dL_law_344 dL_law_345 dL_law_346 ?_
  refine aw_callV dL_law_347 kL_32 mX11_load hc2 (Nat.le_of_ble_eq_true rfl) hM.k ⟨by decide, rfl⟩ hM.b rfl rfl (Nat.le_of_ble_eq_true rfl) hb (fun v z' n' sh' J' M' hp2 => ?_)
  obtain ⟨rfl, rfl, rfl, rfl, G2⟩ := hk2 _ _ _ _ _ _ hp2
  exact aw_icmp_eq (tgt := 1790) dL_law_350 rfl (fun _ => kk _ _ G2) (fun c => absurd rfl c)
theorem lc_fault (S : Scr X g Ls xs) (hX : IsX n sh) (hM : IsM n sh 496) (G : Good I L) (hi : i + 6 ≤ Ls) (hb : cl ≤ 601024 ∧ sl ≤ 7293034) (kk : ∀ J M, Good J M → AW X g RL cL_law 7 LBd (z, n, sh, cl, sl) J M 1790 (LcL i u5 u6) []) : AW X g RL cL_law 7 LBd (z, n, sh, cl, sl) I L 355 (LcL i u5 u6) [] := by
  refine aw_aload_n dL_law_355 rfl ?_
  refine aw_arg S hi (j := 1) (by decide) rfl dL_law_356 dL_law_357 dL_law_359 dL_law_360 dL_law_361 ?_
  obtain ⟨Po1, a, hc1, hk1⟩ := pr_fault (z := z) hX hM G (x := xs (i + 1))
  refine aw_callV dL_law_362 kL_33 mX10_fault hc1 (Nat.le_of_ble_eq_true rfl) hX.k ⟨by decide, rfl⟩ hX.b rfl rfl (Nat.le_of_ble_eq_true rfl) hb (fun v z' n' sh' J M hp => ?_)
  obtain ⟨rfl, rfl, rfl, rfl, Po2, hc2, hk2⟩ := hk1 _ _ _ _ _ _ hp
  refine aw_aload_n dL_law_365 rfl ?_
  refine aw_arg S hi (j := 1) (by decide) rfl dL_law_366 dL_law_367 dL_law_369 dL_law_370 dL_law_371 ?_
  refine aw_callV dL_law_372 kL_36 mX11_fault hc2 (Nat.le_of_ble_eq_true rfl) hM.k ⟨by decide, rfl⟩ hM.b rfl rfl (Nat.le_of_ble_eq_true rfl) hb (fun v z' n' sh' J' M' hp2 => ?_)
  obtain ⟨rfl, rfl, rfl, rfl, G2⟩ := hk2 _ _ _ _ _ _ hp2
  exact aw_icmp_eq (tgt := 1790) dL_law_375 rfl (fun _ => kk _ _ G2) (fun c => absurd rfl c)
theorem lc_many (S : Scr X g Ls xs) (hX : IsX n sh) (hM : IsM n sh 496) (G : Good I L) (hi : i + 6 ≤ Ls) (hb : cl ≤ 601024 ∧ sl ≤ 7293034) (kk : ∀ J M, Good J M → AW X g RL cL_law 7 LBd (z, n, sh, cl, sl) J M 1790 (LcL i u5 u6) []) : AW X g RL cL_law 7 LBd (z, n, sh, cl, sl) I L 380 (LcL i u5 u6) [] := by
  refine aw_aload_n dL_law_380 rfl ?_
  refine aw_arg S hi (j := 1) (by decide) rfl dL_law_381 dL_law_382 dL_law_384 dL_law_385 dL_law_386 ?_
  obtain ⟨Po1, a, hc1, hk1⟩ := pr_many (z := z) hX hM G (x := xs (i + 1))
  refine aw_callV dL_law_387 kL_37 mX10_many hc1 (Nat.le_of_ble_eq_true rfl) hX.k ⟨by decide, rfl⟩ hX.b rfl rfl (Nat.le_of_ble_eq_true rfl) hb (fun v z' n' sh' J M hp => ?_)
  obtain ⟨rfl, rfl, rfl, rfl, Po2, hc2, hk2⟩ := hk1 _ _ _ _ _ _ hp
  refine aw_aload_n dL_law_390 rfl ?_
  refine aw_arg S hi (j := 1) (by decide) rfl dL_law_391 dL_law_392 dL_law_394 dL_law_395 dL_law_396 ?_
  refine aw_callV dL_law_397 kL_40 mX11_many hc2 (Nat.le_of_ble_eq_true rfl) hM.k ⟨by decide, rfl⟩ hM.b rfl rfl (Nat.le_of_ble_eq_true rfl) hb (fun v z' n' sh' J' M' hp2 => ?_)
  obtain ⟨rfl, rfl, rfl, rfl, G2⟩ := hk2 _ _ _ _ _ _ hp2
  exact aw_icmp_eq (tgt := 1790) dL_law_400 rfl (fun _ => kk _ _ G2) (fun c => absurd rfl c)
theorem lc_home (S : Scr X g Ls xs) (hX : IsX n sh) (hM : IsM n sh 496) (G : Good I L) (hi : i + 6 ≤ Ls) (hb : cl ≤ 601024 ∧ sl ≤ 7293034) (kk : ∀ J M, Good J M → AW X g RL cL_law 7 LBd (z, n, sh, cl, sl) J M 1790 (LcL i u5 u6) []) : AW X g RL cL_law 7 LBd (z, n, sh, cl, sl) I L 405 (LcL i u5 u6) [] := by
  refine aw_aload_n dL_law_405 rfl ?_
  refine aw_arg S hi (j := 1) (by decide) rfl dL_law_406 dL_law_407 dL_law_409 dL_law_410 dL_law_411 ?_
  refine aw_arg S hi (j := 2) (by decide) rfl dL_law_412 dL_law_413 dL_law_415 dL_law_416 dL_law_417 ?_
  obtain ⟨Po1, a, hc1, hk1⟩ := pr_home (z := z) hX hM G (x := xs (i + 1)) (w := xs (i + 2))
  refine aw_callV dL_law_418 kL_41 mX10_home hc1 (Nat.le_of_ble_eq_true rfl) hX.k ⟨by decide, rfl⟩ hX.b rfl rfl (Nat.le_of_ble_eq_true rfl) hb (fun v z' n' sh' J M hp => ?_)
  obtain ⟨rfl, rfl, rfl, rfl, Po2, hc2, hk2⟩ := hk1 _ _ _ _ _ _ hp
  refine aw_aload_n dL_law_421 rfl ?_
  refine aw_arg S hi (j := 1) (by decide) rfl dL_law_422 dL_law_423 dL_law_425 dL_law_426 dL_law_427 ?_
  refine aw_arg S hi (j := 2) (by decide) rfl dL_law_428 dL_law_429 dL_law_431 dL_law_432 dL_law_433 ?_
  refine aw_callV dL_law_434 kL_45 mX11_home hc2 (Nat.le_of_ble_eq_true rfl) hM.k ⟨by decide, rfl⟩ hM.b rfl rfl (Nat.le_of_ble_eq_true rfl) hb (fun v z' n' sh' J' M' hp2 => ?_)
  obtain ⟨rfl, rfl, rfl, rfl, G2⟩ := hk2 _ _ _ _ _ _ hp2
  exact aw_icmp_eq (tgt := 1790) dL_law_437 rfl (fun _ => kk _ _ G2) (fun c => absurd rfl c)
theorem lc_house (S : Scr X g Ls xs) (hX : IsX n sh) (hM : IsM n sh 496) (G : Good I L) (hi : i + 6 ≤ Ls) (hb : cl ≤ 601024 ∧ sl ≤ 7293034) (kk : ∀ J M, Good J M → AW X g RL cL_law 7 LBd (z, n, sh, cl, sl) J M 1790 (LcL i u5 u6) []) : AW X g RL cL_law 7 LBd (z, n, sh, cl, sl) I L 442 (LcL i u5 u6) [] := by
  refine aw_aload_n dL_law_442 rfl ?_
  refine aw_arg S hi (j := 1) (by decide) rfl dL_law_443 dL_law_444 dL_law_446 dL_law_447 dL_law_448 ?_
  refine aw_arg S hi (j := 2) (by decide) rfl dL_law_449 dL_law_450 dL_law_452 dL_law_453 dL_law_454 ?_
  obtain ⟨Po1, a, hc1, hk1⟩ := pr_house (z := z) hX hM G (x := xs (i + 1)) (w := xs (i + 2))
  refine aw_callV dL_law_455 kL_46 mX10_house hc1 (Nat.le_of_ble_eq_true rfl) hX.k ⟨by decide, rfl⟩ hX.b rfl rfl (Nat.le_of_ble_eq_true rfl) hb (fun v z' n' sh' J M hp => ?_)
  obtain ⟨rfl, rfl, rfl, rfl, Po2, hc2, hk2⟩ := hk1 _ _ _ _ _ _ hp
  refine aw_aload_n dL_law_458 rfl ?_
  refine aw_arg S hi (j := 1) (by decide) rfl dL_law_459 dL_law_460 dL_law_462 dL_law_463 dL_law_464 ?_
  refine aw_arg S hi (j := 2) (by decide) rfl dL_law_465 dL_law_466 dL_law_468 dL_law_469 dL_law_470 ?_
  refine aw_callV dL_law_471 kL_49 mX11_house hc2 (Nat.le_of_ble_eq_true rfl) hM.k ⟨by decide, rfl⟩ hM.b rfl rfl (Nat.le_of_ble_eq_true rfl) hb (fun v z' n' sh' J' M' hp2 => ?_)
  obtain ⟨rfl, rfl, rfl, rfl, G2⟩ := hk2 _ _ _ _ _ _ hp2
  exact aw_icmp_eq (tgt := 1790) dL_law_474 rfl (fun _ => kk _ _ G2) (fun c => absurd rfl c)
theorem lc_rule (S : Scr X g Ls xs) (hX : IsX n sh) (hM : IsM n sh 496) (G : Good I L) (hi : i + 6 ≤ Ls) (hb : cl ≤ 601024 ∧ sl ≤ 7293034) (kk : ∀ J M, Good J M → AW X g RL cL_law 7 LBd (z, n, sh, cl, sl) J M 1790 (LcL i u5 u6) []) : AW X g RL cL_law 7 LBd (z, n, sh, cl, sl) I L 479 (LcL i u5 u6) [] := by
  refine aw_aload_n dL_law_479 rfl ?_
  refine aw_arg S hi (j := 1) (by decide) rfl dL_law_480 dL_law_481 dL_law_483 dL_law_484 dL_law_485 ?_
  obtain ⟨Po1, a, hc1, hk1⟩ := pr_rule (z := z) hX hM G (x := xs (i + 1))
  refine aw_callV dL_law_486 kL_50 mX10_rule hc1 (Nat.le_of_ble_eq_true rfl) hX.k ⟨by decide, rfl⟩ hX.b rfl rfl (Nat.le_of_ble_eq_true rfl) hb (fun v z' n' sh' J M hp => ?_)
  obtain ⟨rfl, rfl, rfl, rfl, Po2, hc2, hk2⟩ := hk1 _ _ _ _ _ _ hp
  refine aw_aload_n dL_law_489 rfl ?_
  refine aw_arg S hi (j := 1) (by decide) rfl dL_law_490 dL_law_491 dL_law_493 dL_law_494 dL_law_495 ?_
  refine aw_callV dL_law_496 kL_53 mX11_rule hc2 (Nat.le_of_ble_eq_true rfl) hM.k ⟨by decide, rfl⟩ hM.b rfl rfl (Nat.le_of_ble_eq_true rfl) hb (fun v z' n' sh' J' M' hp2 => ?_)
  obtain ⟨rfl, rfl, rfl, rfl, G2⟩ := hk2 _ _ _ _ _ _ hp2
  exact aw_icmp_eq (tgt := 1790) dL_law_499 rfl (fun _ => kk _ _ G2) (fun c => absurd rfl c)
theorem lc_why (S : Scr X g Ls xs) (hX : IsX n sh) (hM : IsM n sh 496) (G : Good I L) (hi : i + 6 ≤ Ls) (hb : cl ≤ 601024 ∧ sl ≤ 7293034) (kk : ∀ J M, Good J M → AW X g RL cL_law 7 LBd (z, n, sh, cl, sl) J M 1790 (LcL i u5 u6) []) : AW X g RL cL_law 7 LBd (z, n, sh, cl, sl) I L 504 (LcL i u5 u6) [] := by
  refine aw_aload_n dL_law_504 rfl ?_
  refine aw_arg S hi (j := 1) (by decide) rfl dL_law_505 dL_law_506 dL_law_508 dL_law_509 dL_law_510 ?_
  refine aw_arg S hi (j := 2) (by decide) rfl dL_law_511 dL_law_512 dL_law_514 dL_law_515 dL_law_516 ?_
  obtain ⟨Po1, a, hc1, hk1⟩ := pr_why (z := z) hX hM G (x := xs (i + 1)) (y := xs (i + 2))
  refine aw_callV dL_law_517 kL_54 mX10_why hc1 (Nat.le_of_ble_eq_true rfl) hX.k ⟨by decide, rfl⟩ hX.b rfl rfl (Nat.le_of_ble_eq_true rfl) hb (fun v z' n' sh' J M hp => ?_)
  obtain ⟨rfl, rfl, rfl, rfl, Po2, hc2, hk2⟩ := hk1 _ _ _ _ _ _ hp
  refine aw_aload_n dL_law_520 rfl ?_
  refine aw_arg S hi (j := 1) (by decide) rfl dL_law_521 dL_law_522 dL_law_524 dL_law_525 dL_law_526 ?_
  refine aw_arg S hi (j := 2) (by decide) rfl dL_law_527 dL_law_528 dL_law_530 dL_law_531 dL_law_532 ?_
  refine aw_callV dL_law_533 kL_57 mX11_why hc2 (Nat.le_of_ble_eq_true rfl) hM.k ⟨by decide, rfl⟩ hM.b rfl rfl (Nat.le_of_ble_eq_true rfl) hb (fun v z' n' sh' J' M' hp2 => ?_)
  obtain ⟨rfl, rfl, rfl, rfl, G2⟩ := hk2 _ _ _ _ _ _ hp2
  exact aw_icmp_eq (tgt := 1790) dL_law_536 rfl (fun _ => kk _ _ G2) (fun c => absurd rfl c)
theorem lc_bids (S : Scr X g Ls xs) (hX : IsX n sh) (hM : IsM n sh 496) (G : Good I L) (hi : i + 6 ≤ Ls) (hb : cl ≤ 601024 ∧ sl ≤ 7293034) (kk : ∀ J M, Good J M → AW X g RL cL_law 7 LBd (z, n, sh, cl, sl) J M 1790 (LcL i u5 u6) []) : AW X g RL cL_law 7 LBd (z, n, sh, cl, sl) I L 541 (LcL i u5 u6) [] := by
  refine aw_aload_n dL_law_541 rfl ?_
  refine aw_arg S hi (j := 1) (by decide) rfl dL_law_542 dL_law_543 dL_law_545 dL_law_546 dL_law_547 ?_
  refine aw_arg S hi (j := 2) (by decide) rfl dL_law_548 dL_law_549 dL_law_551 dL_law_552 dL_law_553 ?_
  obtain ⟨Po1, a, hc1, hk1⟩ := pr_bids (z := z) hX hM G (x := xs (i + 1)) (y := xs (i + 2))
  refine aw_callV dL_law_554 kL_58 mX10_bids hc1 (Nat.le_of_ble_eq_true rfl) hX.k ⟨by decide, rfl⟩ hX.b rfl rfl (Nat.le_of_ble_eq_true rfl) hb (fun v z' n' sh' J M hp => ?_)
  obtain ⟨rfl, rfl, rfl, rfl, Po2, hc2, hk2⟩ := hk1 _ _ _ _ _ _ hp
  refine aw_aload_n dL_law_557 rfl ?_
  refine aw_arg S hi (j := 1) (by decide) rfl dL_law_558 dL_law_559 dL_law_561 dL_law_562 dL_law_563 ?_
  refine aw_arg S hi (j := 2) (by decide) rfl dL_law_564 dL_law_565 dL_law_567 dL_law_568 dL_law_569 ?_
  refine aw_callV dL_law_570 kL_61 mX11_bids hc2 (Nat.le_of_ble_eq_true rfl) hM.k ⟨by decide, rfl⟩ hM.b rfl rfl (Nat.le_of_ble_eq_true rfl) hb (fun v z' n' sh' J' M' hp2 => ?_)
  obtain ⟨rfl, rfl, rfl, rfl, G2⟩ := hk2 _ _ _ _ _ _ hp2
  exact aw_icmp_eq (tgt := 1790) dL_law_573 rfl (fun _ => kk _ _ G2) (fun c => absurd rfl c)
theorem lc_order (S : Scr X g Ls xs) (hX : IsX n sh) (hM : IsM n sh 496) (G : Good I L) (hi : i + 6 ≤ Ls) (hb : cl ≤ 601024 ∧ sl ≤ 7293034) (kk : ∀ J M, Good J M → AW X g RL cL_law 7 LBd (z, n, sh, cl, sl) J M 1790 (LcL i u5 u6) []) : AW X g RL cL_law 7 LBd (z, n, sh, cl, sl) I L 578 (LcL i u5 u6) [] := by
  refine aw_aload_n dL_law_578 rfl ?_
  refine aw_arg S hi (j := 1) (by decide) rfl dL_law_579 dL_law_580 dL_law_582 dL_law_583 dL_law_584 ?_
  refine aw_arg S hi (j := 2) (by decide) rfl dL_law_585 dL_law_586 dL_law_588 dL_law_589 dL_law_590 ?_
  obtain ⟨Po1, a, hc1, hk1⟩ := pr_order (z := z) hX hM G (x := xs (i + 1)) (k := xs (i + 2))
  refine aw_callV dL_law_591 kL_62 mX10_order hc1 (Nat.le_of_ble_eq_true rfl) hX.k ⟨by decide, rfl⟩ hX.b rfl rfl (Nat.le_of_ble_eq_true rfl) hb (fun v z' n' sh' J M hp => ?_)
  obtain ⟨rfl, rfl, rfl, rfl, Po2, hc2, hk2⟩ := hk1 _ _ _ _ _ _ hp
  refine aw_aload_n dL_law_594 rfl ?_
  refine aw_arg S hi (j := 1) (by decide) rfl dL_law_595 dL_law_596 dL_law_598 dL_law_599 dL_law_600 ?_
  refine aw_arg S hi (j := 2) (by decide) rfl dL_law_601 dL_law_602 dL_law_604 dL_law_605 dL_law_606 ?_
  refine aw_callV dL_law_607 kL_65 mX11_order hc2 (Nat.le_of_ble_eq_true rfl) hM.k ⟨by decide, rfl⟩ hM.b rfl rfl (Nat.le_of_ble_eq_true rfl) hb (fun v z' n' sh' J' M' hp2 => ?_)
  obtain ⟨rfl, rfl, rfl, rfl, G2⟩ := hk2 _ _ _ _ _ _ hp2
  exact aw_icmp_eq (tgt := 1790) dL_law_610 rfl (fun _ => kk _ _ G2) (fun c => absurd rfl c)
theorem lc_ahead (S : Scr X g Ls xs) (hX : IsX n sh) (hM : IsM n sh 496) (G : Good I L) (hi : i + 6 ≤ Ls) (hb : cl ≤ 601024 ∧ sl ≤ 7293034) (kk : ∀ J M, Good J M → AW X g RL cL_law 7 LBd (z, n, sh, cl, sl) J M 1790 (LcL i u5 u6) []) : AW X g RL cL_law 7 LBd (z, n, sh, cl, sl) I L 615 (LcL i u5 u6) [] := by
  refine aw_aload_n dL_law_615 rfl ?_
  refine aw_arg S hi (j := 1) (by decide) rfl dL_law_616 dL_law_617 dL_law_619 dL_law_620 dL_law_621 ?_
  refine aw_arg S hi (j := 2) (by decide) rfl dL_law_622 dL_law_623 dL_law_625 dL_law_626 dL_law_627 ?_
  obtain ⟨Po1, a, hc1, hk1⟩ := pr_ahead (z := z) hX hM G (x := xs (i + 1)) (y := xs (i + 2))
  refine aw_callV dL_law_628 kL_66 mX10_ahead hc1 (Nat.le_of_ble_eq_true rfl) hX.k ⟨by decide, rfl⟩ hX.b rfl rfl (Nat.le_of_ble_eq_true rfl) hb (fun v z' n' sh' J M hp => ?_)
  obtain ⟨rfl, rfl, rfl, rfl, Po2, hc2, hk2⟩ := hk1 _ _ _ _ _ _ hp
  refine aw_aload_n dL_law_631 rfl ?_
  refine aw_arg S hi (j := 1) (by decide) rfl dL_law_632 dL_law_633 dL_law_635 dL_law_636 dL_law_637 ?_
  refine aw_arg S hi (j := 2) (by decide) rfl dL_law_638 dL_law_639 dL_law_641 dL_law_642 dL_law_643 ?_
  refine aw_callV dL_law_644 kL_69 mX11_ahead hc2 (Nat.le_of_ble_eq_true rfl) hM.k ⟨by decide, rfl⟩ hM.b rfl rfl (Nat.le_of_ble_eq_true rfl) hb (fun v z' n' sh' J' M' hp2 => ?_)
  obtain ⟨rfl, rfl, rfl, rfl, G2⟩ := hk2 _ _ _ _ _ _ hp2
  exact aw_icmp_eq (tgt := 1790) dL_law_647 rfl (fun _ => kk _ _ G2) (fun c => absurd rfl c)
theorem lc_turn (S : Scr X g Ls xs) (hX : IsX n sh) (hM : IsM n sh 496) (G : Good I L) (hi : i + 6 ≤ Ls) (hb : cl ≤ 601024 ∧ sl ≤ 7293034) (kk : ∀ J M, Good J M → AW X g RL cL_law 7 LBd (z, n, sh, cl, sl) J M 1790 (LcL i u5 u6) []) : AW X g RL cL_law 7 LBd (z, n, sh, cl, sl) I L 652 (LcL i u5 u6) [] := by
  refine aw_aload_n dL_law_652 rfl ?_
  refine aw_arg S hi (j := 1) (by decide) rfl dL_law_653 dL_law_654 dL_law_656 dL_law_657 dL_law_658 ?_
  refine aw_arg S hi (j := 2) (by decide) rfl dL_law_659 dL_law_660 dL_law_662 dL_law_663 dL_law_664 ?_
  obtain ⟨Po1, a, hc1, hk1⟩ := pr_turn (z := z) hX hM G (x := xs (i + 1)) (w := xs (i + 2))
  refine aw_callV dL_law_665 kL_70 mX10_turn hc1 (Nat.le_of_ble_eq_true rfl) hX.k ⟨by decide, rfl⟩ hX.b rfl rfl (Nat.le_of_ble_eq_true rfl) hb (fun v z' n' sh' J M hp => ?_)
  obtain ⟨rfl, rfl, rfl, rfl, Po2, hc2, hk2⟩ := hk1 _ _ _ _ _ _ hp
  refine aw_aload_n dL_law_668 rfl ?_
  refine aw_arg S hi (j := 1) (by decide) rfl dL_law_669 dL_law_670 dL_law_672 dL_law_673 dL_law_674 ?_
  refine aw_arg S hi (j := 2) (by decide) rfl dL_law_675 dL_law_676 dL_law_678 dL_law_679 dL_law_680 ?_
  refine aw_callV dL_law_681 kL_73 mX11_turn hc2 (Nat.le_of_ble_eq_true rfl) hM.k ⟨by decide, rfl⟩ hM.b rfl rfl (Nat.le_of_ble_eq_true rfl) hb (fun v z' n' sh' J' M' hp2 => ?_)
  obtain ⟨rfl, rfl, rfl, rfl, G2⟩ := hk2 _ _ _ _ _ _ hp2
  exact aw_icmp_eq (tgt := 1790) dL_law_684 rfl (fun _ => kk _ _ G2) (fun c => absurd rfl c)
theorem lc_let (S : Scr X g Ls xs) (hX : IsX n sh) (hM : IsM n sh 496) (G : Good I L) (hi : i + 6 ≤ Ls) (hb : cl ≤ 601024 ∧ sl ≤ 7293034) (kk : ∀ J M, Good J M → AW X g RL cL_law 7 LBd (z, n, sh, cl, sl) J M 1790 (LcL i u5 u6) []) : AW X g RL cL_law 7 LBd (z, n, sh, cl, sl) I L 689 (LcL i u5 u6) [] := by
  refine aw_aload_n dL_law_689 rfl ?_
  refine aw_arg S hi (j := 1) (by decide) rfl dL_law_690 dL_law_691 dL_law_693 dL_law_694 dL_law_695 ?_
  refine aw_arg S hi (j := 2) (by decide) rfl dL_law_696 dL_law_697 dL_law_699 dL_law_700 dL_law_701 ?_
  obtain ⟨Po1, a, hc1, hk1⟩ := pr_let (z := z) hX hM G (k := xs (i + 1)) (w := xs (i + 2))
  refine aw_callV dL_law_702 kL_74 mX10_let hc1 (Nat.le_of_ble_eq_true rfl) hX.k ⟨by decide, rfl⟩ hX.b rfl rfl (Nat.le_of_ble_eq_true rfl) hb (fun v z' n' sh' J M hp => ?_)
  obtain ⟨rfl, rfl, rfl, rfl, Po2, hc2, hk2⟩ := hk1 _ _ _ _ _ _ hp
  refine aw_aload_n dL_law_705 rfl ?_
  refine aw_arg S hi (j := 1) (by decide) rfl dL_law_706 dL_law_707 dL_law_709 dL_law_710 dL_law_711 ?_
  refine aw_arg S hi (j := 2) (by decide) rfl dL_law_712 dL_law_713 dL_law_715 dL_law_716 dL_law_717 ?_
  refine aw_callV dL_law_718 kL_77 mX11_let hc2 (Nat.le_of_ble_eq_true rfl) hM.k ⟨by decide, rfl⟩ hM.b rfl rfl (Nat.le_of_ble_eq_true rfl) hb (fun v z' n' sh' J' M' hp2 => ?_)
  obtain ⟨rfl, rfl, rfl, rfl, G2⟩ := hk2 _ _ _ _ _ _ hp2
  exact aw_icmp_eq (tgt := 1790) dL_law_721 rfl (fun _ => kk _ _ G2) (fun c => absurd rfl c)
theorem lc_offer (S : Scr X g Ls xs) (hX : IsX n sh) (hM : IsM n sh 496) (G : Good I L) (hi : i + 6 ≤ Ls) (hb : cl ≤ 601024 ∧ sl ≤ 7293034) (kk : ∀ J M, Good J M → AW X g RL cL_law 7 LBd (z, n, sh, cl, sl) J M 1790 (LcL i u5 u6) []) : AW X g RL cL_law 7 LBd (z, n, sh, cl, sl) I L 726 (LcL i u5 u6) [] := by
  refine aw_aload_n dL_law_726 rfl ?_
  refine aw_arg S hi (j := 1) (by decide) rfl dL_law_727 dL_law_728 dL_law_730 dL_law_731 dL_law_732 ?_
  refine aw_arg S hi (j := 2) (by decide) rfl dL_law_733 dL_law_734 dL_law_736 dL_law_737 dL_law_738 ?_
  obtain ⟨Po1, a, hc1, hk1⟩ := pr_offer (z := z) hX hM G (k := xs (i + 1)) (w := xs (i + 2))
  refine aw_callV dL_law_739 kL_78 mX10_offer hc1 (Nat.le_of_ble_eq_true rfl) hX.k ⟨by decide, rfl⟩ hX.b rfl rfl (Nat.le_of_ble_eq_true rfl) hb (fun v z' n' sh' J M hp => ?_)
  obtain ⟨rfl, rfl, rfl, rfl, Po2, hc2, hk2⟩ := hk1 _ _ _ _ _ _ hp
  refine aw_aload_n dL_law_742 rfl ?_
  refine aw_arg S hi (j := 1) (by decide) rfl dL_law_743 dL_law_744 dL_law_746 dL_law_747 dL_law_748 ?_
  refine aw_arg S hi (j := 2) (by decide) rfl dL_law_749 dL_law_750 dL_law_752 dL_law_753 dL_law_754 ?_
  refine aw_callV dL_law_755 kL_81 mX11_offer hc2 (Nat.le_of_ble_eq_true rfl) hM.k ⟨by decide, rfl⟩ hM.b rfl rfl (Nat.le_of_ble_eq_true rfl) hb (fun v z' n' sh' J' M' hp2 => ?_)
  obtain ⟨rfl, rfl, rfl, rfl, G2⟩ := hk2 _ _ _ _ _ _ hp2
  exact aw_icmp_eq (tgt := 1790) dL_law_758 rfl (fun _ => kk _ _ G2) (fun c => absurd rfl c)
theorem lc_tally (S : Scr X g Ls xs) (hX : IsX n sh) (hM : IsM n sh 496) (G : Good I L) (hi : i + 6 ≤ Ls) (hb : cl ≤ 601024 ∧ sl ≤ 7293034) (kk : ∀ J M, Good J M → AW X g RL cL_law 7 LBd (z, n, sh, cl, sl) J M 1790 (LcL i u5 u6) []) : AW X g RL cL_law 7 LBd (z, n, sh, cl, sl) I L 763 (LcL i u5 u6) [] := by
  refine aw_aload_n dL_law_763 rfl ?_
  refine aw_arg S hi (j := 1) (by decide) rfl dL_law_764 dL_law_765 dL_law_767 dL_law_768 dL_law_769 ?_
  obtain ⟨Po1, a, hc1, hk1⟩ := pr_tally (z := z) hX hM G (x := xs (i + 1))
  refine aw_callV dL_law_770 kL_82 mX10_tally hc1 (Nat.le_of_ble_eq_true rfl) hX.k ⟨by decide, rfl⟩ hX.b rfl rfl (Nat.le_of_ble_eq_true rfl) hb (fun v z' n' sh' J M hp => ?_)
  obtain ⟨rfl, rfl, rfl, rfl, Po2, hc2, hk2⟩ := hk1 _ _ _ _ _ _ hp
  refine aw_aload_n dL_law_773 rfl ?_
  refine aw_arg S hi (j := 1) (by decide) rfl dL_law_774 dL_law_775 dL_law_777 dL_law_778 dL_law_779 ?_
  refine aw_callV dL_law_780 kL_85 mX11_tally hc2 (Nat.le_of_ble_eq_true rfl) hM.k ⟨by decide, rfl⟩ hM.b rfl rfl (Nat.le_of_ble_eq_true rfl) hb (fun v z' n' sh' J' M' hp2 => ?_)
  obtain ⟨rfl, rfl, rfl, rfl, G2⟩ := hk2 _ _ _ _ _ _ hp2
  exact aw_icmp_eq (tgt := 1790) dL_law_783 rfl (fun _ => kk _ _ G2) (fun c => absurd rfl c)
theorem lc_lack (S : Scr X g Ls xs) (hX : IsX n sh) (hM : IsM n sh 496) (G : Good I L) (hi : i + 6 ≤ Ls) (hb : cl ≤ 601024 ∧ sl ≤ 7293034) (kk : ∀ J M, Good J M → AW X g RL cL_law 7 LBd (z, n, sh, cl, sl) J M 1790 (LcL i u5 u6) []) : AW X g RL cL_law 7 LBd (z, n, sh, cl, sl) I L 788 (LcL i u5 u6) [] := by
  refine aw_aload_n dL_law_788 rfl ?_
  refine aw_arg S hi (j := 1) (by decide) rfl dL_law_789 dL_law_790 dL_law_792 dL_law_793 dL_law_794 ?_
  obtain ⟨Po1, a, hc1, hk1⟩ := pr_lack (z := z) hX hM G (x := xs (i + 1))
  refine aw_callV dL_law_795 kL_86 mX10_lack hc1 (Nat.le_of_ble_eq_true rfl) hX.k ⟨by decide, rfl⟩ hX.b rfl rfl (Nat.le_of_ble_eq_true rfl) hb (fun v z' n' sh' J M hp => ?_)
  obtain ⟨rfl, rfl, rfl, rfl, Po2, hc2, hk2⟩ := hk1 _ _ _ _ _ _ hp
  refine aw_aload_n dL_law_798 rfl ?_
  refine aw_arg S hi (j := 1) (by decide) rfl dL_law_799 dL_law_800 dL_law_802 dL_law_803 dL_law_804 ?_
  refine aw_callV dL_law_805 kL_89 mX11_lack hc2 (Nat.le_of_ble_eq_true rfl) hM.k ⟨by decide, rfl⟩ hM.b rfl rfl (Nat.le_of_ble_eq_true rfl) hb (fun v z' n' sh' J' M' hp2 => ?_)
  obtain ⟨rfl, rfl, rfl, rfl, G2⟩ := hk2 _ _ _ _ _ _ hp2
  exact aw_icmp_eq (tgt := 1790) dL_law_808 rfl (fun _ => kk _ _ G2) (fun c => absurd rfl c)
theorem lc_weeks (S : Scr X g Ls xs) (hX : IsX n sh) (hM : IsM n sh 496) (G : Good I L) (hi : i + 6 ≤ Ls) (hb : cl ≤ 601024 ∧ sl ≤ 7293034) (kk : ∀ J M, Good J M → AW X g RL cL_law 7 LBd (z, n, sh, cl, sl) J M 1790 (LcL i u5 u6) []) : AW X g RL cL_law 7 LBd (z, n, sh, cl, sl) I L 813 (LcL i u5 u6) [] := by
  refine aw_aload_n dL_law_813 rfl ?_
  refine aw_arg S hi (j := 1) (by decide) rfl dL_law_814 dL_law_815 dL_law_817 dL_law_818 dL_law_819 ?_
  refine aw_arg S hi (j := 2) (by decide) rfl dL_law_820 dL_law_821 dL_law_823 dL_law_824 dL_law_825 ?_
  obtain ⟨Po1, a, hc1, hk1⟩ := pr_weeks (z := z) hX hM G (x := xs (i + 1)) (w := xs (i + 2))
  refine aw_callV dL_law_826 kL_90 mX10_weeks hc1 (Nat.le_of_ble_eq_true rfl) hX.k ⟨by decide, rfl⟩ hX.b rfl rfl (Nat.le_of_ble_eq_true rfl) hb (fun v z' n' sh' J M hp => ?_)
  obtain ⟨rfl, rfl, rfl, rfl, Po2, hc2, hk2⟩ := hk1 _ _ _ _ _ _ hp
  refine aw_aload_n dL_law_829 rfl ?_
  refine aw_arg S hi (j := 1) (by decide) rfl dL_law_830 dL_law_831 dL_law_833 dL_law_834 dL_law_835 ?_
  refine aw_arg S hi (j := 2) (by decide) rfl dL_law_836 dL_law_837 dL_law_839 dL_law_840 dL_law_841 ?_
  refine aw_callV dL_law_842 kL_93 mX11_weeks hc2 (Nat.le_of_ble_eq_true rfl) hM.k ⟨by decide, rfl⟩ hM.b rfl rfl (Nat.le_of_ble_eq_true rfl) hb (fun v z' n' sh' J' M' hp2 => ?_)
  obtain ⟨rfl, rfl, rfl, rfl, G2⟩ := hk2 _ _ _ _ _ _ hp2
  exact aw_icmp_eq (tgt := 1790) dL_law_845 rfl (fun _ => kk _ _ G2) (fun c => absurd rfl c)
theorem lc_when (S : Scr X g Ls xs) (hX : IsX n sh) (hM : IsM n sh 496) (G : Good I L) (hi : i + 6 ≤ Ls) (hb : cl ≤ 601024 ∧ sl ≤ 7293034) (kk : ∀ J M, Good J M → AW X g RL cL_law 7 LBd (z, n, sh, cl, sl) J M 1790 (LcL i u5 u6) []) : AW X g RL cL_law 7 LBd (z, n, sh, cl, sl) I L 850 (LcL i u5 u6) [] := by
  refine aw_aload_n dL_law_850 rfl ?_
  refine aw_arg S hi (j := 1) (by decide) rfl dL_law_851 dL_law_852 dL_law_854 dL_law_855 dL_law_856 ?_
  refine aw_arg S hi (j := 2) (by decide) rfl dL_law_857 dL_law_858 dL_law_860 dL_law_861 dL_law_862 ?_
  refine aw_arg S hi (j := 3) (by decide) rfl dL_law_863 dL_law_864 dL_law_866 dL_law_867 dL_law_868 ?_
  refine aw_bool dL_law_869 dL_law_872 dL_law_873 dL_law_876 ?_
  obtain ⟨Po1, a, hc1, hk1⟩ := pr_when (z := z) hX hM G (x := xs (i + 1)) (k := xs (i + 2)) (t := bN (xs (i + 3)))
  refine aw_callV dL_law_877 kL_94 mX10_when hc1 (Nat.le_of_ble_eq_true rfl) hX.k ⟨by decide, rfl⟩ hX.b rfl rfl (Nat.le_of_ble_eq_true rfl) hb (fun v z' n' sh' J M hp => ?_)
  obtain ⟨rfl, rfl, rfl, rfl, Po2, hc2, hk2⟩ := hk1 _ _ _ _ _ _ hp
  refine aw_aload_n dL_law_880 rfl ?_
  refine aw_arg S hi (j := 1) (by decide) rfl dL_law_881 dL_law_882 dL_law_884 dL_law_885 dL_law_886 ?_
  refine aw_arg S hi (j := 2) (by decide) rfl dL_law_887 dL_law_888 dL_law_890 dL_law_891 dL_law_892 ?_
  refine aw_arg S hi (j := 3) (by decide) rfl dL_law_893 dL_law_894 dL_law_896 dL_law_897 dL_law_898 ?_
  refine aw_bool dL_law_899 dL_law_902 dL_law_903 dL_law_906 ?_
  refine aw_callV dL_law_907 kL_98 mX11_when hc2 (Nat.le_of_ble_eq_true rfl) hM.k ⟨by decide, rfl⟩ hM.b rfl rfl (Nat.le_of_ble_eq_true rfl) hb (fun v z' n' sh' J' M' hp2 => ?_)
  obtain ⟨rfl, rfl, rfl, rfl, G2⟩ := hk2 _ _ _ _ _ _ hp2
  exact aw_icmp_eq (tgt := 1790) dL_law_910 rfl (fun _ => kk _ _ G2) (fun c => absurd rfl c)
theorem lc_tip (S : Scr X g Ls xs) (hX : IsX n sh) (hM : IsM n sh 496) (G : Good I L) (hi : i + 6 ≤ Ls) (hb : cl ≤ 601024 ∧ sl ≤ 7293034) (kk : ∀ J M, Good J M → AW X g RL cL_law 7 LBd (z, n, sh, cl, sl) J M 1790 (LcL i u5 u6) []) : AW X g RL cL_law 7 LBd (z, n, sh, cl, sl) I L 915 (LcL i u5 u6) [] := by
  refine aw_aload_n dL_law_915 rfl ?_
  refine aw_arg S hi (j := 1) (by decide) rfl dL_law_916 dL_law_917 dL_law_919 dL_law_920 dL_law_921 ?_
  obtain ⟨Po1, a, hc1, hk1⟩ := pr_tip (z := z) hX hM G (x := xs (i + 1))
  refine aw_callV dL_law_922 kL_99 mX10_tip hc1 (Nat.le_of_ble_eq_true rfl) hX.k ⟨by decide, rfl⟩ hX.b rfl rfl (Nat.le_of_ble_eq_true rfl) hb (fun v z' n' sh' J M hp => ?_)
  obtain ⟨rfl, rfl, rfl, rfl, Po2, hc2, hk2⟩ := hk1 _ _ _ _ _ _ hp
  refine aw_aload_n dL_law_925 rfl ?_
  refine aw_arg S hi (j := 1) (by decide) rfl dL_law_926 dL_law_927 dL_law_929 dL_law_930 dL_law_931 ?_
  refine aw_callV dL_law_932 kL_102 mX11_tip hc2 (Nat.le_of_ble_eq_true rfl) hM.k ⟨by decide, rfl⟩ hM.b rfl rfl (Nat.le_of_ble_eq_true rfl) hb (fun v z' n' sh' J' M' hp2 => ?_)
  obtain ⟨rfl, rfl, rfl, rfl, G2⟩ := hk2 _ _ _ _ _ _ hp2
  exact aw_icmp_eq (tgt := 1790) dL_law_935 rfl (fun _ => kk _ _ G2) (fun c => absurd rfl c)
theorem lc_would (S : Scr X g Ls xs) (hX : IsX n sh) (hM : IsM n sh 496) (G : Good I L) (hi : i + 6 ≤ Ls) (hb : cl ≤ 601024 ∧ sl ≤ 7293034) (kk : ∀ J M, Good J M → AW X g RL cL_law 7 LBd (z, n, sh, cl, sl) J M 1790 (LcL i u5 u6) []) : AW X g RL cL_law 7 LBd (z, n, sh, cl, sl) I L 940 (LcL i u5 u6) [] := by
  refine aw_aload_n dL_law_940 rfl ?_
  refine aw_arg S hi (j := 1) (by decide) rfl dL_law_941 dL_law_942 dL_law_944 dL_law_945 dL_law_946 ?_
  refine aw_arg S hi (j := 2) (by decide) rfl dL_law_947 dL_law_948 dL_law_950 dL_law_951 dL_law_952 ?_
  obtain ⟨Po1, a, hc1, hk1⟩ := pr_would (z := z) hX hM G (x := xs (i + 1)) (y := xs (i + 2))
  refine aw_callV dL_law_953 kL_103 mX10_would hc1 (Nat.le_of_ble_eq_true rfl) hX.k ⟨by decide, rfl⟩ hX.b rfl rfl (Nat.le_of_ble_eq_true rfl) hb (fun v z' n' sh' J M hp => ?_)
  obtain ⟨rfl, rfl, rfl, rfl, Po2, hc2, hk2⟩ := hk1 _ _ _ _ _ _ hp
  refine aw_aload_n dL_law_956 rfl ?_
  refine aw_arg S hi (j := 1) (by decide) rfl dL_law_957 dL_law_958 dL_law_960 dL_law_961 dL_law_962 ?_
  refine aw_arg S hi (j := 2) (by decide) rfl dL_law_963 dL_law_964 dL_law_966 dL_law_967 dL_law_968 ?_
  refine aw_callV dL_law_969 kL_106 mX11_would hc2 (Nat.le_of_ble_eq_true rfl) hM.k ⟨by decide, rfl⟩ hM.b rfl rfl (Nat.le_of_ble_eq_true rfl) hb (fun v z' n' sh' J' M' hp2 => ?_)
  obtain ⟨rfl, rfl, rfl, rfl, G2⟩ := hk2 _ _ _ _ _ _ hp2
  exact aw_icmp_eq (tgt := 1790) dL_law_972 rfl (fun _ => kk _ _ G2) (fun c => absurd rfl c)
theorem lc_top (S : Scr X g Ls xs) (hX : IsX n sh) (hM : IsM n sh 496) (G : Good I L) (hi : i + 6 ≤ Ls) (hb : cl ≤ 601024 ∧ sl ≤ 7293034) (kk : ∀ J M, Good J M → AW X g RL cL_law 7 LBd (z, n, sh, cl, sl) J M 1790 (LcL i u5 u6) []) : AW X g RL cL_law 7 LBd (z, n, sh, cl, sl) I L 977 (LcL i u5 u6) [] := by
  refine aw_aload_n dL_law_977 rfl ?_
  refine aw_arg S hi (j := 1) (by decide) rfl dL_law_978 dL_law_979 dL_law_981 dL_law_982 dL_law_983 ?_
  obtain ⟨Po1, a, hc1, hk1⟩ := pr_top (z := z) hX hM G (x := xs (i + 1))
  refine aw_callV dL_law_984 kL_107 mX10_top hc1 (Nat.le_of_ble_eq_true rfl) hX.k ⟨by decide, rfl⟩ hX.b rfl rfl (Nat.le_of_ble_eq_true rfl) hb (fun v z' n' sh' J M hp => ?_)
  obtain ⟨rfl, rfl, rfl, rfl, Po2, hc2, hk2⟩ := hk1 _ _ _ _ _ _ hp
  refine aw_aload_n dL_law_987 rfl ?_
  refine aw_arg S hi (j := 1) (by decide) rfl dL_law_988 dL_law_989 dL_law_991 dL_law_992 dL_law_993 ?_
  refine aw_callV dL_law_994 kL_110 mX11_top hc2 (Nat.le_of_ble_eq_true rfl) hM.k ⟨by decide, rfl⟩ hM.b rfl rfl (Nat.le_of_ble_eq_true rfl) hb (fun v z' n' sh' J' M' hp2 => ?_)
  obtain ⟨rfl, rfl, rfl, rfl, G2⟩ := hk2 _ _ _ _ _ _ hp2
  exact aw_icmp_eq (tgt := 1790) dL_law_997 rfl (fun _ => kk _ _ G2) (fun c => absurd rfl c)
theorem lc_lot (S : Scr X g Ls xs) (hX : IsX n sh) (hM : IsM n sh 496) (G : Good I L) (hi : i + 6 ≤ Ls) (hb : cl ≤ 601024 ∧ sl ≤ 7293034) (kk : ∀ J M, Good J M → AW X g RL cL_law 7 LBd (z, n, sh, cl, sl) J M 1790 (LcL i u5 u6) []) : AW X g RL cL_law 7 LBd (z, n, sh, cl, sl) I L 1002 (LcL i u5 u6) [] := by
  refine aw_aload_n dL_law_1002 rfl ?_
  refine aw_arg S hi (j := 1) (by decide) rfl dL_law_1003 dL_law_1004 dL_law_1006 dL_law_1007 dL_law_1008 ?_
  refine aw_arg S hi (j := 2) (by decide) rfl dL_law_1009 dL_law_1010 dL_law_1012 dL_law_1013 dL_law_1014 ?_
  obtain ⟨Po1, a, hc1, hk1⟩ := pr_lot (z := z) hX hM G (x := xs (i + 1)) (w := xs (i + 2))
  refine aw_callV dL_law_1015 kL_111 mX10_lot hc1 (Nat.le_of_ble_eq_true rfl) hX.k ⟨by decide, rfl⟩ hX.b rfl rfl (Nat.le_of_ble_eq_true rfl) hb (fun v z' n' sh' J M hp => ?_)
  obtain ⟨rfl, rfl, rfl, rfl, Po2, hc2, hk2⟩ := hk1 _ _ _ _ _ _ hp
  refine aw_aload_n dL_law_1018 rfl ?_
  refine aw_arg S hi (j := 1) (by decide) rfl dL_law_1019 dL_law_1020 dL_law_1022 dL_law_1023 dL_law_1024 ?_
  refine aw_arg S hi (j := 2) (by decide) rfl dL_law_1025 dL_law_1026 dL_law_1028 dL_law_1029 dL_law_1030 ?_
  refine aw_callV dL_law_1031 kL_114 mX11_lot hc2 (Nat.le_of_ble_eq_true rfl) hM.k ⟨by decide, rfl⟩ hM.b rfl rfl (Nat.le_of_ble_eq_true rfl) hb (fun v z' n' sh' J' M' hp2 => ?_)
  obtain ⟨rfl, rfl, rfl, rfl, G2⟩ := hk2 _ _ _ _ _ _ hp2
  exact aw_icmp_eq (tgt := 1790) dL_law_1034 rfl (fun _ => kk _ _ G2) (fun c => absurd rfl c)
theorem lc_fits (S : Scr X g Ls xs) (hX : IsX n sh) (hM : IsM n sh 496) (G : Good I L) (hi : i + 6 ≤ Ls) (hb : cl ≤ 601024 ∧ sl ≤ 7293034) (kk : ∀ J M, Good J M → AW X g RL cL_law 7 LBd (z, n, sh, cl, sl) J M 1790 (LcL i u5 u6) []) : AW X g RL cL_law 7 LBd (z, n, sh, cl, sl) I L 1039 (LcL i u5 u6) [] := by
  refine aw_aload_n dL_law_1039 rfl ?_
  refine aw_arg S hi (j := 1) (by decide) rfl dL_law_1040 dL_law_1041 dL_law_1043 dL_law_1044 dL_law_1045 ?_
  refine aw_arg S hi (j := 2) (by decide) rfl dL_law_1046 dL_law_1047 dL_law_1049 dL_law_1050 dL_law_1051 ?_
  obtain ⟨Po1, a, hc1, hk1⟩ := pr_fits (z := z) hX hM G (x := xs (i + 1)) (w := xs (i + 2))
  refine aw_callV dL_law_1052 kL_115 mX10_fits hc1 (Nat.le_of_ble_eq_true rfl) hX.k ⟨by decide, rfl⟩ hX.b rfl rfl (Nat.le_of_ble_eq_true rfl) hb (fun v z' n' sh' J M hp => ?_)
  obtain ⟨rfl, rfl, rfl, rfl, Po2, hc2, hk2⟩ := hk1 _ _ _ _ _ _ hp
  refine aw_aload_n dL_law_1055 rfl ?_
  refine aw_arg S hi (j := 1) (by decide) rfl dL_law_1056 dL_law_1057 dL_law_1059 dL_law_1060 dL_law_1061 ?_
  refine aw_arg S hi (j := 2) (by decide) rfl dL_law_1062 dL_law_1063 dL_law_1065 dL_law_1066 dL_law_1067 ?_
  refine aw_callV dL_law_1068 kL_118 mX11_fits hc2 (Nat.le_of_ble_eq_true rfl) hM.k ⟨by decide, rfl⟩ hM.b rfl rfl (Nat.le_of_ble_eq_true rfl) hb (fun v z' n' sh' J' M' hp2 => ?_)
  obtain ⟨rfl, rfl, rfl, rfl, G2⟩ := hk2 _ _ _ _ _ _ hp2
  exact aw_icmp_eq (tgt := 1790) dL_law_1071 rfl (fun _ => kk _ _ G2) (fun c => absurd rfl c)
theorem lc_ward (S : Scr X g Ls xs) (hX : IsX n sh) (hM : IsM n sh 496) (G : Good I L) (hi : i + 6 ≤ Ls) (hb : cl ≤ 601024 ∧ sl ≤ 7293034) (kk : ∀ J M, Good J M → AW X g RL cL_law 7 LBd (z, n, sh, cl, sl) J M 1790 (LcL i u5 u6) []) : AW X g RL cL_law 7 LBd (z, n, sh, cl, sl) I L 1076 (LcL i u5 u6) [] := by
  refine aw_aload_n dL_law_1076 rfl ?_
  refine aw_arg S hi (j := 1) (by decide) rfl dL_law_1077 dL_law_1078 dL_law_1080 dL_law_1081 dL_law_1082 ?_
  refine aw_bool dL_law_1083 dL_law_1086 dL_law_1087 dL_law_1090 ?_
  obtain ⟨Po1, a, hc1, hk1⟩ := pr_ward (z := z) hX hM G (t := bN (xs (i + 1)))
  refine aw_callV dL_law_1091 kL_119 mX10_ward hc1 (Nat.le_of_ble_eq_true rfl) hX.k ⟨by decide, rfl⟩ hX.b rfl rfl (Nat.le_of_ble_eq_true rfl) hb (fun v z' n' sh' J M hp => ?_)
  obtain ⟨rfl, rfl, rfl, rfl, Po2, hc2, hk2⟩ := hk1 _ _ _ _ _ _ hp
  refine aw_aload_n dL_law_1094 rfl ?_
  refine aw_arg S hi (j := 1) (by decide) rfl dL_law_1095 dL_law_1096 dL_law_1098 dL_law_1099 dL_law_1100 ?_
  refine aw_bool dL_law_1101 dL_law_1104 dL_law_1105 dL_law_1108 ?_
  refine aw_callV dL_law_1109 kL_123 mX11_ward hc2 (Nat.le_of_ble_eq_true rfl) hM.k ⟨by decide, rfl⟩ hM.b rfl rfl (Nat.le_of_ble_eq_true rfl) hb (fun v z' n' sh' J' M' hp2 => ?_)
  obtain ⟨rfl, rfl, rfl, rfl, G2⟩ := hk2 _ _ _ _ _ _ hp2
  exact aw_icmp_eq (tgt := 1790) dL_law_1112 rfl (fun _ => kk _ _ G2) (fun c => absurd rfl c)
theorem lc_envy (S : Scr X g Ls xs) (hX : IsX n sh) (hM : IsM n sh 496) (G : Good I L) (hi : i + 6 ≤ Ls) (hb : cl ≤ 601024 ∧ sl ≤ 7293034) (kk : ∀ J M, Good J M → AW X g RL cL_law 7 LBd (z, n, sh, cl, sl) J M 1790 (LcL i u5 u6) []) : AW X g RL cL_law 7 LBd (z, n, sh, cl, sl) I L 1117 (LcL i u5 u6) [] := by
  refine aw_aload_n dL_law_1117 rfl ?_
  refine aw_arg S hi (j := 1) (by decide) rfl dL_law_1118 dL_law_1119 dL_law_1121 dL_law_1122 dL_law_1123 ?_
  obtain ⟨Po1, a, hc1, hk1⟩ := pr_envy (z := z) hX hM G (x := xs (i + 1))
  refine aw_callV dL_law_1124 kL_124 mX10_envy hc1 (Nat.le_of_ble_eq_true rfl) hX.k ⟨by decide, rfl⟩ hX.b rfl rfl (Nat.le_of_ble_eq_true rfl) hb (fun v z' n' sh' J M hp => ?_)
  obtain ⟨rfl, rfl, rfl, rfl, Po2, hc2, hk2⟩ := hk1 _ _ _ _ _ _ hp
  refine aw_aload_n dL_law_1127 rfl ?_
  refine aw_arg S hi (j := 1) (by decide) rfl dL_law_1128 dL_law_1129 dL_law_1131 dL_law_1132 dL_law_1133 ?_
  refine aw_callV dL_law_1134 kL_127 mX11_envy hc2 (Nat.le_of_ble_eq_true rfl) hM.k ⟨by decide, rfl⟩ hM.b rfl rfl (Nat.le_of_ble_eq_true rfl) hb (fun v z' n' sh' J' M' hp2 => ?_)
  obtain ⟨rfl, rfl, rfl, rfl, G2⟩ := hk2 _ _ _ _ _ _ hp2
  exact aw_icmp_eq (tgt := 1790) dL_law_1137 rfl (fun _ => kk _ _ G2) (fun c => absurd rfl c)
theorem lc_lever (S : Scr X g Ls xs) (hX : IsX n sh) (hM : IsM n sh 496) (G : Good I L) (hi : i + 6 ≤ Ls) (hb : cl ≤ 601024 ∧ sl ≤ 7293034) (kk : ∀ J M, Good J M → AW X g RL cL_law 7 LBd (z, n, sh, cl, sl) J M 1790 (LcL i u5 u6) []) : AW X g RL cL_law 7 LBd (z, n, sh, cl, sl) I L 1142 (LcL i u5 u6) [] := by
  refine aw_aload_n dL_law_1142 rfl ?_
  refine aw_arg S hi (j := 1) (by decide) rfl dL_law_1143 dL_law_1144 dL_law_1146 dL_law_1147 dL_law_1148 ?_
  refine aw_arg S hi (j := 2) (by decide) rfl dL_law_1149 dL_law_1150 dL_law_1152 dL_law_1153 dL_law_1154 ?_
  obtain ⟨Po1, a, hc1, hk1⟩ := pr_lever (z := z) hX hM G (x := xs (i + 1)) (w := xs (i + 2))
  refine aw_callV dL_law_1155 kL_128 mX10_lever hc1 (Nat.le_of_ble_eq_true rfl) hX.k ⟨by decide, rfl⟩ hX.b rfl rfl (Nat.le_of_ble_eq_true rfl) hb (fun v z' n' sh' J M hp => ?_)
  obtain ⟨rfl, rfl, rfl, rfl, Po2, hc2, hk2⟩ := hk1 _ _ _ _ _ _ hp
  refine aw_aload_n dL_law_1158 rfl ?_
  refine aw_arg S hi (j := 1) (by decide) rfl dL_law_1159 dL_law_1160 dL_law_1162 dL_law_1163 dL_law_1164 ?_
  refine aw_arg S hi (j := 2) (by decide) rfl dL_law_1165 dL_law_1166 dL_law_1168 dL_law_1169 dL_law_1170 ?_
  refine aw_callV dL_law_1171 kL_131 mX11_lever hc2 (Nat.le_of_ble_eq_true rfl) hM.k ⟨by decide, rfl⟩ hM.b rfl rfl (Nat.le_of_ble_eq_true rfl) hb (fun v z' n' sh' J' M' hp2 => ?_)
  obtain ⟨rfl, rfl, rfl, rfl, G2⟩ := hk2 _ _ _ _ _ _ hp2
  exact aw_icmp_eq (tgt := 1790) dL_law_1174 rfl (fun _ => kk _ _ G2) (fun c => absurd rfl c)
theorem lc_queue (S : Scr X g Ls xs) (hX : IsX n sh) (hM : IsM n sh 496) (G : Good I L) (hi : i + 6 ≤ Ls) (hb : cl ≤ 601024 ∧ sl ≤ 7293034) (kk : ∀ J M, Good J M → AW X g RL cL_law 7 LBd (z, n, sh, cl, sl) J M 1790 (LcL i u5 u6) []) : AW X g RL cL_law 7 LBd (z, n, sh, cl, sl) I L 1179 (LcL i u5 u6) [] := by
  refine aw_aload_n dL_law_1179 rfl ?_
  refine aw_arg S hi (j := 1) (by decide) rfl dL_law_1180 dL_law_1181 dL_law_1183 dL_law_1184 dL_law_1185 ?_
  obtain ⟨Po1, a, hc1, hk1⟩ := pr_queue (z := z) hX hM G (k := xs (i + 1))
  refine aw_callV dL_law_1186 kL_132 mX10_queue hc1 (Nat.le_of_ble_eq_true rfl) hX.k ⟨by decide, rfl⟩ hX.b rfl rfl (Nat.le_of_ble_eq_true rfl) hb (fun v z' n' sh' J M hp => ?_)
  obtain ⟨rfl, rfl, rfl, rfl, Po2, hc2, hk2⟩ := hk1 _ _ _ _ _ _ hp
  refine aw_aload_n dL_law_1189 rfl ?_
  refine aw_arg S hi (j := 1) (by decide) rfl dL_law_1190 dL_law_1191 dL_law_1193 dL_law_1194 dL_law_1195 ?_
  refine aw_callV dL_law_1196 kL_135 mX11_queue hc2 (Nat.le_of_ble_eq_true rfl) hM.k ⟨by decide, rfl⟩ hM.b rfl rfl (Nat.le_of_ble_eq_true rfl) hb (fun v z' n' sh' J' M' hp2 => ?_)
  obtain ⟨rfl, rfl, rfl, rfl, G2⟩ := hk2 _ _ _ _ _ _ hp2
  exact aw_icmp_eq (tgt := 1790) dL_law_1199 rfl (fun _ => kk _ _ G2) (fun c => absurd rfl c)
theorem lc_most (S : Scr X g Ls xs) (hX : IsX n sh) (hM : IsM n sh 496) (G : Good I L) (hi : i + 6 ≤ Ls) (hb : cl ≤ 601024 ∧ sl ≤ 7293034) (kk : ∀ J M, Good J M → AW X g RL cL_law 7 LBd (z, n, sh, cl, sl) J M 1790 (LcL i u5 u6) []) : AW X g RL cL_law 7 LBd (z, n, sh, cl, sl) I L 1204 (LcL i u5 u6) [] := by
  refine aw_aload_n dL_law_1204 rfl ?_
  obtain ⟨Po1, a, hc1, hk1⟩ := pr_most (z := z) hX hM G 
  refine aw_callV dL_law_1205 kL_136 mX10_most hc1 (Nat.le_of_ble_eq_true rfl) hX.k ⟨by decide, rfl⟩ hX.b rfl rfl (Nat.le_of_ble_eq_true rfl) hb (fun v z' n' sh' J M hp => ?_)
  obtain ⟨rfl, rfl, rfl, rfl, Po2, hc2, hk2⟩ := hk1 _ _ _ _ _ _ hp
  refine aw_aload_n dL_law_1208 rfl ?_
  refine aw_callV dL_law_1209 kL_139 mX11_most hc2 (Nat.le_of_ble_eq_true rfl) hM.k ⟨by decide, rfl⟩ hM.b rfl rfl (Nat.le_of_ble_eq_true rfl) hb (fun v z' n' sh' J' M' hp2 => ?_)
  obtain ⟨rfl, rfl, rfl, rfl, G2⟩ := hk2 _ _ _ _ _ _ hp2
  exact aw_icmp_eq (tgt := 1790) dL_law_1212 rfl (fun _ => kk _ _ G2) (fun c => absurd rfl c)
theorem lc_gift (S : Scr X g Ls xs) (hX : IsX n sh) (hM : IsM n sh 496) (G : Good I L) (hi : i + 6 ≤ Ls) (hb : cl ≤ 601024 ∧ sl ≤ 7293034) (kk : ∀ J M, Good J M → AW X g RL cL_law 7 LBd (z, n, sh, cl, sl) J M 1790 (LcL i u5 u6) []) : AW X g RL cL_law 7 LBd (z, n, sh, cl, sl) I L 1217 (LcL i u5 u6) [] := by
  refine aw_aload_n dL_law_1217 rfl ?_
  refine aw_arg S hi (j := 1) (by decide) rfl dL_law_1218 dL_law_1219 dL_law_1221 dL_law_1222 dL_law_1223 ?_
  obtain ⟨Po1, a, hc1, hk1⟩ := pr_gift (z := z) hX hM G (x := xs (i + 1))
  refine aw_callV dL_law_1224 kL_140 mX10_gift hc1 (Nat.le_of_ble_eq_true rfl) hX.k ⟨by decide, rfl⟩ hX.b rfl rfl (Nat.le_of_ble_eq_true rfl) hb (fun v z' n' sh' J M hp => ?_)
  obtain ⟨rfl, rfl, rfl, rfl, Po2, hc2, hk2⟩ := hk1 _ _ _ _ _ _ hp
  refine aw_aload_n dL_law_1227 rfl ?_
  refine aw_arg S hi (j := 1) (by decide) rfl dL_law_1228 dL_law_1229 dL_law_1231 dL_law_1232 dL_law_1233 ?_
  refine aw_callV dL_law_1234 kL_143 mX11_gift hc2 (Nat.le_of_ble_eq_true rfl) hM.k ⟨by decide, rfl⟩ hM.b rfl rfl (Nat.le_of_ble_eq_true rfl) hb (fun v z' n' sh' J' M' hp2 => ?_)
  obtain ⟨rfl, rfl, rfl, rfl, G2⟩ := hk2 _ _ _ _ _ _ hp2
  exact aw_icmp_eq (tgt := 1790) dL_law_1237 rfl (fun _ => kk _ _ G2) (fun c => absurd rfl c)
theorem lc_trade (S : Scr X g Ls xs) (hX : IsX n sh) (hM : IsM n sh 496) (G : Good I L) (hi : i + 6 ≤ Ls) (hb : cl ≤ 601024 ∧ sl ≤ 7293034) (kk : ∀ J M, Good J M → AW X g RL cL_law 7 LBd (z, n, sh, cl, sl) J M 1790 (LcL i u5 u6) []) : AW X g RL cL_law 7 LBd (z, n, sh, cl, sl) I L 1242 (LcL i u5 u6) [] := by
  refine aw_aload_n dL_law_1242 rfl ?_
  refine aw_arg S hi (j := 1) (by decide) rfl dL_law_1243 dL_law_1244 dL_law_1246 dL_law_1247 dL_law_1248 ?_
  obtain ⟨Po1, a, hc1, hk1⟩ := pr_trade (z := z) hX hM G (x := xs (i + 1))
  refine aw_callV dL_law_1249 kL_144 mX10_trade hc1 (Nat.le_of_ble_eq_true rfl) hX.k ⟨by decide, rfl⟩ hX.b rfl rfl (Nat.le_of_ble_eq_true rfl) hb (fun v z' n' sh' J M hp => ?_)
  obtain ⟨rfl, rfl, rfl, rfl, Po2, hc2, hk2⟩ := hk1 _ _ _ _ _ _ hp
  refine aw_aload_n dL_law_1252 rfl ?_
  refine aw_arg S hi (j := 1) (by decide) rfl dL_law_1253 dL_law_1254 dL_law_1256 dL_law_1257 dL_law_1258 ?_
  refine aw_callV dL_law_1259 kL_147 mX11_trade hc2 (Nat.le_of_ble_eq_true rfl) hM.k ⟨by decide, rfl⟩ hM.b rfl rfl (Nat.le_of_ble_eq_true rfl) hb (fun v z' n' sh' J' M' hp2 => ?_)
  obtain ⟨rfl, rfl, rfl, rfl, G2⟩ := hk2 _ _ _ _ _ _ hp2
  exact aw_icmp_eq (tgt := 1790) dL_law_1262 rfl (fun _ => kk _ _ G2) (fun c => absurd rfl c)
theorem lc_trades (S : Scr X g Ls xs) (hX : IsX n sh) (hM : IsM n sh 496) (G : Good I L) (hi : i + 6 ≤ Ls) (hb : cl ≤ 601024 ∧ sl ≤ 7293034) (kk : ∀ J M, Good J M → AW X g RL cL_law 7 LBd (z, n, sh, cl, sl) J M 1790 (LcL i u5 u6) []) : AW X g RL cL_law 7 LBd (z, n, sh, cl, sl) I L 1267 (LcL i u5 u6) [] := by
  refine aw_aload_n dL_law_1267 rfl ?_
  refine aw_arg S hi (j := 1) (by decide) rfl dL_law_1268 dL_law_1269 dL_law_1271 dL_law_1272 dL_law_1273 ?_
  obtain ⟨Po1, a, hc1, hk1⟩ := pr_trades (z := z) hX hM G (x := xs (i + 1))
  refine aw_callV dL_law_1274 kL_148 mX10_trades hc1 (Nat.le_of_ble_eq_true rfl) hX.k ⟨by decide, rfl⟩ hX.b rfl rfl (Nat.le_of_ble_eq_true rfl) hb (fun v z' n' sh' J M hp => ?_)
  obtain ⟨rfl, rfl, rfl, rfl, Po2, hc2, hk2⟩ := hk1 _ _ _ _ _ _ hp
  refine aw_aload_n dL_law_1277 rfl ?_
  refine aw_arg S hi (j := 1) (by decide) rfl dL_law_1278 dL_law_1279 dL_law_1281 dL_law_1282 dL_law_1283 ?_
  refine aw_callV dL_law_1284 kL_151 mX11_trades hc2 (Nat.le_of_ble_eq_true rfl) hM.k ⟨by decide, rfl⟩ hM.b rfl rfl (Nat.le_of_ble_eq_true rfl) hb (fun v z' n' sh' J' M' hp2 => ?_)
  obtain ⟨rfl, rfl, rfl, rfl, G2⟩ := hk2 _ _ _ _ _ _ hp2
  exact aw_icmp_eq (tgt := 1790) dL_law_1287 rfl (fun _ => kk _ _ G2) (fun c => absurd rfl c)
theorem lc_longest (S : Scr X g Ls xs) (hX : IsX n sh) (hM : IsM n sh 496) (G : Good I L) (hi : i + 6 ≤ Ls) (hb : cl ≤ 601024 ∧ sl ≤ 7293034) (kk : ∀ J M, Good J M → AW X g RL cL_law 7 LBd (z, n, sh, cl, sl) J M 1790 (LcL i u5 u6) []) : AW X g RL cL_law 7 LBd (z, n, sh, cl, sl) I L 1292 (LcL i u5 u6) [] := by
  refine aw_aload_n dL_law_1292 rfl ?_
  refine aw_arg S hi (j := 1) (by decide) rfl dL_law_1293 dL_law_1294 dL_law_1296 dL_law_1297 dL_law_1298 ?_
  refine aw_arg S hi (j := 2) (by decide) rfl dL_law_1299 dL_law_1300 dL_law_1302 dL_law_1303 dL_law_1304 ?_
  refine aw_bool dL_law_1305 dL_law_1308 dL_law_1309 dL_law_1312 ?_
  obtain ⟨Po1, a, hc1, hk1⟩ := pr_longest (z := z) hX hM G (x := xs (i + 1)) (t := bN (xs (i + 2)))
  refine aw_callV dL_law_1313 kL_152 mX10_longest hc1 (Nat.le_of_ble_eq_true rfl) hX.k ⟨by decide, rfl⟩ hX.b rfl rfl (Nat.le_of_ble_eq_true rfl) hb (fun v z' n' sh' J M hp => ?_)
  obtain ⟨rfl, rfl, rfl, rfl, Po2, hc2, hk2⟩ := hk1 _ _ _ _ _ _ hp
  refine aw_aload_n dL_law_1316 rfl ?_
  refine aw_arg S hi (j := 1) (by decide) rfl dL_law_1317 dL_law_1318 dL_law_1320 dL_law_1321 dL_law_1322 ?_
  refine aw_arg S hi (j := 2) (by decide) rfl dL_law_1323 dL_law_1324 dL_law_1326 dL_law_1327 dL_law_1328 ?_
  refine aw_bool dL_law_1329 dL_law_1332 dL_law_1333 dL_law_1336 ?_
  refine aw_callV dL_law_1337 kL_156 mX11_longest hc2 (Nat.le_of_ble_eq_true rfl) hM.k ⟨by decide, rfl⟩ hM.b rfl rfl (Nat.le_of_ble_eq_true rfl) hb (fun v z' n' sh' J' M' hp2 => ?_)
  obtain ⟨rfl, rfl, rfl, rfl, G2⟩ := hk2 _ _ _ _ _ _ hp2
  exact aw_icmp_eq (tgt := 1790) dL_law_1340 rfl (fun _ => kk _ _ G2) (fun c => absurd rfl c)
theorem lc_gap (S : Scr X g Ls xs) (hX : IsX n sh) (hM : IsM n sh 496) (G : Good I L) (hi : i + 6 ≤ Ls) (hb : cl ≤ 601024 ∧ sl ≤ 7293034) (kk : ∀ J M, Good J M → AW X g RL cL_law 7 LBd (z, n, sh, cl, sl) J M 1790 (LcL i u5 u6) []) : AW X g RL cL_law 7 LBd (z, n, sh, cl, sl) I L 1345 (LcL i u5 u6) [] := by
  refine aw_aload_n dL_law_1345 rfl ?_
  refine aw_arg S hi (j := 1) (by decide) rfl dL_law_1346 dL_law_1347 dL_law_1349 dL_law_1350 dL_law_1351 ?_
  refine aw_arg S hi (j := 2) (by decide) rfl dL_law_1352 dL_law_1353 dL_law_1355 dL_law_1356 dL_law_1357 ?_
  obtain ⟨Po1, a, hc1, hk1⟩ := pr_gap (z := z) hX hM G (x := xs (i + 1)) (y := xs (i + 2))
  refine aw_callV dL_law_1358 kL_157 mX10_gap hc1 (Nat.le_of_ble_eq_true rfl) hX.k ⟨by decide, rfl⟩ hX.b rfl rfl (Nat.le_of_ble_eq_true rfl) hb (fun v z' n' sh' J M hp => ?_)
  obtain ⟨rfl, rfl, rfl, rfl, Po2, hc2, hk2⟩ := hk1 _ _ _ _ _ _ hp
  refine aw_aload_n dL_law_1361 rfl ?_
  refine aw_arg S hi (j := 1) (by decide) rfl dL_law_1362 dL_law_1363 dL_law_1365 dL_law_1366 dL_law_1367 ?_
  refine aw_arg S hi (j := 2) (by decide) rfl dL_law_1368 dL_law_1369 dL_law_1371 dL_law_1372 dL_law_1373 ?_
  refine aw_callV dL_law_1374 kL_160 mX11_gap hc2 (Nat.le_of_ble_eq_true rfl) hM.k ⟨by decide, rfl⟩ hM.b rfl rfl (Nat.le_of_ble_eq_true rfl) hb (fun v z' n' sh' J' M' hp2 => ?_)
  obtain ⟨rfl, rfl, rfl, rfl, G2⟩ := hk2 _ _ _ _ _ _ hp2
  exact aw_icmp_eq (tgt := 1790) dL_law_1377 rfl (fun _ => kk _ _ G2) (fun c => absurd rfl c)
theorem lc_bid (S : Scr X g Ls xs) (hX : IsX n sh) (hM : IsM n sh 496) (G : Good I L) (hi : i + 6 ≤ Ls) (hb : cl ≤ 601024 ∧ sl ≤ 7293034) (kk : ∀ J M, Good J M → AW X g RL cL_law 7 LBd (z, n, sh, cl, sl) J M 1790 (LcL i u5 u6) []) : AW X g RL cL_law 7 LBd (z, n, sh, cl, sl) I L 1382 (LcL i u5 u6) [] := by
  refine aw_aload_n dL_law_1382 rfl ?_
  refine aw_arg S hi (j := 1) (by decide) rfl dL_law_1383 dL_law_1384 dL_law_1386 dL_law_1387 dL_law_1388 ?_
  refine aw_arg S hi (j := 2) (by decide) rfl dL_law_1389 dL_law_1390 dL_law_1392 dL_law_1393 dL_law_1394 ?_
  obtain ⟨Po1, a, hc1, hk1⟩ := pr_bid (z := z) hX hM G (x := xs (i + 1)) (y := xs (i + 2))
  refine aw_callV dL_law_1395 kL_161 mX10_bid hc1 (Nat.le_of_ble_eq_true rfl) hX.k ⟨by decide, rfl⟩ hX.b rfl rfl (Nat.le_of_ble_eq_true rfl) hb (fun v z' n' sh' J M hp => ?_)
  obtain ⟨rfl, rfl, rfl, rfl, Po2, hc2, hk2⟩ := hk1 _ _ _ _ _ _ hp
  refine aw_aload_n dL_law_1398 rfl ?_
  refine aw_arg S hi (j := 1) (by decide) rfl dL_law_1399 dL_law_1400 dL_law_1402 dL_law_1403 dL_law_1404 ?_
  refine aw_arg S hi (j := 2) (by decide) rfl dL_law_1405 dL_law_1406 dL_law_1408 dL_law_1409 dL_law_1410 ?_
  refine aw_callV dL_law_1411 kL_164 mX11_bid hc2 (Nat.le_of_ble_eq_true rfl) hM.k ⟨by decide, rfl⟩ hM.b rfl rfl (Nat.le_of_ble_eq_true rfl) hb (fun v z' n' sh' J' M' hp2 => ?_)
  obtain ⟨rfl, rfl, rfl, rfl, G2⟩ := hk2 _ _ _ _ _ _ hp2
  exact aw_icmp_eq (tgt := 1790) dL_law_1414 rfl (fun _ => kk _ _ G2) (fun c => absurd rfl c)
theorem lc_unbid (S : Scr X g Ls xs) (hX : IsX n sh) (hM : IsM n sh 496) (G : Good I L) (hi : i + 6 ≤ Ls) (hb : cl ≤ 601024 ∧ sl ≤ 7293034) (kk : ∀ J M, Good J M → AW X g RL cL_law 7 LBd (z, n, sh, cl, sl) J M 1790 (LcL i u5 u6) []) : AW X g RL cL_law 7 LBd (z, n, sh, cl, sl) I L 1419 (LcL i u5 u6) [] := by
  refine aw_aload_n dL_law_1419 rfl ?_
  refine aw_arg S hi (j := 1) (by decide) rfl dL_law_1420 dL_law_1421 dL_law_1423 dL_law_1424 dL_law_1425 ?_
  refine aw_arg S hi (j := 2) (by decide) rfl dL_law_1426 dL_law_1427 dL_law_1429 dL_law_1430 dL_law_1431 ?_
  obtain ⟨Po1, a, hc1, hk1⟩ := pr_unbid (z := z) hX hM G (x := xs (i + 1)) (y := xs (i + 2))
  refine aw_callV dL_law_1432 kL_165 mX10_unbid hc1 (Nat.le_of_ble_eq_true rfl) hX.k ⟨by decide, rfl⟩ hX.b rfl rfl (Nat.le_of_ble_eq_true rfl) hb (fun v z' n' sh' J M hp => ?_)
  obtain ⟨rfl, rfl, rfl, rfl, Po2, hc2, hk2⟩ := hk1 _ _ _ _ _ _ hp
  refine aw_aload_n dL_law_1435 rfl ?_
  refine aw_arg S hi (j := 1) (by decide) rfl dL_law_1436 dL_law_1437 dL_law_1439 dL_law_1440 dL_law_1441 ?_
  refine aw_arg S hi (j := 2) (by decide) rfl dL_law_1442 dL_law_1443 dL_law_1445 dL_law_1446 dL_law_1447 ?_
  refine aw_callV dL_law_1448 kL_168 mX11_unbid hc2 (Nat.le_of_ble_eq_true rfl) hM.k ⟨by decide, rfl⟩ hM.b rfl rfl (Nat.le_of_ble_eq_true rfl) hb (fun v z' n' sh' J' M' hp2 => ?_)
  obtain ⟨rfl, rfl, rfl, rfl, G2⟩ := hk2 _ _ _ _ _ _ hp2
  exact aw_icmp_eq (tgt := 1790) dL_law_1451 rfl (fun _ => kk _ _ G2) (fun c => absurd rfl c)
theorem lc_auto (S : Scr X g Ls xs) (hX : IsX n sh) (hM : IsM n sh 496) (G : Good I L) (hi : i + 6 ≤ Ls) (hb : cl ≤ 601024 ∧ sl ≤ 7293034) (kk : ∀ J M, Good J M → AW X g RL cL_law 7 LBd (z, n, sh, cl, sl) J M 1790 (LcL i u5 u6) []) : AW X g RL cL_law 7 LBd (z, n, sh, cl, sl) I L 1456 (LcL i u5 u6) [] := by
  refine aw_aload_n dL_law_1456 rfl ?_
  obtain ⟨Po1, a, hc1, hk1⟩ := pr_auto (z := z) hX hM G 
  refine aw_callV dL_law_1457 kL_169 mX10_auto hc1 (Nat.le_of_ble_eq_true rfl) hX.k ⟨by decide, rfl⟩ hX.b rfl rfl (Nat.le_of_ble_eq_true rfl) hb (fun v z' n' sh' J M hp => ?_)
  obtain ⟨rfl, rfl, rfl, rfl, Po2, hc2, hk2⟩ := hk1 _ _ _ _ _ _ hp
  refine aw_aload_n dL_law_1460 rfl ?_
  refine aw_callV dL_law_1461 kL_172 mX11_auto hc2 (Nat.le_of_ble_eq_true rfl) hM.k ⟨by decide, rfl⟩ hM.b rfl rfl (Nat.le_of_ble_eq_true rfl) hb (fun v z' n' sh' J' M' hp2 => ?_)
  obtain ⟨rfl, rfl, rfl, rfl, G2⟩ := hk2 _ _ _ _ _ _ hp2
  exact aw_icmp_eq (tgt := 1790) dL_law_1464 rfl (fun _ => kk _ _ G2) (fun c => absurd rfl c)
theorem lc_week (S : Scr X g Ls xs) (hX : IsX n sh) (hM : IsM n sh 496) (G : Good I L) (hi : i + 6 ≤ Ls) (hb : cl ≤ 601024 ∧ sl ≤ 7293034) (kk : ∀ J M, Good J M → AW X g RL cL_law 7 LBd (z, n, sh, cl, sl) J M 1790 (LcL i u5 u6) []) : AW X g RL cL_law 7 LBd (z, n, sh, cl, sl) I L 1469 (LcL i u5 u6) [] := by
  refine aw_aload_n dL_law_1469 rfl ?_
  obtain ⟨Po1, a, hc1, hk1⟩ := pr_week (z := z) hX hM G 
  refine aw_callV dL_law_1470 kL_173 mX10_week hc1 (Nat.le_of_ble_eq_true rfl) hX.k ⟨by decide, rfl⟩ hX.b rfl rfl (Nat.le_of_ble_eq_true rfl) hb (fun v z' n' sh' J M hp => ?_)
  obtain ⟨rfl, rfl, rfl, rfl, Po2, hc2, hk2⟩ := hk1 _ _ _ _ _ _ hp
  refine aw_aload_n dL_law_1473 rfl ?_
  refine aw_callV dL_law_1474 kL_176 mX11_week hc2 (Nat.le_of_ble_eq_true rfl) hM.k ⟨by decide, rfl⟩ hM.b rfl rfl (Nat.le_of_ble_eq_true rfl) hb (fun v z' n' sh' J' M' hp2 => ?_)
  obtain ⟨rfl, rfl, rfl, rfl, G2⟩ := hk2 _ _ _ _ _ _ hp2
  exact aw_icmp_eq (tgt := 1790) dL_law_1477 rfl (fun _ => kk _ _ G2) (fun c => absurd rfl c)
theorem lc_wish (S : Scr X g Ls xs) (hX : IsX n sh) (hM : IsM n sh 496) (G : Good I L) (hi : i + 6 ≤ Ls) (hb : cl ≤ 601024 ∧ sl ≤ 7293034) (kk : ∀ J M, Good J M → AW X g RL cL_law 7 LBd (z, n, sh, cl, sl) J M 1790 (LcL i u5 u6) []) : AW X g RL cL_law 7 LBd (z, n, sh, cl, sl) I L 1482 (LcL i u5 u6) [] := by
  refine aw_aload_n dL_law_1482 rfl ?_
  refine aw_arg S hi (j := 1) (by decide) rfl dL_law_1483 dL_law_1484 dL_law_1486 dL_law_1487 dL_law_1488 ?_
  refine aw_arg S hi (j := 2) (by decide) rfl dL_law_1489 dL_law_1490 dL_law_1492 dL_law_1493 dL_law_1494 ?_
  obtain ⟨Po1, a, hc1, hk1⟩ := pr_wish (z := z) hX hM G (x := xs (i + 1)) (y := xs (i + 2))
  refine aw_callV dL_law_1495 kL_177 mX10_wish hc1 (Nat.le_of_ble_eq_true rfl) hX.k ⟨by decide, rfl⟩ hX.b rfl rfl (Nat.le_of_ble_eq_true rfl) hb (fun v z' n' sh' J M hp => ?_)
  obtain ⟨rfl, rfl, rfl, rfl, Po2, hc2, hk2⟩ := hk1 _ _ _ _ _ _ hp
  refine aw_aload_n dL_law_1498 rfl ?_
  refine aw_arg S hi (j := 1) (by decide) rfl dL_law_1499 dL_law_1500 dL_law_1502 dL_law_1503 dL_law_1504 ?_
  refine aw_arg S hi (j := 2) (by decide) rfl dL_law_1505 dL_law_1506 dL_law_1508 dL_law_1509 dL_law_1510 ?_
  refine aw_callV dL_law_1511 kL_180 mX11_wish hc2 (Nat.le_of_ble_eq_true rfl) hM.k ⟨by decide, rfl⟩ hM.b rfl rfl (Nat.le_of_ble_eq_true rfl) hb (fun v z' n' sh' J' M' hp2 => ?_)
  obtain ⟨rfl, rfl, rfl, rfl, G2⟩ := hk2 _ _ _ _ _ _ hp2
  exact aw_icmp_eq (tgt := 1790) dL_law_1514 rfl (fun _ => kk _ _ G2) (fun c => absurd rfl c)
theorem lc_unwish (S : Scr X g Ls xs) (hX : IsX n sh) (hM : IsM n sh 496) (G : Good I L) (hi : i + 6 ≤ Ls) (hb : cl ≤ 601024 ∧ sl ≤ 7293034) (kk : ∀ J M, Good J M → AW X g RL cL_law 7 LBd (z, n, sh, cl, sl) J M 1790 (LcL i u5 u6) []) : AW X g RL cL_law 7 LBd (z, n, sh, cl, sl) I L 1519 (LcL i u5 u6) [] := by
  refine aw_aload_n dL_law_1519 rfl ?_
  refine aw_arg S hi (j := 1) (by decide) rfl dL_law_1520 dL_law_1521 dL_law_1523 dL_law_1524 dL_law_1525 ?_
  refine aw_arg S hi (j := 2) (by decide) rfl dL_law_1526 dL_law_1527 dL_law_1529 dL_law_1530 dL_law_1531 ?_
  obtain ⟨Po1, a, hc1, hk1⟩ := pr_unwish (z := z) hX hM G (x := xs (i + 1)) (y := xs (i + 2))
  refine aw_callV dL_law_1532 kL_181 mX10_unwish hc1 (Nat.le_of_ble_eq_true rfl) hX.k ⟨by decide, rfl⟩ hX.b rfl rfl (Nat.le_of_ble_eq_true rfl) hb (fun v z' n' sh' J M hp => ?_)
  obtain ⟨rfl, rfl, rfl, rfl, Po2, hc2, hk2⟩ := hk1 _ _ _ _ _ _ hp
  refine aw_aload_n dL_law_1535 rfl ?_
  refine aw_arg S hi (j := 1) (by decide) rfl dL_law_1536 dL_law_1537 dL_law_1539 dL_law_1540 dL_law_1541 ?_
  refine aw_arg S hi (j := 2) (by decide) rfl dL_law_1542 dL_law_1543 dL_law_1545 dL_law_1546 dL_law_1547 ?_
  refine aw_callV dL_law_1548 kL_184 mX11_unwish hc2 (Nat.le_of_ble_eq_true rfl) hM.k ⟨by decide, rfl⟩ hM.b rfl rfl (Nat.le_of_ble_eq_true rfl) hb (fun v z' n' sh' J' M' hp2 => ?_)
  obtain ⟨rfl, rfl, rfl, rfl, G2⟩ := hk2 _ _ _ _ _ _ hp2
  exact aw_icmp_eq (tgt := 1790) dL_law_1551 rfl (fun _ => kk _ _ G2) (fun c => absurd rfl c)
theorem lc_leave (S : Scr X g Ls xs) (hX : IsX n sh) (hM : IsM n sh 496) (G : Good I L) (hi : i + 6 ≤ Ls) (hb : cl ≤ 601024 ∧ sl ≤ 7293034) (kk : ∀ J M, Good J M → AW X g RL cL_law 7 LBd (z, n, sh, cl, sl) J M 1790 (LcL i u5 u6) []) : AW X g RL cL_law 7 LBd (z, n, sh, cl, sl) I L 1556 (LcL i u5 u6) [] := by
  refine aw_aload_n dL_law_1556 rfl ?_
  refine aw_arg S hi (j := 1) (by decide) rfl dL_law_1557 dL_law_1558 dL_law_1560 dL_law_1561 dL_law_1562 ?_
  obtain ⟨Po1, a, hc1, hk1⟩ := pr_leave (z := z) hX hM G (x := xs (i + 1))
  refine aw_callV dL_law_1563 kL_185 mX10_leave hc1 (Nat.le_of_ble_eq_true rfl) hX.k ⟨by decide, rfl⟩ hX.b rfl rfl (Nat.le_of_ble_eq_true rfl) hb (fun v z' n' sh' J M hp => ?_)
  obtain ⟨rfl, rfl, rfl, rfl, Po2, hc2, hk2⟩ := hk1 _ _ _ _ _ _ hp
  refine aw_aload_n dL_law_1566 rfl ?_
  refine aw_arg S hi (j := 1) (by decide) rfl dL_law_1567 dL_law_1568 dL_law_1570 dL_law_1571 dL_law_1572 ?_
  refine aw_callV dL_law_1573 kL_188 mX11_leave hc2 (Nat.le_of_ble_eq_true rfl) hM.k ⟨by decide, rfl⟩ hM.b rfl rfl (Nat.le_of_ble_eq_true rfl) hb (fun v z' n' sh' J' M' hp2 => ?_)
  obtain ⟨rfl, rfl, rfl, rfl, G2⟩ := hk2 _ _ _ _ _ _ hp2
  exact aw_icmp_eq (tgt := 1790) dL_law_1576 rfl (fun _ => kk _ _ G2) (fun c => absurd rfl c)
theorem lc_shut (S : Scr X g Ls xs) (hX : IsX n sh) (hM : IsM n sh 496) (G : Good I L) (hi : i + 6 ≤ Ls) (hb : cl ≤ 601024 ∧ sl ≤ 7293034) (kk : ∀ J M, Good J M → AW X g RL cL_law 7 LBd (z, n, sh, cl, sl) J M 1790 (LcL i u5 u6) []) : AW X g RL cL_law 7 LBd (z, n, sh, cl, sl) I L 1581 (LcL i u5 u6) [] := by
  refine aw_aload_n dL_law_1581 rfl ?_
  refine aw_arg S hi (j := 1) (by decide) rfl dL_law_1582 dL_law_1583 dL_law_1585 dL_law_1586 dL_law_1587 ?_
  refine aw_arg S hi (j := 2) (by decide) rfl dL_law_1588 dL_law_1589 dL_law_1591 dL_law_1592 dL_law_1593 ?_
  refine aw_bool dL_law_1594 dL_law_1597 dL_law_1598 dL_law_1601 ?_
  obtain ⟨Po1, a, hc1, hk1⟩ := pr_shut (z := z) hX hM G (x := xs (i + 1)) (y := bN (xs (i + 2))) (bN_01 _)
  refine aw_callV dL_law_1602 kL_189 mX10_shut hc1 (Nat.le_of_ble_eq_true rfl) hX.k ⟨by decide, rfl⟩ hX.b rfl rfl (Nat.le_of_ble_eq_true rfl) hb (fun v z' n' sh' J M hp => ?_)
  obtain ⟨rfl, rfl, rfl, rfl, Po2, hc2, hk2⟩ := hk1 _ _ _ _ _ _ hp
  refine aw_aload_n dL_law_1605 rfl ?_
  refine aw_arg S hi (j := 1) (by decide) rfl dL_law_1606 dL_law_1607 dL_law_1609 dL_law_1610 dL_law_1611 ?_
  refine aw_arg S hi (j := 2) (by decide) rfl dL_law_1612 dL_law_1613 dL_law_1615 dL_law_1616 dL_law_1617 ?_
  refine aw_bool dL_law_1618 dL_law_1621 dL_law_1622 dL_law_1625 ?_
  refine aw_callV dL_law_1626 kL_192 mX11_shut hc2 (Nat.le_of_ble_eq_true rfl) hM.k ⟨by decide, rfl⟩ hM.b rfl rfl (Nat.le_of_ble_eq_true rfl) hb (fun v z' n' sh' J' M' hp2 => ?_)
  obtain ⟨rfl, rfl, rfl, rfl, G2⟩ := hk2 _ _ _ _ _ _ hp2
  exact aw_icmp_eq (tgt := 1790) dL_law_1629 rfl (fun _ => kk _ _ G2) (fun c => absurd rfl c)
theorem lc_need (S : Scr X g Ls xs) (hX : IsX n sh) (hM : IsM n sh 496) (G : Good I L) (hi : i + 6 ≤ Ls) (hb : cl ≤ 601024 ∧ sl ≤ 7293034) (kk : ∀ J M, Good J M → AW X g RL cL_law 7 LBd (z, n, sh, cl, sl) J M 1790 (LcL i u5 u6) []) : AW X g RL cL_law 7 LBd (z, n, sh, cl, sl) I L 1634 (LcL i u5 u6) [] := by
  refine aw_aload_n dL_law_1634 rfl ?_
  refine aw_arg S hi (j := 1) (by decide) rfl dL_law_1635 dL_law_1636 dL_law_1638 dL_law_1639 dL_law_1640 ?_
  refine aw_arg S hi (j := 2) (by decide) rfl dL_law_1641 dL_law_1642 dL_law_1644 dL_law_1645 dL_law_1646 ?_
  obtain ⟨Po1, a, hc1, hk1⟩ := pr_need (z := z) hX hM G (x := xs (i + 1)) (v := xs (i + 2))
  refine aw_callV dL_law_1647 kL_193 mX10_need hc1 (Nat.le_of_ble_eq_true rfl) hX.k ⟨by decide, rfl⟩ hX.b rfl rfl (Nat.le_of_ble_eq_true rfl) hb (fun v z' n' sh' J M hp => ?_)
  obtain ⟨rfl, rfl, rfl, rfl, Po2, hc2, hk2⟩ := hk1 _ _ _ _ _ _ hp
  refine aw_aload_n dL_law_1650 rfl ?_
  refine aw_arg S hi (j := 1) (by decide) rfl dL_law_1651 dL_law_1652 dL_law_1654 dL_law_1655 dL_law_1656 ?_
  refine aw_arg S hi (j := 2) (by decide) rfl dL_law_1657 dL_law_1658 dL_law_1660 dL_law_1661 dL_law_1662 ?_
  refine aw_callV dL_law_1663 kL_196 mX11_need hc2 (Nat.le_of_ble_eq_true rfl) hM.k ⟨by decide, rfl⟩ hM.b rfl rfl (Nat.le_of_ble_eq_true rfl) hb (fun v z' n' sh' J' M' hp2 => ?_)
  obtain ⟨rfl, rfl, rfl, rfl, G2⟩ := hk2 _ _ _ _ _ _ hp2
  exact aw_icmp_eq (tgt := 1790) dL_law_1666 rfl (fun _ => kk _ _ G2) (fun c => absurd rfl c)
theorem lc_rules (S : Scr X g Ls xs) (hX : IsX n sh) (hM : IsM n sh 496) (G : Good I L) (hi : i + 6 ≤ Ls) (hb : cl ≤ 601024 ∧ sl ≤ 7293034) (kk : ∀ J M, Good J M → AW X g RL cL_law 7 LBd (z, n, sh, cl, sl) J M 1790 (LcL i u5 u6) []) : AW X g RL cL_law 7 LBd (z, n, sh, cl, sl) I L 1671 (LcL i u5 u6) [] := by
  refine aw_aload_n dL_law_1671 rfl ?_
  refine aw_arg S hi (j := 1) (by decide) rfl dL_law_1672 dL_law_1673 dL_law_1675 dL_law_1676 dL_law_1677 ?_
  refine aw_arg S hi (j := 2) (by decide) rfl dL_law_1678 dL_law_1679 dL_law_1681 dL_law_1682 dL_law_1683 ?_
  obtain ⟨Po1, a, hc1, hk1⟩ := pr_rules (z := z) hX hM G (w := xs (i + 1)) (v := xs (i + 2))
  refine aw_callV dL_law_1684 kL_197 mX10_rules hc1 (Nat.le_of_ble_eq_true rfl) hX.k ⟨by decide, rfl⟩ hX.b rfl rfl (Nat.le_of_ble_eq_true rfl) hb (fun v z' n' sh' J M hp => ?_)
  obtain ⟨rfl, rfl, rfl, rfl, Po2, hc2, hk2⟩ := hk1 _ _ _ _ _ _ hp
  refine aw_aload_n dL_law_1687 rfl ?_
  refine aw_arg S hi (j := 1) (by decide) rfl dL_law_1688 dL_law_1689 dL_law_1691 dL_law_1692 dL_law_1693 ?_
  refine aw_arg S hi (j := 2) (by decide) rfl dL_law_1694 dL_law_1695 dL_law_1697 dL_law_1698 dL_law_1699 ?_
  refine aw_callV dL_law_1700 kL_200 mX11_rules hc2 (Nat.le_of_ble_eq_true rfl) hM.k ⟨by decide, rfl⟩ hM.b rfl rfl (Nat.le_of_ble_eq_true rfl) hb (fun v z' n' sh' J' M' hp2 => ?_)
  obtain ⟨rfl, rfl, rfl, rfl, G2⟩ := hk2 _ _ _ _ _ _ hp2
  exact aw_icmp_eq (tgt := 1790) dL_law_1703 rfl (fun _ => kk _ _ G2) (fun c => absurd rfl c)
theorem lc_undo (S : Scr X g Ls xs) (hX : IsX n sh) (hM : IsM n sh 496) (G : Good I L) (hi : i + 6 ≤ Ls) (hb : cl ≤ 601024 ∧ sl ≤ 7293034) (kk : ∀ J M, Good J M → AW X g RL cL_law 7 LBd (z, n, sh, cl, sl) J M 1790 (LcL i u5 u6) []) : AW X g RL cL_law 7 LBd (z, n, sh, cl, sl) I L 1708 (LcL i u5 u6) [] := by
  refine aw_aload_n dL_law_1708 rfl ?_
  obtain ⟨Po1, a, hc1, hk1⟩ := pr_undo (z := z) hX hM G 
  refine aw_callV dL_law_1709 kL_201 mX10_undo hc1 (Nat.le_of_ble_eq_true rfl) hX.k ⟨by decide, rfl⟩ hX.b rfl rfl (Nat.le_of_ble_eq_true rfl) hb (fun v z' n' sh' J M hp => ?_)
  obtain ⟨rfl, rfl, rfl, rfl, Po2, hc2, hk2⟩ := hk1 _ _ _ _ _ _ hp
  refine aw_aload_n dL_law_1712 rfl ?_
  refine aw_callV dL_law_1713 kL_204 mX11_undo hc2 (Nat.le_of_ble_eq_true rfl) hM.k ⟨by decide, rfl⟩ hM.b rfl rfl (Nat.le_of_ble_eq_true rfl) hb (fun v z' n' sh' J' M' hp2 => ?_)
  obtain ⟨rfl, rfl, rfl, rfl, G2⟩ := hk2 _ _ _ _ _ _ hp2
  exact aw_icmp_eq (tgt := 1790) dL_law_1716 rfl (fun _ => kk _ _ G2) (fun c => absurd rfl c)
theorem lc_print (S : Scr X g Ls xs) (hX : IsX n sh) (hM : IsM n sh 496) (G : Good I L) (hi : i + 6 ≤ Ls) (hb : cl ≤ 601024 ∧ sl ≤ 7293034) (kk : ∀ J M, Good J M → AW X g RL cL_law 7 LBd (z, n, sh, cl, sl) J M 1790 (LcL i u5 u6) []) : AW X g RL cL_law 7 LBd (z, n, sh, cl, sl) I L 1721 (LcL i u5 u6) [] := by
  refine aw_aload_n dL_law_1721 rfl ?_
  obtain ⟨Po1, a, hc1, hk1⟩ := pr_print (z := z) hX hM G 
  refine aw_callV dL_law_1722 kL_205 mX10_print hc1 (Nat.le_of_ble_eq_true rfl) hX.k ⟨by decide, rfl⟩ hX.b rfl rfl (Nat.le_of_ble_eq_true rfl) hb (fun v z' n' sh' J M hp => ?_)
  obtain ⟨rfl, rfl, rfl, rfl, Po2, hc2, hk2⟩ := hk1 _ _ _ _ _ _ hp
  refine aw_aload_n dL_law_1725 rfl ?_
  refine aw_callV dL_law_1726 kL_208 mX11_print hc2 (Nat.le_of_ble_eq_true rfl) hM.k ⟨by decide, rfl⟩ hM.b rfl rfl (Nat.le_of_ble_eq_true rfl) hb (fun v z' n' sh' J' M' hp2 => ?_)
  obtain ⟨rfl, rfl, rfl, rfl, G2⟩ := hk2 _ _ _ _ _ _ hp2
  exact aw_icmp_eq (tgt := 1790) dL_law_1729 rfl (fun _ => kk _ _ G2) (fun c => absurd rfl c)
end LAWC
