/-! THE LAW: its cases, 1 -/
section XC1
variable {G : xG} {l : Launch} {d : Nat} {Z : List Frame → Array Value → State → Nat → Nat → State → Prop} {k n i : Nat} {h : xH} {b : Bool} {S : St}
theorem wc_put (hd : 100 ≤ d) (hL : G.2.2.2.2.2 9 ≤ 3072) (hi : i + 5 < G.2.2.2.2.2 9) (hR : RC b h S) (hM : RM h S) (hm : h.2 < 600000) (K : wK G l d Z k n i h) : xWP G l mL_law d Z (200 + k + kB b) (7000 + n + nB b) 268 (xL0 i) [] h := by
  refine x_aload_n (i := 1) dL_law_268 rfl rfl rfl ?_
  refine w_arg (j := 1) dL_law_269 dL_law_270 dL_law_271 dL_law_272 dL_law_273 iC_1 (by omega) hL ?_
  refine w_arg (j := 2) dL_law_274 dL_law_275 dL_law_276 dL_law_277 dL_law_278 iC_2 (by omega) hL ?_
  refine w_arg (j := 3) dL_law_279 dL_law_280 dL_law_281 dL_law_282 dL_law_283 iC_3 (by omega) hL ?_
  refine x_callV (ci := 11) (b := 0) (As := [_, _, _]) (d2 := d - 1) (mc2 := 0) (ms2 := 0) (k2 := k + kB b) (n2 := n + nB b) dL_law_284 rfl kL_13 okX11_put (hR.1.o rfl) (fun q hq => by cases hq; rfl) (by omega) rfl rfl (Nat.le_of_ble_eq_true rfl) (by omega) (by omega) (p_put (by omega) hR (fun r S2 h2 e1 hR2 hF => ?_))
  have hM2 := hM.cp hR2.1 hF
  refine x_aload_n (i := 2) dL_law_287 rfl rfl rfl ?_
  refine w_arg (j := 1) dL_law_288 dL_law_289 dL_law_290 dL_law_291 dL_law_292 iC_1 (by omega) hL ?_
  refine w_arg (j := 2) dL_law_293 dL_law_294 dL_law_295 dL_law_296 dL_law_297 iC_2 (by omega) hL ?_
  refine w_arg (j := 3) dL_law_298 dL_law_299 dL_law_300 dL_law_301 dL_law_302 iC_3 (by omega) hL ?_
  refine x_callV0 (ci := 12) (b := 110) (As := [_, _, _]) (d2 := d - 1) dL_law_303 rfl kL_17 okX12_put (hR2.1.o rfl) (fun q hq => by cases hq; rfl) (by omega) rfl rfl (Nat.le_of_ble_eq_true rfl) (n_put (by omega) hM2 (fun r2 S3 h3 e2 hM3 hG => ?_))
  cases e1.symm.trans e2
  refine x_ic_eq_t (tgt := 2341) dL_law_306 rfl rfl ?_
  exact K _ _ _ (hR2.md hG) hM3 (wk_le hF hG)
theorem wc_one (hd : 100 ≤ d) (hL : G.2.2.2.2.2 9 ≤ 3072) (hi : i + 5 < G.2.2.2.2.2 9) (hR : RC b h S) (hM : RM h S) (hm : h.2 < 600000) (K : wK G l d Z k n i h) : xWP G l mL_law d Z (200 + k + kB b) (7000 + n + nB b) 311 (xL0 i) [] h := by
  refine x_aload_n (i := 1) dL_law_311 rfl rfl rfl ?_
  refine w_arg (j := 1) dL_law_312 dL_law_313 dL_law_314 dL_law_315 dL_law_316 iC_1 (by omega) hL ?_
  refine w_arg (j := 2) dL_law_317 dL_law_318 dL_law_319 dL_law_320 dL_law_321 iC_2 (by omega) hL ?_
  refine x_callV (ci := 11) (b := 0) (As := [_, _]) (d2 := d - 1) (mc2 := 0) (ms2 := 0) (k2 := k + kB b) (n2 := n + nB b) dL_law_322 rfl kL_18 okX11_one (hR.1.o rfl) (fun q hq => by cases hq; rfl) (by omega) rfl rfl (Nat.le_of_ble_eq_true rfl) (by omega) (by omega) (p_one (by omega) hR (fun r S2 h2 e1 hR2 hF => ?_))
  have hM2 := hM.cp hR2.1 hF
  refine x_aload_n (i := 2) dL_law_325 rfl rfl rfl ?_
  refine w_arg (j := 1) dL_law_326 dL_law_327 dL_law_328 dL_law_329 dL_law_330 iC_1 (by omega) hL ?_
  refine w_arg (j := 2) dL_law_331 dL_law_332 dL_law_333 dL_law_334 dL_law_335 iC_2 (by omega) hL ?_
  refine x_callV0 (ci := 12) (b := 110) (As := [_, _]) (d2 := d - 1) dL_law_336 rfl kL_22 okX12_one (hR2.1.o rfl) (fun q hq => by cases hq; rfl) (by omega) rfl rfl (Nat.le_of_ble_eq_true rfl) (n_one (by omega) hM2 (fun r2 S3 h3 e2 hM3 hG => ?_))
  cases e1.symm.trans e2
  refine x_ic_eq_t (tgt := 2341) dL_law_339 rfl rfl ?_
  exact K _ _ _ (hR2.md hG) hM3 (wk_le hF hG)
theorem wc_listed (hd : 100 ≤ d) (hL : G.2.2.2.2.2 9 ≤ 3072) (hi : i + 5 < G.2.2.2.2.2 9) (hR : RC b h S) (hM : RM h S) (hm : h.2 < 600000) (K : wK G l d Z k n i h) : xWP G l mL_law d Z (200 + k + kB b) (7000 + n + nB b) 344 (xL0 i) [] h := by
  refine x_aload_n (i := 1) dL_law_344 rfl rfl rfl ?_
  refine w_arg (j := 1) dL_law_345 dL_law_346 dL_law_347 dL_law_348 dL_law_349 iC_1 (by omega) hL ?_
  refine w_arg (j := 2) dL_law_350 dL_law_351 dL_law_352 dL_law_353 dL_law_354 iC_2 (by omega) hL ?_
  refine w_arg (j := 3) dL_law_355 dL_law_356 dL_law_357 dL_law_358 dL_law_359 iC_3 (by omega) hL ?_
  refine x_callV (ci := 11) (b := 0) (As := [_, _, _]) (d2 := d - 1) (mc2 := 1) (ms2 := 6720) (k2 := k + kB b) (n2 := n + nB b) dL_law_360 rfl kL_23 okX11_listed (hR.1.o rfl) (fun q hq => by cases hq; rfl) (by omega) rfl rfl (Nat.le_of_ble_eq_true rfl) (by omega) (by omega) (p_listed (by omega) hR (by omega) (fun r S2 h2 e1 hR2 hF => ?_))
  have hM2 := hM.cp hR2.1 hF
  refine x_aload_n (i := 2) dL_law_363 rfl rfl rfl ?_
  refine w_arg (j := 1) dL_law_364 dL_law_365 dL_law_366 dL_law_367 dL_law_368 iC_1 (by omega) hL ?_
  refine w_arg (j := 2) dL_law_369 dL_law_370 dL_law_371 dL_law_372 dL_law_373 iC_2 (by omega) hL ?_
  refine w_arg (j := 3) dL_law_374 dL_law_375 dL_law_376 dL_law_377 dL_law_378 iC_3 (by omega) hL ?_
  refine x_callV0 (ci := 12) (b := 110) (As := [_, _, _]) (d2 := d - 1) dL_law_379 rfl kL_26 okX12_listed (hR2.1.o rfl) (fun q hq => by cases hq; rfl) (by omega) rfl rfl (Nat.le_of_ble_eq_true rfl) (n_listed (by omega) hM2 (fun r2 S3 h3 e2 hM3 hG => ?_))
  cases e1.symm.trans e2
  refine x_ic_eq_t (tgt := 2341) dL_law_382 rfl rfl ?_
  exact K _ _ _ (hR2.md hG) hM3 (wk_le hF hG)
theorem wc_copy (hd : 100 ≤ d) (hL : G.2.2.2.2.2 9 ≤ 3072) (hi : i + 5 < G.2.2.2.2.2 9) (hR : RC b h S) (hM : RM h S) (hm : h.2 < 600000) (K : wK G l d Z k n i h) : xWP G l mL_law d Z (200 + k + kB b) (7000 + n + nB b) 387 (xL0 i) [] h := by
  refine x_aload_n (i := 1) dL_law_387 rfl rfl rfl ?_
  refine w_arg (j := 1) dL_law_388 dL_law_389 dL_law_390 dL_law_391 dL_law_392 iC_1 (by omega) hL ?_
  refine w_arg (j := 2) dL_law_393 dL_law_394 dL_law_395 dL_law_396 dL_law_397 iC_2 (by omega) hL ?_
  refine x_callV (ci := 11) (b := 0) (As := [_, _]) (d2 := d - 1) (mc2 := 0) (ms2 := 0) (k2 := k + kB b) (n2 := n + nB b) dL_law_398 rfl kL_27 okX11_copy (hR.1.o rfl) (fun q hq => by cases hq; rfl) (by omega) rfl rfl (Nat.le_of_ble_eq_true rfl) (by omega) (by omega) (p_copy (by omega) hR (fun r S2 h2 e1 hR2 hF => ?_))
  have hM2 := hM.cp hR2.1 hF
  refine x_aload_n (i := 2) dL_law_401 rfl rfl rfl ?_
  refine w_arg (j := 1) dL_law_402 dL_law_403 dL_law_404 dL_law_405 dL_law_406 iC_1 (by omega) hL ?_
  refine w_arg (j := 2) dL_law_407 dL_law_408 dL_law_409 dL_law_410 dL_law_411 iC_2 (by omega) hL ?_
  refine x_callV0 (ci := 12) (b := 110) (As := [_, _]) (d2 := d - 1) dL_law_412 rfl kL_30 okX12_copy (hR2.1.o rfl) (fun q hq => by cases hq; rfl) (by omega) rfl rfl (Nat.le_of_ble_eq_true rfl) (n_copy (by omega) hM2 (fun r2 S3 h3 e2 hM3 hG => ?_))
  cases e1.symm.trans e2
  refine x_ic_eq_t (tgt := 2341) dL_law_415 rfl rfl ?_
  exact K _ _ _ (hR2.md hG) hM3 (wk_le hF hG)
theorem wc_order (hd : 100 ≤ d) (hL : G.2.2.2.2.2 9 ≤ 3072) (hi : i + 5 < G.2.2.2.2.2 9) (hR : RC b h S) (hM : RM h S) (hm : h.2 < 600000) (K : wK G l d Z k n i h) : xWP G l mL_law d Z (200 + k + kB b) (7000 + n + nB b) 420 (xL0 i) [] h := by
  refine x_aload_n (i := 1) dL_law_420 rfl rfl rfl ?_
  refine w_arg (j := 1) dL_law_421 dL_law_422 dL_law_423 dL_law_424 dL_law_425 iC_1 (by omega) hL ?_
  refine x_callV (ci := 11) (b := 0) (As := [_]) (d2 := d - 1) (mc2 := 0) (ms2 := 0) (k2 := k + kB b) (n2 := n + nB b) dL_law_426 rfl kL_31 okX11_order (hR.1.o rfl) (fun q hq => by cases hq; rfl) (by omega) rfl rfl (Nat.le_of_ble_eq_true rfl) (by omega) (by omega) (p_order (by omega) hR (fun r S2 h2 e1 hR2 hF => ?_))
  have hM2 := hM.cp hR2.1 hF
  refine x_aload_n (i := 2) dL_law_429 rfl rfl rfl ?_
  refine w_arg (j := 1) dL_law_430 dL_law_431 dL_law_432 dL_law_433 dL_law_434 iC_1 (by omega) hL ?_
  refine x_callV0 (ci := 12) (b := 110) (As := [_]) (d2 := d - 1) dL_law_435 rfl kL_35 okX12_order (hR2.1.o rfl) (fun q hq => by cases hq; rfl) (by omega) rfl rfl (Nat.le_of_ble_eq_true rfl) (n_order (by omega) hM2 (fun r2 S3 h3 e2 hM3 hG => ?_))
  cases e1.symm.trans e2
  refine x_ic_eq_t (tgt := 2341) dL_law_438 rfl rfl ?_
  exact K _ _ _ (hR2.md hG) hM3 (wk_le hF hG)
theorem wc_sum (hd : 100 ≤ d) (hL : G.2.2.2.2.2 9 ≤ 3072) (hi : i + 5 < G.2.2.2.2.2 9) (hR : RC b h S) (hM : RM h S) (hm : h.2 < 600000) (K : wK G l d Z k n i h) : xWP G l mL_law d Z (200 + k + kB b) (7000 + n + nB b) 443 (xL0 i) [] h := by
  refine x_aload_n (i := 1) dL_law_443 rfl rfl rfl ?_
  refine w_arg (j := 1) dL_law_444 dL_law_445 dL_law_446 dL_law_447 dL_law_448 iC_1 (by omega) hL ?_
  refine w_arg (j := 2) dL_law_449 dL_law_450 dL_law_451 dL_law_452 dL_law_453 iC_2 (by omega) hL ?_
  refine w_arg (j := 3) dL_law_454 dL_law_455 dL_law_456 dL_law_457 dL_law_458 iC_3 (by omega) hL ?_
  refine x_callV (ci := 11) (b := 0) (As := [_, _, _]) (d2 := d - 1) (mc2 := 0) (ms2 := 0) (k2 := k + kB b) (n2 := n + nB b) dL_law_459 rfl kL_36 okX11_sum (hR.1.o rfl) (fun q hq => by cases hq; rfl) (by omega) rfl rfl (Nat.le_of_ble_eq_true rfl) (by omega) (by omega) (p_sum (by omega) hR (fun r S2 h2 e1 hR2 hF => ?_))
  have hM2 := hM.cp hR2.1 hF
  refine x_aload_n (i := 2) dL_law_462 rfl rfl rfl ?_
  refine w_arg (j := 1) dL_law_463 dL_law_464 dL_law_465 dL_law_466 dL_law_467 iC_1 (by omega) hL ?_
  refine w_arg (j := 2) dL_law_468 dL_law_469 dL_law_470 dL_law_471 dL_law_472 iC_2 (by omega) hL ?_
  refine w_arg (j := 3) dL_law_473 dL_law_474 dL_law_475 dL_law_476 dL_law_477 iC_3 (by omega) hL ?_
  refine x_callV0 (ci := 12) (b := 110) (As := [_, _, _]) (d2 := d - 1) dL_law_478 rfl kL_40 okX12_sum (hR2.1.o rfl) (fun q hq => by cases hq; rfl) (by omega) rfl rfl (Nat.le_of_ble_eq_true rfl) (n_sum (by omega) hM2 (fun r2 S3 h3 e2 hM3 hG => ?_))
  cases e1.symm.trans e2
  refine x_ic_eq_t (tgt := 2341) dL_law_481 rfl rfl ?_
  exact K _ _ _ (hR2.md hG) hM3 (wk_le hF hG)
theorem wc_less (hd : 100 ≤ d) (hL : G.2.2.2.2.2 9 ≤ 3072) (hi : i + 5 < G.2.2.2.2.2 9) (hR : RC b h S) (hM : RM h S) (hm : h.2 < 600000) (K : wK G l d Z k n i h) : xWP G l mL_law d Z (200 + k + kB b) (7000 + n + nB b) 486 (xL0 i) [] h := by
  refine x_aload_n (i := 1) dL_law_486 rfl rfl rfl ?_
  refine w_arg (j := 1) dL_law_487 dL_law_488 dL_law_489 dL_law_490 dL_law_491 iC_1 (by omega) hL ?_
  refine w_arg (j := 2) dL_law_492 dL_law_493 dL_law_494 dL_law_495 dL_law_496 iC_2 (by omega) hL ?_
  refine w_arg (j := 3) dL_law_497 dL_law_498 dL_law_499 dL_law_500 dL_law_501 iC_3 (by omega) hL ?_
  refine x_callV (ci := 11) (b := 0) (As := [_, _, _]) (d2 := d - 1) (mc2 := 0) (ms2 := 0) (k2 := k + kB b) (n2 := n + nB b) dL_law_502 rfl kL_41 okX11_less (hR.1.o rfl) (fun q hq => by cases hq; rfl) (by omega) rfl rfl (Nat.le_of_ble_eq_true rfl) (by omega) (by omega) (p_less (by omega) hR (fun r S2 h2 e1 hR2 hF => ?_))
  have hM2 := hM.cp hR2.1 hF
  refine x_aload_n (i := 2) dL_law_505 rfl rfl rfl ?_
  refine w_arg (j := 1) dL_law_506 dL_law_507 dL_law_508 dL_law_509 dL_law_510 iC_1 (by omega) hL ?_
  refine w_arg (j := 2) dL_law_511 dL_law_512 dL_law_513 dL_law_514 dL_law_515 iC_2 (by omega) hL ?_
  refine w_arg (j := 3) dL_law_516 dL_law_517 dL_law_518 dL_law_519 dL_law_520 iC_3 (by omega) hL ?_
  refine x_callV0 (ci := 12) (b := 110) (As := [_, _, _]) (d2 := d - 1) dL_law_521 rfl kL_44 okX12_less (hR2.1.o rfl) (fun q hq => by cases hq; rfl) (by omega) rfl rfl (Nat.le_of_ble_eq_true rfl) (n_less (by omega) hM2 (fun r2 S3 h3 e2 hM3 hG => ?_))
  cases e1.symm.trans e2
  refine x_ic_eq_t (tgt := 2341) dL_law_524 rfl rfl ?_
  exact K _ _ _ (hR2.md hG) hM3 (wk_le hF hG)
theorem wc_product (hd : 100 ≤ d) (hL : G.2.2.2.2.2 9 ≤ 3072) (hi : i + 5 < G.2.2.2.2.2 9) (hR : RC b h S) (hM : RM h S) (hm : h.2 < 600000) (K : wK G l d Z k n i h) : xWP G l mL_law d Z (200 + k + kB b) (7000 + n + nB b) 529 (xL0 i) [] h := by
  refine x_aload_n (i := 1) dL_law_529 rfl rfl rfl ?_
  refine w_arg (j := 1) dL_law_530 dL_law_531 dL_law_532 dL_law_533 dL_law_534 iC_1 (by omega) hL ?_
  refine w_arg (j := 2) dL_law_535 dL_law_536 dL_law_537 dL_law_538 dL_law_539 iC_2 (by omega) hL ?_
  refine w_arg (j := 3) dL_law_540 dL_law_541 dL_law_542 dL_law_543 dL_law_544 iC_3 (by omega) hL ?_
  refine x_callV (ci := 11) (b := 0) (As := [_, _, _]) (d2 := d - 1) (mc2 := 0) (ms2 := 0) (k2 := k + kB b) (n2 := n + nB b) dL_law_545 rfl kL_45 okX11_product (hR.1.o rfl) (fun q hq => by cases hq; rfl) (by omega) rfl rfl (Nat.le_of_ble_eq_true rfl) (by omega) (by omega) (p_product (by omega) hR (fun r S2 h2 e1 hR2 hF => ?_))
  have hM2 := hM.cp hR2.1 hF
  refine x_aload_n (i := 2) dL_law_548 rfl rfl rfl ?_
  refine w_arg (j := 1) dL_law_549 dL_law_550 dL_law_551 dL_law_552 dL_law_553 iC_1 (by omega) hL ?_
  refine w_arg (j := 2) dL_law_554 dL_law_555 dL_law_556 dL_law_557 dL_law_558 iC_2 (by omega) hL ?_
  refine w_arg (j := 3) dL_law_559 dL_law_560 dL_law_561 dL_law_562 dL_law_563 iC_3 (by omega) hL ?_
  refine x_callV0 (ci := 12) (b := 110) (As := [_, _, _]) (d2 := d - 1) dL_law_564 rfl kL_48 okX12_product (hR2.1.o rfl) (fun q hq => by cases hq; rfl) (by omega) rfl rfl (Nat.le_of_ble_eq_true rfl) (n_product (by omega) hM2 (fun r2 S3 h3 e2 hM3 hG => ?_))
  cases e1.symm.trans e2
  refine x_ic_eq_t (tgt := 2341) dL_law_567 rfl rfl ?_
  exact K _ _ _ (hR2.md hG) hM3 (wk_le hF hG)
theorem wc_mirror (hd : 100 ≤ d) (hL : G.2.2.2.2.2 9 ≤ 3072) (hi : i + 5 < G.2.2.2.2.2 9) (hR : RC b h S) (hM : RM h S) (hm : h.2 < 600000) (K : wK G l d Z k n i h) : xWP G l mL_law d Z (200 + k + kB b) (7000 + n + nB b) 572 (xL0 i) [] h := by
  refine x_aload_n (i := 1) dL_law_572 rfl rfl rfl ?_
  refine w_arg (j := 1) dL_law_573 dL_law_574 dL_law_575 dL_law_576 dL_law_577 iC_1 (by omega) hL ?_
  refine w_arg (j := 2) dL_law_578 dL_law_579 dL_law_580 dL_law_581 dL_law_582 iC_2 (by omega) hL ?_
  refine x_callV (ci := 11) (b := 0) (As := [_, _]) (d2 := d - 1) (mc2 := 0) (ms2 := 0) (k2 := k + kB b) (n2 := n + nB b) dL_law_583 rfl kL_49 okX11_mirror (hR.1.o rfl) (fun q hq => by cases hq; rfl) (by omega) rfl rfl (Nat.le_of_ble_eq_true rfl) (by omega) (by omega) (p_mirror (by omega) hR (fun r S2 h2 e1 hR2 hF => ?_))
  have hM2 := hM.cp hR2.1 hF
  refine x_aload_n (i := 2) dL_law_586 rfl rfl rfl ?_
  refine w_arg (j := 1) dL_law_587 dL_law_588 dL_law_589 dL_law_590 dL_law_591 iC_1 (by omega) hL ?_
  refine w_arg (j := 2) dL_law_592 dL_law_593 dL_law_594 dL_law_595 dL_law_596 iC_2 (by omega) hL ?_
  refine x_callV0 (ci := 12) (b := 110) (As := [_, _]) (d2 := d - 1) dL_law_597 rfl kL_53 okX12_mirror (hR2.1.o rfl) (fun q hq => by cases hq; rfl) (by omega) rfl rfl (Nat.le_of_ble_eq_true rfl) (n_mirror (by omega) hM2 (fun r2 S3 h3 e2 hM3 hG => ?_))
  cases e1.symm.trans e2
  refine x_ic_eq_t (tgt := 2341) dL_law_600 rfl rfl ?_
  exact K _ _ _ (hR2.md hG) hM3 (wk_le hF hG)
theorem wc_times (hd : 100 ≤ d) (hL : G.2.2.2.2.2 9 ≤ 3072) (hi : i + 5 < G.2.2.2.2.2 9) (hR : RC b h S) (hM : RM h S) (hm : h.2 < 600000) (K : wK G l d Z k n i h) : xWP G l mL_law d Z (200 + k + kB b) (7000 + n + nB b) 605 (xL0 i) [] h := by
  refine x_aload_n (i := 1) dL_law_605 rfl rfl rfl ?_
  refine w_arg (j := 1) dL_law_606 dL_law_607 dL_law_608 dL_law_609 dL_law_610 iC_1 (by omega) hL ?_
  refine w_arg (j := 2) dL_law_611 dL_law_612 dL_law_613 dL_law_614 dL_law_615 iC_2 (by omega) hL ?_
  refine w_arg (j := 3) dL_law_616 dL_law_617 dL_law_618 dL_law_619 dL_law_620 iC_3 (by omega) hL ?_
  refine x_callV (ci := 11) (b := 0) (As := [_, _, _]) (d2 := d - 1) (mc2 := 0) (ms2 := 0) (k2 := k + kB b) (n2 := n + nB b) dL_law_621 rfl kL_54 okX11_times (hR.1.o rfl) (fun q hq => by cases hq; rfl) (by omega) rfl rfl (Nat.le_of_ble_eq_true rfl) (by omega) (by omega) (p_times (by omega) hR (fun r S2 h2 e1 hR2 hF => ?_))
  have hM2 := hM.cp hR2.1 hF
  refine x_aload_n (i := 2) dL_law_624 rfl rfl rfl ?_
  refine w_arg (j := 1) dL_law_625 dL_law_626 dL_law_627 dL_law_628 dL_law_629 iC_1 (by omega) hL ?_
  refine w_arg (j := 2) dL_law_630 dL_law_631 dL_law_632 dL_law_633 dL_law_634 iC_2 (by omega) hL ?_
  refine w_arg (j := 3) dL_law_635 dL_law_636 dL_law_637 dL_law_638 dL_law_639 iC_3 (by omega) hL ?_
  refine x_callV0 (ci := 12) (b := 110) (As := [_, _, _]) (d2 := d - 1) dL_law_640 rfl kL_57 okX12_times (hR2.1.o rfl) (fun q hq => by cases hq; rfl) (by omega) rfl rfl (Nat.le_of_ble_eq_true rfl) (n_times (by omega) hM2 (fun r2 S3 h3 e2 hM3 hG => ?_))
  cases e1.symm.trans e2
  refine x_ic_eq_t (tgt := 2341) dL_law_643 rfl rfl ?_
  exact K _ _ _ (hR2.md hG) hM3 (wk_le hF hG)
theorem wc_turn (hd : 100 ≤ d) (hL : G.2.2.2.2.2 9 ≤ 3072) (hi : i + 5 < G.2.2.2.2.2 9) (hR : RC b h S) (hM : RM h S) (hm : h.2 < 600000) (K : wK G l d Z k n i h) : xWP G l mL_law d Z (200 + k + kB b) (7000 + n + nB b) 648 (xL0 i) [] h := by
  refine x_aload_n (i := 1) dL_law_648 rfl rfl rfl ?_
  refine w_arg (j := 1) dL_law_649 dL_law_650 dL_law_651 dL_law_652 dL_law_653 iC_1 (by omega) hL ?_
  refine w_arg (j := 2) dL_law_654 dL_law_655 dL_law_656 dL_law_657 dL_law_658 iC_2 (by omega) hL ?_
  refine w_arg (j := 3) dL_law_659 dL_law_660 dL_law_661 dL_law_662 dL_law_663 iC_3 (by omega) hL ?_
  refine w_arg (j := 4) dL_law_664 dL_law_665 dL_law_666 dL_law_667 dL_law_668 iC_4 (by omega) hL ?_
  refine x_callV (ci := 11) (b := 0) (As := [_, _, _, _]) (d2 := d - 1) (mc2 := 0) (ms2 := 0) (k2 := k + kB b) (n2 := n + nB b) dL_law_669 rfl kL_58 okX11_turn (hR.1.o rfl) (fun q hq => by cases hq; rfl) (by omega) rfl rfl (Nat.le_of_ble_eq_true rfl) (by omega) (by omega) (p_turn (by omega) hR (fun r S2 h2 e1 hR2 hF => ?_))
  have hM2 := hM.cp hR2.1 hF
  refine x_aload_n (i := 2) dL_law_672 rfl rfl rfl ?_
  refine w_arg (j := 1) dL_law_673 dL_law_674 dL_law_675 dL_law_676 dL_law_677 iC_1 (by omega) hL ?_
  refine w_arg (j := 2) dL_law_678 dL_law_679 dL_law_680 dL_law_681 dL_law_682 iC_2 (by omega) hL ?_
  refine w_arg (j := 3) dL_law_683 dL_law_684 dL_law_685 dL_law_686 dL_law_687 iC_3 (by omega) hL ?_
  refine w_arg (j := 4) dL_law_688 dL_law_689 dL_law_690 dL_law_691 dL_law_692 iC_4 (by omega) hL ?_
  refine x_callV0 (ci := 12) (b := 110) (As := [_, _, _, _]) (d2 := d - 1) dL_law_693 rfl kL_62 okX12_turn (hR2.1.o rfl) (fun q hq => by cases hq; rfl) (by omega) rfl rfl (Nat.le_of_ble_eq_true rfl) (n_turn (by omega) hM2 (fun r2 S3 h3 e2 hM3 hG => ?_))
  cases e1.symm.trans e2
  refine x_ic_eq_t (tgt := 2341) dL_law_696 rfl rfl ?_
  exact K _ _ _ (hR2.md hG) hM3 (wk_le hF hG)
theorem wc_chain (hd : 100 ≤ d) (hL : G.2.2.2.2.2 9 ≤ 3072) (hi : i + 5 < G.2.2.2.2.2 9) (hR : RC b h S) (hM : RM h S) (hm : h.2 < 600000) (K : wK G l d Z k n i h) : xWP G l mL_law d Z (200 + k + kB b) (7000 + n + nB b) 701 (xL0 i) [] h := by
  refine x_aload_n (i := 1) dL_law_701 rfl rfl rfl ?_
  refine w_arg (j := 1) dL_law_702 dL_law_703 dL_law_704 dL_law_705 dL_law_706 iC_1 (by omega) hL ?_
  refine w_arg (j := 2) dL_law_707 dL_law_708 dL_law_709 dL_law_710 dL_law_711 iC_2 (by omega) hL ?_
  refine w_arg (j := 3) dL_law_712 dL_law_713 dL_law_714 dL_law_715 dL_law_716 iC_3 (by omega) hL ?_
  refine w_arg (j := 4) dL_law_717 dL_law_718 dL_law_719 dL_law_720 dL_law_721 iC_4 (by omega) hL ?_
  refine w_arg (j := 5) dL_law_722 dL_law_723 dL_law_724 dL_law_725 dL_law_726 iC_5 (by omega) hL ?_
  refine x_callV (ci := 11) (b := 0) (As := [_, _, _, _, _]) (d2 := d - 1) (mc2 := 0) (ms2 := 0) (k2 := k + kB b) (n2 := n + nB b) dL_law_727 rfl kL_63 okX11_chain (hR.1.o rfl) (fun q hq => by cases hq; rfl) (by omega) rfl rfl (Nat.le_of_ble_eq_true rfl) (by omega) (by omega) (p_chain (by omega) hR (fun r S2 h2 e1 hR2 hF => ?_))
  have hM2 := hM.cp hR2.1 hF
  refine x_aload_n (i := 2) dL_law_730 rfl rfl rfl ?_
  refine w_arg (j := 1) dL_law_731 dL_law_732 dL_law_733 dL_law_734 dL_law_735 iC_1 (by omega) hL ?_
  refine w_arg (j := 2) dL_law_736 dL_law_737 dL_law_738 dL_law_739 dL_law_740 iC_2 (by omega) hL ?_
  refine w_arg (j := 3) dL_law_741 dL_law_742 dL_law_743 dL_law_744 dL_law_745 iC_3 (by omega) hL ?_
  refine w_arg (j := 4) dL_law_746 dL_law_747 dL_law_748 dL_law_749 dL_law_750 iC_4 (by omega) hL ?_
  refine w_arg (j := 5) dL_law_751 dL_law_752 dL_law_753 dL_law_754 dL_law_755 iC_5 (by omega) hL ?_
  refine x_callV0 (ci := 12) (b := 110) (As := [_, _, _, _, _]) (d2 := d - 1) dL_law_756 rfl kL_67 okX12_chain (hR2.1.o rfl) (fun q hq => by cases hq; rfl) (by omega) rfl rfl (Nat.le_of_ble_eq_true rfl) (n_chain (by omega) hM2 (fun r2 S3 h3 e2 hM3 hG => ?_))
  cases e1.symm.trans e2
  refine x_ic_eq_t (tgt := 2341) dL_law_759 rfl rfl ?_
  exact K _ _ _ (hR2.md hG) hM3 (wk_le hF hG)
theorem wc_last (hd : 100 ≤ d) (hL : G.2.2.2.2.2 9 ≤ 3072) (hi : i + 5 < G.2.2.2.2.2 9) (hR : RC b h S) (hM : RM h S) (hm : h.2 < 600000) (K : wK G l d Z k n i h) : xWP G l mL_law d Z (200 + k + kB b) (7000 + n + nB b) 764 (xL0 i) [] h := by
  refine x_aload_n (i := 1) dL_law_764 rfl rfl rfl ?_
  refine w_arg (j := 1) dL_law_765 dL_law_766 dL_law_767 dL_law_768 dL_law_769 iC_1 (by omega) hL ?_
  refine w_arg (j := 2) dL_law_770 dL_law_771 dL_law_772 dL_law_773 dL_law_774 iC_2 (by omega) hL ?_
  refine w_arg (j := 3) dL_law_775 dL_law_776 dL_law_777 dL_law_778 dL_law_779 iC_3 (by omega) hL ?_
  refine x_callV (ci := 11) (b := 0) (As := [_, _, _]) (d2 := d - 1) (mc2 := 0) (ms2 := 0) (k2 := k + kB b) (n2 := n + nB b) dL_law_780 rfl kL_68 okX11_last (hR.1.o rfl) (fun q hq => by cases hq; rfl) (by omega) rfl rfl (Nat.le_of_ble_eq_true rfl) (by omega) (by omega) (p_last (by omega) hR (fun r S2 h2 e1 hR2 hF => ?_))
  have hM2 := hM.cp hR2.1 hF
  refine x_aload_n (i := 2) dL_law_783 rfl rfl rfl ?_
  refine w_arg (j := 1) dL_law_784 dL_law_785 dL_law_786 dL_law_787 dL_law_788 iC_1 (by omega) hL ?_
  refine w_arg (j := 2) dL_law_789 dL_law_790 dL_law_791 dL_law_792 dL_law_793 iC_2 (by omega) hL ?_
  refine w_arg (j := 3) dL_law_794 dL_law_795 dL_law_796 dL_law_797 dL_law_798 iC_3 (by omega) hL ?_
  refine x_callV0 (ci := 12) (b := 110) (As := [_, _, _]) (d2 := d - 1) dL_law_799 rfl kL_71 okX12_last (hR2.1.o rfl) (fun q hq => by cases hq; rfl) (by omega) rfl rfl (Nat.le_of_ble_eq_true rfl) (n_last (by omega) hM2 (fun r2 S3 h3 e2 hM3 hG => ?_))
  cases e1.symm.trans e2
  refine x_ic_eq_t (tgt := 2341) dL_law_802 rfl rfl ?_
  exact K _ _ _ (hR2.md hG) hM3 (wk_le hF hG)
theorem wc_power (hd : 100 ≤ d) (hL : G.2.2.2.2.2 9 ≤ 3072) (hi : i + 5 < G.2.2.2.2.2 9) (hR : RC b h S) (hM : RM h S) (hm : h.2 < 600000) (K : wK G l d Z k n i h) : xWP G l mL_law d Z (200 + k + kB b) (7000 + n + nB b) 807 (xL0 i) [] h := by
  refine x_aload_n (i := 1) dL_law_807 rfl rfl rfl ?_
  refine w_arg (j := 1) dL_law_808 dL_law_809 dL_law_810 dL_law_811 dL_law_812 iC_1 (by omega) hL ?_
  refine w_arg (j := 2) dL_law_813 dL_law_814 dL_law_815 dL_law_816 dL_law_817 iC_2 (by omega) hL ?_
  refine w_arg (j := 3) dL_law_818 dL_law_819 dL_law_820 dL_law_821 dL_law_822 iC_3 (by omega) hL ?_
  refine x_callV (ci := 11) (b := 0) (As := [_, _, _]) (d2 := d - 1) (mc2 := 0) (ms2 := 0) (k2 := k + kB b) (n2 := n + nB b) dL_law_823 rfl kL_72 okX11_power (hR.1.o rfl) (fun q hq => by cases hq; rfl) (by omega) rfl rfl (Nat.le_of_ble_eq_true rfl) (by omega) (by omega) (p_power (by omega) hR (fun r S2 h2 e1 hR2 hF => ?_))
  have hM2 := hM.cp hR2.1 hF
  refine x_aload_n (i := 2) dL_law_826 rfl rfl rfl ?_
  refine w_arg (j := 1) dL_law_827 dL_law_828 dL_law_829 dL_law_830 dL_law_831 iC_1 (by omega) hL ?_
  refine w_arg (j := 2) dL_law_832 dL_law_833 dL_law_834 dL_law_835 dL_law_836 iC_2 (by omega) hL ?_
  refine w_arg (j := 3) dL_law_837 dL_law_838 dL_law_839 dL_law_840 dL_law_841 iC_3 (by omega) hL ?_
  refine x_callV0 (ci := 12) (b := 110) (As := [_, _, _]) (d2 := d - 1) dL_law_842 rfl kL_75 okX12_power (hR2.1.o rfl) (fun q hq => by cases hq; rfl) (by omega) rfl rfl (Nat.le_of_ble_eq_true rfl) (n_power (by omega) hM2 (fun r2 S3 h3 e2 hM3 hG => ?_))
  cases e1.symm.trans e2
  refine x_ic_eq_t (tgt := 2341) dL_law_845 rfl rfl ?_
  exact K _ _ _ (hR2.md hG) hM3 (wk_le hF hG)
end XC1

