/-! the law: its cases -/
section
variable {z : ZL} {i : Nat} {S : SS} {Mx Mm : Mem} {cells slots : Nat}
theorem lc_count (hi : i + 7 ≤ nz z) (hX : RX Mx S) (hM : RM Mm S) (hJ : JNV S) (hc : cells ≤ 600000 ∧ slots ≤ 7302250) (kk : ∀ M2 M3 S2, RX M2 S2 → RM M3 S2 → JNV S2 → WL z 1518 [some (rv 2), some (rv 0), some (rv 1), some (iv i)] [] (IW z M2 M3) cells slots) : WL z 200 [some (rv 2), some (rv 0), some (rv 1), some (iv i)] [] (IW z Mx Mm) cells slots := by
  obtain ⟨nT, X, τ, img, τi, tn, tp, ss, sz, cl⟩ := S
  refine l_aload_1 dL_law_200 ?_
  refine l_arg (j := 1) dL_law_201 dL_law_202 dL_law_203 dL_law_204 dL_law_205 (by omega) ?_
  refine lxI (as := [wz z (i + 1)]) (S := []) dL_law_206 vL_13 (x5_count hX hJ.1 wz_ib) rfl (by decide) (by decide) hc (fun a M2 h => ?_)
  obtain ⟨rfl, hX2⟩ := h
  refine l_aload_2 dL_law_209 ?_
  refine l_arg (j := 1) dL_law_210 dL_law_211 dL_law_212 dL_law_213 dL_law_214 (by omega) ?_
  refine lmI (as := [wz z (i + 1)]) (S := [iv _]) dL_law_215 vL_17 (m6_count hM hJ wz_ib) rfl (by decide) (Nat.le_of_ble_eq_true rfl) hc (fun a M3 h => ?_)
  obtain ⟨rfl, hM2⟩ := h
  refine l_eq dL_law_218 ?_
  exact kk _ _ _ hX2 hM2 hJ
theorem lc_town (hi : i + 7 ≤ nz z) (hX : RX Mx S) (hM : RM Mm S) (hJ : JNV S) (hc : cells ≤ 600000 ∧ slots ≤ 7302250) (kk : ∀ M2 M3 S2, RX M2 S2 → RM M3 S2 → JNV S2 → WL z 1518 [some (rv 2), some (rv 0), some (rv 1), some (iv i)] [] (IW z M2 M3) cells slots) : WL z 223 [some (rv 2), some (rv 0), some (rv 1), some (iv i)] [] (IW z Mx Mm) cells slots := by
  obtain ⟨nT, X, τ, img, τi, tn, tp, ss, sz, cl⟩ := S
  refine l_aload_1 dL_law_223 ?_
  refine l_arg (j := 1) dL_law_224 dL_law_225 dL_law_226 dL_law_227 dL_law_228 (by omega) ?_
  refine l_arg (j := 2) dL_law_229 dL_law_230 dL_law_231 dL_law_232 dL_law_233 (by omega) ?_
  refine l_arg (j := 3) dL_law_234 dL_law_235 dL_law_236 dL_law_237 dL_law_238 (by omega) ?_
  refine lxI (as := [wz z (i + 1), wz z (i + 2), wz z (i + 3)]) (S := []) dL_law_239 vL_18 (x5_town hX hJ.1 wz_ib wz_ib wz_ib) rfl (by decide) (by decide) hc (fun a M2 h => ?_)
  obtain ⟨rfl, hX2⟩ := h
  refine l_aload_2 dL_law_242 ?_
  refine l_arg (j := 1) dL_law_243 dL_law_244 dL_law_245 dL_law_246 dL_law_247 (by omega) ?_
  refine l_arg (j := 2) dL_law_248 dL_law_249 dL_law_250 dL_law_251 dL_law_252 (by omega) ?_
  refine l_arg (j := 3) dL_law_253 dL_law_254 dL_law_255 dL_law_256 dL_law_257 (by omega) ?_
  refine lmI (as := [wz z (i + 1), wz z (i + 2), wz z (i + 3)]) (S := [iv _]) dL_law_258 vL_22 (m6_town hM hJ wz_ib wz_ib wz_ib) rfl (by decide) (Nat.le_of_ble_eq_true rfl) hc (fun a M3 h => ?_)
  obtain ⟨rfl, hM2⟩ := h
  refine l_eq dL_law_261 ?_
  exact kk _ _ _ hX2 hM2 (t_town_j hJ)
theorem lc_door (hi : i + 7 ≤ nz z) (hX : RX Mx S) (hM : RM Mm S) (hJ : JNV S) (hc : cells ≤ 600000 ∧ slots ≤ 7302250) (kk : ∀ M2 M3 S2, RX M2 S2 → RM M3 S2 → JNV S2 → WL z 1518 [some (rv 2), some (rv 0), some (rv 1), some (iv i)] [] (IW z M2 M3) cells slots) : WL z 266 [some (rv 2), some (rv 0), some (rv 1), some (iv i)] [] (IW z Mx Mm) cells slots := by
  obtain ⟨nT, X, τ, img, τi, tn, tp, ss, sz, cl⟩ := S
  refine l_aload_1 dL_law_266 ?_
  refine l_arg (j := 1) dL_law_267 dL_law_268 dL_law_269 dL_law_270 dL_law_271 (by omega) ?_
  refine l_arg (j := 2) dL_law_272 dL_law_273 dL_law_274 dL_law_275 dL_law_276 (by omega) ?_
  refine lxI (as := [wz z (i + 1), wz z (i + 2)]) (S := []) dL_law_277 vL_23 (x5_door hX hJ.1 wz_ib wz_ib) rfl (by decide) (by decide) hc (fun a M2 h => ?_)
  obtain ⟨rfl, hX2⟩ := h
  refine l_aload_2 dL_law_280 ?_
  refine l_arg (j := 1) dL_law_281 dL_law_282 dL_law_283 dL_law_284 dL_law_285 (by omega) ?_
  refine l_arg (j := 2) dL_law_286 dL_law_287 dL_law_288 dL_law_289 dL_law_290 (by omega) ?_
  refine lmI (as := [wz z (i + 1), wz z (i + 2)]) (S := [iv _]) dL_law_291 vL_27 (m6_door hM hJ wz_ib wz_ib) rfl (by decide) (Nat.le_of_ble_eq_true rfl) hc (fun a M3 h => ?_)
  obtain ⟨rfl, hM2⟩ := h
  refine l_eq dL_law_294 ?_
  exact kk _ _ _ hX2 hM2 hJ
theorem lc_feed (hi : i + 7 ≤ nz z) (hX : RX Mx S) (hM : RM Mm S) (hJ : JNV S) (hc : cells ≤ 600000 ∧ slots ≤ 7302250) (kk : ∀ M2 M3 S2, RX M2 S2 → RM M3 S2 → JNV S2 → WL z 1518 [some (rv 2), some (rv 0), some (rv 1), some (iv i)] [] (IW z M2 M3) cells slots) : WL z 299 [some (rv 2), some (rv 0), some (rv 1), some (iv i)] [] (IW z Mx Mm) cells slots := by
  obtain ⟨nT, X, τ, img, τi, tn, tp, ss, sz, cl⟩ := S
  refine l_aload_1 dL_law_299 ?_
  refine l_arg (j := 1) dL_law_300 dL_law_301 dL_law_302 dL_law_303 dL_law_304 (by omega) ?_
  refine l_arg (j := 2) dL_law_305 dL_law_306 dL_law_307 dL_law_308 dL_law_309 (by omega) ?_
  refine l_arg (j := 3) dL_law_310 dL_law_311 dL_law_312 dL_law_313 dL_law_314 (by omega) ?_
  refine l_arg (j := 4) dL_law_315 dL_law_316 dL_law_317 dL_law_318 dL_law_319 (by omega) ?_
  refine l_arg (j := 5) dL_law_320 dL_law_321 dL_law_322 dL_law_323 dL_law_324 (by omega) ?_
  refine l_argb (j := 6) dL_law_325 dL_law_326 dL_law_327 dL_law_329 dL_law_330 (by decide) (by omega) ?_
  refine lxI (as := [wz z (i + 1), wz z (i + 2), wz z (i + 3), wz z (i + 4), wz z (i + 5), wz z (i + 6)]) (S := []) dL_law_331 vL_28 (x5_feed hX hJ.1 wz_ib wz_ib wz_ib wz_ib wz_ib wz_ib) rfl (by decide) (by decide) hc (fun a M2 h => ?_)
  obtain ⟨rfl, hX2⟩ := h
  refine l_aload_2 dL_law_334 ?_
  refine l_arg (j := 1) dL_law_335 dL_law_336 dL_law_337 dL_law_338 dL_law_339 (by omega) ?_
  refine l_arg (j := 2) dL_law_340 dL_law_341 dL_law_342 dL_law_343 dL_law_344 (by omega) ?_
  refine l_arg (j := 3) dL_law_345 dL_law_346 dL_law_347 dL_law_348 dL_law_349 (by omega) ?_
  refine l_arg (j := 4) dL_law_350 dL_law_351 dL_law_352 dL_law_353 dL_law_354 (by omega) ?_
  refine l_arg (j := 5) dL_law_355 dL_law_356 dL_law_357 dL_law_358 dL_law_359 (by omega) ?_
  refine l_argb (j := 6) dL_law_360 dL_law_361 dL_law_362 dL_law_364 dL_law_365 (by decide) (by omega) ?_
  refine lmI (as := [wz z (i + 1), wz z (i + 2), wz z (i + 3), wz z (i + 4), wz z (i + 5), wz z (i + 6)]) (S := [iv _]) dL_law_366 vL_32 (m6_feed hM hJ wz_ib wz_ib wz_ib wz_ib wz_ib wz_ib) rfl (by decide) (Nat.le_of_ble_eq_true rfl) hc (fun a M3 h => ?_)
  obtain ⟨rfl, hM2⟩ := h
  refine l_eq dL_law_369 ?_
  exact kk _ _ _ hX2 hM2 (t_feed_j hJ)
theorem lc_text (hi : i + 7 ≤ nz z) (hX : RX Mx S) (hM : RM Mm S) (hJ : JNV S) (hc : cells ≤ 600000 ∧ slots ≤ 7302250) (kk : ∀ M2 M3 S2, RX M2 S2 → RM M3 S2 → JNV S2 → WL z 1518 [some (rv 2), some (rv 0), some (rv 1), some (iv i)] [] (IW z M2 M3) cells slots) : WL z 374 [some (rv 2), some (rv 0), some (rv 1), some (iv i)] [] (IW z Mx Mm) cells slots := by
  obtain ⟨nT, X, τ, img, τi, tn, tp, ss, sz, cl⟩ := S
  refine l_aload_1 dL_law_374 ?_
  refine lxI (as := []) (S := []) dL_law_375 vL_33 (x5_text hX hJ.1) rfl (by decide) (by decide) hc (fun a M2 h => ?_)
  obtain ⟨rfl, hX2⟩ := h
  refine l_aload_2 dL_law_378 ?_
  refine lmI (as := []) (S := [iv _]) dL_law_379 vL_37 (m6_text hM hJ) rfl (by decide) (Nat.le_of_ble_eq_true rfl) hc (fun a M3 h => ?_)
  obtain ⟨rfl, hM2⟩ := h
  refine l_eq dL_law_382 ?_
  exact kk _ _ _ hX2 hM2 (t_text_j hJ)
theorem lc_force (hi : i + 7 ≤ nz z) (hX : RX Mx S) (hM : RM Mm S) (hJ : JNV S) (hc : cells ≤ 600000 ∧ slots ≤ 7302250) (kk : ∀ M2 M3 S2, RX M2 S2 → RM M3 S2 → JNV S2 → WL z 1518 [some (rv 2), some (rv 0), some (rv 1), some (iv i)] [] (IW z M2 M3) cells slots) : WL z 387 [some (rv 2), some (rv 0), some (rv 1), some (iv i)] [] (IW z Mx Mm) cells slots := by
  obtain ⟨nT, X, τ, img, τi, tn, tp, ss, sz, cl⟩ := S
  refine l_aload_1 dL_law_387 ?_
  refine l_arg (j := 1) dL_law_388 dL_law_389 dL_law_390 dL_law_391 dL_law_392 (by omega) ?_
  refine lxI (as := [wz z (i + 1)]) (S := []) dL_law_393 vL_38 (x5_force hX hJ.1 wz_ib) rfl (by decide) (by decide) hc (fun a M2 h => ?_)
  obtain ⟨rfl, hX2⟩ := h
  refine l_aload_2 dL_law_396 ?_
  refine l_arg (j := 1) dL_law_397 dL_law_398 dL_law_399 dL_law_400 dL_law_401 (by omega) ?_
  refine lmI (as := [wz z (i + 1)]) (S := [iv _]) dL_law_402 vL_41 (m6_force hM hJ wz_ib) rfl (by decide) (Nat.le_of_ble_eq_true rfl) hc (fun a M3 h => ?_)
  obtain ⟨rfl, hM2⟩ := h
  refine l_eq dL_law_405 ?_
  exact kk _ _ _ hX2 hM2 (t_force_j hJ)
theorem lc_asks (hi : i + 7 ≤ nz z) (hX : RX Mx S) (hM : RM Mm S) (hJ : JNV S) (hc : cells ≤ 600000 ∧ slots ≤ 7302250) (kk : ∀ M2 M3 S2, RX M2 S2 → RM M3 S2 → JNV S2 → WL z 1518 [some (rv 2), some (rv 0), some (rv 1), some (iv i)] [] (IW z M2 M3) cells slots) : WL z 410 [some (rv 2), some (rv 0), some (rv 1), some (iv i)] [] (IW z Mx Mm) cells slots := by
  obtain ⟨nT, X, τ, img, τi, tn, tp, ss, sz, cl⟩ := S
  refine l_aload_1 dL_law_410 ?_
  refine l_arg (j := 1) dL_law_411 dL_law_412 dL_law_413 dL_law_414 dL_law_415 (by omega) ?_
  refine l_arg (j := 2) dL_law_416 dL_law_417 dL_law_418 dL_law_419 dL_law_420 (by omega) ?_
  refine lxI (as := [wz z (i + 1), wz z (i + 2)]) (S := []) dL_law_421 vL_42 (x5_asks hX hJ.1 wz_ib wz_ib) rfl (by decide) (by decide) hc (fun a M2 h => ?_)
  obtain ⟨rfl, hX2⟩ := h
  refine l_aload_2 dL_law_424 ?_
  refine l_arg (j := 1) dL_law_425 dL_law_426 dL_law_427 dL_law_428 dL_law_429 (by omega) ?_
  refine l_arg (j := 2) dL_law_430 dL_law_431 dL_law_432 dL_law_433 dL_law_434 (by omega) ?_
  refine lmI (as := [wz z (i + 1), wz z (i + 2)]) (S := [iv _]) dL_law_435 vL_45 (m6_asks hM hJ wz_ib wz_ib) rfl (by decide) (Nat.le_of_ble_eq_true rfl) hc (fun a M3 h => ?_)
  obtain ⟨rfl, hM2⟩ := h
  refine l_eq dL_law_438 ?_
  exact kk _ _ _ hX2 hM2 hJ
theorem lc_citizen (hi : i + 7 ≤ nz z) (hX : RX Mx S) (hM : RM Mm S) (hJ : JNV S) (hc : cells ≤ 600000 ∧ slots ≤ 7302250) (kk : ∀ M2 M3 S2, RX M2 S2 → RM M3 S2 → JNV S2 → WL z 1518 [some (rv 2), some (rv 0), some (rv 1), some (iv i)] [] (IW z M2 M3) cells slots) : WL z 443 [some (rv 2), some (rv 0), some (rv 1), some (iv i)] [] (IW z Mx Mm) cells slots := by
  obtain ⟨nT, X, τ, img, τi, tn, tp, ss, sz, cl⟩ := S
  refine l_aload_1 dL_law_443 ?_
  refine l_arg (j := 1) dL_law_444 dL_law_445 dL_law_446 dL_law_447 dL_law_448 (by omega) ?_
  refine l_arg (j := 2) dL_law_449 dL_law_450 dL_law_451 dL_law_452 dL_law_453 (by omega) ?_
  refine lxI (as := [wz z (i + 1), wz z (i + 2)]) (S := []) dL_law_454 vL_46 (x5_citizen hX hJ.1 wz_ib wz_ib) rfl (by decide) (by decide) hc (fun a M2 h => ?_)
  obtain ⟨rfl, hX2⟩ := h
  refine l_aload_2 dL_law_457 ?_
  refine l_arg (j := 1) dL_law_458 dL_law_459 dL_law_460 dL_law_461 dL_law_462 (by omega) ?_
  refine l_arg (j := 2) dL_law_463 dL_law_464 dL_law_465 dL_law_466 dL_law_467 (by omega) ?_
  refine lmI (as := [wz z (i + 1), wz z (i + 2)]) (S := [iv _]) dL_law_468 vL_49 (m6_citizen hM hJ wz_ib wz_ib) rfl (by decide) (Nat.le_of_ble_eq_true rfl) hc (fun a M3 h => ?_)
  obtain ⟨rfl, hM2⟩ := h
  refine l_eq dL_law_471 ?_
  exact kk _ _ _ hX2 hM2 (t_citizen_j hJ)
theorem lc_put (hi : i + 7 ≤ nz z) (hX : RX Mx S) (hM : RM Mm S) (hJ : JNV S) (hc : cells ≤ 600000 ∧ slots ≤ 7302250) (kk : ∀ M2 M3 S2, RX M2 S2 → RM M3 S2 → JNV S2 → WL z 1518 [some (rv 2), some (rv 0), some (rv 1), some (iv i)] [] (IW z M2 M3) cells slots) : WL z 476 [some (rv 2), some (rv 0), some (rv 1), some (iv i)] [] (IW z Mx Mm) cells slots := by
  obtain ⟨nT, X, τ, img, τi, tn, tp, ss, sz, cl⟩ := S
  refine l_aload_1 dL_law_476 ?_
  refine l_arg (j := 1) dL_law_477 dL_law_478 dL_law_479 dL_law_480 dL_law_481 (by omega) ?_
  refine l_arg (j := 2) dL_law_482 dL_law_483 dL_law_484 dL_law_485 dL_law_486 (by omega) ?_
  refine l_arg (j := 3) dL_law_487 dL_law_488 dL_law_489 dL_law_490 dL_law_491 (by omega) ?_
  refine lxI (as := [wz z (i + 1), wz z (i + 2), wz z (i + 3)]) (S := []) dL_law_492 vL_50 (x5_put hX hJ.1 wz_ib wz_ib wz_ib) rfl (by decide) (by decide) hc (fun a M2 h => ?_)
  obtain ⟨rfl, hX2⟩ := h
  refine l_aload_2 dL_law_495 ?_
  refine l_arg (j := 1) dL_law_496 dL_law_497 dL_law_498 dL_law_499 dL_law_500 (by omega) ?_
  refine l_arg (j := 2) dL_law_501 dL_law_502 dL_law_503 dL_law_504 dL_law_505 (by omega) ?_
  refine l_arg (j := 3) dL_law_506 dL_law_507 dL_law_508 dL_law_509 dL_law_510 (by omega) ?_
  refine lmI (as := [wz z (i + 1), wz z (i + 2), wz z (i + 3)]) (S := [iv _]) dL_law_511 vL_53 (m6_put hM hJ wz_ib wz_ib wz_ib) rfl (by decide) (Nat.le_of_ble_eq_true rfl) hc (fun a M3 h => ?_)
  obtain ⟨rfl, hM2⟩ := h
  refine l_eq dL_law_514 ?_
  exact kk _ _ _ hX2 hM2 (t_put_j hJ)
theorem lc_told (hi : i + 7 ≤ nz z) (hX : RX Mx S) (hM : RM Mm S) (hJ : JNV S) (hc : cells ≤ 600000 ∧ slots ≤ 7302250) (kk : ∀ M2 M3 S2, RX M2 S2 → RM M3 S2 → JNV S2 → WL z 1518 [some (rv 2), some (rv 0), some (rv 1), some (iv i)] [] (IW z M2 M3) cells slots) : WL z 519 [some (rv 2), some (rv 0), some (rv 1), some (iv i)] [] (IW z Mx Mm) cells slots := by
  obtain ⟨nT, X, τ, img, τi, tn, tp, ss, sz, cl⟩ := S
  refine l_aload_1 dL_law_519 ?_
  refine l_arg (j := 1) dL_law_520 dL_law_521 dL_law_522 dL_law_523 dL_law_524 (by omega) ?_
  refine l_arg (j := 2) dL_law_525 dL_law_526 dL_law_527 dL_law_528 dL_law_529 (by omega) ?_
  refine lxI (as := [wz z (i + 1), wz z (i + 2)]) (S := []) dL_law_530 vL_54 (x5_told hX hJ.1 wz_ib wz_ib) rfl (by decide) (by decide) hc (fun a M2 h => ?_)
  obtain ⟨rfl, hX2⟩ := h
  refine l_aload_2 dL_law_533 ?_
  refine l_arg (j := 1) dL_law_534 dL_law_535 dL_law_536 dL_law_537 dL_law_538 (by omega) ?_
  refine l_arg (j := 2) dL_law_539 dL_law_540 dL_law_541 dL_law_542 dL_law_543 (by omega) ?_
  refine lmI (as := [wz z (i + 1), wz z (i + 2)]) (S := [iv _]) dL_law_544 vL_57 (m6_told hM hJ wz_ib wz_ib) rfl (by decide) (Nat.le_of_ble_eq_true rfl) hc (fun a M3 h => ?_)
  obtain ⟨rfl, hM2⟩ := h
  refine l_eq dL_law_547 ?_
  exact kk _ _ _ hX2 hM2 hJ
theorem lc_twist (hi : i + 7 ≤ nz z) (hX : RX Mx S) (hM : RM Mm S) (hJ : JNV S) (hc : cells ≤ 600000 ∧ slots ≤ 7302250) (kk : ∀ M2 M3 S2, RX M2 S2 → RM M3 S2 → JNV S2 → WL z 1518 [some (rv 2), some (rv 0), some (rv 1), some (iv i)] [] (IW z M2 M3) cells slots) : WL z 552 [some (rv 2), some (rv 0), some (rv 1), some (iv i)] [] (IW z Mx Mm) cells slots := by
  obtain ⟨nT, X, τ, img, τi, tn, tp, ss, sz, cl⟩ := S
  refine l_aload_1 dL_law_552 ?_
  refine l_arg (j := 1) dL_law_553 dL_law_554 dL_law_555 dL_law_556 dL_law_557 (by omega) ?_
  refine lxI (as := [wz z (i + 1)]) (S := []) dL_law_558 vL_58 (x5_twist hX hJ.1 wz_ib) rfl (by decide) (by decide) hc (fun a M2 h => ?_)
  obtain ⟨rfl, hX2⟩ := h
  refine l_aload_2 dL_law_561 ?_
  refine l_arg (j := 1) dL_law_562 dL_law_563 dL_law_564 dL_law_565 dL_law_566 (by omega) ?_
  refine lmI (as := [wz z (i + 1)]) (S := [iv _]) dL_law_567 vL_61 (m6_twist hM hJ wz_ib) rfl (by decide) (Nat.le_of_ble_eq_true rfl) hc (fun a M3 h => ?_)
  obtain ⟨rfl, hM2⟩ := h
  refine l_eq dL_law_570 ?_
  exact kk _ _ _ hX2 hM2 (t_twist_j hJ)
theorem lc_give (hi : i + 7 ≤ nz z) (hX : RX Mx S) (hM : RM Mm S) (hJ : JNV S) (hc : cells ≤ 600000 ∧ slots ≤ 7302250) (kk : ∀ M2 M3 S2, RX M2 S2 → RM M3 S2 → JNV S2 → WL z 1518 [some (rv 2), some (rv 0), some (rv 1), some (iv i)] [] (IW z M2 M3) cells slots) : WL z 575 [some (rv 2), some (rv 0), some (rv 1), some (iv i)] [] (IW z Mx Mm) cells slots := by
  obtain ⟨nT, X, τ, img, τi, tn, tp, ss, sz, cl⟩ := S
  refine l_aload_1 dL_law_575 ?_
  refine l_arg (j := 1) dL_law_576 dL_law_577 dL_law_578 dL_law_579 dL_law_580 (by omega) ?_
  refine l_arg (j := 2) dL_law_581 dL_law_582 dL_law_583 dL_law_584 dL_law_585 (by omega) ?_
  refine l_arg (j := 3) dL_law_586 dL_law_587 dL_law_588 dL_law_589 dL_law_590 (by omega) ?_
  refine lxI (as := [wz z (i + 1), wz z (i + 2), wz z (i + 3)]) (S := []) dL_law_591 vL_62 (x5_give hX hJ.1 wz_ib wz_ib wz_ib) rfl (by decide) (by decide) hc (fun a M2 h => ?_)
  obtain ⟨rfl, hX2⟩ := h
  refine l_aload_2 dL_law_594 ?_
  refine l_arg (j := 1) dL_law_595 dL_law_596 dL_law_597 dL_law_598 dL_law_599 (by omega) ?_
  refine l_arg (j := 2) dL_law_600 dL_law_601 dL_law_602 dL_law_603 dL_law_604 (by omega) ?_
  refine l_arg (j := 3) dL_law_605 dL_law_606 dL_law_607 dL_law_608 dL_law_609 (by omega) ?_
  refine lmI (as := [wz z (i + 1), wz z (i + 2), wz z (i + 3)]) (S := [iv _]) dL_law_610 vL_65 (m6_give hM hJ wz_ib wz_ib wz_ib) rfl (by decide) (Nat.le_of_ble_eq_true rfl) hc (fun a M3 h => ?_)
  obtain ⟨rfl, hM2⟩ := h
  refine l_eq dL_law_613 ?_
  exact kk _ _ _ hX2 hM2 (t_give_j hJ)
theorem lc_minute (hi : i + 7 ≤ nz z) (hX : RX Mx S) (hM : RM Mm S) (hJ : JNV S) (hc : cells ≤ 600000 ∧ slots ≤ 7302250) (kk : ∀ M2 M3 S2, RX M2 S2 → RM M3 S2 → JNV S2 → WL z 1518 [some (rv 2), some (rv 0), some (rv 1), some (iv i)] [] (IW z M2 M3) cells slots) : WL z 618 [some (rv 2), some (rv 0), some (rv 1), some (iv i)] [] (IW z Mx Mm) cells slots := by
  obtain ⟨nT, X, τ, img, τi, tn, tp, ss, sz, cl⟩ := S
  refine l_aload_1 dL_law_618 ?_
  refine lxI (as := []) (S := []) dL_law_619 vL_66 (x5_minute hX hJ.1) rfl (by decide) (by decide) hc (fun a M2 h => ?_)
  obtain ⟨rfl, hX2⟩ := h
  refine l_aload_2 dL_law_622 ?_
  refine lmI (as := []) (S := [iv _]) dL_law_623 vL_69 (m6_minute hM hJ) rfl (by decide) (Nat.le_of_ble_eq_true rfl) hc (fun a M3 h => ?_)
  obtain ⟨rfl, hM2⟩ := h
  refine l_eq dL_law_626 ?_
  exact kk _ _ _ hX2 hM2 (t_minute_j hJ)
theorem lc_run (hi : i + 7 ≤ nz z) (hX : RX Mx S) (hM : RM Mm S) (hJ : JNV S) (hc : cells ≤ 600000 ∧ slots ≤ 7302250) (kk : ∀ M2 M3 S2, RX M2 S2 → RM M3 S2 → JNV S2 → WL z 1518 [some (rv 2), some (rv 0), some (rv 1), some (iv i)] [] (IW z M2 M3) cells slots) : WL z 631 [some (rv 2), some (rv 0), some (rv 1), some (iv i)] [] (IW z Mx Mm) cells slots := by
  obtain ⟨nT, X, τ, img, τi, tn, tp, ss, sz, cl⟩ := S
  refine l_aload_1 dL_law_631 ?_
  refine l_arg (j := 1) dL_law_632 dL_law_633 dL_law_634 dL_law_635 dL_law_636 (by omega) ?_
  refine l_arg (j := 2) dL_law_637 dL_law_638 dL_law_639 dL_law_640 dL_law_641 (by omega) ?_
  refine lxI (as := [wz z (i + 1), wz z (i + 2)]) (S := []) dL_law_642 vL_70 (x5_run hX hJ.1 wz_ib wz_ib) rfl (by decide) (by decide) hc (fun a M2 h => ?_)
  obtain ⟨rfl, hX2⟩ := h
  refine l_aload_2 dL_law_645 ?_
  refine l_arg (j := 1) dL_law_646 dL_law_647 dL_law_648 dL_law_649 dL_law_650 (by omega) ?_
  refine l_arg (j := 2) dL_law_651 dL_law_652 dL_law_653 dL_law_654 dL_law_655 (by omega) ?_
  refine lmI (as := [wz z (i + 1), wz z (i + 2)]) (S := [iv _]) dL_law_656 vL_73 (m6_run hM hJ wz_ib wz_ib) rfl (by decide) (Nat.le_of_ble_eq_true rfl) hc (fun a M3 h => ?_)
  obtain ⟨rfl, hM2⟩ := h
  refine l_eq dL_law_659 ?_
  exact kk _ _ _ hX2 hM2 hJ
theorem lc_when (hi : i + 7 ≤ nz z) (hX : RX Mx S) (hM : RM Mm S) (hJ : JNV S) (hc : cells ≤ 600000 ∧ slots ≤ 7302250) (kk : ∀ M2 M3 S2, RX M2 S2 → RM M3 S2 → JNV S2 → WL z 1518 [some (rv 2), some (rv 0), some (rv 1), some (iv i)] [] (IW z M2 M3) cells slots) : WL z 664 [some (rv 2), some (rv 0), some (rv 1), some (iv i)] [] (IW z Mx Mm) cells slots := by
  obtain ⟨nT, X, τ, img, τi, tn, tp, ss, sz, cl⟩ := S
  refine l_aload_1 dL_law_664 ?_
  refine l_arg (j := 1) dL_law_665 dL_law_666 dL_law_667 dL_law_668 dL_law_669 (by omega) ?_
  refine lxI (as := [wz z (i + 1)]) (S := []) dL_law_670 vL_74 (x5_when hX hJ.1 wz_ib) rfl (by decide) (by decide) hc (fun a M2 h => ?_)
  obtain ⟨rfl, hX2⟩ := h
  refine l_aload_2 dL_law_673 ?_
  refine l_arg (j := 1) dL_law_674 dL_law_675 dL_law_676 dL_law_677 dL_law_678 (by omega) ?_
  refine lmI (as := [wz z (i + 1)]) (S := [iv _]) dL_law_679 vL_77 (m6_when hM hJ wz_ib) rfl (by decide) (Nat.le_of_ble_eq_true rfl) hc (fun a M3 h => ?_)
  obtain ⟨rfl, hM2⟩ := h
  refine l_eq dL_law_682 ?_
  exact kk _ _ _ hX2 hM2 hJ
theorem lc_waits (hi : i + 7 ≤ nz z) (hX : RX Mx S) (hM : RM Mm S) (hJ : JNV S) (hc : cells ≤ 600000 ∧ slots ≤ 7302250) (kk : ∀ M2 M3 S2, RX M2 S2 → RM M3 S2 → JNV S2 → WL z 1518 [some (rv 2), some (rv 0), some (rv 1), some (iv i)] [] (IW z M2 M3) cells slots) : WL z 687 [some (rv 2), some (rv 0), some (rv 1), some (iv i)] [] (IW z Mx Mm) cells slots := by
  obtain ⟨nT, X, τ, img, τi, tn, tp, ss, sz, cl⟩ := S
  refine l_aload_1 dL_law_687 ?_
  refine l_arg (j := 1) dL_law_688 dL_law_689 dL_law_690 dL_law_691 dL_law_692 (by omega) ?_
  refine lxI (as := [wz z (i + 1)]) (S := []) dL_law_693 vL_78 (x5_waits hX hJ.1 wz_ib) rfl (by decide) (by decide) hc (fun a M2 h => ?_)
  obtain ⟨rfl, hX2⟩ := h
  refine l_aload_2 dL_law_696 ?_
  refine l_arg (j := 1) dL_law_697 dL_law_698 dL_law_699 dL_law_700 dL_law_701 (by omega) ?_
  refine lmI (as := [wz z (i + 1)]) (S := [iv _]) dL_law_702 vL_81 (m6_waits hM hJ wz_ib) rfl (by decide) (Nat.le_of_ble_eq_true rfl) hc (fun a M3 h => ?_)
  obtain ⟨rfl, hM2⟩ := h
  refine l_eq dL_law_705 ?_
  exact kk _ _ _ hX2 hM2 hJ
theorem lc_pair (hi : i + 7 ≤ nz z) (hX : RX Mx S) (hM : RM Mm S) (hJ : JNV S) (hc : cells ≤ 600000 ∧ slots ≤ 7302250) (kk : ∀ M2 M3 S2, RX M2 S2 → RM M3 S2 → JNV S2 → WL z 1518 [some (rv 2), some (rv 0), some (rv 1), some (iv i)] [] (IW z M2 M3) cells slots) : WL z 710 [some (rv 2), some (rv 0), some (rv 1), some (iv i)] [] (IW z Mx Mm) cells slots := by
  obtain ⟨nT, X, τ, img, τi, tn, tp, ss, sz, cl⟩ := S
  refine l_aload_1 dL_law_710 ?_
  refine l_arg (j := 1) dL_law_711 dL_law_712 dL_law_713 dL_law_714 dL_law_715 (by omega) ?_
  refine lxI (as := [wz z (i + 1)]) (S := []) dL_law_716 vL_82 (x5_pair hX hJ.1 wz_ib) rfl (by decide) (by decide) hc (fun a M2 h => ?_)
  obtain ⟨rfl, hX2⟩ := h
  refine l_aload_2 dL_law_719 ?_
  refine l_arg (j := 1) dL_law_720 dL_law_721 dL_law_722 dL_law_723 dL_law_724 (by omega) ?_
  refine lmI (as := [wz z (i + 1)]) (S := [iv _]) dL_law_725 vL_85 (m6_pair hM hJ wz_ib) rfl (by decide) (Nat.le_of_ble_eq_true rfl) hc (fun a M3 h => ?_)
  obtain ⟨rfl, hM2⟩ := h
  refine l_eq dL_law_728 ?_
  exact kk _ _ _ hX2 hM2 hJ
theorem lc_stand (hi : i + 7 ≤ nz z) (hX : RX Mx S) (hM : RM Mm S) (hJ : JNV S) (hc : cells ≤ 600000 ∧ slots ≤ 7302250) (kk : ∀ M2 M3 S2, RX M2 S2 → RM M3 S2 → JNV S2 → WL z 1518 [some (rv 2), some (rv 0), some (rv 1), some (iv i)] [] (IW z M2 M3) cells slots) : WL z 733 [some (rv 2), some (rv 0), some (rv 1), some (iv i)] [] (IW z Mx Mm) cells slots := by
  obtain ⟨nT, X, τ, img, τi, tn, tp, ss, sz, cl⟩ := S
  refine l_aload_1 dL_law_733 ?_
  refine l_arg (j := 1) dL_law_734 dL_law_735 dL_law_736 dL_law_737 dL_law_738 (by omega) ?_
  refine l_arg (j := 2) dL_law_739 dL_law_740 dL_law_741 dL_law_742 dL_law_743 (by omega) ?_
  refine l_arg (j := 3) dL_law_744 dL_law_745 dL_law_746 dL_law_747 dL_law_748 (by omega) ?_
  refine lxI (as := [wz z (i + 1), wz z (i + 2), wz z (i + 3)]) (S := []) dL_law_749 vL_86 (x5_stand hX hJ.1 wz_ib wz_ib wz_ib) rfl (by decide) (by decide) hc (fun a M2 h => ?_)
  obtain ⟨rfl, hX2⟩ := h
  refine l_aload_2 dL_law_752 ?_
  refine l_arg (j := 1) dL_law_753 dL_law_754 dL_law_755 dL_law_756 dL_law_757 (by omega) ?_
  refine l_arg (j := 2) dL_law_758 dL_law_759 dL_law_760 dL_law_761 dL_law_762 (by omega) ?_
  refine l_arg (j := 3) dL_law_763 dL_law_764 dL_law_765 dL_law_766 dL_law_767 (by omega) ?_
  refine lmI (as := [wz z (i + 1), wz z (i + 2), wz z (i + 3)]) (S := [iv _]) dL_law_768 vL_89 (m6_stand hM hJ wz_ib wz_ib wz_ib) rfl (by decide) (Nat.le_of_ble_eq_true rfl) hc (fun a M3 h => ?_)
  obtain ⟨rfl, hM2⟩ := h
  refine l_eq dL_law_771 ?_
  exact kk _ _ _ hX2 hM2 hJ
theorem lc_rounds (hi : i + 7 ≤ nz z) (hX : RX Mx S) (hM : RM Mm S) (hJ : JNV S) (hc : cells ≤ 600000 ∧ slots ≤ 7302250) (kk : ∀ M2 M3 S2, RX M2 S2 → RM M3 S2 → JNV S2 → WL z 1518 [some (rv 2), some (rv 0), some (rv 1), some (iv i)] [] (IW z M2 M3) cells slots) : WL z 776 [some (rv 2), some (rv 0), some (rv 1), some (iv i)] [] (IW z Mx Mm) cells slots := by
  obtain ⟨nT, X, τ, img, τi, tn, tp, ss, sz, cl⟩ := S
  refine l_aload_1 dL_law_776 ?_
  refine l_arg (j := 1) dL_law_777 dL_law_778 dL_law_779 dL_law_780 dL_law_781 (by omega) ?_
  refine l_arg (j := 2) dL_law_782 dL_law_783 dL_law_784 dL_law_785 dL_law_786 (by omega) ?_
  refine lxI (as := [wz z (i + 1), wz z (i + 2)]) (S := []) dL_law_787 vL_90 (x5_rounds hX hJ.1 wz_ib wz_ib) rfl (by decide) (by decide) hc (fun a M2 h => ?_)
  obtain ⟨rfl, hX2⟩ := h
  refine l_aload_2 dL_law_790 ?_
  refine l_arg (j := 1) dL_law_791 dL_law_792 dL_law_793 dL_law_794 dL_law_795 (by omega) ?_
  refine l_arg (j := 2) dL_law_796 dL_law_797 dL_law_798 dL_law_799 dL_law_800 (by omega) ?_
  refine lmI (as := [wz z (i + 1), wz z (i + 2)]) (S := [iv _]) dL_law_801 vL_93 (m6_rounds hM hJ wz_ib wz_ib) rfl (by decide) (Nat.le_of_ble_eq_true rfl) hc (fun a M3 h => ?_)
  obtain ⟨rfl, hM2⟩ := h
  refine l_eq dL_law_804 ?_
  exact kk _ _ _ hX2 hM2 hJ
theorem lc_tries (hi : i + 7 ≤ nz z) (hX : RX Mx S) (hM : RM Mm S) (hJ : JNV S) (hc : cells ≤ 600000 ∧ slots ≤ 7302250) (kk : ∀ M2 M3 S2, RX M2 S2 → RM M3 S2 → JNV S2 → WL z 1518 [some (rv 2), some (rv 0), some (rv 1), some (iv i)] [] (IW z M2 M3) cells slots) : WL z 809 [some (rv 2), some (rv 0), some (rv 1), some (iv i)] [] (IW z Mx Mm) cells slots := by
  obtain ⟨nT, X, τ, img, τi, tn, tp, ss, sz, cl⟩ := S
  refine l_aload_1 dL_law_809 ?_
  refine l_arg (j := 1) dL_law_810 dL_law_811 dL_law_812 dL_law_813 dL_law_814 (by omega) ?_
  refine lxI (as := [wz z (i + 1)]) (S := []) dL_law_815 vL_94 (x5_tries hX hJ.1 wz_ib) rfl (by decide) (by decide) hc (fun a M2 h => ?_)
  obtain ⟨rfl, hX2⟩ := h
  refine l_aload_2 dL_law_818 ?_
  refine l_arg (j := 1) dL_law_819 dL_law_820 dL_law_821 dL_law_822 dL_law_823 (by omega) ?_
  refine lmI (as := [wz z (i + 1)]) (S := [iv _]) dL_law_824 vL_97 (m6_tries hM hJ wz_ib) rfl (by decide) (Nat.le_of_ble_eq_true rfl) hc (fun a M3 h => ?_)
  obtain ⟨rfl, hM2⟩ := h
  refine l_eq dL_law_827 ?_
  exact kk _ _ _ hX2 hM2 hJ
theorem lc_share (hi : i + 7 ≤ nz z) (hX : RX Mx S) (hM : RM Mm S) (hJ : JNV S) (hc : cells ≤ 600000 ∧ slots ≤ 7302250) (kk : ∀ M2 M3 S2, RX M2 S2 → RM M3 S2 → JNV S2 → WL z 1518 [some (rv 2), some (rv 0), some (rv 1), some (iv i)] [] (IW z M2 M3) cells slots) : WL z 832 [some (rv 2), some (rv 0), some (rv 1), some (iv i)] [] (IW z Mx Mm) cells slots := by
  obtain ⟨nT, X, τ, img, τi, tn, tp, ss, sz, cl⟩ := S
  refine l_aload_1 dL_law_832 ?_
  refine l_arg (j := 1) dL_law_833 dL_law_834 dL_law_835 dL_law_836 dL_law_837 (by omega) ?_
  refine l_arg (j := 2) dL_law_838 dL_law_839 dL_law_840 dL_law_841 dL_law_842 (by omega) ?_
  refine lxJ (as := [wz z (i + 1), wz z (i + 2)]) (S := []) dL_law_843 vL_98 (x5_share hX hJ.1 wz_ib wz_ib) rfl (by decide) (by decide) hc (fun a M2 h => ?_)
  obtain ⟨rfl, hX2⟩ := h
  refine l_aload_2 dL_law_846 ?_
  refine l_arg (j := 1) dL_law_847 dL_law_848 dL_law_849 dL_law_850 dL_law_851 (by omega) ?_
  refine l_arg (j := 2) dL_law_852 dL_law_853 dL_law_854 dL_law_855 dL_law_856 (by omega) ?_
  refine lmJ (as := [wz z (i + 1), wz z (i + 2)]) (S := [jv _]) dL_law_857 vL_102 (m6_share hM hJ wz_ib wz_ib) rfl (by decide) (Nat.le_of_ble_eq_true rfl) hc (fun a M3 h => ?_)
  obtain ⟨rfl, hM2⟩ := h
  refine l_lcmp dL_law_860 (l_ife dL_law_861 ?_)
  exact kk _ _ _ hX2 hM2 hJ
theorem lc_judge (hi : i + 7 ≤ nz z) (hX : RX Mx S) (hM : RM Mm S) (hJ : JNV S) (hc : cells ≤ 600000 ∧ slots ≤ 7302250) (kk : ∀ M2 M3 S2, RX M2 S2 → RM M3 S2 → JNV S2 → WL z 1518 [some (rv 2), some (rv 0), some (rv 1), some (iv i)] [] (IW z M2 M3) cells slots) : WL z 866 [some (rv 2), some (rv 0), some (rv 1), some (iv i)] [] (IW z Mx Mm) cells slots := by
  obtain ⟨nT, X, τ, img, τi, tn, tp, ss, sz, cl⟩ := S
  refine l_aload_1 dL_law_866 ?_
  refine l_arg (j := 1) dL_law_867 dL_law_868 dL_law_869 dL_law_870 dL_law_871 (by omega) ?_
  refine l_arg (j := 2) dL_law_872 dL_law_873 dL_law_874 dL_law_875 dL_law_876 (by omega) ?_
  refine lxI (as := [wz z (i + 1), wz z (i + 2)]) (S := []) dL_law_877 vL_103 (x5_judge hX hJ.1 wz_ib wz_ib) rfl (by decide) (by decide) hc (fun a M2 h => ?_)
  obtain ⟨rfl, hX2⟩ := h
  refine l_aload_2 dL_law_880 ?_
  refine l_arg (j := 1) dL_law_881 dL_law_882 dL_law_883 dL_law_884 dL_law_885 (by omega) ?_
  refine l_arg (j := 2) dL_law_886 dL_law_887 dL_law_888 dL_law_889 dL_law_890 (by omega) ?_
  refine lmI (as := [wz z (i + 1), wz z (i + 2)]) (S := [iv _]) dL_law_891 vL_106 (m6_judge hM hJ wz_ib wz_ib) rfl (by decide) (Nat.le_of_ble_eq_true rfl) hc (fun a M3 h => ?_)
  obtain ⟨rfl, hM2⟩ := h
  refine l_eq dL_law_894 ?_
  exact kk _ _ _ hX2 hM2 hJ
theorem lc_kinds (hi : i + 7 ≤ nz z) (hX : RX Mx S) (hM : RM Mm S) (hJ : JNV S) (hc : cells ≤ 600000 ∧ slots ≤ 7302250) (kk : ∀ M2 M3 S2, RX M2 S2 → RM M3 S2 → JNV S2 → WL z 1518 [some (rv 2), some (rv 0), some (rv 1), some (iv i)] [] (IW z M2 M3) cells slots) : WL z 899 [some (rv 2), some (rv 0), some (rv 1), some (iv i)] [] (IW z Mx Mm) cells slots := by
  obtain ⟨nT, X, τ, img, τi, tn, tp, ss, sz, cl⟩ := S
  refine l_aload_1 dL_law_899 ?_
  refine l_arg (j := 1) dL_law_900 dL_law_901 dL_law_902 dL_law_903 dL_law_904 (by omega) ?_
  refine l_arg (j := 2) dL_law_905 dL_law_906 dL_law_907 dL_law_908 dL_law_909 (by omega) ?_
  refine l_arg (j := 3) dL_law_910 dL_law_911 dL_law_912 dL_law_913 dL_law_914 (by omega) ?_
  refine lxI (as := [wz z (i + 1), wz z (i + 2), wz z (i + 3)]) (S := []) dL_law_915 vL_107 (x5_kinds hX hJ.1 wz_ib wz_ib wz_ib) rfl (by decide) (by decide) hc (fun a M2 h => ?_)
  obtain ⟨rfl, hX2⟩ := h
  refine l_aload_2 dL_law_918 ?_
  refine l_arg (j := 1) dL_law_919 dL_law_920 dL_law_921 dL_law_922 dL_law_923 (by omega) ?_
  refine l_arg (j := 2) dL_law_924 dL_law_925 dL_law_926 dL_law_927 dL_law_928 (by omega) ?_
  refine l_arg (j := 3) dL_law_929 dL_law_930 dL_law_931 dL_law_932 dL_law_933 (by omega) ?_
  refine lmI (as := [wz z (i + 1), wz z (i + 2), wz z (i + 3)]) (S := [iv _]) dL_law_934 vL_110 (m6_kinds hM hJ wz_ib wz_ib wz_ib) rfl (by decide) (Nat.le_of_ble_eq_true rfl) hc (fun a M3 h => ?_)
  obtain ⟨rfl, hM2⟩ := h
  refine l_eq dL_law_937 ?_
  exact kk _ _ _ hX2 hM2 hJ
theorem lc_doors (hi : i + 7 ≤ nz z) (hX : RX Mx S) (hM : RM Mm S) (hJ : JNV S) (hc : cells ≤ 600000 ∧ slots ≤ 7302250) (kk : ∀ M2 M3 S2, RX M2 S2 → RM M3 S2 → JNV S2 → WL z 1518 [some (rv 2), some (rv 0), some (rv 1), some (iv i)] [] (IW z M2 M3) cells slots) : WL z 942 [some (rv 2), some (rv 0), some (rv 1), some (iv i)] [] (IW z Mx Mm) cells slots := by
  obtain ⟨nT, X, τ, img, τi, tn, tp, ss, sz, cl⟩ := S
  refine l_aload_1 dL_law_942 ?_
  refine l_arg (j := 1) dL_law_943 dL_law_944 dL_law_945 dL_law_946 dL_law_947 (by omega) ?_
  refine l_arg (j := 2) dL_law_948 dL_law_949 dL_law_950 dL_law_951 dL_law_952 (by omega) ?_
  refine lxI (as := [wz z (i + 1), wz z (i + 2)]) (S := []) dL_law_953 vL_111 (x5_doors hX hJ.1 wz_ib wz_ib) rfl (by decide) (by decide) hc (fun a M2 h => ?_)
  obtain ⟨rfl, hX2⟩ := h
  refine l_aload_2 dL_law_956 ?_
  refine l_arg (j := 1) dL_law_957 dL_law_958 dL_law_959 dL_law_960 dL_law_961 (by omega) ?_
  refine l_arg (j := 2) dL_law_962 dL_law_963 dL_law_964 dL_law_965 dL_law_966 (by omega) ?_
  refine lmI (as := [wz z (i + 1), wz z (i + 2)]) (S := [iv _]) dL_law_967 vL_114 (m6_doors hM hJ wz_ib wz_ib) rfl (by decide) (Nat.le_of_ble_eq_true rfl) hc (fun a M3 h => ?_)
  obtain ⟨rfl, hM2⟩ := h
  refine l_eq dL_law_970 ?_
  exact kk _ _ _ hX2 hM2 hJ
theorem lc_baskets (hi : i + 7 ≤ nz z) (hX : RX Mx S) (hM : RM Mm S) (hJ : JNV S) (hc : cells ≤ 600000 ∧ slots ≤ 7302250) (kk : ∀ M2 M3 S2, RX M2 S2 → RM M3 S2 → JNV S2 → WL z 1518 [some (rv 2), some (rv 0), some (rv 1), some (iv i)] [] (IW z M2 M3) cells slots) : WL z 975 [some (rv 2), some (rv 0), some (rv 1), some (iv i)] [] (IW z Mx Mm) cells slots := by
  obtain ⟨nT, X, τ, img, τi, tn, tp, ss, sz, cl⟩ := S
  refine l_aload_1 dL_law_975 ?_
  refine l_arg (j := 1) dL_law_976 dL_law_977 dL_law_978 dL_law_979 dL_law_980 (by omega) ?_
  refine l_arg (j := 2) dL_law_981 dL_law_982 dL_law_983 dL_law_984 dL_law_985 (by omega) ?_
  refine l_arg (j := 3) dL_law_986 dL_law_987 dL_law_988 dL_law_989 dL_law_990 (by omega) ?_
  refine lxI (as := [wz z (i + 1), wz z (i + 2), wz z (i + 3)]) (S := []) dL_law_991 vL_115 (x5_baskets hX hJ.1 wz_ib wz_ib wz_ib) rfl (by decide) (by decide) hc (fun a M2 h => ?_)
  obtain ⟨rfl, hX2⟩ := h
  refine l_aload_2 dL_law_994 ?_
  refine l_arg (j := 1) dL_law_995 dL_law_996 dL_law_997 dL_law_998 dL_law_999 (by omega) ?_
  refine l_arg (j := 2) dL_law_1000 dL_law_1001 dL_law_1002 dL_law_1003 dL_law_1004 (by omega) ?_
  refine l_arg (j := 3) dL_law_1005 dL_law_1006 dL_law_1007 dL_law_1008 dL_law_1009 (by omega) ?_
  refine lmI (as := [wz z (i + 1), wz z (i + 2), wz z (i + 3)]) (S := [iv _]) dL_law_1010 vL_118 (m6_baskets hM hJ wz_ib wz_ib wz_ib) rfl (by decide) (Nat.le_of_ble_eq_true rfl) hc (fun a M3 h => ?_)
  obtain ⟨rfl, hM2⟩ := h
  refine l_eq dL_law_1013 ?_
  exact kk _ _ _ hX2 hM2 hJ
theorem lc_firsts (hi : i + 7 ≤ nz z) (hX : RX Mx S) (hM : RM Mm S) (hJ : JNV S) (hc : cells ≤ 600000 ∧ slots ≤ 7302250) (kk : ∀ M2 M3 S2, RX M2 S2 → RM M3 S2 → JNV S2 → WL z 1518 [some (rv 2), some (rv 0), some (rv 1), some (iv i)] [] (IW z M2 M3) cells slots) : WL z 1018 [some (rv 2), some (rv 0), some (rv 1), some (iv i)] [] (IW z Mx Mm) cells slots := by
  obtain ⟨nT, X, τ, img, τi, tn, tp, ss, sz, cl⟩ := S
  refine l_aload_1 dL_law_1018 ?_
  refine l_arg (j := 1) dL_law_1019 dL_law_1020 dL_law_1021 dL_law_1022 dL_law_1023 (by omega) ?_
  refine l_arg (j := 2) dL_law_1024 dL_law_1025 dL_law_1026 dL_law_1027 dL_law_1028 (by omega) ?_
  refine l_arg (j := 3) dL_law_1029 dL_law_1030 dL_law_1031 dL_law_1032 dL_law_1033 (by omega) ?_
  refine lxI (as := [wz z (i + 1), wz z (i + 2), wz z (i + 3)]) (S := []) dL_law_1034 vL_119 (x5_firsts hX hJ.1 wz_ib wz_ib wz_ib) rfl (by decide) (by decide) hc (fun a M2 h => ?_)
  obtain ⟨rfl, hX2⟩ := h
  refine l_aload_2 dL_law_1037 ?_
  refine l_arg (j := 1) dL_law_1038 dL_law_1039 dL_law_1040 dL_law_1041 dL_law_1042 (by omega) ?_
  refine l_arg (j := 2) dL_law_1043 dL_law_1044 dL_law_1045 dL_law_1046 dL_law_1047 (by omega) ?_
  refine l_arg (j := 3) dL_law_1048 dL_law_1049 dL_law_1050 dL_law_1051 dL_law_1052 (by omega) ?_
  refine lmI (as := [wz z (i + 1), wz z (i + 2), wz z (i + 3)]) (S := [iv _]) dL_law_1053 vL_122 (m6_firsts hM hJ wz_ib wz_ib wz_ib) rfl (by decide) (Nat.le_of_ble_eq_true rfl) hc (fun a M3 h => ?_)
  obtain ⟨rfl, hM2⟩ := h
  refine l_eq dL_law_1056 ?_
  exact kk _ _ _ hX2 hM2 hJ
theorem lc_whose (hi : i + 7 ≤ nz z) (hX : RX Mx S) (hM : RM Mm S) (hJ : JNV S) (hc : cells ≤ 600000 ∧ slots ≤ 7302250) (kk : ∀ M2 M3 S2, RX M2 S2 → RM M3 S2 → JNV S2 → WL z 1518 [some (rv 2), some (rv 0), some (rv 1), some (iv i)] [] (IW z M2 M3) cells slots) : WL z 1061 [some (rv 2), some (rv 0), some (rv 1), some (iv i)] [] (IW z Mx Mm) cells slots := by
  obtain ⟨nT, X, τ, img, τi, tn, tp, ss, sz, cl⟩ := S
  refine l_aload_1 dL_law_1061 ?_
  refine l_arg (j := 1) dL_law_1062 dL_law_1063 dL_law_1064 dL_law_1065 dL_law_1066 (by omega) ?_
  refine lxI (as := [wz z (i + 1)]) (S := []) dL_law_1067 vL_123 (x5_whose hX hJ.1 wz_ib) rfl (by decide) (by decide) hc (fun a M2 h => ?_)
  obtain ⟨rfl, hX2⟩ := h
  refine l_aload_2 dL_law_1070 ?_
  refine l_arg (j := 1) dL_law_1071 dL_law_1072 dL_law_1073 dL_law_1074 dL_law_1075 (by omega) ?_
  refine lmI (as := [wz z (i + 1)]) (S := [iv _]) dL_law_1076 vL_126 (m6_whose hM hJ wz_ib) rfl (by decide) (Nat.le_of_ble_eq_true rfl) hc (fun a M3 h => ?_)
  obtain ⟨rfl, hM2⟩ := h
  refine l_eq dL_law_1079 ?_
  exact kk _ _ _ hX2 hM2 hJ
theorem lc_laws (hi : i + 7 ≤ nz z) (hX : RX Mx S) (hM : RM Mm S) (hJ : JNV S) (hc : cells ≤ 600000 ∧ slots ≤ 7302250) (kk : ∀ M2 M3 S2, RX M2 S2 → RM M3 S2 → JNV S2 → WL z 1518 [some (rv 2), some (rv 0), some (rv 1), some (iv i)] [] (IW z M2 M3) cells slots) : WL z 1084 [some (rv 2), some (rv 0), some (rv 1), some (iv i)] [] (IW z Mx Mm) cells slots := by
  obtain ⟨nT, X, τ, img, τi, tn, tp, ss, sz, cl⟩ := S
  refine l_aload_1 dL_law_1084 ?_
  refine l_arg (j := 1) dL_law_1085 dL_law_1086 dL_law_1087 dL_law_1088 dL_law_1089 (by omega) ?_
  refine l_arg (j := 2) dL_law_1090 dL_law_1091 dL_law_1092 dL_law_1093 dL_law_1094 (by omega) ?_
  refine lxI (as := [wz z (i + 1), wz z (i + 2)]) (S := []) dL_law_1095 vL_127 (x5_laws hX hJ.1 wz_ib wz_ib) rfl (by decide) (by decide) hc (fun a M2 h => ?_)
  obtain ⟨rfl, hX2⟩ := h
  refine l_aload_2 dL_law_1098 ?_
  refine l_arg (j := 1) dL_law_1099 dL_law_1100 dL_law_1101 dL_law_1102 dL_law_1103 (by omega) ?_
  refine l_arg (j := 2) dL_law_1104 dL_law_1105 dL_law_1106 dL_law_1107 dL_law_1108 (by omega) ?_
  refine lmI (as := [wz z (i + 1), wz z (i + 2)]) (S := [iv _]) dL_law_1109 vL_130 (m6_laws hM hJ wz_ib wz_ib) rfl (by decide) (Nat.le_of_ble_eq_true rfl) hc (fun a M3 h => ?_)
  obtain ⟨rfl, hM2⟩ := h
  refine l_eq dL_law_1112 ?_
  exact kk _ _ _ hX2 hM2 hJ
theorem lc_film (hi : i + 7 ≤ nz z) (hX : RX Mx S) (hM : RM Mm S) (hJ : JNV S) (hc : cells ≤ 600000 ∧ slots ≤ 7302250) (kk : ∀ M2 M3 S2, RX M2 S2 → RM M3 S2 → JNV S2 → WL z 1518 [some (rv 2), some (rv 0), some (rv 1), some (iv i)] [] (IW z M2 M3) cells slots) : WL z 1117 [some (rv 2), some (rv 0), some (rv 1), some (iv i)] [] (IW z Mx Mm) cells slots := by
  obtain ⟨nT, X, τ, img, τi, tn, tp, ss, sz, cl⟩ := S
  refine l_aload_1 dL_law_1117 ?_
  refine l_arg (j := 1) dL_law_1118 dL_law_1119 dL_law_1120 dL_law_1121 dL_law_1122 (by omega) ?_
  refine l_arg (j := 2) dL_law_1123 dL_law_1124 dL_law_1125 dL_law_1126 dL_law_1127 (by omega) ?_
  refine l_arg (j := 3) dL_law_1128 dL_law_1129 dL_law_1130 dL_law_1131 dL_law_1132 (by omega) ?_
  refine lxI (as := [wz z (i + 1), wz z (i + 2), wz z (i + 3)]) (S := []) dL_law_1133 vL_131 (x5_film hX hJ.1 wz_ib wz_ib wz_ib) rfl (by decide) (by decide) hc (fun a M2 h => ?_)
  obtain ⟨rfl, hX2⟩ := h
  refine l_aload_2 dL_law_1136 ?_
  refine l_arg (j := 1) dL_law_1137 dL_law_1138 dL_law_1139 dL_law_1140 dL_law_1141 (by omega) ?_
  refine l_arg (j := 2) dL_law_1142 dL_law_1143 dL_law_1144 dL_law_1145 dL_law_1146 (by omega) ?_
  refine l_arg (j := 3) dL_law_1147 dL_law_1148 dL_law_1149 dL_law_1150 dL_law_1151 (by omega) ?_
  refine lmI (as := [wz z (i + 1), wz z (i + 2), wz z (i + 3)]) (S := [iv _]) dL_law_1152 vL_134 (m6_film hM hJ wz_ib wz_ib wz_ib) rfl (by decide) (Nat.le_of_ble_eq_true rfl) hc (fun a M3 h => ?_)
  obtain ⟨rfl, hM2⟩ := h
  refine l_eq dL_law_1155 ?_
  exact kk _ _ _ hX2 hM2 (t_film_j hJ)
theorem lc_drawn (hi : i + 7 ≤ nz z) (hX : RX Mx S) (hM : RM Mm S) (hJ : JNV S) (hc : cells ≤ 600000 ∧ slots ≤ 7302250) (kk : ∀ M2 M3 S2, RX M2 S2 → RM M3 S2 → JNV S2 → WL z 1518 [some (rv 2), some (rv 0), some (rv 1), some (iv i)] [] (IW z M2 M3) cells slots) : WL z 1160 [some (rv 2), some (rv 0), some (rv 1), some (iv i)] [] (IW z Mx Mm) cells slots := by
  obtain ⟨nT, X, τ, img, τi, tn, tp, ss, sz, cl⟩ := S
  refine l_aload_1 dL_law_1160 ?_
  refine l_arg (j := 1) dL_law_1161 dL_law_1162 dL_law_1163 dL_law_1164 dL_law_1165 (by omega) ?_
  refine l_arg (j := 2) dL_law_1166 dL_law_1167 dL_law_1168 dL_law_1169 dL_law_1170 (by omega) ?_
  refine l_arg (j := 3) dL_law_1171 dL_law_1172 dL_law_1173 dL_law_1174 dL_law_1175 (by omega) ?_
  refine lxI (as := [wz z (i + 1), wz z (i + 2), wz z (i + 3)]) (S := []) dL_law_1176 vL_135 (x5_drawn hX hJ.1 wz_ib wz_ib wz_ib) rfl (by decide) (by decide) hc (fun a M2 h => ?_)
  obtain ⟨rfl, hX2⟩ := h
  refine l_aload_2 dL_law_1179 ?_
  refine l_arg (j := 1) dL_law_1180 dL_law_1181 dL_law_1182 dL_law_1183 dL_law_1184 (by omega) ?_
  refine l_arg (j := 2) dL_law_1185 dL_law_1186 dL_law_1187 dL_law_1188 dL_law_1189 (by omega) ?_
  refine l_arg (j := 3) dL_law_1190 dL_law_1191 dL_law_1192 dL_law_1193 dL_law_1194 (by omega) ?_
  refine lmI (as := [wz z (i + 1), wz z (i + 2), wz z (i + 3)]) (S := [iv _]) dL_law_1195 vL_138 (m6_drawn hM hJ wz_ib wz_ib wz_ib) rfl (by decide) (Nat.le_of_ble_eq_true rfl) hc (fun a M3 h => ?_)
  obtain ⟨rfl, hM2⟩ := h
  refine l_eq dL_law_1198 ?_
  exact kk _ _ _ hX2 hM2 hJ
theorem lc_odds (hi : i + 7 ≤ nz z) (hX : RX Mx S) (hM : RM Mm S) (hJ : JNV S) (hc : cells ≤ 600000 ∧ slots ≤ 7302250) (kk : ∀ M2 M3 S2, RX M2 S2 → RM M3 S2 → JNV S2 → WL z 1518 [some (rv 2), some (rv 0), some (rv 1), some (iv i)] [] (IW z M2 M3) cells slots) : WL z 1203 [some (rv 2), some (rv 0), some (rv 1), some (iv i)] [] (IW z Mx Mm) cells slots := by
  obtain ⟨nT, X, τ, img, τi, tn, tp, ss, sz, cl⟩ := S
  refine l_aload_1 dL_law_1203 ?_
  refine l_arg (j := 1) dL_law_1204 dL_law_1205 dL_law_1206 dL_law_1207 dL_law_1208 (by omega) ?_
  refine l_arg (j := 2) dL_law_1209 dL_law_1210 dL_law_1211 dL_law_1212 dL_law_1213 (by omega) ?_
  refine l_arg (j := 3) dL_law_1214 dL_law_1215 dL_law_1216 dL_law_1217 dL_law_1218 (by omega) ?_
  refine l_arg (j := 4) dL_law_1219 dL_law_1220 dL_law_1221 dL_law_1222 dL_law_1223 (by omega) ?_
  refine lxJ (as := [wz z (i + 1), wz z (i + 2), wz z (i + 3), wz z (i + 4)]) (S := []) dL_law_1224 vL_139 (x5_odds hX hJ.1 wz_ib wz_ib wz_ib wz_ib) rfl (by decide) (by decide) hc (fun a M2 h => ?_)
  obtain ⟨rfl, hX2⟩ := h
  refine l_aload_2 dL_law_1227 ?_
  refine l_arg (j := 1) dL_law_1228 dL_law_1229 dL_law_1230 dL_law_1231 dL_law_1232 (by omega) ?_
  refine l_arg (j := 2) dL_law_1233 dL_law_1234 dL_law_1235 dL_law_1236 dL_law_1237 (by omega) ?_
  refine l_arg (j := 3) dL_law_1238 dL_law_1239 dL_law_1240 dL_law_1241 dL_law_1242 (by omega) ?_
  refine l_arg (j := 4) dL_law_1243 dL_law_1244 dL_law_1245 dL_law_1246 dL_law_1247 (by omega) ?_
  refine lmJ (as := [wz z (i + 1), wz z (i + 2), wz z (i + 3), wz z (i + 4)]) (S := [jv _]) dL_law_1248 vL_143 (m6_odds hM hJ wz_ib wz_ib wz_ib wz_ib) rfl (by decide) (Nat.le_of_ble_eq_true rfl) hc (fun a M3 h => ?_)
  obtain ⟨rfl, hM2⟩ := h
  refine l_lcmp dL_law_1251 (l_ife dL_law_1252 ?_)
  exact kk _ _ _ hX2 hM2 hJ
theorem lc_image (hi : i + 7 ≤ nz z) (hX : RX Mx S) (hM : RM Mm S) (hJ : JNV S) (hc : cells ≤ 600000 ∧ slots ≤ 7302250) (kk : ∀ M2 M3 S2, RX M2 S2 → RM M3 S2 → JNV S2 → WL z 1518 [some (rv 2), some (rv 0), some (rv 1), some (iv i)] [] (IW z M2 M3) cells slots) : WL z 1257 [some (rv 2), some (rv 0), some (rv 1), some (iv i)] [] (IW z Mx Mm) cells slots := by
  obtain ⟨nT, X, τ, img, τi, tn, tp, ss, sz, cl⟩ := S
  refine l_aload_1 dL_law_1257 ?_
  refine lxI (as := []) (S := []) dL_law_1258 vL_144 (x5_image hX hJ.1) rfl (by decide) (by decide) hc (fun a M2 h => ?_)
  obtain ⟨rfl, hX2⟩ := h
  refine l_aload_2 dL_law_1261 ?_
  refine lmI (as := []) (S := [iv _]) dL_law_1262 vL_147 (m6_image hM hJ) rfl (by decide) (Nat.le_of_ble_eq_true rfl) hc (fun a M3 h => ?_)
  obtain ⟨rfl, hM2⟩ := h
  refine l_eq dL_law_1265 ?_
  exact kk _ _ _ hX2 hM2 (t_image_j hJ)
theorem lc_back (hi : i + 7 ≤ nz z) (hX : RX Mx S) (hM : RM Mm S) (hJ : JNV S) (hc : cells ≤ 600000 ∧ slots ≤ 7302250) (kk : ∀ M2 M3 S2, RX M2 S2 → RM M3 S2 → JNV S2 → WL z 1518 [some (rv 2), some (rv 0), some (rv 1), some (iv i)] [] (IW z M2 M3) cells slots) : WL z 1270 [some (rv 2), some (rv 0), some (rv 1), some (iv i)] [] (IW z Mx Mm) cells slots := by
  obtain ⟨nT, X, τ, img, τi, tn, tp, ss, sz, cl⟩ := S
  refine l_aload_1 dL_law_1270 ?_
  refine lxI (as := []) (S := []) dL_law_1271 vL_148 (x5_back hX hJ.1) rfl (by decide) (by decide) hc (fun a M2 h => ?_)
  obtain ⟨rfl, hX2⟩ := h
  refine l_aload_2 dL_law_1274 ?_
  refine lmI (as := []) (S := [iv _]) dL_law_1275 vL_151 (m6_back hM hJ) rfl (by decide) (Nat.le_of_ble_eq_true rfl) hc (fun a M3 h => ?_)
  obtain ⟨rfl, hM2⟩ := h
  refine l_eq dL_law_1278 ?_
  exact kk _ _ _ hX2 hM2 (t_back_j hJ)
theorem lc_sheet (hi : i + 7 ≤ nz z) (hX : RX Mx S) (hM : RM Mm S) (hJ : JNV S) (hc : cells ≤ 600000 ∧ slots ≤ 7302250) (kk : ∀ M2 M3 S2, RX M2 S2 → RM M3 S2 → JNV S2 → WL z 1518 [some (rv 2), some (rv 0), some (rv 1), some (iv i)] [] (IW z M2 M3) cells slots) : WL z 1283 [some (rv 2), some (rv 0), some (rv 1), some (iv i)] [] (IW z Mx Mm) cells slots := by
  obtain ⟨nT, X, τ, img, τi, tn, tp, ss, sz, cl⟩ := S
  refine l_aload_1 dL_law_1283 ?_
  refine l_arg (j := 1) dL_law_1284 dL_law_1285 dL_law_1286 dL_law_1287 dL_law_1288 (by omega) ?_
  refine l_arg (j := 2) dL_law_1289 dL_law_1290 dL_law_1291 dL_law_1292 dL_law_1293 (by omega) ?_
  refine l_arg (j := 3) dL_law_1294 dL_law_1295 dL_law_1296 dL_law_1297 dL_law_1298 (by omega) ?_
  refine lxI (as := [wz z (i + 1), wz z (i + 2), wz z (i + 3)]) (S := []) dL_law_1299 vL_152 (x5_sheet hX hJ.1 wz_ib wz_ib wz_ib) rfl (by decide) (by decide) hc (fun a M2 h => ?_)
  obtain ⟨rfl, hX2⟩ := h
  refine l_aload_2 dL_law_1302 ?_
  refine l_arg (j := 1) dL_law_1303 dL_law_1304 dL_law_1305 dL_law_1306 dL_law_1307 (by omega) ?_
  refine l_arg (j := 2) dL_law_1308 dL_law_1309 dL_law_1310 dL_law_1311 dL_law_1312 (by omega) ?_
  refine l_arg (j := 3) dL_law_1313 dL_law_1314 dL_law_1315 dL_law_1316 dL_law_1317 (by omega) ?_
  refine lmI (as := [wz z (i + 1), wz z (i + 2), wz z (i + 3)]) (S := [iv _]) dL_law_1318 vL_155 (m6_sheet hM hJ wz_ib wz_ib wz_ib) rfl (by decide) (Nat.le_of_ble_eq_true rfl) hc (fun a M3 h => ?_)
  obtain ⟨rfl, hM2⟩ := h
  refine l_eq dL_law_1321 ?_
  exact kk _ _ _ hX2 hM2 (t_sheet_j hJ)
theorem lc_cell (hi : i + 7 ≤ nz z) (hX : RX Mx S) (hM : RM Mm S) (hJ : JNV S) (hc : cells ≤ 600000 ∧ slots ≤ 7302250) (kk : ∀ M2 M3 S2, RX M2 S2 → RM M3 S2 → JNV S2 → WL z 1518 [some (rv 2), some (rv 0), some (rv 1), some (iv i)] [] (IW z M2 M3) cells slots) : WL z 1326 [some (rv 2), some (rv 0), some (rv 1), some (iv i)] [] (IW z Mx Mm) cells slots := by
  obtain ⟨nT, X, τ, img, τi, tn, tp, ss, sz, cl⟩ := S
  refine l_aload_1 dL_law_1326 ?_
  refine l_arg (j := 1) dL_law_1327 dL_law_1328 dL_law_1329 dL_law_1330 dL_law_1331 (by omega) ?_
  refine l_arg (j := 2) dL_law_1332 dL_law_1333 dL_law_1334 dL_law_1335 dL_law_1336 (by omega) ?_
  refine l_arg (j := 3) dL_law_1337 dL_law_1338 dL_law_1339 dL_law_1340 dL_law_1341 (by omega) ?_
  refine lxI (as := [wz z (i + 1), wz z (i + 2), wz z (i + 3)]) (S := []) dL_law_1342 vL_156 (x5_cell hX hJ.1 wz_ib wz_ib wz_ib) rfl (by decide) (by decide) hc (fun a M2 h => ?_)
  obtain ⟨rfl, hX2⟩ := h
  refine l_aload_2 dL_law_1345 ?_
  refine l_arg (j := 1) dL_law_1346 dL_law_1347 dL_law_1348 dL_law_1349 dL_law_1350 (by omega) ?_
  refine l_arg (j := 2) dL_law_1351 dL_law_1352 dL_law_1353 dL_law_1354 dL_law_1355 (by omega) ?_
  refine l_arg (j := 3) dL_law_1356 dL_law_1357 dL_law_1358 dL_law_1359 dL_law_1360 (by omega) ?_
  refine lmI (as := [wz z (i + 1), wz z (i + 2), wz z (i + 3)]) (S := [iv _]) dL_law_1361 vL_159 (m6_cell hM hJ wz_ib wz_ib wz_ib) rfl (by decide) (Nat.le_of_ble_eq_true rfl) hc (fun a M3 h => ?_)
  obtain ⟨rfl, hM2⟩ := h
  refine l_eq dL_law_1364 ?_
  exact kk _ _ _ hX2 hM2 (t_cell_j hJ wz_ib)
theorem lc_copy (hi : i + 7 ≤ nz z) (hX : RX Mx S) (hM : RM Mm S) (hJ : JNV S) (hc : cells ≤ 600000 ∧ slots ≤ 7302250) (kk : ∀ M2 M3 S2, RX M2 S2 → RM M3 S2 → JNV S2 → WL z 1518 [some (rv 2), some (rv 0), some (rv 1), some (iv i)] [] (IW z M2 M3) cells slots) : WL z 1369 [some (rv 2), some (rv 0), some (rv 1), some (iv i)] [] (IW z Mx Mm) cells slots := by
  obtain ⟨nT, X, τ, img, τi, tn, tp, ss, sz, cl⟩ := S
  refine l_aload_1 dL_law_1369 ?_
  refine l_arg (j := 1) dL_law_1370 dL_law_1371 dL_law_1372 dL_law_1373 dL_law_1374 (by omega) ?_
  refine l_arg (j := 2) dL_law_1375 dL_law_1376 dL_law_1377 dL_law_1378 dL_law_1379 (by omega) ?_
  refine l_arg (j := 3) dL_law_1380 dL_law_1381 dL_law_1382 dL_law_1383 dL_law_1384 (by omega) ?_
  refine l_arg (j := 4) dL_law_1385 dL_law_1386 dL_law_1387 dL_law_1388 dL_law_1389 (by omega) ?_
  refine l_arg (j := 5) dL_law_1390 dL_law_1391 dL_law_1392 dL_law_1393 dL_law_1394 (by omega) ?_
  refine lxI (as := [wz z (i + 1), wz z (i + 2), wz z (i + 3), wz z (i + 4), wz z (i + 5)]) (S := []) dL_law_1395 vL_160 (x5_copy hX hJ.1 wz_ib wz_ib wz_ib wz_ib wz_ib) rfl (by decide) (by decide) hc (fun a M2 h => ?_)
  obtain ⟨rfl, hX2⟩ := h
  refine l_aload_2 dL_law_1398 ?_
  refine l_arg (j := 1) dL_law_1399 dL_law_1400 dL_law_1401 dL_law_1402 dL_law_1403 (by omega) ?_
  refine l_arg (j := 2) dL_law_1404 dL_law_1405 dL_law_1406 dL_law_1407 dL_law_1408 (by omega) ?_
  refine l_arg (j := 3) dL_law_1409 dL_law_1410 dL_law_1411 dL_law_1412 dL_law_1413 (by omega) ?_
  refine l_arg (j := 4) dL_law_1414 dL_law_1415 dL_law_1416 dL_law_1417 dL_law_1418 (by omega) ?_
  refine l_arg (j := 5) dL_law_1419 dL_law_1420 dL_law_1421 dL_law_1422 dL_law_1423 (by omega) ?_
  refine lmI (as := [wz z (i + 1), wz z (i + 2), wz z (i + 3), wz z (i + 4), wz z (i + 5)]) (S := [iv _]) dL_law_1424 vL_164 (m6_copy hM hJ wz_ib wz_ib wz_ib wz_ib wz_ib) rfl (by decide) (Nat.le_of_ble_eq_true rfl) hc (fun a M3 h => ?_)
  obtain ⟨rfl, hM2⟩ := h
  refine l_eq dL_law_1427 ?_
  exact kk _ _ _ hX2 hM2 (t_copy_j hJ)
theorem lc_peopleBy (hi : i + 7 ≤ nz z) (hX : RX Mx S) (hM : RM Mm S) (hJ : JNV S) (hc : cells ≤ 600000 ∧ slots ≤ 7302250) (kk : ∀ M2 M3 S2, RX M2 S2 → RM M3 S2 → JNV S2 → WL z 1518 [some (rv 2), some (rv 0), some (rv 1), some (iv i)] [] (IW z M2 M3) cells slots) : WL z 1432 [some (rv 2), some (rv 0), some (rv 1), some (iv i)] [] (IW z Mx Mm) cells slots := by
  obtain ⟨nT, X, τ, img, τi, tn, tp, ss, sz, cl⟩ := S
  refine l_aload_1 dL_law_1432 ?_
  refine l_arg (j := 1) dL_law_1433 dL_law_1434 dL_law_1435 dL_law_1436 dL_law_1437 (by omega) ?_
  refine l_arg (j := 2) dL_law_1438 dL_law_1439 dL_law_1440 dL_law_1441 dL_law_1442 (by omega) ?_
  refine l_arg (j := 3) dL_law_1443 dL_law_1444 dL_law_1445 dL_law_1446 dL_law_1447 (by omega) ?_
  refine l_arg (j := 4) dL_law_1448 dL_law_1449 dL_law_1450 dL_law_1451 dL_law_1452 (by omega) ?_
  refine lxI (as := [wz z (i + 1), wz z (i + 2), wz z (i + 3), wz z (i + 4)]) (S := []) dL_law_1453 vL_165 (x5_peopleBy hX hJ.1 wz_ib wz_ib wz_ib wz_ib) rfl (by decide) (by decide) hc (fun a M2 h => ?_)
  obtain ⟨rfl, hX2⟩ := h
  refine l_aload_2 dL_law_1456 ?_
  refine l_arg (j := 1) dL_law_1457 dL_law_1458 dL_law_1459 dL_law_1460 dL_law_1461 (by omega) ?_
  refine l_arg (j := 2) dL_law_1462 dL_law_1463 dL_law_1464 dL_law_1465 dL_law_1466 (by omega) ?_
  refine l_arg (j := 3) dL_law_1467 dL_law_1468 dL_law_1469 dL_law_1470 dL_law_1471 (by omega) ?_
  refine l_arg (j := 4) dL_law_1472 dL_law_1473 dL_law_1474 dL_law_1475 dL_law_1476 (by omega) ?_
  refine lmI (as := [wz z (i + 1), wz z (i + 2), wz z (i + 3), wz z (i + 4)]) (S := [iv _]) dL_law_1477 vL_169 (m6_peopleBy hM hJ wz_ib wz_ib wz_ib wz_ib) rfl (by decide) (Nat.le_of_ble_eq_true rfl) hc (fun a M3 h => ?_)
  obtain ⟨rfl, hM2⟩ := h
  refine l_eq dL_law_1480 ?_
  exact kk _ _ _ hX2 hM2 (t_peopleBy_j hJ)
theorem lc_taken (hi : i + 7 ≤ nz z) (hX : RX Mx S) (hM : RM Mm S) (hJ : JNV S) (hc : cells ≤ 600000 ∧ slots ≤ 7302250) (kk : ∀ M2 M3 S2, RX M2 S2 → RM M3 S2 → JNV S2 → WL z 1518 [some (rv 2), some (rv 0), some (rv 1), some (iv i)] [] (IW z M2 M3) cells slots) : WL z 1485 [some (rv 2), some (rv 0), some (rv 1), some (iv i)] [] (IW z Mx Mm) cells slots := by
  obtain ⟨nT, X, τ, img, τi, tn, tp, ss, sz, cl⟩ := S
  refine l_aload_1 dL_law_1485 ?_
  refine l_arg (j := 1) dL_law_1486 dL_law_1487 dL_law_1488 dL_law_1489 dL_law_1490 (by omega) ?_
  refine l_arg (j := 2) dL_law_1491 dL_law_1492 dL_law_1493 dL_law_1494 dL_law_1495 (by omega) ?_
  refine lxI (as := [wz z (i + 1), wz z (i + 2)]) (S := []) dL_law_1496 vL_170 (x5_taken hX hJ.1 wz_ib wz_ib) rfl (by decide) (by decide) hc (fun a M2 h => ?_)
  obtain ⟨rfl, hX2⟩ := h
  refine l_aload_2 dL_law_1499 ?_
  refine l_arg (j := 1) dL_law_1500 dL_law_1501 dL_law_1502 dL_law_1503 dL_law_1504 (by omega) ?_
  refine l_arg (j := 2) dL_law_1505 dL_law_1506 dL_law_1507 dL_law_1508 dL_law_1509 (by omega) ?_
  refine lmI (as := [wz z (i + 1), wz z (i + 2)]) (S := [iv _]) dL_law_1510 vL_173 (m6_taken hM hJ wz_ib wz_ib) rfl (by decide) (Nat.le_of_ble_eq_true rfl) hc (fun a M3 h => ?_)
  obtain ⟨rfl, hM2⟩ := h
  refine l_eq dL_law_1513 ?_
  exact kk _ _ _ hX2 hM2 hJ
theorem lc_all (hi : i + 7 ≤ nz z) (hX : RX Mx S) (hM : RM Mm S) (hJ : JNV S) (hc : cells ≤ 600000 ∧ slots ≤ 7302250) (kk : ∀ M2 M3 S2, RX M2 S2 → RM M3 S2 → JNV S2 → WL z 1518 [some (rv 2), some (rv 0), some (rv 1), some (iv i)] [] (IW z M2 M3) cells slots) : ∀ j : Nat, (j : Int) ≤ 37 → ∃ (off : Int) (t2 : Nat), (#[167, 190, 233, 266, 341, 354, 377, 410, 443, 486, 519, 542, 585, 598, 631, 654, 677, 700, 743, 776, 799, 833, 866, 909, 942, 985, 1028, 1051, 1084, 1127, 1170, 1224, 1237, 1250, 1293, 1336, 1399, 1452] : Array Int)[j]? = some off ∧ ((33 : Nat) : Int) + off = (t2 : Int) ∧ WL z t2 [some (rv 2), some (rv 0), some (rv 1), some (iv i)] [] (IW z Mx Mm) cells slots
  | 0, _ => ⟨167, 200, rfl, rfl, lc_count hi hX hM hJ hc kk⟩
  | 1, _ => ⟨190, 223, rfl, rfl, lc_town hi hX hM hJ hc kk⟩
  | 2, _ => ⟨233, 266, rfl, rfl, lc_door hi hX hM hJ hc kk⟩
  | 3, _ => ⟨266, 299, rfl, rfl, lc_feed hi hX hM hJ hc kk⟩
  | 4, _ => ⟨341, 374, rfl, rfl, lc_text hi hX hM hJ hc kk⟩
  | 5, _ => ⟨354, 387, rfl, rfl, lc_force hi hX hM hJ hc kk⟩
  | 6, _ => ⟨377, 410, rfl, rfl, lc_asks hi hX hM hJ hc kk⟩
  | 7, _ => ⟨410, 443, rfl, rfl, lc_citizen hi hX hM hJ hc kk⟩
  | 8, _ => ⟨443, 476, rfl, rfl, lc_put hi hX hM hJ hc kk⟩
  | 9, _ => ⟨486, 519, rfl, rfl, lc_told hi hX hM hJ hc kk⟩
  | 10, _ => ⟨519, 552, rfl, rfl, lc_twist hi hX hM hJ hc kk⟩
  | 11, _ => ⟨542, 575, rfl, rfl, lc_give hi hX hM hJ hc kk⟩
  | 12, _ => ⟨585, 618, rfl, rfl, lc_minute hi hX hM hJ hc kk⟩
  | 13, _ => ⟨598, 631, rfl, rfl, lc_run hi hX hM hJ hc kk⟩
  | 14, _ => ⟨631, 664, rfl, rfl, lc_when hi hX hM hJ hc kk⟩
  | 15, _ => ⟨654, 687, rfl, rfl, lc_waits hi hX hM hJ hc kk⟩
  | 16, _ => ⟨677, 710, rfl, rfl, lc_pair hi hX hM hJ hc kk⟩
  | 17, _ => ⟨700, 733, rfl, rfl, lc_stand hi hX hM hJ hc kk⟩
  | 18, _ => ⟨743, 776, rfl, rfl, lc_rounds hi hX hM hJ hc kk⟩
  | 19, _ => ⟨776, 809, rfl, rfl, lc_tries hi hX hM hJ hc kk⟩
  | 20, _ => ⟨799, 832, rfl, rfl, lc_share hi hX hM hJ hc kk⟩
  | 21, _ => ⟨833, 866, rfl, rfl, lc_judge hi hX hM hJ hc kk⟩
  | 22, _ => ⟨866, 899, rfl, rfl, lc_kinds hi hX hM hJ hc kk⟩
  | 23, _ => ⟨909, 942, rfl, rfl, lc_doors hi hX hM hJ hc kk⟩
  | 24, _ => ⟨942, 975, rfl, rfl, lc_baskets hi hX hM hJ hc kk⟩
  | 25, _ => ⟨985, 1018, rfl, rfl, lc_firsts hi hX hM hJ hc kk⟩
  | 26, _ => ⟨1028, 1061, rfl, rfl, lc_whose hi hX hM hJ hc kk⟩
  | 27, _ => ⟨1051, 1084, rfl, rfl, lc_laws hi hX hM hJ hc kk⟩
  | 28, _ => ⟨1084, 1117, rfl, rfl, lc_film hi hX hM hJ hc kk⟩
  | 29, _ => ⟨1127, 1160, rfl, rfl, lc_drawn hi hX hM hJ hc kk⟩
  | 30, _ => ⟨1170, 1203, rfl, rfl, lc_odds hi hX hM hJ hc kk⟩
  | 31, _ => ⟨1224, 1257, rfl, rfl, lc_image hi hX hM hJ hc kk⟩
  | 32, _ => ⟨1237, 1270, rfl, rfl, lc_back hi hX hM hJ hc kk⟩
  | 33, _ => ⟨1250, 1283, rfl, rfl, lc_sheet hi hX hM hJ hc kk⟩
  | 34, _ => ⟨1293, 1326, rfl, rfl, lc_cell hi hX hM hJ hc kk⟩
  | 35, _ => ⟨1336, 1369, rfl, rfl, lc_copy hi hX hM hJ hc kk⟩
  | 36, _ => ⟨1399, 1432, rfl, rfl, lc_peopleBy hi hX hM hJ hc kk⟩
  | 37, _ => ⟨1452, 1485, rfl, rfl, lc_taken hi hX hM hJ hc kk⟩
  | j + 38, h => absurd h (by omega)
/-- the loop over the script -/
theorem l_loop (hn : nz z ≤ 3584) (hc : cells ≤ 600000 ∧ slots ≤ 7302250) : ∀ (f i : Nat) (S : SS) (Mx Mm : Mem), i + f = nz z + 7 → RX Mx S → RM Mm S → JNV S → WL z 18 [some (rv 2), some (rv 0), some (rv 1), some (iv i)] [] (IW z Mx Mm) cells slots
  | 0, i, S, Mx, Mm, hf, hX, hM, hJ => by
    refine l_iload_3 dL_law_18 (l_aload_0 dL_law_19 (l_alen dL_law_20 (l_bipush dL_law_21 (by decide) (l_isub dL_law_23 (l_gt dL_law_24 (by omega) (by omega) (fun _ => ?_) (fun q => absurd q (by omega)))))))
    exact l_iconst dL_law_1524 (l_end dL_law_1525 hc)
  | f + 1, i, S, Mx, Mm, hf, hX, hM, hJ => by
    refine l_iload_3 dL_law_18 (l_aload_0 dL_law_19 (l_alen dL_law_20 (l_bipush dL_law_21 (by decide) (l_isub dL_law_23 (l_gt dL_law_24 (by omega) (by omega) (fun _ => ?_) (fun q => ?_))))))
    · exact l_iconst dL_law_1524 (l_end dL_law_1525 hc)
    · have hi : i + 7 ≤ nz z := by omega
      have kk : ∀ M2 M3 S2, RX M2 S2 → RM M3 S2 → JNV S2 → WL z 1518 [some (rv 2), some (rv 0), some (rv 1), some (iv i)] [] (IW z M2 M3) cells slots := fun M2 M3 S2 h1 h2 h3 => by
        refine l_iinc_3 (y := ((i + 7 : Nat) : Int)) dL_law_1518 rfl (by omega) (l_goto dL_law_1521 ?_)
        exact l_loop hn hc (f - 6) (i + 7) S2 M2 M3 (by omega) h1 h2 h3
      refine l_aload_0 dL_law_27 (l_iload_3 dL_law_28 (l_iald dL_law_29 (i := i) rfl (by omega) (l_bipush dL_law_30 (by decide) (l_iand dL_law_32 (r := (Int32.ofInt (wz z i) &&& Int32.ofInt 63).toInt) (Int32.ofInt_toInt _).symm ?_))))
      exact l_tsw dL_law_33 ⟨(Int32.ofInt (wz z i) &&& Int32.ofInt 63).le_toInt, (Int32.ofInt (wz z i) &&& Int32.ofInt 63).toInt_lt⟩ rfl (tgt := 1518) rfl (kk _ _ _ hX hM hJ) (lc_all hi hX hM hJ hc kk)
termination_by f => f
end
