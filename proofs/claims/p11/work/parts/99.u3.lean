/-! THE LAW: its calls -/
section LWO
variable {G : GG} {b L : Nat} {xs : Nat → Int32} {p : Program} {l : Launch} {e : Env} {s : State} {mi : MethodId} {below : List Frame} {meth : Method} {c : Code} {Q : State → Prop} {i : Nat} {M : Mm}
/-- comes -/
theorem lw_op0 (C : lwX G b L xs p s mi meth c) (hi : i + 4 ≤ L) (hI : INV M) (kk : ∀ M2, INV M2 → Lz G b p l e s mi below meth c Q i 1232 [] M2) : Lz G b p l e s mi below meth c Q i 216 [] M := by
  refine lz_ref1 C dL_law_216 ?_
  refine lz_arg C 1 dL_law_217 dL_law_218 dL_law_219 dL_law_220 dL_law_221 ki_1 (by omega) ?_
  refine lz_call C (as := [.int (xs (i + 1))]) (r0 := 0) (st := []) dL_law_222 clF_comes ml_Law_13 gc9 rfl (by decide) rfl rfl (Nat.zero_le _) (both_comes (xs (i + 1)) M hI) (fun M1 r1 h1 => ?_)
  obtain ⟨⟨v1, rfl⟩, h1⟩ := h1
  refine lz_pop C (v := v1) dL_law_225 rfl ?_
  refine lz_ref2 C dL_law_226 ?_
  refine lz_arg C 1 dL_law_227 dL_law_228 dL_law_229 dL_law_230 dL_law_231 ki_1 (by omega) ?_
  refine lz_call C (as := [.int (xs (i + 1))]) (r0 := 57) (st := []) dL_law_232 clM_comes ml_Law_17 gc10 rfl (by decide) rfl rfl (Nat.le_of_ble_eq_true rfl) h1 (fun M2 r2 h2 => ?_)
  obtain ⟨⟨v2, hv, rfl⟩, hI2⟩ := h2
  refine lz_pop C (v := v2) dL_law_235 rfl ?_
  exact lz_end C dL_law_236 (by decide) (kk M2 hI2)
/-- goes -/
theorem lw_op1 (C : lwX G b L xs p s mi meth c) (hi : i + 4 ≤ L) (hI : INV M) (kk : ∀ M2, INV M2 → Lz G b p l e s mi below meth c Q i 1232 [] M2) : Lz G b p l e s mi below meth c Q i 239 [] M := by
  refine lz_ref1 C dL_law_239 ?_
  refine lz_arg C 1 dL_law_240 dL_law_241 dL_law_242 dL_law_243 dL_law_244 ki_1 (by omega) ?_
  refine lz_call C (as := [.int (xs (i + 1))]) (r0 := 0) (st := []) dL_law_245 clF_goes ml_Law_18 gc9 rfl (by decide) rfl rfl (Nat.zero_le _) (both_goes (xs (i + 1)) M hI) (fun M1 r1 h1 => ?_)
  obtain ⟨⟨v1, rfl⟩, h1⟩ := h1
  refine lz_pop C (v := v1) dL_law_248 rfl ?_
  refine lz_ref2 C dL_law_249 ?_
  refine lz_arg C 1 dL_law_250 dL_law_251 dL_law_252 dL_law_253 dL_law_254 ki_1 (by omega) ?_
  refine lz_call C (as := [.int (xs (i + 1))]) (r0 := 57) (st := []) dL_law_255 clM_goes ml_Law_21 gc10 rfl (by decide) rfl rfl (Nat.le_of_ble_eq_true rfl) h1 (fun M2 r2 h2 => ?_)
  obtain ⟨⟨v2, hv, rfl⟩, hI2⟩ := h2
  refine lz_pop C (v := v2) dL_law_258 rfl ?_
  exact lz_end C dL_law_259 (by decide) (kk M2 hI2)
/-- past -/
theorem lw_op2 (C : lwX G b L xs p s mi meth c) (hi : i + 4 ≤ L) (hI : INV M) (kk : ∀ M2, INV M2 → Lz G b p l e s mi below meth c Q i 1232 [] M2) : Lz G b p l e s mi below meth c Q i 262 [] M := by
  refine lz_ref1 C dL_law_262 ?_
  refine lz_arg C 1 dL_law_263 dL_law_264 dL_law_265 dL_law_266 dL_law_267 ki_1 (by omega) ?_
  refine lz_arg C 2 dL_law_268 dL_law_269 dL_law_270 dL_law_271 dL_law_272 ki_2 (by omega) ?_
  refine lz_arg C 3 dL_law_273 dL_law_274 dL_law_275 dL_law_276 dL_law_277 ki_3 (by omega) ?_
  refine lz_call C (as := [.int (xs (i + 1)), .int (xs (i + 2)), .int (xs (i + 3))]) (r0 := 0) (st := []) dL_law_278 clF_past ml_Law_22 gc9 rfl (by decide) rfl rfl (Nat.zero_le _) (both_past (xs (i + 1)) (xs (i + 2)) (xs (i + 3)) M hI) (fun M1 r1 h1 => ?_)
  obtain ⟨⟨v1, rfl⟩, h1⟩ := h1
  refine lz_pop C (v := v1) dL_law_281 rfl ?_
  refine lz_ref2 C dL_law_282 ?_
  refine lz_arg C 1 dL_law_283 dL_law_284 dL_law_285 dL_law_286 dL_law_287 ki_1 (by omega) ?_
  refine lz_arg C 2 dL_law_288 dL_law_289 dL_law_290 dL_law_291 dL_law_292 ki_2 (by omega) ?_
  refine lz_arg C 3 dL_law_293 dL_law_294 dL_law_295 dL_law_296 dL_law_297 ki_3 (by omega) ?_
  refine lz_call C (as := [.int (xs (i + 1)), .int (xs (i + 2)), .int (xs (i + 3))]) (r0 := 57) (st := []) dL_law_298 clM_past_ ml_Law_26 gc10 rfl (by decide) rfl rfl (Nat.le_of_ble_eq_true rfl) h1 (fun M2 r2 h2 => ?_)
  obtain ⟨⟨v2, hv, rfl⟩, hI2⟩ := h2
  refine lz_pop C (v := v2) dL_law_301 rfl ?_
  exact lz_end C dL_law_302 (by decide) (kk M2 hI2)
/-- of -/
theorem lw_op3 (C : lwX G b L xs p s mi meth c) (hi : i + 4 ≤ L) (hI : INV M) (kk : ∀ M2, INV M2 → Lz G b p l e s mi below meth c Q i 1232 [] M2) : Lz G b p l e s mi below meth c Q i 305 [] M := by
  refine lz_ref1 C dL_law_305 ?_
  refine lz_arg C 1 dL_law_306 dL_law_307 dL_law_308 dL_law_309 dL_law_310 ki_1 (by omega) ?_
  refine lz_arg C 2 dL_law_311 dL_law_312 dL_law_313 dL_law_314 dL_law_315 ki_2 (by omega) ?_
  refine lz_call C (as := [.int (xs (i + 1)), .int (xs (i + 2))]) (r0 := 0) (st := []) dL_law_316 clF_of ml_Law_27 gc9 rfl (by decide) rfl rfl (Nat.zero_le _) (both_of (xs (i + 1)) (xs (i + 2)) M hI) (fun M1 r1 h1 => ?_)
  obtain ⟨⟨v1, rfl⟩, h1⟩ := h1
  refine lz_pop C (v := v1) dL_law_319 rfl ?_
  refine lz_ref2 C dL_law_320 ?_
  refine lz_arg C 1 dL_law_321 dL_law_322 dL_law_323 dL_law_324 dL_law_325 ki_1 (by omega) ?_
  refine lz_arg C 2 dL_law_326 dL_law_327 dL_law_328 dL_law_329 dL_law_330 ki_2 (by omega) ?_
  refine lz_call C (as := [.int (xs (i + 1)), .int (xs (i + 2))]) (r0 := 57) (st := []) dL_law_331 clM_of ml_Law_31 gc10 rfl (by decide) rfl rfl (Nat.le_of_ble_eq_true rfl) h1 (fun M2 r2 h2 => ?_)
  obtain ⟨⟨v2, hv, rfl⟩, hI2⟩ := h2
  refine lz_pop C (v := v2) dL_law_334 rfl ?_
  exact lz_end C dL_law_335 (by decide) (kk M2 hI2)
/-- neutral -/
theorem lw_op4 (C : lwX G b L xs p s mi meth c) (hi : i + 4 ≤ L) (hI : INV M) (kk : ∀ M2, INV M2 → Lz G b p l e s mi below meth c Q i 1232 [] M2) : Lz G b p l e s mi below meth c Q i 338 [] M := by
  refine lz_ref1 C dL_law_338 ?_
  refine lz_arg C 1 dL_law_339 dL_law_340 dL_law_341 dL_law_342 dL_law_343 ki_1 (by omega) ?_
  refine lz_call C (as := [.int (xs (i + 1))]) (r0 := 0) (st := []) dL_law_344 clF_neutral ml_Law_32 gc9 rfl (by decide) rfl rfl (Nat.zero_le _) (both_neutral (xs (i + 1)) M hI) (fun M1 r1 h1 => ?_)
  obtain ⟨⟨v1, rfl⟩, h1⟩ := h1
  refine lz_pop C (v := v1) dL_law_347 rfl ?_
  refine lz_ref2 C dL_law_348 ?_
  refine lz_arg C 1 dL_law_349 dL_law_350 dL_law_351 dL_law_352 dL_law_353 ki_1 (by omega) ?_
  refine lz_call C (as := [.int (xs (i + 1))]) (r0 := 57) (st := []) dL_law_354 clM_neutral ml_Law_35 gc10 rfl (by decide) rfl rfl (Nat.le_of_ble_eq_true rfl) h1 (fun M2 r2 h2 => ?_)
  obtain ⟨⟨v2, hv, rfl⟩, hI2⟩ := h2
  refine lz_pop C (v := v2) dL_law_357 rfl ?_
  exact lz_end C dL_law_358 (by decide) (kk M2 hI2)
/-- rules -/
theorem lw_op5 (C : lwX G b L xs p s mi meth c) (hi : i + 4 ≤ L) (hI : INV M) (kk : ∀ M2, INV M2 → Lz G b p l e s mi below meth c Q i 1232 [] M2) : Lz G b p l e s mi below meth c Q i 361 [] M := by
  refine lz_ref1 C dL_law_361 ?_
  refine lz_arg C 1 dL_law_362 dL_law_363 dL_law_364 dL_law_365 dL_law_366 ki_1 (by omega) ?_
  refine lz_call C (as := [.int (xs (i + 1))]) (r0 := 0) (st := []) dL_law_367 clF_rules ml_Law_36 gc9 rfl (by decide) rfl rfl (Nat.zero_le _) (both_rules (xs (i + 1)) M hI) (fun M1 r1 h1 => ?_)
  obtain ⟨⟨v1, rfl⟩, h1⟩ := h1
  refine lz_pop C (v := v1) dL_law_370 rfl ?_
  refine lz_ref2 C dL_law_371 ?_
  refine lz_arg C 1 dL_law_372 dL_law_373 dL_law_374 dL_law_375 dL_law_376 ki_1 (by omega) ?_
  refine lz_call C (as := [.int (xs (i + 1))]) (r0 := 57) (st := []) dL_law_377 clM_rules ml_Law_39 gc10 rfl (by decide) rfl rfl (Nat.le_of_ble_eq_true rfl) h1 (fun M2 r2 h2 => ?_)
  obtain ⟨⟨v2, hv, rfl⟩, hI2⟩ := h2
  refine lz_pop C (v := v2) dL_law_380 rfl ?_
  exact lz_end C dL_law_381 (by decide) (kk M2 hI2)
/-- frees -/
theorem lw_op6 (C : lwX G b L xs p s mi meth c) (hi : i + 4 ≤ L) (hI : INV M) (kk : ∀ M2, INV M2 → Lz G b p l e s mi below meth c Q i 1232 [] M2) : Lz G b p l e s mi below meth c Q i 384 [] M := by
  refine lz_ref1 C dL_law_384 ?_
  refine lz_arg C 1 dL_law_385 dL_law_386 dL_law_387 dL_law_388 dL_law_389 ki_1 (by omega) ?_
  refine lz_call C (as := [.int (xs (i + 1))]) (r0 := 0) (st := []) dL_law_390 clF_frees ml_Law_40 gc9 rfl (by decide) rfl rfl (Nat.zero_le _) (both_frees (xs (i + 1)) M hI) (fun M1 r1 h1 => ?_)
  obtain ⟨⟨v1, rfl⟩, h1⟩ := h1
  refine lz_pop C (v := v1) dL_law_393 rfl ?_
  refine lz_ref2 C dL_law_394 ?_
  refine lz_arg C 1 dL_law_395 dL_law_396 dL_law_397 dL_law_398 dL_law_399 ki_1 (by omega) ?_
  refine lz_call C (as := [.int (xs (i + 1))]) (r0 := 57) (st := []) dL_law_400 clM_frees ml_Law_43 gc10 rfl (by decide) rfl rfl (Nat.le_of_ble_eq_true rfl) h1 (fun M2 r2 h2 => ?_)
  obtain ⟨⟨v2, hv, rfl⟩, hI2⟩ := h2
  refine lz_pop C (v := v2) dL_law_403 rfl ?_
  exact lz_end C dL_law_404 (by decide) (kk M2 hI2)
/-- duty -/
theorem lw_op7 (C : lwX G b L xs p s mi meth c) (hi : i + 4 ≤ L) (hI : INV M) (kk : ∀ M2, INV M2 → Lz G b p l e s mi below meth c Q i 1232 [] M2) : Lz G b p l e s mi below meth c Q i 407 [] M := by
  refine lz_ref1 C dL_law_407 ?_
  refine lz_arg C 1 dL_law_408 dL_law_409 dL_law_410 dL_law_411 dL_law_412 ki_1 (by omega) ?_
  refine lz_arg C 2 dL_law_413 dL_law_414 dL_law_415 dL_law_416 dL_law_417 ki_2 (by omega) ?_
  refine lz_call C (as := [.int (xs (i + 1)), .int (xs (i + 2))]) (r0 := 0) (st := []) dL_law_418 clF_duty ml_Law_44 gc9 rfl (by decide) rfl rfl (Nat.zero_le _) (both_duty (xs (i + 1)) (xs (i + 2)) M hI) (fun M1 r1 h1 => ?_)
  obtain ⟨⟨v1, rfl⟩, h1⟩ := h1
  refine lz_pop C (v := v1) dL_law_421 rfl ?_
  refine lz_ref2 C dL_law_422 ?_
  refine lz_arg C 1 dL_law_423 dL_law_424 dL_law_425 dL_law_426 dL_law_427 ki_1 (by omega) ?_
  refine lz_arg C 2 dL_law_428 dL_law_429 dL_law_430 dL_law_431 dL_law_432 ki_2 (by omega) ?_
  refine lz_call C (as := [.int (xs (i + 1)), .int (xs (i + 2))]) (r0 := 57) (st := []) dL_law_433 clM_duty ml_Law_47 gc10 rfl (by decide) rfl rfl (Nat.le_of_ble_eq_true rfl) h1 (fun M2 r2 h2 => ?_)
  obtain ⟨⟨v2, hv, rfl⟩, hI2⟩ := h2
  refine lz_pop C (v := v2) dL_law_436 rfl ?_
  exact lz_end C dL_law_437 (by decide) (kk M2 hI2)
/-- calendar -/
theorem lw_op8 (C : lwX G b L xs p s mi meth c) (hi : i + 4 ≤ L) (hI : INV M) (kk : ∀ M2, INV M2 → Lz G b p l e s mi below meth c Q i 1232 [] M2) : Lz G b p l e s mi below meth c Q i 440 [] M := by
  refine lz_ref1 C dL_law_440 ?_
  refine lz_call C (as := []) (r0 := 0) (st := []) dL_law_441 clF_calendar ml_Law_48 gc9 rfl (by decide) rfl rfl (Nat.zero_le _) (both_calendar M hI) (fun M1 r1 h1 => ?_)
  obtain ⟨⟨v1, rfl⟩, h1⟩ := h1
  refine lz_pop C (v := v1) dL_law_444 rfl ?_
  refine lz_ref2 C dL_law_445 ?_
  refine lz_call C (as := []) (r0 := 57) (st := []) dL_law_446 clM_calendar ml_Law_52 gc10 rfl (by decide) rfl rfl (Nat.le_of_ble_eq_true rfl) h1 (fun M2 r2 h2 => ?_)
  obtain ⟨⟨v2, hv, rfl⟩, hI2⟩ := h2
  refine lz_pop C (v := v2) dL_law_449 rfl ?_
  exact lz_end C dL_law_450 (by decide) (kk M2 hI2)
/-- dutyOf -/
theorem lw_op9 (C : lwX G b L xs p s mi meth c) (hi : i + 4 ≤ L) (hI : INV M) (kk : ∀ M2, INV M2 → Lz G b p l e s mi below meth c Q i 1232 [] M2) : Lz G b p l e s mi below meth c Q i 453 [] M := by
  refine lz_ref1 C dL_law_453 ?_
  refine lz_arg C 1 dL_law_454 dL_law_455 dL_law_456 dL_law_457 dL_law_458 ki_1 (by omega) ?_
  refine lz_arg C 2 dL_law_459 dL_law_460 dL_law_461 dL_law_462 dL_law_463 ki_2 (by omega) ?_
  refine lz_call C (as := [.int (xs (i + 1)), .int (xs (i + 2))]) (r0 := 0) (st := []) dL_law_464 clF_dutyOf ml_Law_53 gc9 rfl (by decide) rfl rfl (Nat.zero_le _) (both_dutyOf (xs (i + 1)) (xs (i + 2)) M hI) (fun M1 r1 h1 => ?_)
  obtain ⟨⟨v1, rfl⟩, h1⟩ := h1
  refine lz_ref2 C dL_law_467 ?_
  refine lz_arg C 1 dL_law_468 dL_law_469 dL_law_470 dL_law_471 dL_law_472 ki_1 (by omega) ?_
  refine lz_arg C 2 dL_law_473 dL_law_474 dL_law_475 dL_law_476 dL_law_477 ki_2 (by omega) ?_
  refine lz_call C (as := [.int (xs (i + 1)), .int (xs (i + 2))]) (r0 := 57) (st := [.int v1]) dL_law_478 clM_dutyOf ml_Law_56 gc10 rfl (by decide) rfl rfl (Nat.le_of_ble_eq_true rfl) h1 (fun M2 r2 h2 => ?_)
  obtain ⟨⟨v2, hv, rfl⟩, hI2⟩ := h2
  cases hv
  exact lz_eq C (v := v1) 1232 dL_law_481 (by decide) rfl (kk M2 hI2)
/-- stands -/
theorem lw_op10 (C : lwX G b L xs p s mi meth c) (hi : i + 4 ≤ L) (hI : INV M) (kk : ∀ M2, INV M2 → Lz G b p l e s mi below meth c Q i 1232 [] M2) : Lz G b p l e s mi below meth c Q i 486 [] M := by
  refine lz_ref1 C dL_law_486 ?_
  refine lz_arg C 1 dL_law_487 dL_law_488 dL_law_489 dL_law_490 dL_law_491 ki_1 (by omega) ?_
  refine lz_call C (as := [.int (xs (i + 1))]) (r0 := 0) (st := []) dL_law_492 clF_stands ml_Law_57 gc9 rfl (by decide) rfl rfl (Nat.zero_le _) (both_stands (xs (i + 1)) M hI) (fun M1 r1 h1 => ?_)
  obtain ⟨⟨v1, rfl⟩, h1⟩ := h1
  refine lz_pop C (v := v1) dL_law_495 rfl ?_
  refine lz_ref2 C dL_law_496 ?_
  refine lz_arg C 1 dL_law_497 dL_law_498 dL_law_499 dL_law_500 dL_law_501 ki_1 (by omega) ?_
  refine lz_call C (as := [.int (xs (i + 1))]) (r0 := 57) (st := []) dL_law_502 clM_stands ml_Law_60 gc10 rfl (by decide) rfl rfl (Nat.le_of_ble_eq_true rfl) h1 (fun M2 r2 h2 => ?_)
  obtain ⟨⟨v2, hv, rfl⟩, hI2⟩ := h2
  refine lz_pop C (v := v2) dL_law_505 rfl ?_
  exact lz_end C dL_law_506 (by decide) (kk M2 hI2)
/-- may -/
theorem lw_op11 (C : lwX G b L xs p s mi meth c) (hi : i + 4 ≤ L) (hI : INV M) (kk : ∀ M2, INV M2 → Lz G b p l e s mi below meth c Q i 1232 [] M2) : Lz G b p l e s mi below meth c Q i 509 [] M := by
  refine lz_ref1 C dL_law_509 ?_
  refine lz_arg C 1 dL_law_510 dL_law_511 dL_law_512 dL_law_513 dL_law_514 ki_1 (by omega) ?_
  refine lz_arg C 2 dL_law_515 dL_law_516 dL_law_517 dL_law_518 dL_law_519 ki_2 (by omega) ?_
  refine lz_call C (as := [.int (xs (i + 1)), .int (xs (i + 2))]) (r0 := 0) (st := []) dL_law_520 clF_may ml_Law_61 gc9 rfl (by decide) rfl rfl (Nat.zero_le _) (both_may (xs (i + 1)) (xs (i + 2)) M hI) (fun M1 r1 h1 => ?_)
  obtain ⟨⟨v1, rfl⟩, h1⟩ := h1
  refine lz_pop C (v := v1) dL_law_523 rfl ?_
  refine lz_ref2 C dL_law_524 ?_
  refine lz_arg C 1 dL_law_525 dL_law_526 dL_law_527 dL_law_528 dL_law_529 ki_1 (by omega) ?_
  refine lz_arg C 2 dL_law_530 dL_law_531 dL_law_532 dL_law_533 dL_law_534 ki_2 (by omega) ?_
  refine lz_call C (as := [.int (xs (i + 1)), .int (xs (i + 2))]) (r0 := 57) (st := []) dL_law_535 clM_may ml_Law_64 gc10 rfl (by decide) rfl rfl (Nat.le_of_ble_eq_true rfl) h1 (fun M2 r2 h2 => ?_)
  obtain ⟨⟨v2, hv, rfl⟩, hI2⟩ := h2
  refine lz_pop C (v := v2) dL_law_538 rfl ?_
  exact lz_end C dL_law_539 (by decide) (kk M2 hI2)
/-- dislike -/
theorem lw_op12 (C : lwX G b L xs p s mi meth c) (hi : i + 4 ≤ L) (hI : INV M) (kk : ∀ M2, INV M2 → Lz G b p l e s mi below meth c Q i 1232 [] M2) : Lz G b p l e s mi below meth c Q i 542 [] M := by
  refine lz_ref1 C dL_law_542 ?_
  refine lz_arg C 1 dL_law_543 dL_law_544 dL_law_545 dL_law_546 dL_law_547 ki_1 (by omega) ?_
  refine lz_arg C 2 dL_law_548 dL_law_549 dL_law_550 dL_law_551 dL_law_552 ki_2 (by omega) ?_
  refine lz_arg C 3 dL_law_553 dL_law_554 dL_law_555 dL_law_556 dL_law_557 ki_3 (by omega) ?_
  refine lz_call C (as := [.int (xs (i + 1)), .int (xs (i + 2)), .int (xs (i + 3))]) (r0 := 0) (st := []) dL_law_558 clF_dislike ml_Law_65 gc9 rfl (by decide) rfl rfl (Nat.zero_le _) (both_dislike (xs (i + 1)) (xs (i + 2)) (xs (i + 3)) M hI) (fun M1 r1 h1 => ?_)
  obtain ⟨⟨v1, rfl⟩, h1⟩ := h1
  refine lz_pop C (v := v1) dL_law_561 rfl ?_
  refine lz_ref2 C dL_law_562 ?_
  refine lz_arg C 1 dL_law_563 dL_law_564 dL_law_565 dL_law_566 dL_law_567 ki_1 (by omega) ?_
  refine lz_arg C 2 dL_law_568 dL_law_569 dL_law_570 dL_law_571 dL_law_572 ki_2 (by omega) ?_
  refine lz_arg C 3 dL_law_573 dL_law_574 dL_law_575 dL_law_576 dL_law_577 ki_3 (by omega) ?_
  refine lz_call C (as := [.int (xs (i + 1)), .int (xs (i + 2)), .int (xs (i + 3))]) (r0 := 57) (st := []) dL_law_578 clM_dislike ml_Law_68 gc10 rfl (by decide) rfl rfl (Nat.le_of_ble_eq_true rfl) h1 (fun M2 r2 h2 => ?_)
  obtain ⟨⟨v2, hv, rfl⟩, hI2⟩ := h2
  refine lz_pop C (v := v2) dL_law_581 rfl ?_
  exact lz_end C dL_law_582 (by decide) (kk M2 hI2)
/-- hold -/
theorem lw_op13 (C : lwX G b L xs p s mi meth c) (hi : i + 4 ≤ L) (hI : INV M) (kk : ∀ M2, INV M2 → Lz G b p l e s mi below meth c Q i 1232 [] M2) : Lz G b p l e s mi below meth c Q i 585 [] M := by
  refine lz_ref1 C dL_law_585 ?_
  refine lz_arg C 1 dL_law_586 dL_law_587 dL_law_588 dL_law_589 dL_law_590 ki_1 (by omega) ?_
  refine lz_arg C 2 dL_law_591 dL_law_592 dL_law_593 dL_law_594 dL_law_595 ki_2 (by omega) ?_
  refine lz_call C (as := [.int (xs (i + 1)), .int (xs (i + 2))]) (r0 := 0) (st := []) dL_law_596 clF_hold ml_Law_69 gc9 rfl (by decide) rfl rfl (Nat.zero_le _) (both_hold (xs (i + 1)) (xs (i + 2)) M hI) (fun M1 r1 h1 => ?_)
  obtain ⟨⟨v1, rfl⟩, h1⟩ := h1
  refine lz_pop C (v := v1) dL_law_599 rfl ?_
  refine lz_ref2 C dL_law_600 ?_
  refine lz_arg C 1 dL_law_601 dL_law_602 dL_law_603 dL_law_604 dL_law_605 ki_1 (by omega) ?_
  refine lz_arg C 2 dL_law_606 dL_law_607 dL_law_608 dL_law_609 dL_law_610 ki_2 (by omega) ?_
  refine lz_call C (as := [.int (xs (i + 1)), .int (xs (i + 2))]) (r0 := 57) (st := []) dL_law_611 clM_hold ml_Law_72 gc10 rfl (by decide) rfl rfl (Nat.le_of_ble_eq_true rfl) h1 (fun M2 r2 h2 => ?_)
  obtain ⟨⟨v2, hv, rfl⟩, hI2⟩ := h2
  refine lz_pop C (v := v2) dL_law_614 rfl ?_
  exact lz_end C dL_law_615 (by decide) (kk M2 hI2)
/-- a duty opened -/
theorem lw_op14 (C : lwX G b L xs p s mi meth c) (hi : i + 4 ≤ L) (hI : INV M) (kk : ∀ M2, INV M2 → Lz G b p l e s mi below meth c Q i 1232 [] M2) : Lz G b p l e s mi below meth c Q i 618 [] M := by
  refine lz_ref1 C dL_law_618 ?_
  refine lz_arg C 1 dL_law_619 dL_law_620 dL_law_621 dL_law_622 dL_law_623 ki_1 (by omega) ?_
  refine lz_call C (as := [.int (xs (i + 1))]) (r0 := 0) (st := []) dL_law_624 clF_open ml_Law_73 gc9 rfl (by decide) rfl rfl (Nat.zero_le _) (both_open (xs (i + 1)) M hI) (fun M1 r1 h1 => ?_)
  obtain ⟨⟨v1, rfl⟩, h1⟩ := h1
  refine lz_pop C (v := v1) dL_law_627 rfl ?_
  refine lz_ref2 C dL_law_628 ?_
  refine lz_arg C 1 dL_law_629 dL_law_630 dL_law_631 dL_law_632 dL_law_633 ki_1 (by omega) ?_
  refine lz_call C (as := [.int (xs (i + 1))]) (r0 := 57) (st := []) dL_law_634 clM_open ml_Law_76 gc10 rfl (by decide) rfl rfl (Nat.le_of_ble_eq_true rfl) h1 (fun M2 r2 h2 => ?_)
  obtain ⟨⟨v2, hv, rfl⟩, hI2⟩ := h2
  refine lz_pop C (v := v2) dL_law_637 rfl ?_
  exact lz_end C dL_law_638 (by decide) (kk M2 hI2)
/-- fill -/
theorem lw_op15 (C : lwX G b L xs p s mi meth c) (hi : i + 4 ≤ L) (hI : INV M) (kk : ∀ M2, INV M2 → Lz G b p l e s mi below meth c Q i 1232 [] M2) : Lz G b p l e s mi below meth c Q i 641 [] M := by
  refine lz_ref1 C dL_law_641 ?_
  refine lz_arg C 1 dL_law_642 dL_law_643 dL_law_644 dL_law_645 dL_law_646 ki_1 (by omega) ?_
  refine lz_call C (as := [.int (xs (i + 1))]) (r0 := 0) (st := []) dL_law_647 clF_fill ml_Law_77 gc9 rfl (by decide) rfl rfl (Nat.zero_le _) (both_fill (xs (i + 1)) M hI) (fun M1 r1 h1 => ?_)
  obtain ⟨⟨v1, rfl⟩, h1⟩ := h1
  refine lz_pop C (v := v1) dL_law_650 rfl ?_
  refine lz_ref2 C dL_law_651 ?_
  refine lz_arg C 1 dL_law_652 dL_law_653 dL_law_654 dL_law_655 dL_law_656 ki_1 (by omega) ?_
  refine lz_call C (as := [.int (xs (i + 1))]) (r0 := 57) (st := []) dL_law_657 clM_fill ml_Law_80 gc10 rfl (by decide) rfl rfl (Nat.le_of_ble_eq_true rfl) h1 (fun M2 r2 h2 => ?_)
  obtain ⟨⟨v2, hv, rfl⟩, hI2⟩ := h2
  refine lz_pop C (v := v2) dL_law_660 rfl ?_
  exact lz_end C dL_law_661 (by decide) (kk M2 hI2)
/-- load -/
theorem lw_op16 (C : lwX G b L xs p s mi meth c) (hi : i + 4 ≤ L) (hI : INV M) (kk : ∀ M2, INV M2 → Lz G b p l e s mi below meth c Q i 1232 [] M2) : Lz G b p l e s mi below meth c Q i 664 [] M := by
  refine lz_ref1 C dL_law_664 ?_
  refine lz_arg C 1 dL_law_665 dL_law_666 dL_law_667 dL_law_668 dL_law_669 ki_1 (by omega) ?_
  refine lz_arg C 2 dL_law_670 dL_law_671 dL_law_672 dL_law_673 dL_law_674 ki_2 (by omega) ?_
  refine lz_call C (as := [.int (xs (i + 1)), .int (xs (i + 2))]) (r0 := 0) (st := []) dL_law_675 clF_load ml_Law_81 gc9 rfl (by decide) rfl rfl (Nat.zero_le _) (both_load (xs (i + 1)) (xs (i + 2)) M hI) (fun M1 r1 h1 => ?_)
  obtain ⟨⟨v1, rfl⟩, h1⟩ := h1
  refine lz_pop C (v := v1) dL_law_678 rfl ?_
  refine lz_ref2 C dL_law_679 ?_
  refine lz_arg C 1 dL_law_680 dL_law_681 dL_law_682 dL_law_683 dL_law_684 ki_1 (by omega) ?_
  refine lz_arg C 2 dL_law_685 dL_law_686 dL_law_687 dL_law_688 dL_law_689 ki_2 (by omega) ?_
  refine lz_call C (as := [.int (xs (i + 1)), .int (xs (i + 2))]) (r0 := 57) (st := []) dL_law_690 clM_load_ ml_Law_84 gc10 rfl (by decide) rfl rfl (Nat.le_of_ble_eq_true rfl) h1 (fun M2 r2 h2 => ?_)
  obtain ⟨⟨v2, hv, rfl⟩, hI2⟩ := h2
  refine lz_pop C (v := v2) dL_law_693 rfl ?_
  exact lz_end C dL_law_694 (by decide) (kk M2 hI2)
/-- lesser -/
theorem lw_op17 (C : lwX G b L xs p s mi meth c) (hi : i + 4 ≤ L) (hI : INV M) (kk : ∀ M2, INV M2 → Lz G b p l e s mi below meth c Q i 1232 [] M2) : Lz G b p l e s mi below meth c Q i 697 [] M := by
  refine lz_ref1 C dL_law_697 ?_
  refine lz_arg C 1 dL_law_698 dL_law_699 dL_law_700 dL_law_701 dL_law_702 ki_1 (by omega) ?_
  refine lz_arg C 2 dL_law_703 dL_law_704 dL_law_705 dL_law_706 dL_law_707 ki_2 (by omega) ?_
  refine lz_call C (as := [.int (xs (i + 1)), .int (xs (i + 2))]) (r0 := 0) (st := []) dL_law_708 clF_lesser ml_Law_85 gc9 rfl (by decide) rfl rfl (Nat.zero_le _) (both_lesser (xs (i + 1)) (xs (i + 2)) M hI) (fun M1 r1 h1 => ?_)
  obtain ⟨⟨v1, rfl⟩, h1⟩ := h1
  refine lz_pop C (v := v1) dL_law_711 rfl ?_
  refine lz_ref2 C dL_law_712 ?_
  refine lz_arg C 1 dL_law_713 dL_law_714 dL_law_715 dL_law_716 dL_law_717 ki_1 (by omega) ?_
  refine lz_arg C 2 dL_law_718 dL_law_719 dL_law_720 dL_law_721 dL_law_722 ki_2 (by omega) ?_
  refine lz_call C (as := [.int (xs (i + 1)), .int (xs (i + 2))]) (r0 := 57) (st := []) dL_law_723 clM_lesser ml_Law_88 gc10 rfl (by decide) rfl rfl (Nat.le_of_ble_eq_true rfl) h1 (fun M2 r2 h2 => ?_)
  obtain ⟨⟨v2, hv, rfl⟩, hI2⟩ := h2
  refine lz_pop C (v := v2) dL_law_726 rfl ?_
  exact lz_end C dL_law_727 (by decide) (kk M2 hI2)
/-- eases -/
theorem lw_op18 (C : lwX G b L xs p s mi meth c) (hi : i + 4 ≤ L) (hI : INV M) (kk : ∀ M2, INV M2 → Lz G b p l e s mi below meth c Q i 1232 [] M2) : Lz G b p l e s mi below meth c Q i 730 [] M := by
  refine lz_ref1 C dL_law_730 ?_
  refine lz_arg C 1 dL_law_731 dL_law_732 dL_law_733 dL_law_734 dL_law_735 ki_1 (by omega) ?_
  refine lz_call C (as := [.int (xs (i + 1))]) (r0 := 0) (st := []) dL_law_736 clF_eases ml_Law_89 gc9 rfl (by decide) rfl rfl (Nat.zero_le _) (both_eases (xs (i + 1)) M hI) (fun M1 r1 h1 => ?_)
  obtain ⟨⟨v1, rfl⟩, h1⟩ := h1
  refine lz_pop C (v := v1) dL_law_739 rfl ?_
  refine lz_ref2 C dL_law_740 ?_
  refine lz_arg C 1 dL_law_741 dL_law_742 dL_law_743 dL_law_744 dL_law_745 ki_1 (by omega) ?_
  refine lz_call C (as := [.int (xs (i + 1))]) (r0 := 57) (st := []) dL_law_746 clM_eases ml_Law_92 gc10 rfl (by decide) rfl rfl (Nat.le_of_ble_eq_true rfl) h1 (fun M2 r2 h2 => ?_)
  obtain ⟨⟨v2, hv, rfl⟩, hI2⟩ := h2
  refine lz_pop C (v := v2) dL_law_749 rfl ?_
  exact lz_end C dL_law_750 (by decide) (kk M2 hI2)
/-- disliked -/
theorem lw_op19 (C : lwX G b L xs p s mi meth c) (hi : i + 4 ≤ L) (hI : INV M) (kk : ∀ M2, INV M2 → Lz G b p l e s mi below meth c Q i 1232 [] M2) : Lz G b p l e s mi below meth c Q i 753 [] M := by
  refine lz_ref1 C dL_law_753 ?_
  refine lz_call C (as := []) (r0 := 0) (st := []) dL_law_754 clF_disliked ml_Law_93 gc9 rfl (by decide) rfl rfl (Nat.zero_le _) (both_disliked M hI) (fun M1 r1 h1 => ?_)
  obtain ⟨⟨v1, rfl⟩, h1⟩ := h1
  refine lz_pop C (v := v1) dL_law_757 rfl ?_
  refine lz_ref2 C dL_law_758 ?_
  refine lz_call C (as := []) (r0 := 57) (st := []) dL_law_759 clM_disliked ml_Law_96 gc10 rfl (by decide) rfl rfl (Nat.le_of_ble_eq_true rfl) h1 (fun M2 r2 h2 => ?_)
  obtain ⟨⟨v2, hv, rfl⟩, hI2⟩ := h2
  refine lz_pop C (v := v2) dL_law_762 rfl ?_
  exact lz_end C dL_law_763 (by decide) (kk M2 hI2)
/-- ring -/
theorem lw_op20 (C : lwX G b L xs p s mi meth c) (hi : i + 4 ≤ L) (hI : INV M) (kk : ∀ M2, INV M2 → Lz G b p l e s mi below meth c Q i 1232 [] M2) : Lz G b p l e s mi below meth c Q i 766 [] M := by
  refine lz_ref1 C dL_law_766 ?_
  refine lz_arg C 1 dL_law_767 dL_law_768 dL_law_769 dL_law_770 dL_law_771 ki_1 (by omega) ?_
  refine lz_call C (as := [.int (xs (i + 1))]) (r0 := 0) (st := []) dL_law_772 clF_ring ml_Law_97 gc9 rfl (by decide) rfl rfl (Nat.zero_le _) (both_ring (xs (i + 1)) M hI) (fun M1 r1 h1 => ?_)
  obtain ⟨⟨v1, rfl⟩, h1⟩ := h1
  refine lz_pop C (v := v1) dL_law_775 rfl ?_
  refine lz_ref2 C dL_law_776 ?_
  refine lz_arg C 1 dL_law_777 dL_law_778 dL_law_779 dL_law_780 dL_law_781 ki_1 (by omega) ?_
  refine lz_call C (as := [.int (xs (i + 1))]) (r0 := 57) (st := []) dL_law_782 clM_ring ml_Law_100 gc10 rfl (by decide) rfl rfl (Nat.le_of_ble_eq_true rfl) h1 (fun M2 r2 h2 => ?_)
  obtain ⟨⟨v2, rfl⟩, hI2⟩ := h2
  refine lz_pop C (v := v2) dL_law_785 rfl ?_
  exact lz_end C dL_law_786 (by decide) (kk M2 hI2)
/-- turn -/
theorem lw_op21 (C : lwX G b L xs p s mi meth c) (hi : i + 4 ≤ L) (hI : INV M) (kk : ∀ M2, INV M2 → Lz G b p l e s mi below meth c Q i 1232 [] M2) : Lz G b p l e s mi below meth c Q i 789 [] M := by
  refine lz_ref1 C dL_law_789 ?_
  refine lz_arg C 1 dL_law_790 dL_law_791 dL_law_792 dL_law_793 dL_law_794 ki_1 (by omega) ?_
  refine lz_call C (as := [.int (xs (i + 1))]) (r0 := 0) (st := []) dL_law_795 clF_turn ml_Law_101 gc9 rfl (by decide) rfl rfl (Nat.zero_le _) (both_turn (xs (i + 1)) M hI) (fun M1 r1 h1 => ?_)
  obtain ⟨⟨v1, rfl⟩, h1⟩ := h1
  refine lz_pop C (v := v1) dL_law_798 rfl ?_
  refine lz_ref2 C dL_law_799 ?_
  refine lz_arg C 1 dL_law_800 dL_law_801 dL_law_802 dL_law_803 dL_law_804 ki_1 (by omega) ?_
  refine lz_call C (as := [.int (xs (i + 1))]) (r0 := 57) (st := []) dL_law_805 clM_turn ml_Law_104 gc10 rfl (by decide) rfl rfl (Nat.le_of_ble_eq_true rfl) h1 (fun M2 r2 h2 => ?_)
  obtain ⟨⟨v2, hv, rfl⟩, hI2⟩ := h2
  refine lz_pop C (v := v2) dL_law_808 rfl ?_
  exact lz_end C dL_law_809 (by decide) (kk M2 hI2)
/-- close -/
theorem lw_op22 (C : lwX G b L xs p s mi meth c) (hi : i + 4 ≤ L) (hI : INV M) (kk : ∀ M2, INV M2 → Lz G b p l e s mi below meth c Q i 1232 [] M2) : Lz G b p l e s mi below meth c Q i 812 [] M := by
  refine lz_ref1 C dL_law_812 ?_
  refine lz_call C (as := []) (r0 := 0) (st := []) dL_law_813 clF_close ml_Law_105 gc9 rfl (by decide) rfl rfl (Nat.zero_le _) (both_close M hI) (fun M1 r1 h1 => ?_)
  obtain ⟨⟨v1, rfl⟩, h1⟩ := h1
  refine lz_pop C (v := v1) dL_law_816 rfl ?_
  refine lz_ref2 C dL_law_817 ?_
  refine lz_call C (as := []) (r0 := 57) (st := []) dL_law_818 clM_close ml_Law_108 gc10 rfl (by decide) rfl rfl (Nat.le_of_ble_eq_true rfl) h1 (fun M2 r2 h2 => ?_)
  obtain ⟨⟨v2, hv, rfl⟩, hI2⟩ := h2
  refine lz_pop C (v := v2) dL_law_821 rfl ?_
  exact lz_end C dL_law_822 (by decide) (kk M2 hI2)
/-- audit -/
theorem lw_op23 (C : lwX G b L xs p s mi meth c) (hi : i + 4 ≤ L) (hI : INV M) (kk : ∀ M2, INV M2 → Lz G b p l e s mi below meth c Q i 1232 [] M2) : Lz G b p l e s mi below meth c Q i 825 [] M := by
  refine lz_ref1 C dL_law_825 ?_
  refine lz_arg C 1 dL_law_826 dL_law_827 dL_law_828 dL_law_829 dL_law_830 ki_1 (by omega) ?_
  refine lz_arg C 2 dL_law_831 dL_law_832 dL_law_833 dL_law_834 dL_law_835 ki_2 (by omega) ?_
  refine lz_call C (as := [.int (xs (i + 1)), .int (xs (i + 2))]) (r0 := 0) (st := []) dL_law_836 clF_audit ml_Law_109 gc9 rfl (by decide) rfl rfl (Nat.zero_le _) (both_audit (xs (i + 1)) (xs (i + 2)) M hI) (fun M1 r1 h1 => ?_)
  obtain ⟨⟨v1, rfl⟩, h1⟩ := h1
  refine lz_pop C (v := v1) dL_law_839 rfl ?_
  refine lz_ref2 C dL_law_840 ?_
  refine lz_arg C 1 dL_law_841 dL_law_842 dL_law_843 dL_law_844 dL_law_845 ki_1 (by omega) ?_
  refine lz_arg C 2 dL_law_846 dL_law_847 dL_law_848 dL_law_849 dL_law_850 ki_2 (by omega) ?_
  refine lz_call C (as := [.int (xs (i + 1)), .int (xs (i + 2))]) (r0 := 57) (st := []) dL_law_851 clM_audit ml_Law_112 gc10 rfl (by decide) rfl rfl (Nat.le_of_ble_eq_true rfl) h1 (fun M2 r2 h2 => ?_)
  obtain ⟨⟨v2, hv, rfl⟩, hI2⟩ := h2
  refine lz_pop C (v := v2) dL_law_854 rfl ?_
  exact lz_end C dL_law_855 (by decide) (kk M2 hI2)
/-- next -/
theorem lw_op24 (C : lwX G b L xs p s mi meth c) (hi : i + 4 ≤ L) (hI : INV M) (kk : ∀ M2, INV M2 → Lz G b p l e s mi below meth c Q i 1232 [] M2) : Lz G b p l e s mi below meth c Q i 858 [] M := by
  refine lz_ref1 C dL_law_858 ?_
  refine lz_arg C 1 dL_law_859 dL_law_860 dL_law_861 dL_law_862 dL_law_863 ki_1 (by omega) ?_
  refine lz_arg C 2 dL_law_864 dL_law_865 dL_law_866 dL_law_867 dL_law_868 ki_2 (by omega) ?_
  refine lz_call C (as := [.int (xs (i + 1)), .int (xs (i + 2))]) (r0 := 0) (st := []) dL_law_869 clF_next ml_Law_113 gc9 rfl (by decide) rfl rfl (Nat.zero_le _) (both_next (xs (i + 1)) (xs (i + 2)) M hI) (fun M1 r1 h1 => ?_)
  obtain ⟨⟨v1, rfl⟩, h1⟩ := h1
  refine lz_pop C (v := v1) dL_law_872 rfl ?_
  refine lz_ref2 C dL_law_873 ?_
  refine lz_arg C 1 dL_law_874 dL_law_875 dL_law_876 dL_law_877 dL_law_878 ki_1 (by omega) ?_
  refine lz_arg C 2 dL_law_879 dL_law_880 dL_law_881 dL_law_882 dL_law_883 ki_2 (by omega) ?_
  refine lz_call C (as := [.int (xs (i + 1)), .int (xs (i + 2))]) (r0 := 57) (st := []) dL_law_884 clM_next ml_Law_116 gc10 rfl (by decide) rfl rfl (Nat.le_of_ble_eq_true rfl) h1 (fun M2 r2 h2 => ?_)
  obtain ⟨⟨v2, hv, rfl⟩, hI2⟩ := h2
  refine lz_pop C (v := v2) dL_law_887 rfl ?_
  exact lz_end C dL_law_888 (by decide) (kk M2 hI2)
/-- near -/
theorem lw_op25 (C : lwX G b L xs p s mi meth c) (hi : i + 4 ≤ L) (hI : INV M) (kk : ∀ M2, INV M2 → Lz G b p l e s mi below meth c Q i 1232 [] M2) : Lz G b p l e s mi below meth c Q i 891 [] M := by
  refine lz_ref1 C dL_law_891 ?_
  refine lz_call C (as := []) (r0 := 0) (st := []) dL_law_892 clF_near ml_Law_117 gc9 rfl (by decide) rfl rfl (Nat.zero_le _) (both_near M hI) (fun M1 r1 h1 => ?_)
  obtain ⟨⟨v1, rfl⟩, h1⟩ := h1
  refine lz_pop C (v := v1) dL_law_895 rfl ?_
  refine lz_ref2 C dL_law_896 ?_
  refine lz_call C (as := []) (r0 := 57) (st := []) dL_law_897 clM_near ml_Law_120 gc10 rfl (by decide) rfl rfl (Nat.le_of_ble_eq_true rfl) h1 (fun M2 r2 h2 => ?_)
  obtain ⟨⟨v2, hv, rfl⟩, hI2⟩ := h2
  refine lz_pop C (v := v2) dL_law_900 rfl ?_
  exact lz_end C dL_law_901 (by decide) (kk M2 hI2)
/-- heaviest -/
theorem lw_op26 (C : lwX G b L xs p s mi meth c) (hi : i + 4 ≤ L) (hI : INV M) (kk : ∀ M2, INV M2 → Lz G b p l e s mi below meth c Q i 1232 [] M2) : Lz G b p l e s mi below meth c Q i 904 [] M := by
  refine lz_ref1 C dL_law_904 ?_
  refine lz_call C (as := []) (r0 := 0) (st := []) dL_law_905 clF_heaviest ml_Law_121 gc9 rfl (by decide) rfl rfl (Nat.zero_le _) (both_heaviest M hI) (fun M1 r1 h1 => ?_)
  obtain ⟨⟨v1, rfl⟩, h1⟩ := h1
  refine lz_pop C (v := v1) dL_law_908 rfl ?_
  refine lz_ref2 C dL_law_909 ?_
  refine lz_call C (as := []) (r0 := 57) (st := []) dL_law_910 clM_heaviest ml_Law_124 gc10 rfl (by decide) rfl rfl (Nat.le_of_ble_eq_true rfl) h1 (fun M2 r2 h2 => ?_)
  obtain ⟨⟨v2, hv, rfl⟩, hI2⟩ := h2
  refine lz_pop C (v := v2) dL_law_913 rfl ?_
  exact lz_end C dL_law_914 (by decide) (kk M2 hI2)
/-- feed -/
theorem lw_op27 (C : lwX G b L xs p s mi meth c) (hi : i + 4 ≤ L) (hI : INV M) (kk : ∀ M2, INV M2 → Lz G b p l e s mi below meth c Q i 1232 [] M2) : Lz G b p l e s mi below meth c Q i 917 [] M := by
  refine lz_ref1 C dL_law_917 ?_
  refine lz_arg C 1 dL_law_918 dL_law_919 dL_law_920 dL_law_921 dL_law_922 ki_1 (by omega) ?_
  refine lz_call C (as := [.int (xs (i + 1))]) (r0 := 0) (st := []) dL_law_923 clF_feed ml_Law_125 gc9 rfl (by decide) rfl rfl (Nat.zero_le _) (both_feed (xs (i + 1)) M hI) (fun M1 r1 h1 => ?_)
  obtain ⟨⟨v1, rfl⟩, h1⟩ := h1
  refine lz_pop C (v := v1) dL_law_926 rfl ?_
  refine lz_ref2 C dL_law_927 ?_
  refine lz_arg C 1 dL_law_928 dL_law_929 dL_law_930 dL_law_931 dL_law_932 ki_1 (by omega) ?_
  refine lz_call C (as := [.int (xs (i + 1))]) (r0 := 57) (st := []) dL_law_933 clM_feed ml_Law_128 gc10 rfl (by decide) rfl rfl (Nat.le_of_ble_eq_true rfl) h1 (fun M2 r2 h2 => ?_)
  obtain ⟨⟨v2, hv, rfl⟩, hI2⟩ := h2
  refine lz_pop C (v := v2) dL_law_936 rfl ?_
  exact lz_end C dL_law_937 (by decide) (kk M2 hI2)
/-- clear -/
theorem lw_op28 (C : lwX G b L xs p s mi meth c) (hi : i + 4 ≤ L) (hI : INV M) (kk : ∀ M2, INV M2 → Lz G b p l e s mi below meth c Q i 1232 [] M2) : Lz G b p l e s mi below meth c Q i 940 [] M := by
  refine lz_ref1 C dL_law_940 ?_
  refine lz_call C (as := []) (r0 := 0) (st := []) dL_law_941 clF_clear ml_Law_129 gc9 rfl (by decide) rfl rfl (Nat.zero_le _) (both_clear M hI) (fun M1 r1 h1 => ?_)
  obtain ⟨⟨v1, rfl⟩, h1⟩ := h1
  refine lz_pop C (v := v1) dL_law_944 rfl ?_
  refine lz_ref2 C dL_law_945 ?_
  refine lz_call C (as := []) (r0 := 57) (st := []) dL_law_946 clM_clear ml_Law_132 gc10 rfl (by decide) rfl rfl (Nat.le_of_ble_eq_true rfl) h1 (fun M2 r2 h2 => ?_)
  obtain ⟨⟨v2, hv, rfl⟩, hI2⟩ := h2
  refine lz_pop C (v := v2) dL_law_949 rfl ?_
  exact lz_end C dL_law_950 (by decide) (kk M2 hI2)
/-- pick -/
theorem lw_op29 (C : lwX G b L xs p s mi meth c) (hi : i + 4 ≤ L) (hI : INV M) (kk : ∀ M2, INV M2 → Lz G b p l e s mi below meth c Q i 1232 [] M2) : Lz G b p l e s mi below meth c Q i 953 [] M := by
  refine lz_ref1 C dL_law_953 ?_
  refine lz_call C (as := []) (r0 := 0) (st := []) dL_law_954 clF_pick ml_Law_133 gc9 rfl (by decide) rfl rfl (Nat.zero_le _) (both_pick M hI) (fun M1 r1 h1 => ?_)
  obtain ⟨⟨v1, rfl⟩, h1⟩ := h1
  refine lz_pop C (v := v1) dL_law_957 rfl ?_
  refine lz_ref2 C dL_law_958 ?_
  refine lz_call C (as := []) (r0 := 57) (st := []) dL_law_959 clM_pick ml_Law_136 gc10 rfl (by decide) rfl rfl (Nat.le_of_ble_eq_true rfl) h1 (fun M2 r2 h2 => ?_)
  obtain ⟨⟨v2, hv, rfl⟩, hI2⟩ := h2
  refine lz_pop C (v := v2) dL_law_962 rfl ?_
  exact lz_end C dL_law_963 (by decide) (kk M2 hI2)
/-- openAll -/
theorem lw_op30 (C : lwX G b L xs p s mi meth c) (hi : i + 4 ≤ L) (hI : INV M) (kk : ∀ M2, INV M2 → Lz G b p l e s mi below meth c Q i 1232 [] M2) : Lz G b p l e s mi below meth c Q i 966 [] M := by
  refine lz_ref1 C dL_law_966 ?_
  refine lz_call C (as := []) (r0 := 0) (st := []) dL_law_967 clF_openAll ml_Law_137 gc9 rfl (by decide) rfl rfl (Nat.zero_le _) (both_openAll M hI) (fun M1 r1 h1 => ?_)
  obtain ⟨⟨v1, rfl⟩, h1⟩ := h1
  refine lz_pop C (v := v1) dL_law_970 rfl ?_
  refine lz_ref2 C dL_law_971 ?_
  refine lz_call C (as := []) (r0 := 57) (st := []) dL_law_972 clM_openAll ml_Law_140 gc10 rfl (by decide) rfl rfl (Nat.le_of_ble_eq_true rfl) h1 (fun M2 r2 h2 => ?_)
  obtain ⟨⟨v2, hv, rfl⟩, hI2⟩ := h2
  refine lz_pop C (v := v2) dL_law_975 rfl ?_
  exact lz_end C dL_law_976 (by decide) (kk M2 hI2)
/-- judge -/
theorem lw_op31 (C : lwX G b L xs p s mi meth c) (hi : i + 4 ≤ L) (hI : INV M) (kk : ∀ M2, INV M2 → Lz G b p l e s mi below meth c Q i 1232 [] M2) : Lz G b p l e s mi below meth c Q i 979 [] M := by
  refine lz_ref1 C dL_law_979 ?_
  refine lz_call C (as := []) (r0 := 0) (st := []) dL_law_980 clF_judge ml_Law_141 gc9 rfl (by decide) rfl rfl (Nat.zero_le _) (both_judge M hI) (fun M1 r1 h1 => ?_)
  obtain ⟨⟨v1, rfl⟩, h1⟩ := h1
  refine lz_pop C (v := v1) dL_law_983 rfl ?_
  refine lz_ref2 C dL_law_984 ?_
  refine lz_call C (as := []) (r0 := 57) (st := []) dL_law_985 clM_judge ml_Law_144 gc10 rfl (by decide) rfl rfl (Nat.le_of_ble_eq_true rfl) h1 (fun M2 r2 h2 => ?_)
  obtain ⟨⟨v2, hv, rfl⟩, hI2⟩ := h2
  refine lz_pop C (v := v2) dL_law_988 rfl ?_
  exact lz_end C dL_law_989 (by decide) (kk M2 hI2)
/-- roster -/
theorem lw_op32 (C : lwX G b L xs p s mi meth c) (hi : i + 4 ≤ L) (hI : INV M) (kk : ∀ M2, INV M2 → Lz G b p l e s mi below meth c Q i 1232 [] M2) : Lz G b p l e s mi below meth c Q i 992 [] M := by
  refine lz_ref1 C dL_law_992 ?_
  refine lz_call C (as := []) (r0 := 0) (st := []) dL_law_993 clF_roster ml_Law_145 gc9 rfl (by decide) rfl rfl (Nat.zero_le _) (both_roster M hI) (fun M1 r1 h1 => ?_)
  obtain ⟨⟨v1, rfl⟩, h1⟩ := h1
  refine lz_pop C (v := v1) dL_law_996 rfl ?_
  refine lz_ref2 C dL_law_997 ?_
  refine lz_call C (as := []) (r0 := 57) (st := []) dL_law_998 clM_roster ml_Law_148 gc10 rfl (by decide) rfl rfl (Nat.le_of_ble_eq_true rfl) h1 (fun M2 r2 h2 => ?_)
  obtain ⟨⟨v2, hv, rfl⟩, hI2⟩ := h2
  refine lz_pop C (v := v2) dL_law_1001 rfl ?_
  exact lz_end C dL_law_1002 (by decide) (kk M2 hI2)
/-- spell -/
theorem lw_op33 (C : lwX G b L xs p s mi meth c) (hi : i + 4 ≤ L) (hI : INV M) (kk : ∀ M2, INV M2 → Lz G b p l e s mi below meth c Q i 1232 [] M2) : Lz G b p l e s mi below meth c Q i 1005 [] M := by
  refine lz_ref1 C dL_law_1005 ?_
  refine lz_call C (as := []) (r0 := 0) (st := []) dL_law_1006 clF_spell ml_Law_149 gc9 rfl (by decide) rfl rfl (Nat.zero_le _) (both_spell M hI) (fun M1 r1 h1 => ?_)
  obtain ⟨⟨v1, rfl⟩, h1⟩ := h1
  refine lz_pop C (v := v1) dL_law_1009 rfl ?_
  refine lz_ref2 C dL_law_1010 ?_
  refine lz_call C (as := []) (r0 := 57) (st := []) dL_law_1011 clM_spell ml_Law_152 gc10 rfl (by decide) rfl rfl (Nat.le_of_ble_eq_true rfl) h1 (fun M2 r2 h2 => ?_)
  obtain ⟨⟨v2, hv, rfl⟩, hI2⟩ := h2
  refine lz_pop C (v := v2) dL_law_1014 rfl ?_
  exact lz_end C dL_law_1015 (by decide) (kk M2 hI2)
/-- paper -/
theorem lw_op34 (C : lwX G b L xs p s mi meth c) (hi : i + 4 ≤ L) (hI : INV M) (kk : ∀ M2, INV M2 → Lz G b p l e s mi below meth c Q i 1232 [] M2) : Lz G b p l e s mi below meth c Q i 1018 [] M := by
  refine lz_ref1 C dL_law_1018 ?_
  refine lz_arg C 1 dL_law_1019 dL_law_1020 dL_law_1021 dL_law_1022 dL_law_1023 ki_1 (by omega) ?_
  refine lz_call C (as := [.int (xs (i + 1))]) (r0 := 0) (st := []) dL_law_1024 clF_paper ml_Law_153 gc9 rfl (by decide) rfl rfl (Nat.zero_le _) (both_paper (xs (i + 1)) M hI) (fun M1 r1 h1 => ?_)
  obtain ⟨⟨v1, rfl⟩, h1⟩ := h1
  refine lz_pop C (v := v1) dL_law_1027 rfl ?_
  refine lz_ref2 C dL_law_1028 ?_
  refine lz_arg C 1 dL_law_1029 dL_law_1030 dL_law_1031 dL_law_1032 dL_law_1033 ki_1 (by omega) ?_
  refine lz_call C (as := [.int (xs (i + 1))]) (r0 := 57) (st := []) dL_law_1034 clM_paper ml_Law_156 gc10 rfl (by decide) rfl rfl (Nat.le_of_ble_eq_true rfl) h1 (fun M2 r2 h2 => ?_)
  obtain ⟨⟨v2, hv, rfl⟩, hI2⟩ := h2
  refine lz_pop C (v := v2) dL_law_1037 rfl ?_
  exact lz_end C dL_law_1038 (by decide) (kk M2 hI2)
/-- told -/
theorem lw_op35 (C : lwX G b L xs p s mi meth c) (hi : i + 4 ≤ L) (hI : INV M) (kk : ∀ M2, INV M2 → Lz G b p l e s mi below meth c Q i 1232 [] M2) : Lz G b p l e s mi below meth c Q i 1041 [] M := by
  refine lz_ref1 C dL_law_1041 ?_
  refine lz_arg C 1 dL_law_1042 dL_law_1043 dL_law_1044 dL_law_1045 dL_law_1046 ki_1 (by omega) ?_
  refine lz_call C (as := [.int (xs (i + 1))]) (r0 := 0) (st := []) dL_law_1047 clF_told ml_Law_157 gc9 rfl (by decide) rfl rfl (Nat.zero_le _) (both_told (xs (i + 1)) M hI) (fun M1 r1 h1 => ?_)
  obtain ⟨⟨v1, rfl⟩, h1⟩ := h1
  refine lz_pop C (v := v1) dL_law_1050 rfl ?_
  refine lz_ref2 C dL_law_1051 ?_
  refine lz_arg C 1 dL_law_1052 dL_law_1053 dL_law_1054 dL_law_1055 dL_law_1056 ki_1 (by omega) ?_
  refine lz_call C (as := [.int (xs (i + 1))]) (r0 := 57) (st := []) dL_law_1057 clM_told ml_Law_160 gc10 rfl (by decide) rfl rfl (Nat.le_of_ble_eq_true rfl) h1 (fun M2 r2 h2 => ?_)
  obtain ⟨⟨v2, hv, rfl⟩, hI2⟩ := h2
  refine lz_pop C (v := v2) dL_law_1060 rfl ?_
  exact lz_end C dL_law_1061 (by decide) (kk M2 hI2)
/-- list -/
theorem lw_op36 (C : lwX G b L xs p s mi meth c) (hi : i + 4 ≤ L) (hI : INV M) (kk : ∀ M2, INV M2 → Lz G b p l e s mi below meth c Q i 1232 [] M2) : Lz G b p l e s mi below meth c Q i 1064 [] M := by
  refine lz_ref1 C dL_law_1064 ?_
  refine lz_arg C 1 dL_law_1065 dL_law_1066 dL_law_1067 dL_law_1068 dL_law_1069 ki_1 (by omega) ?_
  refine lz_arg C 2 dL_law_1070 dL_law_1071 dL_law_1072 dL_law_1073 dL_law_1074 ki_2 (by omega) ?_
  refine lz_call C (as := [.int (xs (i + 1)), .int (xs (i + 2))]) (r0 := 0) (st := []) dL_law_1075 clF_list ml_Law_161 gc9 rfl (by decide) rfl rfl (Nat.zero_le _) (both_list (xs (i + 1)) (xs (i + 2)) M hI) (fun M1 r1 h1 => ?_)
  obtain ⟨⟨v1, rfl⟩, h1⟩ := h1
  refine lz_pop C (v := v1) dL_law_1078 rfl ?_
  refine lz_ref2 C dL_law_1079 ?_
  refine lz_arg C 1 dL_law_1080 dL_law_1081 dL_law_1082 dL_law_1083 dL_law_1084 ki_1 (by omega) ?_
  refine lz_arg C 2 dL_law_1085 dL_law_1086 dL_law_1087 dL_law_1088 dL_law_1089 ki_2 (by omega) ?_
  refine lz_call C (as := [.int (xs (i + 1)), .int (xs (i + 2))]) (r0 := 57) (st := []) dL_law_1090 clM_list ml_Law_164 gc10 rfl (by decide) rfl rfl (Nat.le_of_ble_eq_true rfl) h1 (fun M2 r2 h2 => ?_)
  obtain ⟨⟨v2, hv, rfl⟩, hI2⟩ := h2
  refine lz_pop C (v := v2) dL_law_1093 rfl ?_
  exact lz_end C dL_law_1094 (by decide) (kk M2 hI2)
/-- set -/
theorem lw_op37 (C : lwX G b L xs p s mi meth c) (hi : i + 4 ≤ L) (hI : INV M) (kk : ∀ M2, INV M2 → Lz G b p l e s mi below meth c Q i 1232 [] M2) : Lz G b p l e s mi below meth c Q i 1097 [] M := by
  refine lz_ref1 C dL_law_1097 ?_
  refine lz_arg C 1 dL_law_1098 dL_law_1099 dL_law_1100 dL_law_1101 dL_law_1102 ki_1 (by omega) ?_
  refine lz_arg C 2 dL_law_1103 dL_law_1104 dL_law_1105 dL_law_1106 dL_law_1107 ki_2 (by omega) ?_
  refine lz_arg C 3 dL_law_1108 dL_law_1109 dL_law_1110 dL_law_1111 dL_law_1112 ki_3 (by omega) ?_
  refine lz_call C (as := [.int (xs (i + 1)), .int (xs (i + 2)), .int (xs (i + 3))]) (r0 := 0) (st := []) dL_law_1113 clF_set ml_Law_165 gc9 rfl (by decide) rfl rfl (Nat.zero_le _) (both_set (xs (i + 1)) (xs (i + 2)) (xs (i + 3)) M hI) (fun M1 r1 h1 => ?_)
  obtain ⟨⟨v1, rfl⟩, h1⟩ := h1
  refine lz_pop C (v := v1) dL_law_1116 rfl ?_
  refine lz_ref2 C dL_law_1117 ?_
  refine lz_arg C 1 dL_law_1118 dL_law_1119 dL_law_1120 dL_law_1121 dL_law_1122 ki_1 (by omega) ?_
  refine lz_arg C 2 dL_law_1123 dL_law_1124 dL_law_1125 dL_law_1126 dL_law_1127 ki_2 (by omega) ?_
  refine lz_arg C 3 dL_law_1128 dL_law_1129 dL_law_1130 dL_law_1131 dL_law_1132 ki_3 (by omega) ?_
  refine lz_call C (as := [.int (xs (i + 1)), .int (xs (i + 2)), .int (xs (i + 3))]) (r0 := 57) (st := []) dL_law_1133 clM_set ml_Law_168 gc10 rfl (by decide) rfl rfl (Nat.le_of_ble_eq_true rfl) h1 (fun M2 r2 h2 => ?_)
  obtain ⟨⟨v2, hv, rfl⟩, hI2⟩ := h2
  refine lz_pop C (v := v2) dL_law_1136 rfl ?_
  exact lz_end C dL_law_1137 (by decide) (kk M2 hI2)
/-- get -/
theorem lw_op38 (C : lwX G b L xs p s mi meth c) (hi : i + 4 ≤ L) (hI : INV M) (kk : ∀ M2, INV M2 → Lz G b p l e s mi below meth c Q i 1232 [] M2) : Lz G b p l e s mi below meth c Q i 1140 [] M := by
  refine lz_ref1 C dL_law_1140 ?_
  refine lz_arg C 1 dL_law_1141 dL_law_1142 dL_law_1143 dL_law_1144 dL_law_1145 ki_1 (by omega) ?_
  refine lz_arg C 2 dL_law_1146 dL_law_1147 dL_law_1148 dL_law_1149 dL_law_1150 ki_2 (by omega) ?_
  refine lz_call C (as := [.int (xs (i + 1)), .int (xs (i + 2))]) (r0 := 0) (st := []) dL_law_1151 clF_get ml_Law_169 gc9 rfl (by decide) rfl rfl (Nat.zero_le _) (both_get (xs (i + 1)) (xs (i + 2)) M hI) (fun M1 r1 h1 => ?_)
  obtain ⟨⟨v1, rfl⟩, h1⟩ := h1
  refine lz_popl C (v := v1) dL_law_1154 rfl ?_
  refine lz_ref2 C dL_law_1155 ?_
  refine lz_arg C 1 dL_law_1156 dL_law_1157 dL_law_1158 dL_law_1159 dL_law_1160 ki_1 (by omega) ?_
  refine lz_arg C 2 dL_law_1161 dL_law_1162 dL_law_1163 dL_law_1164 dL_law_1165 ki_2 (by omega) ?_
  refine lz_call C (as := [.int (xs (i + 1)), .int (xs (i + 2))]) (r0 := 57) (st := []) dL_law_1166 clM_get ml_Law_173 gc10 rfl (by decide) rfl rfl (Nat.le_of_ble_eq_true rfl) h1 (fun M2 r2 h2 => ?_)
  obtain ⟨⟨v2, hv, rfl⟩, hI2⟩ := h2
  refine lz_popl C (v := v2) dL_law_1169 rfl ?_
  exact lz_end C dL_law_1170 (by decide) (kk M2 hI2)
/-- lay -/
theorem lw_op39 (C : lwX G b L xs p s mi meth c) (hi : i + 4 ≤ L) (hI : INV M) (kk : ∀ M2, INV M2 → Lz G b p l e s mi below meth c Q i 1232 [] M2) : Lz G b p l e s mi below meth c Q i 1173 [] M := by
  refine lz_ref1 C dL_law_1173 ?_
  refine lz_arg C 1 dL_law_1174 dL_law_1175 dL_law_1176 dL_law_1177 dL_law_1178 ki_1 (by omega) ?_
  refine lz_arg C 2 dL_law_1179 dL_law_1180 dL_law_1181 dL_law_1182 dL_law_1183 ki_2 (by omega) ?_
  refine lz_call C (as := [.int (xs (i + 1)), .int (xs (i + 2))]) (r0 := 0) (st := []) dL_law_1184 clF_lay ml_Law_174 gc9 rfl (by decide) rfl rfl (Nat.zero_le _) (both_lay (xs (i + 1)) (xs (i + 2)) M hI) (fun M1 r1 h1 => ?_)
  obtain ⟨⟨v1, rfl⟩, h1⟩ := h1
  refine lz_pop C (v := v1) dL_law_1187 rfl ?_
  refine lz_ref2 C dL_law_1188 ?_
  refine lz_arg C 1 dL_law_1189 dL_law_1190 dL_law_1191 dL_law_1192 dL_law_1193 ki_1 (by omega) ?_
  refine lz_arg C 2 dL_law_1194 dL_law_1195 dL_law_1196 dL_law_1197 dL_law_1198 ki_2 (by omega) ?_
  refine lz_call C (as := [.int (xs (i + 1)), .int (xs (i + 2))]) (r0 := 57) (st := []) dL_law_1199 clM_lay ml_Law_177 gc10 rfl (by decide) rfl rfl (Nat.le_of_ble_eq_true rfl) h1 (fun M2 r2 h2 => ?_)
  obtain ⟨⟨v2, hv, rfl⟩, hI2⟩ := h2
  refine lz_pop C (v := v2) dL_law_1202 rfl ?_
  exact lz_end C dL_law_1203 (by decide) (kk M2 hI2)
/-- image -/
theorem lw_op40 (C : lwX G b L xs p s mi meth c) (hi : i + 4 ≤ L) (hI : INV M) (kk : ∀ M2, INV M2 → Lz G b p l e s mi below meth c Q i 1232 [] M2) : Lz G b p l e s mi below meth c Q i 1206 [] M := by
  refine lz_ref1 C dL_law_1206 ?_
  refine lz_call C (as := []) (r0 := 0) (st := []) dL_law_1207 clF_image ml_Law_178 gc9 rfl (by decide) rfl rfl (Nat.zero_le _) (both_image M hI) (fun M1 r1 h1 => ?_)
  obtain ⟨⟨v1, rfl⟩, h1⟩ := h1
  refine lz_pop C (v := v1) dL_law_1210 rfl ?_
  refine lz_ref2 C dL_law_1211 ?_
  refine lz_call C (as := []) (r0 := 57) (st := []) dL_law_1212 clM_image ml_Law_181 gc10 rfl (by decide) rfl rfl (Nat.le_of_ble_eq_true rfl) h1 (fun M2 r2 h2 => ?_)
  obtain ⟨⟨v2, hv, rfl⟩, hI2⟩ := h2
  refine lz_pop C (v := v2) dL_law_1215 rfl ?_
  exact lz_end C dL_law_1216 (by decide) (kk M2 hI2)
/-- undo -/
theorem lw_op41 (C : lwX G b L xs p s mi meth c) (hi : i + 4 ≤ L) (hI : INV M) (kk : ∀ M2, INV M2 → Lz G b p l e s mi below meth c Q i 1232 [] M2) : Lz G b p l e s mi below meth c Q i 1219 [] M := by
  refine lz_ref1 C dL_law_1219 ?_
  refine lz_call C (as := []) (r0 := 0) (st := []) dL_law_1220 clF_undo ml_Law_182 gc9 rfl (by decide) rfl rfl (Nat.zero_le _) (both_undo M hI) (fun M1 r1 h1 => ?_)
  obtain ⟨⟨v1, rfl⟩, h1⟩ := h1
  refine lz_pop C (v := v1) dL_law_1223 rfl ?_
  refine lz_ref2 C dL_law_1224 ?_
  refine lz_call C (as := []) (r0 := 57) (st := []) dL_law_1225 clM_undo ml_Law_185 gc10 rfl (by decide) rfl rfl (Nat.le_of_ble_eq_true rfl) h1 (fun M2 r2 h2 => ?_)
  obtain ⟨⟨v2, hv, rfl⟩, hI2⟩ := h2
  refine lz_pop C (v := v2) dL_law_1228 rfl ?_
  exact lz_end C dL_law_1229 (by decide) (kk M2 hI2)
end LWO
