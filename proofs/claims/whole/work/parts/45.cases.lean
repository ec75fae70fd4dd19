theorem lc_0 {L i : Nat} {xs : Nat → Int32} {ρ : Rho} {σ : Sg} (hL : L ≤ 4096) (hi : i + 8 ≤ L) (hC : CInv σ ρ) (hM : MInv σ ρ) (k : ∀ (ρ2 : Rho) (σ2 : Sg), CInv σ2 ρ2 → MInv σ2 ρ2 → LW L xs 1671 [some (.ref 73), some (.ref 0), some (.ref 47), some (.int (nI i))] [] ρ2) : LW L xs 200 [some (.ref 73), some (.ref 0), some (.ref 47), some (.int (nI i))] [] ρ := by
  refine l_al dlw_200 rfl ?_
  refine l_al dlw_201 rfl ?_
  refine l_il dlw_202 rfl ?_
  refine l_k dlw_203 ?_
  refine l_iadd dlw_204 ?_
  refine l_sld dlw_205 (by omega) hL ?_
  refine l_call dlw_206 (vl_L_13 _ rfl) sh0 (by decide) (c_X7_type ρ σ (xs (i + 1)) hC) rfl rfl (Nat.le_of_ble_eq_true rfl) (fun v1 ρ1 h1 => ?_)
  obtain ⟨rfl, hC1, hE1⟩ := h1
  have hM1 := hM.eqM hE1
  refine l_al dlw_209 rfl ?_
  refine l_al dlw_210 rfl ?_
  refine l_il dlw_211 rfl ?_
  refine l_k dlw_212 ?_
  refine l_iadd dlw_213 ?_
  refine l_sld dlw_214 (by omega) hL ?_
  refine l_call dlw_215 (vl_L_17 _ rfl) sh47 (by decide) (c_X8_type ρ1 σ (xs (i + 1)) hM1) rfl rfl (Nat.le_of_ble_eq_true rfl) (fun v2 ρ2 h2 => ?_)
  obtain ⟨rfl, hM2, hE2⟩ := h2
  refine l_same dlw_218 ?_
  exact k _ _ (hC1.eqC hE2) hM2
theorem lc_1 {L i : Nat} {xs : Nat → Int32} {ρ : Rho} {σ : Sg} (hL : L ≤ 4096) (hi : i + 8 ≤ L) (hC : CInv σ ρ) (hM : MInv σ ρ) (k : ∀ (ρ2 : Rho) (σ2 : Sg), CInv σ2 ρ2 → MInv σ2 ρ2 → LW L xs 1671 [some (.ref 73), some (.ref 0), some (.ref 47), some (.int (nI i))] [] ρ2) : LW L xs 223 [some (.ref 73), some (.ref 0), some (.ref 47), some (.int (nI i))] [] ρ := by
  refine l_al dlw_223 rfl ?_
  refine l_call dlw_224 (vl_L_18 _ rfl) sh0 (by decide) (c_X7_wipe ρ σ  hC) rfl rfl (Nat.le_of_ble_eq_true rfl) (fun v1 ρ1 h1 => ?_)
  obtain ⟨rfl, hC1, hE1⟩ := h1
  have hM1 := hM.eqM hE1
  refine l_al dlw_227 rfl ?_
  refine l_call dlw_228 (vl_L_22 _ rfl) sh47 (by decide) (c_X8_wipe ρ1 σ  hM1) rfl rfl (Nat.le_of_ble_eq_true rfl) (fun v2 ρ2 h2 => ?_)
  obtain ⟨rfl, hM2, hE2⟩ := h2
  refine l_same dlw_231 ?_
  exact k _ _ (hC1.eqC hE2) hM2
theorem lc_2 {L i : Nat} {xs : Nat → Int32} {ρ : Rho} {σ : Sg} (hL : L ≤ 4096) (hi : i + 8 ≤ L) (hC : CInv σ ρ) (hM : MInv σ ρ) (k : ∀ (ρ2 : Rho) (σ2 : Sg), CInv σ2 ρ2 → MInv σ2 ρ2 → LW L xs 1671 [some (.ref 73), some (.ref 0), some (.ref 47), some (.int (nI i))] [] ρ2) : LW L xs 236 [some (.ref 73), some (.ref 0), some (.ref 47), some (.int (nI i))] [] ρ := by
  refine l_al dlw_236 rfl ?_
  refine l_call dlw_237 (vl_L_23 _ rfl) sh0 (by decide) (c_X7_fault ρ σ  hC) rfl rfl (Nat.le_of_ble_eq_true rfl) (fun v1 ρ1 h1 => ?_)
  obtain ⟨rfl, hC1, hE1⟩ := h1
  have hM1 := hM.eqM hE1
  refine l_al dlw_240 rfl ?_
  refine l_call dlw_241 (vl_L_26 _ rfl) sh47 (by decide) (c_X8_fault ρ1 σ  hM1) rfl rfl (Nat.le_of_ble_eq_true rfl) (fun v2 ρ2 h2 => ?_)
  obtain ⟨rfl, hM2, hE2⟩ := h2
  refine l_same dlw_244 ?_
  exact k _ _ (hC1.eqC hE2) hM2
theorem lc_3 {L i : Nat} {xs : Nat → Int32} {ρ : Rho} {σ : Sg} (hL : L ≤ 4096) (hi : i + 8 ≤ L) (hC : CInv σ ρ) (hM : MInv σ ρ) (k : ∀ (ρ2 : Rho) (σ2 : Sg), CInv σ2 ρ2 → MInv σ2 ρ2 → LW L xs 1671 [some (.ref 73), some (.ref 0), some (.ref 47), some (.int (nI i))] [] ρ2) : LW L xs 249 [some (.ref 73), some (.ref 0), some (.ref 47), some (.int (nI i))] [] ρ := by
  refine l_al dlw_249 rfl ?_
  refine l_al dlw_250 rfl ?_
  refine l_il dlw_251 rfl ?_
  refine l_k dlw_252 ?_
  refine l_iadd dlw_253 ?_
  refine l_sld dlw_254 (by omega) hL ?_
  refine l_al dlw_255 rfl ?_
  refine l_il dlw_256 rfl ?_
  refine l_k dlw_257 ?_
  refine l_iadd dlw_258 ?_
  refine l_sld dlw_259 (by omega) hL ?_
  refine l_call dlw_260 (vl_L_27 _ rfl) sh0 (by decide) (c_X7_place ρ σ (xs (i + 1)) (xs (i + 2)) hC) rfl rfl (Nat.le_of_ble_eq_true rfl) (fun v1 ρ1 h1 => ?_)
  obtain ⟨rfl, hC1, hE1⟩ := h1
  have hM1 := hM.eqM hE1
  refine l_al dlw_263 rfl ?_
  refine l_al dlw_264 rfl ?_
  refine l_il dlw_265 rfl ?_
  refine l_k dlw_266 ?_
  refine l_iadd dlw_267 ?_
  refine l_sld dlw_268 (by omega) hL ?_
  refine l_al dlw_269 rfl ?_
  refine l_il dlw_270 rfl ?_
  refine l_k dlw_271 ?_
  refine l_iadd dlw_272 ?_
  refine l_sld dlw_273 (by omega) hL ?_
  refine l_call dlw_274 (vl_L_31 _ rfl) sh47 (by decide) (c_X8_place ρ1 σ (xs (i + 1)) (xs (i + 2)) hM1) rfl rfl (Nat.le_of_ble_eq_true rfl) (fun v2 ρ2 h2 => ?_)
  obtain ⟨rfl, hM2, hE2⟩ := h2
  refine l_same dlw_277 ?_
  exact k _ _ (hC1.eqC hE2) hM2
theorem lc_4 {L i : Nat} {xs : Nat → Int32} {ρ : Rho} {σ : Sg} (hL : L ≤ 4096) (hi : i + 8 ≤ L) (hC : CInv σ ρ) (hM : MInv σ ρ) (k : ∀ (ρ2 : Rho) (σ2 : Sg), CInv σ2 ρ2 → MInv σ2 ρ2 → LW L xs 1671 [some (.ref 73), some (.ref 0), some (.ref 47), some (.int (nI i))] [] ρ2) : LW L xs 282 [some (.ref 73), some (.ref 0), some (.ref 47), some (.int (nI i))] [] ρ := by
  refine l_al dlw_282 rfl ?_
  refine l_al dlw_283 rfl ?_
  refine l_il dlw_284 rfl ?_
  refine l_k dlw_285 ?_
  refine l_iadd dlw_286 ?_
  refine l_sld dlw_287 (by omega) hL ?_
  refine l_al dlw_288 rfl ?_
  refine l_il dlw_289 rfl ?_
  refine l_k dlw_290 ?_
  refine l_iadd dlw_291 ?_
  refine l_sld dlw_292 (by omega) hL ?_
  refine l_al dlw_293 rfl ?_
  refine l_il dlw_294 rfl ?_
  refine l_k dlw_295 ?_
  refine l_iadd dlw_296 ?_
  refine l_sld dlw_297 (by omega) hL ?_
  refine l_call dlw_298 (vl_L_32 _ rfl) sh0 (by decide) (c_X7_bridge ρ σ (xs (i + 1)) (xs (i + 2)) (xs (i + 3)) hC) rfl rfl (Nat.le_of_ble_eq_true rfl) (fun v1 ρ1 h1 => ?_)
  obtain ⟨rfl, hC1, hE1⟩ := h1
  have hM1 := hM.eqM hE1
  refine l_al dlw_301 rfl ?_
  refine l_al dlw_302 rfl ?_
  refine l_il dlw_303 rfl ?_
  refine l_k dlw_304 ?_
  refine l_iadd dlw_305 ?_
  refine l_sld dlw_306 (by omega) hL ?_
  refine l_al dlw_307 rfl ?_
  refine l_il dlw_308 rfl ?_
  refine l_k dlw_309 ?_
  refine l_iadd dlw_310 ?_
  refine l_sld dlw_311 (by omega) hL ?_
  refine l_al dlw_312 rfl ?_
  refine l_il dlw_313 rfl ?_
  refine l_k dlw_314 ?_
  refine l_iadd dlw_315 ?_
  refine l_sld dlw_316 (by omega) hL ?_
  refine l_call dlw_317 (vl_L_36 _ rfl) sh47 (by decide) (c_X8_bridge ρ1 σ (xs (i + 1)) (xs (i + 2)) (xs (i + 3)) hM1) rfl rfl (Nat.le_of_ble_eq_true rfl) (fun v2 ρ2 h2 => ?_)
  obtain ⟨rfl, hM2, hE2⟩ := h2
  refine l_same dlw_320 ?_
  exact k _ _ (hC1.eqC hE2) hM2
theorem lc_5 {L i : Nat} {xs : Nat → Int32} {ρ : Rho} {σ : Sg} (hL : L ≤ 4096) (hi : i + 8 ≤ L) (hC : CInv σ ρ) (hM : MInv σ ρ) (k : ∀ (ρ2 : Rho) (σ2 : Sg), CInv σ2 ρ2 → MInv σ2 ρ2 → LW L xs 1671 [some (.ref 73), some (.ref 0), some (.ref 47), some (.int (nI i))] [] ρ2) : LW L xs 325 [some (.ref 73), some (.ref 0), some (.ref 47), some (.int (nI i))] [] ρ := by
  refine l_al dlw_325 rfl ?_
  refine l_al dlw_326 rfl ?_
  refine l_il dlw_327 rfl ?_
  refine l_k dlw_328 ?_
  refine l_iadd dlw_329 ?_
  refine l_sld dlw_330 (by omega) hL ?_
  refine l_al dlw_331 rfl ?_
  refine l_il dlw_332 rfl ?_
  refine l_k dlw_333 ?_
  refine l_iadd dlw_334 ?_
  refine l_sld dlw_335 (by omega) hL ?_
  refine l_al dlw_336 rfl ?_
  refine l_il dlw_337 rfl ?_
  refine l_k dlw_338 ?_
  refine l_iadd dlw_339 ?_
  refine l_sld dlw_340 (by omega) hL ?_
  refine l_call dlw_341 (vl_L_37 _ rfl) sh0 (by decide) (c_X7_gale ρ σ (xs (i + 1)) (xs (i + 2)) (xs (i + 3)) hC) rfl rfl (Nat.le_of_ble_eq_true rfl) (fun v1 ρ1 h1 => ?_)
  obtain ⟨rfl, hC1, hE1⟩ := h1
  have hM1 := hM.eqM hE1
  refine l_al dlw_344 rfl ?_
  refine l_al dlw_345 rfl ?_
  refine l_il dlw_346 rfl ?_
  refine l_k dlw_347 ?_
  refine l_iadd dlw_348 ?_
  refine l_sld dlw_349 (by omega) hL ?_
  refine l_al dlw_350 rfl ?_
  refine l_il dlw_351 rfl ?_
  refine l_k dlw_352 ?_
  refine l_iadd dlw_353 ?_
  refine l_sld dlw_354 (by omega) hL ?_
  refine l_al dlw_355 rfl ?_
  refine l_il dlw_356 rfl ?_
  refine l_k dlw_357 ?_
  refine l_iadd dlw_358 ?_
  refine l_sld dlw_359 (by omega) hL ?_
  refine l_call dlw_360 (vl_L_40 _ rfl) sh47 (by decide) (c_X8_gale ρ1 σ (xs (i + 1)) (xs (i + 2)) (xs (i + 3)) hM1) rfl rfl (Nat.le_of_ble_eq_true rfl) (fun v2 ρ2 h2 => ?_)
  obtain ⟨rfl, hM2, hE2⟩ := h2
  refine l_same dlw_363 ?_
  exact k _ _ (hC1.eqC hE2) hM2
theorem lc_6 {L i : Nat} {xs : Nat → Int32} {ρ : Rho} {σ : Sg} (hL : L ≤ 4096) (hi : i + 8 ≤ L) (hC : CInv σ ρ) (hM : MInv σ ρ) (k : ∀ (ρ2 : Rho) (σ2 : Sg), CInv σ2 ρ2 → MInv σ2 ρ2 → LW L xs 1671 [some (.ref 73), some (.ref 0), some (.ref 47), some (.int (nI i))] [] ρ2) : LW L xs 368 [some (.ref 73), some (.ref 0), some (.ref 47), some (.int (nI i))] [] ρ := by
  refine l_al dlw_368 rfl ?_
  refine l_al dlw_369 rfl ?_
  refine l_il dlw_370 rfl ?_
  refine l_k dlw_371 ?_
  refine l_iadd dlw_372 ?_
  refine l_sld dlw_373 (by omega) hL ?_
  refine l_al dlw_374 rfl ?_
  refine l_il dlw_375 rfl ?_
  refine l_k dlw_376 ?_
  refine l_iadd dlw_377 ?_
  refine l_sld dlw_378 (by omega) hL ?_
  refine l_call dlw_379 (vl_L_41 _ rfl) sh0 (by decide) (c_X7_read ρ σ (xs (i + 1)) (xs (i + 2)) hC) rfl rfl (Nat.le_of_ble_eq_true rfl) (fun v1 ρ1 h1 => ?_)
  obtain ⟨rfl, hC1, hE1⟩ := h1
  have hM1 := hM.eqM hE1
  refine l_al dlw_382 rfl ?_
  refine l_al dlw_383 rfl ?_
  refine l_il dlw_384 rfl ?_
  refine l_k dlw_385 ?_
  refine l_iadd dlw_386 ?_
  refine l_sld dlw_387 (by omega) hL ?_
  refine l_al dlw_388 rfl ?_
  refine l_il dlw_389 rfl ?_
  refine l_k dlw_390 ?_
  refine l_iadd dlw_391 ?_
  refine l_sld dlw_392 (by omega) hL ?_
  refine l_call dlw_393 (vl_L_44 _ rfl) sh47 (by decide) (c_X8_read ρ1 σ (xs (i + 1)) (xs (i + 2)) hM1) rfl rfl (Nat.le_of_ble_eq_true rfl) (fun v2 ρ2 h2 => ?_)
  obtain ⟨rfl, hM2, hE2⟩ := h2
  refine l_same dlw_396 ?_
  exact k _ _ (hC1.eqC hE2) hM2
theorem lc_7 {L i : Nat} {xs : Nat → Int32} {ρ : Rho} {σ : Sg} (hL : L ≤ 4096) (hi : i + 8 ≤ L) (hC : CInv σ ρ) (hM : MInv σ ρ) (k : ∀ (ρ2 : Rho) (σ2 : Sg), CInv σ2 ρ2 → MInv σ2 ρ2 → LW L xs 1671 [some (.ref 73), some (.ref 0), some (.ref 47), some (.int (nI i))] [] ρ2) : LW L xs 401 [some (.ref 73), some (.ref 0), some (.ref 47), some (.int (nI i))] [] ρ := by
  refine l_al dlw_401 rfl ?_
  refine l_al dlw_402 rfl ?_
  refine l_il dlw_403 rfl ?_
  refine l_k dlw_404 ?_
  refine l_iadd dlw_405 ?_
  refine l_sld dlw_406 (by omega) hL ?_
  refine l_al dlw_407 rfl ?_
  refine l_il dlw_408 rfl ?_
  refine l_k dlw_409 ?_
  refine l_iadd dlw_410 ?_
  refine l_sld dlw_411 (by omega) hL ?_
  refine l_call dlw_412 (vl_L_45 _ rfl) sh0 (by decide) (c_X7_takeBack ρ σ (xs (i + 1)) (xs (i + 2)) hC) rfl rfl (Nat.le_of_ble_eq_true rfl) (fun v1 ρ1 h1 => ?_)
  obtain ⟨rfl, hC1, hE1⟩ := h1
  have hM1 := hM.eqM hE1
  refine l_al dlw_415 rfl ?_
  refine l_al dlw_416 rfl ?_
  refine l_il dlw_417 rfl ?_
  refine l_k dlw_418 ?_
  refine l_iadd dlw_419 ?_
  refine l_sld dlw_420 (by omega) hL ?_
  refine l_al dlw_421 rfl ?_
  refine l_il dlw_422 rfl ?_
  refine l_k dlw_423 ?_
  refine l_iadd dlw_424 ?_
  refine l_sld dlw_425 (by omega) hL ?_
  refine l_call dlw_426 (vl_L_48 _ rfl) sh47 (by decide) (c_X8_takeBack ρ1 σ (xs (i + 1)) (xs (i + 2)) hM1) rfl rfl (Nat.le_of_ble_eq_true rfl) (fun v2 ρ2 h2 => ?_)
  obtain ⟨rfl, hM2, hE2⟩ := h2
  refine l_same dlw_429 ?_
  exact k _ _ (hC1.eqC hE2) hM2
theorem lc_8 {L i : Nat} {xs : Nat → Int32} {ρ : Rho} {σ : Sg} (hL : L ≤ 4096) (hi : i + 8 ≤ L) (hC : CInv σ ρ) (hM : MInv σ ρ) (k : ∀ (ρ2 : Rho) (σ2 : Sg), CInv σ2 ρ2 → MInv σ2 ρ2 → LW L xs 1671 [some (.ref 73), some (.ref 0), some (.ref 47), some (.int (nI i))] [] ρ2) : LW L xs 434 [some (.ref 73), some (.ref 0), some (.ref 47), some (.int (nI i))] [] ρ := by
  refine l_al dlw_434 rfl ?_
  refine l_al dlw_435 rfl ?_
  refine l_il dlw_436 rfl ?_
  refine l_k dlw_437 ?_
  refine l_iadd dlw_438 ?_
  refine l_sld dlw_439 (by omega) hL ?_
  refine l_al dlw_440 rfl ?_
  refine l_il dlw_441 rfl ?_
  refine l_k dlw_442 ?_
  refine l_iadd dlw_443 ?_
  refine l_sld dlw_444 (by omega) hL ?_
  refine l_call dlw_445 (vl_L_49 _ rfl) sh0 (by decide) (c_X7_set ρ σ (xs (i + 1)) (xs (i + 2)) hC) rfl rfl (Nat.le_of_ble_eq_true rfl) (fun v1 ρ1 h1 => ?_)
  obtain ⟨rfl, hC1, hE1⟩ := h1
  have hM1 := hM.eqM hE1
  refine l_al dlw_448 rfl ?_
  refine l_al dlw_449 rfl ?_
  refine l_il dlw_450 rfl ?_
  refine l_k dlw_451 ?_
  refine l_iadd dlw_452 ?_
  refine l_sld dlw_453 (by omega) hL ?_
  refine l_al dlw_454 rfl ?_
  refine l_il dlw_455 rfl ?_
  refine l_k dlw_456 ?_
  refine l_iadd dlw_457 ?_
  refine l_sld dlw_458 (by omega) hL ?_
  refine l_call dlw_459 (vl_L_52 _ rfl) sh47 (by decide) (c_X8_set ρ1 σ (xs (i + 1)) (xs (i + 2)) hM1) rfl rfl (Nat.le_of_ble_eq_true rfl) (fun v2 ρ2 h2 => ?_)
  obtain ⟨rfl, hM2, hE2⟩ := h2
  refine l_same dlw_462 ?_
  exact k _ _ (hC1.eqC hE2) hM2
theorem lc_9 {L i : Nat} {xs : Nat → Int32} {ρ : Rho} {σ : Sg} (hL : L ≤ 4096) (hi : i + 8 ≤ L) (hC : CInv σ ρ) (hM : MInv σ ρ) (k : ∀ (ρ2 : Rho) (σ2 : Sg), CInv σ2 ρ2 → MInv σ2 ρ2 → LW L xs 1671 [some (.ref 73), some (.ref 0), some (.ref 47), some (.int (nI i))] [] ρ2) : LW L xs 467 [some (.ref 73), some (.ref 0), some (.ref 47), some (.int (nI i))] [] ρ := by
  refine l_al dlw_467 rfl ?_
  refine l_al dlw_468 rfl ?_
  refine l_il dlw_469 rfl ?_
  refine l_k dlw_470 ?_
  refine l_iadd dlw_471 ?_
  refine l_sld dlw_472 (by omega) hL ?_
  refine l_al dlw_473 rfl ?_
  refine l_il dlw_474 rfl ?_
  refine l_k dlw_475 ?_
  refine l_iadd dlw_476 ?_
  refine l_sld dlw_477 (by omega) hL ?_
  refine l_call dlw_478 (vl_L_53 _ rfl) sh0 (by decide) (c_X7_sun ρ σ (xs (i + 1)) (xs (i + 2)) hC) rfl rfl (Nat.le_of_ble_eq_true rfl) (fun v1 ρ1 h1 => ?_)
  obtain ⟨rfl, hC1, hE1⟩ := h1
  have hM1 := hM.eqM hE1
  refine l_al dlw_481 rfl ?_
  refine l_al dlw_482 rfl ?_
  refine l_il dlw_483 rfl ?_
  refine l_k dlw_484 ?_
  refine l_iadd dlw_485 ?_
  refine l_sld dlw_486 (by omega) hL ?_
  refine l_al dlw_487 rfl ?_
  refine l_il dlw_488 rfl ?_
  refine l_k dlw_489 ?_
  refine l_iadd dlw_490 ?_
  refine l_sld dlw_491 (by omega) hL ?_
  refine l_call dlw_492 (vl_L_56 _ rfl) sh47 (by decide) (c_X8_sun ρ1 σ (xs (i + 1)) (xs (i + 2)) hM1) rfl rfl (Nat.le_of_ble_eq_true rfl) (fun v2 ρ2 h2 => ?_)
  obtain ⟨rfl, hM2, hE2⟩ := h2
  refine l_same dlw_495 ?_
  exact k _ _ (hC1.eqC hE2) hM2
theorem lc_10 {L i : Nat} {xs : Nat → Int32} {ρ : Rho} {σ : Sg} (hL : L ≤ 4096) (hi : i + 8 ≤ L) (hC : CInv σ ρ) (hM : MInv σ ρ) (k : ∀ (ρ2 : Rho) (σ2 : Sg), CInv σ2 ρ2 → MInv σ2 ρ2 → LW L xs 1671 [some (.ref 73), some (.ref 0), some (.ref 47), some (.int (nI i))] [] ρ2) : LW L xs 500 [some (.ref 73), some (.ref 0), some (.ref 47), some (.int (nI i))] [] ρ := by
  refine l_al dlw_500 rfl ?_
  refine l_al dlw_501 rfl ?_
  refine l_il dlw_502 rfl ?_
  refine l_k dlw_503 ?_
  refine l_iadd dlw_504 ?_
  refine l_sld dlw_505 (by omega) hL ?_
  refine l_call dlw_506 (vl_L_57 _ rfl) sh0 (by decide) (c_X7_turn ρ σ (xs (i + 1)) hC) rfl rfl (Nat.le_of_ble_eq_true rfl) (fun v1 ρ1 h1 => ?_)
  obtain ⟨rfl, hC1, hE1⟩ := h1
  have hM1 := hM.eqM hE1
  refine l_al dlw_509 rfl ?_
  refine l_al dlw_510 rfl ?_
  refine l_il dlw_511 rfl ?_
  refine l_k dlw_512 ?_
  refine l_iadd dlw_513 ?_
  refine l_sld dlw_514 (by omega) hL ?_
  refine l_call dlw_515 (vl_L_60 _ rfl) sh47 (by decide) (c_X8_turn ρ1 σ (xs (i + 1)) hM1) rfl rfl (Nat.le_of_ble_eq_true rfl) (fun v2 ρ2 h2 => ?_)
  obtain ⟨rfl, hM2, hE2⟩ := h2
  refine l_same dlw_518 ?_
  exact k _ _ (hC1.eqC hE2) hM2
theorem lc_11 {L i : Nat} {xs : Nat → Int32} {ρ : Rho} {σ : Sg} (hL : L ≤ 4096) (hi : i + 8 ≤ L) (hC : CInv σ ρ) (hM : MInv σ ρ) (k : ∀ (ρ2 : Rho) (σ2 : Sg), CInv σ2 ρ2 → MInv σ2 ρ2 → LW L xs 1671 [some (.ref 73), some (.ref 0), some (.ref 47), some (.int (nI i))] [] ρ2) : LW L xs 523 [some (.ref 73), some (.ref 0), some (.ref 47), some (.int (nI i))] [] ρ := by
  refine l_al dlw_523 rfl ?_
  refine l_al dlw_524 rfl ?_
  refine l_il dlw_525 rfl ?_
  refine l_k dlw_526 ?_
  refine l_iadd dlw_527 ?_
  refine l_sld dlw_528 (by omega) hL ?_
  refine l_al dlw_529 rfl ?_
  refine l_il dlw_530 rfl ?_
  refine l_k dlw_531 ?_
  refine l_iadd dlw_532 ?_
  refine l_sld dlw_533 (by omega) hL ?_
  refine l_al dlw_534 rfl ?_
  refine l_il dlw_535 rfl ?_
  refine l_k dlw_536 ?_
  refine l_iadd dlw_537 ?_
  refine l_sld dlw_538 (by omega) hL ?_
  refine l_call dlw_539 (vl_L_61 _ rfl) sh0 (by decide) (c_X7_door ρ σ (xs (i + 1)) (xs (i + 2)) (xs (i + 3)) hC) rfl rfl (Nat.le_of_ble_eq_true rfl) (fun v1 ρ1 h1 => ?_)
  obtain ⟨rfl, hC1, hE1⟩ := h1
  have hM1 := hM.eqM hE1
  refine l_al dlw_542 rfl ?_
  refine l_al dlw_543 rfl ?_
  refine l_il dlw_544 rfl ?_
  refine l_k dlw_545 ?_
  refine l_iadd dlw_546 ?_
  refine l_sld dlw_547 (by omega) hL ?_
  refine l_al dlw_548 rfl ?_
  refine l_il dlw_549 rfl ?_
  refine l_k dlw_550 ?_
  refine l_iadd dlw_551 ?_
  refine l_sld dlw_552 (by omega) hL ?_
  refine l_al dlw_553 rfl ?_
  refine l_il dlw_554 rfl ?_
  refine l_k dlw_555 ?_
  refine l_iadd dlw_556 ?_
  refine l_sld dlw_557 (by omega) hL ?_
  refine l_call dlw_558 (vl_L_64 _ rfl) sh47 (by decide) (c_X8_door ρ1 σ (xs (i + 1)) (xs (i + 2)) (xs (i + 3)) hM1) rfl rfl (Nat.le_of_ble_eq_true rfl) (fun v2 ρ2 h2 => ?_)
  obtain ⟨rfl, hM2, hE2⟩ := h2
  refine l_same dlw_561 ?_
  exact k _ _ (hC1.eqC hE2) hM2
theorem lc_12 {L i : Nat} {xs : Nat → Int32} {ρ : Rho} {σ : Sg} (hL : L ≤ 4096) (hi : i + 8 ≤ L) (hC : CInv σ ρ) (hM : MInv σ ρ) (k : ∀ (ρ2 : Rho) (σ2 : Sg), CInv σ2 ρ2 → MInv σ2 ρ2 → LW L xs 1671 [some (.ref 73), some (.ref 0), some (.ref 47), some (.int (nI i))] [] ρ2) : LW L xs 566 [some (.ref 73), some (.ref 0), some (.ref 47), some (.int (nI i))] [] ρ := by
  refine l_al dlw_566 rfl ?_
  refine l_al dlw_567 rfl ?_
  refine l_il dlw_568 rfl ?_
  refine l_k dlw_569 ?_
  refine l_iadd dlw_570 ?_
  refine l_sld dlw_571 (by omega) hL ?_
  refine l_al dlw_572 rfl ?_
  refine l_il dlw_573 rfl ?_
  refine l_k dlw_574 ?_
  refine l_iadd dlw_575 ?_
  refine l_sld dlw_576 (by omega) hL ?_
  refine l_al dlw_577 rfl ?_
  refine l_il dlw_578 rfl ?_
  refine l_k dlw_579 ?_
  refine l_iadd dlw_580 ?_
  refine l_sld dlw_581 (by omega) hL ?_
  refine l_al dlw_582 rfl ?_
  refine l_il dlw_583 rfl ?_
  refine l_k dlw_584 ?_
  refine l_iadd dlw_585 ?_
  refine l_sld dlw_586 (by omega) hL ?_
  refine l_al dlw_587 rfl ?_
  refine l_il dlw_588 rfl ?_
  refine l_k dlw_589 ?_
  refine l_iadd dlw_590 ?_
  refine l_sld dlw_591 (by omega) hL ?_
  refine l_call dlw_592 (vl_L_65 _ rfl) sh0 (by decide) (c_X7_share ρ σ (xs (i + 1)) (xs (i + 2)) (xs (i + 3)) (xs (i + 4)) (xs (i + 5)) hC) rfl rfl (Nat.le_of_ble_eq_true rfl) (fun v1 ρ1 h1 => ?_)
  obtain ⟨rfl, hC1, hE1⟩ := h1
  have hM1 := hM.eqM hE1
  refine l_al dlw_595 rfl ?_
  refine l_al dlw_596 rfl ?_
  refine l_il dlw_597 rfl ?_
  refine l_k dlw_598 ?_
  refine l_iadd dlw_599 ?_
  refine l_sld dlw_600 (by omega) hL ?_
  refine l_al dlw_601 rfl ?_
  refine l_il dlw_602 rfl ?_
  refine l_k dlw_603 ?_
  refine l_iadd dlw_604 ?_
  refine l_sld dlw_605 (by omega) hL ?_
  refine l_al dlw_606 rfl ?_
  refine l_il dlw_607 rfl ?_
  refine l_k dlw_608 ?_
  refine l_iadd dlw_609 ?_
  refine l_sld dlw_610 (by omega) hL ?_
  refine l_al dlw_611 rfl ?_
  refine l_il dlw_612 rfl ?_
  refine l_k dlw_613 ?_
  refine l_iadd dlw_614 ?_
  refine l_sld dlw_615 (by omega) hL ?_
  refine l_al dlw_616 rfl ?_
  refine l_il dlw_617 rfl ?_
  refine l_k dlw_618 ?_
  refine l_iadd dlw_619 ?_
  refine l_sld dlw_620 (by omega) hL ?_
  refine l_call dlw_621 (vl_L_69 _ rfl) sh47 (by decide) (c_X8_share ρ1 σ (xs (i + 1)) (xs (i + 2)) (xs (i + 3)) (xs (i + 4)) (xs (i + 5)) hM1) rfl rfl (Nat.le_of_ble_eq_true rfl) (fun v2 ρ2 h2 => ?_)
  obtain ⟨rfl, hM2, hE2⟩ := h2
  refine l_lcmp dlw_624 ?_
  refine l_sameL dlw_625 ?_
  exact k _ _ (hC1.eqC hE2) hM2
theorem lc_13 {L i : Nat} {xs : Nat → Int32} {ρ : Rho} {σ : Sg} (hL : L ≤ 4096) (hi : i + 8 ≤ L) (hC : CInv σ ρ) (hM : MInv σ ρ) (k : ∀ (ρ2 : Rho) (σ2 : Sg), CInv σ2 ρ2 → MInv σ2 ρ2 → LW L xs 1671 [some (.ref 73), some (.ref 0), some (.ref 47), some (.int (nI i))] [] ρ2) : LW L xs 630 [some (.ref 73), some (.ref 0), some (.ref 47), some (.int (nI i))] [] ρ := by
  refine l_al dlw_630 rfl ?_
  refine l_al dlw_631 rfl ?_
  refine l_il dlw_632 rfl ?_
  refine l_k dlw_633 ?_
  refine l_iadd dlw_634 ?_
  refine l_sld dlw_635 (by omega) hL ?_
  refine l_al dlw_636 rfl ?_
  refine l_il dlw_637 rfl ?_
  refine l_k dlw_638 ?_
  refine l_iadd dlw_639 ?_
  refine l_sld dlw_640 (by omega) hL ?_
  refine l_al dlw_641 rfl ?_
  refine l_il dlw_642 rfl ?_
  refine l_k dlw_643 ?_
  refine l_iadd dlw_644 ?_
  refine l_sld dlw_645 (by omega) hL ?_
  refine l_call dlw_646 (vl_L_70 _ rfl) sh0 (by decide) (c_X7_shine ρ σ (xs (i + 1)) (xs (i + 2)) (xs (i + 3)) hC) rfl rfl (Nat.le_of_ble_eq_true rfl) (fun v1 ρ1 h1 => ?_)
  obtain ⟨rfl, hC1, hE1⟩ := h1
  have hM1 := hM.eqM hE1
  refine l_al dlw_649 rfl ?_
  refine l_al dlw_650 rfl ?_
  refine l_il dlw_651 rfl ?_
  refine l_k dlw_652 ?_
  refine l_iadd dlw_653 ?_
  refine l_sld dlw_654 (by omega) hL ?_
  refine l_al dlw_655 rfl ?_
  refine l_il dlw_656 rfl ?_
  refine l_k dlw_657 ?_
  refine l_iadd dlw_658 ?_
  refine l_sld dlw_659 (by omega) hL ?_
  refine l_al dlw_660 rfl ?_
  refine l_il dlw_661 rfl ?_
  refine l_k dlw_662 ?_
  refine l_iadd dlw_663 ?_
  refine l_sld dlw_664 (by omega) hL ?_
  refine l_call dlw_665 (vl_L_73 _ rfl) sh47 (by decide) (c_X8_shine ρ1 σ (xs (i + 1)) (xs (i + 2)) (xs (i + 3)) hM1) rfl rfl (Nat.le_of_ble_eq_true rfl) (fun v2 ρ2 h2 => ?_)
  obtain ⟨rfl, hM2, hE2⟩ := h2
  refine l_same dlw_668 ?_
  exact k _ _ (hC1.eqC hE2) hM2
theorem lc_14 {L i : Nat} {xs : Nat → Int32} {ρ : Rho} {σ : Sg} (hL : L ≤ 4096) (hi : i + 8 ≤ L) (hC : CInv σ ρ) (hM : MInv σ ρ) (k : ∀ (ρ2 : Rho) (σ2 : Sg), CInv σ2 ρ2 → MInv σ2 ρ2 → LW L xs 1671 [some (.ref 73), some (.ref 0), some (.ref 47), some (.int (nI i))] [] ρ2) : LW L xs 673 [some (.ref 73), some (.ref 0), some (.ref 47), some (.int (nI i))] [] ρ := by
  refine l_al dlw_673 rfl ?_
  refine l_al dlw_674 rfl ?_
  refine l_il dlw_675 rfl ?_
  refine l_k dlw_676 ?_
  refine l_iadd dlw_677 ?_
  refine l_sld dlw_678 (by omega) hL ?_
  refine l_al dlw_679 rfl ?_
  refine l_il dlw_680 rfl ?_
  refine l_k dlw_681 ?_
  refine l_iadd dlw_682 ?_
  refine l_sld dlw_683 (by omega) hL ?_
  refine l_al dlw_684 rfl ?_
  refine l_il dlw_685 rfl ?_
  refine l_k dlw_686 ?_
  refine l_iadd dlw_687 ?_
  refine l_sld dlw_688 (by omega) hL ?_
  refine l_al dlw_689 rfl ?_
  refine l_il dlw_690 rfl ?_
  refine l_k dlw_691 ?_
  refine l_iadd dlw_692 ?_
  refine l_sld dlw_693 (by omega) hL ?_
  refine l_call dlw_694 (vl_L_74 _ rfl) sh0 (by decide) (c_X7_ahead ρ σ (xs (i + 1)) (xs (i + 2)) (xs (i + 3)) (xs (i + 4)) hC) rfl rfl (Nat.le_of_ble_eq_true rfl) (fun v1 ρ1 h1 => ?_)
  obtain ⟨rfl, hC1, hE1⟩ := h1
  have hM1 := hM.eqM hE1
  refine l_al dlw_697 rfl ?_
  refine l_al dlw_698 rfl ?_
  refine l_il dlw_699 rfl ?_
  refine l_k dlw_700 ?_
  refine l_iadd dlw_701 ?_
  refine l_sld dlw_702 (by omega) hL ?_
  refine l_al dlw_703 rfl ?_
  refine l_il dlw_704 rfl ?_
  refine l_k dlw_705 ?_
  refine l_iadd dlw_706 ?_
  refine l_sld dlw_707 (by omega) hL ?_
  refine l_al dlw_708 rfl ?_
  refine l_il dlw_709 rfl ?_
  refine l_k dlw_710 ?_
  refine l_iadd dlw_711 ?_
  refine l_sld dlw_712 (by omega) hL ?_
  refine l_al dlw_713 rfl ?_
  refine l_il dlw_714 rfl ?_
  refine l_k dlw_715 ?_
  refine l_iadd dlw_716 ?_
  refine l_sld dlw_717 (by omega) hL ?_
  refine l_call dlw_718 (vl_L_78 _ rfl) sh47 (by decide) (c_X8_ahead ρ1 σ (xs (i + 1)) (xs (i + 2)) (xs (i + 3)) (xs (i + 4)) hM1) rfl rfl (Nat.le_of_ble_eq_true rfl) (fun v2 ρ2 h2 => ?_)
  obtain ⟨rfl, hM2, hE2⟩ := h2
  refine l_same dlw_721 ?_
  exact k _ _ (hC1.eqC hE2) hM2
theorem lc_15 {L i : Nat} {xs : Nat → Int32} {ρ : Rho} {σ : Sg} (hL : L ≤ 4096) (hi : i + 8 ≤ L) (hC : CInv σ ρ) (hM : MInv σ ρ) (k : ∀ (ρ2 : Rho) (σ2 : Sg), CInv σ2 ρ2 → MInv σ2 ρ2 → LW L xs 1671 [some (.ref 73), some (.ref 0), some (.ref 47), some (.int (nI i))] [] ρ2) : LW L xs 726 [some (.ref 73), some (.ref 0), some (.ref 47), some (.int (nI i))] [] ρ := by
  refine l_al dlw_726 rfl ?_
  refine l_al dlw_727 rfl ?_
  refine l_il dlw_728 rfl ?_
  refine l_k dlw_729 ?_
  refine l_iadd dlw_730 ?_
  refine l_sld dlw_731 (by omega) hL ?_
  refine l_al dlw_732 rfl ?_
  refine l_il dlw_733 rfl ?_
  refine l_k dlw_734 ?_
  refine l_iadd dlw_735 ?_
  refine l_sld dlw_736 (by omega) hL ?_
  refine l_al dlw_737 rfl ?_
  refine l_il dlw_738 rfl ?_
  refine l_k dlw_739 ?_
  refine l_iadd dlw_740 ?_
  refine l_sld dlw_741 (by omega) hL ?_
  refine l_al dlw_742 rfl ?_
  refine l_il dlw_743 rfl ?_
  refine l_k dlw_744 ?_
  refine l_iadd dlw_745 ?_
  refine l_sld dlw_746 (by omega) hL ?_
  refine l_call dlw_747 (vl_L_79 _ rfl) sh0 (by decide) (c_X7_next ρ σ (xs (i + 1)) (xs (i + 2)) (xs (i + 3)) (xs (i + 4)) hC) rfl rfl (Nat.le_of_ble_eq_true rfl) (fun v1 ρ1 h1 => ?_)
  obtain ⟨rfl, hC1, hE1⟩ := h1
  have hM1 := hM.eqM hE1
  refine l_al dlw_750 rfl ?_
  refine l_al dlw_751 rfl ?_
  refine l_il dlw_752 rfl ?_
  refine l_k dlw_753 ?_
  refine l_iadd dlw_754 ?_
  refine l_sld dlw_755 (by omega) hL ?_
  refine l_al dlw_756 rfl ?_
  refine l_il dlw_757 rfl ?_
  refine l_k dlw_758 ?_
  refine l_iadd dlw_759 ?_
  refine l_sld dlw_760 (by omega) hL ?_
  refine l_al dlw_761 rfl ?_
  refine l_il dlw_762 rfl ?_
  refine l_k dlw_763 ?_
  refine l_iadd dlw_764 ?_
  refine l_sld dlw_765 (by omega) hL ?_
  refine l_al dlw_766 rfl ?_
  refine l_il dlw_767 rfl ?_
  refine l_k dlw_768 ?_
  refine l_iadd dlw_769 ?_
  refine l_sld dlw_770 (by omega) hL ?_
  refine l_call dlw_771 (vl_L_82 _ rfl) sh47 (by decide) (c_X8_next ρ1 σ (xs (i + 1)) (xs (i + 2)) (xs (i + 3)) (xs (i + 4)) hM1) rfl rfl (Nat.le_of_ble_eq_true rfl) (fun v2 ρ2 h2 => ?_)
  obtain ⟨rfl, hM2, hE2⟩ := h2
  refine l_same dlw_774 ?_
  exact k _ _ (hC1.eqC hE2) hM2
theorem lc_16 {L i : Nat} {xs : Nat → Int32} {ρ : Rho} {σ : Sg} (hL : L ≤ 4096) (hi : i + 8 ≤ L) (hC : CInv σ ρ) (hM : MInv σ ρ) (k : ∀ (ρ2 : Rho) (σ2 : Sg), CInv σ2 ρ2 → MInv σ2 ρ2 → LW L xs 1671 [some (.ref 73), some (.ref 0), some (.ref 47), some (.int (nI i))] [] ρ2) : LW L xs 779 [some (.ref 73), some (.ref 0), some (.ref 47), some (.int (nI i))] [] ρ := by
  refine l_al dlw_779 rfl ?_
  refine l_al dlw_780 rfl ?_
  refine l_il dlw_781 rfl ?_
  refine l_k dlw_782 ?_
  refine l_iadd dlw_783 ?_
  refine l_sld dlw_784 (by omega) hL ?_
  refine l_al dlw_785 rfl ?_
  refine l_il dlw_786 rfl ?_
  refine l_k dlw_787 ?_
  refine l_iadd dlw_788 ?_
  refine l_sld dlw_789 (by omega) hL ?_
  refine l_al dlw_790 rfl ?_
  refine l_il dlw_791 rfl ?_
  refine l_k dlw_792 ?_
  refine l_iadd dlw_793 ?_
  refine l_sld dlw_794 (by omega) hL ?_
  refine l_al dlw_795 rfl ?_
  refine l_il dlw_796 rfl ?_
  refine l_k dlw_797 ?_
  refine l_iadd dlw_798 ?_
  refine l_sld dlw_799 (by omega) hL ?_
  refine l_al dlw_800 rfl ?_
  refine l_il dlw_801 rfl ?_
  refine l_k dlw_802 ?_
  refine l_iadd dlw_803 ?_
  refine l_sld dlw_804 (by omega) hL ?_
  refine l_al dlw_805 rfl ?_
  refine l_il dlw_806 rfl ?_
  refine l_k dlw_807 ?_
  refine l_iadd dlw_809 ?_
  refine l_sld dlw_810 (by omega) hL ?_
  refine l_al dlw_811 rfl ?_
  refine l_il dlw_812 rfl ?_
  refine l_k dlw_813 ?_
  refine l_iadd dlw_815 ?_
  refine l_sld dlw_816 (by omega) hL ?_
  refine l_call dlw_817 (vl_L_83 _ rfl) sh0 (by decide) (c_X7_likely ρ σ (xs (i + 1)) (xs (i + 2)) (xs (i + 3)) (xs (i + 4)) (xs (i + 5)) (xs (i + 6)) (xs (i + 7)) hC) rfl rfl (Nat.le_of_ble_eq_true rfl) (fun v1 ρ1 h1 => ?_)
  obtain ⟨rfl, hC1, hE1⟩ := h1
  have hM1 := hM.eqM hE1
  refine l_al dlw_820 rfl ?_
  refine l_al dlw_821 rfl ?_
  refine l_il dlw_822 rfl ?_
  refine l_k dlw_823 ?_
  refine l_iadd dlw_824 ?_
  refine l_sld dlw_825 (by omega) hL ?_
  refine l_al dlw_826 rfl ?_
  refine l_il dlw_827 rfl ?_
  refine l_k dlw_828 ?_
  refine l_iadd dlw_829 ?_
  refine l_sld dlw_830 (by omega) hL ?_
  refine l_al dlw_831 rfl ?_
  refine l_il dlw_832 rfl ?_
  refine l_k dlw_833 ?_
  refine l_iadd dlw_834 ?_
  refine l_sld dlw_835 (by omega) hL ?_
  refine l_al dlw_836 rfl ?_
  refine l_il dlw_837 rfl ?_
  refine l_k dlw_838 ?_
  refine l_iadd dlw_839 ?_
  refine l_sld dlw_840 (by omega) hL ?_
  refine l_al dlw_841 rfl ?_
  refine l_il dlw_842 rfl ?_
  refine l_k dlw_843 ?_
  refine l_iadd dlw_844 ?_
  refine l_sld dlw_845 (by omega) hL ?_
  refine l_al dlw_846 rfl ?_
  refine l_il dlw_847 rfl ?_
  refine l_k dlw_848 ?_
  refine l_iadd dlw_850 ?_
  refine l_sld dlw_851 (by omega) hL ?_
  refine l_al dlw_852 rfl ?_
  refine l_il dlw_853 rfl ?_
  refine l_k dlw_854 ?_
  refine l_iadd dlw_856 ?_
  refine l_sld dlw_857 (by omega) hL ?_
  refine l_call dlw_858 (vl_L_87 _ rfl) sh47 (by decide) (c_X8_likely ρ1 σ (xs (i + 1)) (xs (i + 2)) (xs (i + 3)) (xs (i + 4)) (xs (i + 5)) (xs (i + 6)) (xs (i + 7)) hM1) rfl rfl (Nat.le_of_ble_eq_true rfl) (fun v2 ρ2 h2 => ?_)
  obtain ⟨rfl, hM2, hE2⟩ := h2
  refine l_lcmp dlw_861 ?_
  refine l_sameL dlw_862 ?_
  exact k _ _ (hC1.eqC hE2) hM2
theorem lc_17 {L i : Nat} {xs : Nat → Int32} {ρ : Rho} {σ : Sg} (hL : L ≤ 4096) (hi : i + 8 ≤ L) (hC : CInv σ ρ) (hM : MInv σ ρ) (k : ∀ (ρ2 : Rho) (σ2 : Sg), CInv σ2 ρ2 → MInv σ2 ρ2 → LW L xs 1671 [some (.ref 73), some (.ref 0), some (.ref 47), some (.int (nI i))] [] ρ2) : LW L xs 867 [some (.ref 73), some (.ref 0), some (.ref 47), some (.int (nI i))] [] ρ := by
  refine l_al dlw_867 rfl ?_
  refine l_al dlw_868 rfl ?_
  refine l_il dlw_869 rfl ?_
  refine l_k dlw_870 ?_
  refine l_iadd dlw_871 ?_
  refine l_sld dlw_872 (by omega) hL ?_
  refine l_al dlw_873 rfl ?_
  refine l_il dlw_874 rfl ?_
  refine l_k dlw_875 ?_
  refine l_iadd dlw_876 ?_
  refine l_sld dlw_877 (by omega) hL ?_
  refine l_al dlw_878 rfl ?_
  refine l_il dlw_879 rfl ?_
  refine l_k dlw_880 ?_
  refine l_iadd dlw_881 ?_
  refine l_sld dlw_882 (by omega) hL ?_
  refine l_call dlw_883 (vl_L_88 _ rfl) sh0 (by decide) (c_X7_soon ρ σ (xs (i + 1)) (xs (i + 2)) (xs (i + 3)) hC) rfl rfl (Nat.le_of_ble_eq_true rfl) (fun v1 ρ1 h1 => ?_)
  obtain ⟨rfl, hC1, hE1⟩ := h1
  have hM1 := hM.eqM hE1
  refine l_al dlw_886 rfl ?_
  refine l_al dlw_887 rfl ?_
  refine l_il dlw_888 rfl ?_
  refine l_k dlw_889 ?_
  refine l_iadd dlw_890 ?_
  refine l_sld dlw_891 (by omega) hL ?_
  refine l_al dlw_892 rfl ?_
  refine l_il dlw_893 rfl ?_
  refine l_k dlw_894 ?_
  refine l_iadd dlw_895 ?_
  refine l_sld dlw_896 (by omega) hL ?_
  refine l_al dlw_897 rfl ?_
  refine l_il dlw_898 rfl ?_
  refine l_k dlw_899 ?_
  refine l_iadd dlw_900 ?_
  refine l_sld dlw_901 (by omega) hL ?_
  refine l_call dlw_902 (vl_L_91 _ rfl) sh47 (by decide) (c_X8_soon ρ1 σ (xs (i + 1)) (xs (i + 2)) (xs (i + 3)) hM1) rfl rfl (Nat.le_of_ble_eq_true rfl) (fun v2 ρ2 h2 => ?_)
  obtain ⟨rfl, hM2, hE2⟩ := h2
  refine l_same dlw_905 ?_
  exact k _ _ (hC1.eqC hE2) hM2
theorem lc_18 {L i : Nat} {xs : Nat → Int32} {ρ : Rho} {σ : Sg} (hL : L ≤ 4096) (hi : i + 8 ≤ L) (hC : CInv σ ρ) (hM : MInv σ ρ) (k : ∀ (ρ2 : Rho) (σ2 : Sg), CInv σ2 ρ2 → MInv σ2 ρ2 → LW L xs 1671 [some (.ref 73), some (.ref 0), some (.ref 47), some (.int (nI i))] [] ρ2) : LW L xs 910 [some (.ref 73), some (.ref 0), some (.ref 47), some (.int (nI i))] [] ρ := by
  refine l_al dlw_910 rfl ?_
  refine l_al dlw_911 rfl ?_
  refine l_il dlw_912 rfl ?_
  refine l_k dlw_913 ?_
  refine l_iadd dlw_914 ?_
  refine l_sld dlw_915 (by omega) hL ?_
  refine l_al dlw_916 rfl ?_
  refine l_il dlw_917 rfl ?_
  refine l_k dlw_918 ?_
  refine l_iadd dlw_919 ?_
  refine l_sld dlw_920 (by omega) hL ?_
  refine l_al dlw_921 rfl ?_
  refine l_il dlw_922 rfl ?_
  refine l_k dlw_923 ?_
  refine l_iadd dlw_924 ?_
  refine l_sld dlw_925 (by omega) hL ?_
  refine l_call dlw_926 (vl_L_92 _ rfl) sh0 (by decide) (c_X7_carried ρ σ (xs (i + 1)) (xs (i + 2)) (xs (i + 3)) hC) rfl rfl (Nat.le_of_ble_eq_true rfl) (fun v1 ρ1 h1 => ?_)
  obtain ⟨rfl, hC1, hE1⟩ := h1
  have hM1 := hM.eqM hE1
  refine l_al dlw_929 rfl ?_
  refine l_al dlw_930 rfl ?_
  refine l_il dlw_931 rfl ?_
  refine l_k dlw_932 ?_
  refine l_iadd dlw_933 ?_
  refine l_sld dlw_934 (by omega) hL ?_
  refine l_al dlw_935 rfl ?_
  refine l_il dlw_936 rfl ?_
  refine l_k dlw_937 ?_
  refine l_iadd dlw_938 ?_
  refine l_sld dlw_939 (by omega) hL ?_
  refine l_al dlw_940 rfl ?_
  refine l_il dlw_941 rfl ?_
  refine l_k dlw_942 ?_
  refine l_iadd dlw_943 ?_
  refine l_sld dlw_944 (by omega) hL ?_
  refine l_call dlw_945 (vl_L_95 _ rfl) sh47 (by decide) (c_X8_carried ρ1 σ (xs (i + 1)) (xs (i + 2)) (xs (i + 3)) hM1) rfl rfl (Nat.le_of_ble_eq_true rfl) (fun v2 ρ2 h2 => ?_)
  obtain ⟨rfl, hM2, hE2⟩ := h2
  refine l_same dlw_948 ?_
  exact k _ _ (hC1.eqC hE2) hM2
theorem lc_19 {L i : Nat} {xs : Nat → Int32} {ρ : Rho} {σ : Sg} (hL : L ≤ 4096) (hi : i + 8 ≤ L) (hC : CInv σ ρ) (hM : MInv σ ρ) (k : ∀ (ρ2 : Rho) (σ2 : Sg), CInv σ2 ρ2 → MInv σ2 ρ2 → LW L xs 1671 [some (.ref 73), some (.ref 0), some (.ref 47), some (.int (nI i))] [] ρ2) : LW L xs 953 [some (.ref 73), some (.ref 0), some (.ref 47), some (.int (nI i))] [] ρ := by
  refine l_al dlw_953 rfl ?_
  refine l_al dlw_954 rfl ?_
  refine l_il dlw_955 rfl ?_
  refine l_k dlw_956 ?_
  refine l_iadd dlw_957 ?_
  refine l_sld dlw_958 (by omega) hL ?_
  refine l_al dlw_959 rfl ?_
  refine l_il dlw_960 rfl ?_
  refine l_k dlw_961 ?_
  refine l_iadd dlw_962 ?_
  refine l_sld dlw_963 (by omega) hL ?_
  refine l_al dlw_964 rfl ?_
  refine l_il dlw_965 rfl ?_
  refine l_k dlw_966 ?_
  refine l_iadd dlw_967 ?_
  refine l_sld dlw_968 (by omega) hL ?_
  refine l_al dlw_969 rfl ?_
  refine l_il dlw_970 rfl ?_
  refine l_k dlw_971 ?_
  refine l_iadd dlw_972 ?_
  refine l_sld dlw_973 (by omega) hL ?_
  refine l_call dlw_974 (vl_L_96 _ rfl) sh0 (by decide) (c_X7_meet ρ σ (xs (i + 1)) (xs (i + 2)) (xs (i + 3)) (xs (i + 4)) hC) rfl rfl (Nat.le_of_ble_eq_true rfl) (fun v1 ρ1 h1 => ?_)
  obtain ⟨rfl, hC1, hE1⟩ := h1
  have hM1 := hM.eqM hE1
  refine l_al dlw_977 rfl ?_
  refine l_al dlw_978 rfl ?_
  refine l_il dlw_979 rfl ?_
  refine l_k dlw_980 ?_
  refine l_iadd dlw_981 ?_
  refine l_sld dlw_982 (by omega) hL ?_
  refine l_al dlw_983 rfl ?_
  refine l_il dlw_984 rfl ?_
  refine l_k dlw_985 ?_
  refine l_iadd dlw_986 ?_
  refine l_sld dlw_987 (by omega) hL ?_
  refine l_al dlw_988 rfl ?_
  refine l_il dlw_989 rfl ?_
  refine l_k dlw_990 ?_
  refine l_iadd dlw_991 ?_
  refine l_sld dlw_992 (by omega) hL ?_
  refine l_al dlw_993 rfl ?_
  refine l_il dlw_994 rfl ?_
  refine l_k dlw_995 ?_
  refine l_iadd dlw_996 ?_
  refine l_sld dlw_997 (by omega) hL ?_
  refine l_call dlw_998 (vl_L_99 _ rfl) sh47 (by decide) (c_X8_meet ρ1 σ (xs (i + 1)) (xs (i + 2)) (xs (i + 3)) (xs (i + 4)) hM1) rfl rfl (Nat.le_of_ble_eq_true rfl) (fun v2 ρ2 h2 => ?_)
  obtain ⟨rfl, hM2, hE2⟩ := h2
  refine l_same dlw_1001 ?_
  exact k _ _ (hC1.eqC hE2) hM2
theorem lc_20 {L i : Nat} {xs : Nat → Int32} {ρ : Rho} {σ : Sg} (hL : L ≤ 4096) (hi : i + 8 ≤ L) (hC : CInv σ ρ) (hM : MInv σ ρ) (k : ∀ (ρ2 : Rho) (σ2 : Sg), CInv σ2 ρ2 → MInv σ2 ρ2 → LW L xs 1671 [some (.ref 73), some (.ref 0), some (.ref 47), some (.int (nI i))] [] ρ2) : LW L xs 1006 [some (.ref 73), some (.ref 0), some (.ref 47), some (.int (nI i))] [] ρ := by
  refine l_al dlw_1006 rfl ?_
  refine l_al dlw_1007 rfl ?_
  refine l_il dlw_1008 rfl ?_
  refine l_k dlw_1009 ?_
  refine l_iadd dlw_1010 ?_
  refine l_sld dlw_1011 (by omega) hL ?_
  refine l_al dlw_1012 rfl ?_
  refine l_il dlw_1013 rfl ?_
  refine l_k dlw_1014 ?_
  refine l_iadd dlw_1015 ?_
  refine l_sld dlw_1016 (by omega) hL ?_
  refine l_al dlw_1017 rfl ?_
  refine l_il dlw_1018 rfl ?_
  refine l_k dlw_1019 ?_
  refine l_iadd dlw_1020 ?_
  refine l_sld dlw_1021 (by omega) hL ?_
  refine l_call dlw_1022 (vl_L_100 _ rfl) sh0 (by decide) (c_X7_wish ρ σ (xs (i + 1)) (xs (i + 2)) (xs (i + 3)) hC) rfl rfl (Nat.le_of_ble_eq_true rfl) (fun v1 ρ1 h1 => ?_)
  obtain ⟨rfl, hC1, hE1⟩ := h1
  have hM1 := hM.eqM hE1
  refine l_al dlw_1025 rfl ?_
  refine l_al dlw_1026 rfl ?_
  refine l_il dlw_1027 rfl ?_
  refine l_k dlw_1028 ?_
  refine l_iadd dlw_1029 ?_
  refine l_sld dlw_1030 (by omega) hL ?_
  refine l_al dlw_1031 rfl ?_
  refine l_il dlw_1032 rfl ?_
  refine l_k dlw_1033 ?_
  refine l_iadd dlw_1034 ?_
  refine l_sld dlw_1035 (by omega) hL ?_
  refine l_al dlw_1036 rfl ?_
  refine l_il dlw_1037 rfl ?_
  refine l_k dlw_1038 ?_
  refine l_iadd dlw_1039 ?_
  refine l_sld dlw_1040 (by omega) hL ?_
  refine l_call dlw_1041 (vl_L_103 _ rfl) sh47 (by decide) (c_X8_wish ρ1 σ (xs (i + 1)) (xs (i + 2)) (xs (i + 3)) hM1) rfl rfl (Nat.le_of_ble_eq_true rfl) (fun v2 ρ2 h2 => ?_)
  obtain ⟨rfl, hM2, hE2⟩ := h2
  refine l_same dlw_1044 ?_
  exact k _ _ (hC1.eqC hE2) hM2
theorem lc_21 {L i : Nat} {xs : Nat → Int32} {ρ : Rho} {σ : Sg} (hL : L ≤ 4096) (hi : i + 8 ≤ L) (hC : CInv σ ρ) (hM : MInv σ ρ) (k : ∀ (ρ2 : Rho) (σ2 : Sg), CInv σ2 ρ2 → MInv σ2 ρ2 → LW L xs 1671 [some (.ref 73), some (.ref 0), some (.ref 47), some (.int (nI i))] [] ρ2) : LW L xs 1049 [some (.ref 73), some (.ref 0), some (.ref 47), some (.int (nI i))] [] ρ := by
  refine l_al dlw_1049 rfl ?_
  refine l_al dlw_1050 rfl ?_
  refine l_il dlw_1051 rfl ?_
  refine l_k dlw_1052 ?_
  refine l_iadd dlw_1053 ?_
  refine l_sld dlw_1054 (by omega) hL ?_
  refine l_call dlw_1055 (vl_L_104 _ rfl) sh0 (by decide) (c_X7_lives ρ σ (xs (i + 1)) hC) rfl rfl (Nat.le_of_ble_eq_true rfl) (fun v1 ρ1 h1 => ?_)
  obtain ⟨rfl, hC1, hE1⟩ := h1
  have hM1 := hM.eqM hE1
  refine l_al dlw_1058 rfl ?_
  refine l_al dlw_1059 rfl ?_
  refine l_il dlw_1060 rfl ?_
  refine l_k dlw_1061 ?_
  refine l_iadd dlw_1062 ?_
  refine l_sld dlw_1063 (by omega) hL ?_
  refine l_call dlw_1064 (vl_L_107 _ rfl) sh47 (by decide) (c_X8_lives ρ1 σ (xs (i + 1)) hM1) rfl rfl (Nat.le_of_ble_eq_true rfl) (fun v2 ρ2 h2 => ?_)
  obtain ⟨rfl, hM2, hE2⟩ := h2
  refine l_same dlw_1067 ?_
  exact k _ _ (hC1.eqC hE2) hM2
theorem lc_22 {L i : Nat} {xs : Nat → Int32} {ρ : Rho} {σ : Sg} (hL : L ≤ 4096) (hi : i + 8 ≤ L) (hC : CInv σ ρ) (hM : MInv σ ρ) (k : ∀ (ρ2 : Rho) (σ2 : Sg), CInv σ2 ρ2 → MInv σ2 ρ2 → LW L xs 1671 [some (.ref 73), some (.ref 0), some (.ref 47), some (.int (nI i))] [] ρ2) : LW L xs 1072 [some (.ref 73), some (.ref 0), some (.ref 47), some (.int (nI i))] [] ρ := by
  refine l_al dlw_1072 rfl ?_
  refine l_al dlw_1073 rfl ?_
  refine l_il dlw_1074 rfl ?_
  refine l_k dlw_1075 ?_
  refine l_iadd dlw_1076 ?_
  refine l_sld dlw_1077 (by omega) hL ?_
  refine l_al dlw_1078 rfl ?_
  refine l_il dlw_1079 rfl ?_
  refine l_k dlw_1080 ?_
  refine l_iadd dlw_1081 ?_
  refine l_sld dlw_1082 (by omega) hL ?_
  refine l_al dlw_1083 rfl ?_
  refine l_il dlw_1084 rfl ?_
  refine l_k dlw_1085 ?_
  refine l_iadd dlw_1086 ?_
  refine l_sld dlw_1087 (by omega) hL ?_
  refine l_al dlw_1088 rfl ?_
  refine l_il dlw_1089 rfl ?_
  refine l_k dlw_1090 ?_
  refine l_iadd dlw_1091 ?_
  refine l_sld dlw_1092 (by omega) hL ?_
  refine l_call dlw_1093 (vl_L_108 _ rfl) sh0 (by decide) (c_X7_joy ρ σ (xs (i + 1)) (xs (i + 2)) (xs (i + 3)) (xs (i + 4)) hC) rfl rfl (Nat.le_of_ble_eq_true rfl) (fun v1 ρ1 h1 => ?_)
  obtain ⟨rfl, hC1, hE1⟩ := h1
  have hM1 := hM.eqM hE1
  refine l_al dlw_1096 rfl ?_
  refine l_al dlw_1097 rfl ?_
  refine l_il dlw_1098 rfl ?_
  refine l_k dlw_1099 ?_
  refine l_iadd dlw_1100 ?_
  refine l_sld dlw_1101 (by omega) hL ?_
  refine l_al dlw_1102 rfl ?_
  refine l_il dlw_1103 rfl ?_
  refine l_k dlw_1104 ?_
  refine l_iadd dlw_1105 ?_
  refine l_sld dlw_1106 (by omega) hL ?_
  refine l_al dlw_1107 rfl ?_
  refine l_il dlw_1108 rfl ?_
  refine l_k dlw_1109 ?_
  refine l_iadd dlw_1110 ?_
  refine l_sld dlw_1111 (by omega) hL ?_
  refine l_al dlw_1112 rfl ?_
  refine l_il dlw_1113 rfl ?_
  refine l_k dlw_1114 ?_
  refine l_iadd dlw_1115 ?_
  refine l_sld dlw_1116 (by omega) hL ?_
  refine l_call dlw_1117 (vl_L_111 _ rfl) sh47 (by decide) (c_X8_joy ρ1 σ (xs (i + 1)) (xs (i + 2)) (xs (i + 3)) (xs (i + 4)) hM1) rfl rfl (Nat.le_of_ble_eq_true rfl) (fun v2 ρ2 h2 => ?_)
  obtain ⟨rfl, hM2, hE2⟩ := h2
  refine l_same dlw_1120 ?_
  exact k _ _ (hC1.eqC hE2) hM2
theorem lc_23 {L i : Nat} {xs : Nat → Int32} {ρ : Rho} {σ : Sg} (hL : L ≤ 4096) (hi : i + 8 ≤ L) (hC : CInv σ ρ) (hM : MInv σ ρ) (k : ∀ (ρ2 : Rho) (σ2 : Sg), CInv σ2 ρ2 → MInv σ2 ρ2 → LW L xs 1671 [some (.ref 73), some (.ref 0), some (.ref 47), some (.int (nI i))] [] ρ2) : LW L xs 1125 [some (.ref 73), some (.ref 0), some (.ref 47), some (.int (nI i))] [] ρ := by
  refine l_al dlw_1125 rfl ?_
  refine l_al dlw_1126 rfl ?_
  refine l_il dlw_1127 rfl ?_
  refine l_k dlw_1128 ?_
  refine l_iadd dlw_1129 ?_
  refine l_sld dlw_1130 (by omega) hL ?_
  refine l_al dlw_1131 rfl ?_
  refine l_il dlw_1132 rfl ?_
  refine l_k dlw_1133 ?_
  refine l_iadd dlw_1134 ?_
  refine l_sld dlw_1135 (by omega) hL ?_
  refine l_call dlw_1136 (vl_L_112 _ rfl) sh0 (by decide) (c_X7_swap ρ σ (xs (i + 1)) (xs (i + 2)) hC) rfl rfl (Nat.le_of_ble_eq_true rfl) (fun v1 ρ1 h1 => ?_)
  obtain ⟨rfl, hC1, hE1⟩ := h1
  have hM1 := hM.eqM hE1
  refine l_al dlw_1139 rfl ?_
  refine l_al dlw_1140 rfl ?_
  refine l_il dlw_1141 rfl ?_
  refine l_k dlw_1142 ?_
  refine l_iadd dlw_1143 ?_
  refine l_sld dlw_1144 (by omega) hL ?_
  refine l_al dlw_1145 rfl ?_
  refine l_il dlw_1146 rfl ?_
  refine l_k dlw_1147 ?_
  refine l_iadd dlw_1148 ?_
  refine l_sld dlw_1149 (by omega) hL ?_
  refine l_call dlw_1150 (vl_L_115 _ rfl) sh47 (by decide) (c_X8_swap ρ1 σ (xs (i + 1)) (xs (i + 2)) hM1) rfl rfl (Nat.le_of_ble_eq_true rfl) (fun v2 ρ2 h2 => ?_)
  obtain ⟨rfl, hM2, hE2⟩ := h2
  refine l_same dlw_1153 ?_
  exact k _ _ (hC1.eqC hE2) hM2
theorem lc_24 {L i : Nat} {xs : Nat → Int32} {ρ : Rho} {σ : Sg} (hL : L ≤ 4096) (hi : i + 8 ≤ L) (hC : CInv σ ρ) (hM : MInv σ ρ) (k : ∀ (ρ2 : Rho) (σ2 : Sg), CInv σ2 ρ2 → MInv σ2 ρ2 → LW L xs 1671 [some (.ref 73), some (.ref 0), some (.ref 47), some (.int (nI i))] [] ρ2) : LW L xs 1158 [some (.ref 73), some (.ref 0), some (.ref 47), some (.int (nI i))] [] ρ := by
  refine l_al dlw_1158 rfl ?_
  refine l_al dlw_1159 rfl ?_
  refine l_il dlw_1160 rfl ?_
  refine l_k dlw_1161 ?_
  refine l_iadd dlw_1162 ?_
  refine l_sld dlw_1163 (by omega) hL ?_
  refine l_al dlw_1164 rfl ?_
  refine l_il dlw_1165 rfl ?_
  refine l_k dlw_1166 ?_
  refine l_iadd dlw_1167 ?_
  refine l_sld dlw_1168 (by omega) hL ?_
  refine l_al dlw_1169 rfl ?_
  refine l_il dlw_1170 rfl ?_
  refine l_k dlw_1171 ?_
  refine l_iadd dlw_1172 ?_
  refine l_sld dlw_1173 (by omega) hL ?_
  refine l_call dlw_1174 (vl_L_116 _ rfl) sh0 (by decide) (c_X7_best ρ σ (xs (i + 1)) (xs (i + 2)) (xs (i + 3)) hC) rfl rfl (Nat.le_of_ble_eq_true rfl) (fun v1 ρ1 h1 => ?_)
  obtain ⟨rfl, hC1, hE1⟩ := h1
  have hM1 := hM.eqM hE1
  refine l_al dlw_1177 rfl ?_
  refine l_al dlw_1178 rfl ?_
  refine l_il dlw_1179 rfl ?_
  refine l_k dlw_1180 ?_
  refine l_iadd dlw_1181 ?_
  refine l_sld dlw_1182 (by omega) hL ?_
  refine l_al dlw_1183 rfl ?_
  refine l_il dlw_1184 rfl ?_
  refine l_k dlw_1185 ?_
  refine l_iadd dlw_1186 ?_
  refine l_sld dlw_1187 (by omega) hL ?_
  refine l_al dlw_1188 rfl ?_
  refine l_il dlw_1189 rfl ?_
  refine l_k dlw_1190 ?_
  refine l_iadd dlw_1191 ?_
  refine l_sld dlw_1192 (by omega) hL ?_
  refine l_call dlw_1193 (vl_L_119 _ rfl) sh47 (by decide) (c_X8_best ρ1 σ (xs (i + 1)) (xs (i + 2)) (xs (i + 3)) hM1) rfl rfl (Nat.le_of_ble_eq_true rfl) (fun v2 ρ2 h2 => ?_)
  obtain ⟨rfl, hM2, hE2⟩ := h2
  refine l_same dlw_1196 ?_
  exact k _ _ (hC1.eqC hE2) hM2
theorem lc_25 {L i : Nat} {xs : Nat → Int32} {ρ : Rho} {σ : Sg} (hL : L ≤ 4096) (hi : i + 8 ≤ L) (hC : CInv σ ρ) (hM : MInv σ ρ) (k : ∀ (ρ2 : Rho) (σ2 : Sg), CInv σ2 ρ2 → MInv σ2 ρ2 → LW L xs 1671 [some (.ref 73), some (.ref 0), some (.ref 47), some (.int (nI i))] [] ρ2) : LW L xs 1201 [some (.ref 73), some (.ref 0), some (.ref 47), some (.int (nI i))] [] ρ := by
  refine l_al dlw_1201 rfl ?_
  refine l_al dlw_1202 rfl ?_
  refine l_il dlw_1203 rfl ?_
  refine l_k dlw_1204 ?_
  refine l_iadd dlw_1205 ?_
  refine l_sld dlw_1206 (by omega) hL ?_
  refine l_al dlw_1207 rfl ?_
  refine l_il dlw_1208 rfl ?_
  refine l_k dlw_1209 ?_
  refine l_iadd dlw_1210 ?_
  refine l_sld dlw_1211 (by omega) hL ?_
  refine l_call dlw_1212 (vl_L_120 _ rfl) sh0 (by decide) (c_X7_envy ρ σ (xs (i + 1)) (xs (i + 2)) hC) rfl rfl (Nat.le_of_ble_eq_true rfl) (fun v1 ρ1 h1 => ?_)
  obtain ⟨rfl, hC1, hE1⟩ := h1
  have hM1 := hM.eqM hE1
  refine l_al dlw_1215 rfl ?_
  refine l_al dlw_1216 rfl ?_
  refine l_il dlw_1217 rfl ?_
  refine l_k dlw_1218 ?_
  refine l_iadd dlw_1219 ?_
  refine l_sld dlw_1220 (by omega) hL ?_
  refine l_al dlw_1221 rfl ?_
  refine l_il dlw_1222 rfl ?_
  refine l_k dlw_1223 ?_
  refine l_iadd dlw_1224 ?_
  refine l_sld dlw_1225 (by omega) hL ?_
  refine l_call dlw_1226 (vl_L_123 _ rfl) sh47 (by decide) (c_X8_envy ρ1 σ (xs (i + 1)) (xs (i + 2)) hM1) rfl rfl (Nat.le_of_ble_eq_true rfl) (fun v2 ρ2 h2 => ?_)
  obtain ⟨rfl, hM2, hE2⟩ := h2
  refine l_same dlw_1229 ?_
  exact k _ _ (hC1.eqC hE2) hM2
theorem lc_26 {L i : Nat} {xs : Nat → Int32} {ρ : Rho} {σ : Sg} (hL : L ≤ 4096) (hi : i + 8 ≤ L) (hC : CInv σ ρ) (hM : MInv σ ρ) (k : ∀ (ρ2 : Rho) (σ2 : Sg), CInv σ2 ρ2 → MInv σ2 ρ2 → LW L xs 1671 [some (.ref 73), some (.ref 0), some (.ref 47), some (.int (nI i))] [] ρ2) : LW L xs 1234 [some (.ref 73), some (.ref 0), some (.ref 47), some (.int (nI i))] [] ρ := by
  refine l_al dlw_1234 rfl ?_
  refine l_al dlw_1235 rfl ?_
  refine l_il dlw_1236 rfl ?_
  refine l_k dlw_1237 ?_
  refine l_iadd dlw_1238 ?_
  refine l_sld dlw_1239 (by omega) hL ?_
  refine l_al dlw_1240 rfl ?_
  refine l_il dlw_1241 rfl ?_
  refine l_k dlw_1242 ?_
  refine l_iadd dlw_1243 ?_
  refine l_sld dlw_1244 (by omega) hL ?_
  refine l_call dlw_1245 (vl_L_124 _ rfl) sh0 (by decide) (c_X7_reaped ρ σ (xs (i + 1)) (xs (i + 2)) hC) rfl rfl (Nat.le_of_ble_eq_true rfl) (fun v1 ρ1 h1 => ?_)
  obtain ⟨rfl, hC1, hE1⟩ := h1
  have hM1 := hM.eqM hE1
  refine l_al dlw_1248 rfl ?_
  refine l_al dlw_1249 rfl ?_
  refine l_il dlw_1250 rfl ?_
  refine l_k dlw_1251 ?_
  refine l_iadd dlw_1252 ?_
  refine l_sld dlw_1253 (by omega) hL ?_
  refine l_al dlw_1254 rfl ?_
  refine l_il dlw_1255 rfl ?_
  refine l_k dlw_1256 ?_
  refine l_iadd dlw_1257 ?_
  refine l_sld dlw_1258 (by omega) hL ?_
  refine l_call dlw_1259 (vl_L_127 _ rfl) sh47 (by decide) (c_X8_reaped ρ1 σ (xs (i + 1)) (xs (i + 2)) hM1) rfl rfl (Nat.le_of_ble_eq_true rfl) (fun v2 ρ2 h2 => ?_)
  obtain ⟨rfl, hM2, hE2⟩ := h2
  refine l_same dlw_1262 ?_
  exact k _ _ (hC1.eqC hE2) hM2
theorem lc_27 {L i : Nat} {xs : Nat → Int32} {ρ : Rho} {σ : Sg} (hL : L ≤ 4096) (hi : i + 8 ≤ L) (hC : CInv σ ρ) (hM : MInv σ ρ) (k : ∀ (ρ2 : Rho) (σ2 : Sg), CInv σ2 ρ2 → MInv σ2 ρ2 → LW L xs 1671 [some (.ref 73), some (.ref 0), some (.ref 47), some (.int (nI i))] [] ρ2) : LW L xs 1267 [some (.ref 73), some (.ref 0), some (.ref 47), some (.int (nI i))] [] ρ := by
  refine l_al dlw_1267 rfl ?_
  refine l_al dlw_1268 rfl ?_
  refine l_il dlw_1269 rfl ?_
  refine l_k dlw_1270 ?_
  refine l_iadd dlw_1271 ?_
  refine l_sld dlw_1272 (by omega) hL ?_
  refine l_al dlw_1273 rfl ?_
  refine l_il dlw_1274 rfl ?_
  refine l_k dlw_1275 ?_
  refine l_iadd dlw_1276 ?_
  refine l_sld dlw_1277 (by omega) hL ?_
  refine l_al dlw_1278 rfl ?_
  refine l_il dlw_1279 rfl ?_
  refine l_k dlw_1280 ?_
  refine l_iadd dlw_1281 ?_
  refine l_sld dlw_1282 (by omega) hL ?_
  refine l_call dlw_1283 (vl_L_128 _ rfl) sh0 (by decide) (c_X7_history ρ σ (xs (i + 1)) (xs (i + 2)) (xs (i + 3)) hC) rfl rfl (Nat.le_of_ble_eq_true rfl) (fun v1 ρ1 h1 => ?_)
  obtain ⟨rfl, hC1, hE1⟩ := h1
  have hM1 := hM.eqM hE1
  refine l_al dlw_1286 rfl ?_
  refine l_al dlw_1287 rfl ?_
  refine l_il dlw_1288 rfl ?_
  refine l_k dlw_1289 ?_
  refine l_iadd dlw_1290 ?_
  refine l_sld dlw_1291 (by omega) hL ?_
  refine l_al dlw_1292 rfl ?_
  refine l_il dlw_1293 rfl ?_
  refine l_k dlw_1294 ?_
  refine l_iadd dlw_1295 ?_
  refine l_sld dlw_1296 (by omega) hL ?_
  refine l_al dlw_1297 rfl ?_
  refine l_il dlw_1298 rfl ?_
  refine l_k dlw_1299 ?_
  refine l_iadd dlw_1300 ?_
  refine l_sld dlw_1301 (by omega) hL ?_
  refine l_call dlw_1302 (vl_L_131 _ rfl) sh47 (by decide) (c_X8_history ρ1 σ (xs (i + 1)) (xs (i + 2)) (xs (i + 3)) hM1) rfl rfl (Nat.le_of_ble_eq_true rfl) (fun v2 ρ2 h2 => ?_)
  obtain ⟨rfl, hM2, hE2⟩ := h2
  refine l_same dlw_1305 ?_
  exact k _ _ (hC1.eqC hE2) hM2
theorem lc_28 {L i : Nat} {xs : Nat → Int32} {ρ : Rho} {σ : Sg} (hL : L ≤ 4096) (hi : i + 8 ≤ L) (hC : CInv σ ρ) (hM : MInv σ ρ) (k : ∀ (ρ2 : Rho) (σ2 : Sg), CInv σ2 ρ2 → MInv σ2 ρ2 → LW L xs 1671 [some (.ref 73), some (.ref 0), some (.ref 47), some (.int (nI i))] [] ρ2) : LW L xs 1310 [some (.ref 73), some (.ref 0), some (.ref 47), some (.int (nI i))] [] ρ := by
  refine l_al dlw_1310 rfl ?_
  refine l_al dlw_1311 rfl ?_
  refine l_il dlw_1312 rfl ?_
  refine l_k dlw_1313 ?_
  refine l_iadd dlw_1314 ?_
  refine l_sld dlw_1315 (by omega) hL ?_
  refine l_al dlw_1316 rfl ?_
  refine l_il dlw_1317 rfl ?_
  refine l_k dlw_1318 ?_
  refine l_iadd dlw_1319 ?_
  refine l_sld dlw_1320 (by omega) hL ?_
  refine l_call dlw_1321 (vl_L_132 _ rfl) sh0 (by decide) (c_X7_waits ρ σ (xs (i + 1)) (xs (i + 2)) hC) rfl rfl (Nat.le_of_ble_eq_true rfl) (fun v1 ρ1 h1 => ?_)
  obtain ⟨rfl, hC1, hE1⟩ := h1
  have hM1 := hM.eqM hE1
  refine l_al dlw_1324 rfl ?_
  refine l_al dlw_1325 rfl ?_
  refine l_il dlw_1326 rfl ?_
  refine l_k dlw_1327 ?_
  refine l_iadd dlw_1328 ?_
  refine l_sld dlw_1329 (by omega) hL ?_
  refine l_al dlw_1330 rfl ?_
  refine l_il dlw_1331 rfl ?_
  refine l_k dlw_1332 ?_
  refine l_iadd dlw_1333 ?_
  refine l_sld dlw_1334 (by omega) hL ?_
  refine l_call dlw_1335 (vl_L_135 _ rfl) sh47 (by decide) (c_X8_waits ρ1 σ (xs (i + 1)) (xs (i + 2)) hM1) rfl rfl (Nat.le_of_ble_eq_true rfl) (fun v2 ρ2 h2 => ?_)
  obtain ⟨rfl, hM2, hE2⟩ := h2
  refine l_same dlw_1338 ?_
  exact k _ _ (hC1.eqC hE2) hM2
theorem lc_29 {L i : Nat} {xs : Nat → Int32} {ρ : Rho} {σ : Sg} (hL : L ≤ 4096) (hi : i + 8 ≤ L) (hC : CInv σ ρ) (hM : MInv σ ρ) (k : ∀ (ρ2 : Rho) (σ2 : Sg), CInv σ2 ρ2 → MInv σ2 ρ2 → LW L xs 1671 [some (.ref 73), some (.ref 0), some (.ref 47), some (.int (nI i))] [] ρ2) : LW L xs 1343 [some (.ref 73), some (.ref 0), some (.ref 47), some (.int (nI i))] [] ρ := by
  refine l_al dlw_1343 rfl ?_
  refine l_al dlw_1344 rfl ?_
  refine l_il dlw_1345 rfl ?_
  refine l_k dlw_1346 ?_
  refine l_iadd dlw_1347 ?_
  refine l_sld dlw_1348 (by omega) hL ?_
  refine l_al dlw_1349 rfl ?_
  refine l_il dlw_1350 rfl ?_
  refine l_k dlw_1351 ?_
  refine l_iadd dlw_1352 ?_
  refine l_sld dlw_1353 (by omega) hL ?_
  refine l_call dlw_1354 (vl_L_136 _ rfl) sh0 (by decide) (c_X7_dig ρ σ (xs (i + 1)) (xs (i + 2)) hC) rfl rfl (Nat.le_of_ble_eq_true rfl) (fun v1 ρ1 h1 => ?_)
  obtain ⟨rfl, hC1, hE1⟩ := h1
  have hM1 := hM.eqM hE1
  refine l_al dlw_1357 rfl ?_
  refine l_al dlw_1358 rfl ?_
  refine l_il dlw_1359 rfl ?_
  refine l_k dlw_1360 ?_
  refine l_iadd dlw_1361 ?_
  refine l_sld dlw_1362 (by omega) hL ?_
  refine l_al dlw_1363 rfl ?_
  refine l_il dlw_1364 rfl ?_
  refine l_k dlw_1365 ?_
  refine l_iadd dlw_1366 ?_
  refine l_sld dlw_1367 (by omega) hL ?_
  refine l_call dlw_1368 (vl_L_139 _ rfl) sh47 (by decide) (c_X8_dig ρ1 σ (xs (i + 1)) (xs (i + 2)) hM1) rfl rfl (Nat.le_of_ble_eq_true rfl) (fun v2 ρ2 h2 => ?_)
  obtain ⟨rfl, hM2, hE2⟩ := h2
  refine l_same dlw_1371 ?_
  exact k _ _ (hC1.eqC hE2) hM2
theorem lc_30 {L i : Nat} {xs : Nat → Int32} {ρ : Rho} {σ : Sg} (hL : L ≤ 4096) (hi : i + 8 ≤ L) (hC : CInv σ ρ) (hM : MInv σ ρ) (k : ∀ (ρ2 : Rho) (σ2 : Sg), CInv σ2 ρ2 → MInv σ2 ρ2 → LW L xs 1671 [some (.ref 73), some (.ref 0), some (.ref 47), some (.int (nI i))] [] ρ2) : LW L xs 1376 [some (.ref 73), some (.ref 0), some (.ref 47), some (.int (nI i))] [] ρ := by
  refine l_al dlw_1376 rfl ?_
  refine l_al dlw_1377 rfl ?_
  refine l_il dlw_1378 rfl ?_
  refine l_k dlw_1379 ?_
  refine l_iadd dlw_1380 ?_
  refine l_sld dlw_1381 (by omega) hL ?_
  refine l_al dlw_1382 rfl ?_
  refine l_il dlw_1383 rfl ?_
  refine l_k dlw_1384 ?_
  refine l_iadd dlw_1385 ?_
  refine l_sld dlw_1386 (by omega) hL ?_
  refine l_al dlw_1387 rfl ?_
  refine l_il dlw_1388 rfl ?_
  refine l_k dlw_1389 ?_
  refine l_iadd dlw_1390 ?_
  refine l_sld dlw_1391 (by omega) hL ?_
  refine l_call dlw_1392 (vl_L_140 _ rfl) sh0 (by decide) (c_X7_sheet ρ σ (xs (i + 1)) (xs (i + 2)) (xs (i + 3)) hC) rfl rfl (Nat.le_of_ble_eq_true rfl) (fun v1 ρ1 h1 => ?_)
  obtain ⟨rfl, hC1, hE1⟩ := h1
  have hM1 := hM.eqM hE1
  refine l_al dlw_1395 rfl ?_
  refine l_al dlw_1396 rfl ?_
  refine l_il dlw_1397 rfl ?_
  refine l_k dlw_1398 ?_
  refine l_iadd dlw_1399 ?_
  refine l_sld dlw_1400 (by omega) hL ?_
  refine l_al dlw_1401 rfl ?_
  refine l_il dlw_1402 rfl ?_
  refine l_k dlw_1403 ?_
  refine l_iadd dlw_1404 ?_
  refine l_sld dlw_1405 (by omega) hL ?_
  refine l_al dlw_1406 rfl ?_
  refine l_il dlw_1407 rfl ?_
  refine l_k dlw_1408 ?_
  refine l_iadd dlw_1409 ?_
  refine l_sld dlw_1410 (by omega) hL ?_
  refine l_call dlw_1411 (vl_L_143 _ rfl) sh47 (by decide) (c_X8_sheet ρ1 σ (xs (i + 1)) (xs (i + 2)) (xs (i + 3)) hM1) rfl rfl (Nat.le_of_ble_eq_true rfl) (fun v2 ρ2 h2 => ?_)
  obtain ⟨rfl, hM2, hE2⟩ := h2
  refine l_same dlw_1414 ?_
  exact k _ _ (hC1.eqC hE2) hM2
theorem lc_31 {L i : Nat} {xs : Nat → Int32} {ρ : Rho} {σ : Sg} (hL : L ≤ 4096) (hi : i + 8 ≤ L) (hC : CInv σ ρ) (hM : MInv σ ρ) (k : ∀ (ρ2 : Rho) (σ2 : Sg), CInv σ2 ρ2 → MInv σ2 ρ2 → LW L xs 1671 [some (.ref 73), some (.ref 0), some (.ref 47), some (.int (nI i))] [] ρ2) : LW L xs 1419 [some (.ref 73), some (.ref 0), some (.ref 47), some (.int (nI i))] [] ρ := by
  refine l_al dlw_1419 rfl ?_
  refine l_al dlw_1420 rfl ?_
  refine l_il dlw_1421 rfl ?_
  refine l_k dlw_1422 ?_
  refine l_iadd dlw_1423 ?_
  refine l_sld dlw_1424 (by omega) hL ?_
  refine l_call dlw_1425 (vl_L_144 _ rfl) sh0 (by decide) (c_X7_lose ρ σ (xs (i + 1)) hC) rfl rfl (Nat.le_of_ble_eq_true rfl) (fun v1 ρ1 h1 => ?_)
  obtain ⟨rfl, hC1, hE1⟩ := h1
  have hM1 := hM.eqM hE1
  refine l_al dlw_1428 rfl ?_
  refine l_al dlw_1429 rfl ?_
  refine l_il dlw_1430 rfl ?_
  refine l_k dlw_1431 ?_
  refine l_iadd dlw_1432 ?_
  refine l_sld dlw_1433 (by omega) hL ?_
  refine l_call dlw_1434 (vl_L_147 _ rfl) sh47 (by decide) (c_X8_lose ρ1 σ (xs (i + 1)) hM1) rfl rfl (Nat.le_of_ble_eq_true rfl) (fun v2 ρ2 h2 => ?_)
  obtain ⟨rfl, hM2, hE2⟩ := h2
  refine l_same dlw_1437 ?_
  exact k _ _ (hC1.eqC hE2) hM2
theorem lc_32 {L i : Nat} {xs : Nat → Int32} {ρ : Rho} {σ : Sg} (hL : L ≤ 4096) (hi : i + 8 ≤ L) (hC : CInv σ ρ) (hM : MInv σ ρ) (k : ∀ (ρ2 : Rho) (σ2 : Sg), CInv σ2 ρ2 → MInv σ2 ρ2 → LW L xs 1671 [some (.ref 73), some (.ref 0), some (.ref 47), some (.int (nI i))] [] ρ2) : LW L xs 1442 [some (.ref 73), some (.ref 0), some (.ref 47), some (.int (nI i))] [] ρ := by
  refine l_al dlw_1442 rfl ?_
  refine l_al dlw_1443 rfl ?_
  refine l_il dlw_1444 rfl ?_
  refine l_k dlw_1445 ?_
  refine l_iadd dlw_1446 ?_
  refine l_sld dlw_1447 (by omega) hL ?_
  refine l_al dlw_1448 rfl ?_
  refine l_il dlw_1449 rfl ?_
  refine l_k dlw_1450 ?_
  refine l_iadd dlw_1451 ?_
  refine l_sld dlw_1452 (by omega) hL ?_
  refine l_al dlw_1453 rfl ?_
  refine l_il dlw_1454 rfl ?_
  refine l_k dlw_1455 ?_
  refine l_iadd dlw_1456 ?_
  refine l_sld dlw_1457 (by omega) hL ?_
  refine l_al dlw_1458 rfl ?_
  refine l_il dlw_1459 rfl ?_
  refine l_k dlw_1460 ?_
  refine l_iadd dlw_1461 ?_
  refine l_sld dlw_1462 (by omega) hL ?_
  refine l_call dlw_1463 (vl_L_148 _ rfl) sh0 (by decide) (c_X7_put ρ σ (xs (i + 1)) (xs (i + 2)) (xs (i + 3)) (xs (i + 4)) hC) rfl rfl (Nat.le_of_ble_eq_true rfl) (fun v1 ρ1 h1 => ?_)
  obtain ⟨rfl, hC1, hE1⟩ := h1
  have hM1 := hM.eqM hE1
  refine l_al dlw_1466 rfl ?_
  refine l_al dlw_1467 rfl ?_
  refine l_il dlw_1468 rfl ?_
  refine l_k dlw_1469 ?_
  refine l_iadd dlw_1470 ?_
  refine l_sld dlw_1471 (by omega) hL ?_
  refine l_al dlw_1472 rfl ?_
  refine l_il dlw_1473 rfl ?_
  refine l_k dlw_1474 ?_
  refine l_iadd dlw_1475 ?_
  refine l_sld dlw_1476 (by omega) hL ?_
  refine l_al dlw_1477 rfl ?_
  refine l_il dlw_1478 rfl ?_
  refine l_k dlw_1479 ?_
  refine l_iadd dlw_1480 ?_
  refine l_sld dlw_1481 (by omega) hL ?_
  refine l_al dlw_1482 rfl ?_
  refine l_il dlw_1483 rfl ?_
  refine l_k dlw_1484 ?_
  refine l_iadd dlw_1485 ?_
  refine l_sld dlw_1486 (by omega) hL ?_
  refine l_call dlw_1487 (vl_L_151 _ rfl) sh47 (by decide) (c_X8_put ρ1 σ (xs (i + 1)) (xs (i + 2)) (xs (i + 3)) (xs (i + 4)) hM1) rfl rfl (Nat.le_of_ble_eq_true rfl) (fun v2 ρ2 h2 => ?_)
  obtain ⟨rfl, hM2, hE2⟩ := h2
  refine l_same dlw_1490 ?_
  exact k _ _ (hC1.eqC hE2) hM2
theorem lc_33 {L i : Nat} {xs : Nat → Int32} {ρ : Rho} {σ : Sg} (hL : L ≤ 4096) (hi : i + 8 ≤ L) (hC : CInv σ ρ) (hM : MInv σ ρ) (k : ∀ (ρ2 : Rho) (σ2 : Sg), CInv σ2 ρ2 → MInv σ2 ρ2 → LW L xs 1671 [some (.ref 73), some (.ref 0), some (.ref 47), some (.int (nI i))] [] ρ2) : LW L xs 1495 [some (.ref 73), some (.ref 0), some (.ref 47), some (.int (nI i))] [] ρ := by
  refine l_al dlw_1495 rfl ?_
  refine l_al dlw_1496 rfl ?_
  refine l_il dlw_1497 rfl ?_
  refine l_k dlw_1498 ?_
  refine l_iadd dlw_1499 ?_
  refine l_sld dlw_1500 (by omega) hL ?_
  refine l_al dlw_1501 rfl ?_
  refine l_il dlw_1502 rfl ?_
  refine l_k dlw_1503 ?_
  refine l_iadd dlw_1504 ?_
  refine l_sld dlw_1505 (by omega) hL ?_
  refine l_al dlw_1506 rfl ?_
  refine l_il dlw_1507 rfl ?_
  refine l_k dlw_1508 ?_
  refine l_iadd dlw_1509 ?_
  refine l_sld dlw_1510 (by omega) hL ?_
  refine l_call dlw_1511 (vl_L_152 _ rfl) sh0 (by decide) (c_X7_get ρ σ (xs (i + 1)) (xs (i + 2)) (xs (i + 3)) hC) rfl rfl (Nat.le_of_ble_eq_true rfl) (fun v1 ρ1 h1 => ?_)
  obtain ⟨rfl, hC1, hE1⟩ := h1
  have hM1 := hM.eqM hE1
  refine l_al dlw_1514 rfl ?_
  refine l_al dlw_1515 rfl ?_
  refine l_il dlw_1516 rfl ?_
  refine l_k dlw_1517 ?_
  refine l_iadd dlw_1518 ?_
  refine l_sld dlw_1519 (by omega) hL ?_
  refine l_al dlw_1520 rfl ?_
  refine l_il dlw_1521 rfl ?_
  refine l_k dlw_1522 ?_
  refine l_iadd dlw_1523 ?_
  refine l_sld dlw_1524 (by omega) hL ?_
  refine l_al dlw_1525 rfl ?_
  refine l_il dlw_1526 rfl ?_
  refine l_k dlw_1527 ?_
  refine l_iadd dlw_1528 ?_
  refine l_sld dlw_1529 (by omega) hL ?_
  refine l_call dlw_1530 (vl_L_155 _ rfl) sh47 (by decide) (c_X8_get ρ1 σ (xs (i + 1)) (xs (i + 2)) (xs (i + 3)) hM1) rfl rfl (Nat.le_of_ble_eq_true rfl) (fun v2 ρ2 h2 => ?_)
  obtain ⟨rfl, hM2, hE2⟩ := h2
  refine l_same dlw_1533 ?_
  exact k _ _ (hC1.eqC hE2) hM2
theorem lc_34 {L i : Nat} {xs : Nat → Int32} {ρ : Rho} {σ : Sg} (hL : L ≤ 4096) (hi : i + 8 ≤ L) (hC : CInv σ ρ) (hM : MInv σ ρ) (k : ∀ (ρ2 : Rho) (σ2 : Sg), CInv σ2 ρ2 → MInv σ2 ρ2 → LW L xs 1671 [some (.ref 73), some (.ref 0), some (.ref 47), some (.int (nI i))] [] ρ2) : LW L xs 1538 [some (.ref 73), some (.ref 0), some (.ref 47), some (.int (nI i))] [] ρ := by
  refine l_al dlw_1538 rfl ?_
  refine l_al dlw_1539 rfl ?_
  refine l_il dlw_1540 rfl ?_
  refine l_k dlw_1541 ?_
  refine l_iadd dlw_1542 ?_
  refine l_sld dlw_1543 (by omega) hL ?_
  refine l_al dlw_1544 rfl ?_
  refine l_il dlw_1545 rfl ?_
  refine l_k dlw_1546 ?_
  refine l_iadd dlw_1547 ?_
  refine l_sld dlw_1548 (by omega) hL ?_
  refine l_al dlw_1549 rfl ?_
  refine l_il dlw_1550 rfl ?_
  refine l_k dlw_1551 ?_
  refine l_iadd dlw_1552 ?_
  refine l_sld dlw_1553 (by omega) hL ?_
  refine l_al dlw_1554 rfl ?_
  refine l_il dlw_1555 rfl ?_
  refine l_k dlw_1556 ?_
  refine l_iadd dlw_1557 ?_
  refine l_sld dlw_1558 (by omega) hL ?_
  refine l_al dlw_1559 rfl ?_
  refine l_il dlw_1560 rfl ?_
  refine l_k dlw_1561 ?_
  refine l_iadd dlw_1562 ?_
  refine l_sld dlw_1563 (by omega) hL ?_
  refine l_call dlw_1564 (vl_L_156 _ rfl) sh0 (by decide) (c_X7_copy ρ σ (xs (i + 1)) (xs (i + 2)) (xs (i + 3)) (xs (i + 4)) (xs (i + 5)) hC) rfl rfl (Nat.le_of_ble_eq_true rfl) (fun v1 ρ1 h1 => ?_)
  obtain ⟨rfl, hC1, hE1⟩ := h1
  have hM1 := hM.eqM hE1
  refine l_al dlw_1567 rfl ?_
  refine l_al dlw_1568 rfl ?_
  refine l_il dlw_1569 rfl ?_
  refine l_k dlw_1570 ?_
  refine l_iadd dlw_1571 ?_
  refine l_sld dlw_1572 (by omega) hL ?_
  refine l_al dlw_1573 rfl ?_
  refine l_il dlw_1574 rfl ?_
  refine l_k dlw_1575 ?_
  refine l_iadd dlw_1576 ?_
  refine l_sld dlw_1577 (by omega) hL ?_
  refine l_al dlw_1578 rfl ?_
  refine l_il dlw_1579 rfl ?_
  refine l_k dlw_1580 ?_
  refine l_iadd dlw_1581 ?_
  refine l_sld dlw_1582 (by omega) hL ?_
  refine l_al dlw_1583 rfl ?_
  refine l_il dlw_1584 rfl ?_
  refine l_k dlw_1585 ?_
  refine l_iadd dlw_1586 ?_
  refine l_sld dlw_1587 (by omega) hL ?_
  refine l_al dlw_1588 rfl ?_
  refine l_il dlw_1589 rfl ?_
  refine l_k dlw_1590 ?_
  refine l_iadd dlw_1591 ?_
  refine l_sld dlw_1592 (by omega) hL ?_
  refine l_call dlw_1593 (vl_L_160 _ rfl) sh47 (by decide) (c_X8_copy ρ1 σ (xs (i + 1)) (xs (i + 2)) (xs (i + 3)) (xs (i + 4)) (xs (i + 5)) hM1) rfl rfl (Nat.le_of_ble_eq_true rfl) (fun v2 ρ2 h2 => ?_)
  obtain ⟨rfl, hM2, hE2⟩ := h2
  refine l_same dlw_1596 ?_
  exact k _ _ (hC1.eqC hE2) hM2
theorem lc_35 {L i : Nat} {xs : Nat → Int32} {ρ : Rho} {σ : Sg} (hL : L ≤ 4096) (hi : i + 8 ≤ L) (hC : CInv σ ρ) (hM : MInv σ ρ) (k : ∀ (ρ2 : Rho) (σ2 : Sg), CInv σ2 ρ2 → MInv σ2 ρ2 → LW L xs 1671 [some (.ref 73), some (.ref 0), some (.ref 47), some (.int (nI i))] [] ρ2) : LW L xs 1601 [some (.ref 73), some (.ref 0), some (.ref 47), some (.int (nI i))] [] ρ := by
  refine l_al dlw_1601 rfl ?_
  refine l_al dlw_1602 rfl ?_
  refine l_il dlw_1603 rfl ?_
  refine l_k dlw_1604 ?_
  refine l_iadd dlw_1605 ?_
  refine l_sld dlw_1606 (by omega) hL ?_
  refine l_al dlw_1607 rfl ?_
  refine l_il dlw_1608 rfl ?_
  refine l_k dlw_1609 ?_
  refine l_iadd dlw_1610 ?_
  refine l_sld dlw_1611 (by omega) hL ?_
  refine l_call dlw_1612 (vl_L_161 _ rfl) sh0 (by decide) (c_X7_write ρ σ (xs (i + 1)) (xs (i + 2)) hC) rfl rfl (Nat.le_of_ble_eq_true rfl) (fun v1 ρ1 h1 => ?_)
  obtain ⟨rfl, hC1, hE1⟩ := h1
  have hM1 := hM.eqM hE1
  refine l_al dlw_1615 rfl ?_
  refine l_al dlw_1616 rfl ?_
  refine l_il dlw_1617 rfl ?_
  refine l_k dlw_1618 ?_
  refine l_iadd dlw_1619 ?_
  refine l_sld dlw_1620 (by omega) hL ?_
  refine l_al dlw_1621 rfl ?_
  refine l_il dlw_1622 rfl ?_
  refine l_k dlw_1623 ?_
  refine l_iadd dlw_1624 ?_
  refine l_sld dlw_1625 (by omega) hL ?_
  refine l_call dlw_1626 (vl_L_164 _ rfl) sh47 (by decide) (c_X8_write ρ1 σ (xs (i + 1)) (xs (i + 2)) hM1) rfl rfl (Nat.le_of_ble_eq_true rfl) (fun v2 ρ2 h2 => ?_)
  obtain ⟨rfl, hM2, hE2⟩ := h2
  refine l_same dlw_1629 ?_
  exact k _ _ (hC1.eqC hE2) hM2
theorem lc_36 {L i : Nat} {xs : Nat → Int32} {ρ : Rho} {σ : Sg} (hL : L ≤ 4096) (hi : i + 8 ≤ L) (hC : CInv σ ρ) (hM : MInv σ ρ) (k : ∀ (ρ2 : Rho) (σ2 : Sg), CInv σ2 ρ2 → MInv σ2 ρ2 → LW L xs 1671 [some (.ref 73), some (.ref 0), some (.ref 47), some (.int (nI i))] [] ρ2) : LW L xs 1634 [some (.ref 73), some (.ref 0), some (.ref 47), some (.int (nI i))] [] ρ := by
  refine l_al dlw_1634 rfl ?_
  refine l_al dlw_1635 rfl ?_
  refine l_il dlw_1636 rfl ?_
  refine l_k dlw_1637 ?_
  refine l_iadd dlw_1638 ?_
  refine l_sld dlw_1639 (by omega) hL ?_
  refine l_call dlw_1640 (vl_L_165 _ rfl) sh0 (by decide) (c_X7_count ρ σ (xs (i + 1)) hC) rfl rfl (Nat.le_of_ble_eq_true rfl) (fun v1 ρ1 h1 => ?_)
  obtain ⟨rfl, hC1, hE1⟩ := h1
  have hM1 := hM.eqM hE1
  refine l_al dlw_1643 rfl ?_
  refine l_al dlw_1644 rfl ?_
  refine l_il dlw_1645 rfl ?_
  refine l_k dlw_1646 ?_
  refine l_iadd dlw_1647 ?_
  refine l_sld dlw_1648 (by omega) hL ?_
  refine l_call dlw_1649 (vl_L_168 _ rfl) sh47 (by decide) (c_X8_count ρ1 σ (xs (i + 1)) hM1) rfl rfl (Nat.le_of_ble_eq_true rfl) (fun v2 ρ2 h2 => ?_)
  obtain ⟨rfl, hM2, hE2⟩ := h2
  refine l_same dlw_1652 ?_
  exact k _ _ (hC1.eqC hE2) hM2
theorem lc_37 {L i : Nat} {xs : Nat → Int32} {ρ : Rho} {σ : Sg} (hL : L ≤ 4096) (hi : i + 8 ≤ L) (hC : CInv σ ρ) (hM : MInv σ ρ) (k : ∀ (ρ2 : Rho) (σ2 : Sg), CInv σ2 ρ2 → MInv σ2 ρ2 → LW L xs 1671 [some (.ref 73), some (.ref 0), some (.ref 47), some (.int (nI i))] [] ρ2) : LW L xs 1657 [some (.ref 73), some (.ref 0), some (.ref 47), some (.int (nI i))] [] ρ := by
  refine l_al dlw_1657 rfl ?_
  refine l_call dlw_1658 (vl_L_169 _ rfl) sh0 (by decide) (c_X7_digest ρ σ  hC) rfl rfl (Nat.le_of_ble_eq_true rfl) (fun v1 ρ1 h1 => ?_)
  obtain ⟨rfl, hC1, hE1⟩ := h1
  have hM1 := hM.eqM hE1
  refine l_al dlw_1661 rfl ?_
  refine l_call dlw_1662 (vl_L_173 _ rfl) sh47 (by decide) (c_X8_digest ρ1 σ  hM1) rfl rfl (Nat.le_of_ble_eq_true rfl) (fun v2 ρ2 h2 => ?_)
  obtain ⟨rfl, hM2, hE2⟩ := h2
  refine l_lcmp dlw_1665 ?_
  refine l_sameL dlw_1666 ?_
  exact k _ _ (hC1.eqC hE2) hM2
