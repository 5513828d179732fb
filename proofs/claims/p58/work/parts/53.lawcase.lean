/-! the law's cases -/
section
variable {l : Launch} {Q : Res → Mem → Prop} {k n : Nat} {M M1 M2 : Mem} {S : Nat × (Nat → Int32)} {o : Nat}
set_option maxRecDepth 4000 in
theorem lc_0 {kk : Int32} {b : Int32} (hs : mS M = S) (ho : o + 5 ≤ S.1) (hS9 : S.1 < 2147483648) (hM : Shp M) (hM1 : Shp M1) (hM2 : Shp M2) (h1 : EvR l jX6_append 1 30 0 0 [.ref 0, .long (l2 (S.2 (o + 1)) (S.2 (o + 2)))] M (.inl (some (.int kk))) M1) (h2 : EvR l jX7_append 4 160 0 0 [.ref 198, .long (l2 (S.2 (o + 1)) (S.2 (o + 2)))] M1 (.inl (some (.int b))) M2) (kont : mS M2 = S → Go l jL_law 14 538 601024 7293034 Q 2752 (AL o) [] k n M2) : Go l jL_law 14 538 601024 7293034 Q 292 (AL o) [] (k + 0) (n + 0) M := by
  refine g_aload_n (pc := 292) dL_law_292 rfl trivial ?_
  refine g_aload_n (pc := 293) dL_law_293 rfl isA_0 ?_
  refine g_iload (pc := 294) dL_law_294 rfl ?_
  refine g_iconst (pc := 296) (v := 1) dL_law_296 rfl ?_
  refine g_iadd (pc := 297) dL_law_297 ?_
  refine g_scriptLoadS (pc := 298) dL_law_298 (nI_o1 _) hs (by omega) (by omega) ?_
  refine g_i2l (pc := 299) dL_law_299 rfl ?_
  refine g_bipush (pc := 300) (v := 32) dL_law_300 rfl ?_
  refine g_lshl (pc := 302) dL_law_302 rfl ?_
  refine g_aload_n (pc := 303) dL_law_303 rfl isA_0 ?_
  refine g_iload (pc := 304) dL_law_304 rfl ?_
  refine g_iconst (pc := 306) (v := 2) dL_law_306 rfl ?_
  refine g_iadd (pc := 307) dL_law_307 ?_
  refine g_scriptLoadS (pc := 308) dL_law_308 (nI_o2 _) hs (by omega) (by omega) ?_
  refine g_i2l (pc := 309) dL_law_309 rfl ?_
  refine g_ldc2 (pc := 310) dL_law_310 wd_1783 ?_
  refine g_land (pc := 313) dL_law_313 ?_
  refine g_lor (pc := 314) dL_law_314 ?_
  refine g_invV_s (pc := 315) (As := [_]) dL_law_315 rfl (h1) rfl rfl (shK hM rfl) rfl rfl lk_L_188 rfl (nb rfl) ⟨nb rfl, nb rfl⟩ rfl (fun e1 => ?_)
  have e1 := e1.trans hs
  refine g_pop (pc := 318) dL_law_318 rfl ?_
  refine g_aload_n (pc := 319) dL_law_319 rfl trivial ?_
  refine g_aload_n (pc := 320) dL_law_320 rfl isA_0 ?_
  refine g_iload (pc := 321) dL_law_321 rfl ?_
  refine g_iconst (pc := 323) (v := 1) dL_law_323 rfl ?_
  refine g_iadd (pc := 324) dL_law_324 ?_
  refine g_scriptLoadS (pc := 325) dL_law_325 (nI_o1 _) e1 (by omega) (by omega) ?_
  refine g_i2l (pc := 326) dL_law_326 rfl ?_
  refine g_bipush (pc := 327) (v := 32) dL_law_327 rfl ?_
  refine g_lshl (pc := 329) dL_law_329 rfl ?_
  refine g_aload_n (pc := 330) dL_law_330 rfl isA_0 ?_
  refine g_iload (pc := 331) dL_law_331 rfl ?_
  refine g_iconst (pc := 333) (v := 2) dL_law_333 rfl ?_
  refine g_iadd (pc := 334) dL_law_334 ?_
  refine g_scriptLoadS (pc := 335) dL_law_335 (nI_o2 _) e1 (by omega) (by omega) ?_
  refine g_i2l (pc := 336) dL_law_336 rfl ?_
  refine g_ldc2 (pc := 337) dL_law_337 wd_1783 ?_
  refine g_land (pc := 340) dL_law_340 ?_
  refine g_lor (pc := 341) dL_law_341 ?_
  refine g_invV_s (pc := 342) (As := [_]) dL_law_342 rfl (h2) rfl rfl (shK hM1 rfl) rfl rfl lk_L_192 rfl (nb rfl) ⟨nb rfl, nb rfl⟩ rfl (fun e2 => ?_)
  have e2 := e2.trans e1
  refine g_pop (pc := 345) dL_law_345 rfl ?_
  refine g_goto (pc := 346) (tgt := 2752) dL_law_346 rfl ?_
  exact g_sub (lv' := AL o) ⟨rfl, rfl, rfl, rfl, rfl, rfl, trivial⟩ (kont e2)
set_option maxRecDepth 4000 in
theorem lc_1 {kk : Int32} {b : Int32} (hs : mS M = S) (ho : o + 5 ≤ S.1) (hS9 : S.1 < 2147483648) (hM : Shp M) (hM1 : Shp M1) (hM2 : Shp M2) (h1 : EvR l jX6_load 9 260 0 0 [.ref 0] M (.inl (some (.int kk))) M1) (h2 : EvR l jX7_load 8 220 0 0 [.ref 198] M1 (.inl (some (.int b))) M2) (kont : mS M2 = S → Go l jL_law 14 538 601024 7293034 Q 2752 (AL o) [] k n M2) : Go l jL_law 14 538 601024 7293034 Q 349 (AL o) [] (k + 0) (n + 0) M := by
  refine g_aload_n (pc := 349) dL_law_349 rfl trivial ?_
  refine g_invV_s (pc := 350) (As := []) dL_law_350 rfl (h1) rfl rfl (shK hM rfl) rfl rfl lk_L_193 rfl (nb rfl) ⟨nb rfl, nb rfl⟩ rfl (fun e1 => ?_)
  have e1 := e1.trans hs
  refine g_pop (pc := 353) dL_law_353 rfl ?_
  refine g_aload_n (pc := 354) dL_law_354 rfl trivial ?_
  refine g_invV_s (pc := 355) (As := []) dL_law_355 rfl (h2) rfl rfl (shK hM1 rfl) rfl rfl lk_L_197 rfl (nb rfl) ⟨nb rfl, nb rfl⟩ rfl (fun e2 => ?_)
  have e2 := e2.trans e1
  refine g_pop (pc := 358) dL_law_358 rfl ?_
  refine g_goto (pc := 359) (tgt := 2752) dL_law_359 rfl ?_
  exact g_sub (lv' := AL o) ⟨rfl, rfl, rfl, rfl, rfl, rfl, trivial⟩ (kont e2)
set_option maxRecDepth 4000 in
theorem lc_2 {kk : Int32} {b : Int32} (hs : mS M = S) (ho : o + 5 ≤ S.1) (hS9 : S.1 < 2147483648) (hM : Shp M) (hM1 : Shp M1) (hM2 : Shp M2) (h1 : EvR l jX6_loadError 0 0 0 0 [.ref 0] M (.inl (some (.int kk))) M1) (h2 : EvR l jX7_loadError 4 160 0 0 [.ref 198] M1 (.inl (some (.int b))) M2) (kont : mS M2 = S → Go l jL_law 14 538 601024 7293034 Q 2752 (AL o) [] k n M2) : Go l jL_law 14 538 601024 7293034 Q 362 (AL o) [] (k + 0) (n + 0) M := by
  refine g_aload_n (pc := 362) dL_law_362 rfl trivial ?_
  refine g_invV_s (pc := 363) (As := []) dL_law_363 rfl (h1) rfl rfl (shK hM rfl) rfl rfl lk_L_198 rfl (nb rfl) ⟨nb rfl, nb rfl⟩ rfl (fun e1 => ?_)
  have e1 := e1.trans hs
  refine g_pop (pc := 366) dL_law_366 rfl ?_
  refine g_aload_n (pc := 367) dL_law_367 rfl trivial ?_
  refine g_invV_s (pc := 368) (As := []) dL_law_368 rfl (h2) rfl rfl (shK hM1 rfl) rfl rfl lk_L_201 rfl (nb rfl) ⟨nb rfl, nb rfl⟩ rfl (fun e2 => ?_)
  have e2 := e2.trans e1
  refine g_pop (pc := 371) dL_law_371 rfl ?_
  refine g_goto (pc := 372) (tgt := 2752) dL_law_372 rfl ?_
  exact g_sub (lv' := AL o) ⟨rfl, rfl, rfl, rfl, rfl, rfl, trivial⟩ (kont e2)
set_option maxRecDepth 4000 in
theorem lc_3 {kk : Int32} {b : Int32} (hs : mS M = S) (ho : o + 5 ≤ S.1) (hS9 : S.1 < 2147483648) (hM : Shp M) (hM1 : Shp M1) (hM2 : Shp M2) (h1 : EvR l jX6_loadStatement 0 0 0 0 [.ref 0] M (.inl (some (.int kk))) M1) (h2 : EvR l jX7_loadStatement 4 160 0 0 [.ref 198] M1 (.inl (some (.int b))) M2) (kont : mS M2 = S → Go l jL_law 14 538 601024 7293034 Q 2752 (AL o) [] k n M2) : Go l jL_law 14 538 601024 7293034 Q 375 (AL o) [] (k + 0) (n + 0) M := by
  refine g_aload_n (pc := 375) dL_law_375 rfl trivial ?_
  refine g_invV_s (pc := 376) (As := []) dL_law_376 rfl (h1) rfl rfl (shK hM rfl) rfl rfl lk_L_202 rfl (nb rfl) ⟨nb rfl, nb rfl⟩ rfl (fun e1 => ?_)
  have e1 := e1.trans hs
  refine g_pop (pc := 379) dL_law_379 rfl ?_
  refine g_aload_n (pc := 380) dL_law_380 rfl trivial ?_
  refine g_invV_s (pc := 381) (As := []) dL_law_381 rfl (h2) rfl rfl (shK hM1 rfl) rfl rfl lk_L_205 rfl (nb rfl) ⟨nb rfl, nb rfl⟩ rfl (fun e2 => ?_)
  have e2 := e2.trans e1
  refine g_pop (pc := 384) dL_law_384 rfl ?_
  refine g_goto (pc := 385) (tgt := 2752) dL_law_385 rfl ?_
  exact g_sub (lv' := AL o) ⟨rfl, rfl, rfl, rfl, rfl, rfl, trivial⟩ (kont e2)
set_option maxRecDepth 4000 in
theorem lc_4 {kk : Int32} {b : Int32} (hs : mS M = S) (ho : o + 5 ≤ S.1) (hS9 : S.1 < 2147483648) (hM : Shp M) (hM1 : Shp M1) (hM2 : Shp M2) (h1 : EvR l jL_count 8 141 1 6 [.ref 0, .int (S.2 (o + 1)), .ref 212] M (.inl (some (.int kk))) M1) (h2 : EvR l jX7_count 4 160 0 0 [.ref 198, .int (S.2 (o + 1))] M1 (.inl (some (.int b))) M2) (kont : mS M2 = S → Go l jL_law 14 538 601024 7293034 Q 2752 (AL o) [] k n M2) : Go l jL_law 14 538 601024 7293034 Q 388 (AL o) [] (k + 1) (n + 6) M := by
  refine g_aload_n (pc := 388) dL_law_388 rfl trivial ?_
  refine g_aload_n (pc := 389) dL_law_389 rfl isA_0 ?_
  refine g_iload (pc := 390) dL_law_390 rfl ?_
  refine g_iconst (pc := 392) (v := 1) dL_law_392 rfl ?_
  refine g_iadd (pc := 393) dL_law_393 ?_
  refine g_scriptLoadS (pc := 394) dL_law_394 (nI_o1 _) hs (by omega) (by omega) ?_
  refine g_aload_n (pc := 395) dL_law_395 rfl trivial ?_
  refine g_invSX_s (pc := 396) (As := [_, _, _]) dL_law_396 rfl (h1) rfl rfl lk_L_206 rfl (nb rfl) ⟨nb rfl, nb rfl⟩ rfl (fun e1 => ?_)
  have e1 := e1.trans hs
  refine g_istore (pc := 399) (lv' := [(0, _), (1, _), (2, _), (3, _), (4, _), (5, _), (6, _)]) dL_law_399 (nl rfl) rfl ?_
  refine g_aload_n (pc := 401) dL_law_401 rfl trivial ?_
  refine g_aload_n (pc := 402) dL_law_402 rfl isA_0 ?_
  refine g_iload (pc := 403) dL_law_403 rfl ?_
  refine g_iconst (pc := 405) (v := 1) dL_law_405 rfl ?_
  refine g_iadd (pc := 406) dL_law_406 ?_
  refine g_scriptLoadS (pc := 407) dL_law_407 (nI_o1 _) e1 (by omega) (by omega) ?_
  refine g_invV_s (pc := 408) (As := [_]) dL_law_408 rfl (h2) rfl rfl (shK hM1 rfl) rfl rfl lk_L_211 rfl (nb rfl) ⟨nb rfl, nb rfl⟩ rfl (fun e2 => ?_)
  have e2 := e2.trans e1
  refine g_istore (pc := 411) (lv' := [(0, _), (1, _), (2, _), (3, _), (4, _), (5, _), (6, _), (7, _)]) dL_law_411 (nl rfl) rfl ?_
  refine g_goto (pc := 413) (tgt := 2752) dL_law_413 rfl ?_
  exact g_sub (lv' := AL o) ⟨rfl, rfl, rfl, rfl, rfl, rfl, trivial⟩ (kont e2)
set_option maxRecDepth 4000 in
theorem lc_5 {kk : Int32} {b : Int32} (hs : mS M = S) (ho : o + 5 ≤ S.1) (hS9 : S.1 < 2147483648) (hM : Shp M) (hM1 : Shp M1) (hM2 : Shp M2) (h1 : EvR l jL_bit 10 183 3 18 [.ref 0, .int (S.2 (o + 1)), .int (S.2 (o + 2)), .int (S.2 (o + 3)), .ref 212] M (.inl (some (.int kk))) M1) (h2 : EvR l jX7_bit 4 160 0 0 [.ref 198, .int (S.2 (o + 1)), .int (S.2 (o + 2)), .int (S.2 (o + 3))] M1 (.inl (some (.int b))) M2) (kont : mS M2 = S → Go l jL_law 14 538 601024 7293034 Q 2752 (AL o) [] k n M2) : Go l jL_law 14 538 601024 7293034 Q 416 (AL o) [] (k + 3) (n + 18) M := by
  refine g_aload_n (pc := 416) dL_law_416 rfl trivial ?_
  refine g_aload_n (pc := 417) dL_law_417 rfl isA_0 ?_
  refine g_iload (pc := 418) dL_law_418 rfl ?_
  refine g_iconst (pc := 420) (v := 1) dL_law_420 rfl ?_
  refine g_iadd (pc := 421) dL_law_421 ?_
  refine g_scriptLoadS (pc := 422) dL_law_422 (nI_o1 _) hs (by omega) (by omega) ?_
  refine g_aload_n (pc := 423) dL_law_423 rfl isA_0 ?_
  refine g_iload (pc := 424) dL_law_424 rfl ?_
  refine g_iconst (pc := 426) (v := 2) dL_law_426 rfl ?_
  refine g_iadd (pc := 427) dL_law_427 ?_
  refine g_scriptLoadS (pc := 428) dL_law_428 (nI_o2 _) hs (by omega) (by omega) ?_
  refine g_aload_n (pc := 429) dL_law_429 rfl isA_0 ?_
  refine g_iload (pc := 430) dL_law_430 rfl ?_
  refine g_iconst (pc := 432) (v := 3) dL_law_432 rfl ?_
  refine g_iadd (pc := 433) dL_law_433 ?_
  refine g_scriptLoadS (pc := 434) dL_law_434 (nI_o3 _) hs (by omega) (by omega) ?_
  refine g_aload_n (pc := 435) dL_law_435 rfl trivial ?_
  refine g_invSX_s (pc := 436) (As := [_, _, _, _, _]) dL_law_436 rfl (h1) rfl rfl lk_L_212 rfl (nb rfl) ⟨nb rfl, nb rfl⟩ rfl (fun e1 => ?_)
  have e1 := e1.trans hs
  refine g_istore (pc := 439) (lv' := [(0, _), (1, _), (2, _), (3, _), (4, _), (5, _), (6, _)]) dL_law_439 (nl rfl) rfl ?_
  refine g_aload_n (pc := 441) dL_law_441 rfl trivial ?_
  refine g_aload_n (pc := 442) dL_law_442 rfl isA_0 ?_
  refine g_iload (pc := 443) dL_law_443 rfl ?_
  refine g_iconst (pc := 445) (v := 1) dL_law_445 rfl ?_
  refine g_iadd (pc := 446) dL_law_446 ?_
  refine g_scriptLoadS (pc := 447) dL_law_447 (nI_o1 _) e1 (by omega) (by omega) ?_
  refine g_aload_n (pc := 448) dL_law_448 rfl isA_0 ?_
  refine g_iload (pc := 449) dL_law_449 rfl ?_
  refine g_iconst (pc := 451) (v := 2) dL_law_451 rfl ?_
  refine g_iadd (pc := 452) dL_law_452 ?_
  refine g_scriptLoadS (pc := 453) dL_law_453 (nI_o2 _) e1 (by omega) (by omega) ?_
  refine g_aload_n (pc := 454) dL_law_454 rfl isA_0 ?_
  refine g_iload (pc := 455) dL_law_455 rfl ?_
  refine g_iconst (pc := 457) (v := 3) dL_law_457 rfl ?_
  refine g_iadd (pc := 458) dL_law_458 ?_
  refine g_scriptLoadS (pc := 459) dL_law_459 (nI_o3 _) e1 (by omega) (by omega) ?_
  refine g_invV_s (pc := 460) (As := [_, _, _]) dL_law_460 rfl (h2) rfl rfl (shK hM1 rfl) rfl rfl lk_L_215 rfl (nb rfl) ⟨nb rfl, nb rfl⟩ rfl (fun e2 => ?_)
  have e2 := e2.trans e1
  refine g_istore (pc := 463) (lv' := [(0, _), (1, _), (2, _), (3, _), (4, _), (5, _), (6, _), (7, _)]) dL_law_463 (nl rfl) rfl ?_
  refine g_goto (pc := 465) (tgt := 2752) dL_law_465 rfl ?_
  exact g_sub (lv' := AL o) ⟨rfl, rfl, rfl, rfl, rfl, rfl, trivial⟩ (kont e2)
set_option maxRecDepth 4000 in
theorem lc_6 {kk : Int32} {b : Int64} (hs : mS M = S) (ho : o + 5 ≤ S.1) (hS9 : S.1 < 2147483648) (hM : Shp M) (hM1 : Shp M1) (hM2 : Shp M2) (h1 : EvR l jL_row 9 162 2 12 [.ref 0, .int (S.2 (o + 1)), .int (S.2 (o + 2)), .ref 212] M (.inl (some (.int kk))) M1) (h2 : EvR l jX7_row 4 160 0 0 [.ref 198, .int (S.2 (o + 1)), .int (S.2 (o + 2))] M1 (.inl (some (.long b))) M2) (kont : mS M2 = S → Go l jL_law 14 538 601024 7293034 Q 2752 (AL o) [] k n M2) : Go l jL_law 14 538 601024 7293034 Q 468 (AL o) [] (k + 2) (n + 12) M := by
  refine g_aload_n (pc := 468) dL_law_468 rfl trivial ?_
  refine g_aload_n (pc := 469) dL_law_469 rfl isA_0 ?_
  refine g_iload (pc := 470) dL_law_470 rfl ?_
  refine g_iconst (pc := 472) (v := 1) dL_law_472 rfl ?_
  refine g_iadd (pc := 473) dL_law_473 ?_
  refine g_scriptLoadS (pc := 474) dL_law_474 (nI_o1 _) hs (by omega) (by omega) ?_
  refine g_aload_n (pc := 475) dL_law_475 rfl isA_0 ?_
  refine g_iload (pc := 476) dL_law_476 rfl ?_
  refine g_iconst (pc := 478) (v := 2) dL_law_478 rfl ?_
  refine g_iadd (pc := 479) dL_law_479 ?_
  refine g_scriptLoadS (pc := 480) dL_law_480 (nI_o2 _) hs (by omega) (by omega) ?_
  refine g_aload_n (pc := 481) dL_law_481 rfl trivial ?_
  refine g_invSX_s (pc := 482) (As := [_, _, _, _]) dL_law_482 rfl (h1) rfl rfl lk_L_216 rfl (nb rfl) ⟨nb rfl, nb rfl⟩ rfl (fun e1 => ?_)
  have e1 := e1.trans hs
  refine g_istore (pc := 485) (lv' := [(0, _), (1, _), (2, _), (3, _), (4, _), (5, _), (6, _)]) dL_law_485 (nl rfl) rfl ?_
  refine g_aload_n (pc := 487) dL_law_487 rfl trivial ?_
  refine g_aload_n (pc := 488) dL_law_488 rfl isA_0 ?_
  refine g_iload (pc := 489) dL_law_489 rfl ?_
  refine g_iconst (pc := 491) (v := 1) dL_law_491 rfl ?_
  refine g_iadd (pc := 492) dL_law_492 ?_
  refine g_scriptLoadS (pc := 493) dL_law_493 (nI_o1 _) e1 (by omega) (by omega) ?_
  refine g_aload_n (pc := 494) dL_law_494 rfl isA_0 ?_
  refine g_iload (pc := 495) dL_law_495 rfl ?_
  refine g_iconst (pc := 497) (v := 2) dL_law_497 rfl ?_
  refine g_iadd (pc := 498) dL_law_498 ?_
  refine g_scriptLoadS (pc := 499) dL_law_499 (nI_o2 _) e1 (by omega) (by omega) ?_
  refine g_invV_s (pc := 500) (As := [_, _]) dL_law_500 rfl (h2) rfl rfl (shK hM1 rfl) rfl rfl lk_L_219 rfl (nb rfl) ⟨nb rfl, nb rfl⟩ rfl (fun e2 => ?_)
  have e2 := e2.trans e1
  refine g_lstore (pc := 503) (lv' := [(0, _), (1, _), (2, _), (3, _), (4, _), (5, _), (6, _), (7, _)]) dL_law_503 (nl rfl) rfl ?_
  refine g_goto (pc := 505) (tgt := 2752) dL_law_505 rfl ?_
  exact g_sub (lv' := AL o) ⟨rfl, rfl, rfl, rfl, rfl, rfl, trivial⟩ (kont e2)
set_option maxRecDepth 4000 in
theorem lc_7 {kk : Int32} {b : Int32} (hs : mS M = S) (ho : o + 5 ≤ S.1) (hS9 : S.1 < 2147483648) (hM : Shp M) (hM1 : Shp M1) (hM2 : Shp M2) (h1 : EvR l jL_rank 9 163 3 18 [.ref 0, .int (S.2 (o + 1)), .int (S.2 (o + 2)), .int (S.2 (o + 3)), .ref 212] M (.inl (some (.int kk))) M1) (h2 : EvR l jX7_rank 4 160 0 0 [.ref 198, .int (S.2 (o + 1)), .int (S.2 (o + 2)), .int (S.2 (o + 3))] M1 (.inl (some (.int b))) M2) (kont : mS M2 = S → Go l jL_law 14 538 601024 7293034 Q 2752 (AL o) [] k n M2) : Go l jL_law 14 538 601024 7293034 Q 508 (AL o) [] (k + 3) (n + 18) M := by
  refine g_aload_n (pc := 508) dL_law_508 rfl trivial ?_
  refine g_aload_n (pc := 509) dL_law_509 rfl isA_0 ?_
  refine g_iload (pc := 510) dL_law_510 rfl ?_
  refine g_iconst (pc := 512) (v := 1) dL_law_512 rfl ?_
  refine g_iadd (pc := 513) dL_law_513 ?_
  refine g_scriptLoadS (pc := 514) dL_law_514 (nI_o1 _) hs (by omega) (by omega) ?_
  refine g_aload_n (pc := 515) dL_law_515 rfl isA_0 ?_
  refine g_iload (pc := 516) dL_law_516 rfl ?_
  refine g_iconst (pc := 518) (v := 2) dL_law_518 rfl ?_
  refine g_iadd (pc := 519) dL_law_519 ?_
  refine g_scriptLoadS (pc := 520) dL_law_520 (nI_o2 _) hs (by omega) (by omega) ?_
  refine g_aload_n (pc := 521) dL_law_521 rfl isA_0 ?_
  refine g_iload (pc := 522) dL_law_522 rfl ?_
  refine g_iconst (pc := 524) (v := 3) dL_law_524 rfl ?_
  refine g_iadd (pc := 525) dL_law_525 ?_
  refine g_scriptLoadS (pc := 526) dL_law_526 (nI_o3 _) hs (by omega) (by omega) ?_
  refine g_aload_n (pc := 527) dL_law_527 rfl trivial ?_
  refine g_invSX_s (pc := 528) (As := [_, _, _, _, _]) dL_law_528 rfl (h1) rfl rfl lk_L_220 rfl (nb rfl) ⟨nb rfl, nb rfl⟩ rfl (fun e1 => ?_)
  have e1 := e1.trans hs
  refine g_istore (pc := 531) (lv' := [(0, _), (1, _), (2, _), (3, _), (4, _), (5, _), (6, _)]) dL_law_531 (nl rfl) rfl ?_
  refine g_aload_n (pc := 533) dL_law_533 rfl trivial ?_
  refine g_aload_n (pc := 534) dL_law_534 rfl isA_0 ?_
  refine g_iload (pc := 535) dL_law_535 rfl ?_
  refine g_iconst (pc := 537) (v := 1) dL_law_537 rfl ?_
  refine g_iadd (pc := 538) dL_law_538 ?_
  refine g_scriptLoadS (pc := 539) dL_law_539 (nI_o1 _) e1 (by omega) (by omega) ?_
  refine g_aload_n (pc := 540) dL_law_540 rfl isA_0 ?_
  refine g_iload (pc := 541) dL_law_541 rfl ?_
  refine g_iconst (pc := 543) (v := 2) dL_law_543 rfl ?_
  refine g_iadd (pc := 544) dL_law_544 ?_
  refine g_scriptLoadS (pc := 545) dL_law_545 (nI_o2 _) e1 (by omega) (by omega) ?_
  refine g_aload_n (pc := 546) dL_law_546 rfl isA_0 ?_
  refine g_iload (pc := 547) dL_law_547 rfl ?_
  refine g_iconst (pc := 549) (v := 3) dL_law_549 rfl ?_
  refine g_iadd (pc := 550) dL_law_550 ?_
  refine g_scriptLoadS (pc := 551) dL_law_551 (nI_o3 _) e1 (by omega) (by omega) ?_
  refine g_invV_s (pc := 552) (As := [_, _, _]) dL_law_552 rfl (h2) rfl rfl (shK hM1 rfl) rfl rfl lk_L_222 rfl (nb rfl) ⟨nb rfl, nb rfl⟩ rfl (fun e2 => ?_)
  have e2 := e2.trans e1
  refine g_istore (pc := 555) (lv' := [(0, _), (1, _), (2, _), (3, _), (4, _), (5, _), (6, _), (7, _)]) dL_law_555 (nl rfl) rfl ?_
  refine g_goto (pc := 557) (tgt := 2752) dL_law_557 rfl ?_
  exact g_sub (lv' := AL o) ⟨rfl, rfl, rfl, rfl, rfl, rfl, trivial⟩ (kont e2)
set_option maxRecDepth 4000 in
theorem lc_8 {kk : Int32} {b : Int32} (hs : mS M = S) (ho : o + 5 ≤ S.1) (hS9 : S.1 < 2147483648) (hM : Shp M) (hM1 : Shp M1) (hM2 : Shp M2) (h1 : EvR l jL_select 9 163 2 12 [.ref 0, .int (S.2 (o + 1)), .int (S.2 (o + 2)), .int (S.2 (o + 3)), .ref 212] M (.inl (some (.int kk))) M1) (h2 : EvR l jX7_select 4 160 0 0 [.ref 198, .int (S.2 (o + 1)), .int (S.2 (o + 2)), .int (S.2 (o + 3))] M1 (.inl (some (.int b))) M2) (kont : mS M2 = S → Go l jL_law 14 538 601024 7293034 Q 2752 (AL o) [] k n M2) : Go l jL_law 14 538 601024 7293034 Q 560 (AL o) [] (k + 2) (n + 12) M := by
  refine g_aload_n (pc := 560) dL_law_560 rfl trivial ?_
  refine g_aload_n (pc := 561) dL_law_561 rfl isA_0 ?_
  refine g_iload (pc := 562) dL_law_562 rfl ?_
  refine g_iconst (pc := 564) (v := 1) dL_law_564 rfl ?_
  refine g_iadd (pc := 565) dL_law_565 ?_
  refine g_scriptLoadS (pc := 566) dL_law_566 (nI_o1 _) hs (by omega) (by omega) ?_
  refine g_aload_n (pc := 567) dL_law_567 rfl isA_0 ?_
  refine g_iload (pc := 568) dL_law_568 rfl ?_
  refine g_iconst (pc := 570) (v := 2) dL_law_570 rfl ?_
  refine g_iadd (pc := 571) dL_law_571 ?_
  refine g_scriptLoadS (pc := 572) dL_law_572 (nI_o2 _) hs (by omega) (by omega) ?_
  refine g_aload_n (pc := 573) dL_law_573 rfl isA_0 ?_
  refine g_iload (pc := 574) dL_law_574 rfl ?_
  refine g_iconst (pc := 576) (v := 3) dL_law_576 rfl ?_
  refine g_iadd (pc := 577) dL_law_577 ?_
  refine g_scriptLoadS (pc := 578) dL_law_578 (nI_o3 _) hs (by omega) (by omega) ?_
  refine g_aload_n (pc := 579) dL_law_579 rfl trivial ?_
  refine g_invSX_s (pc := 580) (As := [_, _, _, _, _]) dL_law_580 rfl (h1) rfl rfl lk_L_223 rfl (nb rfl) ⟨nb rfl, nb rfl⟩ rfl (fun e1 => ?_)
  have e1 := e1.trans hs
  refine g_istore (pc := 583) (lv' := [(0, _), (1, _), (2, _), (3, _), (4, _), (5, _), (6, _)]) dL_law_583 (nl rfl) rfl ?_
  refine g_aload_n (pc := 585) dL_law_585 rfl trivial ?_
  refine g_aload_n (pc := 586) dL_law_586 rfl isA_0 ?_
  refine g_iload (pc := 587) dL_law_587 rfl ?_
  refine g_iconst (pc := 589) (v := 1) dL_law_589 rfl ?_
  refine g_iadd (pc := 590) dL_law_590 ?_
  refine g_scriptLoadS (pc := 591) dL_law_591 (nI_o1 _) e1 (by omega) (by omega) ?_
  refine g_aload_n (pc := 592) dL_law_592 rfl isA_0 ?_
  refine g_iload (pc := 593) dL_law_593 rfl ?_
  refine g_iconst (pc := 595) (v := 2) dL_law_595 rfl ?_
  refine g_iadd (pc := 596) dL_law_596 ?_
  refine g_scriptLoadS (pc := 597) dL_law_597 (nI_o2 _) e1 (by omega) (by omega) ?_
  refine g_aload_n (pc := 598) dL_law_598 rfl isA_0 ?_
  refine g_iload (pc := 599) dL_law_599 rfl ?_
  refine g_iconst (pc := 601) (v := 3) dL_law_601 rfl ?_
  refine g_iadd (pc := 602) dL_law_602 ?_
  refine g_scriptLoadS (pc := 603) dL_law_603 (nI_o3 _) e1 (by omega) (by omega) ?_
  refine g_invV_s (pc := 604) (As := [_, _, _]) dL_law_604 rfl (h2) rfl rfl (shK hM1 rfl) rfl rfl lk_L_225 rfl (nb rfl) ⟨nb rfl, nb rfl⟩ rfl (fun e2 => ?_)
  have e2 := e2.trans e1
  refine g_istore (pc := 607) (lv' := [(0, _), (1, _), (2, _), (3, _), (4, _), (5, _), (6, _), (7, _)]) dL_law_607 (nl rfl) rfl ?_
  refine g_goto (pc := 609) (tgt := 2752) dL_law_609 rfl ?_
  exact g_sub (lv' := AL o) ⟨rfl, rfl, rfl, rfl, rfl, rfl, trivial⟩ (kont e2)
set_option maxRecDepth 4000 in
theorem lc_9 {kk : Int32} {b : Int32} (hs : mS M = S) (ho : o + 5 ≤ S.1) (hS9 : S.1 < 2147483648) (hM : Shp M) (hM1 : Shp M1) (hM2 : Shp M2) (h1 : EvR l jL_ones 8 141 1 6 [.ref 0, .int (S.2 (o + 1)), .ref 212] M (.inl (some (.int kk))) M1) (h2 : EvR l jX7_ones 4 160 0 0 [.ref 198, .int (S.2 (o + 1))] M1 (.inl (some (.int b))) M2) (kont : mS M2 = S → Go l jL_law 14 538 601024 7293034 Q 2752 (AL o) [] k n M2) : Go l jL_law 14 538 601024 7293034 Q 612 (AL o) [] (k + 1) (n + 6) M := by
  refine g_aload_n (pc := 612) dL_law_612 rfl trivial ?_
  refine g_aload_n (pc := 613) dL_law_613 rfl isA_0 ?_
  refine g_iload (pc := 614) dL_law_614 rfl ?_
  refine g_iconst (pc := 616) (v := 1) dL_law_616 rfl ?_
  refine g_iadd (pc := 617) dL_law_617 ?_
  refine g_scriptLoadS (pc := 618) dL_law_618 (nI_o1 _) hs (by omega) (by omega) ?_
  refine g_aload_n (pc := 619) dL_law_619 rfl trivial ?_
  refine g_invSX_s (pc := 620) (As := [_, _, _]) dL_law_620 rfl (h1) rfl rfl lk_L_226 rfl (nb rfl) ⟨nb rfl, nb rfl⟩ rfl (fun e1 => ?_)
  have e1 := e1.trans hs
  refine g_istore (pc := 623) (lv' := [(0, _), (1, _), (2, _), (3, _), (4, _), (5, _), (6, _)]) dL_law_623 (nl rfl) rfl ?_
  refine g_aload_n (pc := 625) dL_law_625 rfl trivial ?_
  refine g_aload_n (pc := 626) dL_law_626 rfl isA_0 ?_
  refine g_iload (pc := 627) dL_law_627 rfl ?_
  refine g_iconst (pc := 629) (v := 1) dL_law_629 rfl ?_
  refine g_iadd (pc := 630) dL_law_630 ?_
  refine g_scriptLoadS (pc := 631) dL_law_631 (nI_o1 _) e1 (by omega) (by omega) ?_
  refine g_invV_s (pc := 632) (As := [_]) dL_law_632 rfl (h2) rfl rfl (shK hM1 rfl) rfl rfl lk_L_228 rfl (nb rfl) ⟨nb rfl, nb rfl⟩ rfl (fun e2 => ?_)
  have e2 := e2.trans e1
  refine g_istore (pc := 635) (lv' := [(0, _), (1, _), (2, _), (3, _), (4, _), (5, _), (6, _), (7, _)]) dL_law_635 (nl rfl) rfl ?_
  refine g_goto (pc := 637) (tgt := 2752) dL_law_637 rfl ?_
  exact g_sub (lv' := AL o) ⟨rfl, rfl, rfl, rfl, rfl, rfl, trivial⟩ (kont e2)
set_option maxRecDepth 4000 in
theorem lc_10 {kk : Int32} {b : Int32} (hs : mS M = S) (ho : o + 5 ≤ S.1) (hS9 : S.1 < 2147483648) (hM : Shp M) (hM1 : Shp M1) (hM2 : Shp M2) (h1 : EvR l jL_columnOnes 9 162 2 12 [.ref 0, .int (S.2 (o + 1)), .int (S.2 (o + 2)), .ref 212] M (.inl (some (.int kk))) M1) (h2 : EvR l jX7_columnOnes 4 160 0 0 [.ref 198, .int (S.2 (o + 1)), .int (S.2 (o + 2))] M1 (.inl (some (.int b))) M2) (kont : mS M2 = S → Go l jL_law 14 538 601024 7293034 Q 2752 (AL o) [] k n M2) : Go l jL_law 14 538 601024 7293034 Q 640 (AL o) [] (k + 2) (n + 12) M := by
  refine g_aload_n (pc := 640) dL_law_640 rfl trivial ?_
  refine g_aload_n (pc := 641) dL_law_641 rfl isA_0 ?_
  refine g_iload (pc := 642) dL_law_642 rfl ?_
  refine g_iconst (pc := 644) (v := 1) dL_law_644 rfl ?_
  refine g_iadd (pc := 645) dL_law_645 ?_
  refine g_scriptLoadS (pc := 646) dL_law_646 (nI_o1 _) hs (by omega) (by omega) ?_
  refine g_aload_n (pc := 647) dL_law_647 rfl isA_0 ?_
  refine g_iload (pc := 648) dL_law_648 rfl ?_
  refine g_iconst (pc := 650) (v := 2) dL_law_650 rfl ?_
  refine g_iadd (pc := 651) dL_law_651 ?_
  refine g_scriptLoadS (pc := 652) dL_law_652 (nI_o2 _) hs (by omega) (by omega) ?_
  refine g_aload_n (pc := 653) dL_law_653 rfl trivial ?_
  refine g_invSX_s (pc := 654) (As := [_, _, _, _]) dL_law_654 rfl (h1) rfl rfl lk_L_229 rfl (nb rfl) ⟨nb rfl, nb rfl⟩ rfl (fun e1 => ?_)
  have e1 := e1.trans hs
  refine g_istore (pc := 657) (lv' := [(0, _), (1, _), (2, _), (3, _), (4, _), (5, _), (6, _)]) dL_law_657 (nl rfl) rfl ?_
  refine g_aload_n (pc := 659) dL_law_659 rfl trivial ?_
  refine g_aload_n (pc := 660) dL_law_660 rfl isA_0 ?_
  refine g_iload (pc := 661) dL_law_661 rfl ?_
  refine g_iconst (pc := 663) (v := 1) dL_law_663 rfl ?_
  refine g_iadd (pc := 664) dL_law_664 ?_
  refine g_scriptLoadS (pc := 665) dL_law_665 (nI_o1 _) e1 (by omega) (by omega) ?_
  refine g_aload_n (pc := 666) dL_law_666 rfl isA_0 ?_
  refine g_iload (pc := 667) dL_law_667 rfl ?_
  refine g_iconst (pc := 669) (v := 2) dL_law_669 rfl ?_
  refine g_iadd (pc := 670) dL_law_670 ?_
  refine g_scriptLoadS (pc := 671) dL_law_671 (nI_o2 _) e1 (by omega) (by omega) ?_
  refine g_invV_s (pc := 672) (As := [_, _]) dL_law_672 rfl (h2) rfl rfl (shK hM1 rfl) rfl rfl lk_L_231 rfl (nb rfl) ⟨nb rfl, nb rfl⟩ rfl (fun e2 => ?_)
  have e2 := e2.trans e1
  refine g_istore (pc := 675) (lv' := [(0, _), (1, _), (2, _), (3, _), (4, _), (5, _), (6, _), (7, _)]) dL_law_675 (nl rfl) rfl ?_
  refine g_goto (pc := 677) (tgt := 2752) dL_law_677 rfl ?_
  exact g_sub (lv' := AL o) ⟨rfl, rfl, rfl, rfl, rfl, rfl, trivial⟩ (kont e2)
set_option maxRecDepth 4000 in
theorem lc_11 {kk : Int32} {b : Int32} (hs : mS M = S) (ho : o + 5 ≤ S.1) (hS9 : S.1 < 2147483648) (hM : Shp M) (hM1 : Shp M1) (hM2 : Shp M2) (h1 : EvR l jL_sameAs 9 162 2 12 [.ref 0, .int (S.2 (o + 1)), .int (S.2 (o + 2)), .ref 212] M (.inl (some (.int kk))) M1) (h2 : EvR l jX7_sameAs 4 160 0 0 [.ref 198, .int (S.2 (o + 1)), .int (S.2 (o + 2))] M1 (.inl (some (.int b))) M2) (kont : mS M2 = S → Go l jL_law 14 538 601024 7293034 Q 2752 (AL o) [] k n M2) : Go l jL_law 14 538 601024 7293034 Q 680 (AL o) [] (k + 2) (n + 12) M := by
  refine g_aload_n (pc := 680) dL_law_680 rfl trivial ?_
  refine g_aload_n (pc := 681) dL_law_681 rfl isA_0 ?_
  refine g_iload (pc := 682) dL_law_682 rfl ?_
  refine g_iconst (pc := 684) (v := 1) dL_law_684 rfl ?_
  refine g_iadd (pc := 685) dL_law_685 ?_
  refine g_scriptLoadS (pc := 686) dL_law_686 (nI_o1 _) hs (by omega) (by omega) ?_
  refine g_aload_n (pc := 687) dL_law_687 rfl isA_0 ?_
  refine g_iload (pc := 688) dL_law_688 rfl ?_
  refine g_iconst (pc := 690) (v := 2) dL_law_690 rfl ?_
  refine g_iadd (pc := 691) dL_law_691 ?_
  refine g_scriptLoadS (pc := 692) dL_law_692 (nI_o2 _) hs (by omega) (by omega) ?_
  refine g_aload_n (pc := 693) dL_law_693 rfl trivial ?_
  refine g_invSX_s (pc := 694) (As := [_, _, _, _]) dL_law_694 rfl (h1) rfl rfl lk_L_232 rfl (nb rfl) ⟨nb rfl, nb rfl⟩ rfl (fun e1 => ?_)
  have e1 := e1.trans hs
  refine g_istore (pc := 697) (lv' := [(0, _), (1, _), (2, _), (3, _), (4, _), (5, _), (6, _)]) dL_law_697 (nl rfl) rfl ?_
  refine g_aload_n (pc := 699) dL_law_699 rfl trivial ?_
  refine g_aload_n (pc := 700) dL_law_700 rfl isA_0 ?_
  refine g_iload (pc := 701) dL_law_701 rfl ?_
  refine g_iconst (pc := 703) (v := 1) dL_law_703 rfl ?_
  refine g_iadd (pc := 704) dL_law_704 ?_
  refine g_scriptLoadS (pc := 705) dL_law_705 (nI_o1 _) e1 (by omega) (by omega) ?_
  refine g_aload_n (pc := 706) dL_law_706 rfl isA_0 ?_
  refine g_iload (pc := 707) dL_law_707 rfl ?_
  refine g_iconst (pc := 709) (v := 2) dL_law_709 rfl ?_
  refine g_iadd (pc := 710) dL_law_710 ?_
  refine g_scriptLoadS (pc := 711) dL_law_711 (nI_o2 _) e1 (by omega) (by omega) ?_
  refine g_invV_s (pc := 712) (As := [_, _]) dL_law_712 rfl (h2) rfl rfl (shK hM1 rfl) rfl rfl lk_L_234 rfl (nb rfl) ⟨nb rfl, nb rfl⟩ rfl (fun e2 => ?_)
  have e2 := e2.trans e1
  refine g_istore (pc := 715) (lv' := [(0, _), (1, _), (2, _), (3, _), (4, _), (5, _), (6, _), (7, _)]) dL_law_715 (nl rfl) rfl ?_
  refine g_goto (pc := 717) (tgt := 2752) dL_law_717 rfl ?_
  exact g_sub (lv' := AL o) ⟨rfl, rfl, rfl, rfl, rfl, rfl, trivial⟩ (kont e2)
set_option maxRecDepth 4000 in
theorem lc_12 {kk : Int32} {b : Int32} (hs : mS M = S) (ho : o + 5 ≤ S.1) (hS9 : S.1 < 2147483648) (hM : Shp M) (hM1 : Shp M1) (hM2 : Shp M2) (h1 : EvR l jL_classes 8 141 1 6 [.ref 0, .int (S.2 (o + 1)), .ref 212] M (.inl (some (.int kk))) M1) (h2 : EvR l jX7_classes 4 160 0 0 [.ref 198, .int (S.2 (o + 1))] M1 (.inl (some (.int b))) M2) (kont : mS M2 = S → Go l jL_law 14 538 601024 7293034 Q 2752 (AL o) [] k n M2) : Go l jL_law 14 538 601024 7293034 Q 720 (AL o) [] (k + 1) (n + 6) M := by
  refine g_aload_n (pc := 720) dL_law_720 rfl trivial ?_
  refine g_aload_n (pc := 721) dL_law_721 rfl isA_0 ?_
  refine g_iload (pc := 722) dL_law_722 rfl ?_
  refine g_iconst (pc := 724) (v := 1) dL_law_724 rfl ?_
  refine g_iadd (pc := 725) dL_law_725 ?_
  refine g_scriptLoadS (pc := 726) dL_law_726 (nI_o1 _) hs (by omega) (by omega) ?_
  refine g_aload_n (pc := 727) dL_law_727 rfl trivial ?_
  refine g_invSX_s (pc := 728) (As := [_, _, _]) dL_law_728 rfl (h1) rfl rfl lk_L_235 rfl (nb rfl) ⟨nb rfl, nb rfl⟩ rfl (fun e1 => ?_)
  have e1 := e1.trans hs
  refine g_istore (pc := 731) (lv' := [(0, _), (1, _), (2, _), (3, _), (4, _), (5, _), (6, _)]) dL_law_731 (nl rfl) rfl ?_
  refine g_aload_n (pc := 733) dL_law_733 rfl trivial ?_
  refine g_aload_n (pc := 734) dL_law_734 rfl isA_0 ?_
  refine g_iload (pc := 735) dL_law_735 rfl ?_
  refine g_iconst (pc := 737) (v := 1) dL_law_737 rfl ?_
  refine g_iadd (pc := 738) dL_law_738 ?_
  refine g_scriptLoadS (pc := 739) dL_law_739 (nI_o1 _) e1 (by omega) (by omega) ?_
  refine g_invV_s (pc := 740) (As := [_]) dL_law_740 rfl (h2) rfl rfl (shK hM1 rfl) rfl rfl lk_L_237 rfl (nb rfl) ⟨nb rfl, nb rfl⟩ rfl (fun e2 => ?_)
  have e2 := e2.trans e1
  refine g_istore (pc := 743) (lv' := [(0, _), (1, _), (2, _), (3, _), (4, _), (5, _), (6, _), (7, _)]) dL_law_743 (nl rfl) rfl ?_
  refine g_goto (pc := 745) (tgt := 2752) dL_law_745 rfl ?_
  exact g_sub (lv' := AL o) ⟨rfl, rfl, rfl, rfl, rfl, rfl, trivial⟩ (kont e2)
set_option maxRecDepth 4000 in
theorem lc_13 {kk : Int32} {b : Int32} (hs : mS M = S) (ho : o + 5 ≤ S.1) (hS9 : S.1 < 2147483648) (hM : Shp M) (hM1 : Shp M1) (hM2 : Shp M2) (h1 : EvR l jL_classOf 9 163 2 12 [.ref 0, .int (S.2 (o + 1)), .int (S.2 (o + 2)), .ref 212] M (.inl (some (.int kk))) M1) (h2 : EvR l jX7_classOf 4 160 0 0 [.ref 198, .int (S.2 (o + 1)), .int (S.2 (o + 2))] M1 (.inl (some (.int b))) M2) (kont : mS M2 = S → Go l jL_law 14 538 601024 7293034 Q 2752 (AL o) [] k n M2) : Go l jL_law 14 538 601024 7293034 Q 748 (AL o) [] (k + 2) (n + 12) M := by
  refine g_aload_n (pc := 748) dL_law_748 rfl trivial ?_
  refine g_aload_n (pc := 749) dL_law_749 rfl isA_0 ?_
  refine g_iload (pc := 750) dL_law_750 rfl ?_
  refine g_iconst (pc := 752) (v := 1) dL_law_752 rfl ?_
  refine g_iadd (pc := 753) dL_law_753 ?_
  refine g_scriptLoadS (pc := 754) dL_law_754 (nI_o1 _) hs (by omega) (by omega) ?_
  refine g_aload_n (pc := 755) dL_law_755 rfl isA_0 ?_
  refine g_iload (pc := 756) dL_law_756 rfl ?_
  refine g_iconst (pc := 758) (v := 2) dL_law_758 rfl ?_
  refine g_iadd (pc := 759) dL_law_759 ?_
  refine g_scriptLoadS (pc := 760) dL_law_760 (nI_o2 _) hs (by omega) (by omega) ?_
  refine g_aload_n (pc := 761) dL_law_761 rfl trivial ?_
  refine g_invSX_s (pc := 762) (As := [_, _, _, _]) dL_law_762 rfl (h1) rfl rfl lk_L_238 rfl (nb rfl) ⟨nb rfl, nb rfl⟩ rfl (fun e1 => ?_)
  have e1 := e1.trans hs
  refine g_istore (pc := 765) (lv' := [(0, _), (1, _), (2, _), (3, _), (4, _), (5, _), (6, _)]) dL_law_765 (nl rfl) rfl ?_
  refine g_aload_n (pc := 767) dL_law_767 rfl trivial ?_
  refine g_aload_n (pc := 768) dL_law_768 rfl isA_0 ?_
  refine g_iload (pc := 769) dL_law_769 rfl ?_
  refine g_iconst (pc := 771) (v := 1) dL_law_771 rfl ?_
  refine g_iadd (pc := 772) dL_law_772 ?_
  refine g_scriptLoadS (pc := 773) dL_law_773 (nI_o1 _) e1 (by omega) (by omega) ?_
  refine g_aload_n (pc := 774) dL_law_774 rfl isA_0 ?_
  refine g_iload (pc := 775) dL_law_775 rfl ?_
  refine g_iconst (pc := 777) (v := 2) dL_law_777 rfl ?_
  refine g_iadd (pc := 778) dL_law_778 ?_
  refine g_scriptLoadS (pc := 779) dL_law_779 (nI_o2 _) e1 (by omega) (by omega) ?_
  refine g_invV_s (pc := 780) (As := [_, _]) dL_law_780 rfl (h2) rfl rfl (shK hM1 rfl) rfl rfl lk_L_240 rfl (nb rfl) ⟨nb rfl, nb rfl⟩ rfl (fun e2 => ?_)
  have e2 := e2.trans e1
  refine g_istore (pc := 783) (lv' := [(0, _), (1, _), (2, _), (3, _), (4, _), (5, _), (6, _), (7, _)]) dL_law_783 (nl rfl) rfl ?_
  refine g_goto (pc := 785) (tgt := 2752) dL_law_785 rfl ?_
  exact g_sub (lv' := AL o) ⟨rfl, rfl, rfl, rfl, rfl, rfl, trivial⟩ (kont e2)
set_option maxRecDepth 4000 in
theorem lc_14 {kk : Int32} {b : Int32} (hs : mS M = S) (ho : o + 5 ≤ S.1) (hS9 : S.1 < 2147483648) (hM : Shp M) (hM1 : Shp M1) (hM2 : Shp M2) (h1 : EvR l jL_find 8 143 1 6 [.ref 0, .int (S.2 (o + 1)), .long (l2 (S.2 (o + 2)) (S.2 (o + 3))), .ref 212] M (.inl (some (.int kk))) M1) (h2 : EvR l jX7_find 4 160 0 0 [.ref 198, .int (S.2 (o + 1)), .long (l2 (S.2 (o + 2)) (S.2 (o + 3)))] M1 (.inl (some (.int b))) M2) (kont : mS M2 = S → Go l jL_law 14 538 601024 7293034 Q 2752 (AL o) [] k n M2) : Go l jL_law 14 538 601024 7293034 Q 788 (AL o) [] (k + 1) (n + 6) M := by
  refine g_aload_n (pc := 788) dL_law_788 rfl trivial ?_
  refine g_aload_n (pc := 789) dL_law_789 rfl isA_0 ?_
  refine g_iload (pc := 790) dL_law_790 rfl ?_
  refine g_iconst (pc := 792) (v := 1) dL_law_792 rfl ?_
  refine g_iadd (pc := 793) dL_law_793 ?_
  refine g_scriptLoadS (pc := 794) dL_law_794 (nI_o1 _) hs (by omega) (by omega) ?_
  refine g_aload_n (pc := 795) dL_law_795 rfl isA_0 ?_
  refine g_iload (pc := 796) dL_law_796 rfl ?_
  refine g_iconst (pc := 798) (v := 2) dL_law_798 rfl ?_
  refine g_iadd (pc := 799) dL_law_799 ?_
  refine g_scriptLoadS (pc := 800) dL_law_800 (nI_o2 _) hs (by omega) (by omega) ?_
  refine g_i2l (pc := 801) dL_law_801 rfl ?_
  refine g_bipush (pc := 802) (v := 32) dL_law_802 rfl ?_
  refine g_lshl (pc := 804) dL_law_804 rfl ?_
  refine g_aload_n (pc := 805) dL_law_805 rfl isA_0 ?_
  refine g_iload (pc := 806) dL_law_806 rfl ?_
  refine g_iconst (pc := 808) (v := 3) dL_law_808 rfl ?_
  refine g_iadd (pc := 809) dL_law_809 ?_
  refine g_scriptLoadS (pc := 810) dL_law_810 (nI_o3 _) hs (by omega) (by omega) ?_
  refine g_i2l (pc := 811) dL_law_811 rfl ?_
  refine g_ldc2 (pc := 812) dL_law_812 wd_1783 ?_
  refine g_land (pc := 815) dL_law_815 ?_
  refine g_lor (pc := 816) dL_law_816 ?_
  refine g_aload_n (pc := 817) dL_law_817 rfl trivial ?_
  refine g_invSX_s (pc := 818) (As := [_, _, _, _]) dL_law_818 rfl (h1) rfl rfl lk_L_241 rfl (nb rfl) ⟨nb rfl, nb rfl⟩ rfl (fun e1 => ?_)
  have e1 := e1.trans hs
  refine g_istore (pc := 821) (lv' := [(0, _), (1, _), (2, _), (3, _), (4, _), (5, _), (6, _)]) dL_law_821 (nl rfl) rfl ?_
  refine g_aload_n (pc := 823) dL_law_823 rfl trivial ?_
  refine g_aload_n (pc := 824) dL_law_824 rfl isA_0 ?_
  refine g_iload (pc := 825) dL_law_825 rfl ?_
  refine g_iconst (pc := 827) (v := 1) dL_law_827 rfl ?_
  refine g_iadd (pc := 828) dL_law_828 ?_
  refine g_scriptLoadS (pc := 829) dL_law_829 (nI_o1 _) e1 (by omega) (by omega) ?_
  refine g_aload_n (pc := 830) dL_law_830 rfl isA_0 ?_
  refine g_iload (pc := 831) dL_law_831 rfl ?_
  refine g_iconst (pc := 833) (v := 2) dL_law_833 rfl ?_
  refine g_iadd (pc := 834) dL_law_834 ?_
  refine g_scriptLoadS (pc := 835) dL_law_835 (nI_o2 _) e1 (by omega) (by omega) ?_
  refine g_i2l (pc := 836) dL_law_836 rfl ?_
  refine g_bipush (pc := 837) (v := 32) dL_law_837 rfl ?_
  refine g_lshl (pc := 839) dL_law_839 rfl ?_
  refine g_aload_n (pc := 840) dL_law_840 rfl isA_0 ?_
  refine g_iload (pc := 841) dL_law_841 rfl ?_
  refine g_iconst (pc := 843) (v := 3) dL_law_843 rfl ?_
  refine g_iadd (pc := 844) dL_law_844 ?_
  refine g_scriptLoadS (pc := 845) dL_law_845 (nI_o3 _) e1 (by omega) (by omega) ?_
  refine g_i2l (pc := 846) dL_law_846 rfl ?_
  refine g_ldc2 (pc := 847) dL_law_847 wd_1783 ?_
  refine g_land (pc := 850) dL_law_850 ?_
  refine g_lor (pc := 851) dL_law_851 ?_
  refine g_invV_s (pc := 852) (As := [_, _]) dL_law_852 rfl (h2) rfl rfl (shK hM1 rfl) rfl rfl lk_L_244 rfl (nb rfl) ⟨nb rfl, nb rfl⟩ rfl (fun e2 => ?_)
  have e2 := e2.trans e1
  refine g_istore (pc := 855) (lv' := [(0, _), (1, _), (2, _), (3, _), (4, _), (5, _), (6, _), (7, _)]) dL_law_855 (nl rfl) rfl ?_
  refine g_goto (pc := 857) (tgt := 2752) dL_law_857 rfl ?_
  exact g_sub (lv' := AL o) ⟨rfl, rfl, rfl, rfl, rfl, rfl, trivial⟩ (kont e2)
set_option maxRecDepth 4000 in
theorem lc_15 {kk : Int32} {b : Int32} (hs : mS M = S) (ho : o + 5 ≤ S.1) (hS9 : S.1 < 2147483648) (hM : Shp M) (hM1 : Shp M1) (hM2 : Shp M2) (h1 : EvR l jL_nearest 9 167 2 12 [.ref 0, .int (S.2 (o + 1)), .int (S.2 (o + 2)), .ref 212] M (.inl (some (.int kk))) M1) (h2 : EvR l jX7_nearest 4 160 0 0 [.ref 198, .int (S.2 (o + 1)), .int (S.2 (o + 2))] M1 (.inl (some (.int b))) M2) (kont : mS M2 = S → Go l jL_law 14 538 601024 7293034 Q 2752 (AL o) [] k n M2) : Go l jL_law 14 538 601024 7293034 Q 860 (AL o) [] (k + 2) (n + 12) M := by
  refine g_aload_n (pc := 860) dL_law_860 rfl trivial ?_
  refine g_aload_n (pc := 861) dL_law_861 rfl isA_0 ?_
  refine g_iload (pc := 862) dL_law_862 rfl ?_
  refine g_iconst (pc := 864) (v := 1) dL_law_864 rfl ?_
  refine g_iadd (pc := 865) dL_law_865 ?_
  refine g_scriptLoadS (pc := 866) dL_law_866 (nI_o1 _) hs (by omega) (by omega) ?_
  refine g_aload_n (pc := 867) dL_law_867 rfl isA_0 ?_
  refine g_iload (pc := 868) dL_law_868 rfl ?_
  refine g_iconst (pc := 870) (v := 2) dL_law_870 rfl ?_
  refine g_iadd (pc := 871) dL_law_871 ?_
  refine g_scriptLoadS (pc := 872) dL_law_872 (nI_o2 _) hs (by omega) (by omega) ?_
  refine g_aload_n (pc := 873) dL_law_873 rfl trivial ?_
  refine g_invSX_s (pc := 874) (As := [_, _, _, _]) dL_law_874 rfl (h1) rfl rfl lk_L_245 rfl (nb rfl) ⟨nb rfl, nb rfl⟩ rfl (fun e1 => ?_)
  have e1 := e1.trans hs
  refine g_istore (pc := 877) (lv' := [(0, _), (1, _), (2, _), (3, _), (4, _), (5, _), (6, _)]) dL_law_877 (nl rfl) rfl ?_
  refine g_aload_n (pc := 879) dL_law_879 rfl trivial ?_
  refine g_aload_n (pc := 880) dL_law_880 rfl isA_0 ?_
  refine g_iload (pc := 881) dL_law_881 rfl ?_
  refine g_iconst (pc := 883) (v := 1) dL_law_883 rfl ?_
  refine g_iadd (pc := 884) dL_law_884 ?_
  refine g_scriptLoadS (pc := 885) dL_law_885 (nI_o1 _) e1 (by omega) (by omega) ?_
  refine g_aload_n (pc := 886) dL_law_886 rfl isA_0 ?_
  refine g_iload (pc := 887) dL_law_887 rfl ?_
  refine g_iconst (pc := 889) (v := 2) dL_law_889 rfl ?_
  refine g_iadd (pc := 890) dL_law_890 ?_
  refine g_scriptLoadS (pc := 891) dL_law_891 (nI_o2 _) e1 (by omega) (by omega) ?_
  refine g_invV_s (pc := 892) (As := [_, _]) dL_law_892 rfl (h2) rfl rfl (shK hM1 rfl) rfl rfl lk_L_247 rfl (nb rfl) ⟨nb rfl, nb rfl⟩ rfl (fun e2 => ?_)
  have e2 := e2.trans e1
  refine g_istore (pc := 895) (lv' := [(0, _), (1, _), (2, _), (3, _), (4, _), (5, _), (6, _), (7, _)]) dL_law_895 (nl rfl) rfl ?_
  refine g_goto (pc := 897) (tgt := 2752) dL_law_897 rfl ?_
  exact g_sub (lv' := AL o) ⟨rfl, rfl, rfl, rfl, rfl, rfl, trivial⟩ (kont e2)
set_option maxRecDepth 4000 in
theorem lc_16 {kk : Int32} {b : UInt64} (hs : mS M = S) (ho : o + 5 ≤ S.1) (hS9 : S.1 < 2147483648) (hM : Shp M) (hM1 : Shp M1) (hM2 : Shp M2) (h1 : EvR l jL_density 9 171 1 6 [.ref 0, .int (S.2 (o + 1)), .ref 213] M (.inl (some (.int kk))) M1) (h2 : EvR l jX7_density 4 160 0 0 [.ref 198, .int (S.2 (o + 1))] M1 (.inl (some (.double b))) M2) (kont : mS M2 = S → Go l jL_law 14 538 601024 7293034 Q 2752 (AL o) [] k n M2) : Go l jL_law 14 538 601024 7293034 Q 900 (AL o) [] (k + 1) (n + 6) M := by
  refine g_aload_n (pc := 900) dL_law_900 rfl trivial ?_
  refine g_aload_n (pc := 901) dL_law_901 rfl isA_0 ?_
  refine g_iload (pc := 902) dL_law_902 rfl ?_
  refine g_iconst (pc := 904) (v := 1) dL_law_904 rfl ?_
  refine g_iadd (pc := 905) dL_law_905 ?_
  refine g_scriptLoadS (pc := 906) dL_law_906 (nI_o1 _) hs (by omega) (by omega) ?_
  refine g_aload (pc := 907) dL_law_907 rfl trivial ?_
  refine g_invSX_s (pc := 909) (As := [_, _, _]) dL_law_909 rfl (h1) rfl rfl lk_L_248 rfl (nb rfl) ⟨nb rfl, nb rfl⟩ rfl (fun e1 => ?_)
  have e1 := e1.trans hs
  refine g_istore (pc := 912) (lv' := [(0, _), (1, _), (2, _), (3, _), (4, _), (5, _), (6, _)]) dL_law_912 (nl rfl) rfl ?_
  refine g_aload_n (pc := 914) dL_law_914 rfl trivial ?_
  refine g_aload_n (pc := 915) dL_law_915 rfl isA_0 ?_
  refine g_iload (pc := 916) dL_law_916 rfl ?_
  refine g_iconst (pc := 918) (v := 1) dL_law_918 rfl ?_
  refine g_iadd (pc := 919) dL_law_919 ?_
  refine g_scriptLoadS (pc := 920) dL_law_920 (nI_o1 _) e1 (by omega) (by omega) ?_
  refine g_invV_s (pc := 921) (As := [_]) dL_law_921 rfl (h2) rfl rfl (shK hM1 rfl) rfl rfl lk_L_251 rfl (nb rfl) ⟨nb rfl, nb rfl⟩ rfl (fun e2 => ?_)
  have e2 := e2.trans e1
  refine g_dstore (pc := 924) (lv' := [(0, _), (1, _), (2, _), (3, _), (4, _), (5, _), (6, _), (7, _)]) dL_law_924 (nl rfl) rfl ?_
  refine g_goto (pc := 926) (tgt := 2752) dL_law_926 rfl ?_
  exact g_sub (lv' := AL o) ⟨rfl, rfl, rfl, rfl, rfl, rfl, trivial⟩ (kont e2)
set_option maxRecDepth 4000 in
theorem lc_17 {kk : Int32} {b : Bool} (hs : mS M = S) (ho : o + 5 ≤ S.1) (hS9 : S.1 < 2147483648) (hM : Shp M) (hM1 : Shp M1) (hM2 : Shp M2) (h1 : EvR l jL_isSymmetric 8 143 1 6 [.ref 0, .int (S.2 (o + 1)), .ref 212] M (.inl (some (.int kk))) M1) (h2 : EvR l jX7_isSymmetric 4 160 0 0 [.ref 198, .int (S.2 (o + 1))] M1 (.inl (some (.int (b1 b)))) M2) (kont : mS M2 = S → Go l jL_law 14 538 601024 7293034 Q 2752 (AL o) [] k n M2) : Go l jL_law 14 538 601024 7293034 Q 929 (AL o) [] (k + 1) (n + 6) M := by
  refine g_aload_n (pc := 929) dL_law_929 rfl trivial ?_
  refine g_aload_n (pc := 930) dL_law_930 rfl isA_0 ?_
  refine g_iload (pc := 931) dL_law_931 rfl ?_
  refine g_iconst (pc := 933) (v := 1) dL_law_933 rfl ?_
  refine g_iadd (pc := 934) dL_law_934 ?_
  refine g_scriptLoadS (pc := 935) dL_law_935 (nI_o1 _) hs (by omega) (by omega) ?_
  refine g_aload_n (pc := 936) dL_law_936 rfl trivial ?_
  refine g_invSX_s (pc := 937) (As := [_, _, _]) dL_law_937 rfl (h1) rfl rfl lk_L_252 rfl (nb rfl) ⟨nb rfl, nb rfl⟩ rfl (fun e1 => ?_)
  have e1 := e1.trans hs
  refine g_istore (pc := 940) (lv' := [(0, _), (1, _), (2, _), (3, _), (4, _), (5, _), (6, _)]) dL_law_940 (nl rfl) rfl ?_
  refine g_aload_n (pc := 942) dL_law_942 rfl trivial ?_
  refine g_aload_n (pc := 943) dL_law_943 rfl isA_0 ?_
  refine g_iload (pc := 944) dL_law_944 rfl ?_
  refine g_iconst (pc := 946) (v := 1) dL_law_946 rfl ?_
  refine g_iadd (pc := 947) dL_law_947 ?_
  refine g_scriptLoadS (pc := 948) dL_law_948 (nI_o1 _) e1 (by omega) (by omega) ?_
  refine g_invV_s (pc := 949) (As := [_]) dL_law_949 rfl (h2) rfl rfl (shK hM1 rfl) rfl rfl lk_L_254 rfl (nb rfl) ⟨nb rfl, nb rfl⟩ rfl (fun e2 => ?_)
  have e2 := e2.trans e1
  refine g_istore (pc := 952) (lv' := [(0, _), (1, _), (2, _), (3, _), (4, _), (5, _), (6, _), (7, _)]) dL_law_952 (nl rfl) rfl ?_
  refine g_goto (pc := 954) (tgt := 2752) dL_law_954 rfl ?_
  exact g_sub (lv' := AL o) ⟨rfl, rfl, rfl, rfl, rfl, rfl, trivial⟩ (kont e2)
set_option maxRecDepth 4000 in
theorem lc_18 {kk : Int32} {b : Int32} (hs : mS M = S) (ho : o + 5 ≤ S.1) (hS9 : S.1 < 2147483648) (hM : Shp M) (hM1 : Shp M1) (hM2 : Shp M2) (h1 : EvR l jL_reaches 10 183 3 18 [.ref 0, .int (S.2 (o + 1)), .int (S.2 (o + 2)), .int (S.2 (o + 3)), .ref 212] M (.inl (some (.int kk))) M1) (h2 : EvR l jX7_reaches 4 160 0 0 [.ref 198, .int (S.2 (o + 1)), .int (S.2 (o + 2)), .int (S.2 (o + 3))] M1 (.inl (some (.int b))) M2) (kont : mS M2 = S → Go l jL_law 14 538 601024 7293034 Q 2752 (AL o) [] k n M2) : Go l jL_law 14 538 601024 7293034 Q 957 (AL o) [] (k + 3) (n + 18) M := by
  refine g_aload_n (pc := 957) dL_law_957 rfl trivial ?_
  refine g_aload_n (pc := 958) dL_law_958 rfl isA_0 ?_
  refine g_iload (pc := 959) dL_law_959 rfl ?_
  refine g_iconst (pc := 961) (v := 1) dL_law_961 rfl ?_
  refine g_iadd (pc := 962) dL_law_962 ?_
  refine g_scriptLoadS (pc := 963) dL_law_963 (nI_o1 _) hs (by omega) (by omega) ?_
  refine g_aload_n (pc := 964) dL_law_964 rfl isA_0 ?_
  refine g_iload (pc := 965) dL_law_965 rfl ?_
  refine g_iconst (pc := 967) (v := 2) dL_law_967 rfl ?_
  refine g_iadd (pc := 968) dL_law_968 ?_
  refine g_scriptLoadS (pc := 969) dL_law_969 (nI_o2 _) hs (by omega) (by omega) ?_
  refine g_aload_n (pc := 970) dL_law_970 rfl isA_0 ?_
  refine g_iload (pc := 971) dL_law_971 rfl ?_
  refine g_iconst (pc := 973) (v := 3) dL_law_973 rfl ?_
  refine g_iadd (pc := 974) dL_law_974 ?_
  refine g_scriptLoadS (pc := 975) dL_law_975 (nI_o3 _) hs (by omega) (by omega) ?_
  refine g_aload_n (pc := 976) dL_law_976 rfl trivial ?_
  refine g_invSX_s (pc := 977) (As := [_, _, _, _, _]) dL_law_977 rfl (h1) rfl rfl lk_L_255 rfl (nb rfl) ⟨nb rfl, nb rfl⟩ rfl (fun e1 => ?_)
  have e1 := e1.trans hs
  refine g_istore (pc := 980) (lv' := [(0, _), (1, _), (2, _), (3, _), (4, _), (5, _), (6, _)]) dL_law_980 (nl rfl) rfl ?_
  refine g_aload_n (pc := 982) dL_law_982 rfl trivial ?_
  refine g_aload_n (pc := 983) dL_law_983 rfl isA_0 ?_
  refine g_iload (pc := 984) dL_law_984 rfl ?_
  refine g_iconst (pc := 986) (v := 1) dL_law_986 rfl ?_
  refine g_iadd (pc := 987) dL_law_987 ?_
  refine g_scriptLoadS (pc := 988) dL_law_988 (nI_o1 _) e1 (by omega) (by omega) ?_
  refine g_aload_n (pc := 989) dL_law_989 rfl isA_0 ?_
  refine g_iload (pc := 990) dL_law_990 rfl ?_
  refine g_iconst (pc := 992) (v := 2) dL_law_992 rfl ?_
  refine g_iadd (pc := 993) dL_law_993 ?_
  refine g_scriptLoadS (pc := 994) dL_law_994 (nI_o2 _) e1 (by omega) (by omega) ?_
  refine g_aload_n (pc := 995) dL_law_995 rfl isA_0 ?_
  refine g_iload (pc := 996) dL_law_996 rfl ?_
  refine g_iconst (pc := 998) (v := 3) dL_law_998 rfl ?_
  refine g_iadd (pc := 999) dL_law_999 ?_
  refine g_scriptLoadS (pc := 1000) dL_law_1000 (nI_o3 _) e1 (by omega) (by omega) ?_
  refine g_invV_s (pc := 1001) (As := [_, _, _]) dL_law_1001 rfl (h2) rfl rfl (shK hM1 rfl) rfl rfl lk_L_257 rfl (nb rfl) ⟨nb rfl, nb rfl⟩ rfl (fun e2 => ?_)
  have e2 := e2.trans e1
  refine g_istore (pc := 1004) (lv' := [(0, _), (1, _), (2, _), (3, _), (4, _), (5, _), (6, _), (7, _)]) dL_law_1004 (nl rfl) rfl ?_
  refine g_goto (pc := 1006) (tgt := 2752) dL_law_1006 rfl ?_
  exact g_sub (lv' := AL o) ⟨rfl, rfl, rfl, rfl, rfl, rfl, trivial⟩ (kont e2)
set_option maxRecDepth 4000 in
theorem lc_19 {kk : Int32} {b : Int32} (hs : mS M = S) (ho : o + 5 ≤ S.1) (hS9 : S.1 < 2147483648) (hM : Shp M) (hM1 : Shp M1) (hM2 : Shp M2) (h1 : EvR l jL_reached 9 162 2 12 [.ref 0, .int (S.2 (o + 1)), .int (S.2 (o + 2)), .ref 212] M (.inl (some (.int kk))) M1) (h2 : EvR l jX7_reached 4 160 0 0 [.ref 198, .int (S.2 (o + 1)), .int (S.2 (o + 2))] M1 (.inl (some (.int b))) M2) (kont : mS M2 = S → Go l jL_law 14 538 601024 7293034 Q 2752 (AL o) [] k n M2) : Go l jL_law 14 538 601024 7293034 Q 1009 (AL o) [] (k + 2) (n + 12) M := by
  refine g_aload_n (pc := 1009) dL_law_1009 rfl trivial ?_
  refine g_aload_n (pc := 1010) dL_law_1010 rfl isA_0 ?_
  refine g_iload (pc := 1011) dL_law_1011 rfl ?_
  refine g_iconst (pc := 1013) (v := 1) dL_law_1013 rfl ?_
  refine g_iadd (pc := 1014) dL_law_1014 ?_
  refine g_scriptLoadS (pc := 1015) dL_law_1015 (nI_o1 _) hs (by omega) (by omega) ?_
  refine g_aload_n (pc := 1016) dL_law_1016 rfl isA_0 ?_
  refine g_iload (pc := 1017) dL_law_1017 rfl ?_
  refine g_iconst (pc := 1019) (v := 2) dL_law_1019 rfl ?_
  refine g_iadd (pc := 1020) dL_law_1020 ?_
  refine g_scriptLoadS (pc := 1021) dL_law_1021 (nI_o2 _) hs (by omega) (by omega) ?_
  refine g_aload_n (pc := 1022) dL_law_1022 rfl trivial ?_
  refine g_invSX_s (pc := 1023) (As := [_, _, _, _]) dL_law_1023 rfl (h1) rfl rfl lk_L_258 rfl (nb rfl) ⟨nb rfl, nb rfl⟩ rfl (fun e1 => ?_)
  have e1 := e1.trans hs
  refine g_istore (pc := 1026) (lv' := [(0, _), (1, _), (2, _), (3, _), (4, _), (5, _), (6, _)]) dL_law_1026 (nl rfl) rfl ?_
  refine g_aload_n (pc := 1028) dL_law_1028 rfl trivial ?_
  refine g_aload_n (pc := 1029) dL_law_1029 rfl isA_0 ?_
  refine g_iload (pc := 1030) dL_law_1030 rfl ?_
  refine g_iconst (pc := 1032) (v := 1) dL_law_1032 rfl ?_
  refine g_iadd (pc := 1033) dL_law_1033 ?_
  refine g_scriptLoadS (pc := 1034) dL_law_1034 (nI_o1 _) e1 (by omega) (by omega) ?_
  refine g_aload_n (pc := 1035) dL_law_1035 rfl isA_0 ?_
  refine g_iload (pc := 1036) dL_law_1036 rfl ?_
  refine g_iconst (pc := 1038) (v := 2) dL_law_1038 rfl ?_
  refine g_iadd (pc := 1039) dL_law_1039 ?_
  refine g_scriptLoadS (pc := 1040) dL_law_1040 (nI_o2 _) e1 (by omega) (by omega) ?_
  refine g_invV_s (pc := 1041) (As := [_, _]) dL_law_1041 rfl (h2) rfl rfl (shK hM1 rfl) rfl rfl lk_L_260 rfl (nb rfl) ⟨nb rfl, nb rfl⟩ rfl (fun e2 => ?_)
  have e2 := e2.trans e1
  refine g_istore (pc := 1044) (lv' := [(0, _), (1, _), (2, _), (3, _), (4, _), (5, _), (6, _), (7, _)]) dL_law_1044 (nl rfl) rfl ?_
  refine g_goto (pc := 1046) (tgt := 2752) dL_law_1046 rfl ?_
  exact g_sub (lv' := AL o) ⟨rfl, rfl, rfl, rfl, rfl, rfl, trivial⟩ (kont e2)
set_option maxRecDepth 4000 in
theorem lc_20 {kk : Int32} {b : Int32} (hs : mS M = S) (ho : o + 5 ≤ S.1) (hS9 : S.1 < 2147483648) (hM : Shp M) (hM1 : Shp M1) (hM2 : Shp M2) (h1 : EvR l jL_pairs 8 141 1 6 [.ref 0, .int (S.2 (o + 1)), .ref 212] M (.inl (some (.int kk))) M1) (h2 : EvR l jX7_pairs 4 160 0 0 [.ref 198, .int (S.2 (o + 1))] M1 (.inl (some (.int b))) M2) (kont : mS M2 = S → Go l jL_law 14 538 601024 7293034 Q 2752 (AL o) [] k n M2) : Go l jL_law 14 538 601024 7293034 Q 1049 (AL o) [] (k + 1) (n + 6) M := by
  refine g_aload_n (pc := 1049) dL_law_1049 rfl trivial ?_
  refine g_aload_n (pc := 1050) dL_law_1050 rfl isA_0 ?_
  refine g_iload (pc := 1051) dL_law_1051 rfl ?_
  refine g_iconst (pc := 1053) (v := 1) dL_law_1053 rfl ?_
  refine g_iadd (pc := 1054) dL_law_1054 ?_
  refine g_scriptLoadS (pc := 1055) dL_law_1055 (nI_o1 _) hs (by omega) (by omega) ?_
  refine g_aload_n (pc := 1056) dL_law_1056 rfl trivial ?_
  refine g_invSX_s (pc := 1057) (As := [_, _, _]) dL_law_1057 rfl (h1) rfl rfl lk_L_261 rfl (nb rfl) ⟨nb rfl, nb rfl⟩ rfl (fun e1 => ?_)
  have e1 := e1.trans hs
  refine g_istore (pc := 1060) (lv' := [(0, _), (1, _), (2, _), (3, _), (4, _), (5, _), (6, _)]) dL_law_1060 (nl rfl) rfl ?_
  refine g_aload_n (pc := 1062) dL_law_1062 rfl trivial ?_
  refine g_aload_n (pc := 1063) dL_law_1063 rfl isA_0 ?_
  refine g_iload (pc := 1064) dL_law_1064 rfl ?_
  refine g_iconst (pc := 1066) (v := 1) dL_law_1066 rfl ?_
  refine g_iadd (pc := 1067) dL_law_1067 ?_
  refine g_scriptLoadS (pc := 1068) dL_law_1068 (nI_o1 _) e1 (by omega) (by omega) ?_
  refine g_invV_s (pc := 1069) (As := [_]) dL_law_1069 rfl (h2) rfl rfl (shK hM1 rfl) rfl rfl lk_L_263 rfl (nb rfl) ⟨nb rfl, nb rfl⟩ rfl (fun e2 => ?_)
  have e2 := e2.trans e1
  refine g_istore (pc := 1072) (lv' := [(0, _), (1, _), (2, _), (3, _), (4, _), (5, _), (6, _), (7, _)]) dL_law_1072 (nl rfl) rfl ?_
  refine g_goto (pc := 1074) (tgt := 2752) dL_law_1074 rfl ?_
  exact g_sub (lv' := AL o) ⟨rfl, rfl, rfl, rfl, rfl, rfl, trivial⟩ (kont e2)
set_option maxRecDepth 4000 in
theorem lc_21 {kk : Int32} {b : UInt32} (hs : mS M = S) (ho : o + 5 ≤ S.1) (hS9 : S.1 < 2147483648) (hM : Shp M) (hM1 : Shp M1) (hM2 : Shp M2) (h1 : EvR l jL_meanReach 9 171 1 6 [.ref 0, .int (S.2 (o + 1)), .ref 213] M (.inl (some (.int kk))) M1) (h2 : EvR l jX7_meanReach 4 160 0 0 [.ref 198, .int (S.2 (o + 1))] M1 (.inl (some (.float b))) M2) (kont : mS M2 = S → Go l jL_law 14 538 601024 7293034 Q 2752 (AL o) [] k n M2) : Go l jL_law 14 538 601024 7293034 Q 1077 (AL o) [] (k + 1) (n + 6) M := by
  refine g_aload_n (pc := 1077) dL_law_1077 rfl trivial ?_
  refine g_aload_n (pc := 1078) dL_law_1078 rfl isA_0 ?_
  refine g_iload (pc := 1079) dL_law_1079 rfl ?_
  refine g_iconst (pc := 1081) (v := 1) dL_law_1081 rfl ?_
  refine g_iadd (pc := 1082) dL_law_1082 ?_
  refine g_scriptLoadS (pc := 1083) dL_law_1083 (nI_o1 _) hs (by omega) (by omega) ?_
  refine g_aload (pc := 1084) dL_law_1084 rfl trivial ?_
  refine g_invSX_s (pc := 1086) (As := [_, _, _]) dL_law_1086 rfl (h1) rfl rfl lk_L_264 rfl (nb rfl) ⟨nb rfl, nb rfl⟩ rfl (fun e1 => ?_)
  have e1 := e1.trans hs
  refine g_istore (pc := 1089) (lv' := [(0, _), (1, _), (2, _), (3, _), (4, _), (5, _), (6, _)]) dL_law_1089 (nl rfl) rfl ?_
  refine g_aload_n (pc := 1091) dL_law_1091 rfl trivial ?_
  refine g_aload_n (pc := 1092) dL_law_1092 rfl isA_0 ?_
  refine g_iload (pc := 1093) dL_law_1093 rfl ?_
  refine g_iconst (pc := 1095) (v := 1) dL_law_1095 rfl ?_
  refine g_iadd (pc := 1096) dL_law_1096 ?_
  refine g_scriptLoadS (pc := 1097) dL_law_1097 (nI_o1 _) e1 (by omega) (by omega) ?_
  refine g_invV_s (pc := 1098) (As := [_]) dL_law_1098 rfl (h2) rfl rfl (shK hM1 rfl) rfl rfl lk_L_266 rfl (nb rfl) ⟨nb rfl, nb rfl⟩ rfl (fun e2 => ?_)
  have e2 := e2.trans e1
  refine g_fstore (pc := 1101) (lv' := [(0, _), (1, _), (2, _), (3, _), (4, _), (5, _), (6, _), (7, _)]) dL_law_1101 (nl rfl) rfl ?_
  refine g_goto (pc := 1103) (tgt := 2752) dL_law_1103 rfl ?_
  exact g_sub (lv' := AL o) ⟨rfl, rfl, rfl, rfl, rfl, rfl, trivial⟩ (kont e2)
set_option maxRecDepth 4000 in
theorem lc_22 {kk : Int32} {b : Int32} (hs : mS M = S) (ho : o + 5 ≤ S.1) (hS9 : S.1 < 2147483648) (hM : Shp M) (hM1 : Shp M1) (hM2 : Shp M2) (h1 : EvR l jL_component 9 162 2 12 [.ref 0, .int (S.2 (o + 1)), .int (S.2 (o + 2)), .ref 212] M (.inl (some (.int kk))) M1) (h2 : EvR l jX7_component 4 160 0 0 [.ref 198, .int (S.2 (o + 1)), .int (S.2 (o + 2))] M1 (.inl (some (.int b))) M2) (kont : mS M2 = S → Go l jL_law 14 538 601024 7293034 Q 2752 (AL o) [] k n M2) : Go l jL_law 14 538 601024 7293034 Q 1106 (AL o) [] (k + 2) (n + 12) M := by
  refine g_aload_n (pc := 1106) dL_law_1106 rfl trivial ?_
  refine g_aload_n (pc := 1107) dL_law_1107 rfl isA_0 ?_
  refine g_iload (pc := 1108) dL_law_1108 rfl ?_
  refine g_iconst (pc := 1110) (v := 1) dL_law_1110 rfl ?_
  refine g_iadd (pc := 1111) dL_law_1111 ?_
  refine g_scriptLoadS (pc := 1112) dL_law_1112 (nI_o1 _) hs (by omega) (by omega) ?_
  refine g_aload_n (pc := 1113) dL_law_1113 rfl isA_0 ?_
  refine g_iload (pc := 1114) dL_law_1114 rfl ?_
  refine g_iconst (pc := 1116) (v := 2) dL_law_1116 rfl ?_
  refine g_iadd (pc := 1117) dL_law_1117 ?_
  refine g_scriptLoadS (pc := 1118) dL_law_1118 (nI_o2 _) hs (by omega) (by omega) ?_
  refine g_aload_n (pc := 1119) dL_law_1119 rfl trivial ?_
  refine g_invSX_s (pc := 1120) (As := [_, _, _, _]) dL_law_1120 rfl (h1) rfl rfl lk_L_267 rfl (nb rfl) ⟨nb rfl, nb rfl⟩ rfl (fun e1 => ?_)
  have e1 := e1.trans hs
  refine g_istore (pc := 1123) (lv' := [(0, _), (1, _), (2, _), (3, _), (4, _), (5, _), (6, _)]) dL_law_1123 (nl rfl) rfl ?_
  refine g_aload_n (pc := 1125) dL_law_1125 rfl trivial ?_
  refine g_aload_n (pc := 1126) dL_law_1126 rfl isA_0 ?_
  refine g_iload (pc := 1127) dL_law_1127 rfl ?_
  refine g_iconst (pc := 1129) (v := 1) dL_law_1129 rfl ?_
  refine g_iadd (pc := 1130) dL_law_1130 ?_
  refine g_scriptLoadS (pc := 1131) dL_law_1131 (nI_o1 _) e1 (by omega) (by omega) ?_
  refine g_aload_n (pc := 1132) dL_law_1132 rfl isA_0 ?_
  refine g_iload (pc := 1133) dL_law_1133 rfl ?_
  refine g_iconst (pc := 1135) (v := 2) dL_law_1135 rfl ?_
  refine g_iadd (pc := 1136) dL_law_1136 ?_
  refine g_scriptLoadS (pc := 1137) dL_law_1137 (nI_o2 _) e1 (by omega) (by omega) ?_
  refine g_invV_s (pc := 1138) (As := [_, _]) dL_law_1138 rfl (h2) rfl rfl (shK hM1 rfl) rfl rfl lk_L_269 rfl (nb rfl) ⟨nb rfl, nb rfl⟩ rfl (fun e2 => ?_)
  have e2 := e2.trans e1
  refine g_istore (pc := 1141) (lv' := [(0, _), (1, _), (2, _), (3, _), (4, _), (5, _), (6, _), (7, _)]) dL_law_1141 (nl rfl) rfl ?_
  refine g_goto (pc := 1143) (tgt := 2752) dL_law_1143 rfl ?_
  exact g_sub (lv' := AL o) ⟨rfl, rfl, rfl, rfl, rfl, rfl, trivial⟩ (kont e2)
set_option maxRecDepth 4000 in
theorem lc_23 {kk : Int32} {b : Int32} (hs : mS M = S) (ho : o + 5 ≤ S.1) (hS9 : S.1 < 2147483648) (hM : Shp M) (hM1 : Shp M1) (hM2 : Shp M2) (h1 : EvR l jL_components 8 144 1 6 [.ref 0, .int (S.2 (o + 1)), .ref 212] M (.inl (some (.int kk))) M1) (h2 : EvR l jX7_components 4 160 0 0 [.ref 198, .int (S.2 (o + 1))] M1 (.inl (some (.int b))) M2) (kont : mS M2 = S → Go l jL_law 14 538 601024 7293034 Q 2752 (AL o) [] k n M2) : Go l jL_law 14 538 601024 7293034 Q 1146 (AL o) [] (k + 1) (n + 6) M := by
  refine g_aload_n (pc := 1146) dL_law_1146 rfl trivial ?_
  refine g_aload_n (pc := 1147) dL_law_1147 rfl isA_0 ?_
  refine g_iload (pc := 1148) dL_law_1148 rfl ?_
  refine g_iconst (pc := 1150) (v := 1) dL_law_1150 rfl ?_
  refine g_iadd (pc := 1151) dL_law_1151 ?_
  refine g_scriptLoadS (pc := 1152) dL_law_1152 (nI_o1 _) hs (by omega) (by omega) ?_
  refine g_aload_n (pc := 1153) dL_law_1153 rfl trivial ?_
  refine g_invSX_s (pc := 1154) (As := [_, _, _]) dL_law_1154 rfl (h1) rfl rfl lk_L_270 rfl (nb rfl) ⟨nb rfl, nb rfl⟩ rfl (fun e1 => ?_)
  have e1 := e1.trans hs
  refine g_istore (pc := 1157) (lv' := [(0, _), (1, _), (2, _), (3, _), (4, _), (5, _), (6, _)]) dL_law_1157 (nl rfl) rfl ?_
  refine g_aload_n (pc := 1159) dL_law_1159 rfl trivial ?_
  refine g_aload_n (pc := 1160) dL_law_1160 rfl isA_0 ?_
  refine g_iload (pc := 1161) dL_law_1161 rfl ?_
  refine g_iconst (pc := 1163) (v := 1) dL_law_1163 rfl ?_
  refine g_iadd (pc := 1164) dL_law_1164 ?_
  refine g_scriptLoadS (pc := 1165) dL_law_1165 (nI_o1 _) e1 (by omega) (by omega) ?_
  refine g_invV_s (pc := 1166) (As := [_]) dL_law_1166 rfl (h2) rfl rfl (shK hM1 rfl) rfl rfl lk_L_272 rfl (nb rfl) ⟨nb rfl, nb rfl⟩ rfl (fun e2 => ?_)
  have e2 := e2.trans e1
  refine g_istore (pc := 1169) (lv' := [(0, _), (1, _), (2, _), (3, _), (4, _), (5, _), (6, _), (7, _)]) dL_law_1169 (nl rfl) rfl ?_
  refine g_goto (pc := 1171) (tgt := 2752) dL_law_1171 rfl ?_
  exact g_sub (lv' := AL o) ⟨rfl, rfl, rfl, rfl, rfl, rfl, trivial⟩ (kont e2)
set_option maxRecDepth 4000 in
theorem lc_24 {kk : Int32} {b : Int32} (hs : mS M = S) (ho : o + 5 ≤ S.1) (hS9 : S.1 < 2147483648) (hM : Shp M) (hM1 : Shp M1) (hM2 : Shp M2) (h1 : EvR l jL_distance 10 183 3 18 [.ref 0, .int (S.2 (o + 1)), .int (S.2 (o + 2)), .int (S.2 (o + 3)), .ref 212] M (.inl (some (.int kk))) M1) (h2 : EvR l jX7_distance 4 160 0 0 [.ref 198, .int (S.2 (o + 1)), .int (S.2 (o + 2)), .int (S.2 (o + 3))] M1 (.inl (some (.int b))) M2) (kont : mS M2 = S → Go l jL_law 14 538 601024 7293034 Q 2752 (AL o) [] k n M2) : Go l jL_law 14 538 601024 7293034 Q 1174 (AL o) [] (k + 3) (n + 18) M := by
  refine g_aload_n (pc := 1174) dL_law_1174 rfl trivial ?_
  refine g_aload_n (pc := 1175) dL_law_1175 rfl isA_0 ?_
  refine g_iload (pc := 1176) dL_law_1176 rfl ?_
  refine g_iconst (pc := 1178) (v := 1) dL_law_1178 rfl ?_
  refine g_iadd (pc := 1179) dL_law_1179 ?_
  refine g_scriptLoadS (pc := 1180) dL_law_1180 (nI_o1 _) hs (by omega) (by omega) ?_
  refine g_aload_n (pc := 1181) dL_law_1181 rfl isA_0 ?_
  refine g_iload (pc := 1182) dL_law_1182 rfl ?_
  refine g_iconst (pc := 1184) (v := 2) dL_law_1184 rfl ?_
  refine g_iadd (pc := 1185) dL_law_1185 ?_
  refine g_scriptLoadS (pc := 1186) dL_law_1186 (nI_o2 _) hs (by omega) (by omega) ?_
  refine g_aload_n (pc := 1187) dL_law_1187 rfl isA_0 ?_
  refine g_iload (pc := 1188) dL_law_1188 rfl ?_
  refine g_iconst (pc := 1190) (v := 3) dL_law_1190 rfl ?_
  refine g_iadd (pc := 1191) dL_law_1191 ?_
  refine g_scriptLoadS (pc := 1192) dL_law_1192 (nI_o3 _) hs (by omega) (by omega) ?_
  refine g_aload_n (pc := 1193) dL_law_1193 rfl trivial ?_
  refine g_invSX_s (pc := 1194) (As := [_, _, _, _, _]) dL_law_1194 rfl (h1) rfl rfl lk_L_273 rfl (nb rfl) ⟨nb rfl, nb rfl⟩ rfl (fun e1 => ?_)
  have e1 := e1.trans hs
  refine g_istore (pc := 1197) (lv' := [(0, _), (1, _), (2, _), (3, _), (4, _), (5, _), (6, _)]) dL_law_1197 (nl rfl) rfl ?_
  refine g_aload_n (pc := 1199) dL_law_1199 rfl trivial ?_
  refine g_aload_n (pc := 1200) dL_law_1200 rfl isA_0 ?_
  refine g_iload (pc := 1201) dL_law_1201 rfl ?_
  refine g_iconst (pc := 1203) (v := 1) dL_law_1203 rfl ?_
  refine g_iadd (pc := 1204) dL_law_1204 ?_
  refine g_scriptLoadS (pc := 1205) dL_law_1205 (nI_o1 _) e1 (by omega) (by omega) ?_
  refine g_aload_n (pc := 1206) dL_law_1206 rfl isA_0 ?_
  refine g_iload (pc := 1207) dL_law_1207 rfl ?_
  refine g_iconst (pc := 1209) (v := 2) dL_law_1209 rfl ?_
  refine g_iadd (pc := 1210) dL_law_1210 ?_
  refine g_scriptLoadS (pc := 1211) dL_law_1211 (nI_o2 _) e1 (by omega) (by omega) ?_
  refine g_aload_n (pc := 1212) dL_law_1212 rfl isA_0 ?_
  refine g_iload (pc := 1213) dL_law_1213 rfl ?_
  refine g_iconst (pc := 1215) (v := 3) dL_law_1215 rfl ?_
  refine g_iadd (pc := 1216) dL_law_1216 ?_
  refine g_scriptLoadS (pc := 1217) dL_law_1217 (nI_o3 _) e1 (by omega) (by omega) ?_
  refine g_invV_s (pc := 1218) (As := [_, _, _]) dL_law_1218 rfl (h2) rfl rfl (shK hM1 rfl) rfl rfl lk_L_275 rfl (nb rfl) ⟨nb rfl, nb rfl⟩ rfl (fun e2 => ?_)
  have e2 := e2.trans e1
  refine g_istore (pc := 1221) (lv' := [(0, _), (1, _), (2, _), (3, _), (4, _), (5, _), (6, _), (7, _)]) dL_law_1221 (nl rfl) rfl ?_
  refine g_goto (pc := 1223) (tgt := 2752) dL_law_1223 rfl ?_
  exact g_sub (lv' := AL o) ⟨rfl, rfl, rfl, rfl, rfl, rfl, trivial⟩ (kont e2)
set_option maxRecDepth 4000 in
theorem lc_25 {kk : Int32} {b : Int32} (hs : mS M = S) (ho : o + 5 ≤ S.1) (hS9 : S.1 < 2147483648) (hM : Shp M) (hM1 : Shp M1) (hM2 : Shp M2) (h1 : EvR l jL_stepAt 11 218 3 18 [.ref 0, .int (S.2 (o + 1)), .int (S.2 (o + 2)), .int (S.2 (o + 3)), .int (S.2 (o + 4)), .ref 212] M (.inl (some (.int kk))) M1) (h2 : EvR l jX7_stepAt 4 160 0 0 [.ref 198, .int (S.2 (o + 1)), .int (S.2 (o + 2)), .int (S.2 (o + 3)), .int (S.2 (o + 4))] M1 (.inl (some (.int b))) M2) (kont : mS M2 = S → Go l jL_law 14 538 601024 7293034 Q 2752 (AL o) [] k n M2) : Go l jL_law 14 538 601024 7293034 Q 1226 (AL o) [] (k + 3) (n + 18) M := by
  refine g_aload_n (pc := 1226) dL_law_1226 rfl trivial ?_
  refine g_aload_n (pc := 1227) dL_law_1227 rfl isA_0 ?_
  refine g_iload (pc := 1228) dL_law_1228 rfl ?_
  refine g_iconst (pc := 1230) (v := 1) dL_law_1230 rfl ?_
  refine g_iadd (pc := 1231) dL_law_1231 ?_
  refine g_scriptLoadS (pc := 1232) dL_law_1232 (nI_o1 _) hs (by omega) (by omega) ?_
  refine g_aload_n (pc := 1233) dL_law_1233 rfl isA_0 ?_
  refine g_iload (pc := 1234) dL_law_1234 rfl ?_
  refine g_iconst (pc := 1236) (v := 2) dL_law_1236 rfl ?_
  refine g_iadd (pc := 1237) dL_law_1237 ?_
  refine g_scriptLoadS (pc := 1238) dL_law_1238 (nI_o2 _) hs (by omega) (by omega) ?_
  refine g_aload_n (pc := 1239) dL_law_1239 rfl isA_0 ?_
  refine g_iload (pc := 1240) dL_law_1240 rfl ?_
  refine g_iconst (pc := 1242) (v := 3) dL_law_1242 rfl ?_
  refine g_iadd (pc := 1243) dL_law_1243 ?_
  refine g_scriptLoadS (pc := 1244) dL_law_1244 (nI_o3 _) hs (by omega) (by omega) ?_
  refine g_aload_n (pc := 1245) dL_law_1245 rfl isA_0 ?_
  refine g_iload (pc := 1246) dL_law_1246 rfl ?_
  refine g_iconst (pc := 1248) (v := 4) dL_law_1248 rfl ?_
  refine g_iadd (pc := 1249) dL_law_1249 ?_
  refine g_scriptLoadS (pc := 1250) dL_law_1250 (nI_o4 _) hs (by omega) (by omega) ?_
  refine g_aload_n (pc := 1251) dL_law_1251 rfl trivial ?_
  refine g_invSX_s (pc := 1252) (As := [_, _, _, _, _, _]) dL_law_1252 rfl (h1) rfl rfl lk_L_276 rfl (nb rfl) ⟨nb rfl, nb rfl⟩ rfl (fun e1 => ?_)
  have e1 := e1.trans hs
  refine g_istore (pc := 1255) (lv' := [(0, _), (1, _), (2, _), (3, _), (4, _), (5, _), (6, _)]) dL_law_1255 (nl rfl) rfl ?_
  refine g_aload_n (pc := 1257) dL_law_1257 rfl trivial ?_
  refine g_aload_n (pc := 1258) dL_law_1258 rfl isA_0 ?_
  refine g_iload (pc := 1259) dL_law_1259 rfl ?_
  refine g_iconst (pc := 1261) (v := 1) dL_law_1261 rfl ?_
  refine g_iadd (pc := 1262) dL_law_1262 ?_
  refine g_scriptLoadS (pc := 1263) dL_law_1263 (nI_o1 _) e1 (by omega) (by omega) ?_
  refine g_aload_n (pc := 1264) dL_law_1264 rfl isA_0 ?_
  refine g_iload (pc := 1265) dL_law_1265 rfl ?_
  refine g_iconst (pc := 1267) (v := 2) dL_law_1267 rfl ?_
  refine g_iadd (pc := 1268) dL_law_1268 ?_
  refine g_scriptLoadS (pc := 1269) dL_law_1269 (nI_o2 _) e1 (by omega) (by omega) ?_
  refine g_aload_n (pc := 1270) dL_law_1270 rfl isA_0 ?_
  refine g_iload (pc := 1271) dL_law_1271 rfl ?_
  refine g_iconst (pc := 1273) (v := 3) dL_law_1273 rfl ?_
  refine g_iadd (pc := 1274) dL_law_1274 ?_
  refine g_scriptLoadS (pc := 1275) dL_law_1275 (nI_o3 _) e1 (by omega) (by omega) ?_
  refine g_aload_n (pc := 1276) dL_law_1276 rfl isA_0 ?_
  refine g_iload (pc := 1277) dL_law_1277 rfl ?_
  refine g_iconst (pc := 1279) (v := 4) dL_law_1279 rfl ?_
  refine g_iadd (pc := 1280) dL_law_1280 ?_
  refine g_scriptLoadS (pc := 1281) dL_law_1281 (nI_o4 _) e1 (by omega) (by omega) ?_
  refine g_invV_s (pc := 1282) (As := [_, _, _, _]) dL_law_1282 rfl (h2) rfl rfl (shK hM1 rfl) rfl rfl lk_L_279 rfl (nb rfl) ⟨nb rfl, nb rfl⟩ rfl (fun e2 => ?_)
  have e2 := e2.trans e1
  refine g_istore (pc := 1285) (lv' := [(0, _), (1, _), (2, _), (3, _), (4, _), (5, _), (6, _), (7, _)]) dL_law_1285 (nl rfl) rfl ?_
  refine g_goto (pc := 1287) (tgt := 2752) dL_law_1287 rfl ?_
  exact g_sub (lv' := AL o) ⟨rfl, rfl, rfl, rfl, rfl, rfl, trivial⟩ (kont e2)
set_option maxRecDepth 4000 in
theorem lc_26 {kk : Int32} {b : Int32} (hs : mS M = S) (ho : o + 5 ≤ S.1) (hS9 : S.1 < 2147483648) (hM : Shp M) (hM1 : Shp M1) (hM2 : Shp M2) (h1 : EvR l jL_around 9 162 2 12 [.ref 0, .int (S.2 (o + 1)), .int (S.2 (o + 2)), .ref 212] M (.inl (some (.int kk))) M1) (h2 : EvR l jX7_around 4 160 0 0 [.ref 198, .int (S.2 (o + 1)), .int (S.2 (o + 2))] M1 (.inl (some (.int b))) M2) (kont : mS M2 = S → Go l jL_law 14 538 601024 7293034 Q 2752 (AL o) [] k n M2) : Go l jL_law 14 538 601024 7293034 Q 1290 (AL o) [] (k + 2) (n + 12) M := by
  refine g_aload_n (pc := 1290) dL_law_1290 rfl trivial ?_
  refine g_aload_n (pc := 1291) dL_law_1291 rfl isA_0 ?_
  refine g_iload (pc := 1292) dL_law_1292 rfl ?_
  refine g_iconst (pc := 1294) (v := 1) dL_law_1294 rfl ?_
  refine g_iadd (pc := 1295) dL_law_1295 ?_
  refine g_scriptLoadS (pc := 1296) dL_law_1296 (nI_o1 _) hs (by omega) (by omega) ?_
  refine g_aload_n (pc := 1297) dL_law_1297 rfl isA_0 ?_
  refine g_iload (pc := 1298) dL_law_1298 rfl ?_
  refine g_iconst (pc := 1300) (v := 2) dL_law_1300 rfl ?_
  refine g_iadd (pc := 1301) dL_law_1301 ?_
  refine g_scriptLoadS (pc := 1302) dL_law_1302 (nI_o2 _) hs (by omega) (by omega) ?_
  refine g_aload_n (pc := 1303) dL_law_1303 rfl trivial ?_
  refine g_invSX_s (pc := 1304) (As := [_, _, _, _]) dL_law_1304 rfl (h1) rfl rfl lk_L_280 rfl (nb rfl) ⟨nb rfl, nb rfl⟩ rfl (fun e1 => ?_)
  have e1 := e1.trans hs
  refine g_istore (pc := 1307) (lv' := [(0, _), (1, _), (2, _), (3, _), (4, _), (5, _), (6, _)]) dL_law_1307 (nl rfl) rfl ?_
  refine g_aload_n (pc := 1309) dL_law_1309 rfl trivial ?_
  refine g_aload_n (pc := 1310) dL_law_1310 rfl isA_0 ?_
  refine g_iload (pc := 1311) dL_law_1311 rfl ?_
  refine g_iconst (pc := 1313) (v := 1) dL_law_1313 rfl ?_
  refine g_iadd (pc := 1314) dL_law_1314 ?_
  refine g_scriptLoadS (pc := 1315) dL_law_1315 (nI_o1 _) e1 (by omega) (by omega) ?_
  refine g_aload_n (pc := 1316) dL_law_1316 rfl isA_0 ?_
  refine g_iload (pc := 1317) dL_law_1317 rfl ?_
  refine g_iconst (pc := 1319) (v := 2) dL_law_1319 rfl ?_
  refine g_iadd (pc := 1320) dL_law_1320 ?_
  refine g_scriptLoadS (pc := 1321) dL_law_1321 (nI_o2 _) e1 (by omega) (by omega) ?_
  refine g_invV_s (pc := 1322) (As := [_, _]) dL_law_1322 rfl (h2) rfl rfl (shK hM1 rfl) rfl rfl lk_L_282 rfl (nb rfl) ⟨nb rfl, nb rfl⟩ rfl (fun e2 => ?_)
  have e2 := e2.trans e1
  refine g_istore (pc := 1325) (lv' := [(0, _), (1, _), (2, _), (3, _), (4, _), (5, _), (6, _), (7, _)]) dL_law_1325 (nl rfl) rfl ?_
  refine g_goto (pc := 1327) (tgt := 2752) dL_law_1327 rfl ?_
  exact g_sub (lv' := AL o) ⟨rfl, rfl, rfl, rfl, rfl, rfl, trivial⟩ (kont e2)
set_option maxRecDepth 4000 in
theorem lc_27 {kk : Int32} {b : Int32} (hs : mS M = S) (ho : o + 5 ≤ S.1) (hS9 : S.1 < 2147483648) (hM : Shp M) (hM1 : Shp M1) (hM2 : Shp M2) (h1 : EvR l jL_girth 8 144 1 6 [.ref 0, .int (S.2 (o + 1)), .ref 212] M (.inl (some (.int kk))) M1) (h2 : EvR l jX7_girth 4 160 0 0 [.ref 198, .int (S.2 (o + 1))] M1 (.inl (some (.int b))) M2) (kont : mS M2 = S → Go l jL_law 14 538 601024 7293034 Q 2752 (AL o) [] k n M2) : Go l jL_law 14 538 601024 7293034 Q 1330 (AL o) [] (k + 1) (n + 6) M := by
  refine g_aload_n (pc := 1330) dL_law_1330 rfl trivial ?_
  refine g_aload_n (pc := 1331) dL_law_1331 rfl isA_0 ?_
  refine g_iload (pc := 1332) dL_law_1332 rfl ?_
  refine g_iconst (pc := 1334) (v := 1) dL_law_1334 rfl ?_
  refine g_iadd (pc := 1335) dL_law_1335 ?_
  refine g_scriptLoadS (pc := 1336) dL_law_1336 (nI_o1 _) hs (by omega) (by omega) ?_
  refine g_aload_n (pc := 1337) dL_law_1337 rfl trivial ?_
  refine g_invSX_s (pc := 1338) (As := [_, _, _]) dL_law_1338 rfl (h1) rfl rfl lk_L_283 rfl (nb rfl) ⟨nb rfl, nb rfl⟩ rfl (fun e1 => ?_)
  have e1 := e1.trans hs
  refine g_istore (pc := 1341) (lv' := [(0, _), (1, _), (2, _), (3, _), (4, _), (5, _), (6, _)]) dL_law_1341 (nl rfl) rfl ?_
  refine g_aload_n (pc := 1343) dL_law_1343 rfl trivial ?_
  refine g_aload_n (pc := 1344) dL_law_1344 rfl isA_0 ?_
  refine g_iload (pc := 1345) dL_law_1345 rfl ?_
  refine g_iconst (pc := 1347) (v := 1) dL_law_1347 rfl ?_
  refine g_iadd (pc := 1348) dL_law_1348 ?_
  refine g_scriptLoadS (pc := 1349) dL_law_1349 (nI_o1 _) e1 (by omega) (by omega) ?_
  refine g_invV_s (pc := 1350) (As := [_]) dL_law_1350 rfl (h2) rfl rfl (shK hM1 rfl) rfl rfl lk_L_285 rfl (nb rfl) ⟨nb rfl, nb rfl⟩ rfl (fun e2 => ?_)
  have e2 := e2.trans e1
  refine g_istore (pc := 1353) (lv' := [(0, _), (1, _), (2, _), (3, _), (4, _), (5, _), (6, _), (7, _)]) dL_law_1353 (nl rfl) rfl ?_
  refine g_goto (pc := 1355) (tgt := 2752) dL_law_1355 rfl ?_
  exact g_sub (lv' := AL o) ⟨rfl, rfl, rfl, rfl, rfl, rfl, trivial⟩ (kont e2)
set_option maxRecDepth 4000 in
theorem lc_28 {kk : Int32} {b : Int32} (hs : mS M = S) (ho : o + 5 ≤ S.1) (hS9 : S.1 < 2147483648) (hM : Shp M) (hM1 : Shp M1) (hM2 : Shp M2) (h1 : EvR l jL_order 8 146 1 6 [.ref 0, .int (S.2 (o + 1)), .int (S.2 (o + 2)), .ref 212] M (.inl (some (.int kk))) M1) (h2 : EvR l jX7_order 4 160 0 0 [.ref 198, .int (S.2 (o + 1)), .int (S.2 (o + 2))] M1 (.inl (some (.int b))) M2) (kont : mS M2 = S → Go l jL_law 14 538 601024 7293034 Q 2752 (AL o) [] k n M2) : Go l jL_law 14 538 601024 7293034 Q 1358 (AL o) [] (k + 1) (n + 6) M := by
  refine g_aload_n (pc := 1358) dL_law_1358 rfl trivial ?_
  refine g_aload_n (pc := 1359) dL_law_1359 rfl isA_0 ?_
  refine g_iload (pc := 1360) dL_law_1360 rfl ?_
  refine g_iconst (pc := 1362) (v := 1) dL_law_1362 rfl ?_
  refine g_iadd (pc := 1363) dL_law_1363 ?_
  refine g_scriptLoadS (pc := 1364) dL_law_1364 (nI_o1 _) hs (by omega) (by omega) ?_
  refine g_aload_n (pc := 1365) dL_law_1365 rfl isA_0 ?_
  refine g_iload (pc := 1366) dL_law_1366 rfl ?_
  refine g_iconst (pc := 1368) (v := 2) dL_law_1368 rfl ?_
  refine g_iadd (pc := 1369) dL_law_1369 ?_
  refine g_scriptLoadS (pc := 1370) dL_law_1370 (nI_o2 _) hs (by omega) (by omega) ?_
  refine g_aload_n (pc := 1371) dL_law_1371 rfl trivial ?_
  refine g_invSX_s (pc := 1372) (As := [_, _, _, _]) dL_law_1372 rfl (h1) rfl rfl lk_L_286 rfl (nb rfl) ⟨nb rfl, nb rfl⟩ rfl (fun e1 => ?_)
  have e1 := e1.trans hs
  refine g_istore (pc := 1375) (lv' := [(0, _), (1, _), (2, _), (3, _), (4, _), (5, _), (6, _)]) dL_law_1375 (nl rfl) rfl ?_
  refine g_aload_n (pc := 1377) dL_law_1377 rfl trivial ?_
  refine g_aload_n (pc := 1378) dL_law_1378 rfl isA_0 ?_
  refine g_iload (pc := 1379) dL_law_1379 rfl ?_
  refine g_iconst (pc := 1381) (v := 1) dL_law_1381 rfl ?_
  refine g_iadd (pc := 1382) dL_law_1382 ?_
  refine g_scriptLoadS (pc := 1383) dL_law_1383 (nI_o1 _) e1 (by omega) (by omega) ?_
  refine g_aload_n (pc := 1384) dL_law_1384 rfl isA_0 ?_
  refine g_iload (pc := 1385) dL_law_1385 rfl ?_
  refine g_iconst (pc := 1387) (v := 2) dL_law_1387 rfl ?_
  refine g_iadd (pc := 1388) dL_law_1388 ?_
  refine g_scriptLoadS (pc := 1389) dL_law_1389 (nI_o2 _) e1 (by omega) (by omega) ?_
  refine g_invV_s (pc := 1390) (As := [_, _]) dL_law_1390 rfl (h2) rfl rfl (shK hM1 rfl) rfl rfl lk_L_288 rfl (nb rfl) ⟨nb rfl, nb rfl⟩ rfl (fun e2 => ?_)
  have e2 := e2.trans e1
  refine g_istore (pc := 1393) (lv' := [(0, _), (1, _), (2, _), (3, _), (4, _), (5, _), (6, _), (7, _)]) dL_law_1393 (nl rfl) rfl ?_
  refine g_goto (pc := 1395) (tgt := 2752) dL_law_1395 rfl ?_
  exact g_sub (lv' := AL o) ⟨rfl, rfl, rfl, rfl, rfl, rfl, trivial⟩ (kont e2)
set_option maxRecDepth 4000 in
theorem lc_29 {kk : Int32} {b : Int32} (hs : mS M = S) (ho : o + 5 ≤ S.1) (hS9 : S.1 < 2147483648) (hM : Shp M) (hM1 : Shp M1) (hM2 : Shp M2) (h1 : EvR l jL_gained 10 184 3 18 [.ref 0, .int (S.2 (o + 1)), .int (S.2 (o + 2)), .int (S.2 (o + 3)), .ref 212] M (.inl (some (.int kk))) M1) (h2 : EvR l jX7_gained 4 160 0 0 [.ref 198, .int (S.2 (o + 1)), .int (S.2 (o + 2)), .int (S.2 (o + 3))] M1 (.inl (some (.int b))) M2) (kont : mS M2 = S → Go l jL_law 14 538 601024 7293034 Q 2752 (AL o) [] k n M2) : Go l jL_law 14 538 601024 7293034 Q 1398 (AL o) [] (k + 3) (n + 18) M := by
  refine g_aload_n (pc := 1398) dL_law_1398 rfl trivial ?_
  refine g_aload_n (pc := 1399) dL_law_1399 rfl isA_0 ?_
  refine g_iload (pc := 1400) dL_law_1400 rfl ?_
  refine g_iconst (pc := 1402) (v := 1) dL_law_1402 rfl ?_
  refine g_iadd (pc := 1403) dL_law_1403 ?_
  refine g_scriptLoadS (pc := 1404) dL_law_1404 (nI_o1 _) hs (by omega) (by omega) ?_
  refine g_aload_n (pc := 1405) dL_law_1405 rfl isA_0 ?_
  refine g_iload (pc := 1406) dL_law_1406 rfl ?_
  refine g_iconst (pc := 1408) (v := 2) dL_law_1408 rfl ?_
  refine g_iadd (pc := 1409) dL_law_1409 ?_
  refine g_scriptLoadS (pc := 1410) dL_law_1410 (nI_o2 _) hs (by omega) (by omega) ?_
  refine g_aload_n (pc := 1411) dL_law_1411 rfl isA_0 ?_
  refine g_iload (pc := 1412) dL_law_1412 rfl ?_
  refine g_iconst (pc := 1414) (v := 3) dL_law_1414 rfl ?_
  refine g_iadd (pc := 1415) dL_law_1415 ?_
  refine g_scriptLoadS (pc := 1416) dL_law_1416 (nI_o3 _) hs (by omega) (by omega) ?_
  refine g_aload_n (pc := 1417) dL_law_1417 rfl trivial ?_
  refine g_invSX_s (pc := 1418) (As := [_, _, _, _, _]) dL_law_1418 rfl (h1) rfl rfl lk_L_289 rfl (nb rfl) ⟨nb rfl, nb rfl⟩ rfl (fun e1 => ?_)
  have e1 := e1.trans hs
  refine g_istore (pc := 1421) (lv' := [(0, _), (1, _), (2, _), (3, _), (4, _), (5, _), (6, _)]) dL_law_1421 (nl rfl) rfl ?_
  refine g_aload_n (pc := 1423) dL_law_1423 rfl trivial ?_
  refine g_aload_n (pc := 1424) dL_law_1424 rfl isA_0 ?_
  refine g_iload (pc := 1425) dL_law_1425 rfl ?_
  refine g_iconst (pc := 1427) (v := 1) dL_law_1427 rfl ?_
  refine g_iadd (pc := 1428) dL_law_1428 ?_
  refine g_scriptLoadS (pc := 1429) dL_law_1429 (nI_o1 _) e1 (by omega) (by omega) ?_
  refine g_aload_n (pc := 1430) dL_law_1430 rfl isA_0 ?_
  refine g_iload (pc := 1431) dL_law_1431 rfl ?_
  refine g_iconst (pc := 1433) (v := 2) dL_law_1433 rfl ?_
  refine g_iadd (pc := 1434) dL_law_1434 ?_
  refine g_scriptLoadS (pc := 1435) dL_law_1435 (nI_o2 _) e1 (by omega) (by omega) ?_
  refine g_aload_n (pc := 1436) dL_law_1436 rfl isA_0 ?_
  refine g_iload (pc := 1437) dL_law_1437 rfl ?_
  refine g_iconst (pc := 1439) (v := 3) dL_law_1439 rfl ?_
  refine g_iadd (pc := 1440) dL_law_1440 ?_
  refine g_scriptLoadS (pc := 1441) dL_law_1441 (nI_o3 _) e1 (by omega) (by omega) ?_
  refine g_invV_s (pc := 1442) (As := [_, _, _]) dL_law_1442 rfl (h2) rfl rfl (shK hM1 rfl) rfl rfl lk_L_291 rfl (nb rfl) ⟨nb rfl, nb rfl⟩ rfl (fun e2 => ?_)
  have e2 := e2.trans e1
  refine g_istore (pc := 1445) (lv' := [(0, _), (1, _), (2, _), (3, _), (4, _), (5, _), (6, _), (7, _)]) dL_law_1445 (nl rfl) rfl ?_
  refine g_goto (pc := 1447) (tgt := 2752) dL_law_1447 rfl ?_
  exact g_sub (lv' := AL o) ⟨rfl, rfl, rfl, rfl, rfl, rfl, trivial⟩ (kont e2)
set_option maxRecDepth 4000 in
theorem lc_30 {kk : Int32} {b : Int32} (hs : mS M = S) (ho : o + 5 ≤ S.1) (hS9 : S.1 < 2147483648) (hM : Shp M) (hM1 : Shp M1) (hM2 : Shp M2) (h1 : EvR l jL_lost 10 213 3 18 [.ref 0, .int (S.2 (o + 1)), .int (S.2 (o + 2)), .int (S.2 (o + 3)), .ref 212] M (.inl (some (.int kk))) M1) (h2 : EvR l jX7_lost 4 160 0 0 [.ref 198, .int (S.2 (o + 1)), .int (S.2 (o + 2)), .int (S.2 (o + 3))] M1 (.inl (some (.int b))) M2) (kont : mS M2 = S → Go l jL_law 14 538 601024 7293034 Q 2752 (AL o) [] k n M2) : Go l jL_law 14 538 601024 7293034 Q 1450 (AL o) [] (k + 3) (n + 18) M := by
  refine g_aload_n (pc := 1450) dL_law_1450 rfl trivial ?_
  refine g_aload_n (pc := 1451) dL_law_1451 rfl isA_0 ?_
  refine g_iload (pc := 1452) dL_law_1452 rfl ?_
  refine g_iconst (pc := 1454) (v := 1) dL_law_1454 rfl ?_
  refine g_iadd (pc := 1455) dL_law_1455 ?_
  refine g_scriptLoadS (pc := 1456) dL_law_1456 (nI_o1 _) hs (by omega) (by omega) ?_
  refine g_aload_n (pc := 1457) dL_law_1457 rfl isA_0 ?_
  refine g_iload (pc := 1458) dL_law_1458 rfl ?_
  refine g_iconst (pc := 1460) (v := 2) dL_law_1460 rfl ?_
  refine g_iadd (pc := 1461) dL_law_1461 ?_
  refine g_scriptLoadS (pc := 1462) dL_law_1462 (nI_o2 _) hs (by omega) (by omega) ?_
  refine g_aload_n (pc := 1463) dL_law_1463 rfl isA_0 ?_
  refine g_iload (pc := 1464) dL_law_1464 rfl ?_
  refine g_iconst (pc := 1466) (v := 3) dL_law_1466 rfl ?_
  refine g_iadd (pc := 1467) dL_law_1467 ?_
  refine g_scriptLoadS (pc := 1468) dL_law_1468 (nI_o3 _) hs (by omega) (by omega) ?_
  refine g_aload_n (pc := 1469) dL_law_1469 rfl trivial ?_
  refine g_invSX_s (pc := 1470) (As := [_, _, _, _, _]) dL_law_1470 rfl (h1) rfl rfl lk_L_292 rfl (nb rfl) ⟨nb rfl, nb rfl⟩ rfl (fun e1 => ?_)
  have e1 := e1.trans hs
  refine g_istore (pc := 1473) (lv' := [(0, _), (1, _), (2, _), (3, _), (4, _), (5, _), (6, _)]) dL_law_1473 (nl rfl) rfl ?_
  refine g_aload_n (pc := 1475) dL_law_1475 rfl trivial ?_
  refine g_aload_n (pc := 1476) dL_law_1476 rfl isA_0 ?_
  refine g_iload (pc := 1477) dL_law_1477 rfl ?_
  refine g_iconst (pc := 1479) (v := 1) dL_law_1479 rfl ?_
  refine g_iadd (pc := 1480) dL_law_1480 ?_
  refine g_scriptLoadS (pc := 1481) dL_law_1481 (nI_o1 _) e1 (by omega) (by omega) ?_
  refine g_aload_n (pc := 1482) dL_law_1482 rfl isA_0 ?_
  refine g_iload (pc := 1483) dL_law_1483 rfl ?_
  refine g_iconst (pc := 1485) (v := 2) dL_law_1485 rfl ?_
  refine g_iadd (pc := 1486) dL_law_1486 ?_
  refine g_scriptLoadS (pc := 1487) dL_law_1487 (nI_o2 _) e1 (by omega) (by omega) ?_
  refine g_aload_n (pc := 1488) dL_law_1488 rfl isA_0 ?_
  refine g_iload (pc := 1489) dL_law_1489 rfl ?_
  refine g_iconst (pc := 1491) (v := 3) dL_law_1491 rfl ?_
  refine g_iadd (pc := 1492) dL_law_1492 ?_
  refine g_scriptLoadS (pc := 1493) dL_law_1493 (nI_o3 _) e1 (by omega) (by omega) ?_
  refine g_invV_s (pc := 1494) (As := [_, _, _]) dL_law_1494 rfl (h2) rfl rfl (shK hM1 rfl) rfl rfl lk_L_294 rfl (nb rfl) ⟨nb rfl, nb rfl⟩ rfl (fun e2 => ?_)
  have e2 := e2.trans e1
  refine g_istore (pc := 1497) (lv' := [(0, _), (1, _), (2, _), (3, _), (4, _), (5, _), (6, _), (7, _)]) dL_law_1497 (nl rfl) rfl ?_
  refine g_goto (pc := 1499) (tgt := 2752) dL_law_1499 rfl ?_
  exact g_sub (lv' := AL o) ⟨rfl, rfl, rfl, rfl, rfl, rfl, trivial⟩ (kont e2)
set_option maxRecDepth 4000 in
theorem lc_31 {kk : Int32} {b : Int32} (hs : mS M = S) (ho : o + 5 ≤ S.1) (hS9 : S.1 < 2147483648) (hM : Shp M) (hM1 : Shp M1) (hM2 : Shp M2) (h1 : EvR l jL_bestEdge 8 169 1 6 [.ref 0, .int (S.2 (o + 1)), .ref 212] M (.inl (some (.int kk))) M1) (h2 : EvR l jX7_bestEdge 5 160 0 0 [.ref 198, .int (S.2 (o + 1))] M1 (.inl (some (.int b))) M2) (kont : mS M2 = S → Go l jL_law 14 538 601024 7293034 Q 2752 (AL o) [] k n M2) : Go l jL_law 14 538 601024 7293034 Q 1502 (AL o) [] (k + 1) (n + 6) M := by
  refine g_aload_n (pc := 1502) dL_law_1502 rfl trivial ?_
  refine g_aload_n (pc := 1503) dL_law_1503 rfl isA_0 ?_
  refine g_iload (pc := 1504) dL_law_1504 rfl ?_
  refine g_iconst (pc := 1506) (v := 1) dL_law_1506 rfl ?_
  refine g_iadd (pc := 1507) dL_law_1507 ?_
  refine g_scriptLoadS (pc := 1508) dL_law_1508 (nI_o1 _) hs (by omega) (by omega) ?_
  refine g_aload_n (pc := 1509) dL_law_1509 rfl trivial ?_
  refine g_invSX_s (pc := 1510) (As := [_, _, _]) dL_law_1510 rfl (h1) rfl rfl lk_L_295 rfl (nb rfl) ⟨nb rfl, nb rfl⟩ rfl (fun e1 => ?_)
  have e1 := e1.trans hs
  refine g_istore (pc := 1513) (lv' := [(0, _), (1, _), (2, _), (3, _), (4, _), (5, _), (6, _)]) dL_law_1513 (nl rfl) rfl ?_
  refine g_aload_n (pc := 1515) dL_law_1515 rfl trivial ?_
  refine g_aload_n (pc := 1516) dL_law_1516 rfl isA_0 ?_
  refine g_iload (pc := 1517) dL_law_1517 rfl ?_
  refine g_iconst (pc := 1519) (v := 1) dL_law_1519 rfl ?_
  refine g_iadd (pc := 1520) dL_law_1520 ?_
  refine g_scriptLoadS (pc := 1521) dL_law_1521 (nI_o1 _) e1 (by omega) (by omega) ?_
  refine g_invV_s (pc := 1522) (As := [_]) dL_law_1522 rfl (h2) rfl rfl (shK hM1 rfl) rfl rfl lk_L_297 rfl (nb rfl) ⟨nb rfl, nb rfl⟩ rfl (fun e2 => ?_)
  have e2 := e2.trans e1
  refine g_istore (pc := 1525) (lv' := [(0, _), (1, _), (2, _), (3, _), (4, _), (5, _), (6, _), (7, _)]) dL_law_1525 (nl rfl) rfl ?_
  refine g_goto (pc := 1527) (tgt := 2752) dL_law_1527 rfl ?_
  exact g_sub (lv' := AL o) ⟨rfl, rfl, rfl, rfl, rfl, rfl, trivial⟩ (kont e2)
set_option maxRecDepth 4000 in
theorem lc_32 {kk : Int32} {b : Int32} (hs : mS M = S) (ho : o + 5 ≤ S.1) (hS9 : S.1 < 2147483648) (hM : Shp M) (hM1 : Shp M1) (hM2 : Shp M2) (h1 : EvR l jL_weakest 8 217 1 6 [.ref 0, .int (S.2 (o + 1)), .ref 212] M (.inl (some (.int kk))) M1) (h2 : EvR l jX7_weakest 5 160 0 0 [.ref 198, .int (S.2 (o + 1))] M1 (.inl (some (.int b))) M2) (kont : mS M2 = S → Go l jL_law 14 538 601024 7293034 Q 2752 (AL o) [] k n M2) : Go l jL_law 14 538 601024 7293034 Q 1530 (AL o) [] (k + 1) (n + 6) M := by
  refine g_aload_n (pc := 1530) dL_law_1530 rfl trivial ?_
  refine g_aload_n (pc := 1531) dL_law_1531 rfl isA_0 ?_
  refine g_iload (pc := 1532) dL_law_1532 rfl ?_
  refine g_iconst (pc := 1534) (v := 1) dL_law_1534 rfl ?_
  refine g_iadd (pc := 1535) dL_law_1535 ?_
  refine g_scriptLoadS (pc := 1536) dL_law_1536 (nI_o1 _) hs (by omega) (by omega) ?_
  refine g_aload_n (pc := 1537) dL_law_1537 rfl trivial ?_
  refine g_invSX_s (pc := 1538) (As := [_, _, _]) dL_law_1538 rfl (h1) rfl rfl lk_L_298 rfl (nb rfl) ⟨nb rfl, nb rfl⟩ rfl (fun e1 => ?_)
  have e1 := e1.trans hs
  refine g_istore (pc := 1541) (lv' := [(0, _), (1, _), (2, _), (3, _), (4, _), (5, _), (6, _)]) dL_law_1541 (nl rfl) rfl ?_
  refine g_aload_n (pc := 1543) dL_law_1543 rfl trivial ?_
  refine g_aload_n (pc := 1544) dL_law_1544 rfl isA_0 ?_
  refine g_iload (pc := 1545) dL_law_1545 rfl ?_
  refine g_iconst (pc := 1547) (v := 1) dL_law_1547 rfl ?_
  refine g_iadd (pc := 1548) dL_law_1548 ?_
  refine g_scriptLoadS (pc := 1549) dL_law_1549 (nI_o1 _) e1 (by omega) (by omega) ?_
  refine g_invV_s (pc := 1550) (As := [_]) dL_law_1550 rfl (h2) rfl rfl (shK hM1 rfl) rfl rfl lk_L_300 rfl (nb rfl) ⟨nb rfl, nb rfl⟩ rfl (fun e2 => ?_)
  have e2 := e2.trans e1
  refine g_istore (pc := 1553) (lv' := [(0, _), (1, _), (2, _), (3, _), (4, _), (5, _), (6, _), (7, _)]) dL_law_1553 (nl rfl) rfl ?_
  refine g_goto (pc := 1555) (tgt := 2752) dL_law_1555 rfl ?_
  exact g_sub (lv' := AL o) ⟨rfl, rfl, rfl, rfl, rfl, rfl, trivial⟩ (kont e2)
set_option maxRecDepth 4000 in
theorem lc_33 {kk : Int32} {b : Int32} (hs : mS M = S) (ho : o + 5 ≤ S.1) (hS9 : S.1 < 2147483648) (hM : Shp M) (hM1 : Shp M1) (hM2 : Shp M2) (h1 : EvR l jL_triangles 8 146 1 6 [.ref 0, .int (S.2 (o + 1)), .ref 212] M (.inl (some (.int kk))) M1) (h2 : EvR l jX7_triangles 4 160 0 0 [.ref 198, .int (S.2 (o + 1))] M1 (.inl (some (.int b))) M2) (kont : mS M2 = S → Go l jL_law 14 538 601024 7293034 Q 2752 (AL o) [] k n M2) : Go l jL_law 14 538 601024 7293034 Q 1558 (AL o) [] (k + 1) (n + 6) M := by
  refine g_aload_n (pc := 1558) dL_law_1558 rfl trivial ?_
  refine g_aload_n (pc := 1559) dL_law_1559 rfl isA_0 ?_
  refine g_iload (pc := 1560) dL_law_1560 rfl ?_
  refine g_iconst (pc := 1562) (v := 1) dL_law_1562 rfl ?_
  refine g_iadd (pc := 1563) dL_law_1563 ?_
  refine g_scriptLoadS (pc := 1564) dL_law_1564 (nI_o1 _) hs (by omega) (by omega) ?_
  refine g_aload_n (pc := 1565) dL_law_1565 rfl trivial ?_
  refine g_invSX_s (pc := 1566) (As := [_, _, _]) dL_law_1566 rfl (h1) rfl rfl lk_L_301 rfl (nb rfl) ⟨nb rfl, nb rfl⟩ rfl (fun e1 => ?_)
  have e1 := e1.trans hs
  refine g_istore (pc := 1569) (lv' := [(0, _), (1, _), (2, _), (3, _), (4, _), (5, _), (6, _)]) dL_law_1569 (nl rfl) rfl ?_
  refine g_aload_n (pc := 1571) dL_law_1571 rfl trivial ?_
  refine g_aload_n (pc := 1572) dL_law_1572 rfl isA_0 ?_
  refine g_iload (pc := 1573) dL_law_1573 rfl ?_
  refine g_iconst (pc := 1575) (v := 1) dL_law_1575 rfl ?_
  refine g_iadd (pc := 1576) dL_law_1576 ?_
  refine g_scriptLoadS (pc := 1577) dL_law_1577 (nI_o1 _) e1 (by omega) (by omega) ?_
  refine g_invV_s (pc := 1578) (As := [_]) dL_law_1578 rfl (h2) rfl rfl (shK hM1 rfl) rfl rfl lk_L_303 rfl (nb rfl) ⟨nb rfl, nb rfl⟩ rfl (fun e2 => ?_)
  have e2 := e2.trans e1
  refine g_istore (pc := 1581) (lv' := [(0, _), (1, _), (2, _), (3, _), (4, _), (5, _), (6, _), (7, _)]) dL_law_1581 (nl rfl) rfl ?_
  refine g_goto (pc := 1583) (tgt := 2752) dL_law_1583 rfl ?_
  exact g_sub (lv' := AL o) ⟨rfl, rfl, rfl, rfl, rfl, rfl, trivial⟩ (kont e2)
set_option maxRecDepth 4000 in
theorem lc_34 {kk : Int32} {b : Int32} (hs : mS M = S) (ho : o + 5 ≤ S.1) (hS9 : S.1 < 2147483648) (hM : Shp M) (hM1 : Shp M1) (hM2 : Shp M2) (h1 : EvR l jL_fieldRank 8 171 1 6 [.ref 0, .int (S.2 (o + 1)), .ref 212] M (.inl (some (.int kk))) M1) (h2 : EvR l jX7_fieldRank 4 160 0 0 [.ref 198, .int (S.2 (o + 1))] M1 (.inl (some (.int b))) M2) (kont : mS M2 = S → Go l jL_law 14 538 601024 7293034 Q 2752 (AL o) [] k n M2) : Go l jL_law 14 538 601024 7293034 Q 1586 (AL o) [] (k + 1) (n + 6) M := by
  refine g_aload_n (pc := 1586) dL_law_1586 rfl trivial ?_
  refine g_aload_n (pc := 1587) dL_law_1587 rfl isA_0 ?_
  refine g_iload (pc := 1588) dL_law_1588 rfl ?_
  refine g_iconst (pc := 1590) (v := 1) dL_law_1590 rfl ?_
  refine g_iadd (pc := 1591) dL_law_1591 ?_
  refine g_scriptLoadS (pc := 1592) dL_law_1592 (nI_o1 _) hs (by omega) (by omega) ?_
  refine g_aload_n (pc := 1593) dL_law_1593 rfl trivial ?_
  refine g_invSX_s (pc := 1594) (As := [_, _, _]) dL_law_1594 rfl (h1) rfl rfl lk_L_304 rfl (nb rfl) ⟨nb rfl, nb rfl⟩ rfl (fun e1 => ?_)
  have e1 := e1.trans hs
  refine g_istore (pc := 1597) (lv' := [(0, _), (1, _), (2, _), (3, _), (4, _), (5, _), (6, _)]) dL_law_1597 (nl rfl) rfl ?_
  refine g_aload_n (pc := 1599) dL_law_1599 rfl trivial ?_
  refine g_aload_n (pc := 1600) dL_law_1600 rfl isA_0 ?_
  refine g_iload (pc := 1601) dL_law_1601 rfl ?_
  refine g_iconst (pc := 1603) (v := 1) dL_law_1603 rfl ?_
  refine g_iadd (pc := 1604) dL_law_1604 ?_
  refine g_scriptLoadS (pc := 1605) dL_law_1605 (nI_o1 _) e1 (by omega) (by omega) ?_
  refine g_invV_s (pc := 1606) (As := [_]) dL_law_1606 rfl (h2) rfl rfl (shK hM1 rfl) rfl rfl lk_L_306 rfl (nb rfl) ⟨nb rfl, nb rfl⟩ rfl (fun e2 => ?_)
  have e2 := e2.trans e1
  refine g_istore (pc := 1609) (lv' := [(0, _), (1, _), (2, _), (3, _), (4, _), (5, _), (6, _), (7, _)]) dL_law_1609 (nl rfl) rfl ?_
  refine g_goto (pc := 1611) (tgt := 2752) dL_law_1611 rfl ?_
  exact g_sub (lv' := AL o) ⟨rfl, rfl, rfl, rfl, rfl, rfl, trivial⟩ (kont e2)
set_option maxRecDepth 4000 in
theorem lc_35 {kk : Int32} {b : Int64} (hs : mS M = S) (ho : o + 5 ≤ S.1) (hS9 : S.1 < 2147483648) (hM : Shp M) (hM1 : Shp M1) (hM2 : Shp M2) (h1 : EvR l jL_solve 8 173 1 6 [.ref 0, .int (S.2 (o + 1)), .long (l2 (S.2 (o + 2)) (S.2 (o + 3))), .ref 212] M (.inl (some (.int kk))) M1) (h2 : EvR l jX7_solve 4 160 0 0 [.ref 198, .int (S.2 (o + 1)), .long (l2 (S.2 (o + 2)) (S.2 (o + 3)))] M1 (.inl (some (.long b))) M2) (kont : mS M2 = S → Go l jL_law 14 538 601024 7293034 Q 2752 (AL o) [] k n M2) : Go l jL_law 14 538 601024 7293034 Q 1614 (AL o) [] (k + 1) (n + 6) M := by
  refine g_aload_n (pc := 1614) dL_law_1614 rfl trivial ?_
  refine g_aload_n (pc := 1615) dL_law_1615 rfl isA_0 ?_
  refine g_iload (pc := 1616) dL_law_1616 rfl ?_
  refine g_iconst (pc := 1618) (v := 1) dL_law_1618 rfl ?_
  refine g_iadd (pc := 1619) dL_law_1619 ?_
  refine g_scriptLoadS (pc := 1620) dL_law_1620 (nI_o1 _) hs (by omega) (by omega) ?_
  refine g_aload_n (pc := 1621) dL_law_1621 rfl isA_0 ?_
  refine g_iload (pc := 1622) dL_law_1622 rfl ?_
  refine g_iconst (pc := 1624) (v := 2) dL_law_1624 rfl ?_
  refine g_iadd (pc := 1625) dL_law_1625 ?_
  refine g_scriptLoadS (pc := 1626) dL_law_1626 (nI_o2 _) hs (by omega) (by omega) ?_
  refine g_i2l (pc := 1627) dL_law_1627 rfl ?_
  refine g_bipush (pc := 1628) (v := 32) dL_law_1628 rfl ?_
  refine g_lshl (pc := 1630) dL_law_1630 rfl ?_
  refine g_aload_n (pc := 1631) dL_law_1631 rfl isA_0 ?_
  refine g_iload (pc := 1632) dL_law_1632 rfl ?_
  refine g_iconst (pc := 1634) (v := 3) dL_law_1634 rfl ?_
  refine g_iadd (pc := 1635) dL_law_1635 ?_
  refine g_scriptLoadS (pc := 1636) dL_law_1636 (nI_o3 _) hs (by omega) (by omega) ?_
  refine g_i2l (pc := 1637) dL_law_1637 rfl ?_
  refine g_ldc2 (pc := 1638) dL_law_1638 wd_1783 ?_
  refine g_land (pc := 1641) dL_law_1641 ?_
  refine g_lor (pc := 1642) dL_law_1642 ?_
  refine g_aload_n (pc := 1643) dL_law_1643 rfl trivial ?_
  refine g_invSX_s (pc := 1644) (As := [_, _, _, _]) dL_law_1644 rfl (h1) rfl rfl lk_L_307 rfl (nb rfl) ⟨nb rfl, nb rfl⟩ rfl (fun e1 => ?_)
  have e1 := e1.trans hs
  refine g_istore (pc := 1647) (lv' := [(0, _), (1, _), (2, _), (3, _), (4, _), (5, _), (6, _)]) dL_law_1647 (nl rfl) rfl ?_
  refine g_aload_n (pc := 1649) dL_law_1649 rfl trivial ?_
  refine g_aload_n (pc := 1650) dL_law_1650 rfl isA_0 ?_
  refine g_iload (pc := 1651) dL_law_1651 rfl ?_
  refine g_iconst (pc := 1653) (v := 1) dL_law_1653 rfl ?_
  refine g_iadd (pc := 1654) dL_law_1654 ?_
  refine g_scriptLoadS (pc := 1655) dL_law_1655 (nI_o1 _) e1 (by omega) (by omega) ?_
  refine g_aload_n (pc := 1656) dL_law_1656 rfl isA_0 ?_
  refine g_iload (pc := 1657) dL_law_1657 rfl ?_
  refine g_iconst (pc := 1659) (v := 2) dL_law_1659 rfl ?_
  refine g_iadd (pc := 1660) dL_law_1660 ?_
  refine g_scriptLoadS (pc := 1661) dL_law_1661 (nI_o2 _) e1 (by omega) (by omega) ?_
  refine g_i2l (pc := 1662) dL_law_1662 rfl ?_
  refine g_bipush (pc := 1663) (v := 32) dL_law_1663 rfl ?_
  refine g_lshl (pc := 1665) dL_law_1665 rfl ?_
  refine g_aload_n (pc := 1666) dL_law_1666 rfl isA_0 ?_
  refine g_iload (pc := 1667) dL_law_1667 rfl ?_
  refine g_iconst (pc := 1669) (v := 3) dL_law_1669 rfl ?_
  refine g_iadd (pc := 1670) dL_law_1670 ?_
  refine g_scriptLoadS (pc := 1671) dL_law_1671 (nI_o3 _) e1 (by omega) (by omega) ?_
  refine g_i2l (pc := 1672) dL_law_1672 rfl ?_
  refine g_ldc2 (pc := 1673) dL_law_1673 wd_1783 ?_
  refine g_land (pc := 1676) dL_law_1676 ?_
  refine g_lor (pc := 1677) dL_law_1677 ?_
  refine g_invV_s (pc := 1678) (As := [_, _]) dL_law_1678 rfl (h2) rfl rfl (shK hM1 rfl) rfl rfl lk_L_309 rfl (nb rfl) ⟨nb rfl, nb rfl⟩ rfl (fun e2 => ?_)
  have e2 := e2.trans e1
  refine g_lstore (pc := 1681) (lv' := [(0, _), (1, _), (2, _), (3, _), (4, _), (5, _), (6, _), (7, _)]) dL_law_1681 (nl rfl) rfl ?_
  refine g_goto (pc := 1683) (tgt := 2752) dL_law_1683 rfl ?_
  exact g_sub (lv' := AL o) ⟨rfl, rfl, rfl, rfl, rfl, rfl, trivial⟩ (kont e2)
set_option maxRecDepth 4000 in
theorem lc_36 {kk : Int32} {b : Int32} (hs : mS M = S) (ho : o + 5 ≤ S.1) (hS9 : S.1 < 2147483648) (hM : Shp M) (hM1 : Shp M1) (hM2 : Shp M2) (h1 : EvR l jL_freedom 8 173 1 6 [.ref 0, .int (S.2 (o + 1)), .long (l2 (S.2 (o + 2)) (S.2 (o + 3))), .ref 212] M (.inl (some (.int kk))) M1) (h2 : EvR l jX7_freedom 4 160 0 0 [.ref 198, .int (S.2 (o + 1)), .long (l2 (S.2 (o + 2)) (S.2 (o + 3)))] M1 (.inl (some (.int b))) M2) (kont : mS M2 = S → Go l jL_law 14 538 601024 7293034 Q 2752 (AL o) [] k n M2) : Go l jL_law 14 538 601024 7293034 Q 1686 (AL o) [] (k + 1) (n + 6) M := by
  refine g_aload_n (pc := 1686) dL_law_1686 rfl trivial ?_
  refine g_aload_n (pc := 1687) dL_law_1687 rfl isA_0 ?_
  refine g_iload (pc := 1688) dL_law_1688 rfl ?_
  refine g_iconst (pc := 1690) (v := 1) dL_law_1690 rfl ?_
  refine g_iadd (pc := 1691) dL_law_1691 ?_
  refine g_scriptLoadS (pc := 1692) dL_law_1692 (nI_o1 _) hs (by omega) (by omega) ?_
  refine g_aload_n (pc := 1693) dL_law_1693 rfl isA_0 ?_
  refine g_iload (pc := 1694) dL_law_1694 rfl ?_
  refine g_iconst (pc := 1696) (v := 2) dL_law_1696 rfl ?_
  refine g_iadd (pc := 1697) dL_law_1697 ?_
  refine g_scriptLoadS (pc := 1698) dL_law_1698 (nI_o2 _) hs (by omega) (by omega) ?_
  refine g_i2l (pc := 1699) dL_law_1699 rfl ?_
  refine g_bipush (pc := 1700) (v := 32) dL_law_1700 rfl ?_
  refine g_lshl (pc := 1702) dL_law_1702 rfl ?_
  refine g_aload_n (pc := 1703) dL_law_1703 rfl isA_0 ?_
  refine g_iload (pc := 1704) dL_law_1704 rfl ?_
  refine g_iconst (pc := 1706) (v := 3) dL_law_1706 rfl ?_
  refine g_iadd (pc := 1707) dL_law_1707 ?_
  refine g_scriptLoadS (pc := 1708) dL_law_1708 (nI_o3 _) hs (by omega) (by omega) ?_
  refine g_i2l (pc := 1709) dL_law_1709 rfl ?_
  refine g_ldc2 (pc := 1710) dL_law_1710 wd_1783 ?_
  refine g_land (pc := 1713) dL_law_1713 ?_
  refine g_lor (pc := 1714) dL_law_1714 ?_
  refine g_aload_n (pc := 1715) dL_law_1715 rfl trivial ?_
  refine g_invSX_s (pc := 1716) (As := [_, _, _, _]) dL_law_1716 rfl (h1) rfl rfl lk_L_310 rfl (nb rfl) ⟨nb rfl, nb rfl⟩ rfl (fun e1 => ?_)
  have e1 := e1.trans hs
  refine g_istore (pc := 1719) (lv' := [(0, _), (1, _), (2, _), (3, _), (4, _), (5, _), (6, _)]) dL_law_1719 (nl rfl) rfl ?_
  refine g_aload_n (pc := 1721) dL_law_1721 rfl trivial ?_
  refine g_aload_n (pc := 1722) dL_law_1722 rfl isA_0 ?_
  refine g_iload (pc := 1723) dL_law_1723 rfl ?_
  refine g_iconst (pc := 1725) (v := 1) dL_law_1725 rfl ?_
  refine g_iadd (pc := 1726) dL_law_1726 ?_
  refine g_scriptLoadS (pc := 1727) dL_law_1727 (nI_o1 _) e1 (by omega) (by omega) ?_
  refine g_aload_n (pc := 1728) dL_law_1728 rfl isA_0 ?_
  refine g_iload (pc := 1729) dL_law_1729 rfl ?_
  refine g_iconst (pc := 1731) (v := 2) dL_law_1731 rfl ?_
  refine g_iadd (pc := 1732) dL_law_1732 ?_
  refine g_scriptLoadS (pc := 1733) dL_law_1733 (nI_o2 _) e1 (by omega) (by omega) ?_
  refine g_i2l (pc := 1734) dL_law_1734 rfl ?_
  refine g_bipush (pc := 1735) (v := 32) dL_law_1735 rfl ?_
  refine g_lshl (pc := 1737) dL_law_1737 rfl ?_
  refine g_aload_n (pc := 1738) dL_law_1738 rfl isA_0 ?_
  refine g_iload (pc := 1739) dL_law_1739 rfl ?_
  refine g_iconst (pc := 1741) (v := 3) dL_law_1741 rfl ?_
  refine g_iadd (pc := 1742) dL_law_1742 ?_
  refine g_scriptLoadS (pc := 1743) dL_law_1743 (nI_o3 _) e1 (by omega) (by omega) ?_
  refine g_i2l (pc := 1744) dL_law_1744 rfl ?_
  refine g_ldc2 (pc := 1745) dL_law_1745 wd_1783 ?_
  refine g_land (pc := 1748) dL_law_1748 ?_
  refine g_lor (pc := 1749) dL_law_1749 ?_
  refine g_invV_s (pc := 1750) (As := [_, _]) dL_law_1750 rfl (h2) rfl rfl (shK hM1 rfl) rfl rfl lk_L_312 rfl (nb rfl) ⟨nb rfl, nb rfl⟩ rfl (fun e2 => ?_)
  have e2 := e2.trans e1
  refine g_istore (pc := 1753) (lv' := [(0, _), (1, _), (2, _), (3, _), (4, _), (5, _), (6, _), (7, _)]) dL_law_1753 (nl rfl) rfl ?_
  refine g_goto (pc := 1755) (tgt := 2752) dL_law_1755 rfl ?_
  exact g_sub (lv' := AL o) ⟨rfl, rfl, rfl, rfl, rfl, rfl, trivial⟩ (kont e2)
set_option maxRecDepth 4000 in
theorem lc_37 {kk : Int32} {b : Int32} (hs : mS M = S) (ho : o + 5 ≤ S.1) (hS9 : S.1 < 2147483648) (hM : Shp M) (hM1 : Shp M1) (hM2 : Shp M2) (h1 : EvR l jL_pivot 8 172 1 6 [.ref 0, .int (S.2 (o + 1)), .int (S.2 (o + 2)), .ref 212] M (.inl (some (.int kk))) M1) (h2 : EvR l jX7_pivot 4 160 0 0 [.ref 198, .int (S.2 (o + 1)), .int (S.2 (o + 2))] M1 (.inl (some (.int b))) M2) (kont : mS M2 = S → Go l jL_law 14 538 601024 7293034 Q 2752 (AL o) [] k n M2) : Go l jL_law 14 538 601024 7293034 Q 1758 (AL o) [] (k + 1) (n + 6) M := by
  refine g_aload_n (pc := 1758) dL_law_1758 rfl trivial ?_
  refine g_aload_n (pc := 1759) dL_law_1759 rfl isA_0 ?_
  refine g_iload (pc := 1760) dL_law_1760 rfl ?_
  refine g_iconst (pc := 1762) (v := 1) dL_law_1762 rfl ?_
  refine g_iadd (pc := 1763) dL_law_1763 ?_
  refine g_scriptLoadS (pc := 1764) dL_law_1764 (nI_o1 _) hs (by omega) (by omega) ?_
  refine g_aload_n (pc := 1765) dL_law_1765 rfl isA_0 ?_
  refine g_iload (pc := 1766) dL_law_1766 rfl ?_
  refine g_iconst (pc := 1768) (v := 2) dL_law_1768 rfl ?_
  refine g_iadd (pc := 1769) dL_law_1769 ?_
  refine g_scriptLoadS (pc := 1770) dL_law_1770 (nI_o2 _) hs (by omega) (by omega) ?_
  refine g_aload_n (pc := 1771) dL_law_1771 rfl trivial ?_
  refine g_invSX_s (pc := 1772) (As := [_, _, _, _]) dL_law_1772 rfl (h1) rfl rfl lk_L_313 rfl (nb rfl) ⟨nb rfl, nb rfl⟩ rfl (fun e1 => ?_)
  have e1 := e1.trans hs
  refine g_istore (pc := 1775) (lv' := [(0, _), (1, _), (2, _), (3, _), (4, _), (5, _), (6, _)]) dL_law_1775 (nl rfl) rfl ?_
  refine g_aload_n (pc := 1777) dL_law_1777 rfl trivial ?_
  refine g_aload_n (pc := 1778) dL_law_1778 rfl isA_0 ?_
  refine g_iload (pc := 1779) dL_law_1779 rfl ?_
  refine g_iconst (pc := 1781) (v := 1) dL_law_1781 rfl ?_
  refine g_iadd (pc := 1782) dL_law_1782 ?_
  refine g_scriptLoadS (pc := 1783) dL_law_1783 (nI_o1 _) e1 (by omega) (by omega) ?_
  refine g_aload_n (pc := 1784) dL_law_1784 rfl isA_0 ?_
  refine g_iload (pc := 1785) dL_law_1785 rfl ?_
  refine g_iconst (pc := 1787) (v := 2) dL_law_1787 rfl ?_
  refine g_iadd (pc := 1788) dL_law_1788 ?_
  refine g_scriptLoadS (pc := 1789) dL_law_1789 (nI_o2 _) e1 (by omega) (by omega) ?_
  refine g_invV_s (pc := 1790) (As := [_, _]) dL_law_1790 rfl (h2) rfl rfl (shK hM1 rfl) rfl rfl lk_L_315 rfl (nb rfl) ⟨nb rfl, nb rfl⟩ rfl (fun e2 => ?_)
  have e2 := e2.trans e1
  refine g_istore (pc := 1793) (lv' := [(0, _), (1, _), (2, _), (3, _), (4, _), (5, _), (6, _), (7, _)]) dL_law_1793 (nl rfl) rfl ?_
  refine g_goto (pc := 1795) (tgt := 2752) dL_law_1795 rfl ?_
  exact g_sub (lv' := AL o) ⟨rfl, rfl, rfl, rfl, rfl, rfl, trivial⟩ (kont e2)
set_option maxRecDepth 4000 in
theorem lc_38 {kk : Int32} {b : Int32} {f : Int32} (hf : f = if S.2 (o + 4) = 0 then 0 else 1) (hs : mS M = S) (ho : o + 5 ≤ S.1) (hS9 : S.1 < 2147483648) (hM : Shp M) (hM1 : Shp M1) (hM2 : Shp M2) (h1 : EvR l jL_put 10 187 3 18 [.ref 0, .int (S.2 (o + 1)), .int (S.2 (o + 2)), .int (S.2 (o + 3)), .int f, .ref 212] M (.inl (some (.int kk))) M1) (h2 : EvR l jX7_put 4 160 0 0 [.ref 198, .int (S.2 (o + 1)), .int (S.2 (o + 2)), .int (S.2 (o + 3)), .int f] M1 (.inl (some (.int b))) M2) (kont : mS M2 = S → Go l jL_law 14 538 601024 7293034 Q 2752 (AL o) [] k n M2) : Go l jL_law 14 538 601024 7293034 Q 1798 (AL o) [] (k + 3) (n + 18) M := by
  by_cases hx : S.2 (o + 4) = 0
  · rw [if_pos hx] at hf; subst hf
    refine g_aload_n (pc := 1798) dL_law_1798 rfl trivial ?_
    refine g_aload_n (pc := 1799) dL_law_1799 rfl isA_0 ?_
    refine g_iload (pc := 1800) dL_law_1800 rfl ?_
    refine g_iconst (pc := 1802) (v := 1) dL_law_1802 rfl ?_
    refine g_iadd (pc := 1803) dL_law_1803 ?_
    refine g_scriptLoadS (pc := 1804) dL_law_1804 (nI_o1 _) hs (by omega) (by omega) ?_
    refine g_aload_n (pc := 1805) dL_law_1805 rfl isA_0 ?_
    refine g_iload (pc := 1806) dL_law_1806 rfl ?_
    refine g_iconst (pc := 1808) (v := 2) dL_law_1808 rfl ?_
    refine g_iadd (pc := 1809) dL_law_1809 ?_
    refine g_scriptLoadS (pc := 1810) dL_law_1810 (nI_o2 _) hs (by omega) (by omega) ?_
    refine g_aload_n (pc := 1811) dL_law_1811 rfl isA_0 ?_
    refine g_iload (pc := 1812) dL_law_1812 rfl ?_
    refine g_iconst (pc := 1814) (v := 3) dL_law_1814 rfl ?_
    refine g_iadd (pc := 1815) dL_law_1815 ?_
    refine g_scriptLoadS (pc := 1816) dL_law_1816 (nI_o3 _) hs (by omega) (by omega) ?_
    refine g_aload_n (pc := 1817) dL_law_1817 rfl isA_0 ?_
    refine g_iload (pc := 1818) dL_law_1818 rfl ?_
    refine g_iconst (pc := 1820) (v := 4) dL_law_1820 rfl ?_
    refine g_iadd (pc := 1821) dL_law_1821 ?_
    refine g_scriptLoadS (pc := 1822) dL_law_1822 (nI_o4 _) hs (by omega) (by omega) ?_
    refine g_if_eq (pc := 1823) (tgt := 1830) dL_law_1823 rfl (fun _ => ?_) (fun h1823 => absurd (hx) h1823)
    refine g_iconst (pc := 1830) (v := 0) dL_law_1830 rfl ?_
    refine g_aload_n (pc := 1831) dL_law_1831 rfl trivial ?_
    refine g_invSX_s (pc := 1832) (As := [_, _, _, _, _, _]) dL_law_1832 rfl (h1) rfl rfl lk_L_316 rfl (nb rfl) ⟨nb rfl, nb rfl⟩ rfl (fun e1 => ?_)
    have e1 := e1.trans hs
    refine g_istore (pc := 1835) (lv' := [(0, _), (1, _), (2, _), (3, _), (4, _), (5, _), (6, _)]) dL_law_1835 (nl rfl) rfl ?_
    refine g_aload_n (pc := 1837) dL_law_1837 rfl trivial ?_
    refine g_aload_n (pc := 1838) dL_law_1838 rfl isA_0 ?_
    refine g_iload (pc := 1839) dL_law_1839 rfl ?_
    refine g_iconst (pc := 1841) (v := 1) dL_law_1841 rfl ?_
    refine g_iadd (pc := 1842) dL_law_1842 ?_
    refine g_scriptLoadS (pc := 1843) dL_law_1843 (nI_o1 _) e1 (by omega) (by omega) ?_
    refine g_aload_n (pc := 1844) dL_law_1844 rfl isA_0 ?_
    refine g_iload (pc := 1845) dL_law_1845 rfl ?_
    refine g_iconst (pc := 1847) (v := 2) dL_law_1847 rfl ?_
    refine g_iadd (pc := 1848) dL_law_1848 ?_
    refine g_scriptLoadS (pc := 1849) dL_law_1849 (nI_o2 _) e1 (by omega) (by omega) ?_
    refine g_aload_n (pc := 1850) dL_law_1850 rfl isA_0 ?_
    refine g_iload (pc := 1851) dL_law_1851 rfl ?_
    refine g_iconst (pc := 1853) (v := 3) dL_law_1853 rfl ?_
    refine g_iadd (pc := 1854) dL_law_1854 ?_
    refine g_scriptLoadS (pc := 1855) dL_law_1855 (nI_o3 _) e1 (by omega) (by omega) ?_
    refine g_aload_n (pc := 1856) dL_law_1856 rfl isA_0 ?_
    refine g_iload (pc := 1857) dL_law_1857 rfl ?_
    refine g_iconst (pc := 1859) (v := 4) dL_law_1859 rfl ?_
    refine g_iadd (pc := 1860) dL_law_1860 ?_
    refine g_scriptLoadS (pc := 1861) dL_law_1861 (nI_o4 _) e1 (by omega) (by omega) ?_
    refine g_if_eq (pc := 1862) (tgt := 1869) dL_law_1862 rfl (fun _ => ?_) (fun h1862 => absurd (hx) h1862)
    refine g_iconst (pc := 1869) (v := 0) dL_law_1869 rfl ?_
    refine g_invV_s (pc := 1870) (As := [_, _, _, _]) dL_law_1870 rfl (h2) rfl rfl (shK hM1 rfl) rfl rfl lk_L_319 rfl (nb rfl) ⟨nb rfl, nb rfl⟩ rfl (fun e2 => ?_)
    have e2 := e2.trans e1
    refine g_istore (pc := 1873) (lv' := [(0, _), (1, _), (2, _), (3, _), (4, _), (5, _), (6, _), (7, _)]) dL_law_1873 (nl rfl) rfl ?_
    refine g_goto (pc := 1875) (tgt := 2752) dL_law_1875 rfl ?_
    exact g_sub (lv' := AL o) ⟨rfl, rfl, rfl, rfl, rfl, rfl, trivial⟩ (kont e2)
  · rw [if_neg hx] at hf; subst hf
    refine g_aload_n (pc := 1798) dL_law_1798 rfl trivial ?_
    refine g_aload_n (pc := 1799) dL_law_1799 rfl isA_0 ?_
    refine g_iload (pc := 1800) dL_law_1800 rfl ?_
    refine g_iconst (pc := 1802) (v := 1) dL_law_1802 rfl ?_
    refine g_iadd (pc := 1803) dL_law_1803 ?_
    refine g_scriptLoadS (pc := 1804) dL_law_1804 (nI_o1 _) hs (by omega) (by omega) ?_
    refine g_aload_n (pc := 1805) dL_law_1805 rfl isA_0 ?_
    refine g_iload (pc := 1806) dL_law_1806 rfl ?_
    refine g_iconst (pc := 1808) (v := 2) dL_law_1808 rfl ?_
    refine g_iadd (pc := 1809) dL_law_1809 ?_
    refine g_scriptLoadS (pc := 1810) dL_law_1810 (nI_o2 _) hs (by omega) (by omega) ?_
    refine g_aload_n (pc := 1811) dL_law_1811 rfl isA_0 ?_
    refine g_iload (pc := 1812) dL_law_1812 rfl ?_
    refine g_iconst (pc := 1814) (v := 3) dL_law_1814 rfl ?_
    refine g_iadd (pc := 1815) dL_law_1815 ?_
    refine g_scriptLoadS (pc := 1816) dL_law_1816 (nI_o3 _) hs (by omega) (by omega) ?_
    refine g_aload_n (pc := 1817) dL_law_1817 rfl isA_0 ?_
    refine g_iload (pc := 1818) dL_law_1818 rfl ?_
    refine g_iconst (pc := 1820) (v := 4) dL_law_1820 rfl ?_
    refine g_iadd (pc := 1821) dL_law_1821 ?_
    refine g_scriptLoadS (pc := 1822) dL_law_1822 (nI_o4 _) hs (by omega) (by omega) ?_
    refine g_if_eq (pc := 1823) (tgt := 1830) dL_law_1823 rfl (fun h1823 => absurd h1823 (hx)) (fun _ => ?_)
    refine g_iconst (pc := 1826) (v := 1) dL_law_1826 rfl ?_
    refine g_goto (pc := 1827) (tgt := 1831) dL_law_1827 rfl ?_
    refine g_aload_n (pc := 1831) dL_law_1831 rfl trivial ?_
    refine g_invSX_s (pc := 1832) (As := [_, _, _, _, _, _]) dL_law_1832 rfl (h1) rfl rfl lk_L_316 rfl (nb rfl) ⟨nb rfl, nb rfl⟩ rfl (fun e1 => ?_)
    have e1 := e1.trans hs
    refine g_istore (pc := 1835) (lv' := [(0, _), (1, _), (2, _), (3, _), (4, _), (5, _), (6, _)]) dL_law_1835 (nl rfl) rfl ?_
    refine g_aload_n (pc := 1837) dL_law_1837 rfl trivial ?_
    refine g_aload_n (pc := 1838) dL_law_1838 rfl isA_0 ?_
    refine g_iload (pc := 1839) dL_law_1839 rfl ?_
    refine g_iconst (pc := 1841) (v := 1) dL_law_1841 rfl ?_
    refine g_iadd (pc := 1842) dL_law_1842 ?_
    refine g_scriptLoadS (pc := 1843) dL_law_1843 (nI_o1 _) e1 (by omega) (by omega) ?_
    refine g_aload_n (pc := 1844) dL_law_1844 rfl isA_0 ?_
    refine g_iload (pc := 1845) dL_law_1845 rfl ?_
    refine g_iconst (pc := 1847) (v := 2) dL_law_1847 rfl ?_
    refine g_iadd (pc := 1848) dL_law_1848 ?_
    refine g_scriptLoadS (pc := 1849) dL_law_1849 (nI_o2 _) e1 (by omega) (by omega) ?_
    refine g_aload_n (pc := 1850) dL_law_1850 rfl isA_0 ?_
    refine g_iload (pc := 1851) dL_law_1851 rfl ?_
    refine g_iconst (pc := 1853) (v := 3) dL_law_1853 rfl ?_
    refine g_iadd (pc := 1854) dL_law_1854 ?_
    refine g_scriptLoadS (pc := 1855) dL_law_1855 (nI_o3 _) e1 (by omega) (by omega) ?_
    refine g_aload_n (pc := 1856) dL_law_1856 rfl isA_0 ?_
    refine g_iload (pc := 1857) dL_law_1857 rfl ?_
    refine g_iconst (pc := 1859) (v := 4) dL_law_1859 rfl ?_
    refine g_iadd (pc := 1860) dL_law_1860 ?_
    refine g_scriptLoadS (pc := 1861) dL_law_1861 (nI_o4 _) e1 (by omega) (by omega) ?_
    refine g_if_eq (pc := 1862) (tgt := 1869) dL_law_1862 rfl (fun h1862 => absurd h1862 (hx)) (fun _ => ?_)
    refine g_iconst (pc := 1865) (v := 1) dL_law_1865 rfl ?_
    refine g_goto (pc := 1866) (tgt := 1870) dL_law_1866 rfl ?_
    refine g_invV_s (pc := 1870) (As := [_, _, _, _]) dL_law_1870 rfl (h2) rfl rfl (shK hM1 rfl) rfl rfl lk_L_319 rfl (nb rfl) ⟨nb rfl, nb rfl⟩ rfl (fun e2 => ?_)
    have e2 := e2.trans e1
    refine g_istore (pc := 1873) (lv' := [(0, _), (1, _), (2, _), (3, _), (4, _), (5, _), (6, _), (7, _)]) dL_law_1873 (nl rfl) rfl ?_
    refine g_goto (pc := 1875) (tgt := 2752) dL_law_1875 rfl ?_
    exact g_sub (lv' := AL o) ⟨rfl, rfl, rfl, rfl, rfl, rfl, trivial⟩ (kont e2)
set_option maxRecDepth 4000 in
theorem lc_39 {kk : Int32} {b : Int32} (hs : mS M = S) (ho : o + 5 ≤ S.1) (hS9 : S.1 < 2147483648) (hM : Shp M) (hM1 : Shp M1) (hM2 : Shp M2) (h1 : EvR l jL_setRow 9 176 2 12 [.ref 0, .int (S.2 (o + 1)), .int (S.2 (o + 2)), .long (l2 (S.2 (o + 3)) (S.2 (o + 4))), .ref 212] M (.inl (some (.int kk))) M1) (h2 : EvR l jX7_setRow 4 160 0 0 [.ref 198, .int (S.2 (o + 1)), .int (S.2 (o + 2)), .long (l2 (S.2 (o + 3)) (S.2 (o + 4)))] M1 (.inl (some (.int b))) M2) (kont : mS M2 = S → Go l jL_law 14 538 601024 7293034 Q 2752 (AL o) [] k n M2) : Go l jL_law 14 538 601024 7293034 Q 1878 (AL o) [] (k + 2) (n + 12) M := by
  refine g_aload_n (pc := 1878) dL_law_1878 rfl trivial ?_
  refine g_aload_n (pc := 1879) dL_law_1879 rfl isA_0 ?_
  refine g_iload (pc := 1880) dL_law_1880 rfl ?_
  refine g_iconst (pc := 1882) (v := 1) dL_law_1882 rfl ?_
  refine g_iadd (pc := 1883) dL_law_1883 ?_
  refine g_scriptLoadS (pc := 1884) dL_law_1884 (nI_o1 _) hs (by omega) (by omega) ?_
  refine g_aload_n (pc := 1885) dL_law_1885 rfl isA_0 ?_
  refine g_iload (pc := 1886) dL_law_1886 rfl ?_
  refine g_iconst (pc := 1888) (v := 2) dL_law_1888 rfl ?_
  refine g_iadd (pc := 1889) dL_law_1889 ?_
  refine g_scriptLoadS (pc := 1890) dL_law_1890 (nI_o2 _) hs (by omega) (by omega) ?_
  refine g_aload_n (pc := 1891) dL_law_1891 rfl isA_0 ?_
  refine g_iload (pc := 1892) dL_law_1892 rfl ?_
  refine g_iconst (pc := 1894) (v := 3) dL_law_1894 rfl ?_
  refine g_iadd (pc := 1895) dL_law_1895 ?_
  refine g_scriptLoadS (pc := 1896) dL_law_1896 (nI_o3 _) hs (by omega) (by omega) ?_
  refine g_i2l (pc := 1897) dL_law_1897 rfl ?_
  refine g_bipush (pc := 1898) (v := 32) dL_law_1898 rfl ?_
  refine g_lshl (pc := 1900) dL_law_1900 rfl ?_
  refine g_aload_n (pc := 1901) dL_law_1901 rfl isA_0 ?_
  refine g_iload (pc := 1902) dL_law_1902 rfl ?_
  refine g_iconst (pc := 1904) (v := 4) dL_law_1904 rfl ?_
  refine g_iadd (pc := 1905) dL_law_1905 ?_
  refine g_scriptLoadS (pc := 1906) dL_law_1906 (nI_o4 _) hs (by omega) (by omega) ?_
  refine g_i2l (pc := 1907) dL_law_1907 rfl ?_
  refine g_ldc2 (pc := 1908) dL_law_1908 wd_1783 ?_
  refine g_land (pc := 1911) dL_law_1911 ?_
  refine g_lor (pc := 1912) dL_law_1912 ?_
  refine g_aload_n (pc := 1913) dL_law_1913 rfl trivial ?_
  refine g_invSX_s (pc := 1914) (As := [_, _, _, _, _]) dL_law_1914 rfl (h1) rfl rfl lk_L_320 rfl (nb rfl) ⟨nb rfl, nb rfl⟩ rfl (fun e1 => ?_)
  have e1 := e1.trans hs
  refine g_istore (pc := 1917) (lv' := [(0, _), (1, _), (2, _), (3, _), (4, _), (5, _), (6, _)]) dL_law_1917 (nl rfl) rfl ?_
  refine g_aload_n (pc := 1919) dL_law_1919 rfl trivial ?_
  refine g_aload_n (pc := 1920) dL_law_1920 rfl isA_0 ?_
  refine g_iload (pc := 1921) dL_law_1921 rfl ?_
  refine g_iconst (pc := 1923) (v := 1) dL_law_1923 rfl ?_
  refine g_iadd (pc := 1924) dL_law_1924 ?_
  refine g_scriptLoadS (pc := 1925) dL_law_1925 (nI_o1 _) e1 (by omega) (by omega) ?_
  refine g_aload_n (pc := 1926) dL_law_1926 rfl isA_0 ?_
  refine g_iload (pc := 1927) dL_law_1927 rfl ?_
  refine g_iconst (pc := 1929) (v := 2) dL_law_1929 rfl ?_
  refine g_iadd (pc := 1930) dL_law_1930 ?_
  refine g_scriptLoadS (pc := 1931) dL_law_1931 (nI_o2 _) e1 (by omega) (by omega) ?_
  refine g_aload_n (pc := 1932) dL_law_1932 rfl isA_0 ?_
  refine g_iload (pc := 1933) dL_law_1933 rfl ?_
  refine g_iconst (pc := 1935) (v := 3) dL_law_1935 rfl ?_
  refine g_iadd (pc := 1936) dL_law_1936 ?_
  refine g_scriptLoadS (pc := 1937) dL_law_1937 (nI_o3 _) e1 (by omega) (by omega) ?_
  refine g_i2l (pc := 1938) dL_law_1938 rfl ?_
  refine g_bipush (pc := 1939) (v := 32) dL_law_1939 rfl ?_
  refine g_lshl (pc := 1941) dL_law_1941 rfl ?_
  refine g_aload_n (pc := 1942) dL_law_1942 rfl isA_0 ?_
  refine g_iload (pc := 1943) dL_law_1943 rfl ?_
  refine g_iconst (pc := 1945) (v := 4) dL_law_1945 rfl ?_
  refine g_iadd (pc := 1946) dL_law_1946 ?_
  refine g_scriptLoadS (pc := 1947) dL_law_1947 (nI_o4 _) e1 (by omega) (by omega) ?_
  refine g_i2l (pc := 1948) dL_law_1948 rfl ?_
  refine g_ldc2 (pc := 1949) dL_law_1949 wd_1783 ?_
  refine g_land (pc := 1952) dL_law_1952 ?_
  refine g_lor (pc := 1953) dL_law_1953 ?_
  refine g_invV_s (pc := 1954) (As := [_, _, _]) dL_law_1954 rfl (h2) rfl rfl (shK hM1 rfl) rfl rfl lk_L_323 rfl (nb rfl) ⟨nb rfl, nb rfl⟩ rfl (fun e2 => ?_)
  have e2 := e2.trans e1
  refine g_istore (pc := 1957) (lv' := [(0, _), (1, _), (2, _), (3, _), (4, _), (5, _), (6, _), (7, _)]) dL_law_1957 (nl rfl) rfl ?_
  refine g_goto (pc := 1959) (tgt := 2752) dL_law_1959 rfl ?_
  exact g_sub (lv' := AL o) ⟨rfl, rfl, rfl, rfl, rfl, rfl, trivial⟩ (kont e2)
set_option maxRecDepth 4000 in
theorem lc_40 {kk : Int32} {b : Int32} (hs : mS M = S) (ho : o + 5 ≤ S.1) (hS9 : S.1 < 2147483648) (hM : Shp M) (hM1 : Shp M1) (hM2 : Shp M2) (h1 : EvR l jL_copy 8 162 2 12 [.ref 0, .int (S.2 (o + 1)), .int (S.2 (o + 2)), .ref 212] M (.inl (some (.int kk))) M1) (h2 : EvR l jX7_copy 4 160 0 0 [.ref 198, .int (S.2 (o + 1)), .int (S.2 (o + 2))] M1 (.inl (some (.int b))) M2) (kont : mS M2 = S → Go l jL_law 14 538 601024 7293034 Q 2752 (AL o) [] k n M2) : Go l jL_law 14 538 601024 7293034 Q 1962 (AL o) [] (k + 2) (n + 12) M := by
  refine g_aload_n (pc := 1962) dL_law_1962 rfl trivial ?_
  refine g_aload_n (pc := 1963) dL_law_1963 rfl isA_0 ?_
  refine g_iload (pc := 1964) dL_law_1964 rfl ?_
  refine g_iconst (pc := 1966) (v := 1) dL_law_1966 rfl ?_
  refine g_iadd (pc := 1967) dL_law_1967 ?_
  refine g_scriptLoadS (pc := 1968) dL_law_1968 (nI_o1 _) hs (by omega) (by omega) ?_
  refine g_aload_n (pc := 1969) dL_law_1969 rfl isA_0 ?_
  refine g_iload (pc := 1970) dL_law_1970 rfl ?_
  refine g_iconst (pc := 1972) (v := 2) dL_law_1972 rfl ?_
  refine g_iadd (pc := 1973) dL_law_1973 ?_
  refine g_scriptLoadS (pc := 1974) dL_law_1974 (nI_o2 _) hs (by omega) (by omega) ?_
  refine g_aload_n (pc := 1975) dL_law_1975 rfl trivial ?_
  refine g_invSX_s (pc := 1976) (As := [_, _, _, _]) dL_law_1976 rfl (h1) rfl rfl lk_L_324 rfl (nb rfl) ⟨nb rfl, nb rfl⟩ rfl (fun e1 => ?_)
  have e1 := e1.trans hs
  refine g_istore (pc := 1979) (lv' := [(0, _), (1, _), (2, _), (3, _), (4, _), (5, _), (6, _)]) dL_law_1979 (nl rfl) rfl ?_
  refine g_aload_n (pc := 1981) dL_law_1981 rfl trivial ?_
  refine g_aload_n (pc := 1982) dL_law_1982 rfl isA_0 ?_
  refine g_iload (pc := 1983) dL_law_1983 rfl ?_
  refine g_iconst (pc := 1985) (v := 1) dL_law_1985 rfl ?_
  refine g_iadd (pc := 1986) dL_law_1986 ?_
  refine g_scriptLoadS (pc := 1987) dL_law_1987 (nI_o1 _) e1 (by omega) (by omega) ?_
  refine g_aload_n (pc := 1988) dL_law_1988 rfl isA_0 ?_
  refine g_iload (pc := 1989) dL_law_1989 rfl ?_
  refine g_iconst (pc := 1991) (v := 2) dL_law_1991 rfl ?_
  refine g_iadd (pc := 1992) dL_law_1992 ?_
  refine g_scriptLoadS (pc := 1993) dL_law_1993 (nI_o2 _) e1 (by omega) (by omega) ?_
  refine g_invV_s (pc := 1994) (As := [_, _]) dL_law_1994 rfl (h2) rfl rfl (shK hM1 rfl) rfl rfl lk_L_326 rfl (nb rfl) ⟨nb rfl, nb rfl⟩ rfl (fun e2 => ?_)
  have e2 := e2.trans e1
  refine g_istore (pc := 1997) (lv' := [(0, _), (1, _), (2, _), (3, _), (4, _), (5, _), (6, _), (7, _)]) dL_law_1997 (nl rfl) rfl ?_
  refine g_goto (pc := 1999) (tgt := 2752) dL_law_1999 rfl ?_
  exact g_sub (lv' := AL o) ⟨rfl, rfl, rfl, rfl, rfl, rfl, trivial⟩ (kont e2)
set_option maxRecDepth 4000 in
theorem lc_41 {kk : Int32} {b : Int32} (hs : mS M = S) (ho : o + 5 ≤ S.1) (hS9 : S.1 < 2147483648) (hM : Shp M) (hM1 : Shp M1) (hM2 : Shp M2) (h1 : EvR l jL_transpose 8 163 2 12 [.ref 0, .int (S.2 (o + 1)), .int (S.2 (o + 2)), .ref 212] M (.inl (some (.int kk))) M1) (h2 : EvR l jX7_transpose 4 160 0 0 [.ref 198, .int (S.2 (o + 1)), .int (S.2 (o + 2))] M1 (.inl (some (.int b))) M2) (kont : mS M2 = S → Go l jL_law 14 538 601024 7293034 Q 2752 (AL o) [] k n M2) : Go l jL_law 14 538 601024 7293034 Q 2002 (AL o) [] (k + 2) (n + 12) M := by
  refine g_aload_n (pc := 2002) dL_law_2002 rfl trivial ?_
  refine g_aload_n (pc := 2003) dL_law_2003 rfl isA_0 ?_
  refine g_iload (pc := 2004) dL_law_2004 rfl ?_
  refine g_iconst (pc := 2006) (v := 1) dL_law_2006 rfl ?_
  refine g_iadd (pc := 2007) dL_law_2007 ?_
  refine g_scriptLoadS (pc := 2008) dL_law_2008 (nI_o1 _) hs (by omega) (by omega) ?_
  refine g_aload_n (pc := 2009) dL_law_2009 rfl isA_0 ?_
  refine g_iload (pc := 2010) dL_law_2010 rfl ?_
  refine g_iconst (pc := 2012) (v := 2) dL_law_2012 rfl ?_
  refine g_iadd (pc := 2013) dL_law_2013 ?_
  refine g_scriptLoadS (pc := 2014) dL_law_2014 (nI_o2 _) hs (by omega) (by omega) ?_
  refine g_aload_n (pc := 2015) dL_law_2015 rfl trivial ?_
  refine g_invSX_s (pc := 2016) (As := [_, _, _, _]) dL_law_2016 rfl (h1) rfl rfl lk_L_327 rfl (nb rfl) ⟨nb rfl, nb rfl⟩ rfl (fun e1 => ?_)
  have e1 := e1.trans hs
  refine g_istore (pc := 2019) (lv' := [(0, _), (1, _), (2, _), (3, _), (4, _), (5, _), (6, _)]) dL_law_2019 (nl rfl) rfl ?_
  refine g_aload_n (pc := 2021) dL_law_2021 rfl trivial ?_
  refine g_aload_n (pc := 2022) dL_law_2022 rfl isA_0 ?_
  refine g_iload (pc := 2023) dL_law_2023 rfl ?_
  refine g_iconst (pc := 2025) (v := 1) dL_law_2025 rfl ?_
  refine g_iadd (pc := 2026) dL_law_2026 ?_
  refine g_scriptLoadS (pc := 2027) dL_law_2027 (nI_o1 _) e1 (by omega) (by omega) ?_
  refine g_aload_n (pc := 2028) dL_law_2028 rfl isA_0 ?_
  refine g_iload (pc := 2029) dL_law_2029 rfl ?_
  refine g_iconst (pc := 2031) (v := 2) dL_law_2031 rfl ?_
  refine g_iadd (pc := 2032) dL_law_2032 ?_
  refine g_scriptLoadS (pc := 2033) dL_law_2033 (nI_o2 _) e1 (by omega) (by omega) ?_
  refine g_invV_s (pc := 2034) (As := [_, _]) dL_law_2034 rfl (h2) rfl rfl (shK hM1 rfl) rfl rfl lk_L_329 rfl (nb rfl) ⟨nb rfl, nb rfl⟩ rfl (fun e2 => ?_)
  have e2 := e2.trans e1
  refine g_istore (pc := 2037) (lv' := [(0, _), (1, _), (2, _), (3, _), (4, _), (5, _), (6, _), (7, _)]) dL_law_2037 (nl rfl) rfl ?_
  refine g_goto (pc := 2039) (tgt := 2752) dL_law_2039 rfl ?_
  exact g_sub (lv' := AL o) ⟨rfl, rfl, rfl, rfl, rfl, rfl, trivial⟩ (kont e2)
set_option maxRecDepth 4000 in
theorem lc_42 {kk : Int32} {b : Int32} (hs : mS M = S) (ho : o + 5 ≤ S.1) (hS9 : S.1 < 2147483648) (hM : Shp M) (hM1 : Shp M1) (hM2 : Shp M2) (h1 : EvR l jL_combine 8 165 4 24 [.ref 0, .int (S.2 (o + 1)), .int (S.2 (o + 2)), .int (S.2 (o + 3)), .int (S.2 (o + 4)), .ref 212] M (.inl (some (.int kk))) M1) (h2 : EvR l jX7_combine 4 160 0 0 [.ref 198, .int (S.2 (o + 1)), .int (S.2 (o + 2)), .int (S.2 (o + 3)), .int (S.2 (o + 4))] M1 (.inl (some (.int b))) M2) (kont : mS M2 = S → Go l jL_law 14 538 601024 7293034 Q 2752 (AL o) [] k n M2) : Go l jL_law 14 538 601024 7293034 Q 2042 (AL o) [] (k + 4) (n + 24) M := by
  refine g_aload_n (pc := 2042) dL_law_2042 rfl trivial ?_
  refine g_aload_n (pc := 2043) dL_law_2043 rfl isA_0 ?_
  refine g_iload (pc := 2044) dL_law_2044 rfl ?_
  refine g_iconst (pc := 2046) (v := 1) dL_law_2046 rfl ?_
  refine g_iadd (pc := 2047) dL_law_2047 ?_
  refine g_scriptLoadS (pc := 2048) dL_law_2048 (nI_o1 _) hs (by omega) (by omega) ?_
  refine g_aload_n (pc := 2049) dL_law_2049 rfl isA_0 ?_
  refine g_iload (pc := 2050) dL_law_2050 rfl ?_
  refine g_iconst (pc := 2052) (v := 2) dL_law_2052 rfl ?_
  refine g_iadd (pc := 2053) dL_law_2053 ?_
  refine g_scriptLoadS (pc := 2054) dL_law_2054 (nI_o2 _) hs (by omega) (by omega) ?_
  refine g_aload_n (pc := 2055) dL_law_2055 rfl isA_0 ?_
  refine g_iload (pc := 2056) dL_law_2056 rfl ?_
  refine g_iconst (pc := 2058) (v := 3) dL_law_2058 rfl ?_
  refine g_iadd (pc := 2059) dL_law_2059 ?_
  refine g_scriptLoadS (pc := 2060) dL_law_2060 (nI_o3 _) hs (by omega) (by omega) ?_
  refine g_aload_n (pc := 2061) dL_law_2061 rfl isA_0 ?_
  refine g_iload (pc := 2062) dL_law_2062 rfl ?_
  refine g_iconst (pc := 2064) (v := 4) dL_law_2064 rfl ?_
  refine g_iadd (pc := 2065) dL_law_2065 ?_
  refine g_scriptLoadS (pc := 2066) dL_law_2066 (nI_o4 _) hs (by omega) (by omega) ?_
  refine g_aload_n (pc := 2067) dL_law_2067 rfl trivial ?_
  refine g_invSX_s (pc := 2068) (As := [_, _, _, _, _, _]) dL_law_2068 rfl (h1) rfl rfl lk_L_330 rfl (nb rfl) ⟨nb rfl, nb rfl⟩ rfl (fun e1 => ?_)
  have e1 := e1.trans hs
  refine g_istore (pc := 2071) (lv' := [(0, _), (1, _), (2, _), (3, _), (4, _), (5, _), (6, _)]) dL_law_2071 (nl rfl) rfl ?_
  refine g_aload_n (pc := 2073) dL_law_2073 rfl trivial ?_
  refine g_aload_n (pc := 2074) dL_law_2074 rfl isA_0 ?_
  refine g_iload (pc := 2075) dL_law_2075 rfl ?_
  refine g_iconst (pc := 2077) (v := 1) dL_law_2077 rfl ?_
  refine g_iadd (pc := 2078) dL_law_2078 ?_
  refine g_scriptLoadS (pc := 2079) dL_law_2079 (nI_o1 _) e1 (by omega) (by omega) ?_
  refine g_aload_n (pc := 2080) dL_law_2080 rfl isA_0 ?_
  refine g_iload (pc := 2081) dL_law_2081 rfl ?_
  refine g_iconst (pc := 2083) (v := 2) dL_law_2083 rfl ?_
  refine g_iadd (pc := 2084) dL_law_2084 ?_
  refine g_scriptLoadS (pc := 2085) dL_law_2085 (nI_o2 _) e1 (by omega) (by omega) ?_
  refine g_aload_n (pc := 2086) dL_law_2086 rfl isA_0 ?_
  refine g_iload (pc := 2087) dL_law_2087 rfl ?_
  refine g_iconst (pc := 2089) (v := 3) dL_law_2089 rfl ?_
  refine g_iadd (pc := 2090) dL_law_2090 ?_
  refine g_scriptLoadS (pc := 2091) dL_law_2091 (nI_o3 _) e1 (by omega) (by omega) ?_
  refine g_aload_n (pc := 2092) dL_law_2092 rfl isA_0 ?_
  refine g_iload (pc := 2093) dL_law_2093 rfl ?_
  refine g_iconst (pc := 2095) (v := 4) dL_law_2095 rfl ?_
  refine g_iadd (pc := 2096) dL_law_2096 ?_
  refine g_scriptLoadS (pc := 2097) dL_law_2097 (nI_o4 _) e1 (by omega) (by omega) ?_
  refine g_invV_s (pc := 2098) (As := [_, _, _, _]) dL_law_2098 rfl (h2) rfl rfl (shK hM1 rfl) rfl rfl lk_L_332 rfl (nb rfl) ⟨nb rfl, nb rfl⟩ rfl (fun e2 => ?_)
  have e2 := e2.trans e1
  refine g_istore (pc := 2101) (lv' := [(0, _), (1, _), (2, _), (3, _), (4, _), (5, _), (6, _), (7, _)]) dL_law_2101 (nl rfl) rfl ?_
  refine g_goto (pc := 2103) (tgt := 2752) dL_law_2103 rfl ?_
  exact g_sub (lv' := AL o) ⟨rfl, rfl, rfl, rfl, rfl, rfl, trivial⟩ (kont e2)
set_option maxRecDepth 4000 in
theorem lc_43 {kk : Int32} {b : Int32} {f : Int32} (hf : f = if S.2 (o + 4) = 0 then 0 else 1) (hs : mS M = S) (ho : o + 5 ≤ S.1) (hS9 : S.1 < 2147483648) (hM : Shp M) (hM1 : Shp M1) (hM2 : Shp M2) (h1 : EvR l jL_product 8 164 3 18 [.ref 0, .int (S.2 (o + 1)), .int (S.2 (o + 2)), .int (S.2 (o + 3)), .int f, .ref 212] M (.inl (some (.int kk))) M1) (h2 : EvR l jX7_product 4 160 0 0 [.ref 198, .int (S.2 (o + 1)), .int (S.2 (o + 2)), .int (S.2 (o + 3)), .int f] M1 (.inl (some (.int b))) M2) (kont : mS M2 = S → Go l jL_law 14 538 601024 7293034 Q 2752 (AL o) [] k n M2) : Go l jL_law 14 538 601024 7293034 Q 2106 (AL o) [] (k + 3) (n + 18) M := by
  by_cases hx : S.2 (o + 4) = 0
  · rw [if_pos hx] at hf; subst hf
    refine g_aload_n (pc := 2106) dL_law_2106 rfl trivial ?_
    refine g_aload_n (pc := 2107) dL_law_2107 rfl isA_0 ?_
    refine g_iload (pc := 2108) dL_law_2108 rfl ?_
    refine g_iconst (pc := 2110) (v := 1) dL_law_2110 rfl ?_
    refine g_iadd (pc := 2111) dL_law_2111 ?_
    refine g_scriptLoadS (pc := 2112) dL_law_2112 (nI_o1 _) hs (by omega) (by omega) ?_
    refine g_aload_n (pc := 2113) dL_law_2113 rfl isA_0 ?_
    refine g_iload (pc := 2114) dL_law_2114 rfl ?_
    refine g_iconst (pc := 2116) (v := 2) dL_law_2116 rfl ?_
    refine g_iadd (pc := 2117) dL_law_2117 ?_
    refine g_scriptLoadS (pc := 2118) dL_law_2118 (nI_o2 _) hs (by omega) (by omega) ?_
    refine g_aload_n (pc := 2119) dL_law_2119 rfl isA_0 ?_
    refine g_iload (pc := 2120) dL_law_2120 rfl ?_
    refine g_iconst (pc := 2122) (v := 3) dL_law_2122 rfl ?_
    refine g_iadd (pc := 2123) dL_law_2123 ?_
    refine g_scriptLoadS (pc := 2124) dL_law_2124 (nI_o3 _) hs (by omega) (by omega) ?_
    refine g_aload_n (pc := 2125) dL_law_2125 rfl isA_0 ?_
    refine g_iload (pc := 2126) dL_law_2126 rfl ?_
    refine g_iconst (pc := 2128) (v := 4) dL_law_2128 rfl ?_
    refine g_iadd (pc := 2129) dL_law_2129 ?_
    refine g_scriptLoadS (pc := 2130) dL_law_2130 (nI_o4 _) hs (by omega) (by omega) ?_
    refine g_if_eq (pc := 2131) (tgt := 2138) dL_law_2131 rfl (fun _ => ?_) (fun h2131 => absurd (hx) h2131)
    refine g_iconst (pc := 2138) (v := 0) dL_law_2138 rfl ?_
    refine g_aload_n (pc := 2139) dL_law_2139 rfl trivial ?_
    refine g_invSX_s (pc := 2140) (As := [_, _, _, _, _, _]) dL_law_2140 rfl (h1) rfl rfl lk_L_333 rfl (nb rfl) ⟨nb rfl, nb rfl⟩ rfl (fun e1 => ?_)
    have e1 := e1.trans hs
    refine g_istore (pc := 2143) (lv' := [(0, _), (1, _), (2, _), (3, _), (4, _), (5, _), (6, _)]) dL_law_2143 (nl rfl) rfl ?_
    refine g_aload_n (pc := 2145) dL_law_2145 rfl trivial ?_
    refine g_aload_n (pc := 2146) dL_law_2146 rfl isA_0 ?_
    refine g_iload (pc := 2147) dL_law_2147 rfl ?_
    refine g_iconst (pc := 2149) (v := 1) dL_law_2149 rfl ?_
    refine g_iadd (pc := 2150) dL_law_2150 ?_
    refine g_scriptLoadS (pc := 2151) dL_law_2151 (nI_o1 _) e1 (by omega) (by omega) ?_
    refine g_aload_n (pc := 2152) dL_law_2152 rfl isA_0 ?_
    refine g_iload (pc := 2153) dL_law_2153 rfl ?_
    refine g_iconst (pc := 2155) (v := 2) dL_law_2155 rfl ?_
    refine g_iadd (pc := 2156) dL_law_2156 ?_
    refine g_scriptLoadS (pc := 2157) dL_law_2157 (nI_o2 _) e1 (by omega) (by omega) ?_
    refine g_aload_n (pc := 2158) dL_law_2158 rfl isA_0 ?_
    refine g_iload (pc := 2159) dL_law_2159 rfl ?_
    refine g_iconst (pc := 2161) (v := 3) dL_law_2161 rfl ?_
    refine g_iadd (pc := 2162) dL_law_2162 ?_
    refine g_scriptLoadS (pc := 2163) dL_law_2163 (nI_o3 _) e1 (by omega) (by omega) ?_
    refine g_aload_n (pc := 2164) dL_law_2164 rfl isA_0 ?_
    refine g_iload (pc := 2165) dL_law_2165 rfl ?_
    refine g_iconst (pc := 2167) (v := 4) dL_law_2167 rfl ?_
    refine g_iadd (pc := 2168) dL_law_2168 ?_
    refine g_scriptLoadS (pc := 2169) dL_law_2169 (nI_o4 _) e1 (by omega) (by omega) ?_
    refine g_if_eq (pc := 2170) (tgt := 2177) dL_law_2170 rfl (fun _ => ?_) (fun h2170 => absurd (hx) h2170)
    refine g_iconst (pc := 2177) (v := 0) dL_law_2177 rfl ?_
    refine g_invV_s (pc := 2178) (As := [_, _, _, _]) dL_law_2178 rfl (h2) rfl rfl (shK hM1 rfl) rfl rfl lk_L_335 rfl (nb rfl) ⟨nb rfl, nb rfl⟩ rfl (fun e2 => ?_)
    have e2 := e2.trans e1
    refine g_istore (pc := 2181) (lv' := [(0, _), (1, _), (2, _), (3, _), (4, _), (5, _), (6, _), (7, _)]) dL_law_2181 (nl rfl) rfl ?_
    refine g_goto (pc := 2183) (tgt := 2752) dL_law_2183 rfl ?_
    exact g_sub (lv' := AL o) ⟨rfl, rfl, rfl, rfl, rfl, rfl, trivial⟩ (kont e2)
  · rw [if_neg hx] at hf; subst hf
    refine g_aload_n (pc := 2106) dL_law_2106 rfl trivial ?_
    refine g_aload_n (pc := 2107) dL_law_2107 rfl isA_0 ?_
    refine g_iload (pc := 2108) dL_law_2108 rfl ?_
    refine g_iconst (pc := 2110) (v := 1) dL_law_2110 rfl ?_
    refine g_iadd (pc := 2111) dL_law_2111 ?_
    refine g_scriptLoadS (pc := 2112) dL_law_2112 (nI_o1 _) hs (by omega) (by omega) ?_
    refine g_aload_n (pc := 2113) dL_law_2113 rfl isA_0 ?_
    refine g_iload (pc := 2114) dL_law_2114 rfl ?_
    refine g_iconst (pc := 2116) (v := 2) dL_law_2116 rfl ?_
    refine g_iadd (pc := 2117) dL_law_2117 ?_
    refine g_scriptLoadS (pc := 2118) dL_law_2118 (nI_o2 _) hs (by omega) (by omega) ?_
    refine g_aload_n (pc := 2119) dL_law_2119 rfl isA_0 ?_
    refine g_iload (pc := 2120) dL_law_2120 rfl ?_
    refine g_iconst (pc := 2122) (v := 3) dL_law_2122 rfl ?_
    refine g_iadd (pc := 2123) dL_law_2123 ?_
    refine g_scriptLoadS (pc := 2124) dL_law_2124 (nI_o3 _) hs (by omega) (by omega) ?_
    refine g_aload_n (pc := 2125) dL_law_2125 rfl isA_0 ?_
    refine g_iload (pc := 2126) dL_law_2126 rfl ?_
    refine g_iconst (pc := 2128) (v := 4) dL_law_2128 rfl ?_
    refine g_iadd (pc := 2129) dL_law_2129 ?_
    refine g_scriptLoadS (pc := 2130) dL_law_2130 (nI_o4 _) hs (by omega) (by omega) ?_
    refine g_if_eq (pc := 2131) (tgt := 2138) dL_law_2131 rfl (fun h2131 => absurd h2131 (hx)) (fun _ => ?_)
    refine g_iconst (pc := 2134) (v := 1) dL_law_2134 rfl ?_
    refine g_goto (pc := 2135) (tgt := 2139) dL_law_2135 rfl ?_
    refine g_aload_n (pc := 2139) dL_law_2139 rfl trivial ?_
    refine g_invSX_s (pc := 2140) (As := [_, _, _, _, _, _]) dL_law_2140 rfl (h1) rfl rfl lk_L_333 rfl (nb rfl) ⟨nb rfl, nb rfl⟩ rfl (fun e1 => ?_)
    have e1 := e1.trans hs
    refine g_istore (pc := 2143) (lv' := [(0, _), (1, _), (2, _), (3, _), (4, _), (5, _), (6, _)]) dL_law_2143 (nl rfl) rfl ?_
    refine g_aload_n (pc := 2145) dL_law_2145 rfl trivial ?_
    refine g_aload_n (pc := 2146) dL_law_2146 rfl isA_0 ?_
    refine g_iload (pc := 2147) dL_law_2147 rfl ?_
    refine g_iconst (pc := 2149) (v := 1) dL_law_2149 rfl ?_
    refine g_iadd (pc := 2150) dL_law_2150 ?_
    refine g_scriptLoadS (pc := 2151) dL_law_2151 (nI_o1 _) e1 (by omega) (by omega) ?_
    refine g_aload_n (pc := 2152) dL_law_2152 rfl isA_0 ?_
    refine g_iload (pc := 2153) dL_law_2153 rfl ?_
    refine g_iconst (pc := 2155) (v := 2) dL_law_2155 rfl ?_
    refine g_iadd (pc := 2156) dL_law_2156 ?_
    refine g_scriptLoadS (pc := 2157) dL_law_2157 (nI_o2 _) e1 (by omega) (by omega) ?_
    refine g_aload_n (pc := 2158) dL_law_2158 rfl isA_0 ?_
    refine g_iload (pc := 2159) dL_law_2159 rfl ?_
    refine g_iconst (pc := 2161) (v := 3) dL_law_2161 rfl ?_
    refine g_iadd (pc := 2162) dL_law_2162 ?_
    refine g_scriptLoadS (pc := 2163) dL_law_2163 (nI_o3 _) e1 (by omega) (by omega) ?_
    refine g_aload_n (pc := 2164) dL_law_2164 rfl isA_0 ?_
    refine g_iload (pc := 2165) dL_law_2165 rfl ?_
    refine g_iconst (pc := 2167) (v := 4) dL_law_2167 rfl ?_
    refine g_iadd (pc := 2168) dL_law_2168 ?_
    refine g_scriptLoadS (pc := 2169) dL_law_2169 (nI_o4 _) e1 (by omega) (by omega) ?_
    refine g_if_eq (pc := 2170) (tgt := 2177) dL_law_2170 rfl (fun h2170 => absurd h2170 (hx)) (fun _ => ?_)
    refine g_iconst (pc := 2173) (v := 1) dL_law_2173 rfl ?_
    refine g_goto (pc := 2174) (tgt := 2178) dL_law_2174 rfl ?_
    refine g_invV_s (pc := 2178) (As := [_, _, _, _]) dL_law_2178 rfl (h2) rfl rfl (shK hM1 rfl) rfl rfl lk_L_335 rfl (nb rfl) ⟨nb rfl, nb rfl⟩ rfl (fun e2 => ?_)
    have e2 := e2.trans e1
    refine g_istore (pc := 2181) (lv' := [(0, _), (1, _), (2, _), (3, _), (4, _), (5, _), (6, _), (7, _)]) dL_law_2181 (nl rfl) rfl ?_
    refine g_goto (pc := 2183) (tgt := 2752) dL_law_2183 rfl ?_
    exact g_sub (lv' := AL o) ⟨rfl, rfl, rfl, rfl, rfl, rfl, trivial⟩ (kont e2)
set_option maxRecDepth 4000 in
theorem lc_44 {kk : Int32} {b : Int32} {f : Int32} (hf : f = if S.2 (o + 4) = 0 then 0 else 1) (hs : mS M = S) (ho : o + 5 ≤ S.1) (hS9 : S.1 < 2147483648) (hM : Shp M) (hM1 : Shp M1) (hM2 : Shp M2) (h1 : EvR l jL_power 8 165 4 24 [.ref 0, .int (S.2 (o + 1)), .int (S.2 (o + 2)), .int (S.2 (o + 3)), .int f, .ref 212] M (.inl (some (.int kk))) M1) (h2 : EvR l jX7_power 4 160 0 0 [.ref 198, .int (S.2 (o + 1)), .int (S.2 (o + 2)), .int (S.2 (o + 3)), .int f] M1 (.inl (some (.int b))) M2) (kont : mS M2 = S → Go l jL_law 14 538 601024 7293034 Q 2752 (AL o) [] k n M2) : Go l jL_law 14 538 601024 7293034 Q 2186 (AL o) [] (k + 4) (n + 24) M := by
  by_cases hx : S.2 (o + 4) = 0
  · rw [if_pos hx] at hf; subst hf
    refine g_aload_n (pc := 2186) dL_law_2186 rfl trivial ?_
    refine g_aload_n (pc := 2187) dL_law_2187 rfl isA_0 ?_
    refine g_iload (pc := 2188) dL_law_2188 rfl ?_
    refine g_iconst (pc := 2190) (v := 1) dL_law_2190 rfl ?_
    refine g_iadd (pc := 2191) dL_law_2191 ?_
    refine g_scriptLoadS (pc := 2192) dL_law_2192 (nI_o1 _) hs (by omega) (by omega) ?_
    refine g_aload_n (pc := 2193) dL_law_2193 rfl isA_0 ?_
    refine g_iload (pc := 2194) dL_law_2194 rfl ?_
    refine g_iconst (pc := 2196) (v := 2) dL_law_2196 rfl ?_
    refine g_iadd (pc := 2197) dL_law_2197 ?_
    refine g_scriptLoadS (pc := 2198) dL_law_2198 (nI_o2 _) hs (by omega) (by omega) ?_
    refine g_aload_n (pc := 2199) dL_law_2199 rfl isA_0 ?_
    refine g_iload (pc := 2200) dL_law_2200 rfl ?_
    refine g_iconst (pc := 2202) (v := 3) dL_law_2202 rfl ?_
    refine g_iadd (pc := 2203) dL_law_2203 ?_
    refine g_scriptLoadS (pc := 2204) dL_law_2204 (nI_o3 _) hs (by omega) (by omega) ?_
    refine g_aload_n (pc := 2205) dL_law_2205 rfl isA_0 ?_
    refine g_iload (pc := 2206) dL_law_2206 rfl ?_
    refine g_iconst (pc := 2208) (v := 4) dL_law_2208 rfl ?_
    refine g_iadd (pc := 2209) dL_law_2209 ?_
    refine g_scriptLoadS (pc := 2210) dL_law_2210 (nI_o4 _) hs (by omega) (by omega) ?_
    refine g_if_eq (pc := 2211) (tgt := 2218) dL_law_2211 rfl (fun _ => ?_) (fun h2211 => absurd (hx) h2211)
    refine g_iconst (pc := 2218) (v := 0) dL_law_2218 rfl ?_
    refine g_aload_n (pc := 2219) dL_law_2219 rfl trivial ?_
    refine g_invSX_s (pc := 2220) (As := [_, _, _, _, _, _]) dL_law_2220 rfl (h1) rfl rfl lk_L_336 rfl (nb rfl) ⟨nb rfl, nb rfl⟩ rfl (fun e1 => ?_)
    have e1 := e1.trans hs
    refine g_istore (pc := 2223) (lv' := [(0, _), (1, _), (2, _), (3, _), (4, _), (5, _), (6, _)]) dL_law_2223 (nl rfl) rfl ?_
    refine g_aload_n (pc := 2225) dL_law_2225 rfl trivial ?_
    refine g_aload_n (pc := 2226) dL_law_2226 rfl isA_0 ?_
    refine g_iload (pc := 2227) dL_law_2227 rfl ?_
    refine g_iconst (pc := 2229) (v := 1) dL_law_2229 rfl ?_
    refine g_iadd (pc := 2230) dL_law_2230 ?_
    refine g_scriptLoadS (pc := 2231) dL_law_2231 (nI_o1 _) e1 (by omega) (by omega) ?_
    refine g_aload_n (pc := 2232) dL_law_2232 rfl isA_0 ?_
    refine g_iload (pc := 2233) dL_law_2233 rfl ?_
    refine g_iconst (pc := 2235) (v := 2) dL_law_2235 rfl ?_
    refine g_iadd (pc := 2236) dL_law_2236 ?_
    refine g_scriptLoadS (pc := 2237) dL_law_2237 (nI_o2 _) e1 (by omega) (by omega) ?_
    refine g_aload_n (pc := 2238) dL_law_2238 rfl isA_0 ?_
    refine g_iload (pc := 2239) dL_law_2239 rfl ?_
    refine g_iconst (pc := 2241) (v := 3) dL_law_2241 rfl ?_
    refine g_iadd (pc := 2242) dL_law_2242 ?_
    refine g_scriptLoadS (pc := 2243) dL_law_2243 (nI_o3 _) e1 (by omega) (by omega) ?_
    refine g_aload_n (pc := 2244) dL_law_2244 rfl isA_0 ?_
    refine g_iload (pc := 2245) dL_law_2245 rfl ?_
    refine g_iconst (pc := 2247) (v := 4) dL_law_2247 rfl ?_
    refine g_iadd (pc := 2248) dL_law_2248 ?_
    refine g_scriptLoadS (pc := 2249) dL_law_2249 (nI_o4 _) e1 (by omega) (by omega) ?_
    refine g_if_eq (pc := 2250) (tgt := 2257) dL_law_2250 rfl (fun _ => ?_) (fun h2250 => absurd (hx) h2250)
    refine g_iconst (pc := 2257) (v := 0) dL_law_2257 rfl ?_
    refine g_invV_s (pc := 2258) (As := [_, _, _, _]) dL_law_2258 rfl (h2) rfl rfl (shK hM1 rfl) rfl rfl lk_L_338 rfl (nb rfl) ⟨nb rfl, nb rfl⟩ rfl (fun e2 => ?_)
    have e2 := e2.trans e1
    refine g_istore (pc := 2261) (lv' := [(0, _), (1, _), (2, _), (3, _), (4, _), (5, _), (6, _), (7, _)]) dL_law_2261 (nl rfl) rfl ?_
    refine g_goto (pc := 2263) (tgt := 2752) dL_law_2263 rfl ?_
    exact g_sub (lv' := AL o) ⟨rfl, rfl, rfl, rfl, rfl, rfl, trivial⟩ (kont e2)
  · rw [if_neg hx] at hf; subst hf
    refine g_aload_n (pc := 2186) dL_law_2186 rfl trivial ?_
    refine g_aload_n (pc := 2187) dL_law_2187 rfl isA_0 ?_
    refine g_iload (pc := 2188) dL_law_2188 rfl ?_
    refine g_iconst (pc := 2190) (v := 1) dL_law_2190 rfl ?_
    refine g_iadd (pc := 2191) dL_law_2191 ?_
    refine g_scriptLoadS (pc := 2192) dL_law_2192 (nI_o1 _) hs (by omega) (by omega) ?_
    refine g_aload_n (pc := 2193) dL_law_2193 rfl isA_0 ?_
    refine g_iload (pc := 2194) dL_law_2194 rfl ?_
    refine g_iconst (pc := 2196) (v := 2) dL_law_2196 rfl ?_
    refine g_iadd (pc := 2197) dL_law_2197 ?_
    refine g_scriptLoadS (pc := 2198) dL_law_2198 (nI_o2 _) hs (by omega) (by omega) ?_
    refine g_aload_n (pc := 2199) dL_law_2199 rfl isA_0 ?_
    refine g_iload (pc := 2200) dL_law_2200 rfl ?_
    refine g_iconst (pc := 2202) (v := 3) dL_law_2202 rfl ?_
    refine g_iadd (pc := 2203) dL_law_2203 ?_
    refine g_scriptLoadS (pc := 2204) dL_law_2204 (nI_o3 _) hs (by omega) (by omega) ?_
    refine g_aload_n (pc := 2205) dL_law_2205 rfl isA_0 ?_
    refine g_iload (pc := 2206) dL_law_2206 rfl ?_
    refine g_iconst (pc := 2208) (v := 4) dL_law_2208 rfl ?_
    refine g_iadd (pc := 2209) dL_law_2209 ?_
    refine g_scriptLoadS (pc := 2210) dL_law_2210 (nI_o4 _) hs (by omega) (by omega) ?_
    refine g_if_eq (pc := 2211) (tgt := 2218) dL_law_2211 rfl (fun h2211 => absurd h2211 (hx)) (fun _ => ?_)
    refine g_iconst (pc := 2214) (v := 1) dL_law_2214 rfl ?_
    refine g_goto (pc := 2215) (tgt := 2219) dL_law_2215 rfl ?_
    refine g_aload_n (pc := 2219) dL_law_2219 rfl trivial ?_
    refine g_invSX_s (pc := 2220) (As := [_, _, _, _, _, _]) dL_law_2220 rfl (h1) rfl rfl lk_L_336 rfl (nb rfl) ⟨nb rfl, nb rfl⟩ rfl (fun e1 => ?_)
    have e1 := e1.trans hs
    refine g_istore (pc := 2223) (lv' := [(0, _), (1, _), (2, _), (3, _), (4, _), (5, _), (6, _)]) dL_law_2223 (nl rfl) rfl ?_
    refine g_aload_n (pc := 2225) dL_law_2225 rfl trivial ?_
    refine g_aload_n (pc := 2226) dL_law_2226 rfl isA_0 ?_
    refine g_iload (pc := 2227) dL_law_2227 rfl ?_
    refine g_iconst (pc := 2229) (v := 1) dL_law_2229 rfl ?_
    refine g_iadd (pc := 2230) dL_law_2230 ?_
    refine g_scriptLoadS (pc := 2231) dL_law_2231 (nI_o1 _) e1 (by omega) (by omega) ?_
    refine g_aload_n (pc := 2232) dL_law_2232 rfl isA_0 ?_
    refine g_iload (pc := 2233) dL_law_2233 rfl ?_
    refine g_iconst (pc := 2235) (v := 2) dL_law_2235 rfl ?_
    refine g_iadd (pc := 2236) dL_law_2236 ?_
    refine g_scriptLoadS (pc := 2237) dL_law_2237 (nI_o2 _) e1 (by omega) (by omega) ?_
    refine g_aload_n (pc := 2238) dL_law_2238 rfl isA_0 ?_
    refine g_iload (pc := 2239) dL_law_2239 rfl ?_
    refine g_iconst (pc := 2241) (v := 3) dL_law_2241 rfl ?_
    refine g_iadd (pc := 2242) dL_law_2242 ?_
    refine g_scriptLoadS (pc := 2243) dL_law_2243 (nI_o3 _) e1 (by omega) (by omega) ?_
    refine g_aload_n (pc := 2244) dL_law_2244 rfl isA_0 ?_
    refine g_iload (pc := 2245) dL_law_2245 rfl ?_
    refine g_iconst (pc := 2247) (v := 4) dL_law_2247 rfl ?_
    refine g_iadd (pc := 2248) dL_law_2248 ?_
    refine g_scriptLoadS (pc := 2249) dL_law_2249 (nI_o4 _) e1 (by omega) (by omega) ?_
    refine g_if_eq (pc := 2250) (tgt := 2257) dL_law_2250 rfl (fun h2250 => absurd h2250 (hx)) (fun _ => ?_)
    refine g_iconst (pc := 2253) (v := 1) dL_law_2253 rfl ?_
    refine g_goto (pc := 2254) (tgt := 2258) dL_law_2254 rfl ?_
    refine g_invV_s (pc := 2258) (As := [_, _, _, _]) dL_law_2258 rfl (h2) rfl rfl (shK hM1 rfl) rfl rfl lk_L_338 rfl (nb rfl) ⟨nb rfl, nb rfl⟩ rfl (fun e2 => ?_)
    have e2 := e2.trans e1
    refine g_istore (pc := 2261) (lv' := [(0, _), (1, _), (2, _), (3, _), (4, _), (5, _), (6, _), (7, _)]) dL_law_2261 (nl rfl) rfl ?_
    refine g_goto (pc := 2263) (tgt := 2752) dL_law_2263 rfl ?_
    exact g_sub (lv' := AL o) ⟨rfl, rfl, rfl, rfl, rfl, rfl, trivial⟩ (kont e2)
set_option maxRecDepth 4000 in
theorem lc_45 {kk : Int32} {b : Int32} (hs : mS M = S) (ho : o + 5 ≤ S.1) (hS9 : S.1 < 2147483648) (hM : Shp M) (hM1 : Shp M1) (hM2 : Shp M2) (h1 : EvR l jL_invert 8 172 2 12 [.ref 0, .int (S.2 (o + 1)), .int (S.2 (o + 2)), .ref 212] M (.inl (some (.int kk))) M1) (h2 : EvR l jX7_invert 4 160 0 0 [.ref 198, .int (S.2 (o + 1)), .int (S.2 (o + 2))] M1 (.inl (some (.int b))) M2) (kont : mS M2 = S → Go l jL_law 14 538 601024 7293034 Q 2752 (AL o) [] k n M2) : Go l jL_law 14 538 601024 7293034 Q 2266 (AL o) [] (k + 2) (n + 12) M := by
  refine g_aload_n (pc := 2266) dL_law_2266 rfl trivial ?_
  refine g_aload_n (pc := 2267) dL_law_2267 rfl isA_0 ?_
  refine g_iload (pc := 2268) dL_law_2268 rfl ?_
  refine g_iconst (pc := 2270) (v := 1) dL_law_2270 rfl ?_
  refine g_iadd (pc := 2271) dL_law_2271 ?_
  refine g_scriptLoadS (pc := 2272) dL_law_2272 (nI_o1 _) hs (by omega) (by omega) ?_
  refine g_aload_n (pc := 2273) dL_law_2273 rfl isA_0 ?_
  refine g_iload (pc := 2274) dL_law_2274 rfl ?_
  refine g_iconst (pc := 2276) (v := 2) dL_law_2276 rfl ?_
  refine g_iadd (pc := 2277) dL_law_2277 ?_
  refine g_scriptLoadS (pc := 2278) dL_law_2278 (nI_o2 _) hs (by omega) (by omega) ?_
  refine g_aload_n (pc := 2279) dL_law_2279 rfl trivial ?_
  refine g_invSX_s (pc := 2280) (As := [_, _, _, _]) dL_law_2280 rfl (h1) rfl rfl lk_L_339 rfl (nb rfl) ⟨nb rfl, nb rfl⟩ rfl (fun e1 => ?_)
  have e1 := e1.trans hs
  refine g_istore (pc := 2283) (lv' := [(0, _), (1, _), (2, _), (3, _), (4, _), (5, _), (6, _)]) dL_law_2283 (nl rfl) rfl ?_
  refine g_aload_n (pc := 2285) dL_law_2285 rfl trivial ?_
  refine g_aload_n (pc := 2286) dL_law_2286 rfl isA_0 ?_
  refine g_iload (pc := 2287) dL_law_2287 rfl ?_
  refine g_iconst (pc := 2289) (v := 1) dL_law_2289 rfl ?_
  refine g_iadd (pc := 2290) dL_law_2290 ?_
  refine g_scriptLoadS (pc := 2291) dL_law_2291 (nI_o1 _) e1 (by omega) (by omega) ?_
  refine g_aload_n (pc := 2292) dL_law_2292 rfl isA_0 ?_
  refine g_iload (pc := 2293) dL_law_2293 rfl ?_
  refine g_iconst (pc := 2295) (v := 2) dL_law_2295 rfl ?_
  refine g_iadd (pc := 2296) dL_law_2296 ?_
  refine g_scriptLoadS (pc := 2297) dL_law_2297 (nI_o2 _) e1 (by omega) (by omega) ?_
  refine g_invV_s (pc := 2298) (As := [_, _]) dL_law_2298 rfl (h2) rfl rfl (shK hM1 rfl) rfl rfl lk_L_341 rfl (nb rfl) ⟨nb rfl, nb rfl⟩ rfl (fun e2 => ?_)
  have e2 := e2.trans e1
  refine g_istore (pc := 2301) (lv' := [(0, _), (1, _), (2, _), (3, _), (4, _), (5, _), (6, _), (7, _)]) dL_law_2301 (nl rfl) rfl ?_
  refine g_goto (pc := 2303) (tgt := 2752) dL_law_2303 rfl ?_
  exact g_sub (lv' := AL o) ⟨rfl, rfl, rfl, rfl, rfl, rfl, trivial⟩ (kont e2)
set_option maxRecDepth 4000 in
theorem lc_46 {kk : Int32} {b : Int32} (hs : mS M = S) (ho : o + 5 ≤ S.1) (hS9 : S.1 < 2147483648) (hM : Shp M) (hM1 : Shp M1) (hM2 : Shp M2) (h1 : EvR l jL_close 8 162 2 12 [.ref 0, .int (S.2 (o + 1)), .int (S.2 (o + 2)), .ref 212] M (.inl (some (.int kk))) M1) (h2 : EvR l jX7_close 4 160 0 0 [.ref 198, .int (S.2 (o + 1)), .int (S.2 (o + 2))] M1 (.inl (some (.int b))) M2) (kont : mS M2 = S → Go l jL_law 14 538 601024 7293034 Q 2752 (AL o) [] k n M2) : Go l jL_law 14 538 601024 7293034 Q 2306 (AL o) [] (k + 2) (n + 12) M := by
  refine g_aload_n (pc := 2306) dL_law_2306 rfl trivial ?_
  refine g_aload_n (pc := 2307) dL_law_2307 rfl isA_0 ?_
  refine g_iload (pc := 2308) dL_law_2308 rfl ?_
  refine g_iconst (pc := 2310) (v := 1) dL_law_2310 rfl ?_
  refine g_iadd (pc := 2311) dL_law_2311 ?_
  refine g_scriptLoadS (pc := 2312) dL_law_2312 (nI_o1 _) hs (by omega) (by omega) ?_
  refine g_aload_n (pc := 2313) dL_law_2313 rfl isA_0 ?_
  refine g_iload (pc := 2314) dL_law_2314 rfl ?_
  refine g_iconst (pc := 2316) (v := 2) dL_law_2316 rfl ?_
  refine g_iadd (pc := 2317) dL_law_2317 ?_
  refine g_scriptLoadS (pc := 2318) dL_law_2318 (nI_o2 _) hs (by omega) (by omega) ?_
  refine g_aload_n (pc := 2319) dL_law_2319 rfl trivial ?_
  refine g_invSX_s (pc := 2320) (As := [_, _, _, _]) dL_law_2320 rfl (h1) rfl rfl lk_L_342 rfl (nb rfl) ⟨nb rfl, nb rfl⟩ rfl (fun e1 => ?_)
  have e1 := e1.trans hs
  refine g_istore (pc := 2323) (lv' := [(0, _), (1, _), (2, _), (3, _), (4, _), (5, _), (6, _)]) dL_law_2323 (nl rfl) rfl ?_
  refine g_aload_n (pc := 2325) dL_law_2325 rfl trivial ?_
  refine g_aload_n (pc := 2326) dL_law_2326 rfl isA_0 ?_
  refine g_iload (pc := 2327) dL_law_2327 rfl ?_
  refine g_iconst (pc := 2329) (v := 1) dL_law_2329 rfl ?_
  refine g_iadd (pc := 2330) dL_law_2330 ?_
  refine g_scriptLoadS (pc := 2331) dL_law_2331 (nI_o1 _) e1 (by omega) (by omega) ?_
  refine g_aload_n (pc := 2332) dL_law_2332 rfl isA_0 ?_
  refine g_iload (pc := 2333) dL_law_2333 rfl ?_
  refine g_iconst (pc := 2335) (v := 2) dL_law_2335 rfl ?_
  refine g_iadd (pc := 2336) dL_law_2336 ?_
  refine g_scriptLoadS (pc := 2337) dL_law_2337 (nI_o2 _) e1 (by omega) (by omega) ?_
  refine g_invV_s (pc := 2338) (As := [_, _]) dL_law_2338 rfl (h2) rfl rfl (shK hM1 rfl) rfl rfl lk_L_344 rfl (nb rfl) ⟨nb rfl, nb rfl⟩ rfl (fun e2 => ?_)
  have e2 := e2.trans e1
  refine g_istore (pc := 2341) (lv' := [(0, _), (1, _), (2, _), (3, _), (4, _), (5, _), (6, _), (7, _)]) dL_law_2341 (nl rfl) rfl ?_
  refine g_goto (pc := 2343) (tgt := 2752) dL_law_2343 rfl ?_
  exact g_sub (lv' := AL o) ⟨rfl, rfl, rfl, rfl, rfl, rfl, trivial⟩ (kont e2)
set_option maxRecDepth 4000 in
theorem lc_47 {kk : Int32} {b : Int32} (hs : mS M = S) (ho : o + 5 ≤ S.1) (hS9 : S.1 < 2147483648) (hM : Shp M) (hM1 : Shp M1) (hM2 : Shp M2) (h1 : EvR l jL_reduce 8 163 2 12 [.ref 0, .int (S.2 (o + 1)), .int (S.2 (o + 2)), .ref 212] M (.inl (some (.int kk))) M1) (h2 : EvR l jX7_reduce 4 160 0 0 [.ref 198, .int (S.2 (o + 1)), .int (S.2 (o + 2))] M1 (.inl (some (.int b))) M2) (kont : mS M2 = S → Go l jL_law 14 538 601024 7293034 Q 2752 (AL o) [] k n M2) : Go l jL_law 14 538 601024 7293034 Q 2346 (AL o) [] (k + 2) (n + 12) M := by
  refine g_aload_n (pc := 2346) dL_law_2346 rfl trivial ?_
  refine g_aload_n (pc := 2347) dL_law_2347 rfl isA_0 ?_
  refine g_iload (pc := 2348) dL_law_2348 rfl ?_
  refine g_iconst (pc := 2350) (v := 1) dL_law_2350 rfl ?_
  refine g_iadd (pc := 2351) dL_law_2351 ?_
  refine g_scriptLoadS (pc := 2352) dL_law_2352 (nI_o1 _) hs (by omega) (by omega) ?_
  refine g_aload_n (pc := 2353) dL_law_2353 rfl isA_0 ?_
  refine g_iload (pc := 2354) dL_law_2354 rfl ?_
  refine g_iconst (pc := 2356) (v := 2) dL_law_2356 rfl ?_
  refine g_iadd (pc := 2357) dL_law_2357 ?_
  refine g_scriptLoadS (pc := 2358) dL_law_2358 (nI_o2 _) hs (by omega) (by omega) ?_
  refine g_aload_n (pc := 2359) dL_law_2359 rfl trivial ?_
  refine g_invSX_s (pc := 2360) (As := [_, _, _, _]) dL_law_2360 rfl (h1) rfl rfl lk_L_345 rfl (nb rfl) ⟨nb rfl, nb rfl⟩ rfl (fun e1 => ?_)
  have e1 := e1.trans hs
  refine g_istore (pc := 2363) (lv' := [(0, _), (1, _), (2, _), (3, _), (4, _), (5, _), (6, _)]) dL_law_2363 (nl rfl) rfl ?_
  refine g_aload_n (pc := 2365) dL_law_2365 rfl trivial ?_
  refine g_aload_n (pc := 2366) dL_law_2366 rfl isA_0 ?_
  refine g_iload (pc := 2367) dL_law_2367 rfl ?_
  refine g_iconst (pc := 2369) (v := 1) dL_law_2369 rfl ?_
  refine g_iadd (pc := 2370) dL_law_2370 ?_
  refine g_scriptLoadS (pc := 2371) dL_law_2371 (nI_o1 _) e1 (by omega) (by omega) ?_
  refine g_aload_n (pc := 2372) dL_law_2372 rfl isA_0 ?_
  refine g_iload (pc := 2373) dL_law_2373 rfl ?_
  refine g_iconst (pc := 2375) (v := 2) dL_law_2375 rfl ?_
  refine g_iadd (pc := 2376) dL_law_2376 ?_
  refine g_scriptLoadS (pc := 2377) dL_law_2377 (nI_o2 _) e1 (by omega) (by omega) ?_
  refine g_invV_s (pc := 2378) (As := [_, _]) dL_law_2378 rfl (h2) rfl rfl (shK hM1 rfl) rfl rfl lk_L_347 rfl (nb rfl) ⟨nb rfl, nb rfl⟩ rfl (fun e2 => ?_)
  have e2 := e2.trans e1
  refine g_istore (pc := 2381) (lv' := [(0, _), (1, _), (2, _), (3, _), (4, _), (5, _), (6, _), (7, _)]) dL_law_2381 (nl rfl) rfl ?_
  refine g_goto (pc := 2383) (tgt := 2752) dL_law_2383 rfl ?_
  exact g_sub (lv' := AL o) ⟨rfl, rfl, rfl, rfl, rfl, rfl, trivial⟩ (kont e2)
set_option maxRecDepth 4000 in
theorem lc_48 {kk : Int32} {b : Int32} (hs : mS M = S) (ho : o + 5 ≤ S.1) (hS9 : S.1 < 2147483648) (hM : Shp M) (hM1 : Shp M1) (hM2 : Shp M2) (h1 : EvR l jL_exchange 10 187 3 18 [.ref 0, .int (S.2 (o + 1)), .int (S.2 (o + 2)), .int (S.2 (o + 3)), .ref 212] M (.inl (some (.int kk))) M1) (h2 : EvR l jX7_exchange 4 160 0 0 [.ref 198, .int (S.2 (o + 1)), .int (S.2 (o + 2)), .int (S.2 (o + 3))] M1 (.inl (some (.int b))) M2) (kont : mS M2 = S → Go l jL_law 14 538 601024 7293034 Q 2752 (AL o) [] k n M2) : Go l jL_law 14 538 601024 7293034 Q 2386 (AL o) [] (k + 3) (n + 18) M := by
  refine g_aload_n (pc := 2386) dL_law_2386 rfl trivial ?_
  refine g_aload_n (pc := 2387) dL_law_2387 rfl isA_0 ?_
  refine g_iload (pc := 2388) dL_law_2388 rfl ?_
  refine g_iconst (pc := 2390) (v := 1) dL_law_2390 rfl ?_
  refine g_iadd (pc := 2391) dL_law_2391 ?_
  refine g_scriptLoadS (pc := 2392) dL_law_2392 (nI_o1 _) hs (by omega) (by omega) ?_
  refine g_aload_n (pc := 2393) dL_law_2393 rfl isA_0 ?_
  refine g_iload (pc := 2394) dL_law_2394 rfl ?_
  refine g_iconst (pc := 2396) (v := 2) dL_law_2396 rfl ?_
  refine g_iadd (pc := 2397) dL_law_2397 ?_
  refine g_scriptLoadS (pc := 2398) dL_law_2398 (nI_o2 _) hs (by omega) (by omega) ?_
  refine g_aload_n (pc := 2399) dL_law_2399 rfl isA_0 ?_
  refine g_iload (pc := 2400) dL_law_2400 rfl ?_
  refine g_iconst (pc := 2402) (v := 3) dL_law_2402 rfl ?_
  refine g_iadd (pc := 2403) dL_law_2403 ?_
  refine g_scriptLoadS (pc := 2404) dL_law_2404 (nI_o3 _) hs (by omega) (by omega) ?_
  refine g_aload_n (pc := 2405) dL_law_2405 rfl trivial ?_
  refine g_invSX_s (pc := 2406) (As := [_, _, _, _, _]) dL_law_2406 rfl (h1) rfl rfl lk_L_348 rfl (nb rfl) ⟨nb rfl, nb rfl⟩ rfl (fun e1 => ?_)
  have e1 := e1.trans hs
  refine g_istore (pc := 2409) (lv' := [(0, _), (1, _), (2, _), (3, _), (4, _), (5, _), (6, _)]) dL_law_2409 (nl rfl) rfl ?_
  refine g_aload_n (pc := 2411) dL_law_2411 rfl trivial ?_
  refine g_aload_n (pc := 2412) dL_law_2412 rfl isA_0 ?_
  refine g_iload (pc := 2413) dL_law_2413 rfl ?_
  refine g_iconst (pc := 2415) (v := 1) dL_law_2415 rfl ?_
  refine g_iadd (pc := 2416) dL_law_2416 ?_
  refine g_scriptLoadS (pc := 2417) dL_law_2417 (nI_o1 _) e1 (by omega) (by omega) ?_
  refine g_aload_n (pc := 2418) dL_law_2418 rfl isA_0 ?_
  refine g_iload (pc := 2419) dL_law_2419 rfl ?_
  refine g_iconst (pc := 2421) (v := 2) dL_law_2421 rfl ?_
  refine g_iadd (pc := 2422) dL_law_2422 ?_
  refine g_scriptLoadS (pc := 2423) dL_law_2423 (nI_o2 _) e1 (by omega) (by omega) ?_
  refine g_aload_n (pc := 2424) dL_law_2424 rfl isA_0 ?_
  refine g_iload (pc := 2425) dL_law_2425 rfl ?_
  refine g_iconst (pc := 2427) (v := 3) dL_law_2427 rfl ?_
  refine g_iadd (pc := 2428) dL_law_2428 ?_
  refine g_scriptLoadS (pc := 2429) dL_law_2429 (nI_o3 _) e1 (by omega) (by omega) ?_
  refine g_invV_s (pc := 2430) (As := [_, _, _]) dL_law_2430 rfl (h2) rfl rfl (shK hM1 rfl) rfl rfl lk_L_350 rfl (nb rfl) ⟨nb rfl, nb rfl⟩ rfl (fun e2 => ?_)
  have e2 := e2.trans e1
  refine g_istore (pc := 2433) (lv' := [(0, _), (1, _), (2, _), (3, _), (4, _), (5, _), (6, _), (7, _)]) dL_law_2433 (nl rfl) rfl ?_
  refine g_goto (pc := 2435) (tgt := 2752) dL_law_2435 rfl ?_
  exact g_sub (lv' := AL o) ⟨rfl, rfl, rfl, rfl, rfl, rfl, trivial⟩ (kont e2)
set_option maxRecDepth 4000 in
theorem lc_49 {kk : Int32} {b : Int32} {f : Int32} (hf : f = if S.2 (o + 2) = 0 then 0 else 1) (hs : mS M = S) (ho : o + 5 ≤ S.1) (hS9 : S.1 < 2147483648) (hM : Shp M) (hM1 : Shp M1) (hM2 : Shp M2) (h1 : EvR l jL_keep 8 163 1 6 [.ref 0, .int (S.2 (o + 1)), .int f, .ref 212] M (.inl (some (.int kk))) M1) (h2 : EvR l jX7_keep 4 160 0 0 [.ref 198, .int (S.2 (o + 1)), .int f] M1 (.inl (some (.int b))) M2) (kont : mS M2 = S → Go l jL_law 14 538 601024 7293034 Q 2752 (AL o) [] k n M2) : Go l jL_law 14 538 601024 7293034 Q 2438 (AL o) [] (k + 1) (n + 6) M := by
  by_cases hx : S.2 (o + 2) = 0
  · rw [if_pos hx] at hf; subst hf
    refine g_aload_n (pc := 2438) dL_law_2438 rfl trivial ?_
    refine g_aload_n (pc := 2439) dL_law_2439 rfl isA_0 ?_
    refine g_iload (pc := 2440) dL_law_2440 rfl ?_
    refine g_iconst (pc := 2442) (v := 1) dL_law_2442 rfl ?_
    refine g_iadd (pc := 2443) dL_law_2443 ?_
    refine g_scriptLoadS (pc := 2444) dL_law_2444 (nI_o1 _) hs (by omega) (by omega) ?_
    refine g_aload_n (pc := 2445) dL_law_2445 rfl isA_0 ?_
    refine g_iload (pc := 2446) dL_law_2446 rfl ?_
    refine g_iconst (pc := 2448) (v := 2) dL_law_2448 rfl ?_
    refine g_iadd (pc := 2449) dL_law_2449 ?_
    refine g_scriptLoadS (pc := 2450) dL_law_2450 (nI_o2 _) hs (by omega) (by omega) ?_
    refine g_if_eq (pc := 2451) (tgt := 2458) dL_law_2451 rfl (fun _ => ?_) (fun h2451 => absurd (hx) h2451)
    refine g_iconst (pc := 2458) (v := 0) dL_law_2458 rfl ?_
    refine g_aload_n (pc := 2459) dL_law_2459 rfl trivial ?_
    refine g_invSX_s (pc := 2460) (As := [_, _, _, _]) dL_law_2460 rfl (h1) rfl rfl lk_L_351 rfl (nb rfl) ⟨nb rfl, nb rfl⟩ rfl (fun e1 => ?_)
    have e1 := e1.trans hs
    refine g_istore (pc := 2463) (lv' := [(0, _), (1, _), (2, _), (3, _), (4, _), (5, _), (6, _)]) dL_law_2463 (nl rfl) rfl ?_
    refine g_aload_n (pc := 2465) dL_law_2465 rfl trivial ?_
    refine g_aload_n (pc := 2466) dL_law_2466 rfl isA_0 ?_
    refine g_iload (pc := 2467) dL_law_2467 rfl ?_
    refine g_iconst (pc := 2469) (v := 1) dL_law_2469 rfl ?_
    refine g_iadd (pc := 2470) dL_law_2470 ?_
    refine g_scriptLoadS (pc := 2471) dL_law_2471 (nI_o1 _) e1 (by omega) (by omega) ?_
    refine g_aload_n (pc := 2472) dL_law_2472 rfl isA_0 ?_
    refine g_iload (pc := 2473) dL_law_2473 rfl ?_
    refine g_iconst (pc := 2475) (v := 2) dL_law_2475 rfl ?_
    refine g_iadd (pc := 2476) dL_law_2476 ?_
    refine g_scriptLoadS (pc := 2477) dL_law_2477 (nI_o2 _) e1 (by omega) (by omega) ?_
    refine g_if_eq (pc := 2478) (tgt := 2485) dL_law_2478 rfl (fun _ => ?_) (fun h2478 => absurd (hx) h2478)
    refine g_iconst (pc := 2485) (v := 0) dL_law_2485 rfl ?_
    refine g_invV_s (pc := 2486) (As := [_, _]) dL_law_2486 rfl (h2) rfl rfl (shK hM1 rfl) rfl rfl lk_L_354 rfl (nb rfl) ⟨nb rfl, nb rfl⟩ rfl (fun e2 => ?_)
    have e2 := e2.trans e1
    refine g_istore (pc := 2489) (lv' := [(0, _), (1, _), (2, _), (3, _), (4, _), (5, _), (6, _), (7, _)]) dL_law_2489 (nl rfl) rfl ?_
    refine g_goto (pc := 2491) (tgt := 2752) dL_law_2491 rfl ?_
    exact g_sub (lv' := AL o) ⟨rfl, rfl, rfl, rfl, rfl, rfl, trivial⟩ (kont e2)
  · rw [if_neg hx] at hf; subst hf
    refine g_aload_n (pc := 2438) dL_law_2438 rfl trivial ?_
    refine g_aload_n (pc := 2439) dL_law_2439 rfl isA_0 ?_
    refine g_iload (pc := 2440) dL_law_2440 rfl ?_
    refine g_iconst (pc := 2442) (v := 1) dL_law_2442 rfl ?_
    refine g_iadd (pc := 2443) dL_law_2443 ?_
    refine g_scriptLoadS (pc := 2444) dL_law_2444 (nI_o1 _) hs (by omega) (by omega) ?_
    refine g_aload_n (pc := 2445) dL_law_2445 rfl isA_0 ?_
    refine g_iload (pc := 2446) dL_law_2446 rfl ?_
    refine g_iconst (pc := 2448) (v := 2) dL_law_2448 rfl ?_
    refine g_iadd (pc := 2449) dL_law_2449 ?_
    refine g_scriptLoadS (pc := 2450) dL_law_2450 (nI_o2 _) hs (by omega) (by omega) ?_
    refine g_if_eq (pc := 2451) (tgt := 2458) dL_law_2451 rfl (fun h2451 => absurd h2451 (hx)) (fun _ => ?_)
    refine g_iconst (pc := 2454) (v := 1) dL_law_2454 rfl ?_
    refine g_goto (pc := 2455) (tgt := 2459) dL_law_2455 rfl ?_
    refine g_aload_n (pc := 2459) dL_law_2459 rfl trivial ?_
    refine g_invSX_s (pc := 2460) (As := [_, _, _, _]) dL_law_2460 rfl (h1) rfl rfl lk_L_351 rfl (nb rfl) ⟨nb rfl, nb rfl⟩ rfl (fun e1 => ?_)
    have e1 := e1.trans hs
    refine g_istore (pc := 2463) (lv' := [(0, _), (1, _), (2, _), (3, _), (4, _), (5, _), (6, _)]) dL_law_2463 (nl rfl) rfl ?_
    refine g_aload_n (pc := 2465) dL_law_2465 rfl trivial ?_
    refine g_aload_n (pc := 2466) dL_law_2466 rfl isA_0 ?_
    refine g_iload (pc := 2467) dL_law_2467 rfl ?_
    refine g_iconst (pc := 2469) (v := 1) dL_law_2469 rfl ?_
    refine g_iadd (pc := 2470) dL_law_2470 ?_
    refine g_scriptLoadS (pc := 2471) dL_law_2471 (nI_o1 _) e1 (by omega) (by omega) ?_
    refine g_aload_n (pc := 2472) dL_law_2472 rfl isA_0 ?_
    refine g_iload (pc := 2473) dL_law_2473 rfl ?_
    refine g_iconst (pc := 2475) (v := 2) dL_law_2475 rfl ?_
    refine g_iadd (pc := 2476) dL_law_2476 ?_
    refine g_scriptLoadS (pc := 2477) dL_law_2477 (nI_o2 _) e1 (by omega) (by omega) ?_
    refine g_if_eq (pc := 2478) (tgt := 2485) dL_law_2478 rfl (fun h2478 => absurd h2478 (hx)) (fun _ => ?_)
    refine g_iconst (pc := 2481) (v := 1) dL_law_2481 rfl ?_
    refine g_goto (pc := 2482) (tgt := 2486) dL_law_2482 rfl ?_
    refine g_invV_s (pc := 2486) (As := [_, _]) dL_law_2486 rfl (h2) rfl rfl (shK hM1 rfl) rfl rfl lk_L_354 rfl (nb rfl) ⟨nb rfl, nb rfl⟩ rfl (fun e2 => ?_)
    have e2 := e2.trans e1
    refine g_istore (pc := 2489) (lv' := [(0, _), (1, _), (2, _), (3, _), (4, _), (5, _), (6, _), (7, _)]) dL_law_2489 (nl rfl) rfl ?_
    refine g_goto (pc := 2491) (tgt := 2752) dL_law_2491 rfl ?_
    exact g_sub (lv' := AL o) ⟨rfl, rfl, rfl, rfl, rfl, rfl, trivial⟩ (kont e2)
set_option maxRecDepth 4000 in
theorem lc_50 {kk : Int32} {b : Int32} (hs : mS M = S) (ho : o + 5 ≤ S.1) (hS9 : S.1 < 2147483648) (hM : Shp M) (hM1 : Shp M1) (hM2 : Shp M2) (h1 : EvR l jL_setBlock 8 162 1 6 [.ref 0, .int (S.2 (o + 1)), .ref 212] M (.inl (some (.int kk))) M1) (h2 : EvR l jX7_setBlock 4 160 0 0 [.ref 198, .int (S.2 (o + 1))] M1 (.inl (some (.int b))) M2) (kont : mS M2 = S → Go l jL_law 14 538 601024 7293034 Q 2752 (AL o) [] k n M2) : Go l jL_law 14 538 601024 7293034 Q 2494 (AL o) [] (k + 1) (n + 6) M := by
  refine g_aload_n (pc := 2494) dL_law_2494 rfl trivial ?_
  refine g_aload_n (pc := 2495) dL_law_2495 rfl isA_0 ?_
  refine g_iload (pc := 2496) dL_law_2496 rfl ?_
  refine g_iconst (pc := 2498) (v := 1) dL_law_2498 rfl ?_
  refine g_iadd (pc := 2499) dL_law_2499 ?_
  refine g_scriptLoadS (pc := 2500) dL_law_2500 (nI_o1 _) hs (by omega) (by omega) ?_
  refine g_aload_n (pc := 2501) dL_law_2501 rfl trivial ?_
  refine g_invSX_s (pc := 2502) (As := [_, _, _]) dL_law_2502 rfl (h1) rfl rfl lk_L_355 rfl (nb rfl) ⟨nb rfl, nb rfl⟩ rfl (fun e1 => ?_)
  have e1 := e1.trans hs
  refine g_istore (pc := 2505) (lv' := [(0, _), (1, _), (2, _), (3, _), (4, _), (5, _), (6, _)]) dL_law_2505 (nl rfl) rfl ?_
  refine g_aload_n (pc := 2507) dL_law_2507 rfl trivial ?_
  refine g_aload_n (pc := 2508) dL_law_2508 rfl isA_0 ?_
  refine g_iload (pc := 2509) dL_law_2509 rfl ?_
  refine g_iconst (pc := 2511) (v := 1) dL_law_2511 rfl ?_
  refine g_iadd (pc := 2512) dL_law_2512 ?_
  refine g_scriptLoadS (pc := 2513) dL_law_2513 (nI_o1 _) e1 (by omega) (by omega) ?_
  refine g_invV_s (pc := 2514) (As := [_]) dL_law_2514 rfl (h2) rfl rfl (shK hM1 rfl) rfl rfl lk_L_357 rfl (nb rfl) ⟨nb rfl, nb rfl⟩ rfl (fun e2 => ?_)
  have e2 := e2.trans e1
  refine g_istore (pc := 2517) (lv' := [(0, _), (1, _), (2, _), (3, _), (4, _), (5, _), (6, _), (7, _)]) dL_law_2517 (nl rfl) rfl ?_
  refine g_goto (pc := 2519) (tgt := 2752) dL_law_2519 rfl ?_
  exact g_sub (lv' := AL o) ⟨rfl, rfl, rfl, rfl, rfl, rfl, trivial⟩ (kont e2)
set_option maxRecDepth 4000 in
theorem lc_51 {kk : Int32} {b : Int32} (hs : mS M = S) (ho : o + 5 ≤ S.1) (hS9 : S.1 < 2147483648) (hM : Shp M) (hM1 : Shp M1) (hM2 : Shp M2) (h1 : EvR l jL_kept 8 143 2 12 [.ref 0, .int (S.2 (o + 1)), .int (S.2 (o + 2)), .ref 212] M (.inl (some (.int kk))) M1) (h2 : EvR l jX7_kept 4 160 0 0 [.ref 198, .int (S.2 (o + 1)), .int (S.2 (o + 2))] M1 (.inl (some (.int b))) M2) (kont : mS M2 = S → Go l jL_law 14 538 601024 7293034 Q 2752 (AL o) [] k n M2) : Go l jL_law 14 538 601024 7293034 Q 2522 (AL o) [] (k + 2) (n + 12) M := by
  refine g_aload_n (pc := 2522) dL_law_2522 rfl trivial ?_
  refine g_aload_n (pc := 2523) dL_law_2523 rfl isA_0 ?_
  refine g_iload (pc := 2524) dL_law_2524 rfl ?_
  refine g_iconst (pc := 2526) (v := 1) dL_law_2526 rfl ?_
  refine g_iadd (pc := 2527) dL_law_2527 ?_
  refine g_scriptLoadS (pc := 2528) dL_law_2528 (nI_o1 _) hs (by omega) (by omega) ?_
  refine g_aload_n (pc := 2529) dL_law_2529 rfl isA_0 ?_
  refine g_iload (pc := 2530) dL_law_2530 rfl ?_
  refine g_iconst (pc := 2532) (v := 2) dL_law_2532 rfl ?_
  refine g_iadd (pc := 2533) dL_law_2533 ?_
  refine g_scriptLoadS (pc := 2534) dL_law_2534 (nI_o2 _) hs (by omega) (by omega) ?_
  refine g_aload_n (pc := 2535) dL_law_2535 rfl trivial ?_
  refine g_invSX_s (pc := 2536) (As := [_, _, _, _]) dL_law_2536 rfl (h1) rfl rfl lk_L_358 rfl (nb rfl) ⟨nb rfl, nb rfl⟩ rfl (fun e1 => ?_)
  have e1 := e1.trans hs
  refine g_istore (pc := 2539) (lv' := [(0, _), (1, _), (2, _), (3, _), (4, _), (5, _), (6, _)]) dL_law_2539 (nl rfl) rfl ?_
  refine g_aload_n (pc := 2541) dL_law_2541 rfl trivial ?_
  refine g_aload_n (pc := 2542) dL_law_2542 rfl isA_0 ?_
  refine g_iload (pc := 2543) dL_law_2543 rfl ?_
  refine g_iconst (pc := 2545) (v := 1) dL_law_2545 rfl ?_
  refine g_iadd (pc := 2546) dL_law_2546 ?_
  refine g_scriptLoadS (pc := 2547) dL_law_2547 (nI_o1 _) e1 (by omega) (by omega) ?_
  refine g_aload_n (pc := 2548) dL_law_2548 rfl isA_0 ?_
  refine g_iload (pc := 2549) dL_law_2549 rfl ?_
  refine g_iconst (pc := 2551) (v := 2) dL_law_2551 rfl ?_
  refine g_iadd (pc := 2552) dL_law_2552 ?_
  refine g_scriptLoadS (pc := 2553) dL_law_2553 (nI_o2 _) e1 (by omega) (by omega) ?_
  refine g_invV_s (pc := 2554) (As := [_, _]) dL_law_2554 rfl (h2) rfl rfl (shK hM1 rfl) rfl rfl lk_L_360 rfl (nb rfl) ⟨nb rfl, nb rfl⟩ rfl (fun e2 => ?_)
  have e2 := e2.trans e1
  refine g_istore (pc := 2557) (lv' := [(0, _), (1, _), (2, _), (3, _), (4, _), (5, _), (6, _), (7, _)]) dL_law_2557 (nl rfl) rfl ?_
  refine g_goto (pc := 2559) (tgt := 2752) dL_law_2559 rfl ?_
  exact g_sub (lv' := AL o) ⟨rfl, rfl, rfl, rfl, rfl, rfl, trivial⟩ (kont e2)
set_option maxRecDepth 4000 in
theorem lc_52 {kk : Int32} {b : Int32} (hs : mS M = S) (ho : o + 5 ≤ S.1) (hS9 : S.1 < 2147483648) (hM : Shp M) (hM1 : Shp M1) (hM2 : Shp M2) (h1 : EvR l jL_work 8 141 1 6 [.ref 0, .int (S.2 (o + 1)), .ref 212] M (.inl (some (.int kk))) M1) (h2 : EvR l jX7_work 4 160 0 0 [.ref 198, .int (S.2 (o + 1))] M1 (.inl (some (.int b))) M2) (kont : mS M2 = S → Go l jL_law 14 538 601024 7293034 Q 2752 (AL o) [] k n M2) : Go l jL_law 14 538 601024 7293034 Q 2562 (AL o) [] (k + 1) (n + 6) M := by
  refine g_aload_n (pc := 2562) dL_law_2562 rfl trivial ?_
  refine g_aload_n (pc := 2563) dL_law_2563 rfl isA_0 ?_
  refine g_iload (pc := 2564) dL_law_2564 rfl ?_
  refine g_iconst (pc := 2566) (v := 1) dL_law_2566 rfl ?_
  refine g_iadd (pc := 2567) dL_law_2567 ?_
  refine g_scriptLoadS (pc := 2568) dL_law_2568 (nI_o1 _) hs (by omega) (by omega) ?_
  refine g_aload_n (pc := 2569) dL_law_2569 rfl trivial ?_
  refine g_invSX_s (pc := 2570) (As := [_, _, _]) dL_law_2570 rfl (h1) rfl rfl lk_L_361 rfl (nb rfl) ⟨nb rfl, nb rfl⟩ rfl (fun e1 => ?_)
  have e1 := e1.trans hs
  refine g_istore (pc := 2573) (lv' := [(0, _), (1, _), (2, _), (3, _), (4, _), (5, _), (6, _)]) dL_law_2573 (nl rfl) rfl ?_
  refine g_aload_n (pc := 2575) dL_law_2575 rfl trivial ?_
  refine g_aload_n (pc := 2576) dL_law_2576 rfl isA_0 ?_
  refine g_iload (pc := 2577) dL_law_2577 rfl ?_
  refine g_iconst (pc := 2579) (v := 1) dL_law_2579 rfl ?_
  refine g_iadd (pc := 2580) dL_law_2580 ?_
  refine g_scriptLoadS (pc := 2581) dL_law_2581 (nI_o1 _) e1 (by omega) (by omega) ?_
  refine g_invV_s (pc := 2582) (As := [_]) dL_law_2582 rfl (h2) rfl rfl (shK hM1 rfl) rfl rfl lk_L_363 rfl (nb rfl) ⟨nb rfl, nb rfl⟩ rfl (fun e2 => ?_)
  have e2 := e2.trans e1
  refine g_istore (pc := 2585) (lv' := [(0, _), (1, _), (2, _), (3, _), (4, _), (5, _), (6, _), (7, _)]) dL_law_2585 (nl rfl) rfl ?_
  refine g_goto (pc := 2587) (tgt := 2752) dL_law_2587 rfl ?_
  exact g_sub (lv' := AL o) ⟨rfl, rfl, rfl, rfl, rfl, rfl, trivial⟩ (kont e2)
set_option maxRecDepth 4000 in
theorem lc_53 {kk : Int32} {b : Int32} (hs : mS M = S) (ho : o + 5 ≤ S.1) (hS9 : S.1 < 2147483648) (hM : Shp M) (hM1 : Shp M1) (hM2 : Shp M2) (h1 : EvR l jL_writeRow 9 164 2 12 [.ref 0, .int (S.2 (o + 1)), .int (S.2 (o + 2)), .ref 212] M (.inl (some (.int kk))) M1) (h2 : EvR l jX7_writeRow 4 160 0 0 [.ref 198, .int (S.2 (o + 1)), .int (S.2 (o + 2))] M1 (.inl (some (.int b))) M2) (kont : mS M2 = S → Go l jL_law 14 538 601024 7293034 Q 2752 (AL o) [] k n M2) : Go l jL_law 14 538 601024 7293034 Q 2590 (AL o) [] (k + 2) (n + 12) M := by
  refine g_aload_n (pc := 2590) dL_law_2590 rfl trivial ?_
  refine g_aload_n (pc := 2591) dL_law_2591 rfl isA_0 ?_
  refine g_iload (pc := 2592) dL_law_2592 rfl ?_
  refine g_iconst (pc := 2594) (v := 1) dL_law_2594 rfl ?_
  refine g_iadd (pc := 2595) dL_law_2595 ?_
  refine g_scriptLoadS (pc := 2596) dL_law_2596 (nI_o1 _) hs (by omega) (by omega) ?_
  refine g_aload_n (pc := 2597) dL_law_2597 rfl isA_0 ?_
  refine g_iload (pc := 2598) dL_law_2598 rfl ?_
  refine g_iconst (pc := 2600) (v := 2) dL_law_2600 rfl ?_
  refine g_iadd (pc := 2601) dL_law_2601 ?_
  refine g_scriptLoadS (pc := 2602) dL_law_2602 (nI_o2 _) hs (by omega) (by omega) ?_
  refine g_aload_n (pc := 2603) dL_law_2603 rfl trivial ?_
  refine g_invSX_s (pc := 2604) (As := [_, _, _, _]) dL_law_2604 rfl (h1) rfl rfl lk_L_364 rfl (nb rfl) ⟨nb rfl, nb rfl⟩ rfl (fun e1 => ?_)
  have e1 := e1.trans hs
  refine g_istore (pc := 2607) (lv' := [(0, _), (1, _), (2, _), (3, _), (4, _), (5, _), (6, _)]) dL_law_2607 (nl rfl) rfl ?_
  refine g_aload_n (pc := 2609) dL_law_2609 rfl trivial ?_
  refine g_aload_n (pc := 2610) dL_law_2610 rfl isA_0 ?_
  refine g_iload (pc := 2611) dL_law_2611 rfl ?_
  refine g_iconst (pc := 2613) (v := 1) dL_law_2613 rfl ?_
  refine g_iadd (pc := 2614) dL_law_2614 ?_
  refine g_scriptLoadS (pc := 2615) dL_law_2615 (nI_o1 _) e1 (by omega) (by omega) ?_
  refine g_aload_n (pc := 2616) dL_law_2616 rfl isA_0 ?_
  refine g_iload (pc := 2617) dL_law_2617 rfl ?_
  refine g_iconst (pc := 2619) (v := 2) dL_law_2619 rfl ?_
  refine g_iadd (pc := 2620) dL_law_2620 ?_
  refine g_scriptLoadS (pc := 2621) dL_law_2621 (nI_o2 _) e1 (by omega) (by omega) ?_
  refine g_invV_s (pc := 2622) (As := [_, _]) dL_law_2622 rfl (h2) rfl rfl (shK hM1 rfl) rfl rfl lk_L_366 rfl (nb rfl) ⟨nb rfl, nb rfl⟩ rfl (fun e2 => ?_)
  have e2 := e2.trans e1
  refine g_istore (pc := 2625) (lv' := [(0, _), (1, _), (2, _), (3, _), (4, _), (5, _), (6, _), (7, _)]) dL_law_2625 (nl rfl) rfl ?_
  refine g_goto (pc := 2627) (tgt := 2752) dL_law_2627 rfl ?_
  exact g_sub (lv' := AL o) ⟨rfl, rfl, rfl, rfl, rfl, rfl, trivial⟩ (kont e2)
set_option maxRecDepth 4000 in
theorem lc_54 {kk : Int32} {b : Int32} (hs : mS M = S) (ho : o + 5 ≤ S.1) (hS9 : S.1 < 2147483648) (hM : Shp M) (hM1 : Shp M1) (hM2 : Shp M2) (h1 : EvR l jX6_outputByte 0 0 0 0 [.ref 0, .int (S.2 (o + 1))] M (.inl (some (.int kk))) M1) (h2 : EvR l jX7_outputByte 4 160 0 0 [.ref 198, .int (S.2 (o + 1))] M1 (.inl (some (.int b))) M2) (kont : mS M2 = S → Go l jL_law 14 538 601024 7293034 Q 2752 (AL o) [] k n M2) : Go l jL_law 14 538 601024 7293034 Q 2630 (AL o) [] (k + 0) (n + 0) M := by
  refine g_aload_n (pc := 2630) dL_law_2630 rfl trivial ?_
  refine g_aload_n (pc := 2631) dL_law_2631 rfl isA_0 ?_
  refine g_iload (pc := 2632) dL_law_2632 rfl ?_
  refine g_iconst (pc := 2634) (v := 1) dL_law_2634 rfl ?_
  refine g_iadd (pc := 2635) dL_law_2635 ?_
  refine g_scriptLoadS (pc := 2636) dL_law_2636 (nI_o1 _) hs (by omega) (by omega) ?_
  refine g_invV_s (pc := 2637) (As := [_]) dL_law_2637 rfl (h1) rfl rfl (shK hM rfl) rfl rfl lk_L_367 rfl (nb rfl) ⟨nb rfl, nb rfl⟩ rfl (fun e1 => ?_)
  have e1 := e1.trans hs
  refine g_pop (pc := 2640) dL_law_2640 rfl ?_
  refine g_aload_n (pc := 2641) dL_law_2641 rfl trivial ?_
  refine g_aload_n (pc := 2642) dL_law_2642 rfl isA_0 ?_
  refine g_iload (pc := 2643) dL_law_2643 rfl ?_
  refine g_iconst (pc := 2645) (v := 1) dL_law_2645 rfl ?_
  refine g_iadd (pc := 2646) dL_law_2646 ?_
  refine g_scriptLoadS (pc := 2647) dL_law_2647 (nI_o1 _) e1 (by omega) (by omega) ?_
  refine g_invV_s (pc := 2648) (As := [_]) dL_law_2648 rfl (h2) rfl rfl (shK hM1 rfl) rfl rfl lk_L_370 rfl (nb rfl) ⟨nb rfl, nb rfl⟩ rfl (fun e2 => ?_)
  have e2 := e2.trans e1
  refine g_pop (pc := 2651) dL_law_2651 rfl ?_
  refine g_goto (pc := 2652) (tgt := 2752) dL_law_2652 rfl ?_
  exact g_sub (lv' := AL o) ⟨rfl, rfl, rfl, rfl, rfl, rfl, trivial⟩ (kont e2)
set_option maxRecDepth 4000 in
theorem lc_55 {kk : Int32} {b : Int32} (hs : mS M = S) (ho : o + 5 ≤ S.1) (hS9 : S.1 < 2147483648) (hM : Shp M) (hM1 : Shp M1) (hM2 : Shp M2) (h1 : EvR l jX6_undo 3 120 0 0 [.ref 0] M (.inl (some (.int kk))) M1) (h2 : EvR l jX7_undo 4 160 0 0 [.ref 198] M1 (.inl (some (.int b))) M2) (kont : mS M2 = S → Go l jL_law 14 538 601024 7293034 Q 2752 (AL o) [] k n M2) : Go l jL_law 14 538 601024 7293034 Q 2655 (AL o) [] (k + 0) (n + 0) M := by
  refine g_aload_n (pc := 2655) dL_law_2655 rfl trivial ?_
  refine g_invV_s (pc := 2656) (As := []) dL_law_2656 rfl (h1) rfl rfl (shK hM rfl) rfl rfl lk_L_371 rfl (nb rfl) ⟨nb rfl, nb rfl⟩ rfl (fun e1 => ?_)
  have e1 := e1.trans hs
  refine g_pop (pc := 2659) dL_law_2659 rfl ?_
  refine g_aload_n (pc := 2660) dL_law_2660 rfl trivial ?_
  refine g_invV_s (pc := 2661) (As := []) dL_law_2661 rfl (h2) rfl rfl (shK hM1 rfl) rfl rfl lk_L_374 rfl (nb rfl) ⟨nb rfl, nb rfl⟩ rfl (fun e2 => ?_)
  have e2 := e2.trans e1
  refine g_pop (pc := 2664) dL_law_2664 rfl ?_
  refine g_goto (pc := 2665) (tgt := 2752) dL_law_2665 rfl ?_
  exact g_sub (lv' := AL o) ⟨rfl, rfl, rfl, rfl, rfl, rfl, trivial⟩ (kont e2)
set_option maxRecDepth 4000 in
theorem lc_56 {kk : Int32} {b : Int32} (hs : mS M = S) (ho : o + 5 ≤ S.1) (hS9 : S.1 < 2147483648) (hM : Shp M) (hM1 : Shp M1) (hM2 : Shp M2) (h1 : EvR l jL_saveSnapshot 8 161 1 6 [.ref 0, .int (S.2 (o + 1)), .ref 212] M (.inl (some (.int kk))) M1) (h2 : EvR l jX7_saveSnapshot 4 160 0 0 [.ref 198, .int (S.2 (o + 1))] M1 (.inl (some (.int b))) M2) (ht : mI M2 198 6 = kk) (hq : kk = 0 → mL M2 212 0 = b.toInt64) (kont : mS M2 = S → Go l jL_law 14 538 601024 7293034 Q 2752 (AL o) [] k n M2) : Go l jL_law 14 538 601024 7293034 Q 2668 (AL o) [] (k + 1) (n + 6) M := by
  refine g_aload_n (pc := 2668) dL_law_2668 rfl trivial ?_
  refine g_aload_n (pc := 2669) dL_law_2669 rfl isA_0 ?_
  refine g_iload (pc := 2670) dL_law_2670 rfl ?_
  refine g_iconst (pc := 2672) (v := 1) dL_law_2672 rfl ?_
  refine g_iadd (pc := 2673) dL_law_2673 ?_
  refine g_scriptLoadS (pc := 2674) dL_law_2674 (nI_o1 _) hs (by omega) (by omega) ?_
  refine g_aload_n (pc := 2675) dL_law_2675 rfl trivial ?_
  refine g_invSX_s (pc := 2676) (As := [_, _, _]) dL_law_2676 rfl (h1) rfl rfl lk_L_375 rfl (nb rfl) ⟨nb rfl, nb rfl⟩ rfl (fun e1 => ?_)
  have e1 := e1.trans hs
  refine g_istore (pc := 2679) (lv' := [(0, _), (1, _), (2, _), (3, _), (4, _), (5, _), (6, _)]) dL_law_2679 (nl rfl) rfl ?_
  refine g_aload_n (pc := 2681) dL_law_2681 rfl trivial ?_
  refine g_aload_n (pc := 2682) dL_law_2682 rfl isA_0 ?_
  refine g_iload (pc := 2683) dL_law_2683 rfl ?_
  refine g_iconst (pc := 2685) (v := 1) dL_law_2685 rfl ?_
  refine g_iadd (pc := 2686) dL_law_2686 ?_
  refine g_scriptLoadS (pc := 2687) dL_law_2687 (nI_o1 _) e1 (by omega) (by omega) ?_
  refine g_invV_s (pc := 2688) (As := [_]) dL_law_2688 rfl (h2) rfl rfl (shK hM1 rfl) rfl rfl lk_L_377 rfl (nb rfl) ⟨nb rfl, nb rfl⟩ rfl (fun e2 => ?_)
  have e2 := e2.trans e1
  refine g_istore (pc := 2691) (lv' := [(0, _), (1, _), (2, _), (3, _), (4, _), (5, _), (6, _), (7, _)]) dL_law_2691 (nl rfl) rfl ?_
  refine g_aload_n (pc := 2693) dL_law_2693 rfl trivial ?_
  refine g_invV_r (pc := 2694) (As := []) dL_law_2694 rfl (n_thrown hM2) rfl rfl (shK hM2 rfl) rfl rfl lk_L_378 rfl (nb rfl) ⟨nb rfl, nb rfl⟩ rfl ?_
  refine g_iload (pc := 2697) dL_law_2697 rfl ?_
  refine g_icmp_eq (pc := 2699) (tgt := 2704) dL_law_2699 rfl (fun _ => ?_) (fun h2699 => absurd (ht) h2699)
  refine g_iload (pc := 2704) dL_law_2704 rfl ?_
  refine g_if_ne (pc := 2706) (tgt := 2721) dL_law_2706 rfl (fun h2706 => ?_) (fun h2706 => ?_)
  · refine g_goto (pc := 2721) (tgt := 2752) dL_law_2721 rfl ?_
    exact g_sub (lv' := AL o) ⟨rfl, rfl, rfl, rfl, rfl, rfl, trivial⟩ (kont e2)
  · refine g_aload_n (pc := 2709) dL_law_2709 rfl trivial ?_
    refine g_iconst (pc := 2710) (v := 0) dL_law_2710 rfl ?_
    refine g_laload (pc := 2711) dL_law_2711 (shK hM2 rfl) rfl (nb rfl) (nl rfl) ?_
    refine g_iload (pc := 2712) dL_law_2712 rfl ?_
    refine g_i2l (pc := 2714) dL_law_2714 rfl ?_
    refine g_lcmp (pc := 2715) dL_law_2715 ?_
    refine g_if_eq (pc := 2716) (tgt := 2721) dL_law_2716 rfl (fun _ => ?_) (fun h2716 => absurd ((lgc_self (hq (Decidable.not_not.mp h2706)))) h2716)
    refine g_goto (pc := 2721) (tgt := 2752) dL_law_2721 rfl ?_
    exact g_sub (lv' := AL o) ⟨rfl, rfl, rfl, rfl, rfl, rfl, trivial⟩ (kont e2)
set_option maxRecDepth 4000 in
theorem lc_57 {kk : Int32} {b : Int32} (hs : mS M = S) (ho : o + 5 ≤ S.1) (hS9 : S.1 < 2147483648) (hM : Shp M) (hM1 : Shp M1) (hM2 : Shp M2) (h1 : EvR l jL_restoreSnapshot 8 191 1 6 [.ref 0, .int (S.2 (o + 1)), .ref 212] M (.inl (some (.int kk))) M1) (h2 : EvR l jX7_restoreSnapshot 4 160 0 0 [.ref 198, .int (S.2 (o + 1))] M1 (.inl (some (.int b))) M2) (kont : mS M2 = S → Go l jL_law 14 538 601024 7293034 Q 2752 (AL o) [] k n M2) : Go l jL_law 14 538 601024 7293034 Q 2724 (AL o) [] (k + 1) (n + 6) M := by
  refine g_aload_n (pc := 2724) dL_law_2724 rfl trivial ?_
  refine g_aload_n (pc := 2725) dL_law_2725 rfl isA_0 ?_
  refine g_iload (pc := 2726) dL_law_2726 rfl ?_
  refine g_iconst (pc := 2728) (v := 1) dL_law_2728 rfl ?_
  refine g_iadd (pc := 2729) dL_law_2729 ?_
  refine g_scriptLoadS (pc := 2730) dL_law_2730 (nI_o1 _) hs (by omega) (by omega) ?_
  refine g_aload_n (pc := 2731) dL_law_2731 rfl trivial ?_
  refine g_invSX_s (pc := 2732) (As := [_, _, _]) dL_law_2732 rfl (h1) rfl rfl lk_L_381 rfl (nb rfl) ⟨nb rfl, nb rfl⟩ rfl (fun e1 => ?_)
  have e1 := e1.trans hs
  refine g_istore (pc := 2735) (lv' := [(0, _), (1, _), (2, _), (3, _), (4, _), (5, _), (6, _)]) dL_law_2735 (nl rfl) rfl ?_
  refine g_aload_n (pc := 2737) dL_law_2737 rfl trivial ?_
  refine g_aload_n (pc := 2738) dL_law_2738 rfl isA_0 ?_
  refine g_iload (pc := 2739) dL_law_2739 rfl ?_
  refine g_iconst (pc := 2741) (v := 1) dL_law_2741 rfl ?_
  refine g_iadd (pc := 2742) dL_law_2742 ?_
  refine g_scriptLoadS (pc := 2743) dL_law_2743 (nI_o1 _) e1 (by omega) (by omega) ?_
  refine g_invV_s (pc := 2744) (As := [_]) dL_law_2744 rfl (h2) rfl rfl (shK hM1 rfl) rfl rfl lk_L_383 rfl (nb rfl) ⟨nb rfl, nb rfl⟩ rfl (fun e2 => ?_)
  have e2 := e2.trans e1
  refine g_istore (pc := 2747) (lv' := [(0, _), (1, _), (2, _), (3, _), (4, _), (5, _), (6, _), (7, _)]) dL_law_2747 (nl rfl) rfl ?_
  refine g_goto (pc := 2749) (tgt := 2752) dL_law_2749 rfl ?_
  exact g_sub (lv' := AL o) ⟨rfl, rfl, rfl, rfl, rfl, rfl, trivial⟩ (kont e2)
end

