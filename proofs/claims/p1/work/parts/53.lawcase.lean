/-! the law's cases -/
section
variable {l : Launch} {Q : Res → Mem → Prop} {k n : Nat} {M M1 M2 : Mem} {S : Nat × (Nat → Int32)} {o : Nat}
set_option maxRecDepth 4000 in
theorem lc_0 {kk : Int32} {b : Int32} (hs : mS M = S) (ho : o + 5 ≤ S.1) (hS9 : S.1 < 2147483648) (hM : Shp M) (hM1 : Shp M1) (hM2 : Shp M2) (h1 : EvR l jX6_append 1 30 0 0 [.ref 0, .long (l2 (S.2 (o + 1)) (S.2 (o + 2)))] M (.inl (some (.int kk))) M1) (h2 : EvR l jX7_append 4 160 0 0 [.ref 198, .long (l2 (S.2 (o + 1)) (S.2 (o + 2)))] M1 (.inl (some (.int b))) M2) (hq : kk = b) (kont : mS M2 = S → Go l jL_law 14 538 600002 7302232 Q 4226 (AL o) [] k n M2) : Go l jL_law 14 538 600002 7302232 Q 292 (AL o) [] (k + 0) (n + 0) M := by
  refine g_aload_n (pc := 292) dL_law_292 rfl trivial ?_
  refine g_aload_n (pc := 293) dL_law_293 rfl isA_0 ?_
  refine g_iload (pc := 294) dL_law_294 rfl ?_
  refine g_iconst (pc := 296) (v := 1) dL_law_296 rfl ?_
  refine g_iadd (pc := 297) dL_law_297 ?_
  refine g_scriptLoadS (pc := 298) dL_law_298 (nI_o1 _) hs (by omega) (by omega) ?_
  refine g_i2l (pc := 299) dL_law_299 rfl ?_
  refine g_bipush (pc := 300) (v := 32) dL_law_300 rfl ?_
  refine g_lshl (pc := 302) dL_law_302 rfl ?_
  refine g_aload_n (pc := 303) dL_law_303 rfl isA_0 ?_
  refine g_iload (pc := 304) dL_law_304 rfl ?_
  refine g_iconst (pc := 306) (v := 2) dL_law_306 rfl ?_
  refine g_iadd (pc := 307) dL_law_307 ?_
  refine g_scriptLoadS (pc := 308) dL_law_308 (nI_o2 _) hs (by omega) (by omega) ?_
  refine g_i2l (pc := 309) dL_law_309 rfl ?_
  refine g_ldc2 (pc := 310) dL_law_310 wd_1783 ?_
  refine g_land (pc := 313) dL_law_313 ?_
  refine g_lor (pc := 314) dL_law_314 ?_
  refine g_invV_s (pc := 315) (As := [_]) dL_law_315 rfl (h1) rfl rfl (shK hM rfl) rfl rfl lk_L_188 rfl (nb rfl) ⟨nb rfl, nb rfl⟩ rfl (fun e1 => ?_)
  have e1 := e1.trans hs
  refine g_aload_n (pc := 318) dL_law_318 rfl trivial ?_
  refine g_aload_n (pc := 319) dL_law_319 rfl isA_0 ?_
  refine g_iload (pc := 320) dL_law_320 rfl ?_
  refine g_iconst (pc := 322) (v := 1) dL_law_322 rfl ?_
  refine g_iadd (pc := 323) dL_law_323 ?_
  refine g_scriptLoadS (pc := 324) dL_law_324 (nI_o1 _) e1 (by omega) (by omega) ?_
  refine g_i2l (pc := 325) dL_law_325 rfl ?_
  refine g_bipush (pc := 326) (v := 32) dL_law_326 rfl ?_
  refine g_lshl (pc := 328) dL_law_328 rfl ?_
  refine g_aload_n (pc := 329) dL_law_329 rfl isA_0 ?_
  refine g_iload (pc := 330) dL_law_330 rfl ?_
  refine g_iconst (pc := 332) (v := 2) dL_law_332 rfl ?_
  refine g_iadd (pc := 333) dL_law_333 ?_
  refine g_scriptLoadS (pc := 334) dL_law_334 (nI_o2 _) e1 (by omega) (by omega) ?_
  refine g_i2l (pc := 335) dL_law_335 rfl ?_
  refine g_ldc2 (pc := 336) dL_law_336 wd_1783 ?_
  refine g_land (pc := 339) dL_law_339 ?_
  refine g_lor (pc := 340) dL_law_340 ?_
  refine g_invV_s (pc := 341) (As := [_]) dL_law_341 rfl (h2) rfl rfl (shK hM1 rfl) rfl rfl lk_L_192 rfl (nb rfl) ⟨nb rfl, nb rfl⟩ rfl (fun e2 => ?_)
  have e2 := e2.trans e1
  refine g_icmp_eq (pc := 344) (tgt := 4226) dL_law_344 rfl (fun _ => ?_) (fun h344 => absurd (hq) h344)
  exact g_sub (lv' := AL o) ⟨rfl, rfl, rfl, rfl, rfl, rfl, trivial⟩ (kont e2)
set_option maxRecDepth 4000 in
theorem lc_1 {kk : Int32} {b : Int32} (hs : mS M = S) (ho : o + 5 ≤ S.1) (hS9 : S.1 < 2147483648) (hM : Shp M) (hM1 : Shp M1) (hM2 : Shp M2) (h1 : EvR l jX6_load 9 260 0 0 [.ref 0] M (.inl (some (.int kk))) M1) (h2 : EvR l jX7_load 8 220 0 0 [.ref 198] M1 (.inl (some (.int b))) M2) (hq : kk = b) (kont : mS M2 = S → Go l jL_law 14 538 600002 7302232 Q 4226 (AL o) [] k n M2) : Go l jL_law 14 538 600002 7302232 Q 349 (AL o) [] (k + 0) (n + 0) M := by
  refine g_aload_n (pc := 349) dL_law_349 rfl trivial ?_
  refine g_invV_s (pc := 350) (As := []) dL_law_350 rfl (h1) rfl rfl (shK hM rfl) rfl rfl lk_L_193 rfl (nb rfl) ⟨nb rfl, nb rfl⟩ rfl (fun e1 => ?_)
  have e1 := e1.trans hs
  refine g_aload_n (pc := 353) dL_law_353 rfl trivial ?_
  refine g_invV_s (pc := 354) (As := []) dL_law_354 rfl (h2) rfl rfl (shK hM1 rfl) rfl rfl lk_L_197 rfl (nb rfl) ⟨nb rfl, nb rfl⟩ rfl (fun e2 => ?_)
  have e2 := e2.trans e1
  refine g_icmp_eq (pc := 357) (tgt := 4226) dL_law_357 rfl (fun _ => ?_) (fun h357 => absurd (hq) h357)
  exact g_sub (lv' := AL o) ⟨rfl, rfl, rfl, rfl, rfl, rfl, trivial⟩ (kont e2)
set_option maxRecDepth 4000 in
theorem lc_2 {kk : Int32} {b : Int32} (hs : mS M = S) (ho : o + 5 ≤ S.1) (hS9 : S.1 < 2147483648) (hM : Shp M) (hM1 : Shp M1) (hM2 : Shp M2) (h1 : EvR l jX6_loadError 0 0 0 0 [.ref 0] M (.inl (some (.int kk))) M1) (h2 : EvR l jX7_loadError 4 160 0 0 [.ref 198] M1 (.inl (some (.int b))) M2) (hq : kk = b) (kont : mS M2 = S → Go l jL_law 14 538 600002 7302232 Q 4226 (AL o) [] k n M2) : Go l jL_law 14 538 600002 7302232 Q 362 (AL o) [] (k + 0) (n + 0) M := by
  refine g_aload_n (pc := 362) dL_law_362 rfl trivial ?_
  refine g_invV_s (pc := 363) (As := []) dL_law_363 rfl (h1) rfl rfl (shK hM rfl) rfl rfl lk_L_198 rfl (nb rfl) ⟨nb rfl, nb rfl⟩ rfl (fun e1 => ?_)
  have e1 := e1.trans hs
  refine g_aload_n (pc := 366) dL_law_366 rfl trivial ?_
  refine g_invV_s (pc := 367) (As := []) dL_law_367 rfl (h2) rfl rfl (shK hM1 rfl) rfl rfl lk_L_201 rfl (nb rfl) ⟨nb rfl, nb rfl⟩ rfl (fun e2 => ?_)
  have e2 := e2.trans e1
  refine g_icmp_eq (pc := 370) (tgt := 4226) dL_law_370 rfl (fun _ => ?_) (fun h370 => absurd (hq) h370)
  exact g_sub (lv' := AL o) ⟨rfl, rfl, rfl, rfl, rfl, rfl, trivial⟩ (kont e2)
set_option maxRecDepth 4000 in
theorem lc_3 {kk : Int32} {b : Int32} (hs : mS M = S) (ho : o + 5 ≤ S.1) (hS9 : S.1 < 2147483648) (hM : Shp M) (hM1 : Shp M1) (hM2 : Shp M2) (h1 : EvR l jX6_loadStatement 0 0 0 0 [.ref 0] M (.inl (some (.int kk))) M1) (h2 : EvR l jX7_loadStatement 4 160 0 0 [.ref 198] M1 (.inl (some (.int b))) M2) (hq : kk = b) (kont : mS M2 = S → Go l jL_law 14 538 600002 7302232 Q 4226 (AL o) [] k n M2) : Go l jL_law 14 538 600002 7302232 Q 375 (AL o) [] (k + 0) (n + 0) M := by
  refine g_aload_n (pc := 375) dL_law_375 rfl trivial ?_
  refine g_invV_s (pc := 376) (As := []) dL_law_376 rfl (h1) rfl rfl (shK hM rfl) rfl rfl lk_L_202 rfl (nb rfl) ⟨nb rfl, nb rfl⟩ rfl (fun e1 => ?_)
  have e1 := e1.trans hs
  refine g_aload_n (pc := 379) dL_law_379 rfl trivial ?_
  refine g_invV_s (pc := 380) (As := []) dL_law_380 rfl (h2) rfl rfl (shK hM1 rfl) rfl rfl lk_L_205 rfl (nb rfl) ⟨nb rfl, nb rfl⟩ rfl (fun e2 => ?_)
  have e2 := e2.trans e1
  refine g_icmp_eq (pc := 383) (tgt := 4226) dL_law_383 rfl (fun _ => ?_) (fun h383 => absurd (hq) h383)
  exact g_sub (lv' := AL o) ⟨rfl, rfl, rfl, rfl, rfl, rfl, trivial⟩ (kont e2)
set_option maxRecDepth 4000 in
theorem lc_4 {kk : Int32} {b : Int32} (hs : mS M = S) (ho : o + 5 ≤ S.1) (hS9 : S.1 < 2147483648) (hM : Shp M) (hM1 : Shp M1) (hM2 : Shp M2) (h1 : EvR l jL_count 8 141 1 6 [.ref 0, .int (S.2 (o + 1)), .ref 212] M (.inl (some (.int kk))) M1) (h2 : EvR l jX7_count 4 160 0 0 [.ref 198, .int (S.2 (o + 1))] M1 (.inl (some (.int b))) M2) (ht : mI M2 198 6 = kk) (hq : kk = 0 → mL M2 212 0 = b.toInt64) (kont : mS M2 = S → Go l jL_law 14 538 600002 7302232 Q 4226 (AL o) [] k n M2) : Go l jL_law 14 538 600002 7302232 Q 388 (AL o) [] (k + 1) (n + 6) M := by
  refine g_aload_n (pc := 388) dL_law_388 rfl trivial ?_
  refine g_aload_n (pc := 389) dL_law_389 rfl isA_0 ?_
  refine g_iload (pc := 390) dL_law_390 rfl ?_
  refine g_iconst (pc := 392) (v := 1) dL_law_392 rfl ?_
  refine g_iadd (pc := 393) dL_law_393 ?_
  refine g_scriptLoadS (pc := 394) dL_law_394 (nI_o1 _) hs (by omega) (by omega) ?_
  refine g_aload_n (pc := 395) dL_law_395 rfl trivial ?_
  refine g_invSX_s (pc := 396) (As := [_, _, _]) dL_law_396 rfl (h1) rfl rfl lk_L_206 rfl (nb rfl) ⟨nb rfl, nb rfl⟩ rfl (fun e1 => ?_)
  have e1 := e1.trans hs
  refine g_istore (pc := 399) (lv' := [(0, _), (1, _), (2, _), (3, _), (4, _), (5, _), (6, _)]) dL_law_399 (nl rfl) rfl ?_
  refine g_aload_n (pc := 401) dL_law_401 rfl trivial ?_
  refine g_aload_n (pc := 402) dL_law_402 rfl isA_0 ?_
  refine g_iload (pc := 403) dL_law_403 rfl ?_
  refine g_iconst (pc := 405) (v := 1) dL_law_405 rfl ?_
  refine g_iadd (pc := 406) dL_law_406 ?_
  refine g_scriptLoadS (pc := 407) dL_law_407 (nI_o1 _) e1 (by omega) (by omega) ?_
  refine g_invV_s (pc := 408) (As := [_]) dL_law_408 rfl (h2) rfl rfl (shK hM1 rfl) rfl rfl lk_L_211 rfl (nb rfl) ⟨nb rfl, nb rfl⟩ rfl (fun e2 => ?_)
  have e2 := e2.trans e1
  refine g_istore (pc := 411) (lv' := [(0, _), (1, _), (2, _), (3, _), (4, _), (5, _), (6, _), (7, _)]) dL_law_411 (nl rfl) rfl ?_
  refine g_aload_n (pc := 413) dL_law_413 rfl trivial ?_
  refine g_invV_r (pc := 414) (As := []) dL_law_414 rfl (n_thrown hM2) rfl rfl (shK hM2 rfl) rfl rfl lk_L_212 rfl (nb rfl) ⟨nb rfl, nb rfl⟩ rfl ?_
  refine g_iload (pc := 417) dL_law_417 rfl ?_
  refine g_icmp_eq (pc := 419) (tgt := 424) dL_law_419 rfl (fun _ => ?_) (fun h419 => absurd (ht) h419)
  refine g_iload (pc := 424) dL_law_424 rfl ?_
  refine g_if_ne (pc := 426) (tgt := 441) dL_law_426 rfl (fun h426 => ?_) (fun h426 => ?_)
  · refine g_goto (pc := 441) (tgt := 4226) dL_law_441 rfl ?_
    exact g_sub (lv' := AL o) ⟨rfl, rfl, rfl, rfl, rfl, rfl, trivial⟩ (kont e2)
  · refine g_aload_n (pc := 429) dL_law_429 rfl trivial ?_
    refine g_iconst (pc := 430) (v := 0) dL_law_430 rfl ?_
    refine g_laload (pc := 431) dL_law_431 (shK hM2 rfl) rfl (nb rfl) (nl rfl) ?_
    refine g_iload (pc := 432) dL_law_432 rfl ?_
    refine g_i2l (pc := 434) dL_law_434 rfl ?_
    refine g_lcmp (pc := 435) dL_law_435 ?_
    refine g_if_eq (pc := 436) (tgt := 441) dL_law_436 rfl (fun _ => ?_) (fun h436 => absurd ((lgc_self (hq (Decidable.not_not.mp h426)))) h436)
    refine g_goto (pc := 441) (tgt := 4226) dL_law_441 rfl ?_
    exact g_sub (lv' := AL o) ⟨rfl, rfl, rfl, rfl, rfl, rfl, trivial⟩ (kont e2)
set_option maxRecDepth 4000 in
theorem lc_5 {kk : Int32} {b : Int32} (hs : mS M = S) (ho : o + 5 ≤ S.1) (hS9 : S.1 < 2147483648) (hM : Shp M) (hM1 : Shp M1) (hM2 : Shp M2) (h1 : EvR l jL_bit 10 183 3 18 [.ref 0, .int (S.2 (o + 1)), .int (S.2 (o + 2)), .int (S.2 (o + 3)), .ref 212] M (.inl (some (.int kk))) M1) (h2 : EvR l jX7_bit 4 160 0 0 [.ref 198, .int (S.2 (o + 1)), .int (S.2 (o + 2)), .int (S.2 (o + 3))] M1 (.inl (some (.int b))) M2) (ht : mI M2 198 6 = kk) (hq : kk = 0 → mL M2 212 0 = b.toInt64) (kont : mS M2 = S → Go l jL_law 14 538 600002 7302232 Q 4226 (AL o) [] k n M2) : Go l jL_law 14 538 600002 7302232 Q 444 (AL o) [] (k + 3) (n + 18) M := by
  refine g_aload_n (pc := 444) dL_law_444 rfl trivial ?_
  refine g_aload_n (pc := 445) dL_law_445 rfl isA_0 ?_
  refine g_iload (pc := 446) dL_law_446 rfl ?_
  refine g_iconst (pc := 448) (v := 1) dL_law_448 rfl ?_
  refine g_iadd (pc := 449) dL_law_449 ?_
  refine g_scriptLoadS (pc := 450) dL_law_450 (nI_o1 _) hs (by omega) (by omega) ?_
  refine g_aload_n (pc := 451) dL_law_451 rfl isA_0 ?_
  refine g_iload (pc := 452) dL_law_452 rfl ?_
  refine g_iconst (pc := 454) (v := 2) dL_law_454 rfl ?_
  refine g_iadd (pc := 455) dL_law_455 ?_
  refine g_scriptLoadS (pc := 456) dL_law_456 (nI_o2 _) hs (by omega) (by omega) ?_
  refine g_aload_n (pc := 457) dL_law_457 rfl isA_0 ?_
  refine g_iload (pc := 458) dL_law_458 rfl ?_
  refine g_iconst (pc := 460) (v := 3) dL_law_460 rfl ?_
  refine g_iadd (pc := 461) dL_law_461 ?_
  refine g_scriptLoadS (pc := 462) dL_law_462 (nI_o3 _) hs (by omega) (by omega) ?_
  refine g_aload_n (pc := 463) dL_law_463 rfl trivial ?_
  refine g_invSX_s (pc := 464) (As := [_, _, _, _, _]) dL_law_464 rfl (h1) rfl rfl lk_L_215 rfl (nb rfl) ⟨nb rfl, nb rfl⟩ rfl (fun e1 => ?_)
  have e1 := e1.trans hs
  refine g_istore (pc := 467) (lv' := [(0, _), (1, _), (2, _), (3, _), (4, _), (5, _), (6, _)]) dL_law_467 (nl rfl) rfl ?_
  refine g_aload_n (pc := 469) dL_law_469 rfl trivial ?_
  refine g_aload_n (pc := 470) dL_law_470 rfl isA_0 ?_
  refine g_iload (pc := 471) dL_law_471 rfl ?_
  refine g_iconst (pc := 473) (v := 1) dL_law_473 rfl ?_
  refine g_iadd (pc := 474) dL_law_474 ?_
  refine g_scriptLoadS (pc := 475) dL_law_475 (nI_o1 _) e1 (by omega) (by omega) ?_
  refine g_aload_n (pc := 476) dL_law_476 rfl isA_0 ?_
  refine g_iload (pc := 477) dL_law_477 rfl ?_
  refine g_iconst (pc := 479) (v := 2) dL_law_479 rfl ?_
  refine g_iadd (pc := 480) dL_law_480 ?_
  refine g_scriptLoadS (pc := 481) dL_law_481 (nI_o2 _) e1 (by omega) (by omega) ?_
  refine g_aload_n (pc := 482) dL_law_482 rfl isA_0 ?_
  refine g_iload (pc := 483) dL_law_483 rfl ?_
  refine g_iconst (pc := 485) (v := 3) dL_law_485 rfl ?_
  refine g_iadd (pc := 486) dL_law_486 ?_
  refine g_scriptLoadS (pc := 487) dL_law_487 (nI_o3 _) e1 (by omega) (by omega) ?_
  refine g_invV_s (pc := 488) (As := [_, _, _]) dL_law_488 rfl (h2) rfl rfl (shK hM1 rfl) rfl rfl lk_L_218 rfl (nb rfl) ⟨nb rfl, nb rfl⟩ rfl (fun e2 => ?_)
  have e2 := e2.trans e1
  refine g_istore (pc := 491) (lv' := [(0, _), (1, _), (2, _), (3, _), (4, _), (5, _), (6, _), (7, _)]) dL_law_491 (nl rfl) rfl ?_
  refine g_aload_n (pc := 493) dL_law_493 rfl trivial ?_
  refine g_invV_r (pc := 494) (As := []) dL_law_494 rfl (n_thrown hM2) rfl rfl (shK hM2 rfl) rfl rfl lk_L_212 rfl (nb rfl) ⟨nb rfl, nb rfl⟩ rfl ?_
  refine g_iload (pc := 497) dL_law_497 rfl ?_
  refine g_icmp_eq (pc := 499) (tgt := 504) dL_law_499 rfl (fun _ => ?_) (fun h499 => absurd (ht) h499)
  refine g_iload (pc := 504) dL_law_504 rfl ?_
  refine g_if_ne (pc := 506) (tgt := 521) dL_law_506 rfl (fun h506 => ?_) (fun h506 => ?_)
  · refine g_goto (pc := 521) (tgt := 4226) dL_law_521 rfl ?_
    exact g_sub (lv' := AL o) ⟨rfl, rfl, rfl, rfl, rfl, rfl, trivial⟩ (kont e2)
  · refine g_aload_n (pc := 509) dL_law_509 rfl trivial ?_
    refine g_iconst (pc := 510) (v := 0) dL_law_510 rfl ?_
    refine g_laload (pc := 511) dL_law_511 (shK hM2 rfl) rfl (nb rfl) (nl rfl) ?_
    refine g_iload (pc := 512) dL_law_512 rfl ?_
    refine g_i2l (pc := 514) dL_law_514 rfl ?_
    refine g_lcmp (pc := 515) dL_law_515 ?_
    refine g_if_eq (pc := 516) (tgt := 521) dL_law_516 rfl (fun _ => ?_) (fun h516 => absurd ((lgc_self (hq (Decidable.not_not.mp h506)))) h516)
    refine g_goto (pc := 521) (tgt := 4226) dL_law_521 rfl ?_
    exact g_sub (lv' := AL o) ⟨rfl, rfl, rfl, rfl, rfl, rfl, trivial⟩ (kont e2)
set_option maxRecDepth 4000 in
theorem lc_6 {kk : Int32} {b : Int64} (hs : mS M = S) (ho : o + 5 ≤ S.1) (hS9 : S.1 < 2147483648) (hM : Shp M) (hM1 : Shp M1) (hM2 : Shp M2) (h1 : EvR l jL_row 9 162 2 12 [.ref 0, .int (S.2 (o + 1)), .int (S.2 (o + 2)), .ref 212] M (.inl (some (.int kk))) M1) (h2 : EvR l jX7_row 4 160 0 0 [.ref 198, .int (S.2 (o + 1)), .int (S.2 (o + 2))] M1 (.inl (some (.long b))) M2) (ht : mI M2 198 6 = kk) (hq : kk = 0 → mL M2 212 0 = b) (kont : mS M2 = S → Go l jL_law 14 538 600002 7302232 Q 4226 (AL o) [] k n M2) : Go l jL_law 14 538 600002 7302232 Q 524 (AL o) [] (k + 2) (n + 12) M := by
  refine g_aload_n (pc := 524) dL_law_524 rfl trivial ?_
  refine g_aload_n (pc := 525) dL_law_525 rfl isA_0 ?_
  refine g_iload (pc := 526) dL_law_526 rfl ?_
  refine g_iconst (pc := 528) (v := 1) dL_law_528 rfl ?_
  refine g_iadd (pc := 529) dL_law_529 ?_
  refine g_scriptLoadS (pc := 530) dL_law_530 (nI_o1 _) hs (by omega) (by omega) ?_
  refine g_aload_n (pc := 531) dL_law_531 rfl isA_0 ?_
  refine g_iload (pc := 532) dL_law_532 rfl ?_
  refine g_iconst (pc := 534) (v := 2) dL_law_534 rfl ?_
  refine g_iadd (pc := 535) dL_law_535 ?_
  refine g_scriptLoadS (pc := 536) dL_law_536 (nI_o2 _) hs (by omega) (by omega) ?_
  refine g_aload_n (pc := 537) dL_law_537 rfl trivial ?_
  refine g_invSX_s (pc := 538) (As := [_, _, _, _]) dL_law_538 rfl (h1) rfl rfl lk_L_219 rfl (nb rfl) ⟨nb rfl, nb rfl⟩ rfl (fun e1 => ?_)
  have e1 := e1.trans hs
  refine g_istore (pc := 541) (lv' := [(0, _), (1, _), (2, _), (3, _), (4, _), (5, _), (6, _)]) dL_law_541 (nl rfl) rfl ?_
  refine g_aload_n (pc := 543) dL_law_543 rfl trivial ?_
  refine g_aload_n (pc := 544) dL_law_544 rfl isA_0 ?_
  refine g_iload (pc := 545) dL_law_545 rfl ?_
  refine g_iconst (pc := 547) (v := 1) dL_law_547 rfl ?_
  refine g_iadd (pc := 548) dL_law_548 ?_
  refine g_scriptLoadS (pc := 549) dL_law_549 (nI_o1 _) e1 (by omega) (by omega) ?_
  refine g_aload_n (pc := 550) dL_law_550 rfl isA_0 ?_
  refine g_iload (pc := 551) dL_law_551 rfl ?_
  refine g_iconst (pc := 553) (v := 2) dL_law_553 rfl ?_
  refine g_iadd (pc := 554) dL_law_554 ?_
  refine g_scriptLoadS (pc := 555) dL_law_555 (nI_o2 _) e1 (by omega) (by omega) ?_
  refine g_invV_s (pc := 556) (As := [_, _]) dL_law_556 rfl (h2) rfl rfl (shK hM1 rfl) rfl rfl lk_L_222 rfl (nb rfl) ⟨nb rfl, nb rfl⟩ rfl (fun e2 => ?_)
  have e2 := e2.trans e1
  refine g_lstore (pc := 559) (lv' := [(0, _), (1, _), (2, _), (3, _), (4, _), (5, _), (6, _), (7, _)]) dL_law_559 (nl rfl) rfl ?_
  refine g_aload_n (pc := 561) dL_law_561 rfl trivial ?_
  refine g_invV_r (pc := 562) (As := []) dL_law_562 rfl (n_thrown hM2) rfl rfl (shK hM2 rfl) rfl rfl lk_L_212 rfl (nb rfl) ⟨nb rfl, nb rfl⟩ rfl ?_
  refine g_iload (pc := 565) dL_law_565 rfl ?_
  refine g_icmp_eq (pc := 567) (tgt := 572) dL_law_567 rfl (fun _ => ?_) (fun h567 => absurd (ht) h567)
  refine g_iload (pc := 572) dL_law_572 rfl ?_
  refine g_if_ne (pc := 574) (tgt := 588) dL_law_574 rfl (fun h574 => ?_) (fun h574 => ?_)
  · refine g_goto (pc := 588) (tgt := 4226) dL_law_588 rfl ?_
    exact g_sub (lv' := AL o) ⟨rfl, rfl, rfl, rfl, rfl, rfl, trivial⟩ (kont e2)
  · refine g_aload_n (pc := 577) dL_law_577 rfl trivial ?_
    refine g_iconst (pc := 578) (v := 0) dL_law_578 rfl ?_
    refine g_laload (pc := 579) dL_law_579 (shK hM2 rfl) rfl (nb rfl) (nl rfl) ?_
    refine g_lload (pc := 580) dL_law_580 rfl ?_
    refine g_lcmp (pc := 582) dL_law_582 ?_
    refine g_if_eq (pc := 583) (tgt := 588) dL_law_583 rfl (fun _ => ?_) (fun h583 => absurd ((lgc_self (hq (Decidable.not_not.mp h574)))) h583)
    refine g_goto (pc := 588) (tgt := 4226) dL_law_588 rfl ?_
    exact g_sub (lv' := AL o) ⟨rfl, rfl, rfl, rfl, rfl, rfl, trivial⟩ (kont e2)
set_option maxRecDepth 4000 in
theorem lc_7 {kk : Int32} {b : Int32} (hs : mS M = S) (ho : o + 5 ≤ S.1) (hS9 : S.1 < 2147483648) (hM : Shp M) (hM1 : Shp M1) (hM2 : Shp M2) (h1 : EvR l jL_rank 9 163 3 18 [.ref 0, .int (S.2 (o + 1)), .int (S.2 (o + 2)), .int (S.2 (o + 3)), .ref 212] M (.inl (some (.int kk))) M1) (h2 : EvR l jX7_rank 4 160 0 0 [.ref 198, .int (S.2 (o + 1)), .int (S.2 (o + 2)), .int (S.2 (o + 3))] M1 (.inl (some (.int b))) M2) (ht : mI M2 198 6 = kk) (hq : kk = 0 → mL M2 212 0 = b.toInt64) (kont : mS M2 = S → Go l jL_law 14 538 600002 7302232 Q 4226 (AL o) [] k n M2) : Go l jL_law 14 538 600002 7302232 Q 591 (AL o) [] (k + 3) (n + 18) M := by
  refine g_aload_n (pc := 591) dL_law_591 rfl trivial ?_
  refine g_aload_n (pc := 592) dL_law_592 rfl isA_0 ?_
  refine g_iload (pc := 593) dL_law_593 rfl ?_
  refine g_iconst (pc := 595) (v := 1) dL_law_595 rfl ?_
  refine g_iadd (pc := 596) dL_law_596 ?_
  refine g_scriptLoadS (pc := 597) dL_law_597 (nI_o1 _) hs (by omega) (by omega) ?_
  refine g_aload_n (pc := 598) dL_law_598 rfl isA_0 ?_
  refine g_iload (pc := 599) dL_law_599 rfl ?_
  refine g_iconst (pc := 601) (v := 2) dL_law_601 rfl ?_
  refine g_iadd (pc := 602) dL_law_602 ?_
  refine g_scriptLoadS (pc := 603) dL_law_603 (nI_o2 _) hs (by omega) (by omega) ?_
  refine g_aload_n (pc := 604) dL_law_604 rfl isA_0 ?_
  refine g_iload (pc := 605) dL_law_605 rfl ?_
  refine g_iconst (pc := 607) (v := 3) dL_law_607 rfl ?_
  refine g_iadd (pc := 608) dL_law_608 ?_
  refine g_scriptLoadS (pc := 609) dL_law_609 (nI_o3 _) hs (by omega) (by omega) ?_
  refine g_aload_n (pc := 610) dL_law_610 rfl trivial ?_
  refine g_invSX_s (pc := 611) (As := [_, _, _, _, _]) dL_law_611 rfl (h1) rfl rfl lk_L_223 rfl (nb rfl) ⟨nb rfl, nb rfl⟩ rfl (fun e1 => ?_)
  have e1 := e1.trans hs
  refine g_istore (pc := 614) (lv' := [(0, _), (1, _), (2, _), (3, _), (4, _), (5, _), (6, _)]) dL_law_614 (nl rfl) rfl ?_
  refine g_aload_n (pc := 616) dL_law_616 rfl trivial ?_
  refine g_aload_n (pc := 617) dL_law_617 rfl isA_0 ?_
  refine g_iload (pc := 618) dL_law_618 rfl ?_
  refine g_iconst (pc := 620) (v := 1) dL_law_620 rfl ?_
  refine g_iadd (pc := 621) dL_law_621 ?_
  refine g_scriptLoadS (pc := 622) dL_law_622 (nI_o1 _) e1 (by omega) (by omega) ?_
  refine g_aload_n (pc := 623) dL_law_623 rfl isA_0 ?_
  refine g_iload (pc := 624) dL_law_624 rfl ?_
  refine g_iconst (pc := 626) (v := 2) dL_law_626 rfl ?_
  refine g_iadd (pc := 627) dL_law_627 ?_
  refine g_scriptLoadS (pc := 628) dL_law_628 (nI_o2 _) e1 (by omega) (by omega) ?_
  refine g_aload_n (pc := 629) dL_law_629 rfl isA_0 ?_
  refine g_iload (pc := 630) dL_law_630 rfl ?_
  refine g_iconst (pc := 632) (v := 3) dL_law_632 rfl ?_
  refine g_iadd (pc := 633) dL_law_633 ?_
  refine g_scriptLoadS (pc := 634) dL_law_634 (nI_o3 _) e1 (by omega) (by omega) ?_
  refine g_invV_s (pc := 635) (As := [_, _, _]) dL_law_635 rfl (h2) rfl rfl (shK hM1 rfl) rfl rfl lk_L_225 rfl (nb rfl) ⟨nb rfl, nb rfl⟩ rfl (fun e2 => ?_)
  have e2 := e2.trans e1
  refine g_istore (pc := 638) (lv' := [(0, _), (1, _), (2, _), (3, _), (4, _), (5, _), (6, _), (7, _)]) dL_law_638 (nl rfl) rfl ?_
  refine g_aload_n (pc := 640) dL_law_640 rfl trivial ?_
  refine g_invV_r (pc := 641) (As := []) dL_law_641 rfl (n_thrown hM2) rfl rfl (shK hM2 rfl) rfl rfl lk_L_212 rfl (nb rfl) ⟨nb rfl, nb rfl⟩ rfl ?_
  refine g_iload (pc := 644) dL_law_644 rfl ?_
  refine g_icmp_eq (pc := 646) (tgt := 651) dL_law_646 rfl (fun _ => ?_) (fun h646 => absurd (ht) h646)
  refine g_iload (pc := 651) dL_law_651 rfl ?_
  refine g_if_ne (pc := 653) (tgt := 668) dL_law_653 rfl (fun h653 => ?_) (fun h653 => ?_)
  · refine g_goto (pc := 668) (tgt := 4226) dL_law_668 rfl ?_
    exact g_sub (lv' := AL o) ⟨rfl, rfl, rfl, rfl, rfl, rfl, trivial⟩ (kont e2)
  · refine g_aload_n (pc := 656) dL_law_656 rfl trivial ?_
    refine g_iconst (pc := 657) (v := 0) dL_law_657 rfl ?_
    refine g_laload (pc := 658) dL_law_658 (shK hM2 rfl) rfl (nb rfl) (nl rfl) ?_
    refine g_iload (pc := 659) dL_law_659 rfl ?_
    refine g_i2l (pc := 661) dL_law_661 rfl ?_
    refine g_lcmp (pc := 662) dL_law_662 ?_
    refine g_if_eq (pc := 663) (tgt := 668) dL_law_663 rfl (fun _ => ?_) (fun h663 => absurd ((lgc_self (hq (Decidable.not_not.mp h653)))) h663)
    refine g_goto (pc := 668) (tgt := 4226) dL_law_668 rfl ?_
    exact g_sub (lv' := AL o) ⟨rfl, rfl, rfl, rfl, rfl, rfl, trivial⟩ (kont e2)
set_option maxRecDepth 4000 in
theorem lc_8 {kk : Int32} {b : Int32} (hs : mS M = S) (ho : o + 5 ≤ S.1) (hS9 : S.1 < 2147483648) (hM : Shp M) (hM1 : Shp M1) (hM2 : Shp M2) (h1 : EvR l jL_select 9 163 2 12 [.ref 0, .int (S.2 (o + 1)), .int (S.2 (o + 2)), .int (S.2 (o + 3)), .ref 212] M (.inl (some (.int kk))) M1) (h2 : EvR l jX7_select 4 160 0 0 [.ref 198, .int (S.2 (o + 1)), .int (S.2 (o + 2)), .int (S.2 (o + 3))] M1 (.inl (some (.int b))) M2) (ht : mI M2 198 6 = kk) (hq : kk = 0 → mL M2 212 0 = b.toInt64) (kont : mS M2 = S → Go l jL_law 14 538 600002 7302232 Q 4226 (AL o) [] k n M2) : Go l jL_law 14 538 600002 7302232 Q 671 (AL o) [] (k + 2) (n + 12) M := by
  refine g_aload_n (pc := 671) dL_law_671 rfl trivial ?_
  refine g_aload_n (pc := 672) dL_law_672 rfl isA_0 ?_
  refine g_iload (pc := 673) dL_law_673 rfl ?_
  refine g_iconst (pc := 675) (v := 1) dL_law_675 rfl ?_
  refine g_iadd (pc := 676) dL_law_676 ?_
  refine g_scriptLoadS (pc := 677) dL_law_677 (nI_o1 _) hs (by omega) (by omega) ?_
  refine g_aload_n (pc := 678) dL_law_678 rfl isA_0 ?_
  refine g_iload (pc := 679) dL_law_679 rfl ?_
  refine g_iconst (pc := 681) (v := 2) dL_law_681 rfl ?_
  refine g_iadd (pc := 682) dL_law_682 ?_
  refine g_scriptLoadS (pc := 683) dL_law_683 (nI_o2 _) hs (by omega) (by omega) ?_
  refine g_aload_n (pc := 684) dL_law_684 rfl isA_0 ?_
  refine g_iload (pc := 685) dL_law_685 rfl ?_
  refine g_iconst (pc := 687) (v := 3) dL_law_687 rfl ?_
  refine g_iadd (pc := 688) dL_law_688 ?_
  refine g_scriptLoadS (pc := 689) dL_law_689 (nI_o3 _) hs (by omega) (by omega) ?_
  refine g_aload_n (pc := 690) dL_law_690 rfl trivial ?_
  refine g_invSX_s (pc := 691) (As := [_, _, _, _, _]) dL_law_691 rfl (h1) rfl rfl lk_L_226 rfl (nb rfl) ⟨nb rfl, nb rfl⟩ rfl (fun e1 => ?_)
  have e1 := e1.trans hs
  refine g_istore (pc := 694) (lv' := [(0, _), (1, _), (2, _), (3, _), (4, _), (5, _), (6, _)]) dL_law_694 (nl rfl) rfl ?_
  refine g_aload_n (pc := 696) dL_law_696 rfl trivial ?_
  refine g_aload_n (pc := 697) dL_law_697 rfl isA_0 ?_
  refine g_iload (pc := 698) dL_law_698 rfl ?_
  refine g_iconst (pc := 700) (v := 1) dL_law_700 rfl ?_
  refine g_iadd (pc := 701) dL_law_701 ?_
  refine g_scriptLoadS (pc := 702) dL_law_702 (nI_o1 _) e1 (by omega) (by omega) ?_
  refine g_aload_n (pc := 703) dL_law_703 rfl isA_0 ?_
  refine g_iload (pc := 704) dL_law_704 rfl ?_
  refine g_iconst (pc := 706) (v := 2) dL_law_706 rfl ?_
  refine g_iadd (pc := 707) dL_law_707 ?_
  refine g_scriptLoadS (pc := 708) dL_law_708 (nI_o2 _) e1 (by omega) (by omega) ?_
  refine g_aload_n (pc := 709) dL_law_709 rfl isA_0 ?_
  refine g_iload (pc := 710) dL_law_710 rfl ?_
  refine g_iconst (pc := 712) (v := 3) dL_law_712 rfl ?_
  refine g_iadd (pc := 713) dL_law_713 ?_
  refine g_scriptLoadS (pc := 714) dL_law_714 (nI_o3 _) e1 (by omega) (by omega) ?_
  refine g_invV_s (pc := 715) (As := [_, _, _]) dL_law_715 rfl (h2) rfl rfl (shK hM1 rfl) rfl rfl lk_L_228 rfl (nb rfl) ⟨nb rfl, nb rfl⟩ rfl (fun e2 => ?_)
  have e2 := e2.trans e1
  refine g_istore (pc := 718) (lv' := [(0, _), (1, _), (2, _), (3, _), (4, _), (5, _), (6, _), (7, _)]) dL_law_718 (nl rfl) rfl ?_
  refine g_aload_n (pc := 720) dL_law_720 rfl trivial ?_
  refine g_invV_r (pc := 721) (As := []) dL_law_721 rfl (n_thrown hM2) rfl rfl (shK hM2 rfl) rfl rfl lk_L_212 rfl (nb rfl) ⟨nb rfl, nb rfl⟩ rfl ?_
  refine g_iload (pc := 724) dL_law_724 rfl ?_
  refine g_icmp_eq (pc := 726) (tgt := 731) dL_law_726 rfl (fun _ => ?_) (fun h726 => absurd (ht) h726)
  refine g_iload (pc := 731) dL_law_731 rfl ?_
  refine g_if_ne (pc := 733) (tgt := 748) dL_law_733 rfl (fun h733 => ?_) (fun h733 => ?_)
  · refine g_goto (pc := 748) (tgt := 4226) dL_law_748 rfl ?_
    exact g_sub (lv' := AL o) ⟨rfl, rfl, rfl, rfl, rfl, rfl, trivial⟩ (kont e2)
  · refine g_aload_n (pc := 736) dL_law_736 rfl trivial ?_
    refine g_iconst (pc := 737) (v := 0) dL_law_737 rfl ?_
    refine g_laload (pc := 738) dL_law_738 (shK hM2 rfl) rfl (nb rfl) (nl rfl) ?_
    refine g_iload (pc := 739) dL_law_739 rfl ?_
    refine g_i2l (pc := 741) dL_law_741 rfl ?_
    refine g_lcmp (pc := 742) dL_law_742 ?_
    refine g_if_eq (pc := 743) (tgt := 748) dL_law_743 rfl (fun _ => ?_) (fun h743 => absurd ((lgc_self (hq (Decidable.not_not.mp h733)))) h743)
    refine g_goto (pc := 748) (tgt := 4226) dL_law_748 rfl ?_
    exact g_sub (lv' := AL o) ⟨rfl, rfl, rfl, rfl, rfl, rfl, trivial⟩ (kont e2)
set_option maxRecDepth 4000 in
theorem lc_9 {kk : Int32} {b : Int32} (hs : mS M = S) (ho : o + 5 ≤ S.1) (hS9 : S.1 < 2147483648) (hM : Shp M) (hM1 : Shp M1) (hM2 : Shp M2) (h1 : EvR l jL_ones 8 141 1 6 [.ref 0, .int (S.2 (o + 1)), .ref 212] M (.inl (some (.int kk))) M1) (h2 : EvR l jX7_ones 4 160 0 0 [.ref 198, .int (S.2 (o + 1))] M1 (.inl (some (.int b))) M2) (ht : mI M2 198 6 = kk) (hq : kk = 0 → mL M2 212 0 = b.toInt64) (kont : mS M2 = S → Go l jL_law 14 538 600002 7302232 Q 4226 (AL o) [] k n M2) : Go l jL_law 14 538 600002 7302232 Q 751 (AL o) [] (k + 1) (n + 6) M := by
  refine g_aload_n (pc := 751) dL_law_751 rfl trivial ?_
  refine g_aload_n (pc := 752) dL_law_752 rfl isA_0 ?_
  refine g_iload (pc := 753) dL_law_753 rfl ?_
  refine g_iconst (pc := 755) (v := 1) dL_law_755 rfl ?_
  refine g_iadd (pc := 756) dL_law_756 ?_
  refine g_scriptLoadS (pc := 757) dL_law_757 (nI_o1 _) hs (by omega) (by omega) ?_
  refine g_aload_n (pc := 758) dL_law_758 rfl trivial ?_
  refine g_invSX_s (pc := 759) (As := [_, _, _]) dL_law_759 rfl (h1) rfl rfl lk_L_229 rfl (nb rfl) ⟨nb rfl, nb rfl⟩ rfl (fun e1 => ?_)
  have e1 := e1.trans hs
  refine g_istore (pc := 762) (lv' := [(0, _), (1, _), (2, _), (3, _), (4, _), (5, _), (6, _)]) dL_law_762 (nl rfl) rfl ?_
  refine g_aload_n (pc := 764) dL_law_764 rfl trivial ?_
  refine g_aload_n (pc := 765) dL_law_765 rfl isA_0 ?_
  refine g_iload (pc := 766) dL_law_766 rfl ?_
  refine g_iconst (pc := 768) (v := 1) dL_law_768 rfl ?_
  refine g_iadd (pc := 769) dL_law_769 ?_
  refine g_scriptLoadS (pc := 770) dL_law_770 (nI_o1 _) e1 (by omega) (by omega) ?_
  refine g_invV_s (pc := 771) (As := [_]) dL_law_771 rfl (h2) rfl rfl (shK hM1 rfl) rfl rfl lk_L_231 rfl (nb rfl) ⟨nb rfl, nb rfl⟩ rfl (fun e2 => ?_)
  have e2 := e2.trans e1
  refine g_istore (pc := 774) (lv' := [(0, _), (1, _), (2, _), (3, _), (4, _), (5, _), (6, _), (7, _)]) dL_law_774 (nl rfl) rfl ?_
  refine g_aload_n (pc := 776) dL_law_776 rfl trivial ?_
  refine g_invV_r (pc := 777) (As := []) dL_law_777 rfl (n_thrown hM2) rfl rfl (shK hM2 rfl) rfl rfl lk_L_212 rfl (nb rfl) ⟨nb rfl, nb rfl⟩ rfl ?_
  refine g_iload (pc := 780) dL_law_780 rfl ?_
  refine g_icmp_eq (pc := 782) (tgt := 787) dL_law_782 rfl (fun _ => ?_) (fun h782 => absurd (ht) h782)
  refine g_iload (pc := 787) dL_law_787 rfl ?_
  refine g_if_ne (pc := 789) (tgt := 804) dL_law_789 rfl (fun h789 => ?_) (fun h789 => ?_)
  · refine g_goto (pc := 804) (tgt := 4226) dL_law_804 rfl ?_
    exact g_sub (lv' := AL o) ⟨rfl, rfl, rfl, rfl, rfl, rfl, trivial⟩ (kont e2)
  · refine g_aload_n (pc := 792) dL_law_792 rfl trivial ?_
    refine g_iconst (pc := 793) (v := 0) dL_law_793 rfl ?_
    refine g_laload (pc := 794) dL_law_794 (shK hM2 rfl) rfl (nb rfl) (nl rfl) ?_
    refine g_iload (pc := 795) dL_law_795 rfl ?_
    refine g_i2l (pc := 797) dL_law_797 rfl ?_
    refine g_lcmp (pc := 798) dL_law_798 ?_
    refine g_if_eq (pc := 799) (tgt := 804) dL_law_799 rfl (fun _ => ?_) (fun h799 => absurd ((lgc_self (hq (Decidable.not_not.mp h789)))) h799)
    refine g_goto (pc := 804) (tgt := 4226) dL_law_804 rfl ?_
    exact g_sub (lv' := AL o) ⟨rfl, rfl, rfl, rfl, rfl, rfl, trivial⟩ (kont e2)
set_option maxRecDepth 4000 in
theorem lc_10 {kk : Int32} {b : Int32} (hs : mS M = S) (ho : o + 5 ≤ S.1) (hS9 : S.1 < 2147483648) (hM : Shp M) (hM1 : Shp M1) (hM2 : Shp M2) (h1 : EvR l jL_columnOnes 9 162 2 12 [.ref 0, .int (S.2 (o + 1)), .int (S.2 (o + 2)), .ref 212] M (.inl (some (.int kk))) M1) (h2 : EvR l jX7_columnOnes 4 160 0 0 [.ref 198, .int (S.2 (o + 1)), .int (S.2 (o + 2))] M1 (.inl (some (.int b))) M2) (ht : mI M2 198 6 = kk) (hq : kk = 0 → mL M2 212 0 = b.toInt64) (kont : mS M2 = S → Go l jL_law 14 538 600002 7302232 Q 4226 (AL o) [] k n M2) : Go l jL_law 14 538 600002 7302232 Q 807 (AL o) [] (k + 2) (n + 12) M := by
  refine g_aload_n (pc := 807) dL_law_807 rfl trivial ?_
  refine g_aload_n (pc := 808) dL_law_808 rfl isA_0 ?_
  refine g_iload (pc := 809) dL_law_809 rfl ?_
  refine g_iconst (pc := 811) (v := 1) dL_law_811 rfl ?_
  refine g_iadd (pc := 812) dL_law_812 ?_
  refine g_scriptLoadS (pc := 813) dL_law_813 (nI_o1 _) hs (by omega) (by omega) ?_
  refine g_aload_n (pc := 814) dL_law_814 rfl isA_0 ?_
  refine g_iload (pc := 815) dL_law_815 rfl ?_
  refine g_iconst (pc := 817) (v := 2) dL_law_817 rfl ?_
  refine g_iadd (pc := 818) dL_law_818 ?_
  refine g_scriptLoadS (pc := 819) dL_law_819 (nI_o2 _) hs (by omega) (by omega) ?_
  refine g_aload_n (pc := 820) dL_law_820 rfl trivial ?_
  refine g_invSX_s (pc := 821) (As := [_, _, _, _]) dL_law_821 rfl (h1) rfl rfl lk_L_232 rfl (nb rfl) ⟨nb rfl, nb rfl⟩ rfl (fun e1 => ?_)
  have e1 := e1.trans hs
  refine g_istore (pc := 824) (lv' := [(0, _), (1, _), (2, _), (3, _), (4, _), (5, _), (6, _)]) dL_law_824 (nl rfl) rfl ?_
  refine g_aload_n (pc := 826) dL_law_826 rfl trivial ?_
  refine g_aload_n (pc := 827) dL_law_827 rfl isA_0 ?_
  refine g_iload (pc := 828) dL_law_828 rfl ?_
  refine g_iconst (pc := 830) (v := 1) dL_law_830 rfl ?_
  refine g_iadd (pc := 831) dL_law_831 ?_
  refine g_scriptLoadS (pc := 832) dL_law_832 (nI_o1 _) e1 (by omega) (by omega) ?_
  refine g_aload_n (pc := 833) dL_law_833 rfl isA_0 ?_
  refine g_iload (pc := 834) dL_law_834 rfl ?_
  refine g_iconst (pc := 836) (v := 2) dL_law_836 rfl ?_
  refine g_iadd (pc := 837) dL_law_837 ?_
  refine g_scriptLoadS (pc := 838) dL_law_838 (nI_o2 _) e1 (by omega) (by omega) ?_
  refine g_invV_s (pc := 839) (As := [_, _]) dL_law_839 rfl (h2) rfl rfl (shK hM1 rfl) rfl rfl lk_L_234 rfl (nb rfl) ⟨nb rfl, nb rfl⟩ rfl (fun e2 => ?_)
  have e2 := e2.trans e1
  refine g_istore (pc := 842) (lv' := [(0, _), (1, _), (2, _), (3, _), (4, _), (5, _), (6, _), (7, _)]) dL_law_842 (nl rfl) rfl ?_
  refine g_aload_n (pc := 844) dL_law_844 rfl trivial ?_
  refine g_invV_r (pc := 845) (As := []) dL_law_845 rfl (n_thrown hM2) rfl rfl (shK hM2 rfl) rfl rfl lk_L_212 rfl (nb rfl) ⟨nb rfl, nb rfl⟩ rfl ?_
  refine g_iload (pc := 848) dL_law_848 rfl ?_
  refine g_icmp_eq (pc := 850) (tgt := 855) dL_law_850 rfl (fun _ => ?_) (fun h850 => absurd (ht) h850)
  refine g_iload (pc := 855) dL_law_855 rfl ?_
  refine g_if_ne (pc := 857) (tgt := 872) dL_law_857 rfl (fun h857 => ?_) (fun h857 => ?_)
  · refine g_goto (pc := 872) (tgt := 4226) dL_law_872 rfl ?_
    exact g_sub (lv' := AL o) ⟨rfl, rfl, rfl, rfl, rfl, rfl, trivial⟩ (kont e2)
  · refine g_aload_n (pc := 860) dL_law_860 rfl trivial ?_
    refine g_iconst (pc := 861) (v := 0) dL_law_861 rfl ?_
    refine g_laload (pc := 862) dL_law_862 (shK hM2 rfl) rfl (nb rfl) (nl rfl) ?_
    refine g_iload (pc := 863) dL_law_863 rfl ?_
    refine g_i2l (pc := 865) dL_law_865 rfl ?_
    refine g_lcmp (pc := 866) dL_law_866 ?_
    refine g_if_eq (pc := 867) (tgt := 872) dL_law_867 rfl (fun _ => ?_) (fun h867 => absurd ((lgc_self (hq (Decidable.not_not.mp h857)))) h867)
    refine g_goto (pc := 872) (tgt := 4226) dL_law_872 rfl ?_
    exact g_sub (lv' := AL o) ⟨rfl, rfl, rfl, rfl, rfl, rfl, trivial⟩ (kont e2)
set_option maxRecDepth 4000 in
theorem lc_11 {kk : Int32} {b : Int32} (hs : mS M = S) (ho : o + 5 ≤ S.1) (hS9 : S.1 < 2147483648) (hM : Shp M) (hM1 : Shp M1) (hM2 : Shp M2) (h1 : EvR l jL_sameAs 9 162 2 12 [.ref 0, .int (S.2 (o + 1)), .int (S.2 (o + 2)), .ref 212] M (.inl (some (.int kk))) M1) (h2 : EvR l jX7_sameAs 4 160 0 0 [.ref 198, .int (S.2 (o + 1)), .int (S.2 (o + 2))] M1 (.inl (some (.int b))) M2) (ht : mI M2 198 6 = kk) (hq : kk = 0 → mL M2 212 0 = b.toInt64) (kont : mS M2 = S → Go l jL_law 14 538 600002 7302232 Q 4226 (AL o) [] k n M2) : Go l jL_law 14 538 600002 7302232 Q 875 (AL o) [] (k + 2) (n + 12) M := by
  refine g_aload_n (pc := 875) dL_law_875 rfl trivial ?_
  refine g_aload_n (pc := 876) dL_law_876 rfl isA_0 ?_
  refine g_iload (pc := 877) dL_law_877 rfl ?_
  refine g_iconst (pc := 879) (v := 1) dL_law_879 rfl ?_
  refine g_iadd (pc := 880) dL_law_880 ?_
  refine g_scriptLoadS (pc := 881) dL_law_881 (nI_o1 _) hs (by omega) (by omega) ?_
  refine g_aload_n (pc := 882) dL_law_882 rfl isA_0 ?_
  refine g_iload (pc := 883) dL_law_883 rfl ?_
  refine g_iconst (pc := 885) (v := 2) dL_law_885 rfl ?_
  refine g_iadd (pc := 886) dL_law_886 ?_
  refine g_scriptLoadS (pc := 887) dL_law_887 (nI_o2 _) hs (by omega) (by omega) ?_
  refine g_aload_n (pc := 888) dL_law_888 rfl trivial ?_
  refine g_invSX_s (pc := 889) (As := [_, _, _, _]) dL_law_889 rfl (h1) rfl rfl lk_L_235 rfl (nb rfl) ⟨nb rfl, nb rfl⟩ rfl (fun e1 => ?_)
  have e1 := e1.trans hs
  refine g_istore (pc := 892) (lv' := [(0, _), (1, _), (2, _), (3, _), (4, _), (5, _), (6, _)]) dL_law_892 (nl rfl) rfl ?_
  refine g_aload_n (pc := 894) dL_law_894 rfl trivial ?_
  refine g_aload_n (pc := 895) dL_law_895 rfl isA_0 ?_
  refine g_iload (pc := 896) dL_law_896 rfl ?_
  refine g_iconst (pc := 898) (v := 1) dL_law_898 rfl ?_
  refine g_iadd (pc := 899) dL_law_899 ?_
  refine g_scriptLoadS (pc := 900) dL_law_900 (nI_o1 _) e1 (by omega) (by omega) ?_
  refine g_aload_n (pc := 901) dL_law_901 rfl isA_0 ?_
  refine g_iload (pc := 902) dL_law_902 rfl ?_
  refine g_iconst (pc := 904) (v := 2) dL_law_904 rfl ?_
  refine g_iadd (pc := 905) dL_law_905 ?_
  refine g_scriptLoadS (pc := 906) dL_law_906 (nI_o2 _) e1 (by omega) (by omega) ?_
  refine g_invV_s (pc := 907) (As := [_, _]) dL_law_907 rfl (h2) rfl rfl (shK hM1 rfl) rfl rfl lk_L_237 rfl (nb rfl) ⟨nb rfl, nb rfl⟩ rfl (fun e2 => ?_)
  have e2 := e2.trans e1
  refine g_istore (pc := 910) (lv' := [(0, _), (1, _), (2, _), (3, _), (4, _), (5, _), (6, _), (7, _)]) dL_law_910 (nl rfl) rfl ?_
  refine g_aload_n (pc := 912) dL_law_912 rfl trivial ?_
  refine g_invV_r (pc := 913) (As := []) dL_law_913 rfl (n_thrown hM2) rfl rfl (shK hM2 rfl) rfl rfl lk_L_212 rfl (nb rfl) ⟨nb rfl, nb rfl⟩ rfl ?_
  refine g_iload (pc := 916) dL_law_916 rfl ?_
  refine g_icmp_eq (pc := 918) (tgt := 923) dL_law_918 rfl (fun _ => ?_) (fun h918 => absurd (ht) h918)
  refine g_iload (pc := 923) dL_law_923 rfl ?_
  refine g_if_ne (pc := 925) (tgt := 940) dL_law_925 rfl (fun h925 => ?_) (fun h925 => ?_)
  · refine g_goto (pc := 940) (tgt := 4226) dL_law_940 rfl ?_
    exact g_sub (lv' := AL o) ⟨rfl, rfl, rfl, rfl, rfl, rfl, trivial⟩ (kont e2)
  · refine g_aload_n (pc := 928) dL_law_928 rfl trivial ?_
    refine g_iconst (pc := 929) (v := 0) dL_law_929 rfl ?_
    refine g_laload (pc := 930) dL_law_930 (shK hM2 rfl) rfl (nb rfl) (nl rfl) ?_
    refine g_iload (pc := 931) dL_law_931 rfl ?_
    refine g_i2l (pc := 933) dL_law_933 rfl ?_
    refine g_lcmp (pc := 934) dL_law_934 ?_
    refine g_if_eq (pc := 935) (tgt := 940) dL_law_935 rfl (fun _ => ?_) (fun h935 => absurd ((lgc_self (hq (Decidable.not_not.mp h925)))) h935)
    refine g_goto (pc := 940) (tgt := 4226) dL_law_940 rfl ?_
    exact g_sub (lv' := AL o) ⟨rfl, rfl, rfl, rfl, rfl, rfl, trivial⟩ (kont e2)
set_option maxRecDepth 4000 in
theorem lc_12 {kk : Int32} {b : Int32} (hs : mS M = S) (ho : o + 5 ≤ S.1) (hS9 : S.1 < 2147483648) (hM : Shp M) (hM1 : Shp M1) (hM2 : Shp M2) (h1 : EvR l jL_classes 8 141 1 6 [.ref 0, .int (S.2 (o + 1)), .ref 212] M (.inl (some (.int kk))) M1) (h2 : EvR l jX7_classes 4 160 0 0 [.ref 198, .int (S.2 (o + 1))] M1 (.inl (some (.int b))) M2) (ht : mI M2 198 6 = kk) (hq : kk = 0 → mL M2 212 0 = b.toInt64) (kont : mS M2 = S → Go l jL_law 14 538 600002 7302232 Q 4226 (AL o) [] k n M2) : Go l jL_law 14 538 600002 7302232 Q 943 (AL o) [] (k + 1) (n + 6) M := by
  refine g_aload_n (pc := 943) dL_law_943 rfl trivial ?_
  refine g_aload_n (pc := 944) dL_law_944 rfl isA_0 ?_
  refine g_iload (pc := 945) dL_law_945 rfl ?_
  refine g_iconst (pc := 947) (v := 1) dL_law_947 rfl ?_
  refine g_iadd (pc := 948) dL_law_948 ?_
  refine g_scriptLoadS (pc := 949) dL_law_949 (nI_o1 _) hs (by omega) (by omega) ?_
  refine g_aload_n (pc := 950) dL_law_950 rfl trivial ?_
  refine g_invSX_s (pc := 951) (As := [_, _, _]) dL_law_951 rfl (h1) rfl rfl lk_L_238 rfl (nb rfl) ⟨nb rfl, nb rfl⟩ rfl (fun e1 => ?_)
  have e1 := e1.trans hs
  refine g_istore (pc := 954) (lv' := [(0, _), (1, _), (2, _), (3, _), (4, _), (5, _), (6, _)]) dL_law_954 (nl rfl) rfl ?_
  refine g_aload_n (pc := 956) dL_law_956 rfl trivial ?_
  refine g_aload_n (pc := 957) dL_law_957 rfl isA_0 ?_
  refine g_iload (pc := 958) dL_law_958 rfl ?_
  refine g_iconst (pc := 960) (v := 1) dL_law_960 rfl ?_
  refine g_iadd (pc := 961) dL_law_961 ?_
  refine g_scriptLoadS (pc := 962) dL_law_962 (nI_o1 _) e1 (by omega) (by omega) ?_
  refine g_invV_s (pc := 963) (As := [_]) dL_law_963 rfl (h2) rfl rfl (shK hM1 rfl) rfl rfl lk_L_240 rfl (nb rfl) ⟨nb rfl, nb rfl⟩ rfl (fun e2 => ?_)
  have e2 := e2.trans e1
  refine g_istore (pc := 966) (lv' := [(0, _), (1, _), (2, _), (3, _), (4, _), (5, _), (6, _), (7, _)]) dL_law_966 (nl rfl) rfl ?_
  refine g_aload_n (pc := 968) dL_law_968 rfl trivial ?_
  refine g_invV_r (pc := 969) (As := []) dL_law_969 rfl (n_thrown hM2) rfl rfl (shK hM2 rfl) rfl rfl lk_L_212 rfl (nb rfl) ⟨nb rfl, nb rfl⟩ rfl ?_
  refine g_iload (pc := 972) dL_law_972 rfl ?_
  refine g_icmp_eq (pc := 974) (tgt := 979) dL_law_974 rfl (fun _ => ?_) (fun h974 => absurd (ht) h974)
  refine g_iload (pc := 979) dL_law_979 rfl ?_
  refine g_if_ne (pc := 981) (tgt := 996) dL_law_981 rfl (fun h981 => ?_) (fun h981 => ?_)
  · refine g_goto (pc := 996) (tgt := 4226) dL_law_996 rfl ?_
    exact g_sub (lv' := AL o) ⟨rfl, rfl, rfl, rfl, rfl, rfl, trivial⟩ (kont e2)
  · refine g_aload_n (pc := 984) dL_law_984 rfl trivial ?_
    refine g_iconst (pc := 985) (v := 0) dL_law_985 rfl ?_
    refine g_laload (pc := 986) dL_law_986 (shK hM2 rfl) rfl (nb rfl) (nl rfl) ?_
    refine g_iload (pc := 987) dL_law_987 rfl ?_
    refine g_i2l (pc := 989) dL_law_989 rfl ?_
    refine g_lcmp (pc := 990) dL_law_990 ?_
    refine g_if_eq (pc := 991) (tgt := 996) dL_law_991 rfl (fun _ => ?_) (fun h991 => absurd ((lgc_self (hq (Decidable.not_not.mp h981)))) h991)
    refine g_goto (pc := 996) (tgt := 4226) dL_law_996 rfl ?_
    exact g_sub (lv' := AL o) ⟨rfl, rfl, rfl, rfl, rfl, rfl, trivial⟩ (kont e2)
set_option maxRecDepth 4000 in
theorem lc_13 {kk : Int32} {b : Int32} (hs : mS M = S) (ho : o + 5 ≤ S.1) (hS9 : S.1 < 2147483648) (hM : Shp M) (hM1 : Shp M1) (hM2 : Shp M2) (h1 : EvR l jL_classOf 9 163 2 12 [.ref 0, .int (S.2 (o + 1)), .int (S.2 (o + 2)), .ref 212] M (.inl (some (.int kk))) M1) (h2 : EvR l jX7_classOf 4 160 0 0 [.ref 198, .int (S.2 (o + 1)), .int (S.2 (o + 2))] M1 (.inl (some (.int b))) M2) (ht : mI M2 198 6 = kk) (hq : kk = 0 → mL M2 212 0 = b.toInt64) (kont : mS M2 = S → Go l jL_law 14 538 600002 7302232 Q 4226 (AL o) [] k n M2) : Go l jL_law 14 538 600002 7302232 Q 999 (AL o) [] (k + 2) (n + 12) M := by
  refine g_aload_n (pc := 999) dL_law_999 rfl trivial ?_
  refine g_aload_n (pc := 1000) dL_law_1000 rfl isA_0 ?_
  refine g_iload (pc := 1001) dL_law_1001 rfl ?_
  refine g_iconst (pc := 1003) (v := 1) dL_law_1003 rfl ?_
  refine g_iadd (pc := 1004) dL_law_1004 ?_
  refine g_scriptLoadS (pc := 1005) dL_law_1005 (nI_o1 _) hs (by omega) (by omega) ?_
  refine g_aload_n (pc := 1006) dL_law_1006 rfl isA_0 ?_
  refine g_iload (pc := 1007) dL_law_1007 rfl ?_
  refine g_iconst (pc := 1009) (v := 2) dL_law_1009 rfl ?_
  refine g_iadd (pc := 1010) dL_law_1010 ?_
  refine g_scriptLoadS (pc := 1011) dL_law_1011 (nI_o2 _) hs (by omega) (by omega) ?_
  refine g_aload_n (pc := 1012) dL_law_1012 rfl trivial ?_
  refine g_invSX_s (pc := 1013) (As := [_, _, _, _]) dL_law_1013 rfl (h1) rfl rfl lk_L_241 rfl (nb rfl) ⟨nb rfl, nb rfl⟩ rfl (fun e1 => ?_)
  have e1 := e1.trans hs
  refine g_istore (pc := 1016) (lv' := [(0, _), (1, _), (2, _), (3, _), (4, _), (5, _), (6, _)]) dL_law_1016 (nl rfl) rfl ?_
  refine g_aload_n (pc := 1018) dL_law_1018 rfl trivial ?_
  refine g_aload_n (pc := 1019) dL_law_1019 rfl isA_0 ?_
  refine g_iload (pc := 1020) dL_law_1020 rfl ?_
  refine g_iconst (pc := 1022) (v := 1) dL_law_1022 rfl ?_
  refine g_iadd (pc := 1023) dL_law_1023 ?_
  refine g_scriptLoadS (pc := 1024) dL_law_1024 (nI_o1 _) e1 (by omega) (by omega) ?_
  refine g_aload_n (pc := 1025) dL_law_1025 rfl isA_0 ?_
  refine g_iload (pc := 1026) dL_law_1026 rfl ?_
  refine g_iconst (pc := 1028) (v := 2) dL_law_1028 rfl ?_
  refine g_iadd (pc := 1029) dL_law_1029 ?_
  refine g_scriptLoadS (pc := 1030) dL_law_1030 (nI_o2 _) e1 (by omega) (by omega) ?_
  refine g_invV_s (pc := 1031) (As := [_, _]) dL_law_1031 rfl (h2) rfl rfl (shK hM1 rfl) rfl rfl lk_L_243 rfl (nb rfl) ⟨nb rfl, nb rfl⟩ rfl (fun e2 => ?_)
  have e2 := e2.trans e1
  refine g_istore (pc := 1034) (lv' := [(0, _), (1, _), (2, _), (3, _), (4, _), (5, _), (6, _), (7, _)]) dL_law_1034 (nl rfl) rfl ?_
  refine g_aload_n (pc := 1036) dL_law_1036 rfl trivial ?_
  refine g_invV_r (pc := 1037) (As := []) dL_law_1037 rfl (n_thrown hM2) rfl rfl (shK hM2 rfl) rfl rfl lk_L_212 rfl (nb rfl) ⟨nb rfl, nb rfl⟩ rfl ?_
  refine g_iload (pc := 1040) dL_law_1040 rfl ?_
  refine g_icmp_eq (pc := 1042) (tgt := 1047) dL_law_1042 rfl (fun _ => ?_) (fun h1042 => absurd (ht) h1042)
  refine g_iload (pc := 1047) dL_law_1047 rfl ?_
  refine g_if_ne (pc := 1049) (tgt := 1064) dL_law_1049 rfl (fun h1049 => ?_) (fun h1049 => ?_)
  · refine g_goto (pc := 1064) (tgt := 4226) dL_law_1064 rfl ?_
    exact g_sub (lv' := AL o) ⟨rfl, rfl, rfl, rfl, rfl, rfl, trivial⟩ (kont e2)
  · refine g_aload_n (pc := 1052) dL_law_1052 rfl trivial ?_
    refine g_iconst (pc := 1053) (v := 0) dL_law_1053 rfl ?_
    refine g_laload (pc := 1054) dL_law_1054 (shK hM2 rfl) rfl (nb rfl) (nl rfl) ?_
    refine g_iload (pc := 1055) dL_law_1055 rfl ?_
    refine g_i2l (pc := 1057) dL_law_1057 rfl ?_
    refine g_lcmp (pc := 1058) dL_law_1058 ?_
    refine g_if_eq (pc := 1059) (tgt := 1064) dL_law_1059 rfl (fun _ => ?_) (fun h1059 => absurd ((lgc_self (hq (Decidable.not_not.mp h1049)))) h1059)
    refine g_goto (pc := 1064) (tgt := 4226) dL_law_1064 rfl ?_
    exact g_sub (lv' := AL o) ⟨rfl, rfl, rfl, rfl, rfl, rfl, trivial⟩ (kont e2)
set_option maxRecDepth 4000 in
theorem lc_14 {kk : Int32} {b : Int32} (hs : mS M = S) (ho : o + 5 ≤ S.1) (hS9 : S.1 < 2147483648) (hM : Shp M) (hM1 : Shp M1) (hM2 : Shp M2) (h1 : EvR l jL_find 8 143 1 6 [.ref 0, .int (S.2 (o + 1)), .long (l2 (S.2 (o + 2)) (S.2 (o + 3))), .ref 212] M (.inl (some (.int kk))) M1) (h2 : EvR l jX7_find 4 160 0 0 [.ref 198, .int (S.2 (o + 1)), .long (l2 (S.2 (o + 2)) (S.2 (o + 3)))] M1 (.inl (some (.int b))) M2) (ht : mI M2 198 6 = kk) (hq : kk = 0 → mL M2 212 0 = b.toInt64) (kont : mS M2 = S → Go l jL_law 14 538 600002 7302232 Q 4226 (AL o) [] k n M2) : Go l jL_law 14 538 600002 7302232 Q 1067 (AL o) [] (k + 1) (n + 6) M := by
  refine g_aload_n (pc := 1067) dL_law_1067 rfl trivial ?_
  refine g_aload_n (pc := 1068) dL_law_1068 rfl isA_0 ?_
  refine g_iload (pc := 1069) dL_law_1069 rfl ?_
  refine g_iconst (pc := 1071) (v := 1) dL_law_1071 rfl ?_
  refine g_iadd (pc := 1072) dL_law_1072 ?_
  refine g_scriptLoadS (pc := 1073) dL_law_1073 (nI_o1 _) hs (by omega) (by omega) ?_
  refine g_aload_n (pc := 1074) dL_law_1074 rfl isA_0 ?_
  refine g_iload (pc := 1075) dL_law_1075 rfl ?_
  refine g_iconst (pc := 1077) (v := 2) dL_law_1077 rfl ?_
  refine g_iadd (pc := 1078) dL_law_1078 ?_
  refine g_scriptLoadS (pc := 1079) dL_law_1079 (nI_o2 _) hs (by omega) (by omega) ?_
  refine g_i2l (pc := 1080) dL_law_1080 rfl ?_
  refine g_bipush (pc := 1081) (v := 32) dL_law_1081 rfl ?_
  refine g_lshl (pc := 1083) dL_law_1083 rfl ?_
  refine g_aload_n (pc := 1084) dL_law_1084 rfl isA_0 ?_
  refine g_iload (pc := 1085) dL_law_1085 rfl ?_
  refine g_iconst (pc := 1087) (v := 3) dL_law_1087 rfl ?_
  refine g_iadd (pc := 1088) dL_law_1088 ?_
  refine g_scriptLoadS (pc := 1089) dL_law_1089 (nI_o3 _) hs (by omega) (by omega) ?_
  refine g_i2l (pc := 1090) dL_law_1090 rfl ?_
  refine g_ldc2 (pc := 1091) dL_law_1091 wd_1783 ?_
  refine g_land (pc := 1094) dL_law_1094 ?_
  refine g_lor (pc := 1095) dL_law_1095 ?_
  refine g_aload_n (pc := 1096) dL_law_1096 rfl trivial ?_
  refine g_invSX_s (pc := 1097) (As := [_, _, _, _]) dL_law_1097 rfl (h1) rfl rfl lk_L_244 rfl (nb rfl) ⟨nb rfl, nb rfl⟩ rfl (fun e1 => ?_)
  have e1 := e1.trans hs
  refine g_istore (pc := 1100) (lv' := [(0, _), (1, _), (2, _), (3, _), (4, _), (5, _), (6, _)]) dL_law_1100 (nl rfl) rfl ?_
  refine g_aload_n (pc := 1102) dL_law_1102 rfl trivial ?_
  refine g_aload_n (pc := 1103) dL_law_1103 rfl isA_0 ?_
  refine g_iload (pc := 1104) dL_law_1104 rfl ?_
  refine g_iconst (pc := 1106) (v := 1) dL_law_1106 rfl ?_
  refine g_iadd (pc := 1107) dL_law_1107 ?_
  refine g_scriptLoadS (pc := 1108) dL_law_1108 (nI_o1 _) e1 (by omega) (by omega) ?_
  refine g_aload_n (pc := 1109) dL_law_1109 rfl isA_0 ?_
  refine g_iload (pc := 1110) dL_law_1110 rfl ?_
  refine g_iconst (pc := 1112) (v := 2) dL_law_1112 rfl ?_
  refine g_iadd (pc := 1113) dL_law_1113 ?_
  refine g_scriptLoadS (pc := 1114) dL_law_1114 (nI_o2 _) e1 (by omega) (by omega) ?_
  refine g_i2l (pc := 1115) dL_law_1115 rfl ?_
  refine g_bipush (pc := 1116) (v := 32) dL_law_1116 rfl ?_
  refine g_lshl (pc := 1118) dL_law_1118 rfl ?_
  refine g_aload_n (pc := 1119) dL_law_1119 rfl isA_0 ?_
  refine g_iload (pc := 1120) dL_law_1120 rfl ?_
  refine g_iconst (pc := 1122) (v := 3) dL_law_1122 rfl ?_
  refine g_iadd (pc := 1123) dL_law_1123 ?_
  refine g_scriptLoadS (pc := 1124) dL_law_1124 (nI_o3 _) e1 (by omega) (by omega) ?_
  refine g_i2l (pc := 1125) dL_law_1125 rfl ?_
  refine g_ldc2 (pc := 1126) dL_law_1126 wd_1783 ?_
  refine g_land (pc := 1129) dL_law_1129 ?_
  refine g_lor (pc := 1130) dL_law_1130 ?_
  refine g_invV_s (pc := 1131) (As := [_, _]) dL_law_1131 rfl (h2) rfl rfl (shK hM1 rfl) rfl rfl lk_L_247 rfl (nb rfl) ⟨nb rfl, nb rfl⟩ rfl (fun e2 => ?_)
  have e2 := e2.trans e1
  refine g_istore (pc := 1134) (lv' := [(0, _), (1, _), (2, _), (3, _), (4, _), (5, _), (6, _), (7, _)]) dL_law_1134 (nl rfl) rfl ?_
  refine g_aload_n (pc := 1136) dL_law_1136 rfl trivial ?_
  refine g_invV_r (pc := 1137) (As := []) dL_law_1137 rfl (n_thrown hM2) rfl rfl (shK hM2 rfl) rfl rfl lk_L_212 rfl (nb rfl) ⟨nb rfl, nb rfl⟩ rfl ?_
  refine g_iload (pc := 1140) dL_law_1140 rfl ?_
  refine g_icmp_eq (pc := 1142) (tgt := 1147) dL_law_1142 rfl (fun _ => ?_) (fun h1142 => absurd (ht) h1142)
  refine g_iload (pc := 1147) dL_law_1147 rfl ?_
  refine g_if_ne (pc := 1149) (tgt := 1164) dL_law_1149 rfl (fun h1149 => ?_) (fun h1149 => ?_)
  · refine g_goto (pc := 1164) (tgt := 4226) dL_law_1164 rfl ?_
    exact g_sub (lv' := AL o) ⟨rfl, rfl, rfl, rfl, rfl, rfl, trivial⟩ (kont e2)
  · refine g_aload_n (pc := 1152) dL_law_1152 rfl trivial ?_
    refine g_iconst (pc := 1153) (v := 0) dL_law_1153 rfl ?_
    refine g_laload (pc := 1154) dL_law_1154 (shK hM2 rfl) rfl (nb rfl) (nl rfl) ?_
    refine g_iload (pc := 1155) dL_law_1155 rfl ?_
    refine g_i2l (pc := 1157) dL_law_1157 rfl ?_
    refine g_lcmp (pc := 1158) dL_law_1158 ?_
    refine g_if_eq (pc := 1159) (tgt := 1164) dL_law_1159 rfl (fun _ => ?_) (fun h1159 => absurd ((lgc_self (hq (Decidable.not_not.mp h1149)))) h1159)
    refine g_goto (pc := 1164) (tgt := 4226) dL_law_1164 rfl ?_
    exact g_sub (lv' := AL o) ⟨rfl, rfl, rfl, rfl, rfl, rfl, trivial⟩ (kont e2)
set_option maxRecDepth 4000 in
theorem lc_15 {kk : Int32} {b : Int32} (hs : mS M = S) (ho : o + 5 ≤ S.1) (hS9 : S.1 < 2147483648) (hM : Shp M) (hM1 : Shp M1) (hM2 : Shp M2) (h1 : EvR l jL_nearest 9 167 2 12 [.ref 0, .int (S.2 (o + 1)), .int (S.2 (o + 2)), .ref 212] M (.inl (some (.int kk))) M1) (h2 : EvR l jX7_nearest 4 160 0 0 [.ref 198, .int (S.2 (o + 1)), .int (S.2 (o + 2))] M1 (.inl (some (.int b))) M2) (ht : mI M2 198 6 = kk) (hq : kk = 0 → mL M2 212 0 = b.toInt64) (kont : mS M2 = S → Go l jL_law 14 538 600002 7302232 Q 4226 (AL o) [] k n M2) : Go l jL_law 14 538 600002 7302232 Q 1167 (AL o) [] (k + 2) (n + 12) M := by
  refine g_aload_n (pc := 1167) dL_law_1167 rfl trivial ?_
  refine g_aload_n (pc := 1168) dL_law_1168 rfl isA_0 ?_
  refine g_iload (pc := 1169) dL_law_1169 rfl ?_
  refine g_iconst (pc := 1171) (v := 1) dL_law_1171 rfl ?_
  refine g_iadd (pc := 1172) dL_law_1172 ?_
  refine g_scriptLoadS (pc := 1173) dL_law_1173 (nI_o1 _) hs (by omega) (by omega) ?_
  refine g_aload_n (pc := 1174) dL_law_1174 rfl isA_0 ?_
  refine g_iload (pc := 1175) dL_law_1175 rfl ?_
  refine g_iconst (pc := 1177) (v := 2) dL_law_1177 rfl ?_
  refine g_iadd (pc := 1178) dL_law_1178 ?_
  refine g_scriptLoadS (pc := 1179) dL_law_1179 (nI_o2 _) hs (by omega) (by omega) ?_
  refine g_aload_n (pc := 1180) dL_law_1180 rfl trivial ?_
  refine g_invSX_s (pc := 1181) (As := [_, _, _, _]) dL_law_1181 rfl (h1) rfl rfl lk_L_248 rfl (nb rfl) ⟨nb rfl, nb rfl⟩ rfl (fun e1 => ?_)
  have e1 := e1.trans hs
  refine g_istore (pc := 1184) (lv' := [(0, _), (1, _), (2, _), (3, _), (4, _), (5, _), (6, _)]) dL_law_1184 (nl rfl) rfl ?_
  refine g_aload_n (pc := 1186) dL_law_1186 rfl trivial ?_
  refine g_aload_n (pc := 1187) dL_law_1187 rfl isA_0 ?_
  refine g_iload (pc := 1188) dL_law_1188 rfl ?_
  refine g_iconst (pc := 1190) (v := 1) dL_law_1190 rfl ?_
  refine g_iadd (pc := 1191) dL_law_1191 ?_
  refine g_scriptLoadS (pc := 1192) dL_law_1192 (nI_o1 _) e1 (by omega) (by omega) ?_
  refine g_aload_n (pc := 1193) dL_law_1193 rfl isA_0 ?_
  refine g_iload (pc := 1194) dL_law_1194 rfl ?_
  refine g_iconst (pc := 1196) (v := 2) dL_law_1196 rfl ?_
  refine g_iadd (pc := 1197) dL_law_1197 ?_
  refine g_scriptLoadS (pc := 1198) dL_law_1198 (nI_o2 _) e1 (by omega) (by omega) ?_
  refine g_invV_s (pc := 1199) (As := [_, _]) dL_law_1199 rfl (h2) rfl rfl (shK hM1 rfl) rfl rfl lk_L_250 rfl (nb rfl) ⟨nb rfl, nb rfl⟩ rfl (fun e2 => ?_)
  have e2 := e2.trans e1
  refine g_istore (pc := 1202) (lv' := [(0, _), (1, _), (2, _), (3, _), (4, _), (5, _), (6, _), (7, _)]) dL_law_1202 (nl rfl) rfl ?_
  refine g_aload_n (pc := 1204) dL_law_1204 rfl trivial ?_
  refine g_invV_r (pc := 1205) (As := []) dL_law_1205 rfl (n_thrown hM2) rfl rfl (shK hM2 rfl) rfl rfl lk_L_212 rfl (nb rfl) ⟨nb rfl, nb rfl⟩ rfl ?_
  refine g_iload (pc := 1208) dL_law_1208 rfl ?_
  refine g_icmp_eq (pc := 1210) (tgt := 1215) dL_law_1210 rfl (fun _ => ?_) (fun h1210 => absurd (ht) h1210)
  refine g_iload (pc := 1215) dL_law_1215 rfl ?_
  refine g_if_ne (pc := 1217) (tgt := 1232) dL_law_1217 rfl (fun h1217 => ?_) (fun h1217 => ?_)
  · refine g_goto (pc := 1232) (tgt := 4226) dL_law_1232 rfl ?_
    exact g_sub (lv' := AL o) ⟨rfl, rfl, rfl, rfl, rfl, rfl, trivial⟩ (kont e2)
  · refine g_aload_n (pc := 1220) dL_law_1220 rfl trivial ?_
    refine g_iconst (pc := 1221) (v := 0) dL_law_1221 rfl ?_
    refine g_laload (pc := 1222) dL_law_1222 (shK hM2 rfl) rfl (nb rfl) (nl rfl) ?_
    refine g_iload (pc := 1223) dL_law_1223 rfl ?_
    refine g_i2l (pc := 1225) dL_law_1225 rfl ?_
    refine g_lcmp (pc := 1226) dL_law_1226 ?_
    refine g_if_eq (pc := 1227) (tgt := 1232) dL_law_1227 rfl (fun _ => ?_) (fun h1227 => absurd ((lgc_self (hq (Decidable.not_not.mp h1217)))) h1227)
    refine g_goto (pc := 1232) (tgt := 4226) dL_law_1232 rfl ?_
    exact g_sub (lv' := AL o) ⟨rfl, rfl, rfl, rfl, rfl, rfl, trivial⟩ (kont e2)
set_option maxRecDepth 4000 in
theorem lc_16 {kk : Int32} {b : UInt64} (hs : mS M = S) (ho : o + 5 ≤ S.1) (hS9 : S.1 < 2147483648) (hM : Shp M) (hM1 : Shp M1) (hM2 : Shp M2) (h1 : EvR l jL_density 9 171 1 6 [.ref 0, .int (S.2 (o + 1)), .ref 213] M (.inl (some (.int kk))) M1) (h2 : EvR l jX7_density 4 160 0 0 [.ref 198, .int (S.2 (o + 1))] M1 (.inl (some (.double b))) M2) (ht : mI M2 198 6 = kk) (hq : kk = 0 → mD M2 213 0 = b ∧ Op.cmpValue (FP.dcmp b b) CmpOp.l = 0) (kont : mS M2 = S → Go l jL_law 14 538 600002 7302232 Q 4226 (AL o) [] k n M2) : Go l jL_law 14 538 600002 7302232 Q 1235 (AL o) [] (k + 1) (n + 6) M := by
  refine g_aload_n (pc := 1235) dL_law_1235 rfl trivial ?_
  refine g_aload_n (pc := 1236) dL_law_1236 rfl isA_0 ?_
  refine g_iload (pc := 1237) dL_law_1237 rfl ?_
  refine g_iconst (pc := 1239) (v := 1) dL_law_1239 rfl ?_
  refine g_iadd (pc := 1240) dL_law_1240 ?_
  refine g_scriptLoadS (pc := 1241) dL_law_1241 (nI_o1 _) hs (by omega) (by omega) ?_
  refine g_aload (pc := 1242) dL_law_1242 rfl trivial ?_
  refine g_invSX_s (pc := 1244) (As := [_, _, _]) dL_law_1244 rfl (h1) rfl rfl lk_L_251 rfl (nb rfl) ⟨nb rfl, nb rfl⟩ rfl (fun e1 => ?_)
  have e1 := e1.trans hs
  refine g_istore (pc := 1247) (lv' := [(0, _), (1, _), (2, _), (3, _), (4, _), (5, _), (6, _)]) dL_law_1247 (nl rfl) rfl ?_
  refine g_aload_n (pc := 1249) dL_law_1249 rfl trivial ?_
  refine g_aload_n (pc := 1250) dL_law_1250 rfl isA_0 ?_
  refine g_iload (pc := 1251) dL_law_1251 rfl ?_
  refine g_iconst (pc := 1253) (v := 1) dL_law_1253 rfl ?_
  refine g_iadd (pc := 1254) dL_law_1254 ?_
  refine g_scriptLoadS (pc := 1255) dL_law_1255 (nI_o1 _) e1 (by omega) (by omega) ?_
  refine g_invV_s (pc := 1256) (As := [_]) dL_law_1256 rfl (h2) rfl rfl (shK hM1 rfl) rfl rfl lk_L_254 rfl (nb rfl) ⟨nb rfl, nb rfl⟩ rfl (fun e2 => ?_)
  have e2 := e2.trans e1
  refine g_dstore (pc := 1259) (lv' := [(0, _), (1, _), (2, _), (3, _), (4, _), (5, _), (6, _), (7, _)]) dL_law_1259 (nl rfl) rfl ?_
  refine g_aload_n (pc := 1261) dL_law_1261 rfl trivial ?_
  refine g_invV_r (pc := 1262) (As := []) dL_law_1262 rfl (n_thrown hM2) rfl rfl (shK hM2 rfl) rfl rfl lk_L_212 rfl (nb rfl) ⟨nb rfl, nb rfl⟩ rfl ?_
  refine g_iload (pc := 1265) dL_law_1265 rfl ?_
  refine g_icmp_eq (pc := 1267) (tgt := 1272) dL_law_1267 rfl (fun _ => ?_) (fun h1267 => absurd (ht) h1267)
  refine g_iload (pc := 1272) dL_law_1272 rfl ?_
  refine g_if_ne (pc := 1274) (tgt := 1309) dL_law_1274 rfl (fun h1274 => ?_) (fun h1274 => ?_)
  · refine g_goto (pc := 1309) (tgt := 4226) dL_law_1309 rfl ?_
    exact g_sub (lv' := AL o) ⟨rfl, rfl, rfl, rfl, rfl, rfl, trivial⟩ (kont e2)
  · refine g_aload (pc := 1277) dL_law_1277 rfl trivial ?_
    refine g_iconst (pc := 1279) (v := 0) dL_law_1279 rfl ?_
    refine g_daload (pc := 1280) dL_law_1280 (shK hM2 rfl) rfl (nb rfl) (nl rfl) ?_
    refine g_dload (pc := 1281) dL_law_1281 rfl ?_
    refine g_dcmp (pc := 1283) dL_law_1283 ?_
    refine g_if_eq (pc := 1284) (tgt := 1309) dL_law_1284 rfl (fun _ => ?_) (fun h1284 => absurd ((by rw [(hq (Decidable.not_not.mp h1274)).1]; exact (hq (Decidable.not_not.mp h1274)).2)) h1284)
    refine g_goto (pc := 1309) (tgt := 4226) dL_law_1309 rfl ?_
    exact g_sub (lv' := AL o) ⟨rfl, rfl, rfl, rfl, rfl, rfl, trivial⟩ (kont e2)
set_option maxRecDepth 4000 in
theorem lc_17 {kk : Int32} {b : Bool} (hs : mS M = S) (ho : o + 5 ≤ S.1) (hS9 : S.1 < 2147483648) (hM : Shp M) (hM1 : Shp M1) (hM2 : Shp M2) (h1 : EvR l jL_isSymmetric 8 143 1 6 [.ref 0, .int (S.2 (o + 1)), .ref 212] M (.inl (some (.int kk))) M1) (h2 : EvR l jX7_isSymmetric 4 160 0 0 [.ref 198, .int (S.2 (o + 1))] M1 (.inl (some (.int (b1 b)))) M2) (ht : mI M2 198 6 = kk) (hq : kk = 0 → mL M2 212 0 = if b then 1 else 0) (kont : mS M2 = S → Go l jL_law 14 538 600002 7302232 Q 4226 (AL o) [] k n M2) : Go l jL_law 14 538 600002 7302232 Q 1312 (AL o) [] (k + 1) (n + 6) M := by
  cases b
  · refine g_aload_n (pc := 1312) dL_law_1312 rfl trivial ?_
    refine g_aload_n (pc := 1313) dL_law_1313 rfl isA_0 ?_
    refine g_iload (pc := 1314) dL_law_1314 rfl ?_
    refine g_iconst (pc := 1316) (v := 1) dL_law_1316 rfl ?_
    refine g_iadd (pc := 1317) dL_law_1317 ?_
    refine g_scriptLoadS (pc := 1318) dL_law_1318 (nI_o1 _) hs (by omega) (by omega) ?_
    refine g_aload_n (pc := 1319) dL_law_1319 rfl trivial ?_
    refine g_invSX_s (pc := 1320) (As := [_, _, _]) dL_law_1320 rfl (h1) rfl rfl lk_L_255 rfl (nb rfl) ⟨nb rfl, nb rfl⟩ rfl (fun e1 => ?_)
    have e1 := e1.trans hs
    refine g_istore (pc := 1323) (lv' := [(0, _), (1, _), (2, _), (3, _), (4, _), (5, _), (6, _)]) dL_law_1323 (nl rfl) rfl ?_
    refine g_aload_n (pc := 1325) dL_law_1325 rfl trivial ?_
    refine g_aload_n (pc := 1326) dL_law_1326 rfl isA_0 ?_
    refine g_iload (pc := 1327) dL_law_1327 rfl ?_
    refine g_iconst (pc := 1329) (v := 1) dL_law_1329 rfl ?_
    refine g_iadd (pc := 1330) dL_law_1330 ?_
    refine g_scriptLoadS (pc := 1331) dL_law_1331 (nI_o1 _) e1 (by omega) (by omega) ?_
    refine g_invV_s (pc := 1332) (As := [_]) dL_law_1332 rfl (h2) rfl rfl (shK hM1 rfl) rfl rfl lk_L_257 rfl (nb rfl) ⟨nb rfl, nb rfl⟩ rfl (fun e2 => ?_)
    have e2 := e2.trans e1
    refine g_istore (pc := 1335) (lv' := [(0, _), (1, _), (2, _), (3, _), (4, _), (5, _), (6, _), (7, _)]) dL_law_1335 (nl rfl) rfl ?_
    refine g_aload_n (pc := 1337) dL_law_1337 rfl trivial ?_
    refine g_invV_r (pc := 1338) (As := []) dL_law_1338 rfl (n_thrown hM2) rfl rfl (shK hM2 rfl) rfl rfl lk_L_212 rfl (nb rfl) ⟨nb rfl, nb rfl⟩ rfl ?_
    refine g_iload (pc := 1341) dL_law_1341 rfl ?_
    refine g_icmp_eq (pc := 1343) (tgt := 1348) dL_law_1343 rfl (fun _ => ?_) (fun h1343 => absurd (ht) h1343)
    refine g_iload (pc := 1348) dL_law_1348 rfl ?_
    refine g_if_ne (pc := 1350) (tgt := 1372) dL_law_1350 rfl (fun h1350 => ?_) (fun h1350 => ?_)
    · refine g_goto (pc := 1372) (tgt := 4226) dL_law_1372 rfl ?_
      exact g_sub (lv' := AL o) ⟨rfl, rfl, rfl, rfl, rfl, rfl, trivial⟩ (kont e2)
    · refine g_aload_n (pc := 1353) dL_law_1353 rfl trivial ?_
      refine g_iconst (pc := 1354) (v := 0) dL_law_1354 rfl ?_
      refine g_laload (pc := 1355) dL_law_1355 (shK hM2 rfl) rfl (nb rfl) (nl rfl) ?_
      refine g_iload (pc := 1356) dL_law_1356 rfl ?_
      refine g_if_eq (pc := 1358) (tgt := 1365) dL_law_1358 rfl (fun _ => ?_) (fun h1358 => absurd (rfl) h1358)
      refine g_lconst (pc := 1365) (v := 0) dL_law_1365 rfl ?_
      refine g_lcmp (pc := 1366) dL_law_1366 ?_
      refine g_if_eq (pc := 1367) (tgt := 1372) dL_law_1367 rfl (fun _ => ?_) (fun h1367 => absurd ((lgc_self (hq (Decidable.not_not.mp h1350)))) h1367)
      refine g_goto (pc := 1372) (tgt := 4226) dL_law_1372 rfl ?_
      exact g_sub (lv' := AL o) ⟨rfl, rfl, rfl, rfl, rfl, rfl, trivial⟩ (kont e2)
  · refine g_aload_n (pc := 1312) dL_law_1312 rfl trivial ?_
    refine g_aload_n (pc := 1313) dL_law_1313 rfl isA_0 ?_
    refine g_iload (pc := 1314) dL_law_1314 rfl ?_
    refine g_iconst (pc := 1316) (v := 1) dL_law_1316 rfl ?_
    refine g_iadd (pc := 1317) dL_law_1317 ?_
    refine g_scriptLoadS (pc := 1318) dL_law_1318 (nI_o1 _) hs (by omega) (by omega) ?_
    refine g_aload_n (pc := 1319) dL_law_1319 rfl trivial ?_
    refine g_invSX_s (pc := 1320) (As := [_, _, _]) dL_law_1320 rfl (h1) rfl rfl lk_L_255 rfl (nb rfl) ⟨nb rfl, nb rfl⟩ rfl (fun e1 => ?_)
    have e1 := e1.trans hs
    refine g_istore (pc := 1323) (lv' := [(0, _), (1, _), (2, _), (3, _), (4, _), (5, _), (6, _)]) dL_law_1323 (nl rfl) rfl ?_
    refine g_aload_n (pc := 1325) dL_law_1325 rfl trivial ?_
    refine g_aload_n (pc := 1326) dL_law_1326 rfl isA_0 ?_
    refine g_iload (pc := 1327) dL_law_1327 rfl ?_
    refine g_iconst (pc := 1329) (v := 1) dL_law_1329 rfl ?_
    refine g_iadd (pc := 1330) dL_law_1330 ?_
    refine g_scriptLoadS (pc := 1331) dL_law_1331 (nI_o1 _) e1 (by omega) (by omega) ?_
    refine g_invV_s (pc := 1332) (As := [_]) dL_law_1332 rfl (h2) rfl rfl (shK hM1 rfl) rfl rfl lk_L_257 rfl (nb rfl) ⟨nb rfl, nb rfl⟩ rfl (fun e2 => ?_)
    have e2 := e2.trans e1
    refine g_istore (pc := 1335) (lv' := [(0, _), (1, _), (2, _), (3, _), (4, _), (5, _), (6, _), (7, _)]) dL_law_1335 (nl rfl) rfl ?_
    refine g_aload_n (pc := 1337) dL_law_1337 rfl trivial ?_
    refine g_invV_r (pc := 1338) (As := []) dL_law_1338 rfl (n_thrown hM2) rfl rfl (shK hM2 rfl) rfl rfl lk_L_212 rfl (nb rfl) ⟨nb rfl, nb rfl⟩ rfl ?_
    refine g_iload (pc := 1341) dL_law_1341 rfl ?_
    refine g_icmp_eq (pc := 1343) (tgt := 1348) dL_law_1343 rfl (fun _ => ?_) (fun h1343 => absurd (ht) h1343)
    refine g_iload (pc := 1348) dL_law_1348 rfl ?_
    refine g_if_ne (pc := 1350) (tgt := 1372) dL_law_1350 rfl (fun h1350 => ?_) (fun h1350 => ?_)
    · refine g_goto (pc := 1372) (tgt := 4226) dL_law_1372 rfl ?_
      exact g_sub (lv' := AL o) ⟨rfl, rfl, rfl, rfl, rfl, rfl, trivial⟩ (kont e2)
    · refine g_aload_n (pc := 1353) dL_law_1353 rfl trivial ?_
      refine g_iconst (pc := 1354) (v := 0) dL_law_1354 rfl ?_
      refine g_laload (pc := 1355) dL_law_1355 (shK hM2 rfl) rfl (nb rfl) (nl rfl) ?_
      refine g_iload (pc := 1356) dL_law_1356 rfl ?_
      refine g_if_eq (pc := 1358) (tgt := 1365) dL_law_1358 rfl (fun h1358 => absurd h1358 ((by decide))) (fun _ => ?_)
      refine g_lconst (pc := 1361) (v := 1) dL_law_1361 rfl ?_
      refine g_goto (pc := 1362) (tgt := 1366) dL_law_1362 rfl ?_
      refine g_lcmp (pc := 1366) dL_law_1366 ?_
      refine g_if_eq (pc := 1367) (tgt := 1372) dL_law_1367 rfl (fun _ => ?_) (fun h1367 => absurd ((lgc_self (hq (Decidable.not_not.mp h1350)))) h1367)
      refine g_goto (pc := 1372) (tgt := 4226) dL_law_1372 rfl ?_
      exact g_sub (lv' := AL o) ⟨rfl, rfl, rfl, rfl, rfl, rfl, trivial⟩ (kont e2)
set_option maxRecDepth 4000 in
theorem lc_18 {kk : Int32} {b : Int32} (hs : mS M = S) (ho : o + 5 ≤ S.1) (hS9 : S.1 < 2147483648) (hM : Shp M) (hM1 : Shp M1) (hM2 : Shp M2) (h1 : EvR l jL_reaches 10 183 3 18 [.ref 0, .int (S.2 (o + 1)), .int (S.2 (o + 2)), .int (S.2 (o + 3)), .ref 212] M (.inl (some (.int kk))) M1) (h2 : EvR l jX7_reaches 4 160 0 0 [.ref 198, .int (S.2 (o + 1)), .int (S.2 (o + 2)), .int (S.2 (o + 3))] M1 (.inl (some (.int b))) M2) (ht : mI M2 198 6 = kk) (hq : kk = 0 → mL M2 212 0 = b.toInt64) (kont : mS M2 = S → Go l jL_law 14 538 600002 7302232 Q 4226 (AL o) [] k n M2) : Go l jL_law 14 538 600002 7302232 Q 1375 (AL o) [] (k + 3) (n + 18) M := by
  refine g_aload_n (pc := 1375) dL_law_1375 rfl trivial ?_
  refine g_aload_n (pc := 1376) dL_law_1376 rfl isA_0 ?_
  refine g_iload (pc := 1377) dL_law_1377 rfl ?_
  refine g_iconst (pc := 1379) (v := 1) dL_law_1379 rfl ?_
  refine g_iadd (pc := 1380) dL_law_1380 ?_
  refine g_scriptLoadS (pc := 1381) dL_law_1381 (nI_o1 _) hs (by omega) (by omega) ?_
  refine g_aload_n (pc := 1382) dL_law_1382 rfl isA_0 ?_
  refine g_iload (pc := 1383) dL_law_1383 rfl ?_
  refine g_iconst (pc := 1385) (v := 2) dL_law_1385 rfl ?_
  refine g_iadd (pc := 1386) dL_law_1386 ?_
  refine g_scriptLoadS (pc := 1387) dL_law_1387 (nI_o2 _) hs (by omega) (by omega) ?_
  refine g_aload_n (pc := 1388) dL_law_1388 rfl isA_0 ?_
  refine g_iload (pc := 1389) dL_law_1389 rfl ?_
  refine g_iconst (pc := 1391) (v := 3) dL_law_1391 rfl ?_
  refine g_iadd (pc := 1392) dL_law_1392 ?_
  refine g_scriptLoadS (pc := 1393) dL_law_1393 (nI_o3 _) hs (by omega) (by omega) ?_
  refine g_aload_n (pc := 1394) dL_law_1394 rfl trivial ?_
  refine g_invSX_s (pc := 1395) (As := [_, _, _, _, _]) dL_law_1395 rfl (h1) rfl rfl lk_L_258 rfl (nb rfl) ⟨nb rfl, nb rfl⟩ rfl (fun e1 => ?_)
  have e1 := e1.trans hs
  refine g_istore (pc := 1398) (lv' := [(0, _), (1, _), (2, _), (3, _), (4, _), (5, _), (6, _)]) dL_law_1398 (nl rfl) rfl ?_
  refine g_aload_n (pc := 1400) dL_law_1400 rfl trivial ?_
  refine g_aload_n (pc := 1401) dL_law_1401 rfl isA_0 ?_
  refine g_iload (pc := 1402) dL_law_1402 rfl ?_
  refine g_iconst (pc := 1404) (v := 1) dL_law_1404 rfl ?_
  refine g_iadd (pc := 1405) dL_law_1405 ?_
  refine g_scriptLoadS (pc := 1406) dL_law_1406 (nI_o1 _) e1 (by omega) (by omega) ?_
  refine g_aload_n (pc := 1407) dL_law_1407 rfl isA_0 ?_
  refine g_iload (pc := 1408) dL_law_1408 rfl ?_
  refine g_iconst (pc := 1410) (v := 2) dL_law_1410 rfl ?_
  refine g_iadd (pc := 1411) dL_law_1411 ?_
  refine g_scriptLoadS (pc := 1412) dL_law_1412 (nI_o2 _) e1 (by omega) (by omega) ?_
  refine g_aload_n (pc := 1413) dL_law_1413 rfl isA_0 ?_
  refine g_iload (pc := 1414) dL_law_1414 rfl ?_
  refine g_iconst (pc := 1416) (v := 3) dL_law_1416 rfl ?_
  refine g_iadd (pc := 1417) dL_law_1417 ?_
  refine g_scriptLoadS (pc := 1418) dL_law_1418 (nI_o3 _) e1 (by omega) (by omega) ?_
  refine g_invV_s (pc := 1419) (As := [_, _, _]) dL_law_1419 rfl (h2) rfl rfl (shK hM1 rfl) rfl rfl lk_L_260 rfl (nb rfl) ⟨nb rfl, nb rfl⟩ rfl (fun e2 => ?_)
  have e2 := e2.trans e1
  refine g_istore (pc := 1422) (lv' := [(0, _), (1, _), (2, _), (3, _), (4, _), (5, _), (6, _), (7, _)]) dL_law_1422 (nl rfl) rfl ?_
  refine g_aload_n (pc := 1424) dL_law_1424 rfl trivial ?_
  refine g_invV_r (pc := 1425) (As := []) dL_law_1425 rfl (n_thrown hM2) rfl rfl (shK hM2 rfl) rfl rfl lk_L_212 rfl (nb rfl) ⟨nb rfl, nb rfl⟩ rfl ?_
  refine g_iload (pc := 1428) dL_law_1428 rfl ?_
  refine g_icmp_eq (pc := 1430) (tgt := 1435) dL_law_1430 rfl (fun _ => ?_) (fun h1430 => absurd (ht) h1430)
  refine g_iload (pc := 1435) dL_law_1435 rfl ?_
  refine g_if_ne (pc := 1437) (tgt := 1452) dL_law_1437 rfl (fun h1437 => ?_) (fun h1437 => ?_)
  · refine g_goto (pc := 1452) (tgt := 4226) dL_law_1452 rfl ?_
    exact g_sub (lv' := AL o) ⟨rfl, rfl, rfl, rfl, rfl, rfl, trivial⟩ (kont e2)
  · refine g_aload_n (pc := 1440) dL_law_1440 rfl trivial ?_
    refine g_iconst (pc := 1441) (v := 0) dL_law_1441 rfl ?_
    refine g_laload (pc := 1442) dL_law_1442 (shK hM2 rfl) rfl (nb rfl) (nl rfl) ?_
    refine g_iload (pc := 1443) dL_law_1443 rfl ?_
    refine g_i2l (pc := 1445) dL_law_1445 rfl ?_
    refine g_lcmp (pc := 1446) dL_law_1446 ?_
    refine g_if_eq (pc := 1447) (tgt := 1452) dL_law_1447 rfl (fun _ => ?_) (fun h1447 => absurd ((lgc_self (hq (Decidable.not_not.mp h1437)))) h1447)
    refine g_goto (pc := 1452) (tgt := 4226) dL_law_1452 rfl ?_
    exact g_sub (lv' := AL o) ⟨rfl, rfl, rfl, rfl, rfl, rfl, trivial⟩ (kont e2)
set_option maxRecDepth 4000 in
theorem lc_19 {kk : Int32} {b : Int32} (hs : mS M = S) (ho : o + 5 ≤ S.1) (hS9 : S.1 < 2147483648) (hM : Shp M) (hM1 : Shp M1) (hM2 : Shp M2) (h1 : EvR l jL_reached 9 162 2 12 [.ref 0, .int (S.2 (o + 1)), .int (S.2 (o + 2)), .ref 212] M (.inl (some (.int kk))) M1) (h2 : EvR l jX7_reached 4 160 0 0 [.ref 198, .int (S.2 (o + 1)), .int (S.2 (o + 2))] M1 (.inl (some (.int b))) M2) (ht : mI M2 198 6 = kk) (hq : kk = 0 → mL M2 212 0 = b.toInt64) (kont : mS M2 = S → Go l jL_law 14 538 600002 7302232 Q 4226 (AL o) [] k n M2) : Go l jL_law 14 538 600002 7302232 Q 1455 (AL o) [] (k + 2) (n + 12) M := by
  refine g_aload_n (pc := 1455) dL_law_1455 rfl trivial ?_
  refine g_aload_n (pc := 1456) dL_law_1456 rfl isA_0 ?_
  refine g_iload (pc := 1457) dL_law_1457 rfl ?_
  refine g_iconst (pc := 1459) (v := 1) dL_law_1459 rfl ?_
  refine g_iadd (pc := 1460) dL_law_1460 ?_
  refine g_scriptLoadS (pc := 1461) dL_law_1461 (nI_o1 _) hs (by omega) (by omega) ?_
  refine g_aload_n (pc := 1462) dL_law_1462 rfl isA_0 ?_
  refine g_iload (pc := 1463) dL_law_1463 rfl ?_
  refine g_iconst (pc := 1465) (v := 2) dL_law_1465 rfl ?_
  refine g_iadd (pc := 1466) dL_law_1466 ?_
  refine g_scriptLoadS (pc := 1467) dL_law_1467 (nI_o2 _) hs (by omega) (by omega) ?_
  refine g_aload_n (pc := 1468) dL_law_1468 rfl trivial ?_
  refine g_invSX_s (pc := 1469) (As := [_, _, _, _]) dL_law_1469 rfl (h1) rfl rfl lk_L_261 rfl (nb rfl) ⟨nb rfl, nb rfl⟩ rfl (fun e1 => ?_)
  have e1 := e1.trans hs
  refine g_istore (pc := 1472) (lv' := [(0, _), (1, _), (2, _), (3, _), (4, _), (5, _), (6, _)]) dL_law_1472 (nl rfl) rfl ?_
  refine g_aload_n (pc := 1474) dL_law_1474 rfl trivial ?_
  refine g_aload_n (pc := 1475) dL_law_1475 rfl isA_0 ?_
  refine g_iload (pc := 1476) dL_law_1476 rfl ?_
  refine g_iconst (pc := 1478) (v := 1) dL_law_1478 rfl ?_
  refine g_iadd (pc := 1479) dL_law_1479 ?_
  refine g_scriptLoadS (pc := 1480) dL_law_1480 (nI_o1 _) e1 (by omega) (by omega) ?_
  refine g_aload_n (pc := 1481) dL_law_1481 rfl isA_0 ?_
  refine g_iload (pc := 1482) dL_law_1482 rfl ?_
  refine g_iconst (pc := 1484) (v := 2) dL_law_1484 rfl ?_
  refine g_iadd (pc := 1485) dL_law_1485 ?_
  refine g_scriptLoadS (pc := 1486) dL_law_1486 (nI_o2 _) e1 (by omega) (by omega) ?_
  refine g_invV_s (pc := 1487) (As := [_, _]) dL_law_1487 rfl (h2) rfl rfl (shK hM1 rfl) rfl rfl lk_L_263 rfl (nb rfl) ⟨nb rfl, nb rfl⟩ rfl (fun e2 => ?_)
  have e2 := e2.trans e1
  refine g_istore (pc := 1490) (lv' := [(0, _), (1, _), (2, _), (3, _), (4, _), (5, _), (6, _), (7, _)]) dL_law_1490 (nl rfl) rfl ?_
  refine g_aload_n (pc := 1492) dL_law_1492 rfl trivial ?_
  refine g_invV_r (pc := 1493) (As := []) dL_law_1493 rfl (n_thrown hM2) rfl rfl (shK hM2 rfl) rfl rfl lk_L_212 rfl (nb rfl) ⟨nb rfl, nb rfl⟩ rfl ?_
  refine g_iload (pc := 1496) dL_law_1496 rfl ?_
  refine g_icmp_eq (pc := 1498) (tgt := 1503) dL_law_1498 rfl (fun _ => ?_) (fun h1498 => absurd (ht) h1498)
  refine g_iload (pc := 1503) dL_law_1503 rfl ?_
  refine g_if_ne (pc := 1505) (tgt := 1520) dL_law_1505 rfl (fun h1505 => ?_) (fun h1505 => ?_)
  · refine g_goto (pc := 1520) (tgt := 4226) dL_law_1520 rfl ?_
    exact g_sub (lv' := AL o) ⟨rfl, rfl, rfl, rfl, rfl, rfl, trivial⟩ (kont e2)
  · refine g_aload_n (pc := 1508) dL_law_1508 rfl trivial ?_
    refine g_iconst (pc := 1509) (v := 0) dL_law_1509 rfl ?_
    refine g_laload (pc := 1510) dL_law_1510 (shK hM2 rfl) rfl (nb rfl) (nl rfl) ?_
    refine g_iload (pc := 1511) dL_law_1511 rfl ?_
    refine g_i2l (pc := 1513) dL_law_1513 rfl ?_
    refine g_lcmp (pc := 1514) dL_law_1514 ?_
    refine g_if_eq (pc := 1515) (tgt := 1520) dL_law_1515 rfl (fun _ => ?_) (fun h1515 => absurd ((lgc_self (hq (Decidable.not_not.mp h1505)))) h1515)
    refine g_goto (pc := 1520) (tgt := 4226) dL_law_1520 rfl ?_
    exact g_sub (lv' := AL o) ⟨rfl, rfl, rfl, rfl, rfl, rfl, trivial⟩ (kont e2)
set_option maxRecDepth 4000 in
theorem lc_20 {kk : Int32} {b : Int32} (hs : mS M = S) (ho : o + 5 ≤ S.1) (hS9 : S.1 < 2147483648) (hM : Shp M) (hM1 : Shp M1) (hM2 : Shp M2) (h1 : EvR l jL_pairs 8 141 1 6 [.ref 0, .int (S.2 (o + 1)), .ref 212] M (.inl (some (.int kk))) M1) (h2 : EvR l jX7_pairs 4 160 0 0 [.ref 198, .int (S.2 (o + 1))] M1 (.inl (some (.int b))) M2) (ht : mI M2 198 6 = kk) (hq : kk = 0 → mL M2 212 0 = b.toInt64) (kont : mS M2 = S → Go l jL_law 14 538 600002 7302232 Q 4226 (AL o) [] k n M2) : Go l jL_law 14 538 600002 7302232 Q 1523 (AL o) [] (k + 1) (n + 6) M := by
  refine g_aload_n (pc := 1523) dL_law_1523 rfl trivial ?_
  refine g_aload_n (pc := 1524) dL_law_1524 rfl isA_0 ?_
  refine g_iload (pc := 1525) dL_law_1525 rfl ?_
  refine g_iconst (pc := 1527) (v := 1) dL_law_1527 rfl ?_
  refine g_iadd (pc := 1528) dL_law_1528 ?_
  refine g_scriptLoadS (pc := 1529) dL_law_1529 (nI_o1 _) hs (by omega) (by omega) ?_
  refine g_aload_n (pc := 1530) dL_law_1530 rfl trivial ?_
  refine g_invSX_s (pc := 1531) (As := [_, _, _]) dL_law_1531 rfl (h1) rfl rfl lk_L_264 rfl (nb rfl) ⟨nb rfl, nb rfl⟩ rfl (fun e1 => ?_)
  have e1 := e1.trans hs
  refine g_istore (pc := 1534) (lv' := [(0, _), (1, _), (2, _), (3, _), (4, _), (5, _), (6, _)]) dL_law_1534 (nl rfl) rfl ?_
  refine g_aload_n (pc := 1536) dL_law_1536 rfl trivial ?_
  refine g_aload_n (pc := 1537) dL_law_1537 rfl isA_0 ?_
  refine g_iload (pc := 1538) dL_law_1538 rfl ?_
  refine g_iconst (pc := 1540) (v := 1) dL_law_1540 rfl ?_
  refine g_iadd (pc := 1541) dL_law_1541 ?_
  refine g_scriptLoadS (pc := 1542) dL_law_1542 (nI_o1 _) e1 (by omega) (by omega) ?_
  refine g_invV_s (pc := 1543) (As := [_]) dL_law_1543 rfl (h2) rfl rfl (shK hM1 rfl) rfl rfl lk_L_266 rfl (nb rfl) ⟨nb rfl, nb rfl⟩ rfl (fun e2 => ?_)
  have e2 := e2.trans e1
  refine g_istore (pc := 1546) (lv' := [(0, _), (1, _), (2, _), (3, _), (4, _), (5, _), (6, _), (7, _)]) dL_law_1546 (nl rfl) rfl ?_
  refine g_aload_n (pc := 1548) dL_law_1548 rfl trivial ?_
  refine g_invV_r (pc := 1549) (As := []) dL_law_1549 rfl (n_thrown hM2) rfl rfl (shK hM2 rfl) rfl rfl lk_L_212 rfl (nb rfl) ⟨nb rfl, nb rfl⟩ rfl ?_
  refine g_iload (pc := 1552) dL_law_1552 rfl ?_
  refine g_icmp_eq (pc := 1554) (tgt := 1559) dL_law_1554 rfl (fun _ => ?_) (fun h1554 => absurd (ht) h1554)
  refine g_iload (pc := 1559) dL_law_1559 rfl ?_
  refine g_if_ne (pc := 1561) (tgt := 1576) dL_law_1561 rfl (fun h1561 => ?_) (fun h1561 => ?_)
  · refine g_goto (pc := 1576) (tgt := 4226) dL_law_1576 rfl ?_
    exact g_sub (lv' := AL o) ⟨rfl, rfl, rfl, rfl, rfl, rfl, trivial⟩ (kont e2)
  · refine g_aload_n (pc := 1564) dL_law_1564 rfl trivial ?_
    refine g_iconst (pc := 1565) (v := 0) dL_law_1565 rfl ?_
    refine g_laload (pc := 1566) dL_law_1566 (shK hM2 rfl) rfl (nb rfl) (nl rfl) ?_
    refine g_iload (pc := 1567) dL_law_1567 rfl ?_
    refine g_i2l (pc := 1569) dL_law_1569 rfl ?_
    refine g_lcmp (pc := 1570) dL_law_1570 ?_
    refine g_if_eq (pc := 1571) (tgt := 1576) dL_law_1571 rfl (fun _ => ?_) (fun h1571 => absurd ((lgc_self (hq (Decidable.not_not.mp h1561)))) h1571)
    refine g_goto (pc := 1576) (tgt := 4226) dL_law_1576 rfl ?_
    exact g_sub (lv' := AL o) ⟨rfl, rfl, rfl, rfl, rfl, rfl, trivial⟩ (kont e2)
set_option maxRecDepth 4000 in
theorem lc_21 {kk : Int32} {b : UInt32} (hs : mS M = S) (ho : o + 5 ≤ S.1) (hS9 : S.1 < 2147483648) (hM : Shp M) (hM1 : Shp M1) (hM2 : Shp M2) (h1 : EvR l jL_meanReach 9 171 1 6 [.ref 0, .int (S.2 (o + 1)), .ref 213] M (.inl (some (.int kk))) M1) (h2 : EvR l jX7_meanReach 4 160 0 0 [.ref 198, .int (S.2 (o + 1))] M1 (.inl (some (.float b))) M2) (ht : mI M2 198 6 = kk) (hq : kk = 0 → mD M2 213 0 = FP.f2d b ∧ Op.cmpValue (FP.dcmp (FP.f2d b) (FP.f2d b)) CmpOp.l = 0 ∧ vf_n64 (FP.f2d b)) (kont : mS M2 = S → Go l jL_law 14 538 600002 7302232 Q 4226 (AL o) [] k n M2) : Go l jL_law 14 538 600002 7302232 Q 1579 (AL o) [] (k + 1) (n + 6) M := by
  refine g_aload_n (pc := 1579) dL_law_1579 rfl trivial ?_
  refine g_aload_n (pc := 1580) dL_law_1580 rfl isA_0 ?_
  refine g_iload (pc := 1581) dL_law_1581 rfl ?_
  refine g_iconst (pc := 1583) (v := 1) dL_law_1583 rfl ?_
  refine g_iadd (pc := 1584) dL_law_1584 ?_
  refine g_scriptLoadS (pc := 1585) dL_law_1585 (nI_o1 _) hs (by omega) (by omega) ?_
  refine g_aload (pc := 1586) dL_law_1586 rfl trivial ?_
  refine g_invSX_s (pc := 1588) (As := [_, _, _]) dL_law_1588 rfl (h1) rfl rfl lk_L_267 rfl (nb rfl) ⟨nb rfl, nb rfl⟩ rfl (fun e1 => ?_)
  have e1 := e1.trans hs
  refine g_istore (pc := 1591) (lv' := [(0, _), (1, _), (2, _), (3, _), (4, _), (5, _), (6, _)]) dL_law_1591 (nl rfl) rfl ?_
  refine g_aload_n (pc := 1593) dL_law_1593 rfl trivial ?_
  refine g_aload_n (pc := 1594) dL_law_1594 rfl isA_0 ?_
  refine g_iload (pc := 1595) dL_law_1595 rfl ?_
  refine g_iconst (pc := 1597) (v := 1) dL_law_1597 rfl ?_
  refine g_iadd (pc := 1598) dL_law_1598 ?_
  refine g_scriptLoadS (pc := 1599) dL_law_1599 (nI_o1 _) e1 (by omega) (by omega) ?_
  refine g_invV_s (pc := 1600) (As := [_]) dL_law_1600 rfl (h2) rfl rfl (shK hM1 rfl) rfl rfl lk_L_269 rfl (nb rfl) ⟨nb rfl, nb rfl⟩ rfl (fun e2 => ?_)
  have e2 := e2.trans e1
  refine g_fstore (pc := 1603) (lv' := [(0, _), (1, _), (2, _), (3, _), (4, _), (5, _), (6, _), (7, _)]) dL_law_1603 (nl rfl) rfl ?_
  refine g_aload_n (pc := 1605) dL_law_1605 rfl trivial ?_
  refine g_invV_r (pc := 1606) (As := []) dL_law_1606 rfl (n_thrown hM2) rfl rfl (shK hM2 rfl) rfl rfl lk_L_212 rfl (nb rfl) ⟨nb rfl, nb rfl⟩ rfl ?_
  refine g_iload (pc := 1609) dL_law_1609 rfl ?_
  refine g_icmp_eq (pc := 1611) (tgt := 1616) dL_law_1611 rfl (fun _ => ?_) (fun h1611 => absurd (ht) h1611)
  refine g_iload (pc := 1616) dL_law_1616 rfl ?_
  refine g_if_ne (pc := 1618) (tgt := 1654) dL_law_1618 rfl (fun h1618 => ?_) (fun h1618 => ?_)
  · refine g_goto (pc := 1654) (tgt := 4226) dL_law_1654 rfl ?_
    exact g_sub (lv' := AL o) ⟨rfl, rfl, rfl, rfl, rfl, rfl, trivial⟩ (kont e2)
  · refine g_aload (pc := 1621) dL_law_1621 rfl trivial ?_
    refine g_iconst (pc := 1623) (v := 0) dL_law_1623 rfl ?_
    refine g_daload (pc := 1624) dL_law_1624 (shK hM2 rfl) rfl (nb rfl) (nl rfl) ?_
    refine g_fload (pc := 1625) dL_law_1625 rfl ?_
    refine g_f2d (pc := 1627) dL_law_1627 (hq (Decidable.not_not.mp h1618)).2.2 ?_
    refine g_dcmp (pc := 1628) dL_law_1628 ?_
    refine g_if_eq (pc := 1629) (tgt := 1654) dL_law_1629 rfl (fun _ => ?_) (fun h1629 => absurd ((by rw [(hq (Decidable.not_not.mp h1618)).1]; exact (hq (Decidable.not_not.mp h1618)).2.1)) h1629)
    refine g_goto (pc := 1654) (tgt := 4226) dL_law_1654 rfl ?_
    exact g_sub (lv' := AL o) ⟨rfl, rfl, rfl, rfl, rfl, rfl, trivial⟩ (kont e2)
set_option maxRecDepth 4000 in
theorem lc_22 {kk : Int32} {b : Int32} (hs : mS M = S) (ho : o + 5 ≤ S.1) (hS9 : S.1 < 2147483648) (hM : Shp M) (hM1 : Shp M1) (hM2 : Shp M2) (h1 : EvR l jL_component 9 162 2 12 [.ref 0, .int (S.2 (o + 1)), .int (S.2 (o + 2)), .ref 212] M (.inl (some (.int kk))) M1) (h2 : EvR l jX7_component 4 160 0 0 [.ref 198, .int (S.2 (o + 1)), .int (S.2 (o + 2))] M1 (.inl (some (.int b))) M2) (ht : mI M2 198 6 = kk) (hq : kk = 0 → mL M2 212 0 = b.toInt64) (kont : mS M2 = S → Go l jL_law 14 538 600002 7302232 Q 4226 (AL o) [] k n M2) : Go l jL_law 14 538 600002 7302232 Q 1657 (AL o) [] (k + 2) (n + 12) M := by
  refine g_aload_n (pc := 1657) dL_law_1657 rfl trivial ?_
  refine g_aload_n (pc := 1658) dL_law_1658 rfl isA_0 ?_
  refine g_iload (pc := 1659) dL_law_1659 rfl ?_
  refine g_iconst (pc := 1661) (v := 1) dL_law_1661 rfl ?_
  refine g_iadd (pc := 1662) dL_law_1662 ?_
  refine g_scriptLoadS (pc := 1663) dL_law_1663 (nI_o1 _) hs (by omega) (by omega) ?_
  refine g_aload_n (pc := 1664) dL_law_1664 rfl isA_0 ?_
  refine g_iload (pc := 1665) dL_law_1665 rfl ?_
  refine g_iconst (pc := 1667) (v := 2) dL_law_1667 rfl ?_
  refine g_iadd (pc := 1668) dL_law_1668 ?_
  refine g_scriptLoadS (pc := 1669) dL_law_1669 (nI_o2 _) hs (by omega) (by omega) ?_
  refine g_aload_n (pc := 1670) dL_law_1670 rfl trivial ?_
  refine g_invSX_s (pc := 1671) (As := [_, _, _, _]) dL_law_1671 rfl (h1) rfl rfl lk_L_270 rfl (nb rfl) ⟨nb rfl, nb rfl⟩ rfl (fun e1 => ?_)
  have e1 := e1.trans hs
  refine g_istore (pc := 1674) (lv' := [(0, _), (1, _), (2, _), (3, _), (4, _), (5, _), (6, _)]) dL_law_1674 (nl rfl) rfl ?_
  refine g_aload_n (pc := 1676) dL_law_1676 rfl trivial ?_
  refine g_aload_n (pc := 1677) dL_law_1677 rfl isA_0 ?_
  refine g_iload (pc := 1678) dL_law_1678 rfl ?_
  refine g_iconst (pc := 1680) (v := 1) dL_law_1680 rfl ?_
  refine g_iadd (pc := 1681) dL_law_1681 ?_
  refine g_scriptLoadS (pc := 1682) dL_law_1682 (nI_o1 _) e1 (by omega) (by omega) ?_
  refine g_aload_n (pc := 1683) dL_law_1683 rfl isA_0 ?_
  refine g_iload (pc := 1684) dL_law_1684 rfl ?_
  refine g_iconst (pc := 1686) (v := 2) dL_law_1686 rfl ?_
  refine g_iadd (pc := 1687) dL_law_1687 ?_
  refine g_scriptLoadS (pc := 1688) dL_law_1688 (nI_o2 _) e1 (by omega) (by omega) ?_
  refine g_invV_s (pc := 1689) (As := [_, _]) dL_law_1689 rfl (h2) rfl rfl (shK hM1 rfl) rfl rfl lk_L_272 rfl (nb rfl) ⟨nb rfl, nb rfl⟩ rfl (fun e2 => ?_)
  have e2 := e2.trans e1
  refine g_istore (pc := 1692) (lv' := [(0, _), (1, _), (2, _), (3, _), (4, _), (5, _), (6, _), (7, _)]) dL_law_1692 (nl rfl) rfl ?_
  refine g_aload_n (pc := 1694) dL_law_1694 rfl trivial ?_
  refine g_invV_r (pc := 1695) (As := []) dL_law_1695 rfl (n_thrown hM2) rfl rfl (shK hM2 rfl) rfl rfl lk_L_212 rfl (nb rfl) ⟨nb rfl, nb rfl⟩ rfl ?_
  refine g_iload (pc := 1698) dL_law_1698 rfl ?_
  refine g_icmp_eq (pc := 1700) (tgt := 1705) dL_law_1700 rfl (fun _ => ?_) (fun h1700 => absurd (ht) h1700)
  refine g_iload (pc := 1705) dL_law_1705 rfl ?_
  refine g_if_ne (pc := 1707) (tgt := 1722) dL_law_1707 rfl (fun h1707 => ?_) (fun h1707 => ?_)
  · refine g_goto (pc := 1722) (tgt := 4226) dL_law_1722 rfl ?_
    exact g_sub (lv' := AL o) ⟨rfl, rfl, rfl, rfl, rfl, rfl, trivial⟩ (kont e2)
  · refine g_aload_n (pc := 1710) dL_law_1710 rfl trivial ?_
    refine g_iconst (pc := 1711) (v := 0) dL_law_1711 rfl ?_
    refine g_laload (pc := 1712) dL_law_1712 (shK hM2 rfl) rfl (nb rfl) (nl rfl) ?_
    refine g_iload (pc := 1713) dL_law_1713 rfl ?_
    refine g_i2l (pc := 1715) dL_law_1715 rfl ?_
    refine g_lcmp (pc := 1716) dL_law_1716 ?_
    refine g_if_eq (pc := 1717) (tgt := 1722) dL_law_1717 rfl (fun _ => ?_) (fun h1717 => absurd ((lgc_self (hq (Decidable.not_not.mp h1707)))) h1717)
    refine g_goto (pc := 1722) (tgt := 4226) dL_law_1722 rfl ?_
    exact g_sub (lv' := AL o) ⟨rfl, rfl, rfl, rfl, rfl, rfl, trivial⟩ (kont e2)
set_option maxRecDepth 4000 in
theorem lc_23 {kk : Int32} {b : Int32} (hs : mS M = S) (ho : o + 5 ≤ S.1) (hS9 : S.1 < 2147483648) (hM : Shp M) (hM1 : Shp M1) (hM2 : Shp M2) (h1 : EvR l jL_components 8 144 1 6 [.ref 0, .int (S.2 (o + 1)), .ref 212] M (.inl (some (.int kk))) M1) (h2 : EvR l jX7_components 4 160 0 0 [.ref 198, .int (S.2 (o + 1))] M1 (.inl (some (.int b))) M2) (ht : mI M2 198 6 = kk) (hq : kk = 0 → mL M2 212 0 = b.toInt64) (kont : mS M2 = S → Go l jL_law 14 538 600002 7302232 Q 4226 (AL o) [] k n M2) : Go l jL_law 14 538 600002 7302232 Q 1725 (AL o) [] (k + 1) (n + 6) M := by
  refine g_aload_n (pc := 1725) dL_law_1725 rfl trivial ?_
  refine g_aload_n (pc := 1726) dL_law_1726 rfl isA_0 ?_
  refine g_iload (pc := 1727) dL_law_1727 rfl ?_
  refine g_iconst (pc := 1729) (v := 1) dL_law_1729 rfl ?_
  refine g_iadd (pc := 1730) dL_law_1730 ?_
  refine g_scriptLoadS (pc := 1731) dL_law_1731 (nI_o1 _) hs (by omega) (by omega) ?_
  refine g_aload_n (pc := 1732) dL_law_1732 rfl trivial ?_
  refine g_invSX_s (pc := 1733) (As := [_, _, _]) dL_law_1733 rfl (h1) rfl rfl lk_L_273 rfl (nb rfl) ⟨nb rfl, nb rfl⟩ rfl (fun e1 => ?_)
  have e1 := e1.trans hs
  refine g_istore (pc := 1736) (lv' := [(0, _), (1, _), (2, _), (3, _), (4, _), (5, _), (6, _)]) dL_law_1736 (nl rfl) rfl ?_
  refine g_aload_n (pc := 1738) dL_law_1738 rfl trivial ?_
  refine g_aload_n (pc := 1739) dL_law_1739 rfl isA_0 ?_
  refine g_iload (pc := 1740) dL_law_1740 rfl ?_
  refine g_iconst (pc := 1742) (v := 1) dL_law_1742 rfl ?_
  refine g_iadd (pc := 1743) dL_law_1743 ?_
  refine g_scriptLoadS (pc := 1744) dL_law_1744 (nI_o1 _) e1 (by omega) (by omega) ?_
  refine g_invV_s (pc := 1745) (As := [_]) dL_law_1745 rfl (h2) rfl rfl (shK hM1 rfl) rfl rfl lk_L_275 rfl (nb rfl) ⟨nb rfl, nb rfl⟩ rfl (fun e2 => ?_)
  have e2 := e2.trans e1
  refine g_istore (pc := 1748) (lv' := [(0, _), (1, _), (2, _), (3, _), (4, _), (5, _), (6, _), (7, _)]) dL_law_1748 (nl rfl) rfl ?_
  refine g_aload_n (pc := 1750) dL_law_1750 rfl trivial ?_
  refine g_invV_r (pc := 1751) (As := []) dL_law_1751 rfl (n_thrown hM2) rfl rfl (shK hM2 rfl) rfl rfl lk_L_212 rfl (nb rfl) ⟨nb rfl, nb rfl⟩ rfl ?_
  refine g_iload (pc := 1754) dL_law_1754 rfl ?_
  refine g_icmp_eq (pc := 1756) (tgt := 1761) dL_law_1756 rfl (fun _ => ?_) (fun h1756 => absurd (ht) h1756)
  refine g_iload (pc := 1761) dL_law_1761 rfl ?_
  refine g_if_ne (pc := 1763) (tgt := 1778) dL_law_1763 rfl (fun h1763 => ?_) (fun h1763 => ?_)
  · refine g_goto (pc := 1778) (tgt := 4226) dL_law_1778 rfl ?_
    exact g_sub (lv' := AL o) ⟨rfl, rfl, rfl, rfl, rfl, rfl, trivial⟩ (kont e2)
  · refine g_aload_n (pc := 1766) dL_law_1766 rfl trivial ?_
    refine g_iconst (pc := 1767) (v := 0) dL_law_1767 rfl ?_
    refine g_laload (pc := 1768) dL_law_1768 (shK hM2 rfl) rfl (nb rfl) (nl rfl) ?_
    refine g_iload (pc := 1769) dL_law_1769 rfl ?_
    refine g_i2l (pc := 1771) dL_law_1771 rfl ?_
    refine g_lcmp (pc := 1772) dL_law_1772 ?_
    refine g_if_eq (pc := 1773) (tgt := 1778) dL_law_1773 rfl (fun _ => ?_) (fun h1773 => absurd ((lgc_self (hq (Decidable.not_not.mp h1763)))) h1773)
    refine g_goto (pc := 1778) (tgt := 4226) dL_law_1778 rfl ?_
    exact g_sub (lv' := AL o) ⟨rfl, rfl, rfl, rfl, rfl, rfl, trivial⟩ (kont e2)
set_option maxRecDepth 4000 in
theorem lc_24 {kk : Int32} {b : Int32} (hs : mS M = S) (ho : o + 5 ≤ S.1) (hS9 : S.1 < 2147483648) (hM : Shp M) (hM1 : Shp M1) (hM2 : Shp M2) (h1 : EvR l jL_distance 10 183 3 18 [.ref 0, .int (S.2 (o + 1)), .int (S.2 (o + 2)), .int (S.2 (o + 3)), .ref 212] M (.inl (some (.int kk))) M1) (h2 : EvR l jX7_distance 4 160 0 0 [.ref 198, .int (S.2 (o + 1)), .int (S.2 (o + 2)), .int (S.2 (o + 3))] M1 (.inl (some (.int b))) M2) (ht : mI M2 198 6 = kk) (hq : kk = 0 → mL M2 212 0 = b.toInt64) (kont : mS M2 = S → Go l jL_law 14 538 600002 7302232 Q 4226 (AL o) [] k n M2) : Go l jL_law 14 538 600002 7302232 Q 1781 (AL o) [] (k + 3) (n + 18) M := by
  refine g_aload_n (pc := 1781) dL_law_1781 rfl trivial ?_
  refine g_aload_n (pc := 1782) dL_law_1782 rfl isA_0 ?_
  refine g_iload (pc := 1783) dL_law_1783 rfl ?_
  refine g_iconst (pc := 1785) (v := 1) dL_law_1785 rfl ?_
  refine g_iadd (pc := 1786) dL_law_1786 ?_
  refine g_scriptLoadS (pc := 1787) dL_law_1787 (nI_o1 _) hs (by omega) (by omega) ?_
  refine g_aload_n (pc := 1788) dL_law_1788 rfl isA_0 ?_
  refine g_iload (pc := 1789) dL_law_1789 rfl ?_
  refine g_iconst (pc := 1791) (v := 2) dL_law_1791 rfl ?_
  refine g_iadd (pc := 1792) dL_law_1792 ?_
  refine g_scriptLoadS (pc := 1793) dL_law_1793 (nI_o2 _) hs (by omega) (by omega) ?_
  refine g_aload_n (pc := 1794) dL_law_1794 rfl isA_0 ?_
  refine g_iload (pc := 1795) dL_law_1795 rfl ?_
  refine g_iconst (pc := 1797) (v := 3) dL_law_1797 rfl ?_
  refine g_iadd (pc := 1798) dL_law_1798 ?_
  refine g_scriptLoadS (pc := 1799) dL_law_1799 (nI_o3 _) hs (by omega) (by omega) ?_
  refine g_aload_n (pc := 1800) dL_law_1800 rfl trivial ?_
  refine g_invSX_s (pc := 1801) (As := [_, _, _, _, _]) dL_law_1801 rfl (h1) rfl rfl lk_L_276 rfl (nb rfl) ⟨nb rfl, nb rfl⟩ rfl (fun e1 => ?_)
  have e1 := e1.trans hs
  refine g_istore (pc := 1804) (lv' := [(0, _), (1, _), (2, _), (3, _), (4, _), (5, _), (6, _)]) dL_law_1804 (nl rfl) rfl ?_
  refine g_aload_n (pc := 1806) dL_law_1806 rfl trivial ?_
  refine g_aload_n (pc := 1807) dL_law_1807 rfl isA_0 ?_
  refine g_iload (pc := 1808) dL_law_1808 rfl ?_
  refine g_iconst (pc := 1810) (v := 1) dL_law_1810 rfl ?_
  refine g_iadd (pc := 1811) dL_law_1811 ?_
  refine g_scriptLoadS (pc := 1812) dL_law_1812 (nI_o1 _) e1 (by omega) (by omega) ?_
  refine g_aload_n (pc := 1813) dL_law_1813 rfl isA_0 ?_
  refine g_iload (pc := 1814) dL_law_1814 rfl ?_
  refine g_iconst (pc := 1816) (v := 2) dL_law_1816 rfl ?_
  refine g_iadd (pc := 1817) dL_law_1817 ?_
  refine g_scriptLoadS (pc := 1818) dL_law_1818 (nI_o2 _) e1 (by omega) (by omega) ?_
  refine g_aload_n (pc := 1819) dL_law_1819 rfl isA_0 ?_
  refine g_iload (pc := 1820) dL_law_1820 rfl ?_
  refine g_iconst (pc := 1822) (v := 3) dL_law_1822 rfl ?_
  refine g_iadd (pc := 1823) dL_law_1823 ?_
  refine g_scriptLoadS (pc := 1824) dL_law_1824 (nI_o3 _) e1 (by omega) (by omega) ?_
  refine g_invV_s (pc := 1825) (As := [_, _, _]) dL_law_1825 rfl (h2) rfl rfl (shK hM1 rfl) rfl rfl lk_L_278 rfl (nb rfl) ⟨nb rfl, nb rfl⟩ rfl (fun e2 => ?_)
  have e2 := e2.trans e1
  refine g_istore (pc := 1828) (lv' := [(0, _), (1, _), (2, _), (3, _), (4, _), (5, _), (6, _), (7, _)]) dL_law_1828 (nl rfl) rfl ?_
  refine g_aload_n (pc := 1830) dL_law_1830 rfl trivial ?_
  refine g_invV_r (pc := 1831) (As := []) dL_law_1831 rfl (n_thrown hM2) rfl rfl (shK hM2 rfl) rfl rfl lk_L_212 rfl (nb rfl) ⟨nb rfl, nb rfl⟩ rfl ?_
  refine g_iload (pc := 1834) dL_law_1834 rfl ?_
  refine g_icmp_eq (pc := 1836) (tgt := 1841) dL_law_1836 rfl (fun _ => ?_) (fun h1836 => absurd (ht) h1836)
  refine g_iload (pc := 1841) dL_law_1841 rfl ?_
  refine g_if_ne (pc := 1843) (tgt := 1858) dL_law_1843 rfl (fun h1843 => ?_) (fun h1843 => ?_)
  · refine g_goto (pc := 1858) (tgt := 4226) dL_law_1858 rfl ?_
    exact g_sub (lv' := AL o) ⟨rfl, rfl, rfl, rfl, rfl, rfl, trivial⟩ (kont e2)
  · refine g_aload_n (pc := 1846) dL_law_1846 rfl trivial ?_
    refine g_iconst (pc := 1847) (v := 0) dL_law_1847 rfl ?_
    refine g_laload (pc := 1848) dL_law_1848 (shK hM2 rfl) rfl (nb rfl) (nl rfl) ?_
    refine g_iload (pc := 1849) dL_law_1849 rfl ?_
    refine g_i2l (pc := 1851) dL_law_1851 rfl ?_
    refine g_lcmp (pc := 1852) dL_law_1852 ?_
    refine g_if_eq (pc := 1853) (tgt := 1858) dL_law_1853 rfl (fun _ => ?_) (fun h1853 => absurd ((lgc_self (hq (Decidable.not_not.mp h1843)))) h1853)
    refine g_goto (pc := 1858) (tgt := 4226) dL_law_1858 rfl ?_
    exact g_sub (lv' := AL o) ⟨rfl, rfl, rfl, rfl, rfl, rfl, trivial⟩ (kont e2)
set_option maxRecDepth 4000 in
theorem lc_25 {kk : Int32} {b : Int32} (hs : mS M = S) (ho : o + 5 ≤ S.1) (hS9 : S.1 < 2147483648) (hM : Shp M) (hM1 : Shp M1) (hM2 : Shp M2) (h1 : EvR l jL_stepAt 11 218 3 18 [.ref 0, .int (S.2 (o + 1)), .int (S.2 (o + 2)), .int (S.2 (o + 3)), .int (S.2 (o + 4)), .ref 212] M (.inl (some (.int kk))) M1) (h2 : EvR l jX7_stepAt 4 160 0 0 [.ref 198, .int (S.2 (o + 1)), .int (S.2 (o + 2)), .int (S.2 (o + 3)), .int (S.2 (o + 4))] M1 (.inl (some (.int b))) M2) (ht : mI M2 198 6 = kk) (hq : kk = 0 → mL M2 212 0 = b.toInt64) (kont : mS M2 = S → Go l jL_law 14 538 600002 7302232 Q 4226 (AL o) [] k n M2) : Go l jL_law 14 538 600002 7302232 Q 1861 (AL o) [] (k + 3) (n + 18) M := by
  refine g_aload_n (pc := 1861) dL_law_1861 rfl trivial ?_
  refine g_aload_n (pc := 1862) dL_law_1862 rfl isA_0 ?_
  refine g_iload (pc := 1863) dL_law_1863 rfl ?_
  refine g_iconst (pc := 1865) (v := 1) dL_law_1865 rfl ?_
  refine g_iadd (pc := 1866) dL_law_1866 ?_
  refine g_scriptLoadS (pc := 1867) dL_law_1867 (nI_o1 _) hs (by omega) (by omega) ?_
  refine g_aload_n (pc := 1868) dL_law_1868 rfl isA_0 ?_
  refine g_iload (pc := 1869) dL_law_1869 rfl ?_
  refine g_iconst (pc := 1871) (v := 2) dL_law_1871 rfl ?_
  refine g_iadd (pc := 1872) dL_law_1872 ?_
  refine g_scriptLoadS (pc := 1873) dL_law_1873 (nI_o2 _) hs (by omega) (by omega) ?_
  refine g_aload_n (pc := 1874) dL_law_1874 rfl isA_0 ?_
  refine g_iload (pc := 1875) dL_law_1875 rfl ?_
  refine g_iconst (pc := 1877) (v := 3) dL_law_1877 rfl ?_
  refine g_iadd (pc := 1878) dL_law_1878 ?_
  refine g_scriptLoadS (pc := 1879) dL_law_1879 (nI_o3 _) hs (by omega) (by omega) ?_
  refine g_aload_n (pc := 1880) dL_law_1880 rfl isA_0 ?_
  refine g_iload (pc := 1881) dL_law_1881 rfl ?_
  refine g_iconst (pc := 1883) (v := 4) dL_law_1883 rfl ?_
  refine g_iadd (pc := 1884) dL_law_1884 ?_
  refine g_scriptLoadS (pc := 1885) dL_law_1885 (nI_o4 _) hs (by omega) (by omega) ?_
  refine g_aload_n (pc := 1886) dL_law_1886 rfl trivial ?_
  refine g_invSX_s (pc := 1887) (As := [_, _, _, _, _, _]) dL_law_1887 rfl (h1) rfl rfl lk_L_279 rfl (nb rfl) ⟨nb rfl, nb rfl⟩ rfl (fun e1 => ?_)
  have e1 := e1.trans hs
  refine g_istore (pc := 1890) (lv' := [(0, _), (1, _), (2, _), (3, _), (4, _), (5, _), (6, _)]) dL_law_1890 (nl rfl) rfl ?_
  refine g_aload_n (pc := 1892) dL_law_1892 rfl trivial ?_
  refine g_aload_n (pc := 1893) dL_law_1893 rfl isA_0 ?_
  refine g_iload (pc := 1894) dL_law_1894 rfl ?_
  refine g_iconst (pc := 1896) (v := 1) dL_law_1896 rfl ?_
  refine g_iadd (pc := 1897) dL_law_1897 ?_
  refine g_scriptLoadS (pc := 1898) dL_law_1898 (nI_o1 _) e1 (by omega) (by omega) ?_
  refine g_aload_n (pc := 1899) dL_law_1899 rfl isA_0 ?_
  refine g_iload (pc := 1900) dL_law_1900 rfl ?_
  refine g_iconst (pc := 1902) (v := 2) dL_law_1902 rfl ?_
  refine g_iadd (pc := 1903) dL_law_1903 ?_
  refine g_scriptLoadS (pc := 1904) dL_law_1904 (nI_o2 _) e1 (by omega) (by omega) ?_
  refine g_aload_n (pc := 1905) dL_law_1905 rfl isA_0 ?_
  refine g_iload (pc := 1906) dL_law_1906 rfl ?_
  refine g_iconst (pc := 1908) (v := 3) dL_law_1908 rfl ?_
  refine g_iadd (pc := 1909) dL_law_1909 ?_
  refine g_scriptLoadS (pc := 1910) dL_law_1910 (nI_o3 _) e1 (by omega) (by omega) ?_
  refine g_aload_n (pc := 1911) dL_law_1911 rfl isA_0 ?_
  refine g_iload (pc := 1912) dL_law_1912 rfl ?_
  refine g_iconst (pc := 1914) (v := 4) dL_law_1914 rfl ?_
  refine g_iadd (pc := 1915) dL_law_1915 ?_
  refine g_scriptLoadS (pc := 1916) dL_law_1916 (nI_o4 _) e1 (by omega) (by omega) ?_
  refine g_invV_s (pc := 1917) (As := [_, _, _, _]) dL_law_1917 rfl (h2) rfl rfl (shK hM1 rfl) rfl rfl lk_L_282 rfl (nb rfl) ⟨nb rfl, nb rfl⟩ rfl (fun e2 => ?_)
  have e2 := e2.trans e1
  refine g_istore (pc := 1920) (lv' := [(0, _), (1, _), (2, _), (3, _), (4, _), (5, _), (6, _), (7, _)]) dL_law_1920 (nl rfl) rfl ?_
  refine g_aload_n (pc := 1922) dL_law_1922 rfl trivial ?_
  refine g_invV_r (pc := 1923) (As := []) dL_law_1923 rfl (n_thrown hM2) rfl rfl (shK hM2 rfl) rfl rfl lk_L_212 rfl (nb rfl) ⟨nb rfl, nb rfl⟩ rfl ?_
  refine g_iload (pc := 1926) dL_law_1926 rfl ?_
  refine g_icmp_eq (pc := 1928) (tgt := 1933) dL_law_1928 rfl (fun _ => ?_) (fun h1928 => absurd (ht) h1928)
  refine g_iload (pc := 1933) dL_law_1933 rfl ?_
  refine g_if_ne (pc := 1935) (tgt := 1950) dL_law_1935 rfl (fun h1935 => ?_) (fun h1935 => ?_)
  · refine g_goto (pc := 1950) (tgt := 4226) dL_law_1950 rfl ?_
    exact g_sub (lv' := AL o) ⟨rfl, rfl, rfl, rfl, rfl, rfl, trivial⟩ (kont e2)
  · refine g_aload_n (pc := 1938) dL_law_1938 rfl trivial ?_
    refine g_iconst (pc := 1939) (v := 0) dL_law_1939 rfl ?_
    refine g_laload (pc := 1940) dL_law_1940 (shK hM2 rfl) rfl (nb rfl) (nl rfl) ?_
    refine g_iload (pc := 1941) dL_law_1941 rfl ?_
    refine g_i2l (pc := 1943) dL_law_1943 rfl ?_
    refine g_lcmp (pc := 1944) dL_law_1944 ?_
    refine g_if_eq (pc := 1945) (tgt := 1950) dL_law_1945 rfl (fun _ => ?_) (fun h1945 => absurd ((lgc_self (hq (Decidable.not_not.mp h1935)))) h1945)
    refine g_goto (pc := 1950) (tgt := 4226) dL_law_1950 rfl ?_
    exact g_sub (lv' := AL o) ⟨rfl, rfl, rfl, rfl, rfl, rfl, trivial⟩ (kont e2)
set_option maxRecDepth 4000 in
theorem lc_26 {kk : Int32} {b : Int32} (hs : mS M = S) (ho : o + 5 ≤ S.1) (hS9 : S.1 < 2147483648) (hM : Shp M) (hM1 : Shp M1) (hM2 : Shp M2) (h1 : EvR l jL_around 9 162 2 12 [.ref 0, .int (S.2 (o + 1)), .int (S.2 (o + 2)), .ref 212] M (.inl (some (.int kk))) M1) (h2 : EvR l jX7_around 4 160 0 0 [.ref 198, .int (S.2 (o + 1)), .int (S.2 (o + 2))] M1 (.inl (some (.int b))) M2) (ht : mI M2 198 6 = kk) (hq : kk = 0 → mL M2 212 0 = b.toInt64) (kont : mS M2 = S → Go l jL_law 14 538 600002 7302232 Q 4226 (AL o) [] k n M2) : Go l jL_law 14 538 600002 7302232 Q 1953 (AL o) [] (k + 2) (n + 12) M := by
  refine g_aload_n (pc := 1953) dL_law_1953 rfl trivial ?_
  refine g_aload_n (pc := 1954) dL_law_1954 rfl isA_0 ?_
  refine g_iload (pc := 1955) dL_law_1955 rfl ?_
  refine g_iconst (pc := 1957) (v := 1) dL_law_1957 rfl ?_
  refine g_iadd (pc := 1958) dL_law_1958 ?_
  refine g_scriptLoadS (pc := 1959) dL_law_1959 (nI_o1 _) hs (by omega) (by omega) ?_
  refine g_aload_n (pc := 1960) dL_law_1960 rfl isA_0 ?_
  refine g_iload (pc := 1961) dL_law_1961 rfl ?_
  refine g_iconst (pc := 1963) (v := 2) dL_law_1963 rfl ?_
  refine g_iadd (pc := 1964) dL_law_1964 ?_
  refine g_scriptLoadS (pc := 1965) dL_law_1965 (nI_o2 _) hs (by omega) (by omega) ?_
  refine g_aload_n (pc := 1966) dL_law_1966 rfl trivial ?_
  refine g_invSX_s (pc := 1967) (As := [_, _, _, _]) dL_law_1967 rfl (h1) rfl rfl lk_L_283 rfl (nb rfl) ⟨nb rfl, nb rfl⟩ rfl (fun e1 => ?_)
  have e1 := e1.trans hs
  refine g_istore (pc := 1970) (lv' := [(0, _), (1, _), (2, _), (3, _), (4, _), (5, _), (6, _)]) dL_law_1970 (nl rfl) rfl ?_
  refine g_aload_n (pc := 1972) dL_law_1972 rfl trivial ?_
  refine g_aload_n (pc := 1973) dL_law_1973 rfl isA_0 ?_
  refine g_iload (pc := 1974) dL_law_1974 rfl ?_
  refine g_iconst (pc := 1976) (v := 1) dL_law_1976 rfl ?_
  refine g_iadd (pc := 1977) dL_law_1977 ?_
  refine g_scriptLoadS (pc := 1978) dL_law_1978 (nI_o1 _) e1 (by omega) (by omega) ?_
  refine g_aload_n (pc := 1979) dL_law_1979 rfl isA_0 ?_
  refine g_iload (pc := 1980) dL_law_1980 rfl ?_
  refine g_iconst (pc := 1982) (v := 2) dL_law_1982 rfl ?_
  refine g_iadd (pc := 1983) dL_law_1983 ?_
  refine g_scriptLoadS (pc := 1984) dL_law_1984 (nI_o2 _) e1 (by omega) (by omega) ?_
  refine g_invV_s (pc := 1985) (As := [_, _]) dL_law_1985 rfl (h2) rfl rfl (shK hM1 rfl) rfl rfl lk_L_285 rfl (nb rfl) ⟨nb rfl, nb rfl⟩ rfl (fun e2 => ?_)
  have e2 := e2.trans e1
  refine g_istore (pc := 1988) (lv' := [(0, _), (1, _), (2, _), (3, _), (4, _), (5, _), (6, _), (7, _)]) dL_law_1988 (nl rfl) rfl ?_
  refine g_aload_n (pc := 1990) dL_law_1990 rfl trivial ?_
  refine g_invV_r (pc := 1991) (As := []) dL_law_1991 rfl (n_thrown hM2) rfl rfl (shK hM2 rfl) rfl rfl lk_L_212 rfl (nb rfl) ⟨nb rfl, nb rfl⟩ rfl ?_
  refine g_iload (pc := 1994) dL_law_1994 rfl ?_
  refine g_icmp_eq (pc := 1996) (tgt := 2001) dL_law_1996 rfl (fun _ => ?_) (fun h1996 => absurd (ht) h1996)
  refine g_iload (pc := 2001) dL_law_2001 rfl ?_
  refine g_if_ne (pc := 2003) (tgt := 2018) dL_law_2003 rfl (fun h2003 => ?_) (fun h2003 => ?_)
  · refine g_goto (pc := 2018) (tgt := 4226) dL_law_2018 rfl ?_
    exact g_sub (lv' := AL o) ⟨rfl, rfl, rfl, rfl, rfl, rfl, trivial⟩ (kont e2)
  · refine g_aload_n (pc := 2006) dL_law_2006 rfl trivial ?_
    refine g_iconst (pc := 2007) (v := 0) dL_law_2007 rfl ?_
    refine g_laload (pc := 2008) dL_law_2008 (shK hM2 rfl) rfl (nb rfl) (nl rfl) ?_
    refine g_iload (pc := 2009) dL_law_2009 rfl ?_
    refine g_i2l (pc := 2011) dL_law_2011 rfl ?_
    refine g_lcmp (pc := 2012) dL_law_2012 ?_
    refine g_if_eq (pc := 2013) (tgt := 2018) dL_law_2013 rfl (fun _ => ?_) (fun h2013 => absurd ((lgc_self (hq (Decidable.not_not.mp h2003)))) h2013)
    refine g_goto (pc := 2018) (tgt := 4226) dL_law_2018 rfl ?_
    exact g_sub (lv' := AL o) ⟨rfl, rfl, rfl, rfl, rfl, rfl, trivial⟩ (kont e2)
set_option maxRecDepth 4000 in
theorem lc_27 {kk : Int32} {b : Int32} (hs : mS M = S) (ho : o + 5 ≤ S.1) (hS9 : S.1 < 2147483648) (hM : Shp M) (hM1 : Shp M1) (hM2 : Shp M2) (h1 : EvR l jL_girth 8 144 1 6 [.ref 0, .int (S.2 (o + 1)), .ref 212] M (.inl (some (.int kk))) M1) (h2 : EvR l jX7_girth 4 160 0 0 [.ref 198, .int (S.2 (o + 1))] M1 (.inl (some (.int b))) M2) (ht : mI M2 198 6 = kk) (hq : kk = 0 → mL M2 212 0 = b.toInt64) (kont : mS M2 = S → Go l jL_law 14 538 600002 7302232 Q 4226 (AL o) [] k n M2) : Go l jL_law 14 538 600002 7302232 Q 2021 (AL o) [] (k + 1) (n + 6) M := by
  refine g_aload_n (pc := 2021) dL_law_2021 rfl trivial ?_
  refine g_aload_n (pc := 2022) dL_law_2022 rfl isA_0 ?_
  refine g_iload (pc := 2023) dL_law_2023 rfl ?_
  refine g_iconst (pc := 2025) (v := 1) dL_law_2025 rfl ?_
  refine g_iadd (pc := 2026) dL_law_2026 ?_
  refine g_scriptLoadS (pc := 2027) dL_law_2027 (nI_o1 _) hs (by omega) (by omega) ?_
  refine g_aload_n (pc := 2028) dL_law_2028 rfl trivial ?_
  refine g_invSX_s (pc := 2029) (As := [_, _, _]) dL_law_2029 rfl (h1) rfl rfl lk_L_286 rfl (nb rfl) ⟨nb rfl, nb rfl⟩ rfl (fun e1 => ?_)
  have e1 := e1.trans hs
  refine g_istore (pc := 2032) (lv' := [(0, _), (1, _), (2, _), (3, _), (4, _), (5, _), (6, _)]) dL_law_2032 (nl rfl) rfl ?_
  refine g_aload_n (pc := 2034) dL_law_2034 rfl trivial ?_
  refine g_aload_n (pc := 2035) dL_law_2035 rfl isA_0 ?_
  refine g_iload (pc := 2036) dL_law_2036 rfl ?_
  refine g_iconst (pc := 2038) (v := 1) dL_law_2038 rfl ?_
  refine g_iadd (pc := 2039) dL_law_2039 ?_
  refine g_scriptLoadS (pc := 2040) dL_law_2040 (nI_o1 _) e1 (by omega) (by omega) ?_
  refine g_invV_s (pc := 2041) (As := [_]) dL_law_2041 rfl (h2) rfl rfl (shK hM1 rfl) rfl rfl lk_L_288 rfl (nb rfl) ⟨nb rfl, nb rfl⟩ rfl (fun e2 => ?_)
  have e2 := e2.trans e1
  refine g_istore (pc := 2044) (lv' := [(0, _), (1, _), (2, _), (3, _), (4, _), (5, _), (6, _), (7, _)]) dL_law_2044 (nl rfl) rfl ?_
  refine g_aload_n (pc := 2046) dL_law_2046 rfl trivial ?_
  refine g_invV_r (pc := 2047) (As := []) dL_law_2047 rfl (n_thrown hM2) rfl rfl (shK hM2 rfl) rfl rfl lk_L_212 rfl (nb rfl) ⟨nb rfl, nb rfl⟩ rfl ?_
  refine g_iload (pc := 2050) dL_law_2050 rfl ?_
  refine g_icmp_eq (pc := 2052) (tgt := 2057) dL_law_2052 rfl (fun _ => ?_) (fun h2052 => absurd (ht) h2052)
  refine g_iload (pc := 2057) dL_law_2057 rfl ?_
  refine g_if_ne (pc := 2059) (tgt := 2074) dL_law_2059 rfl (fun h2059 => ?_) (fun h2059 => ?_)
  · refine g_goto (pc := 2074) (tgt := 4226) dL_law_2074 rfl ?_
    exact g_sub (lv' := AL o) ⟨rfl, rfl, rfl, rfl, rfl, rfl, trivial⟩ (kont e2)
  · refine g_aload_n (pc := 2062) dL_law_2062 rfl trivial ?_
    refine g_iconst (pc := 2063) (v := 0) dL_law_2063 rfl ?_
    refine g_laload (pc := 2064) dL_law_2064 (shK hM2 rfl) rfl (nb rfl) (nl rfl) ?_
    refine g_iload (pc := 2065) dL_law_2065 rfl ?_
    refine g_i2l (pc := 2067) dL_law_2067 rfl ?_
    refine g_lcmp (pc := 2068) dL_law_2068 ?_
    refine g_if_eq (pc := 2069) (tgt := 2074) dL_law_2069 rfl (fun _ => ?_) (fun h2069 => absurd ((lgc_self (hq (Decidable.not_not.mp h2059)))) h2069)
    refine g_goto (pc := 2074) (tgt := 4226) dL_law_2074 rfl ?_
    exact g_sub (lv' := AL o) ⟨rfl, rfl, rfl, rfl, rfl, rfl, trivial⟩ (kont e2)
set_option maxRecDepth 4000 in
theorem lc_28 {kk : Int32} {b : Int32} (hs : mS M = S) (ho : o + 5 ≤ S.1) (hS9 : S.1 < 2147483648) (hM : Shp M) (hM1 : Shp M1) (hM2 : Shp M2) (h1 : EvR l jL_order 8 146 1 6 [.ref 0, .int (S.2 (o + 1)), .int (S.2 (o + 2)), .ref 212] M (.inl (some (.int kk))) M1) (h2 : EvR l jX7_order 4 160 0 0 [.ref 198, .int (S.2 (o + 1)), .int (S.2 (o + 2))] M1 (.inl (some (.int b))) M2) (ht : mI M2 198 6 = kk) (hq : kk = 0 → mL M2 212 0 = b.toInt64) (kont : mS M2 = S → Go l jL_law 14 538 600002 7302232 Q 4226 (AL o) [] k n M2) : Go l jL_law 14 538 600002 7302232 Q 2077 (AL o) [] (k + 1) (n + 6) M := by
  refine g_aload_n (pc := 2077) dL_law_2077 rfl trivial ?_
  refine g_aload_n (pc := 2078) dL_law_2078 rfl isA_0 ?_
  refine g_iload (pc := 2079) dL_law_2079 rfl ?_
  refine g_iconst (pc := 2081) (v := 1) dL_law_2081 rfl ?_
  refine g_iadd (pc := 2082) dL_law_2082 ?_
  refine g_scriptLoadS (pc := 2083) dL_law_2083 (nI_o1 _) hs (by omega) (by omega) ?_
  refine g_aload_n (pc := 2084) dL_law_2084 rfl isA_0 ?_
  refine g_iload (pc := 2085) dL_law_2085 rfl ?_
  refine g_iconst (pc := 2087) (v := 2) dL_law_2087 rfl ?_
  refine g_iadd (pc := 2088) dL_law_2088 ?_
  refine g_scriptLoadS (pc := 2089) dL_law_2089 (nI_o2 _) hs (by omega) (by omega) ?_
  refine g_aload_n (pc := 2090) dL_law_2090 rfl trivial ?_
  refine g_invSX_s (pc := 2091) (As := [_, _, _, _]) dL_law_2091 rfl (h1) rfl rfl lk_L_289 rfl (nb rfl) ⟨nb rfl, nb rfl⟩ rfl (fun e1 => ?_)
  have e1 := e1.trans hs
  refine g_istore (pc := 2094) (lv' := [(0, _), (1, _), (2, _), (3, _), (4, _), (5, _), (6, _)]) dL_law_2094 (nl rfl) rfl ?_
  refine g_aload_n (pc := 2096) dL_law_2096 rfl trivial ?_
  refine g_aload_n (pc := 2097) dL_law_2097 rfl isA_0 ?_
  refine g_iload (pc := 2098) dL_law_2098 rfl ?_
  refine g_iconst (pc := 2100) (v := 1) dL_law_2100 rfl ?_
  refine g_iadd (pc := 2101) dL_law_2101 ?_
  refine g_scriptLoadS (pc := 2102) dL_law_2102 (nI_o1 _) e1 (by omega) (by omega) ?_
  refine g_aload_n (pc := 2103) dL_law_2103 rfl isA_0 ?_
  refine g_iload (pc := 2104) dL_law_2104 rfl ?_
  refine g_iconst (pc := 2106) (v := 2) dL_law_2106 rfl ?_
  refine g_iadd (pc := 2107) dL_law_2107 ?_
  refine g_scriptLoadS (pc := 2108) dL_law_2108 (nI_o2 _) e1 (by omega) (by omega) ?_
  refine g_invV_s (pc := 2109) (As := [_, _]) dL_law_2109 rfl (h2) rfl rfl (shK hM1 rfl) rfl rfl lk_L_291 rfl (nb rfl) ⟨nb rfl, nb rfl⟩ rfl (fun e2 => ?_)
  have e2 := e2.trans e1
  refine g_istore (pc := 2112) (lv' := [(0, _), (1, _), (2, _), (3, _), (4, _), (5, _), (6, _), (7, _)]) dL_law_2112 (nl rfl) rfl ?_
  refine g_aload_n (pc := 2114) dL_law_2114 rfl trivial ?_
  refine g_invV_r (pc := 2115) (As := []) dL_law_2115 rfl (n_thrown hM2) rfl rfl (shK hM2 rfl) rfl rfl lk_L_212 rfl (nb rfl) ⟨nb rfl, nb rfl⟩ rfl ?_
  refine g_iload (pc := 2118) dL_law_2118 rfl ?_
  refine g_icmp_eq (pc := 2120) (tgt := 2125) dL_law_2120 rfl (fun _ => ?_) (fun h2120 => absurd (ht) h2120)
  refine g_iload (pc := 2125) dL_law_2125 rfl ?_
  refine g_if_ne (pc := 2127) (tgt := 2142) dL_law_2127 rfl (fun h2127 => ?_) (fun h2127 => ?_)
  · refine g_goto (pc := 2142) (tgt := 4226) dL_law_2142 rfl ?_
    exact g_sub (lv' := AL o) ⟨rfl, rfl, rfl, rfl, rfl, rfl, trivial⟩ (kont e2)
  · refine g_aload_n (pc := 2130) dL_law_2130 rfl trivial ?_
    refine g_iconst (pc := 2131) (v := 0) dL_law_2131 rfl ?_
    refine g_laload (pc := 2132) dL_law_2132 (shK hM2 rfl) rfl (nb rfl) (nl rfl) ?_
    refine g_iload (pc := 2133) dL_law_2133 rfl ?_
    refine g_i2l (pc := 2135) dL_law_2135 rfl ?_
    refine g_lcmp (pc := 2136) dL_law_2136 ?_
    refine g_if_eq (pc := 2137) (tgt := 2142) dL_law_2137 rfl (fun _ => ?_) (fun h2137 => absurd ((lgc_self (hq (Decidable.not_not.mp h2127)))) h2137)
    refine g_goto (pc := 2142) (tgt := 4226) dL_law_2142 rfl ?_
    exact g_sub (lv' := AL o) ⟨rfl, rfl, rfl, rfl, rfl, rfl, trivial⟩ (kont e2)
set_option maxRecDepth 4000 in
theorem lc_29 {kk : Int32} {b : Int32} (hs : mS M = S) (ho : o + 5 ≤ S.1) (hS9 : S.1 < 2147483648) (hM : Shp M) (hM1 : Shp M1) (hM2 : Shp M2) (h1 : EvR l jL_gained 10 184 3 18 [.ref 0, .int (S.2 (o + 1)), .int (S.2 (o + 2)), .int (S.2 (o + 3)), .ref 212] M (.inl (some (.int kk))) M1) (h2 : EvR l jX7_gained 4 160 0 0 [.ref 198, .int (S.2 (o + 1)), .int (S.2 (o + 2)), .int (S.2 (o + 3))] M1 (.inl (some (.int b))) M2) (ht : mI M2 198 6 = kk) (hq : kk = 0 → mL M2 212 0 = b.toInt64) (kont : mS M2 = S → Go l jL_law 14 538 600002 7302232 Q 4226 (AL o) [] k n M2) : Go l jL_law 14 538 600002 7302232 Q 2145 (AL o) [] (k + 3) (n + 18) M := by
  refine g_aload_n (pc := 2145) dL_law_2145 rfl trivial ?_
  refine g_aload_n (pc := 2146) dL_law_2146 rfl isA_0 ?_
  refine g_iload (pc := 2147) dL_law_2147 rfl ?_
  refine g_iconst (pc := 2149) (v := 1) dL_law_2149 rfl ?_
  refine g_iadd (pc := 2150) dL_law_2150 ?_
  refine g_scriptLoadS (pc := 2151) dL_law_2151 (nI_o1 _) hs (by omega) (by omega) ?_
  refine g_aload_n (pc := 2152) dL_law_2152 rfl isA_0 ?_
  refine g_iload (pc := 2153) dL_law_2153 rfl ?_
  refine g_iconst (pc := 2155) (v := 2) dL_law_2155 rfl ?_
  refine g_iadd (pc := 2156) dL_law_2156 ?_
  refine g_scriptLoadS (pc := 2157) dL_law_2157 (nI_o2 _) hs (by omega) (by omega) ?_
  refine g_aload_n (pc := 2158) dL_law_2158 rfl isA_0 ?_
  refine g_iload (pc := 2159) dL_law_2159 rfl ?_
  refine g_iconst (pc := 2161) (v := 3) dL_law_2161 rfl ?_
  refine g_iadd (pc := 2162) dL_law_2162 ?_
  refine g_scriptLoadS (pc := 2163) dL_law_2163 (nI_o3 _) hs (by omega) (by omega) ?_
  refine g_aload_n (pc := 2164) dL_law_2164 rfl trivial ?_
  refine g_invSX_s (pc := 2165) (As := [_, _, _, _, _]) dL_law_2165 rfl (h1) rfl rfl lk_L_292 rfl (nb rfl) ⟨nb rfl, nb rfl⟩ rfl (fun e1 => ?_)
  have e1 := e1.trans hs
  refine g_istore (pc := 2168) (lv' := [(0, _), (1, _), (2, _), (3, _), (4, _), (5, _), (6, _)]) dL_law_2168 (nl rfl) rfl ?_
  refine g_aload_n (pc := 2170) dL_law_2170 rfl trivial ?_
  refine g_aload_n (pc := 2171) dL_law_2171 rfl isA_0 ?_
  refine g_iload (pc := 2172) dL_law_2172 rfl ?_
  refine g_iconst (pc := 2174) (v := 1) dL_law_2174 rfl ?_
  refine g_iadd (pc := 2175) dL_law_2175 ?_
  refine g_scriptLoadS (pc := 2176) dL_law_2176 (nI_o1 _) e1 (by omega) (by omega) ?_
  refine g_aload_n (pc := 2177) dL_law_2177 rfl isA_0 ?_
  refine g_iload (pc := 2178) dL_law_2178 rfl ?_
  refine g_iconst (pc := 2180) (v := 2) dL_law_2180 rfl ?_
  refine g_iadd (pc := 2181) dL_law_2181 ?_
  refine g_scriptLoadS (pc := 2182) dL_law_2182 (nI_o2 _) e1 (by omega) (by omega) ?_
  refine g_aload_n (pc := 2183) dL_law_2183 rfl isA_0 ?_
  refine g_iload (pc := 2184) dL_law_2184 rfl ?_
  refine g_iconst (pc := 2186) (v := 3) dL_law_2186 rfl ?_
  refine g_iadd (pc := 2187) dL_law_2187 ?_
  refine g_scriptLoadS (pc := 2188) dL_law_2188 (nI_o3 _) e1 (by omega) (by omega) ?_
  refine g_invV_s (pc := 2189) (As := [_, _, _]) dL_law_2189 rfl (h2) rfl rfl (shK hM1 rfl) rfl rfl lk_L_294 rfl (nb rfl) ⟨nb rfl, nb rfl⟩ rfl (fun e2 => ?_)
  have e2 := e2.trans e1
  refine g_istore (pc := 2192) (lv' := [(0, _), (1, _), (2, _), (3, _), (4, _), (5, _), (6, _), (7, _)]) dL_law_2192 (nl rfl) rfl ?_
  refine g_aload_n (pc := 2194) dL_law_2194 rfl trivial ?_
  refine g_invV_r (pc := 2195) (As := []) dL_law_2195 rfl (n_thrown hM2) rfl rfl (shK hM2 rfl) rfl rfl lk_L_212 rfl (nb rfl) ⟨nb rfl, nb rfl⟩ rfl ?_
  refine g_iload (pc := 2198) dL_law_2198 rfl ?_
  refine g_icmp_eq (pc := 2200) (tgt := 2205) dL_law_2200 rfl (fun _ => ?_) (fun h2200 => absurd (ht) h2200)
  refine g_iload (pc := 2205) dL_law_2205 rfl ?_
  refine g_if_ne (pc := 2207) (tgt := 2222) dL_law_2207 rfl (fun h2207 => ?_) (fun h2207 => ?_)
  · refine g_goto (pc := 2222) (tgt := 4226) dL_law_2222 rfl ?_
    exact g_sub (lv' := AL o) ⟨rfl, rfl, rfl, rfl, rfl, rfl, trivial⟩ (kont e2)
  · refine g_aload_n (pc := 2210) dL_law_2210 rfl trivial ?_
    refine g_iconst (pc := 2211) (v := 0) dL_law_2211 rfl ?_
    refine g_laload (pc := 2212) dL_law_2212 (shK hM2 rfl) rfl (nb rfl) (nl rfl) ?_
    refine g_iload (pc := 2213) dL_law_2213 rfl ?_
    refine g_i2l (pc := 2215) dL_law_2215 rfl ?_
    refine g_lcmp (pc := 2216) dL_law_2216 ?_
    refine g_if_eq (pc := 2217) (tgt := 2222) dL_law_2217 rfl (fun _ => ?_) (fun h2217 => absurd ((lgc_self (hq (Decidable.not_not.mp h2207)))) h2217)
    refine g_goto (pc := 2222) (tgt := 4226) dL_law_2222 rfl ?_
    exact g_sub (lv' := AL o) ⟨rfl, rfl, rfl, rfl, rfl, rfl, trivial⟩ (kont e2)
set_option maxRecDepth 4000 in
theorem lc_30 {kk : Int32} {b : Int32} (hs : mS M = S) (ho : o + 5 ≤ S.1) (hS9 : S.1 < 2147483648) (hM : Shp M) (hM1 : Shp M1) (hM2 : Shp M2) (h1 : EvR l jL_lost 10 213 3 18 [.ref 0, .int (S.2 (o + 1)), .int (S.2 (o + 2)), .int (S.2 (o + 3)), .ref 212] M (.inl (some (.int kk))) M1) (h2 : EvR l jX7_lost 4 160 0 0 [.ref 198, .int (S.2 (o + 1)), .int (S.2 (o + 2)), .int (S.2 (o + 3))] M1 (.inl (some (.int b))) M2) (ht : mI M2 198 6 = kk) (hq : kk = 0 → mL M2 212 0 = b.toInt64) (kont : mS M2 = S → Go l jL_law 14 538 600002 7302232 Q 4226 (AL o) [] k n M2) : Go l jL_law 14 538 600002 7302232 Q 2225 (AL o) [] (k + 3) (n + 18) M := by
  refine g_aload_n (pc := 2225) dL_law_2225 rfl trivial ?_
  refine g_aload_n (pc := 2226) dL_law_2226 rfl isA_0 ?_
  refine g_iload (pc := 2227) dL_law_2227 rfl ?_
  refine g_iconst (pc := 2229) (v := 1) dL_law_2229 rfl ?_
  refine g_iadd (pc := 2230) dL_law_2230 ?_
  refine g_scriptLoadS (pc := 2231) dL_law_2231 (nI_o1 _) hs (by omega) (by omega) ?_
  refine g_aload_n (pc := 2232) dL_law_2232 rfl isA_0 ?_
  refine g_iload (pc := 2233) dL_law_2233 rfl ?_
  refine g_iconst (pc := 2235) (v := 2) dL_law_2235 rfl ?_
  refine g_iadd (pc := 2236) dL_law_2236 ?_
  refine g_scriptLoadS (pc := 2237) dL_law_2237 (nI_o2 _) hs (by omega) (by omega) ?_
  refine g_aload_n (pc := 2238) dL_law_2238 rfl isA_0 ?_
  refine g_iload (pc := 2239) dL_law_2239 rfl ?_
  refine g_iconst (pc := 2241) (v := 3) dL_law_2241 rfl ?_
  refine g_iadd (pc := 2242) dL_law_2242 ?_
  refine g_scriptLoadS (pc := 2243) dL_law_2243 (nI_o3 _) hs (by omega) (by omega) ?_
  refine g_aload_n (pc := 2244) dL_law_2244 rfl trivial ?_
  refine g_invSX_s (pc := 2245) (As := [_, _, _, _, _]) dL_law_2245 rfl (h1) rfl rfl lk_L_295 rfl (nb rfl) ⟨nb rfl, nb rfl⟩ rfl (fun e1 => ?_)
  have e1 := e1.trans hs
  refine g_istore (pc := 2248) (lv' := [(0, _), (1, _), (2, _), (3, _), (4, _), (5, _), (6, _)]) dL_law_2248 (nl rfl) rfl ?_
  refine g_aload_n (pc := 2250) dL_law_2250 rfl trivial ?_
  refine g_aload_n (pc := 2251) dL_law_2251 rfl isA_0 ?_
  refine g_iload (pc := 2252) dL_law_2252 rfl ?_
  refine g_iconst (pc := 2254) (v := 1) dL_law_2254 rfl ?_
  refine g_iadd (pc := 2255) dL_law_2255 ?_
  refine g_scriptLoadS (pc := 2256) dL_law_2256 (nI_o1 _) e1 (by omega) (by omega) ?_
  refine g_aload_n (pc := 2257) dL_law_2257 rfl isA_0 ?_
  refine g_iload (pc := 2258) dL_law_2258 rfl ?_
  refine g_iconst (pc := 2260) (v := 2) dL_law_2260 rfl ?_
  refine g_iadd (pc := 2261) dL_law_2261 ?_
  refine g_scriptLoadS (pc := 2262) dL_law_2262 (nI_o2 _) e1 (by omega) (by omega) ?_
  refine g_aload_n (pc := 2263) dL_law_2263 rfl isA_0 ?_
  refine g_iload (pc := 2264) dL_law_2264 rfl ?_
  refine g_iconst (pc := 2266) (v := 3) dL_law_2266 rfl ?_
  refine g_iadd (pc := 2267) dL_law_2267 ?_
  refine g_scriptLoadS (pc := 2268) dL_law_2268 (nI_o3 _) e1 (by omega) (by omega) ?_
  refine g_invV_s (pc := 2269) (As := [_, _, _]) dL_law_2269 rfl (h2) rfl rfl (shK hM1 rfl) rfl rfl lk_L_297 rfl (nb rfl) ⟨nb rfl, nb rfl⟩ rfl (fun e2 => ?_)
  have e2 := e2.trans e1
  refine g_istore (pc := 2272) (lv' := [(0, _), (1, _), (2, _), (3, _), (4, _), (5, _), (6, _), (7, _)]) dL_law_2272 (nl rfl) rfl ?_
  refine g_aload_n (pc := 2274) dL_law_2274 rfl trivial ?_
  refine g_invV_r (pc := 2275) (As := []) dL_law_2275 rfl (n_thrown hM2) rfl rfl (shK hM2 rfl) rfl rfl lk_L_212 rfl (nb rfl) ⟨nb rfl, nb rfl⟩ rfl ?_
  refine g_iload (pc := 2278) dL_law_2278 rfl ?_
  refine g_icmp_eq (pc := 2280) (tgt := 2285) dL_law_2280 rfl (fun _ => ?_) (fun h2280 => absurd (ht) h2280)
  refine g_iload (pc := 2285) dL_law_2285 rfl ?_
  refine g_if_ne (pc := 2287) (tgt := 2302) dL_law_2287 rfl (fun h2287 => ?_) (fun h2287 => ?_)
  · refine g_goto (pc := 2302) (tgt := 4226) dL_law_2302 rfl ?_
    exact g_sub (lv' := AL o) ⟨rfl, rfl, rfl, rfl, rfl, rfl, trivial⟩ (kont e2)
  · refine g_aload_n (pc := 2290) dL_law_2290 rfl trivial ?_
    refine g_iconst (pc := 2291) (v := 0) dL_law_2291 rfl ?_
    refine g_laload (pc := 2292) dL_law_2292 (shK hM2 rfl) rfl (nb rfl) (nl rfl) ?_
    refine g_iload (pc := 2293) dL_law_2293 rfl ?_
    refine g_i2l (pc := 2295) dL_law_2295 rfl ?_
    refine g_lcmp (pc := 2296) dL_law_2296 ?_
    refine g_if_eq (pc := 2297) (tgt := 2302) dL_law_2297 rfl (fun _ => ?_) (fun h2297 => absurd ((lgc_self (hq (Decidable.not_not.mp h2287)))) h2297)
    refine g_goto (pc := 2302) (tgt := 4226) dL_law_2302 rfl ?_
    exact g_sub (lv' := AL o) ⟨rfl, rfl, rfl, rfl, rfl, rfl, trivial⟩ (kont e2)
set_option maxRecDepth 4000 in
theorem lc_31 {kk : Int32} {b : Int32} (hs : mS M = S) (ho : o + 5 ≤ S.1) (hS9 : S.1 < 2147483648) (hM : Shp M) (hM1 : Shp M1) (hM2 : Shp M2) (h1 : EvR l jL_bestEdge 8 169 1 6 [.ref 0, .int (S.2 (o + 1)), .ref 212] M (.inl (some (.int kk))) M1) (h2 : EvR l jX7_bestEdge 5 160 0 0 [.ref 198, .int (S.2 (o + 1))] M1 (.inl (some (.int b))) M2) (ht : mI M2 198 6 = kk) (hq : kk = 0 → mL M2 212 0 = b.toInt64) (kont : mS M2 = S → Go l jL_law 14 538 600002 7302232 Q 4226 (AL o) [] k n M2) : Go l jL_law 14 538 600002 7302232 Q 2305 (AL o) [] (k + 1) (n + 6) M := by
  refine g_aload_n (pc := 2305) dL_law_2305 rfl trivial ?_
  refine g_aload_n (pc := 2306) dL_law_2306 rfl isA_0 ?_
  refine g_iload (pc := 2307) dL_law_2307 rfl ?_
  refine g_iconst (pc := 2309) (v := 1) dL_law_2309 rfl ?_
  refine g_iadd (pc := 2310) dL_law_2310 ?_
  refine g_scriptLoadS (pc := 2311) dL_law_2311 (nI_o1 _) hs (by omega) (by omega) ?_
  refine g_aload_n (pc := 2312) dL_law_2312 rfl trivial ?_
  refine g_invSX_s (pc := 2313) (As := [_, _, _]) dL_law_2313 rfl (h1) rfl rfl lk_L_298 rfl (nb rfl) ⟨nb rfl, nb rfl⟩ rfl (fun e1 => ?_)
  have e1 := e1.trans hs
  refine g_istore (pc := 2316) (lv' := [(0, _), (1, _), (2, _), (3, _), (4, _), (5, _), (6, _)]) dL_law_2316 (nl rfl) rfl ?_
  refine g_aload_n (pc := 2318) dL_law_2318 rfl trivial ?_
  refine g_aload_n (pc := 2319) dL_law_2319 rfl isA_0 ?_
  refine g_iload (pc := 2320) dL_law_2320 rfl ?_
  refine g_iconst (pc := 2322) (v := 1) dL_law_2322 rfl ?_
  refine g_iadd (pc := 2323) dL_law_2323 ?_
  refine g_scriptLoadS (pc := 2324) dL_law_2324 (nI_o1 _) e1 (by omega) (by omega) ?_
  refine g_invV_s (pc := 2325) (As := [_]) dL_law_2325 rfl (h2) rfl rfl (shK hM1 rfl) rfl rfl lk_L_300 rfl (nb rfl) ⟨nb rfl, nb rfl⟩ rfl (fun e2 => ?_)
  have e2 := e2.trans e1
  refine g_istore (pc := 2328) (lv' := [(0, _), (1, _), (2, _), (3, _), (4, _), (5, _), (6, _), (7, _)]) dL_law_2328 (nl rfl) rfl ?_
  refine g_aload_n (pc := 2330) dL_law_2330 rfl trivial ?_
  refine g_invV_r (pc := 2331) (As := []) dL_law_2331 rfl (n_thrown hM2) rfl rfl (shK hM2 rfl) rfl rfl lk_L_212 rfl (nb rfl) ⟨nb rfl, nb rfl⟩ rfl ?_
  refine g_iload (pc := 2334) dL_law_2334 rfl ?_
  refine g_icmp_eq (pc := 2336) (tgt := 2341) dL_law_2336 rfl (fun _ => ?_) (fun h2336 => absurd (ht) h2336)
  refine g_iload (pc := 2341) dL_law_2341 rfl ?_
  refine g_if_ne (pc := 2343) (tgt := 2358) dL_law_2343 rfl (fun h2343 => ?_) (fun h2343 => ?_)
  · refine g_goto (pc := 2358) (tgt := 4226) dL_law_2358 rfl ?_
    exact g_sub (lv' := AL o) ⟨rfl, rfl, rfl, rfl, rfl, rfl, trivial⟩ (kont e2)
  · refine g_aload_n (pc := 2346) dL_law_2346 rfl trivial ?_
    refine g_iconst (pc := 2347) (v := 0) dL_law_2347 rfl ?_
    refine g_laload (pc := 2348) dL_law_2348 (shK hM2 rfl) rfl (nb rfl) (nl rfl) ?_
    refine g_iload (pc := 2349) dL_law_2349 rfl ?_
    refine g_i2l (pc := 2351) dL_law_2351 rfl ?_
    refine g_lcmp (pc := 2352) dL_law_2352 ?_
    refine g_if_eq (pc := 2353) (tgt := 2358) dL_law_2353 rfl (fun _ => ?_) (fun h2353 => absurd ((lgc_self (hq (Decidable.not_not.mp h2343)))) h2353)
    refine g_goto (pc := 2358) (tgt := 4226) dL_law_2358 rfl ?_
    exact g_sub (lv' := AL o) ⟨rfl, rfl, rfl, rfl, rfl, rfl, trivial⟩ (kont e2)
set_option maxRecDepth 4000 in
theorem lc_32 {kk : Int32} {b : Int32} (hs : mS M = S) (ho : o + 5 ≤ S.1) (hS9 : S.1 < 2147483648) (hM : Shp M) (hM1 : Shp M1) (hM2 : Shp M2) (h1 : EvR l jL_weakest 8 217 1 6 [.ref 0, .int (S.2 (o + 1)), .ref 212] M (.inl (some (.int kk))) M1) (h2 : EvR l jX7_weakest 5 160 0 0 [.ref 198, .int (S.2 (o + 1))] M1 (.inl (some (.int b))) M2) (ht : mI M2 198 6 = kk) (hq : kk = 0 → mL M2 212 0 = b.toInt64) (kont : mS M2 = S → Go l jL_law 14 538 600002 7302232 Q 4226 (AL o) [] k n M2) : Go l jL_law 14 538 600002 7302232 Q 2361 (AL o) [] (k + 1) (n + 6) M := by
  refine g_aload_n (pc := 2361) dL_law_2361 rfl trivial ?_
  refine g_aload_n (pc := 2362) dL_law_2362 rfl isA_0 ?_
  refine g_iload (pc := 2363) dL_law_2363 rfl ?_
  refine g_iconst (pc := 2365) (v := 1) dL_law_2365 rfl ?_
  refine g_iadd (pc := 2366) dL_law_2366 ?_
  refine g_scriptLoadS (pc := 2367) dL_law_2367 (nI_o1 _) hs (by omega) (by omega) ?_
  refine g_aload_n (pc := 2368) dL_law_2368 rfl trivial ?_
  refine g_invSX_s (pc := 2369) (As := [_, _, _]) dL_law_2369 rfl (h1) rfl rfl lk_L_301 rfl (nb rfl) ⟨nb rfl, nb rfl⟩ rfl (fun e1 => ?_)
  have e1 := e1.trans hs
  refine g_istore (pc := 2372) (lv' := [(0, _), (1, _), (2, _), (3, _), (4, _), (5, _), (6, _)]) dL_law_2372 (nl rfl) rfl ?_
  refine g_aload_n (pc := 2374) dL_law_2374 rfl trivial ?_
  refine g_aload_n (pc := 2375) dL_law_2375 rfl isA_0 ?_
  refine g_iload (pc := 2376) dL_law_2376 rfl ?_
  refine g_iconst (pc := 2378) (v := 1) dL_law_2378 rfl ?_
  refine g_iadd (pc := 2379) dL_law_2379 ?_
  refine g_scriptLoadS (pc := 2380) dL_law_2380 (nI_o1 _) e1 (by omega) (by omega) ?_
  refine g_invV_s (pc := 2381) (As := [_]) dL_law_2381 rfl (h2) rfl rfl (shK hM1 rfl) rfl rfl lk_L_303 rfl (nb rfl) ⟨nb rfl, nb rfl⟩ rfl (fun e2 => ?_)
  have e2 := e2.trans e1
  refine g_istore (pc := 2384) (lv' := [(0, _), (1, _), (2, _), (3, _), (4, _), (5, _), (6, _), (7, _)]) dL_law_2384 (nl rfl) rfl ?_
  refine g_aload_n (pc := 2386) dL_law_2386 rfl trivial ?_
  refine g_invV_r (pc := 2387) (As := []) dL_law_2387 rfl (n_thrown hM2) rfl rfl (shK hM2 rfl) rfl rfl lk_L_212 rfl (nb rfl) ⟨nb rfl, nb rfl⟩ rfl ?_
  refine g_iload (pc := 2390) dL_law_2390 rfl ?_
  refine g_icmp_eq (pc := 2392) (tgt := 2397) dL_law_2392 rfl (fun _ => ?_) (fun h2392 => absurd (ht) h2392)
  refine g_iload (pc := 2397) dL_law_2397 rfl ?_
  refine g_if_ne (pc := 2399) (tgt := 2414) dL_law_2399 rfl (fun h2399 => ?_) (fun h2399 => ?_)
  · refine g_goto (pc := 2414) (tgt := 4226) dL_law_2414 rfl ?_
    exact g_sub (lv' := AL o) ⟨rfl, rfl, rfl, rfl, rfl, rfl, trivial⟩ (kont e2)
  · refine g_aload_n (pc := 2402) dL_law_2402 rfl trivial ?_
    refine g_iconst (pc := 2403) (v := 0) dL_law_2403 rfl ?_
    refine g_laload (pc := 2404) dL_law_2404 (shK hM2 rfl) rfl (nb rfl) (nl rfl) ?_
    refine g_iload (pc := 2405) dL_law_2405 rfl ?_
    refine g_i2l (pc := 2407) dL_law_2407 rfl ?_
    refine g_lcmp (pc := 2408) dL_law_2408 ?_
    refine g_if_eq (pc := 2409) (tgt := 2414) dL_law_2409 rfl (fun _ => ?_) (fun h2409 => absurd ((lgc_self (hq (Decidable.not_not.mp h2399)))) h2409)
    refine g_goto (pc := 2414) (tgt := 4226) dL_law_2414 rfl ?_
    exact g_sub (lv' := AL o) ⟨rfl, rfl, rfl, rfl, rfl, rfl, trivial⟩ (kont e2)
set_option maxRecDepth 4000 in
theorem lc_33 {kk : Int32} {b : Int32} (hs : mS M = S) (ho : o + 5 ≤ S.1) (hS9 : S.1 < 2147483648) (hM : Shp M) (hM1 : Shp M1) (hM2 : Shp M2) (h1 : EvR l jL_triangles 8 146 1 6 [.ref 0, .int (S.2 (o + 1)), .ref 212] M (.inl (some (.int kk))) M1) (h2 : EvR l jX7_triangles 4 160 0 0 [.ref 198, .int (S.2 (o + 1))] M1 (.inl (some (.int b))) M2) (ht : mI M2 198 6 = kk) (hq : kk = 0 → mL M2 212 0 = b.toInt64) (kont : mS M2 = S → Go l jL_law 14 538 600002 7302232 Q 4226 (AL o) [] k n M2) : Go l jL_law 14 538 600002 7302232 Q 2417 (AL o) [] (k + 1) (n + 6) M := by
  refine g_aload_n (pc := 2417) dL_law_2417 rfl trivial ?_
  refine g_aload_n (pc := 2418) dL_law_2418 rfl isA_0 ?_
  refine g_iload (pc := 2419) dL_law_2419 rfl ?_
  refine g_iconst (pc := 2421) (v := 1) dL_law_2421 rfl ?_
  refine g_iadd (pc := 2422) dL_law_2422 ?_
  refine g_scriptLoadS (pc := 2423) dL_law_2423 (nI_o1 _) hs (by omega) (by omega) ?_
  refine g_aload_n (pc := 2424) dL_law_2424 rfl trivial ?_
  refine g_invSX_s (pc := 2425) (As := [_, _, _]) dL_law_2425 rfl (h1) rfl rfl lk_L_304 rfl (nb rfl) ⟨nb rfl, nb rfl⟩ rfl (fun e1 => ?_)
  have e1 := e1.trans hs
  refine g_istore (pc := 2428) (lv' := [(0, _), (1, _), (2, _), (3, _), (4, _), (5, _), (6, _)]) dL_law_2428 (nl rfl) rfl ?_
  refine g_aload_n (pc := 2430) dL_law_2430 rfl trivial ?_
  refine g_aload_n (pc := 2431) dL_law_2431 rfl isA_0 ?_
  refine g_iload (pc := 2432) dL_law_2432 rfl ?_
  refine g_iconst (pc := 2434) (v := 1) dL_law_2434 rfl ?_
  refine g_iadd (pc := 2435) dL_law_2435 ?_
  refine g_scriptLoadS (pc := 2436) dL_law_2436 (nI_o1 _) e1 (by omega) (by omega) ?_
  refine g_invV_s (pc := 2437) (As := [_]) dL_law_2437 rfl (h2) rfl rfl (shK hM1 rfl) rfl rfl lk_L_306 rfl (nb rfl) ⟨nb rfl, nb rfl⟩ rfl (fun e2 => ?_)
  have e2 := e2.trans e1
  refine g_istore (pc := 2440) (lv' := [(0, _), (1, _), (2, _), (3, _), (4, _), (5, _), (6, _), (7, _)]) dL_law_2440 (nl rfl) rfl ?_
  refine g_aload_n (pc := 2442) dL_law_2442 rfl trivial ?_
  refine g_invV_r (pc := 2443) (As := []) dL_law_2443 rfl (n_thrown hM2) rfl rfl (shK hM2 rfl) rfl rfl lk_L_212 rfl (nb rfl) ⟨nb rfl, nb rfl⟩ rfl ?_
  refine g_iload (pc := 2446) dL_law_2446 rfl ?_
  refine g_icmp_eq (pc := 2448) (tgt := 2453) dL_law_2448 rfl (fun _ => ?_) (fun h2448 => absurd (ht) h2448)
  refine g_iload (pc := 2453) dL_law_2453 rfl ?_
  refine g_if_ne (pc := 2455) (tgt := 2470) dL_law_2455 rfl (fun h2455 => ?_) (fun h2455 => ?_)
  · refine g_goto (pc := 2470) (tgt := 4226) dL_law_2470 rfl ?_
    exact g_sub (lv' := AL o) ⟨rfl, rfl, rfl, rfl, rfl, rfl, trivial⟩ (kont e2)
  · refine g_aload_n (pc := 2458) dL_law_2458 rfl trivial ?_
    refine g_iconst (pc := 2459) (v := 0) dL_law_2459 rfl ?_
    refine g_laload (pc := 2460) dL_law_2460 (shK hM2 rfl) rfl (nb rfl) (nl rfl) ?_
    refine g_iload (pc := 2461) dL_law_2461 rfl ?_
    refine g_i2l (pc := 2463) dL_law_2463 rfl ?_
    refine g_lcmp (pc := 2464) dL_law_2464 ?_
    refine g_if_eq (pc := 2465) (tgt := 2470) dL_law_2465 rfl (fun _ => ?_) (fun h2465 => absurd ((lgc_self (hq (Decidable.not_not.mp h2455)))) h2465)
    refine g_goto (pc := 2470) (tgt := 4226) dL_law_2470 rfl ?_
    exact g_sub (lv' := AL o) ⟨rfl, rfl, rfl, rfl, rfl, rfl, trivial⟩ (kont e2)
set_option maxRecDepth 4000 in
theorem lc_34 {kk : Int32} {b : Int32} (hs : mS M = S) (ho : o + 5 ≤ S.1) (hS9 : S.1 < 2147483648) (hM : Shp M) (hM1 : Shp M1) (hM2 : Shp M2) (h1 : EvR l jL_fieldRank 8 171 1 6 [.ref 0, .int (S.2 (o + 1)), .ref 212] M (.inl (some (.int kk))) M1) (h2 : EvR l jX7_fieldRank 4 160 0 0 [.ref 198, .int (S.2 (o + 1))] M1 (.inl (some (.int b))) M2) (ht : mI M2 198 6 = kk) (hq : kk = 0 → mL M2 212 0 = b.toInt64) (kont : mS M2 = S → Go l jL_law 14 538 600002 7302232 Q 4226 (AL o) [] k n M2) : Go l jL_law 14 538 600002 7302232 Q 2473 (AL o) [] (k + 1) (n + 6) M := by
  refine g_aload_n (pc := 2473) dL_law_2473 rfl trivial ?_
  refine g_aload_n (pc := 2474) dL_law_2474 rfl isA_0 ?_
  refine g_iload (pc := 2475) dL_law_2475 rfl ?_
  refine g_iconst (pc := 2477) (v := 1) dL_law_2477 rfl ?_
  refine g_iadd (pc := 2478) dL_law_2478 ?_
  refine g_scriptLoadS (pc := 2479) dL_law_2479 (nI_o1 _) hs (by omega) (by omega) ?_
  refine g_aload_n (pc := 2480) dL_law_2480 rfl trivial ?_
  refine g_invSX_s (pc := 2481) (As := [_, _, _]) dL_law_2481 rfl (h1) rfl rfl lk_L_307 rfl (nb rfl) ⟨nb rfl, nb rfl⟩ rfl (fun e1 => ?_)
  have e1 := e1.trans hs
  refine g_istore (pc := 2484) (lv' := [(0, _), (1, _), (2, _), (3, _), (4, _), (5, _), (6, _)]) dL_law_2484 (nl rfl) rfl ?_
  refine g_aload_n (pc := 2486) dL_law_2486 rfl trivial ?_
  refine g_aload_n (pc := 2487) dL_law_2487 rfl isA_0 ?_
  refine g_iload (pc := 2488) dL_law_2488 rfl ?_
  refine g_iconst (pc := 2490) (v := 1) dL_law_2490 rfl ?_
  refine g_iadd (pc := 2491) dL_law_2491 ?_
  refine g_scriptLoadS (pc := 2492) dL_law_2492 (nI_o1 _) e1 (by omega) (by omega) ?_
  refine g_invV_s (pc := 2493) (As := [_]) dL_law_2493 rfl (h2) rfl rfl (shK hM1 rfl) rfl rfl lk_L_309 rfl (nb rfl) ⟨nb rfl, nb rfl⟩ rfl (fun e2 => ?_)
  have e2 := e2.trans e1
  refine g_istore (pc := 2496) (lv' := [(0, _), (1, _), (2, _), (3, _), (4, _), (5, _), (6, _), (7, _)]) dL_law_2496 (nl rfl) rfl ?_
  refine g_aload_n (pc := 2498) dL_law_2498 rfl trivial ?_
  refine g_invV_r (pc := 2499) (As := []) dL_law_2499 rfl (n_thrown hM2) rfl rfl (shK hM2 rfl) rfl rfl lk_L_212 rfl (nb rfl) ⟨nb rfl, nb rfl⟩ rfl ?_
  refine g_iload (pc := 2502) dL_law_2502 rfl ?_
  refine g_icmp_eq (pc := 2504) (tgt := 2509) dL_law_2504 rfl (fun _ => ?_) (fun h2504 => absurd (ht) h2504)
  refine g_iload (pc := 2509) dL_law_2509 rfl ?_
  refine g_if_ne (pc := 2511) (tgt := 2526) dL_law_2511 rfl (fun h2511 => ?_) (fun h2511 => ?_)
  · refine g_goto (pc := 2526) (tgt := 4226) dL_law_2526 rfl ?_
    exact g_sub (lv' := AL o) ⟨rfl, rfl, rfl, rfl, rfl, rfl, trivial⟩ (kont e2)
  · refine g_aload_n (pc := 2514) dL_law_2514 rfl trivial ?_
    refine g_iconst (pc := 2515) (v := 0) dL_law_2515 rfl ?_
    refine g_laload (pc := 2516) dL_law_2516 (shK hM2 rfl) rfl (nb rfl) (nl rfl) ?_
    refine g_iload (pc := 2517) dL_law_2517 rfl ?_
    refine g_i2l (pc := 2519) dL_law_2519 rfl ?_
    refine g_lcmp (pc := 2520) dL_law_2520 ?_
    refine g_if_eq (pc := 2521) (tgt := 2526) dL_law_2521 rfl (fun _ => ?_) (fun h2521 => absurd ((lgc_self (hq (Decidable.not_not.mp h2511)))) h2521)
    refine g_goto (pc := 2526) (tgt := 4226) dL_law_2526 rfl ?_
    exact g_sub (lv' := AL o) ⟨rfl, rfl, rfl, rfl, rfl, rfl, trivial⟩ (kont e2)
set_option maxRecDepth 4000 in
theorem lc_35 {kk : Int32} {b : Int64} (hs : mS M = S) (ho : o + 5 ≤ S.1) (hS9 : S.1 < 2147483648) (hM : Shp M) (hM1 : Shp M1) (hM2 : Shp M2) (h1 : EvR l jL_solve 8 173 1 6 [.ref 0, .int (S.2 (o + 1)), .long (l2 (S.2 (o + 2)) (S.2 (o + 3))), .ref 212] M (.inl (some (.int kk))) M1) (h2 : EvR l jX7_solve 4 160 0 0 [.ref 198, .int (S.2 (o + 1)), .long (l2 (S.2 (o + 2)) (S.2 (o + 3)))] M1 (.inl (some (.long b))) M2) (ht : mI M2 198 6 = kk) (hq : kk = 0 → mL M2 212 0 = b) (kont : mS M2 = S → Go l jL_law 14 538 600002 7302232 Q 4226 (AL o) [] k n M2) : Go l jL_law 14 538 600002 7302232 Q 2529 (AL o) [] (k + 1) (n + 6) M := by
  refine g_aload_n (pc := 2529) dL_law_2529 rfl trivial ?_
  refine g_aload_n (pc := 2530) dL_law_2530 rfl isA_0 ?_
  refine g_iload (pc := 2531) dL_law_2531 rfl ?_
  refine g_iconst (pc := 2533) (v := 1) dL_law_2533 rfl ?_
  refine g_iadd (pc := 2534) dL_law_2534 ?_
  refine g_scriptLoadS (pc := 2535) dL_law_2535 (nI_o1 _) hs (by omega) (by omega) ?_
  refine g_aload_n (pc := 2536) dL_law_2536 rfl isA_0 ?_
  refine g_iload (pc := 2537) dL_law_2537 rfl ?_
  refine g_iconst (pc := 2539) (v := 2) dL_law_2539 rfl ?_
  refine g_iadd (pc := 2540) dL_law_2540 ?_
  refine g_scriptLoadS (pc := 2541) dL_law_2541 (nI_o2 _) hs (by omega) (by omega) ?_
  refine g_i2l (pc := 2542) dL_law_2542 rfl ?_
  refine g_bipush (pc := 2543) (v := 32) dL_law_2543 rfl ?_
  refine g_lshl (pc := 2545) dL_law_2545 rfl ?_
  refine g_aload_n (pc := 2546) dL_law_2546 rfl isA_0 ?_
  refine g_iload (pc := 2547) dL_law_2547 rfl ?_
  refine g_iconst (pc := 2549) (v := 3) dL_law_2549 rfl ?_
  refine g_iadd (pc := 2550) dL_law_2550 ?_
  refine g_scriptLoadS (pc := 2551) dL_law_2551 (nI_o3 _) hs (by omega) (by omega) ?_
  refine g_i2l (pc := 2552) dL_law_2552 rfl ?_
  refine g_ldc2 (pc := 2553) dL_law_2553 wd_1783 ?_
  refine g_land (pc := 2556) dL_law_2556 ?_
  refine g_lor (pc := 2557) dL_law_2557 ?_
  refine g_aload_n (pc := 2558) dL_law_2558 rfl trivial ?_
  refine g_invSX_s (pc := 2559) (As := [_, _, _, _]) dL_law_2559 rfl (h1) rfl rfl lk_L_310 rfl (nb rfl) ⟨nb rfl, nb rfl⟩ rfl (fun e1 => ?_)
  have e1 := e1.trans hs
  refine g_istore (pc := 2562) (lv' := [(0, _), (1, _), (2, _), (3, _), (4, _), (5, _), (6, _)]) dL_law_2562 (nl rfl) rfl ?_
  refine g_aload_n (pc := 2564) dL_law_2564 rfl trivial ?_
  refine g_aload_n (pc := 2565) dL_law_2565 rfl isA_0 ?_
  refine g_iload (pc := 2566) dL_law_2566 rfl ?_
  refine g_iconst (pc := 2568) (v := 1) dL_law_2568 rfl ?_
  refine g_iadd (pc := 2569) dL_law_2569 ?_
  refine g_scriptLoadS (pc := 2570) dL_law_2570 (nI_o1 _) e1 (by omega) (by omega) ?_
  refine g_aload_n (pc := 2571) dL_law_2571 rfl isA_0 ?_
  refine g_iload (pc := 2572) dL_law_2572 rfl ?_
  refine g_iconst (pc := 2574) (v := 2) dL_law_2574 rfl ?_
  refine g_iadd (pc := 2575) dL_law_2575 ?_
  refine g_scriptLoadS (pc := 2576) dL_law_2576 (nI_o2 _) e1 (by omega) (by omega) ?_
  refine g_i2l (pc := 2577) dL_law_2577 rfl ?_
  refine g_bipush (pc := 2578) (v := 32) dL_law_2578 rfl ?_
  refine g_lshl (pc := 2580) dL_law_2580 rfl ?_
  refine g_aload_n (pc := 2581) dL_law_2581 rfl isA_0 ?_
  refine g_iload (pc := 2582) dL_law_2582 rfl ?_
  refine g_iconst (pc := 2584) (v := 3) dL_law_2584 rfl ?_
  refine g_iadd (pc := 2585) dL_law_2585 ?_
  refine g_scriptLoadS (pc := 2586) dL_law_2586 (nI_o3 _) e1 (by omega) (by omega) ?_
  refine g_i2l (pc := 2587) dL_law_2587 rfl ?_
  refine g_ldc2 (pc := 2588) dL_law_2588 wd_1783 ?_
  refine g_land (pc := 2591) dL_law_2591 ?_
  refine g_lor (pc := 2592) dL_law_2592 ?_
  refine g_invV_s (pc := 2593) (As := [_, _]) dL_law_2593 rfl (h2) rfl rfl (shK hM1 rfl) rfl rfl lk_L_312 rfl (nb rfl) ⟨nb rfl, nb rfl⟩ rfl (fun e2 => ?_)
  have e2 := e2.trans e1
  refine g_lstore (pc := 2596) (lv' := [(0, _), (1, _), (2, _), (3, _), (4, _), (5, _), (6, _), (7, _)]) dL_law_2596 (nl rfl) rfl ?_
  refine g_aload_n (pc := 2598) dL_law_2598 rfl trivial ?_
  refine g_invV_r (pc := 2599) (As := []) dL_law_2599 rfl (n_thrown hM2) rfl rfl (shK hM2 rfl) rfl rfl lk_L_212 rfl (nb rfl) ⟨nb rfl, nb rfl⟩ rfl ?_
  refine g_iload (pc := 2602) dL_law_2602 rfl ?_
  refine g_icmp_eq (pc := 2604) (tgt := 2609) dL_law_2604 rfl (fun _ => ?_) (fun h2604 => absurd (ht) h2604)
  refine g_iload (pc := 2609) dL_law_2609 rfl ?_
  refine g_if_ne (pc := 2611) (tgt := 2625) dL_law_2611 rfl (fun h2611 => ?_) (fun h2611 => ?_)
  · refine g_goto (pc := 2625) (tgt := 4226) dL_law_2625 rfl ?_
    exact g_sub (lv' := AL o) ⟨rfl, rfl, rfl, rfl, rfl, rfl, trivial⟩ (kont e2)
  · refine g_aload_n (pc := 2614) dL_law_2614 rfl trivial ?_
    refine g_iconst (pc := 2615) (v := 0) dL_law_2615 rfl ?_
    refine g_laload (pc := 2616) dL_law_2616 (shK hM2 rfl) rfl (nb rfl) (nl rfl) ?_
    refine g_lload (pc := 2617) dL_law_2617 rfl ?_
    refine g_lcmp (pc := 2619) dL_law_2619 ?_
    refine g_if_eq (pc := 2620) (tgt := 2625) dL_law_2620 rfl (fun _ => ?_) (fun h2620 => absurd ((lgc_self (hq (Decidable.not_not.mp h2611)))) h2620)
    refine g_goto (pc := 2625) (tgt := 4226) dL_law_2625 rfl ?_
    exact g_sub (lv' := AL o) ⟨rfl, rfl, rfl, rfl, rfl, rfl, trivial⟩ (kont e2)
set_option maxRecDepth 4000 in
theorem lc_36 {kk : Int32} {b : Int32} (hs : mS M = S) (ho : o + 5 ≤ S.1) (hS9 : S.1 < 2147483648) (hM : Shp M) (hM1 : Shp M1) (hM2 : Shp M2) (h1 : EvR l jL_freedom 8 173 1 6 [.ref 0, .int (S.2 (o + 1)), .long (l2 (S.2 (o + 2)) (S.2 (o + 3))), .ref 212] M (.inl (some (.int kk))) M1) (h2 : EvR l jX7_freedom 4 160 0 0 [.ref 198, .int (S.2 (o + 1)), .long (l2 (S.2 (o + 2)) (S.2 (o + 3)))] M1 (.inl (some (.int b))) M2) (ht : mI M2 198 6 = kk) (hq : kk = 0 → mL M2 212 0 = b.toInt64) (kont : mS M2 = S → Go l jL_law 14 538 600002 7302232 Q 4226 (AL o) [] k n M2) : Go l jL_law 14 538 600002 7302232 Q 2628 (AL o) [] (k + 1) (n + 6) M := by
  refine g_aload_n (pc := 2628) dL_law_2628 rfl trivial ?_
  refine g_aload_n (pc := 2629) dL_law_2629 rfl isA_0 ?_
  refine g_iload (pc := 2630) dL_law_2630 rfl ?_
  refine g_iconst (pc := 2632) (v := 1) dL_law_2632 rfl ?_
  refine g_iadd (pc := 2633) dL_law_2633 ?_
  refine g_scriptLoadS (pc := 2634) dL_law_2634 (nI_o1 _) hs (by omega) (by omega) ?_
  refine g_aload_n (pc := 2635) dL_law_2635 rfl isA_0 ?_
  refine g_iload (pc := 2636) dL_law_2636 rfl ?_
  refine g_iconst (pc := 2638) (v := 2) dL_law_2638 rfl ?_
  refine g_iadd (pc := 2639) dL_law_2639 ?_
  refine g_scriptLoadS (pc := 2640) dL_law_2640 (nI_o2 _) hs (by omega) (by omega) ?_
  refine g_i2l (pc := 2641) dL_law_2641 rfl ?_
  refine g_bipush (pc := 2642) (v := 32) dL_law_2642 rfl ?_
  refine g_lshl (pc := 2644) dL_law_2644 rfl ?_
  refine g_aload_n (pc := 2645) dL_law_2645 rfl isA_0 ?_
  refine g_iload (pc := 2646) dL_law_2646 rfl ?_
  refine g_iconst (pc := 2648) (v := 3) dL_law_2648 rfl ?_
  refine g_iadd (pc := 2649) dL_law_2649 ?_
  refine g_scriptLoadS (pc := 2650) dL_law_2650 (nI_o3 _) hs (by omega) (by omega) ?_
  refine g_i2l (pc := 2651) dL_law_2651 rfl ?_
  refine g_ldc2 (pc := 2652) dL_law_2652 wd_1783 ?_
  refine g_land (pc := 2655) dL_law_2655 ?_
  refine g_lor (pc := 2656) dL_law_2656 ?_
  refine g_aload_n (pc := 2657) dL_law_2657 rfl trivial ?_
  refine g_invSX_s (pc := 2658) (As := [_, _, _, _]) dL_law_2658 rfl (h1) rfl rfl lk_L_313 rfl (nb rfl) ⟨nb rfl, nb rfl⟩ rfl (fun e1 => ?_)
  have e1 := e1.trans hs
  refine g_istore (pc := 2661) (lv' := [(0, _), (1, _), (2, _), (3, _), (4, _), (5, _), (6, _)]) dL_law_2661 (nl rfl) rfl ?_
  refine g_aload_n (pc := 2663) dL_law_2663 rfl trivial ?_
  refine g_aload_n (pc := 2664) dL_law_2664 rfl isA_0 ?_
  refine g_iload (pc := 2665) dL_law_2665 rfl ?_
  refine g_iconst (pc := 2667) (v := 1) dL_law_2667 rfl ?_
  refine g_iadd (pc := 2668) dL_law_2668 ?_
  refine g_scriptLoadS (pc := 2669) dL_law_2669 (nI_o1 _) e1 (by omega) (by omega) ?_
  refine g_aload_n (pc := 2670) dL_law_2670 rfl isA_0 ?_
  refine g_iload (pc := 2671) dL_law_2671 rfl ?_
  refine g_iconst (pc := 2673) (v := 2) dL_law_2673 rfl ?_
  refine g_iadd (pc := 2674) dL_law_2674 ?_
  refine g_scriptLoadS (pc := 2675) dL_law_2675 (nI_o2 _) e1 (by omega) (by omega) ?_
  refine g_i2l (pc := 2676) dL_law_2676 rfl ?_
  refine g_bipush (pc := 2677) (v := 32) dL_law_2677 rfl ?_
  refine g_lshl (pc := 2679) dL_law_2679 rfl ?_
  refine g_aload_n (pc := 2680) dL_law_2680 rfl isA_0 ?_
  refine g_iload (pc := 2681) dL_law_2681 rfl ?_
  refine g_iconst (pc := 2683) (v := 3) dL_law_2683 rfl ?_
  refine g_iadd (pc := 2684) dL_law_2684 ?_
  refine g_scriptLoadS (pc := 2685) dL_law_2685 (nI_o3 _) e1 (by omega) (by omega) ?_
  refine g_i2l (pc := 2686) dL_law_2686 rfl ?_
  refine g_ldc2 (pc := 2687) dL_law_2687 wd_1783 ?_
  refine g_land (pc := 2690) dL_law_2690 ?_
  refine g_lor (pc := 2691) dL_law_2691 ?_
  refine g_invV_s (pc := 2692) (As := [_, _]) dL_law_2692 rfl (h2) rfl rfl (shK hM1 rfl) rfl rfl lk_L_315 rfl (nb rfl) ⟨nb rfl, nb rfl⟩ rfl (fun e2 => ?_)
  have e2 := e2.trans e1
  refine g_istore (pc := 2695) (lv' := [(0, _), (1, _), (2, _), (3, _), (4, _), (5, _), (6, _), (7, _)]) dL_law_2695 (nl rfl) rfl ?_
  refine g_aload_n (pc := 2697) dL_law_2697 rfl trivial ?_
  refine g_invV_r (pc := 2698) (As := []) dL_law_2698 rfl (n_thrown hM2) rfl rfl (shK hM2 rfl) rfl rfl lk_L_212 rfl (nb rfl) ⟨nb rfl, nb rfl⟩ rfl ?_
  refine g_iload (pc := 2701) dL_law_2701 rfl ?_
  refine g_icmp_eq (pc := 2703) (tgt := 2708) dL_law_2703 rfl (fun _ => ?_) (fun h2703 => absurd (ht) h2703)
  refine g_iload (pc := 2708) dL_law_2708 rfl ?_
  refine g_if_ne (pc := 2710) (tgt := 2725) dL_law_2710 rfl (fun h2710 => ?_) (fun h2710 => ?_)
  · refine g_goto (pc := 2725) (tgt := 4226) dL_law_2725 rfl ?_
    exact g_sub (lv' := AL o) ⟨rfl, rfl, rfl, rfl, rfl, rfl, trivial⟩ (kont e2)
  · refine g_aload_n (pc := 2713) dL_law_2713 rfl trivial ?_
    refine g_iconst (pc := 2714) (v := 0) dL_law_2714 rfl ?_
    refine g_laload (pc := 2715) dL_law_2715 (shK hM2 rfl) rfl (nb rfl) (nl rfl) ?_
    refine g_iload (pc := 2716) dL_law_2716 rfl ?_
    refine g_i2l (pc := 2718) dL_law_2718 rfl ?_
    refine g_lcmp (pc := 2719) dL_law_2719 ?_
    refine g_if_eq (pc := 2720) (tgt := 2725) dL_law_2720 rfl (fun _ => ?_) (fun h2720 => absurd ((lgc_self (hq (Decidable.not_not.mp h2710)))) h2720)
    refine g_goto (pc := 2725) (tgt := 4226) dL_law_2725 rfl ?_
    exact g_sub (lv' := AL o) ⟨rfl, rfl, rfl, rfl, rfl, rfl, trivial⟩ (kont e2)
set_option maxRecDepth 4000 in
theorem lc_37 {kk : Int32} {b : Int32} (hs : mS M = S) (ho : o + 5 ≤ S.1) (hS9 : S.1 < 2147483648) (hM : Shp M) (hM1 : Shp M1) (hM2 : Shp M2) (h1 : EvR l jL_pivot 8 172 1 6 [.ref 0, .int (S.2 (o + 1)), .int (S.2 (o + 2)), .ref 212] M (.inl (some (.int kk))) M1) (h2 : EvR l jX7_pivot 4 160 0 0 [.ref 198, .int (S.2 (o + 1)), .int (S.2 (o + 2))] M1 (.inl (some (.int b))) M2) (ht : mI M2 198 6 = kk) (hq : kk = 0 → mL M2 212 0 = b.toInt64) (kont : mS M2 = S → Go l jL_law 14 538 600002 7302232 Q 4226 (AL o) [] k n M2) : Go l jL_law 14 538 600002 7302232 Q 2728 (AL o) [] (k + 1) (n + 6) M := by
  refine g_aload_n (pc := 2728) dL_law_2728 rfl trivial ?_
  refine g_aload_n (pc := 2729) dL_law_2729 rfl isA_0 ?_
  refine g_iload (pc := 2730) dL_law_2730 rfl ?_
  refine g_iconst (pc := 2732) (v := 1) dL_law_2732 rfl ?_
  refine g_iadd (pc := 2733) dL_law_2733 ?_
  refine g_scriptLoadS (pc := 2734) dL_law_2734 (nI_o1 _) hs (by omega) (by omega) ?_
  refine g_aload_n (pc := 2735) dL_law_2735 rfl isA_0 ?_
  refine g_iload (pc := 2736) dL_law_2736 rfl ?_
  refine g_iconst (pc := 2738) (v := 2) dL_law_2738 rfl ?_
  refine g_iadd (pc := 2739) dL_law_2739 ?_
  refine g_scriptLoadS (pc := 2740) dL_law_2740 (nI_o2 _) hs (by omega) (by omega) ?_
  refine g_aload_n (pc := 2741) dL_law_2741 rfl trivial ?_
  refine g_invSX_s (pc := 2742) (As := [_, _, _, _]) dL_law_2742 rfl (h1) rfl rfl lk_L_316 rfl (nb rfl) ⟨nb rfl, nb rfl⟩ rfl (fun e1 => ?_)
  have e1 := e1.trans hs
  refine g_istore (pc := 2745) (lv' := [(0, _), (1, _), (2, _), (3, _), (4, _), (5, _), (6, _)]) dL_law_2745 (nl rfl) rfl ?_
  refine g_aload_n (pc := 2747) dL_law_2747 rfl trivial ?_
  refine g_aload_n (pc := 2748) dL_law_2748 rfl isA_0 ?_
  refine g_iload (pc := 2749) dL_law_2749 rfl ?_
  refine g_iconst (pc := 2751) (v := 1) dL_law_2751 rfl ?_
  refine g_iadd (pc := 2752) dL_law_2752 ?_
  refine g_scriptLoadS (pc := 2753) dL_law_2753 (nI_o1 _) e1 (by omega) (by omega) ?_
  refine g_aload_n (pc := 2754) dL_law_2754 rfl isA_0 ?_
  refine g_iload (pc := 2755) dL_law_2755 rfl ?_
  refine g_iconst (pc := 2757) (v := 2) dL_law_2757 rfl ?_
  refine g_iadd (pc := 2758) dL_law_2758 ?_
  refine g_scriptLoadS (pc := 2759) dL_law_2759 (nI_o2 _) e1 (by omega) (by omega) ?_
  refine g_invV_s (pc := 2760) (As := [_, _]) dL_law_2760 rfl (h2) rfl rfl (shK hM1 rfl) rfl rfl lk_L_318 rfl (nb rfl) ⟨nb rfl, nb rfl⟩ rfl (fun e2 => ?_)
  have e2 := e2.trans e1
  refine g_istore (pc := 2763) (lv' := [(0, _), (1, _), (2, _), (3, _), (4, _), (5, _), (6, _), (7, _)]) dL_law_2763 (nl rfl) rfl ?_
  refine g_aload_n (pc := 2765) dL_law_2765 rfl trivial ?_
  refine g_invV_r (pc := 2766) (As := []) dL_law_2766 rfl (n_thrown hM2) rfl rfl (shK hM2 rfl) rfl rfl lk_L_212 rfl (nb rfl) ⟨nb rfl, nb rfl⟩ rfl ?_
  refine g_iload (pc := 2769) dL_law_2769 rfl ?_
  refine g_icmp_eq (pc := 2771) (tgt := 2776) dL_law_2771 rfl (fun _ => ?_) (fun h2771 => absurd (ht) h2771)
  refine g_iload (pc := 2776) dL_law_2776 rfl ?_
  refine g_if_ne (pc := 2778) (tgt := 2793) dL_law_2778 rfl (fun h2778 => ?_) (fun h2778 => ?_)
  · refine g_goto (pc := 2793) (tgt := 4226) dL_law_2793 rfl ?_
    exact g_sub (lv' := AL o) ⟨rfl, rfl, rfl, rfl, rfl, rfl, trivial⟩ (kont e2)
  · refine g_aload_n (pc := 2781) dL_law_2781 rfl trivial ?_
    refine g_iconst (pc := 2782) (v := 0) dL_law_2782 rfl ?_
    refine g_laload (pc := 2783) dL_law_2783 (shK hM2 rfl) rfl (nb rfl) (nl rfl) ?_
    refine g_iload (pc := 2784) dL_law_2784 rfl ?_
    refine g_i2l (pc := 2786) dL_law_2786 rfl ?_
    refine g_lcmp (pc := 2787) dL_law_2787 ?_
    refine g_if_eq (pc := 2788) (tgt := 2793) dL_law_2788 rfl (fun _ => ?_) (fun h2788 => absurd ((lgc_self (hq (Decidable.not_not.mp h2778)))) h2788)
    refine g_goto (pc := 2793) (tgt := 4226) dL_law_2793 rfl ?_
    exact g_sub (lv' := AL o) ⟨rfl, rfl, rfl, rfl, rfl, rfl, trivial⟩ (kont e2)
set_option maxRecDepth 4000 in
theorem lc_38 {kk : Int32} {b : Int32} {f : Int32} (hf : f = if S.2 (o + 4) = 0 then 0 else 1) (hs : mS M = S) (ho : o + 5 ≤ S.1) (hS9 : S.1 < 2147483648) (hM : Shp M) (hM1 : Shp M1) (hM2 : Shp M2) (h1 : EvR l jL_put 10 187 3 18 [.ref 0, .int (S.2 (o + 1)), .int (S.2 (o + 2)), .int (S.2 (o + 3)), .int f, .ref 212] M (.inl (some (.int kk))) M1) (h2 : EvR l jX7_put 4 160 0 0 [.ref 198, .int (S.2 (o + 1)), .int (S.2 (o + 2)), .int (S.2 (o + 3)), .int f] M1 (.inl (some (.int b))) M2) (ht : mI M2 198 6 = kk) (hq : kk = 0 → mL M2 212 0 = b.toInt64) (kont : mS M2 = S → Go l jL_law 14 538 600002 7302232 Q 4226 (AL o) [] k n M2) : Go l jL_law 14 538 600002 7302232 Q 2796 (AL o) [] (k + 3) (n + 18) M := by
  by_cases hx : S.2 (o + 4) = 0
  · rw [if_pos hx] at hf; subst hf
    refine g_aload_n (pc := 2796) dL_law_2796 rfl trivial ?_
    refine g_aload_n (pc := 2797) dL_law_2797 rfl isA_0 ?_
    refine g_iload (pc := 2798) dL_law_2798 rfl ?_
    refine g_iconst (pc := 2800) (v := 1) dL_law_2800 rfl ?_
    refine g_iadd (pc := 2801) dL_law_2801 ?_
    refine g_scriptLoadS (pc := 2802) dL_law_2802 (nI_o1 _) hs (by omega) (by omega) ?_
    refine g_aload_n (pc := 2803) dL_law_2803 rfl isA_0 ?_
    refine g_iload (pc := 2804) dL_law_2804 rfl ?_
    refine g_iconst (pc := 2806) (v := 2) dL_law_2806 rfl ?_
    refine g_iadd (pc := 2807) dL_law_2807 ?_
    refine g_scriptLoadS (pc := 2808) dL_law_2808 (nI_o2 _) hs (by omega) (by omega) ?_
    refine g_aload_n (pc := 2809) dL_law_2809 rfl isA_0 ?_
    refine g_iload (pc := 2810) dL_law_2810 rfl ?_
    refine g_iconst (pc := 2812) (v := 3) dL_law_2812 rfl ?_
    refine g_iadd (pc := 2813) dL_law_2813 ?_
    refine g_scriptLoadS (pc := 2814) dL_law_2814 (nI_o3 _) hs (by omega) (by omega) ?_
    refine g_aload_n (pc := 2815) dL_law_2815 rfl isA_0 ?_
    refine g_iload (pc := 2816) dL_law_2816 rfl ?_
    refine g_iconst (pc := 2818) (v := 4) dL_law_2818 rfl ?_
    refine g_iadd (pc := 2819) dL_law_2819 ?_
    refine g_scriptLoadS (pc := 2820) dL_law_2820 (nI_o4 _) hs (by omega) (by omega) ?_
    refine g_if_eq (pc := 2821) (tgt := 2828) dL_law_2821 rfl (fun _ => ?_) (fun h2821 => absurd (hx) h2821)
    refine g_iconst (pc := 2828) (v := 0) dL_law_2828 rfl ?_
    refine g_aload_n (pc := 2829) dL_law_2829 rfl trivial ?_
    refine g_invSX_s (pc := 2830) (As := [_, _, _, _, _, _]) dL_law_2830 rfl (h1) rfl rfl lk_L_319 rfl (nb rfl) ⟨nb rfl, nb rfl⟩ rfl (fun e1 => ?_)
    have e1 := e1.trans hs
    refine g_istore (pc := 2833) (lv' := [(0, _), (1, _), (2, _), (3, _), (4, _), (5, _), (6, _)]) dL_law_2833 (nl rfl) rfl ?_
    refine g_aload_n (pc := 2835) dL_law_2835 rfl trivial ?_
    refine g_aload_n (pc := 2836) dL_law_2836 rfl isA_0 ?_
    refine g_iload (pc := 2837) dL_law_2837 rfl ?_
    refine g_iconst (pc := 2839) (v := 1) dL_law_2839 rfl ?_
    refine g_iadd (pc := 2840) dL_law_2840 ?_
    refine g_scriptLoadS (pc := 2841) dL_law_2841 (nI_o1 _) e1 (by omega) (by omega) ?_
    refine g_aload_n (pc := 2842) dL_law_2842 rfl isA_0 ?_
    refine g_iload (pc := 2843) dL_law_2843 rfl ?_
    refine g_iconst (pc := 2845) (v := 2) dL_law_2845 rfl ?_
    refine g_iadd (pc := 2846) dL_law_2846 ?_
    refine g_scriptLoadS (pc := 2847) dL_law_2847 (nI_o2 _) e1 (by omega) (by omega) ?_
    refine g_aload_n (pc := 2848) dL_law_2848 rfl isA_0 ?_
    refine g_iload (pc := 2849) dL_law_2849 rfl ?_
    refine g_iconst (pc := 2851) (v := 3) dL_law_2851 rfl ?_
    refine g_iadd (pc := 2852) dL_law_2852 ?_
    refine g_scriptLoadS (pc := 2853) dL_law_2853 (nI_o3 _) e1 (by omega) (by omega) ?_
    refine g_aload_n (pc := 2854) dL_law_2854 rfl isA_0 ?_
    refine g_iload (pc := 2855) dL_law_2855 rfl ?_
    refine g_iconst (pc := 2857) (v := 4) dL_law_2857 rfl ?_
    refine g_iadd (pc := 2858) dL_law_2858 ?_
    refine g_scriptLoadS (pc := 2859) dL_law_2859 (nI_o4 _) e1 (by omega) (by omega) ?_
    refine g_if_eq (pc := 2860) (tgt := 2867) dL_law_2860 rfl (fun _ => ?_) (fun h2860 => absurd (hx) h2860)
    refine g_iconst (pc := 2867) (v := 0) dL_law_2867 rfl ?_
    refine g_invV_s (pc := 2868) (As := [_, _, _, _]) dL_law_2868 rfl (h2) rfl rfl (shK hM1 rfl) rfl rfl lk_L_322 rfl (nb rfl) ⟨nb rfl, nb rfl⟩ rfl (fun e2 => ?_)
    have e2 := e2.trans e1
    refine g_istore (pc := 2871) (lv' := [(0, _), (1, _), (2, _), (3, _), (4, _), (5, _), (6, _), (7, _)]) dL_law_2871 (nl rfl) rfl ?_
    refine g_aload_n (pc := 2873) dL_law_2873 rfl trivial ?_
    refine g_invV_r (pc := 2874) (As := []) dL_law_2874 rfl (n_thrown hM2) rfl rfl (shK hM2 rfl) rfl rfl lk_L_212 rfl (nb rfl) ⟨nb rfl, nb rfl⟩ rfl ?_
    refine g_iload (pc := 2877) dL_law_2877 rfl ?_
    refine g_icmp_eq (pc := 2879) (tgt := 2884) dL_law_2879 rfl (fun _ => ?_) (fun h2879 => absurd (ht) h2879)
    refine g_iload (pc := 2884) dL_law_2884 rfl ?_
    refine g_if_ne (pc := 2886) (tgt := 2901) dL_law_2886 rfl (fun h2886 => ?_) (fun h2886 => ?_)
    · refine g_goto (pc := 2901) (tgt := 4226) dL_law_2901 rfl ?_
      exact g_sub (lv' := AL o) ⟨rfl, rfl, rfl, rfl, rfl, rfl, trivial⟩ (kont e2)
    · refine g_aload_n (pc := 2889) dL_law_2889 rfl trivial ?_
      refine g_iconst (pc := 2890) (v := 0) dL_law_2890 rfl ?_
      refine g_laload (pc := 2891) dL_law_2891 (shK hM2 rfl) rfl (nb rfl) (nl rfl) ?_
      refine g_iload (pc := 2892) dL_law_2892 rfl ?_
      refine g_i2l (pc := 2894) dL_law_2894 rfl ?_
      refine g_lcmp (pc := 2895) dL_law_2895 ?_
      refine g_if_eq (pc := 2896) (tgt := 2901) dL_law_2896 rfl (fun _ => ?_) (fun h2896 => absurd ((lgc_self (hq (Decidable.not_not.mp h2886)))) h2896)
      refine g_goto (pc := 2901) (tgt := 4226) dL_law_2901 rfl ?_
      exact g_sub (lv' := AL o) ⟨rfl, rfl, rfl, rfl, rfl, rfl, trivial⟩ (kont e2)
  · rw [if_neg hx] at hf; subst hf
    refine g_aload_n (pc := 2796) dL_law_2796 rfl trivial ?_
    refine g_aload_n (pc := 2797) dL_law_2797 rfl isA_0 ?_
    refine g_iload (pc := 2798) dL_law_2798 rfl ?_
    refine g_iconst (pc := 2800) (v := 1) dL_law_2800 rfl ?_
    refine g_iadd (pc := 2801) dL_law_2801 ?_
    refine g_scriptLoadS (pc := 2802) dL_law_2802 (nI_o1 _) hs (by omega) (by omega) ?_
    refine g_aload_n (pc := 2803) dL_law_2803 rfl isA_0 ?_
    refine g_iload (pc := 2804) dL_law_2804 rfl ?_
    refine g_iconst (pc := 2806) (v := 2) dL_law_2806 rfl ?_
    refine g_iadd (pc := 2807) dL_law_2807 ?_
    refine g_scriptLoadS (pc := 2808) dL_law_2808 (nI_o2 _) hs (by omega) (by omega) ?_
    refine g_aload_n (pc := 2809) dL_law_2809 rfl isA_0 ?_
    refine g_iload (pc := 2810) dL_law_2810 rfl ?_
    refine g_iconst (pc := 2812) (v := 3) dL_law_2812 rfl ?_
    refine g_iadd (pc := 2813) dL_law_2813 ?_
    refine g_scriptLoadS (pc := 2814) dL_law_2814 (nI_o3 _) hs (by omega) (by omega) ?_
    refine g_aload_n (pc := 2815) dL_law_2815 rfl isA_0 ?_
    refine g_iload (pc := 2816) dL_law_2816 rfl ?_
    refine g_iconst (pc := 2818) (v := 4) dL_law_2818 rfl ?_
    refine g_iadd (pc := 2819) dL_law_2819 ?_
    refine g_scriptLoadS (pc := 2820) dL_law_2820 (nI_o4 _) hs (by omega) (by omega) ?_
    refine g_if_eq (pc := 2821) (tgt := 2828) dL_law_2821 rfl (fun h2821 => absurd h2821 (hx)) (fun _ => ?_)
    refine g_iconst (pc := 2824) (v := 1) dL_law_2824 rfl ?_
    refine g_goto (pc := 2825) (tgt := 2829) dL_law_2825 rfl ?_
    refine g_aload_n (pc := 2829) dL_law_2829 rfl trivial ?_
    refine g_invSX_s (pc := 2830) (As := [_, _, _, _, _, _]) dL_law_2830 rfl (h1) rfl rfl lk_L_319 rfl (nb rfl) ⟨nb rfl, nb rfl⟩ rfl (fun e1 => ?_)
    have e1 := e1.trans hs
    refine g_istore (pc := 2833) (lv' := [(0, _), (1, _), (2, _), (3, _), (4, _), (5, _), (6, _)]) dL_law_2833 (nl rfl) rfl ?_
    refine g_aload_n (pc := 2835) dL_law_2835 rfl trivial ?_
    refine g_aload_n (pc := 2836) dL_law_2836 rfl isA_0 ?_
    refine g_iload (pc := 2837) dL_law_2837 rfl ?_
    refine g_iconst (pc := 2839) (v := 1) dL_law_2839 rfl ?_
    refine g_iadd (pc := 2840) dL_law_2840 ?_
    refine g_scriptLoadS (pc := 2841) dL_law_2841 (nI_o1 _) e1 (by omega) (by omega) ?_
    refine g_aload_n (pc := 2842) dL_law_2842 rfl isA_0 ?_
    refine g_iload (pc := 2843) dL_law_2843 rfl ?_
    refine g_iconst (pc := 2845) (v := 2) dL_law_2845 rfl ?_
    refine g_iadd (pc := 2846) dL_law_2846 ?_
    refine g_scriptLoadS (pc := 2847) dL_law_2847 (nI_o2 _) e1 (by omega) (by omega) ?_
    refine g_aload_n (pc := 2848) dL_law_2848 rfl isA_0 ?_
    refine g_iload (pc := 2849) dL_law_2849 rfl ?_
    refine g_iconst (pc := 2851) (v := 3) dL_law_2851 rfl ?_
    refine g_iadd (pc := 2852) dL_law_2852 ?_
    refine g_scriptLoadS (pc := 2853) dL_law_2853 (nI_o3 _) e1 (by omega) (by omega) ?_
    refine g_aload_n (pc := 2854) dL_law_2854 rfl isA_0 ?_
    refine g_iload (pc := 2855) dL_law_2855 rfl ?_
    refine g_iconst (pc := 2857) (v := 4) dL_law_2857 rfl ?_
    refine g_iadd (pc := 2858) dL_law_2858 ?_
    refine g_scriptLoadS (pc := 2859) dL_law_2859 (nI_o4 _) e1 (by omega) (by omega) ?_
    refine g_if_eq (pc := 2860) (tgt := 2867) dL_law_2860 rfl (fun h2860 => absurd h2860 (hx)) (fun _ => ?_)
    refine g_iconst (pc := 2863) (v := 1) dL_law_2863 rfl ?_
    refine g_goto (pc := 2864) (tgt := 2868) dL_law_2864 rfl ?_
    refine g_invV_s (pc := 2868) (As := [_, _, _, _]) dL_law_2868 rfl (h2) rfl rfl (shK hM1 rfl) rfl rfl lk_L_322 rfl (nb rfl) ⟨nb rfl, nb rfl⟩ rfl (fun e2 => ?_)
    have e2 := e2.trans e1
    refine g_istore (pc := 2871) (lv' := [(0, _), (1, _), (2, _), (3, _), (4, _), (5, _), (6, _), (7, _)]) dL_law_2871 (nl rfl) rfl ?_
    refine g_aload_n (pc := 2873) dL_law_2873 rfl trivial ?_
    refine g_invV_r (pc := 2874) (As := []) dL_law_2874 rfl (n_thrown hM2) rfl rfl (shK hM2 rfl) rfl rfl lk_L_212 rfl (nb rfl) ⟨nb rfl, nb rfl⟩ rfl ?_
    refine g_iload (pc := 2877) dL_law_2877 rfl ?_
    refine g_icmp_eq (pc := 2879) (tgt := 2884) dL_law_2879 rfl (fun _ => ?_) (fun h2879 => absurd (ht) h2879)
    refine g_iload (pc := 2884) dL_law_2884 rfl ?_
    refine g_if_ne (pc := 2886) (tgt := 2901) dL_law_2886 rfl (fun h2886 => ?_) (fun h2886 => ?_)
    · refine g_goto (pc := 2901) (tgt := 4226) dL_law_2901 rfl ?_
      exact g_sub (lv' := AL o) ⟨rfl, rfl, rfl, rfl, rfl, rfl, trivial⟩ (kont e2)
    · refine g_aload_n (pc := 2889) dL_law_2889 rfl trivial ?_
      refine g_iconst (pc := 2890) (v := 0) dL_law_2890 rfl ?_
      refine g_laload (pc := 2891) dL_law_2891 (shK hM2 rfl) rfl (nb rfl) (nl rfl) ?_
      refine g_iload (pc := 2892) dL_law_2892 rfl ?_
      refine g_i2l (pc := 2894) dL_law_2894 rfl ?_
      refine g_lcmp (pc := 2895) dL_law_2895 ?_
      refine g_if_eq (pc := 2896) (tgt := 2901) dL_law_2896 rfl (fun _ => ?_) (fun h2896 => absurd ((lgc_self (hq (Decidable.not_not.mp h2886)))) h2896)
      refine g_goto (pc := 2901) (tgt := 4226) dL_law_2901 rfl ?_
      exact g_sub (lv' := AL o) ⟨rfl, rfl, rfl, rfl, rfl, rfl, trivial⟩ (kont e2)
set_option maxRecDepth 4000 in
theorem lc_39 {kk : Int32} {b : Int32} (hs : mS M = S) (ho : o + 5 ≤ S.1) (hS9 : S.1 < 2147483648) (hM : Shp M) (hM1 : Shp M1) (hM2 : Shp M2) (h1 : EvR l jL_setRow 9 176 2 12 [.ref 0, .int (S.2 (o + 1)), .int (S.2 (o + 2)), .long (l2 (S.2 (o + 3)) (S.2 (o + 4))), .ref 212] M (.inl (some (.int kk))) M1) (h2 : EvR l jX7_setRow 4 160 0 0 [.ref 198, .int (S.2 (o + 1)), .int (S.2 (o + 2)), .long (l2 (S.2 (o + 3)) (S.2 (o + 4)))] M1 (.inl (some (.int b))) M2) (ht : mI M2 198 6 = kk) (hq : kk = 0 → mL M2 212 0 = b.toInt64) (kont : mS M2 = S → Go l jL_law 14 538 600002 7302232 Q 4226 (AL o) [] k n M2) : Go l jL_law 14 538 600002 7302232 Q 2904 (AL o) [] (k + 2) (n + 12) M := by
  refine g_aload_n (pc := 2904) dL_law_2904 rfl trivial ?_
  refine g_aload_n (pc := 2905) dL_law_2905 rfl isA_0 ?_
  refine g_iload (pc := 2906) dL_law_2906 rfl ?_
  refine g_iconst (pc := 2908) (v := 1) dL_law_2908 rfl ?_
  refine g_iadd (pc := 2909) dL_law_2909 ?_
  refine g_scriptLoadS (pc := 2910) dL_law_2910 (nI_o1 _) hs (by omega) (by omega) ?_
  refine g_aload_n (pc := 2911) dL_law_2911 rfl isA_0 ?_
  refine g_iload (pc := 2912) dL_law_2912 rfl ?_
  refine g_iconst (pc := 2914) (v := 2) dL_law_2914 rfl ?_
  refine g_iadd (pc := 2915) dL_law_2915 ?_
  refine g_scriptLoadS (pc := 2916) dL_law_2916 (nI_o2 _) hs (by omega) (by omega) ?_
  refine g_aload_n (pc := 2917) dL_law_2917 rfl isA_0 ?_
  refine g_iload (pc := 2918) dL_law_2918 rfl ?_
  refine g_iconst (pc := 2920) (v := 3) dL_law_2920 rfl ?_
  refine g_iadd (pc := 2921) dL_law_2921 ?_
  refine g_scriptLoadS (pc := 2922) dL_law_2922 (nI_o3 _) hs (by omega) (by omega) ?_
  refine g_i2l (pc := 2923) dL_law_2923 rfl ?_
  refine g_bipush (pc := 2924) (v := 32) dL_law_2924 rfl ?_
  refine g_lshl (pc := 2926) dL_law_2926 rfl ?_
  refine g_aload_n (pc := 2927) dL_law_2927 rfl isA_0 ?_
  refine g_iload (pc := 2928) dL_law_2928 rfl ?_
  refine g_iconst (pc := 2930) (v := 4) dL_law_2930 rfl ?_
  refine g_iadd (pc := 2931) dL_law_2931 ?_
  refine g_scriptLoadS (pc := 2932) dL_law_2932 (nI_o4 _) hs (by omega) (by omega) ?_
  refine g_i2l (pc := 2933) dL_law_2933 rfl ?_
  refine g_ldc2 (pc := 2934) dL_law_2934 wd_1783 ?_
  refine g_land (pc := 2937) dL_law_2937 ?_
  refine g_lor (pc := 2938) dL_law_2938 ?_
  refine g_aload_n (pc := 2939) dL_law_2939 rfl trivial ?_
  refine g_invSX_s (pc := 2940) (As := [_, _, _, _, _]) dL_law_2940 rfl (h1) rfl rfl lk_L_323 rfl (nb rfl) ⟨nb rfl, nb rfl⟩ rfl (fun e1 => ?_)
  have e1 := e1.trans hs
  refine g_istore (pc := 2943) (lv' := [(0, _), (1, _), (2, _), (3, _), (4, _), (5, _), (6, _)]) dL_law_2943 (nl rfl) rfl ?_
  refine g_aload_n (pc := 2945) dL_law_2945 rfl trivial ?_
  refine g_aload_n (pc := 2946) dL_law_2946 rfl isA_0 ?_
  refine g_iload (pc := 2947) dL_law_2947 rfl ?_
  refine g_iconst (pc := 2949) (v := 1) dL_law_2949 rfl ?_
  refine g_iadd (pc := 2950) dL_law_2950 ?_
  refine g_scriptLoadS (pc := 2951) dL_law_2951 (nI_o1 _) e1 (by omega) (by omega) ?_
  refine g_aload_n (pc := 2952) dL_law_2952 rfl isA_0 ?_
  refine g_iload (pc := 2953) dL_law_2953 rfl ?_
  refine g_iconst (pc := 2955) (v := 2) dL_law_2955 rfl ?_
  refine g_iadd (pc := 2956) dL_law_2956 ?_
  refine g_scriptLoadS (pc := 2957) dL_law_2957 (nI_o2 _) e1 (by omega) (by omega) ?_
  refine g_aload_n (pc := 2958) dL_law_2958 rfl isA_0 ?_
  refine g_iload (pc := 2959) dL_law_2959 rfl ?_
  refine g_iconst (pc := 2961) (v := 3) dL_law_2961 rfl ?_
  refine g_iadd (pc := 2962) dL_law_2962 ?_
  refine g_scriptLoadS (pc := 2963) dL_law_2963 (nI_o3 _) e1 (by omega) (by omega) ?_
  refine g_i2l (pc := 2964) dL_law_2964 rfl ?_
  refine g_bipush (pc := 2965) (v := 32) dL_law_2965 rfl ?_
  refine g_lshl (pc := 2967) dL_law_2967 rfl ?_
  refine g_aload_n (pc := 2968) dL_law_2968 rfl isA_0 ?_
  refine g_iload (pc := 2969) dL_law_2969 rfl ?_
  refine g_iconst (pc := 2971) (v := 4) dL_law_2971 rfl ?_
  refine g_iadd (pc := 2972) dL_law_2972 ?_
  refine g_scriptLoadS (pc := 2973) dL_law_2973 (nI_o4 _) e1 (by omega) (by omega) ?_
  refine g_i2l (pc := 2974) dL_law_2974 rfl ?_
  refine g_ldc2 (pc := 2975) dL_law_2975 wd_1783 ?_
  refine g_land (pc := 2978) dL_law_2978 ?_
  refine g_lor (pc := 2979) dL_law_2979 ?_
  refine g_invV_s (pc := 2980) (As := [_, _, _]) dL_law_2980 rfl (h2) rfl rfl (shK hM1 rfl) rfl rfl lk_L_326 rfl (nb rfl) ⟨nb rfl, nb rfl⟩ rfl (fun e2 => ?_)
  have e2 := e2.trans e1
  refine g_istore (pc := 2983) (lv' := [(0, _), (1, _), (2, _), (3, _), (4, _), (5, _), (6, _), (7, _)]) dL_law_2983 (nl rfl) rfl ?_
  refine g_aload_n (pc := 2985) dL_law_2985 rfl trivial ?_
  refine g_invV_r (pc := 2986) (As := []) dL_law_2986 rfl (n_thrown hM2) rfl rfl (shK hM2 rfl) rfl rfl lk_L_212 rfl (nb rfl) ⟨nb rfl, nb rfl⟩ rfl ?_
  refine g_iload (pc := 2989) dL_law_2989 rfl ?_
  refine g_icmp_eq (pc := 2991) (tgt := 2996) dL_law_2991 rfl (fun _ => ?_) (fun h2991 => absurd (ht) h2991)
  refine g_iload (pc := 2996) dL_law_2996 rfl ?_
  refine g_if_ne (pc := 2998) (tgt := 3013) dL_law_2998 rfl (fun h2998 => ?_) (fun h2998 => ?_)
  · refine g_goto (pc := 3013) (tgt := 4226) dL_law_3013 rfl ?_
    exact g_sub (lv' := AL o) ⟨rfl, rfl, rfl, rfl, rfl, rfl, trivial⟩ (kont e2)
  · refine g_aload_n (pc := 3001) dL_law_3001 rfl trivial ?_
    refine g_iconst (pc := 3002) (v := 0) dL_law_3002 rfl ?_
    refine g_laload (pc := 3003) dL_law_3003 (shK hM2 rfl) rfl (nb rfl) (nl rfl) ?_
    refine g_iload (pc := 3004) dL_law_3004 rfl ?_
    refine g_i2l (pc := 3006) dL_law_3006 rfl ?_
    refine g_lcmp (pc := 3007) dL_law_3007 ?_
    refine g_if_eq (pc := 3008) (tgt := 3013) dL_law_3008 rfl (fun _ => ?_) (fun h3008 => absurd ((lgc_self (hq (Decidable.not_not.mp h2998)))) h3008)
    refine g_goto (pc := 3013) (tgt := 4226) dL_law_3013 rfl ?_
    exact g_sub (lv' := AL o) ⟨rfl, rfl, rfl, rfl, rfl, rfl, trivial⟩ (kont e2)
set_option maxRecDepth 4000 in
theorem lc_40 {kk : Int32} {b : Int32} (hs : mS M = S) (ho : o + 5 ≤ S.1) (hS9 : S.1 < 2147483648) (hM : Shp M) (hM1 : Shp M1) (hM2 : Shp M2) (h1 : EvR l jL_copy 8 162 2 12 [.ref 0, .int (S.2 (o + 1)), .int (S.2 (o + 2)), .ref 212] M (.inl (some (.int kk))) M1) (h2 : EvR l jX7_copy 4 160 0 0 [.ref 198, .int (S.2 (o + 1)), .int (S.2 (o + 2))] M1 (.inl (some (.int b))) M2) (ht : mI M2 198 6 = kk) (hq : kk = 0 → mL M2 212 0 = b.toInt64) (kont : mS M2 = S → Go l jL_law 14 538 600002 7302232 Q 4226 (AL o) [] k n M2) : Go l jL_law 14 538 600002 7302232 Q 3016 (AL o) [] (k + 2) (n + 12) M := by
  refine g_aload_n (pc := 3016) dL_law_3016 rfl trivial ?_
  refine g_aload_n (pc := 3017) dL_law_3017 rfl isA_0 ?_
  refine g_iload (pc := 3018) dL_law_3018 rfl ?_
  refine g_iconst (pc := 3020) (v := 1) dL_law_3020 rfl ?_
  refine g_iadd (pc := 3021) dL_law_3021 ?_
  refine g_scriptLoadS (pc := 3022) dL_law_3022 (nI_o1 _) hs (by omega) (by omega) ?_
  refine g_aload_n (pc := 3023) dL_law_3023 rfl isA_0 ?_
  refine g_iload (pc := 3024) dL_law_3024 rfl ?_
  refine g_iconst (pc := 3026) (v := 2) dL_law_3026 rfl ?_
  refine g_iadd (pc := 3027) dL_law_3027 ?_
  refine g_scriptLoadS (pc := 3028) dL_law_3028 (nI_o2 _) hs (by omega) (by omega) ?_
  refine g_aload_n (pc := 3029) dL_law_3029 rfl trivial ?_
  refine g_invSX_s (pc := 3030) (As := [_, _, _, _]) dL_law_3030 rfl (h1) rfl rfl lk_L_327 rfl (nb rfl) ⟨nb rfl, nb rfl⟩ rfl (fun e1 => ?_)
  have e1 := e1.trans hs
  refine g_istore (pc := 3033) (lv' := [(0, _), (1, _), (2, _), (3, _), (4, _), (5, _), (6, _)]) dL_law_3033 (nl rfl) rfl ?_
  refine g_aload_n (pc := 3035) dL_law_3035 rfl trivial ?_
  refine g_aload_n (pc := 3036) dL_law_3036 rfl isA_0 ?_
  refine g_iload (pc := 3037) dL_law_3037 rfl ?_
  refine g_iconst (pc := 3039) (v := 1) dL_law_3039 rfl ?_
  refine g_iadd (pc := 3040) dL_law_3040 ?_
  refine g_scriptLoadS (pc := 3041) dL_law_3041 (nI_o1 _) e1 (by omega) (by omega) ?_
  refine g_aload_n (pc := 3042) dL_law_3042 rfl isA_0 ?_
  refine g_iload (pc := 3043) dL_law_3043 rfl ?_
  refine g_iconst (pc := 3045) (v := 2) dL_law_3045 rfl ?_
  refine g_iadd (pc := 3046) dL_law_3046 ?_
  refine g_scriptLoadS (pc := 3047) dL_law_3047 (nI_o2 _) e1 (by omega) (by omega) ?_
  refine g_invV_s (pc := 3048) (As := [_, _]) dL_law_3048 rfl (h2) rfl rfl (shK hM1 rfl) rfl rfl lk_L_329 rfl (nb rfl) ⟨nb rfl, nb rfl⟩ rfl (fun e2 => ?_)
  have e2 := e2.trans e1
  refine g_istore (pc := 3051) (lv' := [(0, _), (1, _), (2, _), (3, _), (4, _), (5, _), (6, _), (7, _)]) dL_law_3051 (nl rfl) rfl ?_
  refine g_aload_n (pc := 3053) dL_law_3053 rfl trivial ?_
  refine g_invV_r (pc := 3054) (As := []) dL_law_3054 rfl (n_thrown hM2) rfl rfl (shK hM2 rfl) rfl rfl lk_L_212 rfl (nb rfl) ⟨nb rfl, nb rfl⟩ rfl ?_
  refine g_iload (pc := 3057) dL_law_3057 rfl ?_
  refine g_icmp_eq (pc := 3059) (tgt := 3064) dL_law_3059 rfl (fun _ => ?_) (fun h3059 => absurd (ht) h3059)
  refine g_iload (pc := 3064) dL_law_3064 rfl ?_
  refine g_if_ne (pc := 3066) (tgt := 3081) dL_law_3066 rfl (fun h3066 => ?_) (fun h3066 => ?_)
  · refine g_goto (pc := 3081) (tgt := 4226) dL_law_3081 rfl ?_
    exact g_sub (lv' := AL o) ⟨rfl, rfl, rfl, rfl, rfl, rfl, trivial⟩ (kont e2)
  · refine g_aload_n (pc := 3069) dL_law_3069 rfl trivial ?_
    refine g_iconst (pc := 3070) (v := 0) dL_law_3070 rfl ?_
    refine g_laload (pc := 3071) dL_law_3071 (shK hM2 rfl) rfl (nb rfl) (nl rfl) ?_
    refine g_iload (pc := 3072) dL_law_3072 rfl ?_
    refine g_i2l (pc := 3074) dL_law_3074 rfl ?_
    refine g_lcmp (pc := 3075) dL_law_3075 ?_
    refine g_if_eq (pc := 3076) (tgt := 3081) dL_law_3076 rfl (fun _ => ?_) (fun h3076 => absurd ((lgc_self (hq (Decidable.not_not.mp h3066)))) h3076)
    refine g_goto (pc := 3081) (tgt := 4226) dL_law_3081 rfl ?_
    exact g_sub (lv' := AL o) ⟨rfl, rfl, rfl, rfl, rfl, rfl, trivial⟩ (kont e2)
set_option maxRecDepth 4000 in
theorem lc_41 {kk : Int32} {b : Int32} (hs : mS M = S) (ho : o + 5 ≤ S.1) (hS9 : S.1 < 2147483648) (hM : Shp M) (hM1 : Shp M1) (hM2 : Shp M2) (h1 : EvR l jL_transpose 8 163 2 12 [.ref 0, .int (S.2 (o + 1)), .int (S.2 (o + 2)), .ref 212] M (.inl (some (.int kk))) M1) (h2 : EvR l jX7_transpose 4 160 0 0 [.ref 198, .int (S.2 (o + 1)), .int (S.2 (o + 2))] M1 (.inl (some (.int b))) M2) (ht : mI M2 198 6 = kk) (hq : kk = 0 → mL M2 212 0 = b.toInt64) (kont : mS M2 = S → Go l jL_law 14 538 600002 7302232 Q 4226 (AL o) [] k n M2) : Go l jL_law 14 538 600002 7302232 Q 3084 (AL o) [] (k + 2) (n + 12) M := by
  refine g_aload_n (pc := 3084) dL_law_3084 rfl trivial ?_
  refine g_aload_n (pc := 3085) dL_law_3085 rfl isA_0 ?_
  refine g_iload (pc := 3086) dL_law_3086 rfl ?_
  refine g_iconst (pc := 3088) (v := 1) dL_law_3088 rfl ?_
  refine g_iadd (pc := 3089) dL_law_3089 ?_
  refine g_scriptLoadS (pc := 3090) dL_law_3090 (nI_o1 _) hs (by omega) (by omega) ?_
  refine g_aload_n (pc := 3091) dL_law_3091 rfl isA_0 ?_
  refine g_iload (pc := 3092) dL_law_3092 rfl ?_
  refine g_iconst (pc := 3094) (v := 2) dL_law_3094 rfl ?_
  refine g_iadd (pc := 3095) dL_law_3095 ?_
  refine g_scriptLoadS (pc := 3096) dL_law_3096 (nI_o2 _) hs (by omega) (by omega) ?_
  refine g_aload_n (pc := 3097) dL_law_3097 rfl trivial ?_
  refine g_invSX_s (pc := 3098) (As := [_, _, _, _]) dL_law_3098 rfl (h1) rfl rfl lk_L_330 rfl (nb rfl) ⟨nb rfl, nb rfl⟩ rfl (fun e1 => ?_)
  have e1 := e1.trans hs
  refine g_istore (pc := 3101) (lv' := [(0, _), (1, _), (2, _), (3, _), (4, _), (5, _), (6, _)]) dL_law_3101 (nl rfl) rfl ?_
  refine g_aload_n (pc := 3103) dL_law_3103 rfl trivial ?_
  refine g_aload_n (pc := 3104) dL_law_3104 rfl isA_0 ?_
  refine g_iload (pc := 3105) dL_law_3105 rfl ?_
  refine g_iconst (pc := 3107) (v := 1) dL_law_3107 rfl ?_
  refine g_iadd (pc := 3108) dL_law_3108 ?_
  refine g_scriptLoadS (pc := 3109) dL_law_3109 (nI_o1 _) e1 (by omega) (by omega) ?_
  refine g_aload_n (pc := 3110) dL_law_3110 rfl isA_0 ?_
  refine g_iload (pc := 3111) dL_law_3111 rfl ?_
  refine g_iconst (pc := 3113) (v := 2) dL_law_3113 rfl ?_
  refine g_iadd (pc := 3114) dL_law_3114 ?_
  refine g_scriptLoadS (pc := 3115) dL_law_3115 (nI_o2 _) e1 (by omega) (by omega) ?_
  refine g_invV_s (pc := 3116) (As := [_, _]) dL_law_3116 rfl (h2) rfl rfl (shK hM1 rfl) rfl rfl lk_L_332 rfl (nb rfl) ⟨nb rfl, nb rfl⟩ rfl (fun e2 => ?_)
  have e2 := e2.trans e1
  refine g_istore (pc := 3119) (lv' := [(0, _), (1, _), (2, _), (3, _), (4, _), (5, _), (6, _), (7, _)]) dL_law_3119 (nl rfl) rfl ?_
  refine g_aload_n (pc := 3121) dL_law_3121 rfl trivial ?_
  refine g_invV_r (pc := 3122) (As := []) dL_law_3122 rfl (n_thrown hM2) rfl rfl (shK hM2 rfl) rfl rfl lk_L_212 rfl (nb rfl) ⟨nb rfl, nb rfl⟩ rfl ?_
  refine g_iload (pc := 3125) dL_law_3125 rfl ?_
  refine g_icmp_eq (pc := 3127) (tgt := 3132) dL_law_3127 rfl (fun _ => ?_) (fun h3127 => absurd (ht) h3127)
  refine g_iload (pc := 3132) dL_law_3132 rfl ?_
  refine g_if_ne (pc := 3134) (tgt := 3149) dL_law_3134 rfl (fun h3134 => ?_) (fun h3134 => ?_)
  · refine g_goto (pc := 3149) (tgt := 4226) dL_law_3149 rfl ?_
    exact g_sub (lv' := AL o) ⟨rfl, rfl, rfl, rfl, rfl, rfl, trivial⟩ (kont e2)
  · refine g_aload_n (pc := 3137) dL_law_3137 rfl trivial ?_
    refine g_iconst (pc := 3138) (v := 0) dL_law_3138 rfl ?_
    refine g_laload (pc := 3139) dL_law_3139 (shK hM2 rfl) rfl (nb rfl) (nl rfl) ?_
    refine g_iload (pc := 3140) dL_law_3140 rfl ?_
    refine g_i2l (pc := 3142) dL_law_3142 rfl ?_
    refine g_lcmp (pc := 3143) dL_law_3143 ?_
    refine g_if_eq (pc := 3144) (tgt := 3149) dL_law_3144 rfl (fun _ => ?_) (fun h3144 => absurd ((lgc_self (hq (Decidable.not_not.mp h3134)))) h3144)
    refine g_goto (pc := 3149) (tgt := 4226) dL_law_3149 rfl ?_
    exact g_sub (lv' := AL o) ⟨rfl, rfl, rfl, rfl, rfl, rfl, trivial⟩ (kont e2)
set_option maxRecDepth 4000 in
theorem lc_42 {kk : Int32} {b : Int32} (hs : mS M = S) (ho : o + 5 ≤ S.1) (hS9 : S.1 < 2147483648) (hM : Shp M) (hM1 : Shp M1) (hM2 : Shp M2) (h1 : EvR l jL_combine 8 165 4 24 [.ref 0, .int (S.2 (o + 1)), .int (S.2 (o + 2)), .int (S.2 (o + 3)), .int (S.2 (o + 4)), .ref 212] M (.inl (some (.int kk))) M1) (h2 : EvR l jX7_combine 4 160 0 0 [.ref 198, .int (S.2 (o + 1)), .int (S.2 (o + 2)), .int (S.2 (o + 3)), .int (S.2 (o + 4))] M1 (.inl (some (.int b))) M2) (ht : mI M2 198 6 = kk) (hq : kk = 0 → mL M2 212 0 = b.toInt64) (kont : mS M2 = S → Go l jL_law 14 538 600002 7302232 Q 4226 (AL o) [] k n M2) : Go l jL_law 14 538 600002 7302232 Q 3152 (AL o) [] (k + 4) (n + 24) M := by
  refine g_aload_n (pc := 3152) dL_law_3152 rfl trivial ?_
  refine g_aload_n (pc := 3153) dL_law_3153 rfl isA_0 ?_
  refine g_iload (pc := 3154) dL_law_3154 rfl ?_
  refine g_iconst (pc := 3156) (v := 1) dL_law_3156 rfl ?_
  refine g_iadd (pc := 3157) dL_law_3157 ?_
  refine g_scriptLoadS (pc := 3158) dL_law_3158 (nI_o1 _) hs (by omega) (by omega) ?_
  refine g_aload_n (pc := 3159) dL_law_3159 rfl isA_0 ?_
  refine g_iload (pc := 3160) dL_law_3160 rfl ?_
  refine g_iconst (pc := 3162) (v := 2) dL_law_3162 rfl ?_
  refine g_iadd (pc := 3163) dL_law_3163 ?_
  refine g_scriptLoadS (pc := 3164) dL_law_3164 (nI_o2 _) hs (by omega) (by omega) ?_
  refine g_aload_n (pc := 3165) dL_law_3165 rfl isA_0 ?_
  refine g_iload (pc := 3166) dL_law_3166 rfl ?_
  refine g_iconst (pc := 3168) (v := 3) dL_law_3168 rfl ?_
  refine g_iadd (pc := 3169) dL_law_3169 ?_
  refine g_scriptLoadS (pc := 3170) dL_law_3170 (nI_o3 _) hs (by omega) (by omega) ?_
  refine g_aload_n (pc := 3171) dL_law_3171 rfl isA_0 ?_
  refine g_iload (pc := 3172) dL_law_3172 rfl ?_
  refine g_iconst (pc := 3174) (v := 4) dL_law_3174 rfl ?_
  refine g_iadd (pc := 3175) dL_law_3175 ?_
  refine g_scriptLoadS (pc := 3176) dL_law_3176 (nI_o4 _) hs (by omega) (by omega) ?_
  refine g_aload_n (pc := 3177) dL_law_3177 rfl trivial ?_
  refine g_invSX_s (pc := 3178) (As := [_, _, _, _, _, _]) dL_law_3178 rfl (h1) rfl rfl lk_L_333 rfl (nb rfl) ⟨nb rfl, nb rfl⟩ rfl (fun e1 => ?_)
  have e1 := e1.trans hs
  refine g_istore (pc := 3181) (lv' := [(0, _), (1, _), (2, _), (3, _), (4, _), (5, _), (6, _)]) dL_law_3181 (nl rfl) rfl ?_
  refine g_aload_n (pc := 3183) dL_law_3183 rfl trivial ?_
  refine g_aload_n (pc := 3184) dL_law_3184 rfl isA_0 ?_
  refine g_iload (pc := 3185) dL_law_3185 rfl ?_
  refine g_iconst (pc := 3187) (v := 1) dL_law_3187 rfl ?_
  refine g_iadd (pc := 3188) dL_law_3188 ?_
  refine g_scriptLoadS (pc := 3189) dL_law_3189 (nI_o1 _) e1 (by omega) (by omega) ?_
  refine g_aload_n (pc := 3190) dL_law_3190 rfl isA_0 ?_
  refine g_iload (pc := 3191) dL_law_3191 rfl ?_
  refine g_iconst (pc := 3193) (v := 2) dL_law_3193 rfl ?_
  refine g_iadd (pc := 3194) dL_law_3194 ?_
  refine g_scriptLoadS (pc := 3195) dL_law_3195 (nI_o2 _) e1 (by omega) (by omega) ?_
  refine g_aload_n (pc := 3196) dL_law_3196 rfl isA_0 ?_
  refine g_iload (pc := 3197) dL_law_3197 rfl ?_
  refine g_iconst (pc := 3199) (v := 3) dL_law_3199 rfl ?_
  refine g_iadd (pc := 3200) dL_law_3200 ?_
  refine g_scriptLoadS (pc := 3201) dL_law_3201 (nI_o3 _) e1 (by omega) (by omega) ?_
  refine g_aload_n (pc := 3202) dL_law_3202 rfl isA_0 ?_
  refine g_iload (pc := 3203) dL_law_3203 rfl ?_
  refine g_iconst (pc := 3205) (v := 4) dL_law_3205 rfl ?_
  refine g_iadd (pc := 3206) dL_law_3206 ?_
  refine g_scriptLoadS (pc := 3207) dL_law_3207 (nI_o4 _) e1 (by omega) (by omega) ?_
  refine g_invV_s (pc := 3208) (As := [_, _, _, _]) dL_law_3208 rfl (h2) rfl rfl (shK hM1 rfl) rfl rfl lk_L_335 rfl (nb rfl) ⟨nb rfl, nb rfl⟩ rfl (fun e2 => ?_)
  have e2 := e2.trans e1
  refine g_istore (pc := 3211) (lv' := [(0, _), (1, _), (2, _), (3, _), (4, _), (5, _), (6, _), (7, _)]) dL_law_3211 (nl rfl) rfl ?_
  refine g_aload_n (pc := 3213) dL_law_3213 rfl trivial ?_
  refine g_invV_r (pc := 3214) (As := []) dL_law_3214 rfl (n_thrown hM2) rfl rfl (shK hM2 rfl) rfl rfl lk_L_212 rfl (nb rfl) ⟨nb rfl, nb rfl⟩ rfl ?_
  refine g_iload (pc := 3217) dL_law_3217 rfl ?_
  refine g_icmp_eq (pc := 3219) (tgt := 3224) dL_law_3219 rfl (fun _ => ?_) (fun h3219 => absurd (ht) h3219)
  refine g_iload (pc := 3224) dL_law_3224 rfl ?_
  refine g_if_ne (pc := 3226) (tgt := 3241) dL_law_3226 rfl (fun h3226 => ?_) (fun h3226 => ?_)
  · refine g_goto (pc := 3241) (tgt := 4226) dL_law_3241 rfl ?_
    exact g_sub (lv' := AL o) ⟨rfl, rfl, rfl, rfl, rfl, rfl, trivial⟩ (kont e2)
  · refine g_aload_n (pc := 3229) dL_law_3229 rfl trivial ?_
    refine g_iconst (pc := 3230) (v := 0) dL_law_3230 rfl ?_
    refine g_laload (pc := 3231) dL_law_3231 (shK hM2 rfl) rfl (nb rfl) (nl rfl) ?_
    refine g_iload (pc := 3232) dL_law_3232 rfl ?_
    refine g_i2l (pc := 3234) dL_law_3234 rfl ?_
    refine g_lcmp (pc := 3235) dL_law_3235 ?_
    refine g_if_eq (pc := 3236) (tgt := 3241) dL_law_3236 rfl (fun _ => ?_) (fun h3236 => absurd ((lgc_self (hq (Decidable.not_not.mp h3226)))) h3236)
    refine g_goto (pc := 3241) (tgt := 4226) dL_law_3241 rfl ?_
    exact g_sub (lv' := AL o) ⟨rfl, rfl, rfl, rfl, rfl, rfl, trivial⟩ (kont e2)
set_option maxRecDepth 4000 in
theorem lc_43 {kk : Int32} {b : Int32} {f : Int32} (hf : f = if S.2 (o + 4) = 0 then 0 else 1) (hs : mS M = S) (ho : o + 5 ≤ S.1) (hS9 : S.1 < 2147483648) (hM : Shp M) (hM1 : Shp M1) (hM2 : Shp M2) (h1 : EvR l jL_product 8 164 3 18 [.ref 0, .int (S.2 (o + 1)), .int (S.2 (o + 2)), .int (S.2 (o + 3)), .int f, .ref 212] M (.inl (some (.int kk))) M1) (h2 : EvR l jX7_product 4 160 0 0 [.ref 198, .int (S.2 (o + 1)), .int (S.2 (o + 2)), .int (S.2 (o + 3)), .int f] M1 (.inl (some (.int b))) M2) (ht : mI M2 198 6 = kk) (hq : kk = 0 → mL M2 212 0 = b.toInt64) (kont : mS M2 = S → Go l jL_law 14 538 600002 7302232 Q 4226 (AL o) [] k n M2) : Go l jL_law 14 538 600002 7302232 Q 3244 (AL o) [] (k + 3) (n + 18) M := by
  by_cases hx : S.2 (o + 4) = 0
  · rw [if_pos hx] at hf; subst hf
    refine g_aload_n (pc := 3244) dL_law_3244 rfl trivial ?_
    refine g_aload_n (pc := 3245) dL_law_3245 rfl isA_0 ?_
    refine g_iload (pc := 3246) dL_law_3246 rfl ?_
    refine g_iconst (pc := 3248) (v := 1) dL_law_3248 rfl ?_
    refine g_iadd (pc := 3249) dL_law_3249 ?_
    refine g_scriptLoadS (pc := 3250) dL_law_3250 (nI_o1 _) hs (by omega) (by omega) ?_
    refine g_aload_n (pc := 3251) dL_law_3251 rfl isA_0 ?_
    refine g_iload (pc := 3252) dL_law_3252 rfl ?_
    refine g_iconst (pc := 3254) (v := 2) dL_law_3254 rfl ?_
    refine g_iadd (pc := 3255) dL_law_3255 ?_
    refine g_scriptLoadS (pc := 3256) dL_law_3256 (nI_o2 _) hs (by omega) (by omega) ?_
    refine g_aload_n (pc := 3257) dL_law_3257 rfl isA_0 ?_
    refine g_iload (pc := 3258) dL_law_3258 rfl ?_
    refine g_iconst (pc := 3260) (v := 3) dL_law_3260 rfl ?_
    refine g_iadd (pc := 3261) dL_law_3261 ?_
    refine g_scriptLoadS (pc := 3262) dL_law_3262 (nI_o3 _) hs (by omega) (by omega) ?_
    refine g_aload_n (pc := 3263) dL_law_3263 rfl isA_0 ?_
    refine g_iload (pc := 3264) dL_law_3264 rfl ?_
    refine g_iconst (pc := 3266) (v := 4) dL_law_3266 rfl ?_
    refine g_iadd (pc := 3267) dL_law_3267 ?_
    refine g_scriptLoadS (pc := 3268) dL_law_3268 (nI_o4 _) hs (by omega) (by omega) ?_
    refine g_if_eq (pc := 3269) (tgt := 3276) dL_law_3269 rfl (fun _ => ?_) (fun h3269 => absurd (hx) h3269)
    refine g_iconst (pc := 3276) (v := 0) dL_law_3276 rfl ?_
    refine g_aload_n (pc := 3277) dL_law_3277 rfl trivial ?_
    refine g_invSX_s (pc := 3278) (As := [_, _, _, _, _, _]) dL_law_3278 rfl (h1) rfl rfl lk_L_336 rfl (nb rfl) ⟨nb rfl, nb rfl⟩ rfl (fun e1 => ?_)
    have e1 := e1.trans hs
    refine g_istore (pc := 3281) (lv' := [(0, _), (1, _), (2, _), (3, _), (4, _), (5, _), (6, _)]) dL_law_3281 (nl rfl) rfl ?_
    refine g_aload_n (pc := 3283) dL_law_3283 rfl trivial ?_
    refine g_aload_n (pc := 3284) dL_law_3284 rfl isA_0 ?_
    refine g_iload (pc := 3285) dL_law_3285 rfl ?_
    refine g_iconst (pc := 3287) (v := 1) dL_law_3287 rfl ?_
    refine g_iadd (pc := 3288) dL_law_3288 ?_
    refine g_scriptLoadS (pc := 3289) dL_law_3289 (nI_o1 _) e1 (by omega) (by omega) ?_
    refine g_aload_n (pc := 3290) dL_law_3290 rfl isA_0 ?_
    refine g_iload (pc := 3291) dL_law_3291 rfl ?_
    refine g_iconst (pc := 3293) (v := 2) dL_law_3293 rfl ?_
    refine g_iadd (pc := 3294) dL_law_3294 ?_
    refine g_scriptLoadS (pc := 3295) dL_law_3295 (nI_o2 _) e1 (by omega) (by omega) ?_
    refine g_aload_n (pc := 3296) dL_law_3296 rfl isA_0 ?_
    refine g_iload (pc := 3297) dL_law_3297 rfl ?_
    refine g_iconst (pc := 3299) (v := 3) dL_law_3299 rfl ?_
    refine g_iadd (pc := 3300) dL_law_3300 ?_
    refine g_scriptLoadS (pc := 3301) dL_law_3301 (nI_o3 _) e1 (by omega) (by omega) ?_
    refine g_aload_n (pc := 3302) dL_law_3302 rfl isA_0 ?_
    refine g_iload (pc := 3303) dL_law_3303 rfl ?_
    refine g_iconst (pc := 3305) (v := 4) dL_law_3305 rfl ?_
    refine g_iadd (pc := 3306) dL_law_3306 ?_
    refine g_scriptLoadS (pc := 3307) dL_law_3307 (nI_o4 _) e1 (by omega) (by omega) ?_
    refine g_if_eq (pc := 3308) (tgt := 3315) dL_law_3308 rfl (fun _ => ?_) (fun h3308 => absurd (hx) h3308)
    refine g_iconst (pc := 3315) (v := 0) dL_law_3315 rfl ?_
    refine g_invV_s (pc := 3316) (As := [_, _, _, _]) dL_law_3316 rfl (h2) rfl rfl (shK hM1 rfl) rfl rfl lk_L_338 rfl (nb rfl) ⟨nb rfl, nb rfl⟩ rfl (fun e2 => ?_)
    have e2 := e2.trans e1
    refine g_istore (pc := 3319) (lv' := [(0, _), (1, _), (2, _), (3, _), (4, _), (5, _), (6, _), (7, _)]) dL_law_3319 (nl rfl) rfl ?_
    refine g_aload_n (pc := 3321) dL_law_3321 rfl trivial ?_
    refine g_invV_r (pc := 3322) (As := []) dL_law_3322 rfl (n_thrown hM2) rfl rfl (shK hM2 rfl) rfl rfl lk_L_212 rfl (nb rfl) ⟨nb rfl, nb rfl⟩ rfl ?_
    refine g_iload (pc := 3325) dL_law_3325 rfl ?_
    refine g_icmp_eq (pc := 3327) (tgt := 3332) dL_law_3327 rfl (fun _ => ?_) (fun h3327 => absurd (ht) h3327)
    refine g_iload (pc := 3332) dL_law_3332 rfl ?_
    refine g_if_ne (pc := 3334) (tgt := 3349) dL_law_3334 rfl (fun h3334 => ?_) (fun h3334 => ?_)
    · refine g_goto (pc := 3349) (tgt := 4226) dL_law_3349 rfl ?_
      exact g_sub (lv' := AL o) ⟨rfl, rfl, rfl, rfl, rfl, rfl, trivial⟩ (kont e2)
    · refine g_aload_n (pc := 3337) dL_law_3337 rfl trivial ?_
      refine g_iconst (pc := 3338) (v := 0) dL_law_3338 rfl ?_
      refine g_laload (pc := 3339) dL_law_3339 (shK hM2 rfl) rfl (nb rfl) (nl rfl) ?_
      refine g_iload (pc := 3340) dL_law_3340 rfl ?_
      refine g_i2l (pc := 3342) dL_law_3342 rfl ?_
      refine g_lcmp (pc := 3343) dL_law_3343 ?_
      refine g_if_eq (pc := 3344) (tgt := 3349) dL_law_3344 rfl (fun _ => ?_) (fun h3344 => absurd ((lgc_self (hq (Decidable.not_not.mp h3334)))) h3344)
      refine g_goto (pc := 3349) (tgt := 4226) dL_law_3349 rfl ?_
      exact g_sub (lv' := AL o) ⟨rfl, rfl, rfl, rfl, rfl, rfl, trivial⟩ (kont e2)
  · rw [if_neg hx] at hf; subst hf
    refine g_aload_n (pc := 3244) dL_law_3244 rfl trivial ?_
    refine g_aload_n (pc := 3245) dL_law_3245 rfl isA_0 ?_
    refine g_iload (pc := 3246) dL_law_3246 rfl ?_
    refine g_iconst (pc := 3248) (v := 1) dL_law_3248 rfl ?_
    refine g_iadd (pc := 3249) dL_law_3249 ?_
    refine g_scriptLoadS (pc := 3250) dL_law_3250 (nI_o1 _) hs (by omega) (by omega) ?_
    refine g_aload_n (pc := 3251) dL_law_3251 rfl isA_0 ?_
    refine g_iload (pc := 3252) dL_law_3252 rfl ?_
    refine g_iconst (pc := 3254) (v := 2) dL_law_3254 rfl ?_
    refine g_iadd (pc := 3255) dL_law_3255 ?_
    refine g_scriptLoadS (pc := 3256) dL_law_3256 (nI_o2 _) hs (by omega) (by omega) ?_
    refine g_aload_n (pc := 3257) dL_law_3257 rfl isA_0 ?_
    refine g_iload (pc := 3258) dL_law_3258 rfl ?_
    refine g_iconst (pc := 3260) (v := 3) dL_law_3260 rfl ?_
    refine g_iadd (pc := 3261) dL_law_3261 ?_
    refine g_scriptLoadS (pc := 3262) dL_law_3262 (nI_o3 _) hs (by omega) (by omega) ?_
    refine g_aload_n (pc := 3263) dL_law_3263 rfl isA_0 ?_
    refine g_iload (pc := 3264) dL_law_3264 rfl ?_
    refine g_iconst (pc := 3266) (v := 4) dL_law_3266 rfl ?_
    refine g_iadd (pc := 3267) dL_law_3267 ?_
    refine g_scriptLoadS (pc := 3268) dL_law_3268 (nI_o4 _) hs (by omega) (by omega) ?_
    refine g_if_eq (pc := 3269) (tgt := 3276) dL_law_3269 rfl (fun h3269 => absurd h3269 (hx)) (fun _ => ?_)
    refine g_iconst (pc := 3272) (v := 1) dL_law_3272 rfl ?_
    refine g_goto (pc := 3273) (tgt := 3277) dL_law_3273 rfl ?_
    refine g_aload_n (pc := 3277) dL_law_3277 rfl trivial ?_
    refine g_invSX_s (pc := 3278) (As := [_, _, _, _, _, _]) dL_law_3278 rfl (h1) rfl rfl lk_L_336 rfl (nb rfl) ⟨nb rfl, nb rfl⟩ rfl (fun e1 => ?_)
    have e1 := e1.trans hs
    refine g_istore (pc := 3281) (lv' := [(0, _), (1, _), (2, _), (3, _), (4, _), (5, _), (6, _)]) dL_law_3281 (nl rfl) rfl ?_
    refine g_aload_n (pc := 3283) dL_law_3283 rfl trivial ?_
    refine g_aload_n (pc := 3284) dL_law_3284 rfl isA_0 ?_
    refine g_iload (pc := 3285) dL_law_3285 rfl ?_
    refine g_iconst (pc := 3287) (v := 1) dL_law_3287 rfl ?_
    refine g_iadd (pc := 3288) dL_law_3288 ?_
    refine g_scriptLoadS (pc := 3289) dL_law_3289 (nI_o1 _) e1 (by omega) (by omega) ?_
    refine g_aload_n (pc := 3290) dL_law_3290 rfl isA_0 ?_
    refine g_iload (pc := 3291) dL_law_3291 rfl ?_
    refine g_iconst (pc := 3293) (v := 2) dL_law_3293 rfl ?_
    refine g_iadd (pc := 3294) dL_law_3294 ?_
    refine g_scriptLoadS (pc := 3295) dL_law_3295 (nI_o2 _) e1 (by omega) (by omega) ?_
    refine g_aload_n (pc := 3296) dL_law_3296 rfl isA_0 ?_
    refine g_iload (pc := 3297) dL_law_3297 rfl ?_
    refine g_iconst (pc := 3299) (v := 3) dL_law_3299 rfl ?_
    refine g_iadd (pc := 3300) dL_law_3300 ?_
    refine g_scriptLoadS (pc := 3301) dL_law_3301 (nI_o3 _) e1 (by omega) (by omega) ?_
    refine g_aload_n (pc := 3302) dL_law_3302 rfl isA_0 ?_
    refine g_iload (pc := 3303) dL_law_3303 rfl ?_
    refine g_iconst (pc := 3305) (v := 4) dL_law_3305 rfl ?_
    refine g_iadd (pc := 3306) dL_law_3306 ?_
    refine g_scriptLoadS (pc := 3307) dL_law_3307 (nI_o4 _) e1 (by omega) (by omega) ?_
    refine g_if_eq (pc := 3308) (tgt := 3315) dL_law_3308 rfl (fun h3308 => absurd h3308 (hx)) (fun _ => ?_)
    refine g_iconst (pc := 3311) (v := 1) dL_law_3311 rfl ?_
    refine g_goto (pc := 3312) (tgt := 3316) dL_law_3312 rfl ?_
    refine g_invV_s (pc := 3316) (As := [_, _, _, _]) dL_law_3316 rfl (h2) rfl rfl (shK hM1 rfl) rfl rfl lk_L_338 rfl (nb rfl) ⟨nb rfl, nb rfl⟩ rfl (fun e2 => ?_)
    have e2 := e2.trans e1
    refine g_istore (pc := 3319) (lv' := [(0, _), (1, _), (2, _), (3, _), (4, _), (5, _), (6, _), (7, _)]) dL_law_3319 (nl rfl) rfl ?_
    refine g_aload_n (pc := 3321) dL_law_3321 rfl trivial ?_
    refine g_invV_r (pc := 3322) (As := []) dL_law_3322 rfl (n_thrown hM2) rfl rfl (shK hM2 rfl) rfl rfl lk_L_212 rfl (nb rfl) ⟨nb rfl, nb rfl⟩ rfl ?_
    refine g_iload (pc := 3325) dL_law_3325 rfl ?_
    refine g_icmp_eq (pc := 3327) (tgt := 3332) dL_law_3327 rfl (fun _ => ?_) (fun h3327 => absurd (ht) h3327)
    refine g_iload (pc := 3332) dL_law_3332 rfl ?_
    refine g_if_ne (pc := 3334) (tgt := 3349) dL_law_3334 rfl (fun h3334 => ?_) (fun h3334 => ?_)
    · refine g_goto (pc := 3349) (tgt := 4226) dL_law_3349 rfl ?_
      exact g_sub (lv' := AL o) ⟨rfl, rfl, rfl, rfl, rfl, rfl, trivial⟩ (kont e2)
    · refine g_aload_n (pc := 3337) dL_law_3337 rfl trivial ?_
      refine g_iconst (pc := 3338) (v := 0) dL_law_3338 rfl ?_
      refine g_laload (pc := 3339) dL_law_3339 (shK hM2 rfl) rfl (nb rfl) (nl rfl) ?_
      refine g_iload (pc := 3340) dL_law_3340 rfl ?_
      refine g_i2l (pc := 3342) dL_law_3342 rfl ?_
      refine g_lcmp (pc := 3343) dL_law_3343 ?_
      refine g_if_eq (pc := 3344) (tgt := 3349) dL_law_3344 rfl (fun _ => ?_) (fun h3344 => absurd ((lgc_self (hq (Decidable.not_not.mp h3334)))) h3344)
      refine g_goto (pc := 3349) (tgt := 4226) dL_law_3349 rfl ?_
      exact g_sub (lv' := AL o) ⟨rfl, rfl, rfl, rfl, rfl, rfl, trivial⟩ (kont e2)
set_option maxRecDepth 4000 in
theorem lc_44 {kk : Int32} {b : Int32} {f : Int32} (hf : f = if S.2 (o + 4) = 0 then 0 else 1) (hs : mS M = S) (ho : o + 5 ≤ S.1) (hS9 : S.1 < 2147483648) (hM : Shp M) (hM1 : Shp M1) (hM2 : Shp M2) (h1 : EvR l jL_power 8 165 4 24 [.ref 0, .int (S.2 (o + 1)), .int (S.2 (o + 2)), .int (S.2 (o + 3)), .int f, .ref 212] M (.inl (some (.int kk))) M1) (h2 : EvR l jX7_power 4 160 0 0 [.ref 198, .int (S.2 (o + 1)), .int (S.2 (o + 2)), .int (S.2 (o + 3)), .int f] M1 (.inl (some (.int b))) M2) (ht : mI M2 198 6 = kk) (hq : kk = 0 → mL M2 212 0 = b.toInt64) (kont : mS M2 = S → Go l jL_law 14 538 600002 7302232 Q 4226 (AL o) [] k n M2) : Go l jL_law 14 538 600002 7302232 Q 3352 (AL o) [] (k + 4) (n + 24) M := by
  by_cases hx : S.2 (o + 4) = 0
  · rw [if_pos hx] at hf; subst hf
    refine g_aload_n (pc := 3352) dL_law_3352 rfl trivial ?_
    refine g_aload_n (pc := 3353) dL_law_3353 rfl isA_0 ?_
    refine g_iload (pc := 3354) dL_law_3354 rfl ?_
    refine g_iconst (pc := 3356) (v := 1) dL_law_3356 rfl ?_
    refine g_iadd (pc := 3357) dL_law_3357 ?_
    refine g_scriptLoadS (pc := 3358) dL_law_3358 (nI_o1 _) hs (by omega) (by omega) ?_
    refine g_aload_n (pc := 3359) dL_law_3359 rfl isA_0 ?_
    refine g_iload (pc := 3360) dL_law_3360 rfl ?_
    refine g_iconst (pc := 3362) (v := 2) dL_law_3362 rfl ?_
    refine g_iadd (pc := 3363) dL_law_3363 ?_
    refine g_scriptLoadS (pc := 3364) dL_law_3364 (nI_o2 _) hs (by omega) (by omega) ?_
    refine g_aload_n (pc := 3365) dL_law_3365 rfl isA_0 ?_
    refine g_iload (pc := 3366) dL_law_3366 rfl ?_
    refine g_iconst (pc := 3368) (v := 3) dL_law_3368 rfl ?_
    refine g_iadd (pc := 3369) dL_law_3369 ?_
    refine g_scriptLoadS (pc := 3370) dL_law_3370 (nI_o3 _) hs (by omega) (by omega) ?_
    refine g_aload_n (pc := 3371) dL_law_3371 rfl isA_0 ?_
    refine g_iload (pc := 3372) dL_law_3372 rfl ?_
    refine g_iconst (pc := 3374) (v := 4) dL_law_3374 rfl ?_
    refine g_iadd (pc := 3375) dL_law_3375 ?_
    refine g_scriptLoadS (pc := 3376) dL_law_3376 (nI_o4 _) hs (by omega) (by omega) ?_
    refine g_if_eq (pc := 3377) (tgt := 3384) dL_law_3377 rfl (fun _ => ?_) (fun h3377 => absurd (hx) h3377)
    refine g_iconst (pc := 3384) (v := 0) dL_law_3384 rfl ?_
    refine g_aload_n (pc := 3385) dL_law_3385 rfl trivial ?_
    refine g_invSX_s (pc := 3386) (As := [_, _, _, _, _, _]) dL_law_3386 rfl (h1) rfl rfl lk_L_339 rfl (nb rfl) ⟨nb rfl, nb rfl⟩ rfl (fun e1 => ?_)
    have e1 := e1.trans hs
    refine g_istore (pc := 3389) (lv' := [(0, _), (1, _), (2, _), (3, _), (4, _), (5, _), (6, _)]) dL_law_3389 (nl rfl) rfl ?_
    refine g_aload_n (pc := 3391) dL_law_3391 rfl trivial ?_
    refine g_aload_n (pc := 3392) dL_law_3392 rfl isA_0 ?_
    refine g_iload (pc := 3393) dL_law_3393 rfl ?_
    refine g_iconst (pc := 3395) (v := 1) dL_law_3395 rfl ?_
    refine g_iadd (pc := 3396) dL_law_3396 ?_
    refine g_scriptLoadS (pc := 3397) dL_law_3397 (nI_o1 _) e1 (by omega) (by omega) ?_
    refine g_aload_n (pc := 3398) dL_law_3398 rfl isA_0 ?_
    refine g_iload (pc := 3399) dL_law_3399 rfl ?_
    refine g_iconst (pc := 3401) (v := 2) dL_law_3401 rfl ?_
    refine g_iadd (pc := 3402) dL_law_3402 ?_
    refine g_scriptLoadS (pc := 3403) dL_law_3403 (nI_o2 _) e1 (by omega) (by omega) ?_
    refine g_aload_n (pc := 3404) dL_law_3404 rfl isA_0 ?_
    refine g_iload (pc := 3405) dL_law_3405 rfl ?_
    refine g_iconst (pc := 3407) (v := 3) dL_law_3407 rfl ?_
    refine g_iadd (pc := 3408) dL_law_3408 ?_
    refine g_scriptLoadS (pc := 3409) dL_law_3409 (nI_o3 _) e1 (by omega) (by omega) ?_
    refine g_aload_n (pc := 3410) dL_law_3410 rfl isA_0 ?_
    refine g_iload (pc := 3411) dL_law_3411 rfl ?_
    refine g_iconst (pc := 3413) (v := 4) dL_law_3413 rfl ?_
    refine g_iadd (pc := 3414) dL_law_3414 ?_
    refine g_scriptLoadS (pc := 3415) dL_law_3415 (nI_o4 _) e1 (by omega) (by omega) ?_
    refine g_if_eq (pc := 3416) (tgt := 3423) dL_law_3416 rfl (fun _ => ?_) (fun h3416 => absurd (hx) h3416)
    refine g_iconst (pc := 3423) (v := 0) dL_law_3423 rfl ?_
    refine g_invV_s (pc := 3424) (As := [_, _, _, _]) dL_law_3424 rfl (h2) rfl rfl (shK hM1 rfl) rfl rfl lk_L_341 rfl (nb rfl) ⟨nb rfl, nb rfl⟩ rfl (fun e2 => ?_)
    have e2 := e2.trans e1
    refine g_istore (pc := 3427) (lv' := [(0, _), (1, _), (2, _), (3, _), (4, _), (5, _), (6, _), (7, _)]) dL_law_3427 (nl rfl) rfl ?_
    refine g_aload_n (pc := 3429) dL_law_3429 rfl trivial ?_
    refine g_invV_r (pc := 3430) (As := []) dL_law_3430 rfl (n_thrown hM2) rfl rfl (shK hM2 rfl) rfl rfl lk_L_212 rfl (nb rfl) ⟨nb rfl, nb rfl⟩ rfl ?_
    refine g_iload (pc := 3433) dL_law_3433 rfl ?_
    refine g_icmp_eq (pc := 3435) (tgt := 3440) dL_law_3435 rfl (fun _ => ?_) (fun h3435 => absurd (ht) h3435)
    refine g_iload (pc := 3440) dL_law_3440 rfl ?_
    refine g_if_ne (pc := 3442) (tgt := 3457) dL_law_3442 rfl (fun h3442 => ?_) (fun h3442 => ?_)
    · refine g_goto (pc := 3457) (tgt := 4226) dL_law_3457 rfl ?_
      exact g_sub (lv' := AL o) ⟨rfl, rfl, rfl, rfl, rfl, rfl, trivial⟩ (kont e2)
    · refine g_aload_n (pc := 3445) dL_law_3445 rfl trivial ?_
      refine g_iconst (pc := 3446) (v := 0) dL_law_3446 rfl ?_
      refine g_laload (pc := 3447) dL_law_3447 (shK hM2 rfl) rfl (nb rfl) (nl rfl) ?_
      refine g_iload (pc := 3448) dL_law_3448 rfl ?_
      refine g_i2l (pc := 3450) dL_law_3450 rfl ?_
      refine g_lcmp (pc := 3451) dL_law_3451 ?_
      refine g_if_eq (pc := 3452) (tgt := 3457) dL_law_3452 rfl (fun _ => ?_) (fun h3452 => absurd ((lgc_self (hq (Decidable.not_not.mp h3442)))) h3452)
      refine g_goto (pc := 3457) (tgt := 4226) dL_law_3457 rfl ?_
      exact g_sub (lv' := AL o) ⟨rfl, rfl, rfl, rfl, rfl, rfl, trivial⟩ (kont e2)
  · rw [if_neg hx] at hf; subst hf
    refine g_aload_n (pc := 3352) dL_law_3352 rfl trivial ?_
    refine g_aload_n (pc := 3353) dL_law_3353 rfl isA_0 ?_
    refine g_iload (pc := 3354) dL_law_3354 rfl ?_
    refine g_iconst (pc := 3356) (v := 1) dL_law_3356 rfl ?_
    refine g_iadd (pc := 3357) dL_law_3357 ?_
    refine g_scriptLoadS (pc := 3358) dL_law_3358 (nI_o1 _) hs (by omega) (by omega) ?_
    refine g_aload_n (pc := 3359) dL_law_3359 rfl isA_0 ?_
    refine g_iload (pc := 3360) dL_law_3360 rfl ?_
    refine g_iconst (pc := 3362) (v := 2) dL_law_3362 rfl ?_
    refine g_iadd (pc := 3363) dL_law_3363 ?_
    refine g_scriptLoadS (pc := 3364) dL_law_3364 (nI_o2 _) hs (by omega) (by omega) ?_
    refine g_aload_n (pc := 3365) dL_law_3365 rfl isA_0 ?_
    refine g_iload (pc := 3366) dL_law_3366 rfl ?_
    refine g_iconst (pc := 3368) (v := 3) dL_law_3368 rfl ?_
    refine g_iadd (pc := 3369) dL_law_3369 ?_
    refine g_scriptLoadS (pc := 3370) dL_law_3370 (nI_o3 _) hs (by omega) (by omega) ?_
    refine g_aload_n (pc := 3371) dL_law_3371 rfl isA_0 ?_
    refine g_iload (pc := 3372) dL_law_3372 rfl ?_
    refine g_iconst (pc := 3374) (v := 4) dL_law_3374 rfl ?_
    refine g_iadd (pc := 3375) dL_law_3375 ?_
    refine g_scriptLoadS (pc := 3376) dL_law_3376 (nI_o4 _) hs (by omega) (by omega) ?_
    refine g_if_eq (pc := 3377) (tgt := 3384) dL_law_3377 rfl (fun h3377 => absurd h3377 (hx)) (fun _ => ?_)
    refine g_iconst (pc := 3380) (v := 1) dL_law_3380 rfl ?_
    refine g_goto (pc := 3381) (tgt := 3385) dL_law_3381 rfl ?_
    refine g_aload_n (pc := 3385) dL_law_3385 rfl trivial ?_
    refine g_invSX_s (pc := 3386) (As := [_, _, _, _, _, _]) dL_law_3386 rfl (h1) rfl rfl lk_L_339 rfl (nb rfl) ⟨nb rfl, nb rfl⟩ rfl (fun e1 => ?_)
    have e1 := e1.trans hs
    refine g_istore (pc := 3389) (lv' := [(0, _), (1, _), (2, _), (3, _), (4, _), (5, _), (6, _)]) dL_law_3389 (nl rfl) rfl ?_
    refine g_aload_n (pc := 3391) dL_law_3391 rfl trivial ?_
    refine g_aload_n (pc := 3392) dL_law_3392 rfl isA_0 ?_
    refine g_iload (pc := 3393) dL_law_3393 rfl ?_
    refine g_iconst (pc := 3395) (v := 1) dL_law_3395 rfl ?_
    refine g_iadd (pc := 3396) dL_law_3396 ?_
    refine g_scriptLoadS (pc := 3397) dL_law_3397 (nI_o1 _) e1 (by omega) (by omega) ?_
    refine g_aload_n (pc := 3398) dL_law_3398 rfl isA_0 ?_
    refine g_iload (pc := 3399) dL_law_3399 rfl ?_
    refine g_iconst (pc := 3401) (v := 2) dL_law_3401 rfl ?_
    refine g_iadd (pc := 3402) dL_law_3402 ?_
    refine g_scriptLoadS (pc := 3403) dL_law_3403 (nI_o2 _) e1 (by omega) (by omega) ?_
    refine g_aload_n (pc := 3404) dL_law_3404 rfl isA_0 ?_
    refine g_iload (pc := 3405) dL_law_3405 rfl ?_
    refine g_iconst (pc := 3407) (v := 3) dL_law_3407 rfl ?_
    refine g_iadd (pc := 3408) dL_law_3408 ?_
    refine g_scriptLoadS (pc := 3409) dL_law_3409 (nI_o3 _) e1 (by omega) (by omega) ?_
    refine g_aload_n (pc := 3410) dL_law_3410 rfl isA_0 ?_
    refine g_iload (pc := 3411) dL_law_3411 rfl ?_
    refine g_iconst (pc := 3413) (v := 4) dL_law_3413 rfl ?_
    refine g_iadd (pc := 3414) dL_law_3414 ?_
    refine g_scriptLoadS (pc := 3415) dL_law_3415 (nI_o4 _) e1 (by omega) (by omega) ?_
    refine g_if_eq (pc := 3416) (tgt := 3423) dL_law_3416 rfl (fun h3416 => absurd h3416 (hx)) (fun _ => ?_)
    refine g_iconst (pc := 3419) (v := 1) dL_law_3419 rfl ?_
    refine g_goto (pc := 3420) (tgt := 3424) dL_law_3420 rfl ?_
    refine g_invV_s (pc := 3424) (As := [_, _, _, _]) dL_law_3424 rfl (h2) rfl rfl (shK hM1 rfl) rfl rfl lk_L_341 rfl (nb rfl) ⟨nb rfl, nb rfl⟩ rfl (fun e2 => ?_)
    have e2 := e2.trans e1
    refine g_istore (pc := 3427) (lv' := [(0, _), (1, _), (2, _), (3, _), (4, _), (5, _), (6, _), (7, _)]) dL_law_3427 (nl rfl) rfl ?_
    refine g_aload_n (pc := 3429) dL_law_3429 rfl trivial ?_
    refine g_invV_r (pc := 3430) (As := []) dL_law_3430 rfl (n_thrown hM2) rfl rfl (shK hM2 rfl) rfl rfl lk_L_212 rfl (nb rfl) ⟨nb rfl, nb rfl⟩ rfl ?_
    refine g_iload (pc := 3433) dL_law_3433 rfl ?_
    refine g_icmp_eq (pc := 3435) (tgt := 3440) dL_law_3435 rfl (fun _ => ?_) (fun h3435 => absurd (ht) h3435)
    refine g_iload (pc := 3440) dL_law_3440 rfl ?_
    refine g_if_ne (pc := 3442) (tgt := 3457) dL_law_3442 rfl (fun h3442 => ?_) (fun h3442 => ?_)
    · refine g_goto (pc := 3457) (tgt := 4226) dL_law_3457 rfl ?_
      exact g_sub (lv' := AL o) ⟨rfl, rfl, rfl, rfl, rfl, rfl, trivial⟩ (kont e2)
    · refine g_aload_n (pc := 3445) dL_law_3445 rfl trivial ?_
      refine g_iconst (pc := 3446) (v := 0) dL_law_3446 rfl ?_
      refine g_laload (pc := 3447) dL_law_3447 (shK hM2 rfl) rfl (nb rfl) (nl rfl) ?_
      refine g_iload (pc := 3448) dL_law_3448 rfl ?_
      refine g_i2l (pc := 3450) dL_law_3450 rfl ?_
      refine g_lcmp (pc := 3451) dL_law_3451 ?_
      refine g_if_eq (pc := 3452) (tgt := 3457) dL_law_3452 rfl (fun _ => ?_) (fun h3452 => absurd ((lgc_self (hq (Decidable.not_not.mp h3442)))) h3452)
      refine g_goto (pc := 3457) (tgt := 4226) dL_law_3457 rfl ?_
      exact g_sub (lv' := AL o) ⟨rfl, rfl, rfl, rfl, rfl, rfl, trivial⟩ (kont e2)
set_option maxRecDepth 4000 in
theorem lc_45 {kk : Int32} {b : Int32} (hs : mS M = S) (ho : o + 5 ≤ S.1) (hS9 : S.1 < 2147483648) (hM : Shp M) (hM1 : Shp M1) (hM2 : Shp M2) (h1 : EvR l jL_invert 8 172 2 12 [.ref 0, .int (S.2 (o + 1)), .int (S.2 (o + 2)), .ref 212] M (.inl (some (.int kk))) M1) (h2 : EvR l jX7_invert 4 160 0 0 [.ref 198, .int (S.2 (o + 1)), .int (S.2 (o + 2))] M1 (.inl (some (.int b))) M2) (ht : mI M2 198 6 = kk) (hq : kk = 0 → mL M2 212 0 = b.toInt64) (kont : mS M2 = S → Go l jL_law 14 538 600002 7302232 Q 4226 (AL o) [] k n M2) : Go l jL_law 14 538 600002 7302232 Q 3460 (AL o) [] (k + 2) (n + 12) M := by
  refine g_aload_n (pc := 3460) dL_law_3460 rfl trivial ?_
  refine g_aload_n (pc := 3461) dL_law_3461 rfl isA_0 ?_
  refine g_iload (pc := 3462) dL_law_3462 rfl ?_
  refine g_iconst (pc := 3464) (v := 1) dL_law_3464 rfl ?_
  refine g_iadd (pc := 3465) dL_law_3465 ?_
  refine g_scriptLoadS (pc := 3466) dL_law_3466 (nI_o1 _) hs (by omega) (by omega) ?_
  refine g_aload_n (pc := 3467) dL_law_3467 rfl isA_0 ?_
  refine g_iload (pc := 3468) dL_law_3468 rfl ?_
  refine g_iconst (pc := 3470) (v := 2) dL_law_3470 rfl ?_
  refine g_iadd (pc := 3471) dL_law_3471 ?_
  refine g_scriptLoadS (pc := 3472) dL_law_3472 (nI_o2 _) hs (by omega) (by omega) ?_
  refine g_aload_n (pc := 3473) dL_law_3473 rfl trivial ?_
  refine g_invSX_s (pc := 3474) (As := [_, _, _, _]) dL_law_3474 rfl (h1) rfl rfl lk_L_342 rfl (nb rfl) ⟨nb rfl, nb rfl⟩ rfl (fun e1 => ?_)
  have e1 := e1.trans hs
  refine g_istore (pc := 3477) (lv' := [(0, _), (1, _), (2, _), (3, _), (4, _), (5, _), (6, _)]) dL_law_3477 (nl rfl) rfl ?_
  refine g_aload_n (pc := 3479) dL_law_3479 rfl trivial ?_
  refine g_aload_n (pc := 3480) dL_law_3480 rfl isA_0 ?_
  refine g_iload (pc := 3481) dL_law_3481 rfl ?_
  refine g_iconst (pc := 3483) (v := 1) dL_law_3483 rfl ?_
  refine g_iadd (pc := 3484) dL_law_3484 ?_
  refine g_scriptLoadS (pc := 3485) dL_law_3485 (nI_o1 _) e1 (by omega) (by omega) ?_
  refine g_aload_n (pc := 3486) dL_law_3486 rfl isA_0 ?_
  refine g_iload (pc := 3487) dL_law_3487 rfl ?_
  refine g_iconst (pc := 3489) (v := 2) dL_law_3489 rfl ?_
  refine g_iadd (pc := 3490) dL_law_3490 ?_
  refine g_scriptLoadS (pc := 3491) dL_law_3491 (nI_o2 _) e1 (by omega) (by omega) ?_
  refine g_invV_s (pc := 3492) (As := [_, _]) dL_law_3492 rfl (h2) rfl rfl (shK hM1 rfl) rfl rfl lk_L_344 rfl (nb rfl) ⟨nb rfl, nb rfl⟩ rfl (fun e2 => ?_)
  have e2 := e2.trans e1
  refine g_istore (pc := 3495) (lv' := [(0, _), (1, _), (2, _), (3, _), (4, _), (5, _), (6, _), (7, _)]) dL_law_3495 (nl rfl) rfl ?_
  refine g_aload_n (pc := 3497) dL_law_3497 rfl trivial ?_
  refine g_invV_r (pc := 3498) (As := []) dL_law_3498 rfl (n_thrown hM2) rfl rfl (shK hM2 rfl) rfl rfl lk_L_212 rfl (nb rfl) ⟨nb rfl, nb rfl⟩ rfl ?_
  refine g_iload (pc := 3501) dL_law_3501 rfl ?_
  refine g_icmp_eq (pc := 3503) (tgt := 3508) dL_law_3503 rfl (fun _ => ?_) (fun h3503 => absurd (ht) h3503)
  refine g_iload (pc := 3508) dL_law_3508 rfl ?_
  refine g_if_ne (pc := 3510) (tgt := 3525) dL_law_3510 rfl (fun h3510 => ?_) (fun h3510 => ?_)
  · refine g_goto (pc := 3525) (tgt := 4226) dL_law_3525 rfl ?_
    exact g_sub (lv' := AL o) ⟨rfl, rfl, rfl, rfl, rfl, rfl, trivial⟩ (kont e2)
  · refine g_aload_n (pc := 3513) dL_law_3513 rfl trivial ?_
    refine g_iconst (pc := 3514) (v := 0) dL_law_3514 rfl ?_
    refine g_laload (pc := 3515) dL_law_3515 (shK hM2 rfl) rfl (nb rfl) (nl rfl) ?_
    refine g_iload (pc := 3516) dL_law_3516 rfl ?_
    refine g_i2l (pc := 3518) dL_law_3518 rfl ?_
    refine g_lcmp (pc := 3519) dL_law_3519 ?_
    refine g_if_eq (pc := 3520) (tgt := 3525) dL_law_3520 rfl (fun _ => ?_) (fun h3520 => absurd ((lgc_self (hq (Decidable.not_not.mp h3510)))) h3520)
    refine g_goto (pc := 3525) (tgt := 4226) dL_law_3525 rfl ?_
    exact g_sub (lv' := AL o) ⟨rfl, rfl, rfl, rfl, rfl, rfl, trivial⟩ (kont e2)
set_option maxRecDepth 4000 in
theorem lc_46 {kk : Int32} {b : Int32} (hs : mS M = S) (ho : o + 5 ≤ S.1) (hS9 : S.1 < 2147483648) (hM : Shp M) (hM1 : Shp M1) (hM2 : Shp M2) (h1 : EvR l jL_close 8 162 2 12 [.ref 0, .int (S.2 (o + 1)), .int (S.2 (o + 2)), .ref 212] M (.inl (some (.int kk))) M1) (h2 : EvR l jX7_close 4 160 0 0 [.ref 198, .int (S.2 (o + 1)), .int (S.2 (o + 2))] M1 (.inl (some (.int b))) M2) (ht : mI M2 198 6 = kk) (hq : kk = 0 → mL M2 212 0 = b.toInt64) (kont : mS M2 = S → Go l jL_law 14 538 600002 7302232 Q 4226 (AL o) [] k n M2) : Go l jL_law 14 538 600002 7302232 Q 3528 (AL o) [] (k + 2) (n + 12) M := by
  refine g_aload_n (pc := 3528) dL_law_3528 rfl trivial ?_
  refine g_aload_n (pc := 3529) dL_law_3529 rfl isA_0 ?_
  refine g_iload (pc := 3530) dL_law_3530 rfl ?_
  refine g_iconst (pc := 3532) (v := 1) dL_law_3532 rfl ?_
  refine g_iadd (pc := 3533) dL_law_3533 ?_
  refine g_scriptLoadS (pc := 3534) dL_law_3534 (nI_o1 _) hs (by omega) (by omega) ?_
  refine g_aload_n (pc := 3535) dL_law_3535 rfl isA_0 ?_
  refine g_iload (pc := 3536) dL_law_3536 rfl ?_
  refine g_iconst (pc := 3538) (v := 2) dL_law_3538 rfl ?_
  refine g_iadd (pc := 3539) dL_law_3539 ?_
  refine g_scriptLoadS (pc := 3540) dL_law_3540 (nI_o2 _) hs (by omega) (by omega) ?_
  refine g_aload_n (pc := 3541) dL_law_3541 rfl trivial ?_
  refine g_invSX_s (pc := 3542) (As := [_, _, _, _]) dL_law_3542 rfl (h1) rfl rfl lk_L_345 rfl (nb rfl) ⟨nb rfl, nb rfl⟩ rfl (fun e1 => ?_)
  have e1 := e1.trans hs
  refine g_istore (pc := 3545) (lv' := [(0, _), (1, _), (2, _), (3, _), (4, _), (5, _), (6, _)]) dL_law_3545 (nl rfl) rfl ?_
  refine g_aload_n (pc := 3547) dL_law_3547 rfl trivial ?_
  refine g_aload_n (pc := 3548) dL_law_3548 rfl isA_0 ?_
  refine g_iload (pc := 3549) dL_law_3549 rfl ?_
  refine g_iconst (pc := 3551) (v := 1) dL_law_3551 rfl ?_
  refine g_iadd (pc := 3552) dL_law_3552 ?_
  refine g_scriptLoadS (pc := 3553) dL_law_3553 (nI_o1 _) e1 (by omega) (by omega) ?_
  refine g_aload_n (pc := 3554) dL_law_3554 rfl isA_0 ?_
  refine g_iload (pc := 3555) dL_law_3555 rfl ?_
  refine g_iconst (pc := 3557) (v := 2) dL_law_3557 rfl ?_
  refine g_iadd (pc := 3558) dL_law_3558 ?_
  refine g_scriptLoadS (pc := 3559) dL_law_3559 (nI_o2 _) e1 (by omega) (by omega) ?_
  refine g_invV_s (pc := 3560) (As := [_, _]) dL_law_3560 rfl (h2) rfl rfl (shK hM1 rfl) rfl rfl lk_L_347 rfl (nb rfl) ⟨nb rfl, nb rfl⟩ rfl (fun e2 => ?_)
  have e2 := e2.trans e1
  refine g_istore (pc := 3563) (lv' := [(0, _), (1, _), (2, _), (3, _), (4, _), (5, _), (6, _), (7, _)]) dL_law_3563 (nl rfl) rfl ?_
  refine g_aload_n (pc := 3565) dL_law_3565 rfl trivial ?_
  refine g_invV_r (pc := 3566) (As := []) dL_law_3566 rfl (n_thrown hM2) rfl rfl (shK hM2 rfl) rfl rfl lk_L_212 rfl (nb rfl) ⟨nb rfl, nb rfl⟩ rfl ?_
  refine g_iload (pc := 3569) dL_law_3569 rfl ?_
  refine g_icmp_eq (pc := 3571) (tgt := 3576) dL_law_3571 rfl (fun _ => ?_) (fun h3571 => absurd (ht) h3571)
  refine g_iload (pc := 3576) dL_law_3576 rfl ?_
  refine g_if_ne (pc := 3578) (tgt := 3593) dL_law_3578 rfl (fun h3578 => ?_) (fun h3578 => ?_)
  · refine g_goto (pc := 3593) (tgt := 4226) dL_law_3593 rfl ?_
    exact g_sub (lv' := AL o) ⟨rfl, rfl, rfl, rfl, rfl, rfl, trivial⟩ (kont e2)
  · refine g_aload_n (pc := 3581) dL_law_3581 rfl trivial ?_
    refine g_iconst (pc := 3582) (v := 0) dL_law_3582 rfl ?_
    refine g_laload (pc := 3583) dL_law_3583 (shK hM2 rfl) rfl (nb rfl) (nl rfl) ?_
    refine g_iload (pc := 3584) dL_law_3584 rfl ?_
    refine g_i2l (pc := 3586) dL_law_3586 rfl ?_
    refine g_lcmp (pc := 3587) dL_law_3587 ?_
    refine g_if_eq (pc := 3588) (tgt := 3593) dL_law_3588 rfl (fun _ => ?_) (fun h3588 => absurd ((lgc_self (hq (Decidable.not_not.mp h3578)))) h3588)
    refine g_goto (pc := 3593) (tgt := 4226) dL_law_3593 rfl ?_
    exact g_sub (lv' := AL o) ⟨rfl, rfl, rfl, rfl, rfl, rfl, trivial⟩ (kont e2)
set_option maxRecDepth 4000 in
theorem lc_47 {kk : Int32} {b : Int32} (hs : mS M = S) (ho : o + 5 ≤ S.1) (hS9 : S.1 < 2147483648) (hM : Shp M) (hM1 : Shp M1) (hM2 : Shp M2) (h1 : EvR l jL_reduce 8 163 2 12 [.ref 0, .int (S.2 (o + 1)), .int (S.2 (o + 2)), .ref 212] M (.inl (some (.int kk))) M1) (h2 : EvR l jX7_reduce 4 160 0 0 [.ref 198, .int (S.2 (o + 1)), .int (S.2 (o + 2))] M1 (.inl (some (.int b))) M2) (ht : mI M2 198 6 = kk) (hq : kk = 0 → mL M2 212 0 = b.toInt64) (kont : mS M2 = S → Go l jL_law 14 538 600002 7302232 Q 4226 (AL o) [] k n M2) : Go l jL_law 14 538 600002 7302232 Q 3596 (AL o) [] (k + 2) (n + 12) M := by
  refine g_aload_n (pc := 3596) dL_law_3596 rfl trivial ?_
  refine g_aload_n (pc := 3597) dL_law_3597 rfl isA_0 ?_
  refine g_iload (pc := 3598) dL_law_3598 rfl ?_
  refine g_iconst (pc := 3600) (v := 1) dL_law_3600 rfl ?_
  refine g_iadd (pc := 3601) dL_law_3601 ?_
  refine g_scriptLoadS (pc := 3602) dL_law_3602 (nI_o1 _) hs (by omega) (by omega) ?_
  refine g_aload_n (pc := 3603) dL_law_3603 rfl isA_0 ?_
  refine g_iload (pc := 3604) dL_law_3604 rfl ?_
  refine g_iconst (pc := 3606) (v := 2) dL_law_3606 rfl ?_
  refine g_iadd (pc := 3607) dL_law_3607 ?_
  refine g_scriptLoadS (pc := 3608) dL_law_3608 (nI_o2 _) hs (by omega) (by omega) ?_
  refine g_aload_n (pc := 3609) dL_law_3609 rfl trivial ?_
  refine g_invSX_s (pc := 3610) (As := [_, _, _, _]) dL_law_3610 rfl (h1) rfl rfl lk_L_348 rfl (nb rfl) ⟨nb rfl, nb rfl⟩ rfl (fun e1 => ?_)
  have e1 := e1.trans hs
  refine g_istore (pc := 3613) (lv' := [(0, _), (1, _), (2, _), (3, _), (4, _), (5, _), (6, _)]) dL_law_3613 (nl rfl) rfl ?_
  refine g_aload_n (pc := 3615) dL_law_3615 rfl trivial ?_
  refine g_aload_n (pc := 3616) dL_law_3616 rfl isA_0 ?_
  refine g_iload (pc := 3617) dL_law_3617 rfl ?_
  refine g_iconst (pc := 3619) (v := 1) dL_law_3619 rfl ?_
  refine g_iadd (pc := 3620) dL_law_3620 ?_
  refine g_scriptLoadS (pc := 3621) dL_law_3621 (nI_o1 _) e1 (by omega) (by omega) ?_
  refine g_aload_n (pc := 3622) dL_law_3622 rfl isA_0 ?_
  refine g_iload (pc := 3623) dL_law_3623 rfl ?_
  refine g_iconst (pc := 3625) (v := 2) dL_law_3625 rfl ?_
  refine g_iadd (pc := 3626) dL_law_3626 ?_
  refine g_scriptLoadS (pc := 3627) dL_law_3627 (nI_o2 _) e1 (by omega) (by omega) ?_
  refine g_invV_s (pc := 3628) (As := [_, _]) dL_law_3628 rfl (h2) rfl rfl (shK hM1 rfl) rfl rfl lk_L_350 rfl (nb rfl) ⟨nb rfl, nb rfl⟩ rfl (fun e2 => ?_)
  have e2 := e2.trans e1
  refine g_istore (pc := 3631) (lv' := [(0, _), (1, _), (2, _), (3, _), (4, _), (5, _), (6, _), (7, _)]) dL_law_3631 (nl rfl) rfl ?_
  refine g_aload_n (pc := 3633) dL_law_3633 rfl trivial ?_
  refine g_invV_r (pc := 3634) (As := []) dL_law_3634 rfl (n_thrown hM2) rfl rfl (shK hM2 rfl) rfl rfl lk_L_212 rfl (nb rfl) ⟨nb rfl, nb rfl⟩ rfl ?_
  refine g_iload (pc := 3637) dL_law_3637 rfl ?_
  refine g_icmp_eq (pc := 3639) (tgt := 3644) dL_law_3639 rfl (fun _ => ?_) (fun h3639 => absurd (ht) h3639)
  refine g_iload (pc := 3644) dL_law_3644 rfl ?_
  refine g_if_ne (pc := 3646) (tgt := 3661) dL_law_3646 rfl (fun h3646 => ?_) (fun h3646 => ?_)
  · refine g_goto (pc := 3661) (tgt := 4226) dL_law_3661 rfl ?_
    exact g_sub (lv' := AL o) ⟨rfl, rfl, rfl, rfl, rfl, rfl, trivial⟩ (kont e2)
  · refine g_aload_n (pc := 3649) dL_law_3649 rfl trivial ?_
    refine g_iconst (pc := 3650) (v := 0) dL_law_3650 rfl ?_
    refine g_laload (pc := 3651) dL_law_3651 (shK hM2 rfl) rfl (nb rfl) (nl rfl) ?_
    refine g_iload (pc := 3652) dL_law_3652 rfl ?_
    refine g_i2l (pc := 3654) dL_law_3654 rfl ?_
    refine g_lcmp (pc := 3655) dL_law_3655 ?_
    refine g_if_eq (pc := 3656) (tgt := 3661) dL_law_3656 rfl (fun _ => ?_) (fun h3656 => absurd ((lgc_self (hq (Decidable.not_not.mp h3646)))) h3656)
    refine g_goto (pc := 3661) (tgt := 4226) dL_law_3661 rfl ?_
    exact g_sub (lv' := AL o) ⟨rfl, rfl, rfl, rfl, rfl, rfl, trivial⟩ (kont e2)
set_option maxRecDepth 4000 in
theorem lc_48 {kk : Int32} {b : Int32} (hs : mS M = S) (ho : o + 5 ≤ S.1) (hS9 : S.1 < 2147483648) (hM : Shp M) (hM1 : Shp M1) (hM2 : Shp M2) (h1 : EvR l jL_exchange 10 187 3 18 [.ref 0, .int (S.2 (o + 1)), .int (S.2 (o + 2)), .int (S.2 (o + 3)), .ref 212] M (.inl (some (.int kk))) M1) (h2 : EvR l jX7_exchange 4 160 0 0 [.ref 198, .int (S.2 (o + 1)), .int (S.2 (o + 2)), .int (S.2 (o + 3))] M1 (.inl (some (.int b))) M2) (ht : mI M2 198 6 = kk) (hq : kk = 0 → mL M2 212 0 = b.toInt64) (kont : mS M2 = S → Go l jL_law 14 538 600002 7302232 Q 4226 (AL o) [] k n M2) : Go l jL_law 14 538 600002 7302232 Q 3664 (AL o) [] (k + 3) (n + 18) M := by
  refine g_aload_n (pc := 3664) dL_law_3664 rfl trivial ?_
  refine g_aload_n (pc := 3665) dL_law_3665 rfl isA_0 ?_
  refine g_iload (pc := 3666) dL_law_3666 rfl ?_
  refine g_iconst (pc := 3668) (v := 1) dL_law_3668 rfl ?_
  refine g_iadd (pc := 3669) dL_law_3669 ?_
  refine g_scriptLoadS (pc := 3670) dL_law_3670 (nI_o1 _) hs (by omega) (by omega) ?_
  refine g_aload_n (pc := 3671) dL_law_3671 rfl isA_0 ?_
  refine g_iload (pc := 3672) dL_law_3672 rfl ?_
  refine g_iconst (pc := 3674) (v := 2) dL_law_3674 rfl ?_
  refine g_iadd (pc := 3675) dL_law_3675 ?_
  refine g_scriptLoadS (pc := 3676) dL_law_3676 (nI_o2 _) hs (by omega) (by omega) ?_
  refine g_aload_n (pc := 3677) dL_law_3677 rfl isA_0 ?_
  refine g_iload (pc := 3678) dL_law_3678 rfl ?_
  refine g_iconst (pc := 3680) (v := 3) dL_law_3680 rfl ?_
  refine g_iadd (pc := 3681) dL_law_3681 ?_
  refine g_scriptLoadS (pc := 3682) dL_law_3682 (nI_o3 _) hs (by omega) (by omega) ?_
  refine g_aload_n (pc := 3683) dL_law_3683 rfl trivial ?_
  refine g_invSX_s (pc := 3684) (As := [_, _, _, _, _]) dL_law_3684 rfl (h1) rfl rfl lk_L_351 rfl (nb rfl) ⟨nb rfl, nb rfl⟩ rfl (fun e1 => ?_)
  have e1 := e1.trans hs
  refine g_istore (pc := 3687) (lv' := [(0, _), (1, _), (2, _), (3, _), (4, _), (5, _), (6, _)]) dL_law_3687 (nl rfl) rfl ?_
  refine g_aload_n (pc := 3689) dL_law_3689 rfl trivial ?_
  refine g_aload_n (pc := 3690) dL_law_3690 rfl isA_0 ?_
  refine g_iload (pc := 3691) dL_law_3691 rfl ?_
  refine g_iconst (pc := 3693) (v := 1) dL_law_3693 rfl ?_
  refine g_iadd (pc := 3694) dL_law_3694 ?_
  refine g_scriptLoadS (pc := 3695) dL_law_3695 (nI_o1 _) e1 (by omega) (by omega) ?_
  refine g_aload_n (pc := 3696) dL_law_3696 rfl isA_0 ?_
  refine g_iload (pc := 3697) dL_law_3697 rfl ?_
  refine g_iconst (pc := 3699) (v := 2) dL_law_3699 rfl ?_
  refine g_iadd (pc := 3700) dL_law_3700 ?_
  refine g_scriptLoadS (pc := 3701) dL_law_3701 (nI_o2 _) e1 (by omega) (by omega) ?_
  refine g_aload_n (pc := 3702) dL_law_3702 rfl isA_0 ?_
  refine g_iload (pc := 3703) dL_law_3703 rfl ?_
  refine g_iconst (pc := 3705) (v := 3) dL_law_3705 rfl ?_
  refine g_iadd (pc := 3706) dL_law_3706 ?_
  refine g_scriptLoadS (pc := 3707) dL_law_3707 (nI_o3 _) e1 (by omega) (by omega) ?_
  refine g_invV_s (pc := 3708) (As := [_, _, _]) dL_law_3708 rfl (h2) rfl rfl (shK hM1 rfl) rfl rfl lk_L_353 rfl (nb rfl) ⟨nb rfl, nb rfl⟩ rfl (fun e2 => ?_)
  have e2 := e2.trans e1
  refine g_istore (pc := 3711) (lv' := [(0, _), (1, _), (2, _), (3, _), (4, _), (5, _), (6, _), (7, _)]) dL_law_3711 (nl rfl) rfl ?_
  refine g_aload_n (pc := 3713) dL_law_3713 rfl trivial ?_
  refine g_invV_r (pc := 3714) (As := []) dL_law_3714 rfl (n_thrown hM2) rfl rfl (shK hM2 rfl) rfl rfl lk_L_212 rfl (nb rfl) ⟨nb rfl, nb rfl⟩ rfl ?_
  refine g_iload (pc := 3717) dL_law_3717 rfl ?_
  refine g_icmp_eq (pc := 3719) (tgt := 3724) dL_law_3719 rfl (fun _ => ?_) (fun h3719 => absurd (ht) h3719)
  refine g_iload (pc := 3724) dL_law_3724 rfl ?_
  refine g_if_ne (pc := 3726) (tgt := 3741) dL_law_3726 rfl (fun h3726 => ?_) (fun h3726 => ?_)
  · refine g_goto (pc := 3741) (tgt := 4226) dL_law_3741 rfl ?_
    exact g_sub (lv' := AL o) ⟨rfl, rfl, rfl, rfl, rfl, rfl, trivial⟩ (kont e2)
  · refine g_aload_n (pc := 3729) dL_law_3729 rfl trivial ?_
    refine g_iconst (pc := 3730) (v := 0) dL_law_3730 rfl ?_
    refine g_laload (pc := 3731) dL_law_3731 (shK hM2 rfl) rfl (nb rfl) (nl rfl) ?_
    refine g_iload (pc := 3732) dL_law_3732 rfl ?_
    refine g_i2l (pc := 3734) dL_law_3734 rfl ?_
    refine g_lcmp (pc := 3735) dL_law_3735 ?_
    refine g_if_eq (pc := 3736) (tgt := 3741) dL_law_3736 rfl (fun _ => ?_) (fun h3736 => absurd ((lgc_self (hq (Decidable.not_not.mp h3726)))) h3736)
    refine g_goto (pc := 3741) (tgt := 4226) dL_law_3741 rfl ?_
    exact g_sub (lv' := AL o) ⟨rfl, rfl, rfl, rfl, rfl, rfl, trivial⟩ (kont e2)
set_option maxRecDepth 4000 in
theorem lc_49 {kk : Int32} {b : Int32} {f : Int32} (hf : f = if S.2 (o + 2) = 0 then 0 else 1) (hs : mS M = S) (ho : o + 5 ≤ S.1) (hS9 : S.1 < 2147483648) (hM : Shp M) (hM1 : Shp M1) (hM2 : Shp M2) (h1 : EvR l jL_keep 8 163 1 6 [.ref 0, .int (S.2 (o + 1)), .int f, .ref 212] M (.inl (some (.int kk))) M1) (h2 : EvR l jX7_keep 4 160 0 0 [.ref 198, .int (S.2 (o + 1)), .int f] M1 (.inl (some (.int b))) M2) (ht : mI M2 198 6 = kk) (hq : kk = 0 → mL M2 212 0 = b.toInt64) (kont : mS M2 = S → Go l jL_law 14 538 600002 7302232 Q 4226 (AL o) [] k n M2) : Go l jL_law 14 538 600002 7302232 Q 3744 (AL o) [] (k + 1) (n + 6) M := by
  by_cases hx : S.2 (o + 2) = 0
  · rw [if_pos hx] at hf; subst hf
    refine g_aload_n (pc := 3744) dL_law_3744 rfl trivial ?_
    refine g_aload_n (pc := 3745) dL_law_3745 rfl isA_0 ?_
    refine g_iload (pc := 3746) dL_law_3746 rfl ?_
    refine g_iconst (pc := 3748) (v := 1) dL_law_3748 rfl ?_
    refine g_iadd (pc := 3749) dL_law_3749 ?_
    refine g_scriptLoadS (pc := 3750) dL_law_3750 (nI_o1 _) hs (by omega) (by omega) ?_
    refine g_aload_n (pc := 3751) dL_law_3751 rfl isA_0 ?_
    refine g_iload (pc := 3752) dL_law_3752 rfl ?_
    refine g_iconst (pc := 3754) (v := 2) dL_law_3754 rfl ?_
    refine g_iadd (pc := 3755) dL_law_3755 ?_
    refine g_scriptLoadS (pc := 3756) dL_law_3756 (nI_o2 _) hs (by omega) (by omega) ?_
    refine g_if_eq (pc := 3757) (tgt := 3764) dL_law_3757 rfl (fun _ => ?_) (fun h3757 => absurd (hx) h3757)
    refine g_iconst (pc := 3764) (v := 0) dL_law_3764 rfl ?_
    refine g_aload_n (pc := 3765) dL_law_3765 rfl trivial ?_
    refine g_invSX_s (pc := 3766) (As := [_, _, _, _]) dL_law_3766 rfl (h1) rfl rfl lk_L_354 rfl (nb rfl) ⟨nb rfl, nb rfl⟩ rfl (fun e1 => ?_)
    have e1 := e1.trans hs
    refine g_istore (pc := 3769) (lv' := [(0, _), (1, _), (2, _), (3, _), (4, _), (5, _), (6, _)]) dL_law_3769 (nl rfl) rfl ?_
    refine g_aload_n (pc := 3771) dL_law_3771 rfl trivial ?_
    refine g_aload_n (pc := 3772) dL_law_3772 rfl isA_0 ?_
    refine g_iload (pc := 3773) dL_law_3773 rfl ?_
    refine g_iconst (pc := 3775) (v := 1) dL_law_3775 rfl ?_
    refine g_iadd (pc := 3776) dL_law_3776 ?_
    refine g_scriptLoadS (pc := 3777) dL_law_3777 (nI_o1 _) e1 (by omega) (by omega) ?_
    refine g_aload_n (pc := 3778) dL_law_3778 rfl isA_0 ?_
    refine g_iload (pc := 3779) dL_law_3779 rfl ?_
    refine g_iconst (pc := 3781) (v := 2) dL_law_3781 rfl ?_
    refine g_iadd (pc := 3782) dL_law_3782 ?_
    refine g_scriptLoadS (pc := 3783) dL_law_3783 (nI_o2 _) e1 (by omega) (by omega) ?_
    refine g_if_eq (pc := 3784) (tgt := 3791) dL_law_3784 rfl (fun _ => ?_) (fun h3784 => absurd (hx) h3784)
    refine g_iconst (pc := 3791) (v := 0) dL_law_3791 rfl ?_
    refine g_invV_s (pc := 3792) (As := [_, _]) dL_law_3792 rfl (h2) rfl rfl (shK hM1 rfl) rfl rfl lk_L_357 rfl (nb rfl) ⟨nb rfl, nb rfl⟩ rfl (fun e2 => ?_)
    have e2 := e2.trans e1
    refine g_istore (pc := 3795) (lv' := [(0, _), (1, _), (2, _), (3, _), (4, _), (5, _), (6, _), (7, _)]) dL_law_3795 (nl rfl) rfl ?_
    refine g_aload_n (pc := 3797) dL_law_3797 rfl trivial ?_
    refine g_invV_r (pc := 3798) (As := []) dL_law_3798 rfl (n_thrown hM2) rfl rfl (shK hM2 rfl) rfl rfl lk_L_212 rfl (nb rfl) ⟨nb rfl, nb rfl⟩ rfl ?_
    refine g_iload (pc := 3801) dL_law_3801 rfl ?_
    refine g_icmp_eq (pc := 3803) (tgt := 3808) dL_law_3803 rfl (fun _ => ?_) (fun h3803 => absurd (ht) h3803)
    refine g_iload (pc := 3808) dL_law_3808 rfl ?_
    refine g_if_ne (pc := 3810) (tgt := 3825) dL_law_3810 rfl (fun h3810 => ?_) (fun h3810 => ?_)
    · refine g_goto (pc := 3825) (tgt := 4226) dL_law_3825 rfl ?_
      exact g_sub (lv' := AL o) ⟨rfl, rfl, rfl, rfl, rfl, rfl, trivial⟩ (kont e2)
    · refine g_aload_n (pc := 3813) dL_law_3813 rfl trivial ?_
      refine g_iconst (pc := 3814) (v := 0) dL_law_3814 rfl ?_
      refine g_laload (pc := 3815) dL_law_3815 (shK hM2 rfl) rfl (nb rfl) (nl rfl) ?_
      refine g_iload (pc := 3816) dL_law_3816 rfl ?_
      refine g_i2l (pc := 3818) dL_law_3818 rfl ?_
      refine g_lcmp (pc := 3819) dL_law_3819 ?_
      refine g_if_eq (pc := 3820) (tgt := 3825) dL_law_3820 rfl (fun _ => ?_) (fun h3820 => absurd ((lgc_self (hq (Decidable.not_not.mp h3810)))) h3820)
      refine g_goto (pc := 3825) (tgt := 4226) dL_law_3825 rfl ?_
      exact g_sub (lv' := AL o) ⟨rfl, rfl, rfl, rfl, rfl, rfl, trivial⟩ (kont e2)
  · rw [if_neg hx] at hf; subst hf
    refine g_aload_n (pc := 3744) dL_law_3744 rfl trivial ?_
    refine g_aload_n (pc := 3745) dL_law_3745 rfl isA_0 ?_
    refine g_iload (pc := 3746) dL_law_3746 rfl ?_
    refine g_iconst (pc := 3748) (v := 1) dL_law_3748 rfl ?_
    refine g_iadd (pc := 3749) dL_law_3749 ?_
    refine g_scriptLoadS (pc := 3750) dL_law_3750 (nI_o1 _) hs (by omega) (by omega) ?_
    refine g_aload_n (pc := 3751) dL_law_3751 rfl isA_0 ?_
    refine g_iload (pc := 3752) dL_law_3752 rfl ?_
    refine g_iconst (pc := 3754) (v := 2) dL_law_3754 rfl ?_
    refine g_iadd (pc := 3755) dL_law_3755 ?_
    refine g_scriptLoadS (pc := 3756) dL_law_3756 (nI_o2 _) hs (by omega) (by omega) ?_
    refine g_if_eq (pc := 3757) (tgt := 3764) dL_law_3757 rfl (fun h3757 => absurd h3757 (hx)) (fun _ => ?_)
    refine g_iconst (pc := 3760) (v := 1) dL_law_3760 rfl ?_
    refine g_goto (pc := 3761) (tgt := 3765) dL_law_3761 rfl ?_
    refine g_aload_n (pc := 3765) dL_law_3765 rfl trivial ?_
    refine g_invSX_s (pc := 3766) (As := [_, _, _, _]) dL_law_3766 rfl (h1) rfl rfl lk_L_354 rfl (nb rfl) ⟨nb rfl, nb rfl⟩ rfl (fun e1 => ?_)
    have e1 := e1.trans hs
    refine g_istore (pc := 3769) (lv' := [(0, _), (1, _), (2, _), (3, _), (4, _), (5, _), (6, _)]) dL_law_3769 (nl rfl) rfl ?_
    refine g_aload_n (pc := 3771) dL_law_3771 rfl trivial ?_
    refine g_aload_n (pc := 3772) dL_law_3772 rfl isA_0 ?_
    refine g_iload (pc := 3773) dL_law_3773 rfl ?_
    refine g_iconst (pc := 3775) (v := 1) dL_law_3775 rfl ?_
    refine g_iadd (pc := 3776) dL_law_3776 ?_
    refine g_scriptLoadS (pc := 3777) dL_law_3777 (nI_o1 _) e1 (by omega) (by omega) ?_
    refine g_aload_n (pc := 3778) dL_law_3778 rfl isA_0 ?_
    refine g_iload (pc := 3779) dL_law_3779 rfl ?_
    refine g_iconst (pc := 3781) (v := 2) dL_law_3781 rfl ?_
    refine g_iadd (pc := 3782) dL_law_3782 ?_
    refine g_scriptLoadS (pc := 3783) dL_law_3783 (nI_o2 _) e1 (by omega) (by omega) ?_
    refine g_if_eq (pc := 3784) (tgt := 3791) dL_law_3784 rfl (fun h3784 => absurd h3784 (hx)) (fun _ => ?_)
    refine g_iconst (pc := 3787) (v := 1) dL_law_3787 rfl ?_
    refine g_goto (pc := 3788) (tgt := 3792) dL_law_3788 rfl ?_
    refine g_invV_s (pc := 3792) (As := [_, _]) dL_law_3792 rfl (h2) rfl rfl (shK hM1 rfl) rfl rfl lk_L_357 rfl (nb rfl) ⟨nb rfl, nb rfl⟩ rfl (fun e2 => ?_)
    have e2 := e2.trans e1
    refine g_istore (pc := 3795) (lv' := [(0, _), (1, _), (2, _), (3, _), (4, _), (5, _), (6, _), (7, _)]) dL_law_3795 (nl rfl) rfl ?_
    refine g_aload_n (pc := 3797) dL_law_3797 rfl trivial ?_
    refine g_invV_r (pc := 3798) (As := []) dL_law_3798 rfl (n_thrown hM2) rfl rfl (shK hM2 rfl) rfl rfl lk_L_212 rfl (nb rfl) ⟨nb rfl, nb rfl⟩ rfl ?_
    refine g_iload (pc := 3801) dL_law_3801 rfl ?_
    refine g_icmp_eq (pc := 3803) (tgt := 3808) dL_law_3803 rfl (fun _ => ?_) (fun h3803 => absurd (ht) h3803)
    refine g_iload (pc := 3808) dL_law_3808 rfl ?_
    refine g_if_ne (pc := 3810) (tgt := 3825) dL_law_3810 rfl (fun h3810 => ?_) (fun h3810 => ?_)
    · refine g_goto (pc := 3825) (tgt := 4226) dL_law_3825 rfl ?_
      exact g_sub (lv' := AL o) ⟨rfl, rfl, rfl, rfl, rfl, rfl, trivial⟩ (kont e2)
    · refine g_aload_n (pc := 3813) dL_law_3813 rfl trivial ?_
      refine g_iconst (pc := 3814) (v := 0) dL_law_3814 rfl ?_
      refine g_laload (pc := 3815) dL_law_3815 (shK hM2 rfl) rfl (nb rfl) (nl rfl) ?_
      refine g_iload (pc := 3816) dL_law_3816 rfl ?_
      refine g_i2l (pc := 3818) dL_law_3818 rfl ?_
      refine g_lcmp (pc := 3819) dL_law_3819 ?_
      refine g_if_eq (pc := 3820) (tgt := 3825) dL_law_3820 rfl (fun _ => ?_) (fun h3820 => absurd ((lgc_self (hq (Decidable.not_not.mp h3810)))) h3820)
      refine g_goto (pc := 3825) (tgt := 4226) dL_law_3825 rfl ?_
      exact g_sub (lv' := AL o) ⟨rfl, rfl, rfl, rfl, rfl, rfl, trivial⟩ (kont e2)
set_option maxRecDepth 4000 in
theorem lc_50 {kk : Int32} {b : Int32} (hs : mS M = S) (ho : o + 5 ≤ S.1) (hS9 : S.1 < 2147483648) (hM : Shp M) (hM1 : Shp M1) (hM2 : Shp M2) (h1 : EvR l jL_setBlock 8 162 1 6 [.ref 0, .int (S.2 (o + 1)), .ref 212] M (.inl (some (.int kk))) M1) (h2 : EvR l jX7_setBlock 4 160 0 0 [.ref 198, .int (S.2 (o + 1))] M1 (.inl (some (.int b))) M2) (ht : mI M2 198 6 = kk) (hq : kk = 0 → mL M2 212 0 = b.toInt64) (kont : mS M2 = S → Go l jL_law 14 538 600002 7302232 Q 4226 (AL o) [] k n M2) : Go l jL_law 14 538 600002 7302232 Q 3828 (AL o) [] (k + 1) (n + 6) M := by
  refine g_aload_n (pc := 3828) dL_law_3828 rfl trivial ?_
  refine g_aload_n (pc := 3829) dL_law_3829 rfl isA_0 ?_
  refine g_iload (pc := 3830) dL_law_3830 rfl ?_
  refine g_iconst (pc := 3832) (v := 1) dL_law_3832 rfl ?_
  refine g_iadd (pc := 3833) dL_law_3833 ?_
  refine g_scriptLoadS (pc := 3834) dL_law_3834 (nI_o1 _) hs (by omega) (by omega) ?_
  refine g_aload_n (pc := 3835) dL_law_3835 rfl trivial ?_
  refine g_invSX_s (pc := 3836) (As := [_, _, _]) dL_law_3836 rfl (h1) rfl rfl lk_L_358 rfl (nb rfl) ⟨nb rfl, nb rfl⟩ rfl (fun e1 => ?_)
  have e1 := e1.trans hs
  refine g_istore (pc := 3839) (lv' := [(0, _), (1, _), (2, _), (3, _), (4, _), (5, _), (6, _)]) dL_law_3839 (nl rfl) rfl ?_
  refine g_aload_n (pc := 3841) dL_law_3841 rfl trivial ?_
  refine g_aload_n (pc := 3842) dL_law_3842 rfl isA_0 ?_
  refine g_iload (pc := 3843) dL_law_3843 rfl ?_
  refine g_iconst (pc := 3845) (v := 1) dL_law_3845 rfl ?_
  refine g_iadd (pc := 3846) dL_law_3846 ?_
  refine g_scriptLoadS (pc := 3847) dL_law_3847 (nI_o1 _) e1 (by omega) (by omega) ?_
  refine g_invV_s (pc := 3848) (As := [_]) dL_law_3848 rfl (h2) rfl rfl (shK hM1 rfl) rfl rfl lk_L_360 rfl (nb rfl) ⟨nb rfl, nb rfl⟩ rfl (fun e2 => ?_)
  have e2 := e2.trans e1
  refine g_istore (pc := 3851) (lv' := [(0, _), (1, _), (2, _), (3, _), (4, _), (5, _), (6, _), (7, _)]) dL_law_3851 (nl rfl) rfl ?_
  refine g_aload_n (pc := 3853) dL_law_3853 rfl trivial ?_
  refine g_invV_r (pc := 3854) (As := []) dL_law_3854 rfl (n_thrown hM2) rfl rfl (shK hM2 rfl) rfl rfl lk_L_212 rfl (nb rfl) ⟨nb rfl, nb rfl⟩ rfl ?_
  refine g_iload (pc := 3857) dL_law_3857 rfl ?_
  refine g_icmp_eq (pc := 3859) (tgt := 3864) dL_law_3859 rfl (fun _ => ?_) (fun h3859 => absurd (ht) h3859)
  refine g_iload (pc := 3864) dL_law_3864 rfl ?_
  refine g_if_ne (pc := 3866) (tgt := 3881) dL_law_3866 rfl (fun h3866 => ?_) (fun h3866 => ?_)
  · refine g_goto (pc := 3881) (tgt := 4226) dL_law_3881 rfl ?_
    exact g_sub (lv' := AL o) ⟨rfl, rfl, rfl, rfl, rfl, rfl, trivial⟩ (kont e2)
  · refine g_aload_n (pc := 3869) dL_law_3869 rfl trivial ?_
    refine g_iconst (pc := 3870) (v := 0) dL_law_3870 rfl ?_
    refine g_laload (pc := 3871) dL_law_3871 (shK hM2 rfl) rfl (nb rfl) (nl rfl) ?_
    refine g_iload (pc := 3872) dL_law_3872 rfl ?_
    refine g_i2l (pc := 3874) dL_law_3874 rfl ?_
    refine g_lcmp (pc := 3875) dL_law_3875 ?_
    refine g_if_eq (pc := 3876) (tgt := 3881) dL_law_3876 rfl (fun _ => ?_) (fun h3876 => absurd ((lgc_self (hq (Decidable.not_not.mp h3866)))) h3876)
    refine g_goto (pc := 3881) (tgt := 4226) dL_law_3881 rfl ?_
    exact g_sub (lv' := AL o) ⟨rfl, rfl, rfl, rfl, rfl, rfl, trivial⟩ (kont e2)
set_option maxRecDepth 4000 in
theorem lc_51 {kk : Int32} {b : Int32} (hs : mS M = S) (ho : o + 5 ≤ S.1) (hS9 : S.1 < 2147483648) (hM : Shp M) (hM1 : Shp M1) (hM2 : Shp M2) (h1 : EvR l jL_kept 8 143 2 12 [.ref 0, .int (S.2 (o + 1)), .int (S.2 (o + 2)), .ref 212] M (.inl (some (.int kk))) M1) (h2 : EvR l jX7_kept 4 160 0 0 [.ref 198, .int (S.2 (o + 1)), .int (S.2 (o + 2))] M1 (.inl (some (.int b))) M2) (ht : mI M2 198 6 = kk) (hq : kk = 0 → mL M2 212 0 = b.toInt64) (kont : mS M2 = S → Go l jL_law 14 538 600002 7302232 Q 4226 (AL o) [] k n M2) : Go l jL_law 14 538 600002 7302232 Q 3884 (AL o) [] (k + 2) (n + 12) M := by
  refine g_aload_n (pc := 3884) dL_law_3884 rfl trivial ?_
  refine g_aload_n (pc := 3885) dL_law_3885 rfl isA_0 ?_
  refine g_iload (pc := 3886) dL_law_3886 rfl ?_
  refine g_iconst (pc := 3888) (v := 1) dL_law_3888 rfl ?_
  refine g_iadd (pc := 3889) dL_law_3889 ?_
  refine g_scriptLoadS (pc := 3890) dL_law_3890 (nI_o1 _) hs (by omega) (by omega) ?_
  refine g_aload_n (pc := 3891) dL_law_3891 rfl isA_0 ?_
  refine g_iload (pc := 3892) dL_law_3892 rfl ?_
  refine g_iconst (pc := 3894) (v := 2) dL_law_3894 rfl ?_
  refine g_iadd (pc := 3895) dL_law_3895 ?_
  refine g_scriptLoadS (pc := 3896) dL_law_3896 (nI_o2 _) hs (by omega) (by omega) ?_
  refine g_aload_n (pc := 3897) dL_law_3897 rfl trivial ?_
  refine g_invSX_s (pc := 3898) (As := [_, _, _, _]) dL_law_3898 rfl (h1) rfl rfl lk_L_361 rfl (nb rfl) ⟨nb rfl, nb rfl⟩ rfl (fun e1 => ?_)
  have e1 := e1.trans hs
  refine g_istore (pc := 3901) (lv' := [(0, _), (1, _), (2, _), (3, _), (4, _), (5, _), (6, _)]) dL_law_3901 (nl rfl) rfl ?_
  refine g_aload_n (pc := 3903) dL_law_3903 rfl trivial ?_
  refine g_aload_n (pc := 3904) dL_law_3904 rfl isA_0 ?_
  refine g_iload (pc := 3905) dL_law_3905 rfl ?_
  refine g_iconst (pc := 3907) (v := 1) dL_law_3907 rfl ?_
  refine g_iadd (pc := 3908) dL_law_3908 ?_
  refine g_scriptLoadS (pc := 3909) dL_law_3909 (nI_o1 _) e1 (by omega) (by omega) ?_
  refine g_aload_n (pc := 3910) dL_law_3910 rfl isA_0 ?_
  refine g_iload (pc := 3911) dL_law_3911 rfl ?_
  refine g_iconst (pc := 3913) (v := 2) dL_law_3913 rfl ?_
  refine g_iadd (pc := 3914) dL_law_3914 ?_
  refine g_scriptLoadS (pc := 3915) dL_law_3915 (nI_o2 _) e1 (by omega) (by omega) ?_
  refine g_invV_s (pc := 3916) (As := [_, _]) dL_law_3916 rfl (h2) rfl rfl (shK hM1 rfl) rfl rfl lk_L_363 rfl (nb rfl) ⟨nb rfl, nb rfl⟩ rfl (fun e2 => ?_)
  have e2 := e2.trans e1
  refine g_istore (pc := 3919) (lv' := [(0, _), (1, _), (2, _), (3, _), (4, _), (5, _), (6, _), (7, _)]) dL_law_3919 (nl rfl) rfl ?_
  refine g_aload_n (pc := 3921) dL_law_3921 rfl trivial ?_
  refine g_invV_r (pc := 3922) (As := []) dL_law_3922 rfl (n_thrown hM2) rfl rfl (shK hM2 rfl) rfl rfl lk_L_212 rfl (nb rfl) ⟨nb rfl, nb rfl⟩ rfl ?_
  refine g_iload (pc := 3925) dL_law_3925 rfl ?_
  refine g_icmp_eq (pc := 3927) (tgt := 3932) dL_law_3927 rfl (fun _ => ?_) (fun h3927 => absurd (ht) h3927)
  refine g_iload (pc := 3932) dL_law_3932 rfl ?_
  refine g_if_ne (pc := 3934) (tgt := 3949) dL_law_3934 rfl (fun h3934 => ?_) (fun h3934 => ?_)
  · refine g_goto (pc := 3949) (tgt := 4226) dL_law_3949 rfl ?_
    exact g_sub (lv' := AL o) ⟨rfl, rfl, rfl, rfl, rfl, rfl, trivial⟩ (kont e2)
  · refine g_aload_n (pc := 3937) dL_law_3937 rfl trivial ?_
    refine g_iconst (pc := 3938) (v := 0) dL_law_3938 rfl ?_
    refine g_laload (pc := 3939) dL_law_3939 (shK hM2 rfl) rfl (nb rfl) (nl rfl) ?_
    refine g_iload (pc := 3940) dL_law_3940 rfl ?_
    refine g_i2l (pc := 3942) dL_law_3942 rfl ?_
    refine g_lcmp (pc := 3943) dL_law_3943 ?_
    refine g_if_eq (pc := 3944) (tgt := 3949) dL_law_3944 rfl (fun _ => ?_) (fun h3944 => absurd ((lgc_self (hq (Decidable.not_not.mp h3934)))) h3944)
    refine g_goto (pc := 3949) (tgt := 4226) dL_law_3949 rfl ?_
    exact g_sub (lv' := AL o) ⟨rfl, rfl, rfl, rfl, rfl, rfl, trivial⟩ (kont e2)
set_option maxRecDepth 4000 in
theorem lc_52 {kk : Int32} {b : Int32} (hs : mS M = S) (ho : o + 5 ≤ S.1) (hS9 : S.1 < 2147483648) (hM : Shp M) (hM1 : Shp M1) (hM2 : Shp M2) (h1 : EvR l jL_work 8 141 1 6 [.ref 0, .int (S.2 (o + 1)), .ref 212] M (.inl (some (.int kk))) M1) (h2 : EvR l jX7_work 4 160 0 0 [.ref 198, .int (S.2 (o + 1))] M1 (.inl (some (.int b))) M2) (ht : mI M2 198 6 = kk) (hq : kk = 0 → mL M2 212 0 = b.toInt64) (kont : mS M2 = S → Go l jL_law 14 538 600002 7302232 Q 4226 (AL o) [] k n M2) : Go l jL_law 14 538 600002 7302232 Q 3952 (AL o) [] (k + 1) (n + 6) M := by
  refine g_aload_n (pc := 3952) dL_law_3952 rfl trivial ?_
  refine g_aload_n (pc := 3953) dL_law_3953 rfl isA_0 ?_
  refine g_iload (pc := 3954) dL_law_3954 rfl ?_
  refine g_iconst (pc := 3956) (v := 1) dL_law_3956 rfl ?_
  refine g_iadd (pc := 3957) dL_law_3957 ?_
  refine g_scriptLoadS (pc := 3958) dL_law_3958 (nI_o1 _) hs (by omega) (by omega) ?_
  refine g_aload_n (pc := 3959) dL_law_3959 rfl trivial ?_
  refine g_invSX_s (pc := 3960) (As := [_, _, _]) dL_law_3960 rfl (h1) rfl rfl lk_L_364 rfl (nb rfl) ⟨nb rfl, nb rfl⟩ rfl (fun e1 => ?_)
  have e1 := e1.trans hs
  refine g_istore (pc := 3963) (lv' := [(0, _), (1, _), (2, _), (3, _), (4, _), (5, _), (6, _)]) dL_law_3963 (nl rfl) rfl ?_
  refine g_aload_n (pc := 3965) dL_law_3965 rfl trivial ?_
  refine g_aload_n (pc := 3966) dL_law_3966 rfl isA_0 ?_
  refine g_iload (pc := 3967) dL_law_3967 rfl ?_
  refine g_iconst (pc := 3969) (v := 1) dL_law_3969 rfl ?_
  refine g_iadd (pc := 3970) dL_law_3970 ?_
  refine g_scriptLoadS (pc := 3971) dL_law_3971 (nI_o1 _) e1 (by omega) (by omega) ?_
  refine g_invV_s (pc := 3972) (As := [_]) dL_law_3972 rfl (h2) rfl rfl (shK hM1 rfl) rfl rfl lk_L_366 rfl (nb rfl) ⟨nb rfl, nb rfl⟩ rfl (fun e2 => ?_)
  have e2 := e2.trans e1
  refine g_istore (pc := 3975) (lv' := [(0, _), (1, _), (2, _), (3, _), (4, _), (5, _), (6, _), (7, _)]) dL_law_3975 (nl rfl) rfl ?_
  refine g_aload_n (pc := 3977) dL_law_3977 rfl trivial ?_
  refine g_invV_r (pc := 3978) (As := []) dL_law_3978 rfl (n_thrown hM2) rfl rfl (shK hM2 rfl) rfl rfl lk_L_212 rfl (nb rfl) ⟨nb rfl, nb rfl⟩ rfl ?_
  refine g_iload (pc := 3981) dL_law_3981 rfl ?_
  refine g_icmp_eq (pc := 3983) (tgt := 3988) dL_law_3983 rfl (fun _ => ?_) (fun h3983 => absurd (ht) h3983)
  refine g_iload (pc := 3988) dL_law_3988 rfl ?_
  refine g_if_ne (pc := 3990) (tgt := 4005) dL_law_3990 rfl (fun h3990 => ?_) (fun h3990 => ?_)
  · refine g_goto (pc := 4005) (tgt := 4226) dL_law_4005 rfl ?_
    exact g_sub (lv' := AL o) ⟨rfl, rfl, rfl, rfl, rfl, rfl, trivial⟩ (kont e2)
  · refine g_aload_n (pc := 3993) dL_law_3993 rfl trivial ?_
    refine g_iconst (pc := 3994) (v := 0) dL_law_3994 rfl ?_
    refine g_laload (pc := 3995) dL_law_3995 (shK hM2 rfl) rfl (nb rfl) (nl rfl) ?_
    refine g_iload (pc := 3996) dL_law_3996 rfl ?_
    refine g_i2l (pc := 3998) dL_law_3998 rfl ?_
    refine g_lcmp (pc := 3999) dL_law_3999 ?_
    refine g_if_eq (pc := 4000) (tgt := 4005) dL_law_4000 rfl (fun _ => ?_) (fun h4000 => absurd ((lgc_self (hq (Decidable.not_not.mp h3990)))) h4000)
    refine g_goto (pc := 4005) (tgt := 4226) dL_law_4005 rfl ?_
    exact g_sub (lv' := AL o) ⟨rfl, rfl, rfl, rfl, rfl, rfl, trivial⟩ (kont e2)
set_option maxRecDepth 4000 in
theorem lc_53 {kk : Int32} {b : Int32} (hs : mS M = S) (ho : o + 5 ≤ S.1) (hS9 : S.1 < 2147483648) (hM : Shp M) (hM1 : Shp M1) (hM2 : Shp M2) (h1 : EvR l jL_writeRow 9 164 2 12 [.ref 0, .int (S.2 (o + 1)), .int (S.2 (o + 2)), .ref 212] M (.inl (some (.int kk))) M1) (h2 : EvR l jX7_writeRow 4 160 0 0 [.ref 198, .int (S.2 (o + 1)), .int (S.2 (o + 2))] M1 (.inl (some (.int b))) M2) (ht : mI M2 198 6 = kk) (hq : kk = 0 → mL M2 212 0 = b.toInt64) (kont : mS M2 = S → Go l jL_law 14 538 600002 7302232 Q 4226 (AL o) [] k n M2) : Go l jL_law 14 538 600002 7302232 Q 4008 (AL o) [] (k + 2) (n + 12) M := by
  refine g_aload_n (pc := 4008) dL_law_4008 rfl trivial ?_
  refine g_aload_n (pc := 4009) dL_law_4009 rfl isA_0 ?_
  refine g_iload (pc := 4010) dL_law_4010 rfl ?_
  refine g_iconst (pc := 4012) (v := 1) dL_law_4012 rfl ?_
  refine g_iadd (pc := 4013) dL_law_4013 ?_
  refine g_scriptLoadS (pc := 4014) dL_law_4014 (nI_o1 _) hs (by omega) (by omega) ?_
  refine g_aload_n (pc := 4015) dL_law_4015 rfl isA_0 ?_
  refine g_iload (pc := 4016) dL_law_4016 rfl ?_
  refine g_iconst (pc := 4018) (v := 2) dL_law_4018 rfl ?_
  refine g_iadd (pc := 4019) dL_law_4019 ?_
  refine g_scriptLoadS (pc := 4020) dL_law_4020 (nI_o2 _) hs (by omega) (by omega) ?_
  refine g_aload_n (pc := 4021) dL_law_4021 rfl trivial ?_
  refine g_invSX_s (pc := 4022) (As := [_, _, _, _]) dL_law_4022 rfl (h1) rfl rfl lk_L_367 rfl (nb rfl) ⟨nb rfl, nb rfl⟩ rfl (fun e1 => ?_)
  have e1 := e1.trans hs
  refine g_istore (pc := 4025) (lv' := [(0, _), (1, _), (2, _), (3, _), (4, _), (5, _), (6, _)]) dL_law_4025 (nl rfl) rfl ?_
  refine g_aload_n (pc := 4027) dL_law_4027 rfl trivial ?_
  refine g_aload_n (pc := 4028) dL_law_4028 rfl isA_0 ?_
  refine g_iload (pc := 4029) dL_law_4029 rfl ?_
  refine g_iconst (pc := 4031) (v := 1) dL_law_4031 rfl ?_
  refine g_iadd (pc := 4032) dL_law_4032 ?_
  refine g_scriptLoadS (pc := 4033) dL_law_4033 (nI_o1 _) e1 (by omega) (by omega) ?_
  refine g_aload_n (pc := 4034) dL_law_4034 rfl isA_0 ?_
  refine g_iload (pc := 4035) dL_law_4035 rfl ?_
  refine g_iconst (pc := 4037) (v := 2) dL_law_4037 rfl ?_
  refine g_iadd (pc := 4038) dL_law_4038 ?_
  refine g_scriptLoadS (pc := 4039) dL_law_4039 (nI_o2 _) e1 (by omega) (by omega) ?_
  refine g_invV_s (pc := 4040) (As := [_, _]) dL_law_4040 rfl (h2) rfl rfl (shK hM1 rfl) rfl rfl lk_L_369 rfl (nb rfl) ⟨nb rfl, nb rfl⟩ rfl (fun e2 => ?_)
  have e2 := e2.trans e1
  refine g_istore (pc := 4043) (lv' := [(0, _), (1, _), (2, _), (3, _), (4, _), (5, _), (6, _), (7, _)]) dL_law_4043 (nl rfl) rfl ?_
  refine g_aload_n (pc := 4045) dL_law_4045 rfl trivial ?_
  refine g_invV_r (pc := 4046) (As := []) dL_law_4046 rfl (n_thrown hM2) rfl rfl (shK hM2 rfl) rfl rfl lk_L_212 rfl (nb rfl) ⟨nb rfl, nb rfl⟩ rfl ?_
  refine g_iload (pc := 4049) dL_law_4049 rfl ?_
  refine g_icmp_eq (pc := 4051) (tgt := 4056) dL_law_4051 rfl (fun _ => ?_) (fun h4051 => absurd (ht) h4051)
  refine g_iload (pc := 4056) dL_law_4056 rfl ?_
  refine g_if_ne (pc := 4058) (tgt := 4073) dL_law_4058 rfl (fun h4058 => ?_) (fun h4058 => ?_)
  · refine g_goto (pc := 4073) (tgt := 4226) dL_law_4073 rfl ?_
    exact g_sub (lv' := AL o) ⟨rfl, rfl, rfl, rfl, rfl, rfl, trivial⟩ (kont e2)
  · refine g_aload_n (pc := 4061) dL_law_4061 rfl trivial ?_
    refine g_iconst (pc := 4062) (v := 0) dL_law_4062 rfl ?_
    refine g_laload (pc := 4063) dL_law_4063 (shK hM2 rfl) rfl (nb rfl) (nl rfl) ?_
    refine g_iload (pc := 4064) dL_law_4064 rfl ?_
    refine g_i2l (pc := 4066) dL_law_4066 rfl ?_
    refine g_lcmp (pc := 4067) dL_law_4067 ?_
    refine g_if_eq (pc := 4068) (tgt := 4073) dL_law_4068 rfl (fun _ => ?_) (fun h4068 => absurd ((lgc_self (hq (Decidable.not_not.mp h4058)))) h4068)
    refine g_goto (pc := 4073) (tgt := 4226) dL_law_4073 rfl ?_
    exact g_sub (lv' := AL o) ⟨rfl, rfl, rfl, rfl, rfl, rfl, trivial⟩ (kont e2)
set_option maxRecDepth 4000 in
theorem lc_54 {kk : Int32} {b : Int32} (hs : mS M = S) (ho : o + 5 ≤ S.1) (hS9 : S.1 < 2147483648) (hM : Shp M) (hM1 : Shp M1) (hM2 : Shp M2) (h1 : EvR l jX6_outputByte 0 0 0 0 [.ref 0, .int (S.2 (o + 1))] M (.inl (some (.int kk))) M1) (h2 : EvR l jX7_outputByte 4 160 0 0 [.ref 198, .int (S.2 (o + 1))] M1 (.inl (some (.int b))) M2) (hq : kk = b) (kont : mS M2 = S → Go l jL_law 14 538 600002 7302232 Q 4226 (AL o) [] k n M2) : Go l jL_law 14 538 600002 7302232 Q 4076 (AL o) [] (k + 0) (n + 0) M := by
  refine g_aload_n (pc := 4076) dL_law_4076 rfl trivial ?_
  refine g_aload_n (pc := 4077) dL_law_4077 rfl isA_0 ?_
  refine g_iload (pc := 4078) dL_law_4078 rfl ?_
  refine g_iconst (pc := 4080) (v := 1) dL_law_4080 rfl ?_
  refine g_iadd (pc := 4081) dL_law_4081 ?_
  refine g_scriptLoadS (pc := 4082) dL_law_4082 (nI_o1 _) hs (by omega) (by omega) ?_
  refine g_invV_s (pc := 4083) (As := [_]) dL_law_4083 rfl (h1) rfl rfl (shK hM rfl) rfl rfl lk_L_370 rfl (nb rfl) ⟨nb rfl, nb rfl⟩ rfl (fun e1 => ?_)
  have e1 := e1.trans hs
  refine g_aload_n (pc := 4086) dL_law_4086 rfl trivial ?_
  refine g_aload_n (pc := 4087) dL_law_4087 rfl isA_0 ?_
  refine g_iload (pc := 4088) dL_law_4088 rfl ?_
  refine g_iconst (pc := 4090) (v := 1) dL_law_4090 rfl ?_
  refine g_iadd (pc := 4091) dL_law_4091 ?_
  refine g_scriptLoadS (pc := 4092) dL_law_4092 (nI_o1 _) e1 (by omega) (by omega) ?_
  refine g_invV_s (pc := 4093) (As := [_]) dL_law_4093 rfl (h2) rfl rfl (shK hM1 rfl) rfl rfl lk_L_373 rfl (nb rfl) ⟨nb rfl, nb rfl⟩ rfl (fun e2 => ?_)
  have e2 := e2.trans e1
  refine g_icmp_eq (pc := 4096) (tgt := 4226) dL_law_4096 rfl (fun _ => ?_) (fun h4096 => absurd (hq) h4096)
  exact g_sub (lv' := AL o) ⟨rfl, rfl, rfl, rfl, rfl, rfl, trivial⟩ (kont e2)
set_option maxRecDepth 4000 in
theorem lc_55 {kk : Int32} {b : Int32} (hs : mS M = S) (ho : o + 5 ≤ S.1) (hS9 : S.1 < 2147483648) (hM : Shp M) (hM1 : Shp M1) (hM2 : Shp M2) (h1 : EvR l jX6_undo 3 120 0 0 [.ref 0] M (.inl (some (.int kk))) M1) (h2 : EvR l jX7_undo 4 160 0 0 [.ref 198] M1 (.inl (some (.int b))) M2) (hq : kk = b) (kont : mS M2 = S → Go l jL_law 14 538 600002 7302232 Q 4226 (AL o) [] k n M2) : Go l jL_law 14 538 600002 7302232 Q 4101 (AL o) [] (k + 0) (n + 0) M := by
  refine g_aload_n (pc := 4101) dL_law_4101 rfl trivial ?_
  refine g_invV_s (pc := 4102) (As := []) dL_law_4102 rfl (h1) rfl rfl (shK hM rfl) rfl rfl lk_L_374 rfl (nb rfl) ⟨nb rfl, nb rfl⟩ rfl (fun e1 => ?_)
  have e1 := e1.trans hs
  refine g_aload_n (pc := 4105) dL_law_4105 rfl trivial ?_
  refine g_invV_s (pc := 4106) (As := []) dL_law_4106 rfl (h2) rfl rfl (shK hM1 rfl) rfl rfl lk_L_377 rfl (nb rfl) ⟨nb rfl, nb rfl⟩ rfl (fun e2 => ?_)
  have e2 := e2.trans e1
  refine g_icmp_eq (pc := 4109) (tgt := 4226) dL_law_4109 rfl (fun _ => ?_) (fun h4109 => absurd (hq) h4109)
  exact g_sub (lv' := AL o) ⟨rfl, rfl, rfl, rfl, rfl, rfl, trivial⟩ (kont e2)
set_option maxRecDepth 4000 in
theorem lc_56 {kk : Int32} {b : Int32} (hs : mS M = S) (ho : o + 5 ≤ S.1) (hS9 : S.1 < 2147483648) (hM : Shp M) (hM1 : Shp M1) (hM2 : Shp M2) (h1 : EvR l jL_saveSnapshot 8 161 1 6 [.ref 0, .int (S.2 (o + 1)), .ref 212] M (.inl (some (.int kk))) M1) (h2 : EvR l jX7_saveSnapshot 4 160 0 0 [.ref 198, .int (S.2 (o + 1))] M1 (.inl (some (.int b))) M2) (ht : mI M2 198 6 = kk) (hq : kk = 0 → mL M2 212 0 = b.toInt64) (kont : mS M2 = S → Go l jL_law 14 538 600002 7302232 Q 4226 (AL o) [] k n M2) : Go l jL_law 14 538 600002 7302232 Q 4114 (AL o) [] (k + 1) (n + 6) M := by
  refine g_aload_n (pc := 4114) dL_law_4114 rfl trivial ?_
  refine g_aload_n (pc := 4115) dL_law_4115 rfl isA_0 ?_
  refine g_iload (pc := 4116) dL_law_4116 rfl ?_
  refine g_iconst (pc := 4118) (v := 1) dL_law_4118 rfl ?_
  refine g_iadd (pc := 4119) dL_law_4119 ?_
  refine g_scriptLoadS (pc := 4120) dL_law_4120 (nI_o1 _) hs (by omega) (by omega) ?_
  refine g_aload_n (pc := 4121) dL_law_4121 rfl trivial ?_
  refine g_invSX_s (pc := 4122) (As := [_, _, _]) dL_law_4122 rfl (h1) rfl rfl lk_L_378 rfl (nb rfl) ⟨nb rfl, nb rfl⟩ rfl (fun e1 => ?_)
  have e1 := e1.trans hs
  refine g_istore (pc := 4125) (lv' := [(0, _), (1, _), (2, _), (3, _), (4, _), (5, _), (6, _)]) dL_law_4125 (nl rfl) rfl ?_
  refine g_aload_n (pc := 4127) dL_law_4127 rfl trivial ?_
  refine g_aload_n (pc := 4128) dL_law_4128 rfl isA_0 ?_
  refine g_iload (pc := 4129) dL_law_4129 rfl ?_
  refine g_iconst (pc := 4131) (v := 1) dL_law_4131 rfl ?_
  refine g_iadd (pc := 4132) dL_law_4132 ?_
  refine g_scriptLoadS (pc := 4133) dL_law_4133 (nI_o1 _) e1 (by omega) (by omega) ?_
  refine g_invV_s (pc := 4134) (As := [_]) dL_law_4134 rfl (h2) rfl rfl (shK hM1 rfl) rfl rfl lk_L_380 rfl (nb rfl) ⟨nb rfl, nb rfl⟩ rfl (fun e2 => ?_)
  have e2 := e2.trans e1
  refine g_istore (pc := 4137) (lv' := [(0, _), (1, _), (2, _), (3, _), (4, _), (5, _), (6, _), (7, _)]) dL_law_4137 (nl rfl) rfl ?_
  refine g_aload_n (pc := 4139) dL_law_4139 rfl trivial ?_
  refine g_invV_r (pc := 4140) (As := []) dL_law_4140 rfl (n_thrown hM2) rfl rfl (shK hM2 rfl) rfl rfl lk_L_212 rfl (nb rfl) ⟨nb rfl, nb rfl⟩ rfl ?_
  refine g_iload (pc := 4143) dL_law_4143 rfl ?_
  refine g_icmp_eq (pc := 4145) (tgt := 4150) dL_law_4145 rfl (fun _ => ?_) (fun h4145 => absurd (ht) h4145)
  refine g_iload (pc := 4150) dL_law_4150 rfl ?_
  refine g_if_ne (pc := 4152) (tgt := 4167) dL_law_4152 rfl (fun h4152 => ?_) (fun h4152 => ?_)
  · refine g_goto (pc := 4167) (tgt := 4226) dL_law_4167 rfl ?_
    exact g_sub (lv' := AL o) ⟨rfl, rfl, rfl, rfl, rfl, rfl, trivial⟩ (kont e2)
  · refine g_aload_n (pc := 4155) dL_law_4155 rfl trivial ?_
    refine g_iconst (pc := 4156) (v := 0) dL_law_4156 rfl ?_
    refine g_laload (pc := 4157) dL_law_4157 (shK hM2 rfl) rfl (nb rfl) (nl rfl) ?_
    refine g_iload (pc := 4158) dL_law_4158 rfl ?_
    refine g_i2l (pc := 4160) dL_law_4160 rfl ?_
    refine g_lcmp (pc := 4161) dL_law_4161 ?_
    refine g_if_eq (pc := 4162) (tgt := 4167) dL_law_4162 rfl (fun _ => ?_) (fun h4162 => absurd ((lgc_self (hq (Decidable.not_not.mp h4152)))) h4162)
    refine g_goto (pc := 4167) (tgt := 4226) dL_law_4167 rfl ?_
    exact g_sub (lv' := AL o) ⟨rfl, rfl, rfl, rfl, rfl, rfl, trivial⟩ (kont e2)
set_option maxRecDepth 4000 in
theorem lc_57 {kk : Int32} {b : Int32} (hs : mS M = S) (ho : o + 5 ≤ S.1) (hS9 : S.1 < 2147483648) (hM : Shp M) (hM1 : Shp M1) (hM2 : Shp M2) (h1 : EvR l jL_restoreSnapshot 8 191 1 6 [.ref 0, .int (S.2 (o + 1)), .ref 212] M (.inl (some (.int kk))) M1) (h2 : EvR l jX7_restoreSnapshot 4 160 0 0 [.ref 198, .int (S.2 (o + 1))] M1 (.inl (some (.int b))) M2) (ht : mI M2 198 6 = kk) (hq : kk = 0 → mL M2 212 0 = b.toInt64) (kont : mS M2 = S → Go l jL_law 14 538 600002 7302232 Q 4226 (AL o) [] k n M2) : Go l jL_law 14 538 600002 7302232 Q 4170 (AL o) [] (k + 1) (n + 6) M := by
  refine g_aload_n (pc := 4170) dL_law_4170 rfl trivial ?_
  refine g_aload_n (pc := 4171) dL_law_4171 rfl isA_0 ?_
  refine g_iload (pc := 4172) dL_law_4172 rfl ?_
  refine g_iconst (pc := 4174) (v := 1) dL_law_4174 rfl ?_
  refine g_iadd (pc := 4175) dL_law_4175 ?_
  refine g_scriptLoadS (pc := 4176) dL_law_4176 (nI_o1 _) hs (by omega) (by omega) ?_
  refine g_aload_n (pc := 4177) dL_law_4177 rfl trivial ?_
  refine g_invSX_s (pc := 4178) (As := [_, _, _]) dL_law_4178 rfl (h1) rfl rfl lk_L_381 rfl (nb rfl) ⟨nb rfl, nb rfl⟩ rfl (fun e1 => ?_)
  have e1 := e1.trans hs
  refine g_istore (pc := 4181) (lv' := [(0, _), (1, _), (2, _), (3, _), (4, _), (5, _), (6, _)]) dL_law_4181 (nl rfl) rfl ?_
  refine g_aload_n (pc := 4183) dL_law_4183 rfl trivial ?_
  refine g_aload_n (pc := 4184) dL_law_4184 rfl isA_0 ?_
  refine g_iload (pc := 4185) dL_law_4185 rfl ?_
  refine g_iconst (pc := 4187) (v := 1) dL_law_4187 rfl ?_
  refine g_iadd (pc := 4188) dL_law_4188 ?_
  refine g_scriptLoadS (pc := 4189) dL_law_4189 (nI_o1 _) e1 (by omega) (by omega) ?_
  refine g_invV_s (pc := 4190) (As := [_]) dL_law_4190 rfl (h2) rfl rfl (shK hM1 rfl) rfl rfl lk_L_383 rfl (nb rfl) ⟨nb rfl, nb rfl⟩ rfl (fun e2 => ?_)
  have e2 := e2.trans e1
  refine g_istore (pc := 4193) (lv' := [(0, _), (1, _), (2, _), (3, _), (4, _), (5, _), (6, _), (7, _)]) dL_law_4193 (nl rfl) rfl ?_
  refine g_aload_n (pc := 4195) dL_law_4195 rfl trivial ?_
  refine g_invV_r (pc := 4196) (As := []) dL_law_4196 rfl (n_thrown hM2) rfl rfl (shK hM2 rfl) rfl rfl lk_L_212 rfl (nb rfl) ⟨nb rfl, nb rfl⟩ rfl ?_
  refine g_iload (pc := 4199) dL_law_4199 rfl ?_
  refine g_icmp_eq (pc := 4201) (tgt := 4206) dL_law_4201 rfl (fun _ => ?_) (fun h4201 => absurd (ht) h4201)
  refine g_iload (pc := 4206) dL_law_4206 rfl ?_
  refine g_if_ne (pc := 4208) (tgt := 4223) dL_law_4208 rfl (fun h4208 => ?_) (fun h4208 => ?_)
  · refine g_goto (pc := 4223) (tgt := 4226) dL_law_4223 rfl ?_
    exact g_sub (lv' := AL o) ⟨rfl, rfl, rfl, rfl, rfl, rfl, trivial⟩ (kont e2)
  · refine g_aload_n (pc := 4211) dL_law_4211 rfl trivial ?_
    refine g_iconst (pc := 4212) (v := 0) dL_law_4212 rfl ?_
    refine g_laload (pc := 4213) dL_law_4213 (shK hM2 rfl) rfl (nb rfl) (nl rfl) ?_
    refine g_iload (pc := 4214) dL_law_4214 rfl ?_
    refine g_i2l (pc := 4216) dL_law_4216 rfl ?_
    refine g_lcmp (pc := 4217) dL_law_4217 ?_
    refine g_if_eq (pc := 4218) (tgt := 4223) dL_law_4218 rfl (fun _ => ?_) (fun h4218 => absurd ((lgc_self (hq (Decidable.not_not.mp h4208)))) h4218)
    refine g_goto (pc := 4223) (tgt := 4226) dL_law_4223 rfl ?_
    exact g_sub (lv' := AL o) ⟨rfl, rfl, rfl, rfl, rfl, rfl, trivial⟩ (kont e2)
end

