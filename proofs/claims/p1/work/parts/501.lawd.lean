/-! the law's rows, 1 -/
theorem dL_law_0 : decode cL_law 0 = .ok (.new 8, 3) := dec_w [0xbb, 0x00, 0x08] (pc9 (k := 0) (j := 0) lwD_0 rfl) (by decide +kernel) rfl
theorem dL_law_3 : decode cL_law 3 = .ok (.dup, 1) := dec_w [0x59] (pc9 (k := 0) (j := 3) lwD_0 rfl) (by decide +kernel) rfl
theorem dL_law_4 : decode cL_law 4 = .ok (.invokespecial 182, 3) := dec_w [0xb7, 0x00, 0xb6] (pc9 (k := 0) (j := 4) lwD_0 rfl) (by decide +kernel) rfl
theorem dL_law_7 : decode cL_law 7 = .ok (.astore_n 1, 1) := dec_w [0x4c] (pc9 (k := 0) (j := 7) lwD_0 rfl) (by decide +kernel) rfl
theorem dL_law_8 : decode cL_law 8 = .ok (.new 183, 3) := dec_w [0xbb, 0x00, 0xb7] (pc9 (k := 0) (j := 8) lwD_0 rfl) (by decide +kernel) rfl
theorem dL_law_11 : decode cL_law 11 = .ok (.dup, 1) := dec_w [0x59] (pc9 (k := 0) (j := 11) lwD_0 rfl) (by decide +kernel) rfl
theorem dL_law_12 : decode cL_law 12 = .ok (.invokespecial 185, 3) := dec_w [0xb7, 0x00, 0xb9] (pc9 (k := 0) (j := 12) lwD_0 rfl) (by decide +kernel) rfl
theorem dL_law_15 : decode cL_law 15 = .ok (.astore_n 2, 1) := dec_w [0x4d] (pc9 (k := 0) (j := 15) lwD_0 rfl) (by decide +kernel) rfl
theorem dL_law_16 : decode cL_law 16 = .ok (.iconst 1, 1) := dec_w [0x04] (pc9 (k := 0) (j := 16) lwD_0 rfl) (by decide +kernel) rfl
theorem dL_law_17 : decode cL_law 17 = .ok (.newarray .long, 2) := by decide +kernel
theorem dL_law_19 : decode cL_law 19 = .ok (.astore_n 3, 1) := dec_w [0x4e] (pc9 (k := 0) (j := 19) lwD_0 rfl) (by decide +kernel) rfl
theorem dL_law_20 : decode cL_law 20 = .ok (.iconst 1, 1) := dec_w [0x04] (pc9 (k := 0) (j := 20) lwD_0 rfl) (by decide +kernel) rfl
theorem dL_law_21 : decode cL_law 21 = .ok (.newarray .double, 2) := by decide +kernel
theorem dL_law_23 : decode cL_law 23 = .ok (.astore 4, 2) := dec_w [0x3a, 0x04] (pc9 (k := 0) (j := 23) lwD_0 rfl) (by decide +kernel) rfl
theorem dL_law_25 : decode cL_law 25 = .ok (.iconst 0, 1) := dec_w [0x03] (pc9 (k := 0) (j := 25) lwD_0 rfl) (by decide +kernel) rfl
theorem dL_law_26 : decode cL_law 26 = .ok (.istore 5, 2) := dec_w [0x36, 0x05] (pc9 (k := 0) (j := 26) lwD_0 rfl) (by decide +kernel) rfl
theorem dL_law_28 : decode cL_law 28 = .ok (.iload 5, 2) := dec_w [0x15, 0x05] (pc9 (k := 0) (j := 28) lwD_0 rfl) (by decide +kernel) rfl
theorem dL_law_30 : decode cL_law 30 = .ok (.aload_n 0, 1) := dec_w [0x2a] (pc9 (k := 0) (j := 30) lwD_0 rfl) (by decide +kernel) rfl
theorem dL_law_31 : decode cL_law 31 = .ok (.arraylength, 1) := dec_w [0xbe] (pc9 (k := 0) (j := 31) lwD_0 rfl) (by decide +kernel) rfl
theorem dL_law_32 : decode cL_law 32 = .ok (.iconst 5, 1) := dec_w [0x08] (pc9 (k := 0) (j := 32) lwD_0 rfl) (by decide +kernel) rfl
theorem dL_law_33 : decode cL_law 33 = .ok (.isub, 1) := dec_w [0x64] (pc9 (k := 0) (j := 33) lwD_0 rfl) (by decide +kernel) rfl
theorem dL_law_34 : decode cL_law 34 = .ok (.if_icmp .gt 4198, 3) := dec_w [0xa3, 0x10, 0x66] (pc9 (k := 0) (j := 34) lwD_0 rfl) (by decide +kernel) rfl
theorem dL_law_37 : decode cL_law 37 = .ok (.aload_n 0, 1) := dec_w [0x2a] (pc9 (k := 0) (j := 37) lwD_0 rfl) (by decide +kernel) rfl
theorem dL_law_38 : decode cL_law 38 = .ok (.iload 5, 2) := dec_w [0x15, 0x05] (pc9 (k := 0) (j := 38) lwD_0 rfl) (by decide +kernel) rfl
theorem dL_law_40 : decode cL_law 40 = .ok (.iaload, 1) := dec_w [0x2e] (pc9 (k := 0) (j := 40) lwD_0 rfl) (by decide +kernel) rfl
theorem dL_law_41 : decode cL_law 41 = .ok (.bipush 63, 2) := dec_w [0x10, 0x3f] (pc9 (k := 0) (j := 41) lwD_0 rfl) (by decide +kernel) rfl
theorem dL_law_43 : decode cL_law 43 = .ok (.iand, 1) := dec_w [0x7e] (pc9 (k := 0) (j := 43) lwD_0 rfl) (by decide +kernel) rfl
theorem dL_law_44 : decode cL_law 44 = .ok (.tableswitch 4182 0 57 #[248, 305, 318, 331, 344, 400, 480, 547, 627, 707, 763, 831, 899, 955, 1023, 1123, 1191, 1268, 1331, 1411, 1479, 1535, 1613, 1681, 1737, 1817, 1909, 1977, 2033, 2101, 2181, 2261, 2317, 2373, 2429, 2485, 2584, 2684, 2752, 2860, 2972, 3040, 3108, 3200, 3308, 3416, 3484, 3552, 3620, 3700, 3784, 3840, 3908, 3964, 4032, 4057, 4070, 4126], 248) := by decide +kernel
theorem dL_law_292 : decode cL_law 292 = .ok (.aload_n 1, 1) := dec_w [0x2b] (pc9 (k := 256) (j := 36) lwD_4 rfl) (by decide +kernel) rfl
theorem dL_law_293 : decode cL_law 293 = .ok (.aload_n 0, 1) := dec_w [0x2a] (pc9 (k := 256) (j := 37) lwD_4 rfl) (by decide +kernel) rfl
theorem dL_law_294 : decode cL_law 294 = .ok (.iload 5, 2) := dec_w [0x15, 0x05] (pc9 (k := 256) (j := 38) lwD_4 rfl) (by decide +kernel) rfl
theorem dL_law_296 : decode cL_law 296 = .ok (.iconst 1, 1) := dec_w [0x04] (pc9 (k := 256) (j := 40) lwD_4 rfl) (by decide +kernel) rfl
theorem dL_law_297 : decode cL_law 297 = .ok (.iadd, 1) := dec_w [0x60] (pc9 (k := 256) (j := 41) lwD_4 rfl) (by decide +kernel) rfl
theorem dL_law_298 : decode cL_law 298 = .ok (.iaload, 1) := dec_w [0x2e] (pc9 (k := 256) (j := 42) lwD_4 rfl) (by decide +kernel) rfl
theorem dL_law_299 : decode cL_law 299 = .ok (.i2l, 1) := dec_w [0x85] (pc9 (k := 256) (j := 43) lwD_4 rfl) (by decide +kernel) rfl
theorem dL_law_300 : decode cL_law 300 = .ok (.bipush 32, 2) := dec_w [0x10, 0x20] (pc9 (k := 256) (j := 44) lwD_4 rfl) (by decide +kernel) rfl
theorem dL_law_302 : decode cL_law 302 = .ok (.lshl, 1) := dec_w [0x79] (pc9 (k := 256) (j := 46) lwD_4 rfl) (by decide +kernel) rfl
theorem dL_law_303 : decode cL_law 303 = .ok (.aload_n 0, 1) := dec_w [0x2a] (pc9 (k := 256) (j := 47) lwD_4 rfl) (by decide +kernel) rfl
theorem dL_law_304 : decode cL_law 304 = .ok (.iload 5, 2) := dec_w [0x15, 0x05] (pc9 (k := 256) (j := 48) lwD_4 rfl) (by decide +kernel) rfl
theorem dL_law_306 : decode cL_law 306 = .ok (.iconst 2, 1) := dec_w [0x05] (pc9 (k := 256) (j := 50) lwD_4 rfl) (by decide +kernel) rfl
theorem dL_law_307 : decode cL_law 307 = .ok (.iadd, 1) := dec_w [0x60] (pc9 (k := 256) (j := 51) lwD_4 rfl) (by decide +kernel) rfl
theorem dL_law_308 : decode cL_law 308 = .ok (.iaload, 1) := dec_w [0x2e] (pc9 (k := 256) (j := 52) lwD_4 rfl) (by decide +kernel) rfl
theorem dL_law_309 : decode cL_law 309 = .ok (.i2l, 1) := dec_w [0x85] (pc9 (k := 256) (j := 53) lwD_4 rfl) (by decide +kernel) rfl
theorem dL_law_310 : decode cL_law 310 = .ok (.ldc2_w 186, 3) := dec_w [0x14, 0x00, 0xba] (pc9 (k := 256) (j := 54) lwD_4 rfl) (by decide +kernel) rfl
theorem dL_law_313 : decode cL_law 313 = .ok (.land, 1) := dec_w [0x7f] (pc9 (k := 256) (j := 57) lwD_4 rfl) (by decide +kernel) rfl
theorem dL_law_314 : decode cL_law 314 = .ok (.lor, 1) := dec_w [0x81] (pc9 (k := 256) (j := 58) lwD_4 rfl) (by decide +kernel) rfl
theorem dL_law_315 : decode cL_law 315 = .ok (.invokevirtual 188, 3) := dec_w [0xb6, 0x00, 0xbc] (pc9 (k := 256) (j := 59) lwD_4 rfl) (by decide +kernel) rfl
theorem dL_law_318 : decode cL_law 318 = .ok (.aload_n 2, 1) := dec_w [0x2c] (pc9 (k := 256) (j := 62) lwD_4 rfl) (by decide +kernel) rfl
theorem dL_law_319 : decode cL_law 319 = .ok (.aload_n 0, 1) := dec_w [0x2a] (pc9 (k := 256) (j := 63) lwD_4 rfl) (by decide +kernel) rfl
theorem dL_law_320 : decode cL_law 320 = .ok (.iload 5, 2) := dec_w [0x15, 0x05] (pc9 (k := 320) (j := 0) lwD_5 rfl) (by decide +kernel) rfl
theorem dL_law_322 : decode cL_law 322 = .ok (.iconst 1, 1) := dec_w [0x04] (pc9 (k := 320) (j := 2) lwD_5 rfl) (by decide +kernel) rfl
theorem dL_law_323 : decode cL_law 323 = .ok (.iadd, 1) := dec_w [0x60] (pc9 (k := 320) (j := 3) lwD_5 rfl) (by decide +kernel) rfl
theorem dL_law_324 : decode cL_law 324 = .ok (.iaload, 1) := dec_w [0x2e] (pc9 (k := 320) (j := 4) lwD_5 rfl) (by decide +kernel) rfl
theorem dL_law_325 : decode cL_law 325 = .ok (.i2l, 1) := dec_w [0x85] (pc9 (k := 320) (j := 5) lwD_5 rfl) (by decide +kernel) rfl
theorem dL_law_326 : decode cL_law 326 = .ok (.bipush 32, 2) := dec_w [0x10, 0x20] (pc9 (k := 320) (j := 6) lwD_5 rfl) (by decide +kernel) rfl
theorem dL_law_328 : decode cL_law 328 = .ok (.lshl, 1) := dec_w [0x79] (pc9 (k := 320) (j := 8) lwD_5 rfl) (by decide +kernel) rfl
theorem dL_law_329 : decode cL_law 329 = .ok (.aload_n 0, 1) := dec_w [0x2a] (pc9 (k := 320) (j := 9) lwD_5 rfl) (by decide +kernel) rfl
theorem dL_law_330 : decode cL_law 330 = .ok (.iload 5, 2) := dec_w [0x15, 0x05] (pc9 (k := 320) (j := 10) lwD_5 rfl) (by decide +kernel) rfl
theorem dL_law_332 : decode cL_law 332 = .ok (.iconst 2, 1) := dec_w [0x05] (pc9 (k := 320) (j := 12) lwD_5 rfl) (by decide +kernel) rfl
theorem dL_law_333 : decode cL_law 333 = .ok (.iadd, 1) := dec_w [0x60] (pc9 (k := 320) (j := 13) lwD_5 rfl) (by decide +kernel) rfl
theorem dL_law_334 : decode cL_law 334 = .ok (.iaload, 1) := dec_w [0x2e] (pc9 (k := 320) (j := 14) lwD_5 rfl) (by decide +kernel) rfl
theorem dL_law_335 : decode cL_law 335 = .ok (.i2l, 1) := dec_w [0x85] (pc9 (k := 320) (j := 15) lwD_5 rfl) (by decide +kernel) rfl
theorem dL_law_336 : decode cL_law 336 = .ok (.ldc2_w 186, 3) := dec_w [0x14, 0x00, 0xba] (pc9 (k := 320) (j := 16) lwD_5 rfl) (by decide +kernel) rfl
theorem dL_law_339 : decode cL_law 339 = .ok (.land, 1) := dec_w [0x7f] (pc9 (k := 320) (j := 19) lwD_5 rfl) (by decide +kernel) rfl
theorem dL_law_340 : decode cL_law 340 = .ok (.lor, 1) := dec_w [0x81] (pc9 (k := 320) (j := 20) lwD_5 rfl) (by decide +kernel) rfl
theorem dL_law_341 : decode cL_law 341 = .ok (.invokevirtual 192, 3) := dec_w [0xb6, 0x00, 0xc0] (pc9 (k := 320) (j := 21) lwD_5 rfl) (by decide +kernel) rfl
theorem dL_law_344 : decode cL_law 344 = .ok (.if_icmp .eq 3882, 3) := dec_w [0x9f, 0x0f, 0x2a] (pc9 (k := 320) (j := 24) lwD_5 rfl) (by decide +kernel) rfl
theorem dL_law_347 : decode cL_law 347 = .ok (.iconst 0, 1) := dec_w [0x03] (pc9 (k := 320) (j := 27) lwD_5 rfl) (by decide +kernel) rfl
theorem dL_law_348 : decode cL_law 348 = .ok (.ireturn, 1) := dec_w [0xac] (pc9 (k := 320) (j := 28) lwD_5 rfl) (by decide +kernel) rfl
theorem dL_law_349 : decode cL_law 349 = .ok (.aload_n 1, 1) := dec_w [0x2b] (pc9 (k := 320) (j := 29) lwD_5 rfl) (by decide +kernel) rfl
theorem dL_law_350 : decode cL_law 350 = .ok (.invokevirtual 193, 3) := dec_w [0xb6, 0x00, 0xc1] (pc9 (k := 320) (j := 30) lwD_5 rfl) (by decide +kernel) rfl
theorem dL_law_353 : decode cL_law 353 = .ok (.aload_n 2, 1) := dec_w [0x2c] (pc9 (k := 320) (j := 33) lwD_5 rfl) (by decide +kernel) rfl
theorem dL_law_354 : decode cL_law 354 = .ok (.invokevirtual 197, 3) := dec_w [0xb6, 0x00, 0xc5] (pc9 (k := 320) (j := 34) lwD_5 rfl) (by decide +kernel) rfl
theorem dL_law_357 : decode cL_law 357 = .ok (.if_icmp .eq 3869, 3) := dec_w [0x9f, 0x0f, 0x1d] (pc9 (k := 320) (j := 37) lwD_5 rfl) (by decide +kernel) rfl
theorem dL_law_360 : decode cL_law 360 = .ok (.iconst 0, 1) := dec_w [0x03] (pc9 (k := 320) (j := 40) lwD_5 rfl) (by decide +kernel) rfl
theorem dL_law_361 : decode cL_law 361 = .ok (.ireturn, 1) := dec_w [0xac] (pc9 (k := 320) (j := 41) lwD_5 rfl) (by decide +kernel) rfl
theorem dL_law_362 : decode cL_law 362 = .ok (.aload_n 1, 1) := dec_w [0x2b] (pc9 (k := 320) (j := 42) lwD_5 rfl) (by decide +kernel) rfl
theorem dL_law_363 : decode cL_law 363 = .ok (.invokevirtual 198, 3) := dec_w [0xb6, 0x00, 0xc6] (pc9 (k := 320) (j := 43) lwD_5 rfl) (by decide +kernel) rfl
theorem dL_law_366 : decode cL_law 366 = .ok (.aload_n 2, 1) := dec_w [0x2c] (pc9 (k := 320) (j := 46) lwD_5 rfl) (by decide +kernel) rfl
theorem dL_law_367 : decode cL_law 367 = .ok (.invokevirtual 201, 3) := dec_w [0xb6, 0x00, 0xc9] (pc9 (k := 320) (j := 47) lwD_5 rfl) (by decide +kernel) rfl
theorem dL_law_370 : decode cL_law 370 = .ok (.if_icmp .eq 3856, 3) := dec_w [0x9f, 0x0f, 0x10] (pc9 (k := 320) (j := 50) lwD_5 rfl) (by decide +kernel) rfl
theorem dL_law_373 : decode cL_law 373 = .ok (.iconst 0, 1) := dec_w [0x03] (pc9 (k := 320) (j := 53) lwD_5 rfl) (by decide +kernel) rfl
theorem dL_law_374 : decode cL_law 374 = .ok (.ireturn, 1) := dec_w [0xac] (pc9 (k := 320) (j := 54) lwD_5 rfl) (by decide +kernel) rfl
theorem dL_law_375 : decode cL_law 375 = .ok (.aload_n 1, 1) := dec_w [0x2b] (pc9 (k := 320) (j := 55) lwD_5 rfl) (by decide +kernel) rfl
theorem dL_law_376 : decode cL_law 376 = .ok (.invokevirtual 202, 3) := dec_w [0xb6, 0x00, 0xca] (pc9 (k := 320) (j := 56) lwD_5 rfl) (by decide +kernel) rfl
theorem dL_law_379 : decode cL_law 379 = .ok (.aload_n 2, 1) := dec_w [0x2c] (pc9 (k := 320) (j := 59) lwD_5 rfl) (by decide +kernel) rfl
theorem dL_law_380 : decode cL_law 380 = .ok (.invokevirtual 205, 3) := dec_w [0xb6, 0x00, 0xcd] (pc9 (k := 320) (j := 60) lwD_5 rfl) (by decide +kernel) rfl
theorem dL_law_383 : decode cL_law 383 = .ok (.if_icmp .eq 3843, 3) := dec_w [0x9f, 0x0f, 0x03] (pc9 (k := 320) (j := 63) lwD_5 rfl) (by decide +kernel) rfl
theorem dL_law_386 : decode cL_law 386 = .ok (.iconst 0, 1) := dec_w [0x03] (pc9 (k := 384) (j := 2) lwD_6 rfl) (by decide +kernel) rfl
theorem dL_law_387 : decode cL_law 387 = .ok (.ireturn, 1) := dec_w [0xac] (pc9 (k := 384) (j := 3) lwD_6 rfl) (by decide +kernel) rfl
theorem dL_law_388 : decode cL_law 388 = .ok (.aload_n 1, 1) := dec_w [0x2b] (pc9 (k := 384) (j := 4) lwD_6 rfl) (by decide +kernel) rfl
theorem dL_law_389 : decode cL_law 389 = .ok (.aload_n 0, 1) := dec_w [0x2a] (pc9 (k := 384) (j := 5) lwD_6 rfl) (by decide +kernel) rfl
theorem dL_law_390 : decode cL_law 390 = .ok (.iload 5, 2) := dec_w [0x15, 0x05] (pc9 (k := 384) (j := 6) lwD_6 rfl) (by decide +kernel) rfl
theorem dL_law_392 : decode cL_law 392 = .ok (.iconst 1, 1) := dec_w [0x04] (pc9 (k := 384) (j := 8) lwD_6 rfl) (by decide +kernel) rfl
theorem dL_law_393 : decode cL_law 393 = .ok (.iadd, 1) := dec_w [0x60] (pc9 (k := 384) (j := 9) lwD_6 rfl) (by decide +kernel) rfl
theorem dL_law_394 : decode cL_law 394 = .ok (.iaload, 1) := dec_w [0x2e] (pc9 (k := 384) (j := 10) lwD_6 rfl) (by decide +kernel) rfl
theorem dL_law_395 : decode cL_law 395 = .ok (.aload_n 3, 1) := dec_w [0x2d] (pc9 (k := 384) (j := 11) lwD_6 rfl) (by decide +kernel) rfl
theorem dL_law_396 : decode cL_law 396 = .ok (.invokestatic 206, 3) := dec_w [0xb8, 0x00, 0xce] (pc9 (k := 384) (j := 12) lwD_6 rfl) (by decide +kernel) rfl
theorem dL_law_399 : decode cL_law 399 = .ok (.istore 6, 2) := dec_w [0x36, 0x06] (pc9 (k := 384) (j := 15) lwD_6 rfl) (by decide +kernel) rfl
theorem dL_law_401 : decode cL_law 401 = .ok (.aload_n 2, 1) := dec_w [0x2c] (pc9 (k := 384) (j := 17) lwD_6 rfl) (by decide +kernel) rfl
theorem dL_law_402 : decode cL_law 402 = .ok (.aload_n 0, 1) := dec_w [0x2a] (pc9 (k := 384) (j := 18) lwD_6 rfl) (by decide +kernel) rfl
theorem dL_law_403 : decode cL_law 403 = .ok (.iload 5, 2) := dec_w [0x15, 0x05] (pc9 (k := 384) (j := 19) lwD_6 rfl) (by decide +kernel) rfl
theorem dL_law_405 : decode cL_law 405 = .ok (.iconst 1, 1) := dec_w [0x04] (pc9 (k := 384) (j := 21) lwD_6 rfl) (by decide +kernel) rfl
theorem dL_law_406 : decode cL_law 406 = .ok (.iadd, 1) := dec_w [0x60] (pc9 (k := 384) (j := 22) lwD_6 rfl) (by decide +kernel) rfl
theorem dL_law_407 : decode cL_law 407 = .ok (.iaload, 1) := dec_w [0x2e] (pc9 (k := 384) (j := 23) lwD_6 rfl) (by decide +kernel) rfl
theorem dL_law_408 : decode cL_law 408 = .ok (.invokevirtual 211, 3) := dec_w [0xb6, 0x00, 0xd3] (pc9 (k := 384) (j := 24) lwD_6 rfl) (by decide +kernel) rfl
theorem dL_law_411 : decode cL_law 411 = .ok (.istore 7, 2) := dec_w [0x36, 0x07] (pc9 (k := 384) (j := 27) lwD_6 rfl) (by decide +kernel) rfl
theorem dL_law_413 : decode cL_law 413 = .ok (.aload_n 2, 1) := dec_w [0x2c] (pc9 (k := 384) (j := 29) lwD_6 rfl) (by decide +kernel) rfl
theorem dL_law_414 : decode cL_law 414 = .ok (.invokevirtual 212, 3) := dec_w [0xb6, 0x00, 0xd4] (pc9 (k := 384) (j := 30) lwD_6 rfl) (by decide +kernel) rfl
theorem dL_law_417 : decode cL_law 417 = .ok (.iload 6, 2) := dec_w [0x15, 0x06] (pc9 (k := 384) (j := 33) lwD_6 rfl) (by decide +kernel) rfl
theorem dL_law_419 : decode cL_law 419 = .ok (.if_icmp .eq 5, 3) := dec_w [0x9f, 0x00, 0x05] (pc9 (k := 384) (j := 35) lwD_6 rfl) (by decide +kernel) rfl
theorem dL_law_422 : decode cL_law 422 = .ok (.iconst 0, 1) := dec_w [0x03] (pc9 (k := 384) (j := 38) lwD_6 rfl) (by decide +kernel) rfl
theorem dL_law_423 : decode cL_law 423 = .ok (.ireturn, 1) := dec_w [0xac] (pc9 (k := 384) (j := 39) lwD_6 rfl) (by decide +kernel) rfl
theorem dL_law_424 : decode cL_law 424 = .ok (.iload 6, 2) := dec_w [0x15, 0x06] (pc9 (k := 384) (j := 40) lwD_6 rfl) (by decide +kernel) rfl
theorem dL_law_426 : decode cL_law 426 = .ok (.ifCond .ne 15, 3) := dec_w [0x9a, 0x00, 0x0f] (pc9 (k := 384) (j := 42) lwD_6 rfl) (by decide +kernel) rfl
theorem dL_law_429 : decode cL_law 429 = .ok (.aload_n 3, 1) := dec_w [0x2d] (pc9 (k := 384) (j := 45) lwD_6 rfl) (by decide +kernel) rfl
theorem dL_law_430 : decode cL_law 430 = .ok (.iconst 0, 1) := dec_w [0x03] (pc9 (k := 384) (j := 46) lwD_6 rfl) (by decide +kernel) rfl
theorem dL_law_431 : decode cL_law 431 = .ok (.laload, 1) := dec_w [0x2f] (pc9 (k := 384) (j := 47) lwD_6 rfl) (by decide +kernel) rfl
theorem dL_law_432 : decode cL_law 432 = .ok (.iload 7, 2) := dec_w [0x15, 0x07] (pc9 (k := 384) (j := 48) lwD_6 rfl) (by decide +kernel) rfl
theorem dL_law_434 : decode cL_law 434 = .ok (.i2l, 1) := dec_w [0x85] (pc9 (k := 384) (j := 50) lwD_6 rfl) (by decide +kernel) rfl
theorem dL_law_435 : decode cL_law 435 = .ok (.lcmp, 1) := dec_w [0x94] (pc9 (k := 384) (j := 51) lwD_6 rfl) (by decide +kernel) rfl
theorem dL_law_436 : decode cL_law 436 = .ok (.ifCond .eq 5, 3) := dec_w [0x99, 0x00, 0x05] (pc9 (k := 384) (j := 52) lwD_6 rfl) (by decide +kernel) rfl
theorem dL_law_439 : decode cL_law 439 = .ok (.iconst 0, 1) := dec_w [0x03] (pc9 (k := 384) (j := 55) lwD_6 rfl) (by decide +kernel) rfl
theorem dL_law_440 : decode cL_law 440 = .ok (.ireturn, 1) := dec_w [0xac] (pc9 (k := 384) (j := 56) lwD_6 rfl) (by decide +kernel) rfl
theorem dL_law_441 : decode cL_law 441 = .ok (.goto 3785, 3) := dec_w [0xa7, 0x0e, 0xc9] (pc9 (k := 384) (j := 57) lwD_6 rfl) (by decide +kernel) rfl
theorem dL_law_444 : decode cL_law 444 = .ok (.aload_n 1, 1) := dec_w [0x2b] (pc9 (k := 384) (j := 60) lwD_6 rfl) (by decide +kernel) rfl
theorem dL_law_445 : decode cL_law 445 = .ok (.aload_n 0, 1) := dec_w [0x2a] (pc9 (k := 384) (j := 61) lwD_6 rfl) (by decide +kernel) rfl
theorem dL_law_446 : decode cL_law 446 = .ok (.iload 5, 2) := dec_w [0x15, 0x05] (pc9 (k := 384) (j := 62) lwD_6 rfl) (by decide +kernel) rfl
theorem dL_law_448 : decode cL_law 448 = .ok (.iconst 1, 1) := dec_w [0x04] (pc9 (k := 448) (j := 0) lwD_7 rfl) (by decide +kernel) rfl
theorem dL_law_449 : decode cL_law 449 = .ok (.iadd, 1) := dec_w [0x60] (pc9 (k := 448) (j := 1) lwD_7 rfl) (by decide +kernel) rfl
theorem dL_law_450 : decode cL_law 450 = .ok (.iaload, 1) := dec_w [0x2e] (pc9 (k := 448) (j := 2) lwD_7 rfl) (by decide +kernel) rfl
theorem dL_law_451 : decode cL_law 451 = .ok (.aload_n 0, 1) := dec_w [0x2a] (pc9 (k := 448) (j := 3) lwD_7 rfl) (by decide +kernel) rfl
theorem dL_law_452 : decode cL_law 452 = .ok (.iload 5, 2) := dec_w [0x15, 0x05] (pc9 (k := 448) (j := 4) lwD_7 rfl) (by decide +kernel) rfl
theorem dL_law_454 : decode cL_law 454 = .ok (.iconst 2, 1) := dec_w [0x05] (pc9 (k := 448) (j := 6) lwD_7 rfl) (by decide +kernel) rfl
theorem dL_law_455 : decode cL_law 455 = .ok (.iadd, 1) := dec_w [0x60] (pc9 (k := 448) (j := 7) lwD_7 rfl) (by decide +kernel) rfl
theorem dL_law_456 : decode cL_law 456 = .ok (.iaload, 1) := dec_w [0x2e] (pc9 (k := 448) (j := 8) lwD_7 rfl) (by decide +kernel) rfl
theorem dL_law_457 : decode cL_law 457 = .ok (.aload_n 0, 1) := dec_w [0x2a] (pc9 (k := 448) (j := 9) lwD_7 rfl) (by decide +kernel) rfl
theorem dL_law_458 : decode cL_law 458 = .ok (.iload 5, 2) := dec_w [0x15, 0x05] (pc9 (k := 448) (j := 10) lwD_7 rfl) (by decide +kernel) rfl
theorem dL_law_460 : decode cL_law 460 = .ok (.iconst 3, 1) := dec_w [0x06] (pc9 (k := 448) (j := 12) lwD_7 rfl) (by decide +kernel) rfl
theorem dL_law_461 : decode cL_law 461 = .ok (.iadd, 1) := dec_w [0x60] (pc9 (k := 448) (j := 13) lwD_7 rfl) (by decide +kernel) rfl
theorem dL_law_462 : decode cL_law 462 = .ok (.iaload, 1) := dec_w [0x2e] (pc9 (k := 448) (j := 14) lwD_7 rfl) (by decide +kernel) rfl
theorem dL_law_463 : decode cL_law 463 = .ok (.aload_n 3, 1) := dec_w [0x2d] (pc9 (k := 448) (j := 15) lwD_7 rfl) (by decide +kernel) rfl
theorem dL_law_464 : decode cL_law 464 = .ok (.invokestatic 215, 3) := dec_w [0xb8, 0x00, 0xd7] (pc9 (k := 448) (j := 16) lwD_7 rfl) (by decide +kernel) rfl
theorem dL_law_467 : decode cL_law 467 = .ok (.istore 6, 2) := dec_w [0x36, 0x06] (pc9 (k := 448) (j := 19) lwD_7 rfl) (by decide +kernel) rfl
theorem dL_law_469 : decode cL_law 469 = .ok (.aload_n 2, 1) := dec_w [0x2c] (pc9 (k := 448) (j := 21) lwD_7 rfl) (by decide +kernel) rfl
theorem dL_law_470 : decode cL_law 470 = .ok (.aload_n 0, 1) := dec_w [0x2a] (pc9 (k := 448) (j := 22) lwD_7 rfl) (by decide +kernel) rfl
theorem dL_law_471 : decode cL_law 471 = .ok (.iload 5, 2) := dec_w [0x15, 0x05] (pc9 (k := 448) (j := 23) lwD_7 rfl) (by decide +kernel) rfl
theorem dL_law_473 : decode cL_law 473 = .ok (.iconst 1, 1) := dec_w [0x04] (pc9 (k := 448) (j := 25) lwD_7 rfl) (by decide +kernel) rfl
theorem dL_law_474 : decode cL_law 474 = .ok (.iadd, 1) := dec_w [0x60] (pc9 (k := 448) (j := 26) lwD_7 rfl) (by decide +kernel) rfl
theorem dL_law_475 : decode cL_law 475 = .ok (.iaload, 1) := dec_w [0x2e] (pc9 (k := 448) (j := 27) lwD_7 rfl) (by decide +kernel) rfl
theorem dL_law_476 : decode cL_law 476 = .ok (.aload_n 0, 1) := dec_w [0x2a] (pc9 (k := 448) (j := 28) lwD_7 rfl) (by decide +kernel) rfl
theorem dL_law_477 : decode cL_law 477 = .ok (.iload 5, 2) := dec_w [0x15, 0x05] (pc9 (k := 448) (j := 29) lwD_7 rfl) (by decide +kernel) rfl
theorem dL_law_479 : decode cL_law 479 = .ok (.iconst 2, 1) := dec_w [0x05] (pc9 (k := 448) (j := 31) lwD_7 rfl) (by decide +kernel) rfl
theorem dL_law_480 : decode cL_law 480 = .ok (.iadd, 1) := dec_w [0x60] (pc9 (k := 448) (j := 32) lwD_7 rfl) (by decide +kernel) rfl
theorem dL_law_481 : decode cL_law 481 = .ok (.iaload, 1) := dec_w [0x2e] (pc9 (k := 448) (j := 33) lwD_7 rfl) (by decide +kernel) rfl
theorem dL_law_482 : decode cL_law 482 = .ok (.aload_n 0, 1) := dec_w [0x2a] (pc9 (k := 448) (j := 34) lwD_7 rfl) (by decide +kernel) rfl
theorem dL_law_483 : decode cL_law 483 = .ok (.iload 5, 2) := dec_w [0x15, 0x05] (pc9 (k := 448) (j := 35) lwD_7 rfl) (by decide +kernel) rfl
theorem dL_law_485 : decode cL_law 485 = .ok (.iconst 3, 1) := dec_w [0x06] (pc9 (k := 448) (j := 37) lwD_7 rfl) (by decide +kernel) rfl
theorem dL_law_486 : decode cL_law 486 = .ok (.iadd, 1) := dec_w [0x60] (pc9 (k := 448) (j := 38) lwD_7 rfl) (by decide +kernel) rfl
theorem dL_law_487 : decode cL_law 487 = .ok (.iaload, 1) := dec_w [0x2e] (pc9 (k := 448) (j := 39) lwD_7 rfl) (by decide +kernel) rfl
theorem dL_law_488 : decode cL_law 488 = .ok (.invokevirtual 218, 3) := dec_w [0xb6, 0x00, 0xda] (pc9 (k := 448) (j := 40) lwD_7 rfl) (by decide +kernel) rfl
theorem dL_law_491 : decode cL_law 491 = .ok (.istore 7, 2) := dec_w [0x36, 0x07] (pc9 (k := 448) (j := 43) lwD_7 rfl) (by decide +kernel) rfl
theorem dL_law_493 : decode cL_law 493 = .ok (.aload_n 2, 1) := dec_w [0x2c] (pc9 (k := 448) (j := 45) lwD_7 rfl) (by decide +kernel) rfl
theorem dL_law_494 : decode cL_law 494 = .ok (.invokevirtual 212, 3) := dec_w [0xb6, 0x00, 0xd4] (pc9 (k := 448) (j := 46) lwD_7 rfl) (by decide +kernel) rfl
theorem dL_law_497 : decode cL_law 497 = .ok (.iload 6, 2) := dec_w [0x15, 0x06] (pc9 (k := 448) (j := 49) lwD_7 rfl) (by decide +kernel) rfl
theorem dL_law_499 : decode cL_law 499 = .ok (.if_icmp .eq 5, 3) := dec_w [0x9f, 0x00, 0x05] (pc9 (k := 448) (j := 51) lwD_7 rfl) (by decide +kernel) rfl
theorem dL_law_502 : decode cL_law 502 = .ok (.iconst 0, 1) := dec_w [0x03] (pc9 (k := 448) (j := 54) lwD_7 rfl) (by decide +kernel) rfl
theorem dL_law_503 : decode cL_law 503 = .ok (.ireturn, 1) := dec_w [0xac] (pc9 (k := 448) (j := 55) lwD_7 rfl) (by decide +kernel) rfl
theorem dL_law_504 : decode cL_law 504 = .ok (.iload 6, 2) := dec_w [0x15, 0x06] (pc9 (k := 448) (j := 56) lwD_7 rfl) (by decide +kernel) rfl
theorem dL_law_506 : decode cL_law 506 = .ok (.ifCond .ne 15, 3) := dec_w [0x9a, 0x00, 0x0f] (pc9 (k := 448) (j := 58) lwD_7 rfl) (by decide +kernel) rfl
theorem dL_law_509 : decode cL_law 509 = .ok (.aload_n 3, 1) := dec_w [0x2d] (pc9 (k := 448) (j := 61) lwD_7 rfl) (by decide +kernel) rfl
theorem dL_law_510 : decode cL_law 510 = .ok (.iconst 0, 1) := dec_w [0x03] (pc9 (k := 448) (j := 62) lwD_7 rfl) (by decide +kernel) rfl
theorem dL_law_511 : decode cL_law 511 = .ok (.laload, 1) := dec_w [0x2f] (pc9 (k := 448) (j := 63) lwD_7 rfl) (by decide +kernel) rfl
theorem dL_law_512 : decode cL_law 512 = .ok (.iload 7, 2) := dec_w [0x15, 0x07] (pc9 (k := 512) (j := 0) lwD_8 rfl) (by decide +kernel) rfl
theorem dL_law_514 : decode cL_law 514 = .ok (.i2l, 1) := dec_w [0x85] (pc9 (k := 512) (j := 2) lwD_8 rfl) (by decide +kernel) rfl
theorem dL_law_515 : decode cL_law 515 = .ok (.lcmp, 1) := dec_w [0x94] (pc9 (k := 512) (j := 3) lwD_8 rfl) (by decide +kernel) rfl
theorem dL_law_516 : decode cL_law 516 = .ok (.ifCond .eq 5, 3) := dec_w [0x99, 0x00, 0x05] (pc9 (k := 512) (j := 4) lwD_8 rfl) (by decide +kernel) rfl
theorem dL_law_519 : decode cL_law 519 = .ok (.iconst 0, 1) := dec_w [0x03] (pc9 (k := 512) (j := 7) lwD_8 rfl) (by decide +kernel) rfl
theorem dL_law_520 : decode cL_law 520 = .ok (.ireturn, 1) := dec_w [0xac] (pc9 (k := 512) (j := 8) lwD_8 rfl) (by decide +kernel) rfl
theorem dL_law_521 : decode cL_law 521 = .ok (.goto 3705, 3) := dec_w [0xa7, 0x0e, 0x79] (pc9 (k := 512) (j := 9) lwD_8 rfl) (by decide +kernel) rfl
theorem dL_law_524 : decode cL_law 524 = .ok (.aload_n 1, 1) := dec_w [0x2b] (pc9 (k := 512) (j := 12) lwD_8 rfl) (by decide +kernel) rfl
theorem dL_law_525 : decode cL_law 525 = .ok (.aload_n 0, 1) := dec_w [0x2a] (pc9 (k := 512) (j := 13) lwD_8 rfl) (by decide +kernel) rfl
theorem dL_law_526 : decode cL_law 526 = .ok (.iload 5, 2) := dec_w [0x15, 0x05] (pc9 (k := 512) (j := 14) lwD_8 rfl) (by decide +kernel) rfl
theorem dL_law_528 : decode cL_law 528 = .ok (.iconst 1, 1) := dec_w [0x04] (pc9 (k := 512) (j := 16) lwD_8 rfl) (by decide +kernel) rfl
theorem dL_law_529 : decode cL_law 529 = .ok (.iadd, 1) := dec_w [0x60] (pc9 (k := 512) (j := 17) lwD_8 rfl) (by decide +kernel) rfl
theorem dL_law_530 : decode cL_law 530 = .ok (.iaload, 1) := dec_w [0x2e] (pc9 (k := 512) (j := 18) lwD_8 rfl) (by decide +kernel) rfl
theorem dL_law_531 : decode cL_law 531 = .ok (.aload_n 0, 1) := dec_w [0x2a] (pc9 (k := 512) (j := 19) lwD_8 rfl) (by decide +kernel) rfl
theorem dL_law_532 : decode cL_law 532 = .ok (.iload 5, 2) := dec_w [0x15, 0x05] (pc9 (k := 512) (j := 20) lwD_8 rfl) (by decide +kernel) rfl
theorem dL_law_534 : decode cL_law 534 = .ok (.iconst 2, 1) := dec_w [0x05] (pc9 (k := 512) (j := 22) lwD_8 rfl) (by decide +kernel) rfl
theorem dL_law_535 : decode cL_law 535 = .ok (.iadd, 1) := dec_w [0x60] (pc9 (k := 512) (j := 23) lwD_8 rfl) (by decide +kernel) rfl
theorem dL_law_536 : decode cL_law 536 = .ok (.iaload, 1) := dec_w [0x2e] (pc9 (k := 512) (j := 24) lwD_8 rfl) (by decide +kernel) rfl
theorem dL_law_537 : decode cL_law 537 = .ok (.aload_n 3, 1) := dec_w [0x2d] (pc9 (k := 512) (j := 25) lwD_8 rfl) (by decide +kernel) rfl
theorem dL_law_538 : decode cL_law 538 = .ok (.invokestatic 219, 3) := dec_w [0xb8, 0x00, 0xdb] (pc9 (k := 512) (j := 26) lwD_8 rfl) (by decide +kernel) rfl
theorem dL_law_541 : decode cL_law 541 = .ok (.istore 6, 2) := dec_w [0x36, 0x06] (pc9 (k := 512) (j := 29) lwD_8 rfl) (by decide +kernel) rfl
theorem dL_law_543 : decode cL_law 543 = .ok (.aload_n 2, 1) := dec_w [0x2c] (pc9 (k := 512) (j := 31) lwD_8 rfl) (by decide +kernel) rfl
theorem dL_law_544 : decode cL_law 544 = .ok (.aload_n 0, 1) := dec_w [0x2a] (pc9 (k := 512) (j := 32) lwD_8 rfl) (by decide +kernel) rfl
theorem dL_law_545 : decode cL_law 545 = .ok (.iload 5, 2) := dec_w [0x15, 0x05] (pc9 (k := 512) (j := 33) lwD_8 rfl) (by decide +kernel) rfl
theorem dL_law_547 : decode cL_law 547 = .ok (.iconst 1, 1) := dec_w [0x04] (pc9 (k := 512) (j := 35) lwD_8 rfl) (by decide +kernel) rfl
theorem dL_law_548 : decode cL_law 548 = .ok (.iadd, 1) := dec_w [0x60] (pc9 (k := 512) (j := 36) lwD_8 rfl) (by decide +kernel) rfl
theorem dL_law_549 : decode cL_law 549 = .ok (.iaload, 1) := dec_w [0x2e] (pc9 (k := 512) (j := 37) lwD_8 rfl) (by decide +kernel) rfl
theorem dL_law_550 : decode cL_law 550 = .ok (.aload_n 0, 1) := dec_w [0x2a] (pc9 (k := 512) (j := 38) lwD_8 rfl) (by decide +kernel) rfl
theorem dL_law_551 : decode cL_law 551 = .ok (.iload 5, 2) := dec_w [0x15, 0x05] (pc9 (k := 512) (j := 39) lwD_8 rfl) (by decide +kernel) rfl
theorem dL_law_553 : decode cL_law 553 = .ok (.iconst 2, 1) := dec_w [0x05] (pc9 (k := 512) (j := 41) lwD_8 rfl) (by decide +kernel) rfl
theorem dL_law_554 : decode cL_law 554 = .ok (.iadd, 1) := dec_w [0x60] (pc9 (k := 512) (j := 42) lwD_8 rfl) (by decide +kernel) rfl
theorem dL_law_555 : decode cL_law 555 = .ok (.iaload, 1) := dec_w [0x2e] (pc9 (k := 512) (j := 43) lwD_8 rfl) (by decide +kernel) rfl
theorem dL_law_556 : decode cL_law 556 = .ok (.invokevirtual 222, 3) := dec_w [0xb6, 0x00, 0xde] (pc9 (k := 512) (j := 44) lwD_8 rfl) (by decide +kernel) rfl
theorem dL_law_559 : decode cL_law 559 = .ok (.lstore 7, 2) := dec_w [0x37, 0x07] (pc9 (k := 512) (j := 47) lwD_8 rfl) (by decide +kernel) rfl
theorem dL_law_561 : decode cL_law 561 = .ok (.aload_n 2, 1) := dec_w [0x2c] (pc9 (k := 512) (j := 49) lwD_8 rfl) (by decide +kernel) rfl
theorem dL_law_562 : decode cL_law 562 = .ok (.invokevirtual 212, 3) := dec_w [0xb6, 0x00, 0xd4] (pc9 (k := 512) (j := 50) lwD_8 rfl) (by decide +kernel) rfl
theorem dL_law_565 : decode cL_law 565 = .ok (.iload 6, 2) := dec_w [0x15, 0x06] (pc9 (k := 512) (j := 53) lwD_8 rfl) (by decide +kernel) rfl
theorem dL_law_567 : decode cL_law 567 = .ok (.if_icmp .eq 5, 3) := dec_w [0x9f, 0x00, 0x05] (pc9 (k := 512) (j := 55) lwD_8 rfl) (by decide +kernel) rfl
theorem dL_law_570 : decode cL_law 570 = .ok (.iconst 0, 1) := dec_w [0x03] (pc9 (k := 512) (j := 58) lwD_8 rfl) (by decide +kernel) rfl
theorem dL_law_571 : decode cL_law 571 = .ok (.ireturn, 1) := dec_w [0xac] (pc9 (k := 512) (j := 59) lwD_8 rfl) (by decide +kernel) rfl
theorem dL_law_572 : decode cL_law 572 = .ok (.iload 6, 2) := dec_w [0x15, 0x06] (pc9 (k := 512) (j := 60) lwD_8 rfl) (by decide +kernel) rfl
theorem dL_law_574 : decode cL_law 574 = .ok (.ifCond .ne 14, 3) := dec_w [0x9a, 0x00, 0x0e] (pc9 (k := 512) (j := 62) lwD_8 rfl) (by decide +kernel) rfl
theorem dL_law_577 : decode cL_law 577 = .ok (.aload_n 3, 1) := dec_w [0x2d] (pc9 (k := 576) (j := 1) lwD_9 rfl) (by decide +kernel) rfl
theorem dL_law_578 : decode cL_law 578 = .ok (.iconst 0, 1) := dec_w [0x03] (pc9 (k := 576) (j := 2) lwD_9 rfl) (by decide +kernel) rfl
theorem dL_law_579 : decode cL_law 579 = .ok (.laload, 1) := dec_w [0x2f] (pc9 (k := 576) (j := 3) lwD_9 rfl) (by decide +kernel) rfl
theorem dL_law_580 : decode cL_law 580 = .ok (.lload 7, 2) := dec_w [0x16, 0x07] (pc9 (k := 576) (j := 4) lwD_9 rfl) (by decide +kernel) rfl
theorem dL_law_582 : decode cL_law 582 = .ok (.lcmp, 1) := dec_w [0x94] (pc9 (k := 576) (j := 6) lwD_9 rfl) (by decide +kernel) rfl
theorem dL_law_583 : decode cL_law 583 = .ok (.ifCond .eq 5, 3) := dec_w [0x99, 0x00, 0x05] (pc9 (k := 576) (j := 7) lwD_9 rfl) (by decide +kernel) rfl
theorem dL_law_586 : decode cL_law 586 = .ok (.iconst 0, 1) := dec_w [0x03] (pc9 (k := 576) (j := 10) lwD_9 rfl) (by decide +kernel) rfl
theorem dL_law_587 : decode cL_law 587 = .ok (.ireturn, 1) := dec_w [0xac] (pc9 (k := 576) (j := 11) lwD_9 rfl) (by decide +kernel) rfl
theorem dL_law_588 : decode cL_law 588 = .ok (.goto 3638, 3) := dec_w [0xa7, 0x0e, 0x36] (pc9 (k := 576) (j := 12) lwD_9 rfl) (by decide +kernel) rfl
theorem dL_law_591 : decode cL_law 591 = .ok (.aload_n 1, 1) := dec_w [0x2b] (pc9 (k := 576) (j := 15) lwD_9 rfl) (by decide +kernel) rfl
theorem dL_law_592 : decode cL_law 592 = .ok (.aload_n 0, 1) := dec_w [0x2a] (pc9 (k := 576) (j := 16) lwD_9 rfl) (by decide +kernel) rfl
theorem dL_law_593 : decode cL_law 593 = .ok (.iload 5, 2) := dec_w [0x15, 0x05] (pc9 (k := 576) (j := 17) lwD_9 rfl) (by decide +kernel) rfl
theorem dL_law_595 : decode cL_law 595 = .ok (.iconst 1, 1) := dec_w [0x04] (pc9 (k := 576) (j := 19) lwD_9 rfl) (by decide +kernel) rfl
theorem dL_law_596 : decode cL_law 596 = .ok (.iadd, 1) := dec_w [0x60] (pc9 (k := 576) (j := 20) lwD_9 rfl) (by decide +kernel) rfl
theorem dL_law_597 : decode cL_law 597 = .ok (.iaload, 1) := dec_w [0x2e] (pc9 (k := 576) (j := 21) lwD_9 rfl) (by decide +kernel) rfl
theorem dL_law_598 : decode cL_law 598 = .ok (.aload_n 0, 1) := dec_w [0x2a] (pc9 (k := 576) (j := 22) lwD_9 rfl) (by decide +kernel) rfl
theorem dL_law_599 : decode cL_law 599 = .ok (.iload 5, 2) := dec_w [0x15, 0x05] (pc9 (k := 576) (j := 23) lwD_9 rfl) (by decide +kernel) rfl
theorem dL_law_601 : decode cL_law 601 = .ok (.iconst 2, 1) := dec_w [0x05] (pc9 (k := 576) (j := 25) lwD_9 rfl) (by decide +kernel) rfl
theorem dL_law_602 : decode cL_law 602 = .ok (.iadd, 1) := dec_w [0x60] (pc9 (k := 576) (j := 26) lwD_9 rfl) (by decide +kernel) rfl
theorem dL_law_603 : decode cL_law 603 = .ok (.iaload, 1) := dec_w [0x2e] (pc9 (k := 576) (j := 27) lwD_9 rfl) (by decide +kernel) rfl
theorem dL_law_604 : decode cL_law 604 = .ok (.aload_n 0, 1) := dec_w [0x2a] (pc9 (k := 576) (j := 28) lwD_9 rfl) (by decide +kernel) rfl
theorem dL_law_605 : decode cL_law 605 = .ok (.iload 5, 2) := dec_w [0x15, 0x05] (pc9 (k := 576) (j := 29) lwD_9 rfl) (by decide +kernel) rfl
theorem dL_law_607 : decode cL_law 607 = .ok (.iconst 3, 1) := dec_w [0x06] (pc9 (k := 576) (j := 31) lwD_9 rfl) (by decide +kernel) rfl
theorem dL_law_608 : decode cL_law 608 = .ok (.iadd, 1) := dec_w [0x60] (pc9 (k := 576) (j := 32) lwD_9 rfl) (by decide +kernel) rfl
theorem dL_law_609 : decode cL_law 609 = .ok (.iaload, 1) := dec_w [0x2e] (pc9 (k := 576) (j := 33) lwD_9 rfl) (by decide +kernel) rfl
theorem dL_law_610 : decode cL_law 610 = .ok (.aload_n 3, 1) := dec_w [0x2d] (pc9 (k := 576) (j := 34) lwD_9 rfl) (by decide +kernel) rfl
theorem dL_law_611 : decode cL_law 611 = .ok (.invokestatic 223, 3) := dec_w [0xb8, 0x00, 0xdf] (pc9 (k := 576) (j := 35) lwD_9 rfl) (by decide +kernel) rfl
theorem dL_law_614 : decode cL_law 614 = .ok (.istore 6, 2) := dec_w [0x36, 0x06] (pc9 (k := 576) (j := 38) lwD_9 rfl) (by decide +kernel) rfl
theorem dL_law_616 : decode cL_law 616 = .ok (.aload_n 2, 1) := dec_w [0x2c] (pc9 (k := 576) (j := 40) lwD_9 rfl) (by decide +kernel) rfl
theorem dL_law_617 : decode cL_law 617 = .ok (.aload_n 0, 1) := dec_w [0x2a] (pc9 (k := 576) (j := 41) lwD_9 rfl) (by decide +kernel) rfl
theorem dL_law_618 : decode cL_law 618 = .ok (.iload 5, 2) := dec_w [0x15, 0x05] (pc9 (k := 576) (j := 42) lwD_9 rfl) (by decide +kernel) rfl
theorem dL_law_620 : decode cL_law 620 = .ok (.iconst 1, 1) := dec_w [0x04] (pc9 (k := 576) (j := 44) lwD_9 rfl) (by decide +kernel) rfl
theorem dL_law_621 : decode cL_law 621 = .ok (.iadd, 1) := dec_w [0x60] (pc9 (k := 576) (j := 45) lwD_9 rfl) (by decide +kernel) rfl
theorem dL_law_622 : decode cL_law 622 = .ok (.iaload, 1) := dec_w [0x2e] (pc9 (k := 576) (j := 46) lwD_9 rfl) (by decide +kernel) rfl
theorem dL_law_623 : decode cL_law 623 = .ok (.aload_n 0, 1) := dec_w [0x2a] (pc9 (k := 576) (j := 47) lwD_9 rfl) (by decide +kernel) rfl
theorem dL_law_624 : decode cL_law 624 = .ok (.iload 5, 2) := dec_w [0x15, 0x05] (pc9 (k := 576) (j := 48) lwD_9 rfl) (by decide +kernel) rfl
theorem dL_law_626 : decode cL_law 626 = .ok (.iconst 2, 1) := dec_w [0x05] (pc9 (k := 576) (j := 50) lwD_9 rfl) (by decide +kernel) rfl
theorem dL_law_627 : decode cL_law 627 = .ok (.iadd, 1) := dec_w [0x60] (pc9 (k := 576) (j := 51) lwD_9 rfl) (by decide +kernel) rfl
theorem dL_law_628 : decode cL_law 628 = .ok (.iaload, 1) := dec_w [0x2e] (pc9 (k := 576) (j := 52) lwD_9 rfl) (by decide +kernel) rfl
theorem dL_law_629 : decode cL_law 629 = .ok (.aload_n 0, 1) := dec_w [0x2a] (pc9 (k := 576) (j := 53) lwD_9 rfl) (by decide +kernel) rfl
theorem dL_law_630 : decode cL_law 630 = .ok (.iload 5, 2) := dec_w [0x15, 0x05] (pc9 (k := 576) (j := 54) lwD_9 rfl) (by decide +kernel) rfl
theorem dL_law_632 : decode cL_law 632 = .ok (.iconst 3, 1) := dec_w [0x06] (pc9 (k := 576) (j := 56) lwD_9 rfl) (by decide +kernel) rfl
theorem dL_law_633 : decode cL_law 633 = .ok (.iadd, 1) := dec_w [0x60] (pc9 (k := 576) (j := 57) lwD_9 rfl) (by decide +kernel) rfl
theorem dL_law_634 : decode cL_law 634 = .ok (.iaload, 1) := dec_w [0x2e] (pc9 (k := 576) (j := 58) lwD_9 rfl) (by decide +kernel) rfl
theorem dL_law_635 : decode cL_law 635 = .ok (.invokevirtual 225, 3) := dec_w [0xb6, 0x00, 0xe1] (pc9 (k := 576) (j := 59) lwD_9 rfl) (by decide +kernel) rfl
theorem dL_law_638 : decode cL_law 638 = .ok (.istore 7, 2) := dec_w [0x36, 0x07] (pc9 (k := 576) (j := 62) lwD_9 rfl) (by decide +kernel) rfl
theorem dL_law_640 : decode cL_law 640 = .ok (.aload_n 2, 1) := dec_w [0x2c] (pc9 (k := 640) (j := 0) lwD_10 rfl) (by decide +kernel) rfl
theorem dL_law_641 : decode cL_law 641 = .ok (.invokevirtual 212, 3) := dec_w [0xb6, 0x00, 0xd4] (pc9 (k := 640) (j := 1) lwD_10 rfl) (by decide +kernel) rfl
theorem dL_law_644 : decode cL_law 644 = .ok (.iload 6, 2) := dec_w [0x15, 0x06] (pc9 (k := 640) (j := 4) lwD_10 rfl) (by decide +kernel) rfl
theorem dL_law_646 : decode cL_law 646 = .ok (.if_icmp .eq 5, 3) := dec_w [0x9f, 0x00, 0x05] (pc9 (k := 640) (j := 6) lwD_10 rfl) (by decide +kernel) rfl
theorem dL_law_649 : decode cL_law 649 = .ok (.iconst 0, 1) := dec_w [0x03] (pc9 (k := 640) (j := 9) lwD_10 rfl) (by decide +kernel) rfl
theorem dL_law_650 : decode cL_law 650 = .ok (.ireturn, 1) := dec_w [0xac] (pc9 (k := 640) (j := 10) lwD_10 rfl) (by decide +kernel) rfl
theorem dL_law_651 : decode cL_law 651 = .ok (.iload 6, 2) := dec_w [0x15, 0x06] (pc9 (k := 640) (j := 11) lwD_10 rfl) (by decide +kernel) rfl
theorem dL_law_653 : decode cL_law 653 = .ok (.ifCond .ne 15, 3) := dec_w [0x9a, 0x00, 0x0f] (pc9 (k := 640) (j := 13) lwD_10 rfl) (by decide +kernel) rfl
theorem dL_law_656 : decode cL_law 656 = .ok (.aload_n 3, 1) := dec_w [0x2d] (pc9 (k := 640) (j := 16) lwD_10 rfl) (by decide +kernel) rfl
theorem dL_law_657 : decode cL_law 657 = .ok (.iconst 0, 1) := dec_w [0x03] (pc9 (k := 640) (j := 17) lwD_10 rfl) (by decide +kernel) rfl
theorem dL_law_658 : decode cL_law 658 = .ok (.laload, 1) := dec_w [0x2f] (pc9 (k := 640) (j := 18) lwD_10 rfl) (by decide +kernel) rfl
theorem dL_law_659 : decode cL_law 659 = .ok (.iload 7, 2) := dec_w [0x15, 0x07] (pc9 (k := 640) (j := 19) lwD_10 rfl) (by decide +kernel) rfl
theorem dL_law_661 : decode cL_law 661 = .ok (.i2l, 1) := dec_w [0x85] (pc9 (k := 640) (j := 21) lwD_10 rfl) (by decide +kernel) rfl
theorem dL_law_662 : decode cL_law 662 = .ok (.lcmp, 1) := dec_w [0x94] (pc9 (k := 640) (j := 22) lwD_10 rfl) (by decide +kernel) rfl
theorem dL_law_663 : decode cL_law 663 = .ok (.ifCond .eq 5, 3) := dec_w [0x99, 0x00, 0x05] (pc9 (k := 640) (j := 23) lwD_10 rfl) (by decide +kernel) rfl
theorem dL_law_666 : decode cL_law 666 = .ok (.iconst 0, 1) := dec_w [0x03] (pc9 (k := 640) (j := 26) lwD_10 rfl) (by decide +kernel) rfl
theorem dL_law_667 : decode cL_law 667 = .ok (.ireturn, 1) := dec_w [0xac] (pc9 (k := 640) (j := 27) lwD_10 rfl) (by decide +kernel) rfl
theorem dL_law_668 : decode cL_law 668 = .ok (.goto 3558, 3) := dec_w [0xa7, 0x0d, 0xe6] (pc9 (k := 640) (j := 28) lwD_10 rfl) (by decide +kernel) rfl
theorem dL_law_671 : decode cL_law 671 = .ok (.aload_n 1, 1) := dec_w [0x2b] (pc9 (k := 640) (j := 31) lwD_10 rfl) (by decide +kernel) rfl
theorem dL_law_672 : decode cL_law 672 = .ok (.aload_n 0, 1) := dec_w [0x2a] (pc9 (k := 640) (j := 32) lwD_10 rfl) (by decide +kernel) rfl
theorem dL_law_673 : decode cL_law 673 = .ok (.iload 5, 2) := dec_w [0x15, 0x05] (pc9 (k := 640) (j := 33) lwD_10 rfl) (by decide +kernel) rfl
theorem dL_law_675 : decode cL_law 675 = .ok (.iconst 1, 1) := dec_w [0x04] (pc9 (k := 640) (j := 35) lwD_10 rfl) (by decide +kernel) rfl
theorem dL_law_676 : decode cL_law 676 = .ok (.iadd, 1) := dec_w [0x60] (pc9 (k := 640) (j := 36) lwD_10 rfl) (by decide +kernel) rfl
theorem dL_law_677 : decode cL_law 677 = .ok (.iaload, 1) := dec_w [0x2e] (pc9 (k := 640) (j := 37) lwD_10 rfl) (by decide +kernel) rfl
theorem dL_law_678 : decode cL_law 678 = .ok (.aload_n 0, 1) := dec_w [0x2a] (pc9 (k := 640) (j := 38) lwD_10 rfl) (by decide +kernel) rfl
theorem dL_law_679 : decode cL_law 679 = .ok (.iload 5, 2) := dec_w [0x15, 0x05] (pc9 (k := 640) (j := 39) lwD_10 rfl) (by decide +kernel) rfl
theorem dL_law_681 : decode cL_law 681 = .ok (.iconst 2, 1) := dec_w [0x05] (pc9 (k := 640) (j := 41) lwD_10 rfl) (by decide +kernel) rfl
theorem dL_law_682 : decode cL_law 682 = .ok (.iadd, 1) := dec_w [0x60] (pc9 (k := 640) (j := 42) lwD_10 rfl) (by decide +kernel) rfl
theorem dL_law_683 : decode cL_law 683 = .ok (.iaload, 1) := dec_w [0x2e] (pc9 (k := 640) (j := 43) lwD_10 rfl) (by decide +kernel) rfl
theorem dL_law_684 : decode cL_law 684 = .ok (.aload_n 0, 1) := dec_w [0x2a] (pc9 (k := 640) (j := 44) lwD_10 rfl) (by decide +kernel) rfl
theorem dL_law_685 : decode cL_law 685 = .ok (.iload 5, 2) := dec_w [0x15, 0x05] (pc9 (k := 640) (j := 45) lwD_10 rfl) (by decide +kernel) rfl
theorem dL_law_687 : decode cL_law 687 = .ok (.iconst 3, 1) := dec_w [0x06] (pc9 (k := 640) (j := 47) lwD_10 rfl) (by decide +kernel) rfl
theorem dL_law_688 : decode cL_law 688 = .ok (.iadd, 1) := dec_w [0x60] (pc9 (k := 640) (j := 48) lwD_10 rfl) (by decide +kernel) rfl
theorem dL_law_689 : decode cL_law 689 = .ok (.iaload, 1) := dec_w [0x2e] (pc9 (k := 640) (j := 49) lwD_10 rfl) (by decide +kernel) rfl
theorem dL_law_690 : decode cL_law 690 = .ok (.aload_n 3, 1) := dec_w [0x2d] (pc9 (k := 640) (j := 50) lwD_10 rfl) (by decide +kernel) rfl
theorem dL_law_691 : decode cL_law 691 = .ok (.invokestatic 226, 3) := dec_w [0xb8, 0x00, 0xe2] (pc9 (k := 640) (j := 51) lwD_10 rfl) (by decide +kernel) rfl
theorem dL_law_694 : decode cL_law 694 = .ok (.istore 6, 2) := dec_w [0x36, 0x06] (pc9 (k := 640) (j := 54) lwD_10 rfl) (by decide +kernel) rfl
theorem dL_law_696 : decode cL_law 696 = .ok (.aload_n 2, 1) := dec_w [0x2c] (pc9 (k := 640) (j := 56) lwD_10 rfl) (by decide +kernel) rfl
theorem dL_law_697 : decode cL_law 697 = .ok (.aload_n 0, 1) := dec_w [0x2a] (pc9 (k := 640) (j := 57) lwD_10 rfl) (by decide +kernel) rfl
theorem dL_law_698 : decode cL_law 698 = .ok (.iload 5, 2) := dec_w [0x15, 0x05] (pc9 (k := 640) (j := 58) lwD_10 rfl) (by decide +kernel) rfl
theorem dL_law_700 : decode cL_law 700 = .ok (.iconst 1, 1) := dec_w [0x04] (pc9 (k := 640) (j := 60) lwD_10 rfl) (by decide +kernel) rfl
theorem dL_law_701 : decode cL_law 701 = .ok (.iadd, 1) := dec_w [0x60] (pc9 (k := 640) (j := 61) lwD_10 rfl) (by decide +kernel) rfl
theorem dL_law_702 : decode cL_law 702 = .ok (.iaload, 1) := dec_w [0x2e] (pc9 (k := 640) (j := 62) lwD_10 rfl) (by decide +kernel) rfl
theorem dL_law_703 : decode cL_law 703 = .ok (.aload_n 0, 1) := dec_w [0x2a] (pc9 (k := 640) (j := 63) lwD_10 rfl) (by decide +kernel) rfl
theorem dL_law_704 : decode cL_law 704 = .ok (.iload 5, 2) := dec_w [0x15, 0x05] (pc9 (k := 704) (j := 0) lwD_11 rfl) (by decide +kernel) rfl
theorem dL_law_706 : decode cL_law 706 = .ok (.iconst 2, 1) := dec_w [0x05] (pc9 (k := 704) (j := 2) lwD_11 rfl) (by decide +kernel) rfl
theorem dL_law_707 : decode cL_law 707 = .ok (.iadd, 1) := dec_w [0x60] (pc9 (k := 704) (j := 3) lwD_11 rfl) (by decide +kernel) rfl
theorem dL_law_708 : decode cL_law 708 = .ok (.iaload, 1) := dec_w [0x2e] (pc9 (k := 704) (j := 4) lwD_11 rfl) (by decide +kernel) rfl
theorem dL_law_709 : decode cL_law 709 = .ok (.aload_n 0, 1) := dec_w [0x2a] (pc9 (k := 704) (j := 5) lwD_11 rfl) (by decide +kernel) rfl
theorem dL_law_710 : decode cL_law 710 = .ok (.iload 5, 2) := dec_w [0x15, 0x05] (pc9 (k := 704) (j := 6) lwD_11 rfl) (by decide +kernel) rfl
theorem dL_law_712 : decode cL_law 712 = .ok (.iconst 3, 1) := dec_w [0x06] (pc9 (k := 704) (j := 8) lwD_11 rfl) (by decide +kernel) rfl
theorem dL_law_713 : decode cL_law 713 = .ok (.iadd, 1) := dec_w [0x60] (pc9 (k := 704) (j := 9) lwD_11 rfl) (by decide +kernel) rfl
theorem dL_law_714 : decode cL_law 714 = .ok (.iaload, 1) := dec_w [0x2e] (pc9 (k := 704) (j := 10) lwD_11 rfl) (by decide +kernel) rfl
theorem dL_law_715 : decode cL_law 715 = .ok (.invokevirtual 228, 3) := dec_w [0xb6, 0x00, 0xe4] (pc9 (k := 704) (j := 11) lwD_11 rfl) (by decide +kernel) rfl
theorem dL_law_718 : decode cL_law 718 = .ok (.istore 7, 2) := dec_w [0x36, 0x07] (pc9 (k := 704) (j := 14) lwD_11 rfl) (by decide +kernel) rfl
theorem dL_law_720 : decode cL_law 720 = .ok (.aload_n 2, 1) := dec_w [0x2c] (pc9 (k := 704) (j := 16) lwD_11 rfl) (by decide +kernel) rfl
theorem dL_law_721 : decode cL_law 721 = .ok (.invokevirtual 212, 3) := dec_w [0xb6, 0x00, 0xd4] (pc9 (k := 704) (j := 17) lwD_11 rfl) (by decide +kernel) rfl
theorem dL_law_724 : decode cL_law 724 = .ok (.iload 6, 2) := dec_w [0x15, 0x06] (pc9 (k := 704) (j := 20) lwD_11 rfl) (by decide +kernel) rfl
theorem dL_law_726 : decode cL_law 726 = .ok (.if_icmp .eq 5, 3) := dec_w [0x9f, 0x00, 0x05] (pc9 (k := 704) (j := 22) lwD_11 rfl) (by decide +kernel) rfl
theorem dL_law_729 : decode cL_law 729 = .ok (.iconst 0, 1) := dec_w [0x03] (pc9 (k := 704) (j := 25) lwD_11 rfl) (by decide +kernel) rfl
theorem dL_law_730 : decode cL_law 730 = .ok (.ireturn, 1) := dec_w [0xac] (pc9 (k := 704) (j := 26) lwD_11 rfl) (by decide +kernel) rfl
theorem dL_law_731 : decode cL_law 731 = .ok (.iload 6, 2) := dec_w [0x15, 0x06] (pc9 (k := 704) (j := 27) lwD_11 rfl) (by decide +kernel) rfl
theorem dL_law_733 : decode cL_law 733 = .ok (.ifCond .ne 15, 3) := dec_w [0x9a, 0x00, 0x0f] (pc9 (k := 704) (j := 29) lwD_11 rfl) (by decide +kernel) rfl
theorem dL_law_736 : decode cL_law 736 = .ok (.aload_n 3, 1) := dec_w [0x2d] (pc9 (k := 704) (j := 32) lwD_11 rfl) (by decide +kernel) rfl
theorem dL_law_737 : decode cL_law 737 = .ok (.iconst 0, 1) := dec_w [0x03] (pc9 (k := 704) (j := 33) lwD_11 rfl) (by decide +kernel) rfl
theorem dL_law_738 : decode cL_law 738 = .ok (.laload, 1) := dec_w [0x2f] (pc9 (k := 704) (j := 34) lwD_11 rfl) (by decide +kernel) rfl
theorem dL_law_739 : decode cL_law 739 = .ok (.iload 7, 2) := dec_w [0x15, 0x07] (pc9 (k := 704) (j := 35) lwD_11 rfl) (by decide +kernel) rfl
theorem dL_law_741 : decode cL_law 741 = .ok (.i2l, 1) := dec_w [0x85] (pc9 (k := 704) (j := 37) lwD_11 rfl) (by decide +kernel) rfl
theorem dL_law_742 : decode cL_law 742 = .ok (.lcmp, 1) := dec_w [0x94] (pc9 (k := 704) (j := 38) lwD_11 rfl) (by decide +kernel) rfl
theorem dL_law_743 : decode cL_law 743 = .ok (.ifCond .eq 5, 3) := dec_w [0x99, 0x00, 0x05] (pc9 (k := 704) (j := 39) lwD_11 rfl) (by decide +kernel) rfl
theorem dL_law_746 : decode cL_law 746 = .ok (.iconst 0, 1) := dec_w [0x03] (pc9 (k := 704) (j := 42) lwD_11 rfl) (by decide +kernel) rfl
theorem dL_law_747 : decode cL_law 747 = .ok (.ireturn, 1) := dec_w [0xac] (pc9 (k := 704) (j := 43) lwD_11 rfl) (by decide +kernel) rfl
theorem dL_law_748 : decode cL_law 748 = .ok (.goto 3478, 3) := dec_w [0xa7, 0x0d, 0x96] (pc9 (k := 704) (j := 44) lwD_11 rfl) (by decide +kernel) rfl
theorem dL_law_751 : decode cL_law 751 = .ok (.aload_n 1, 1) := dec_w [0x2b] (pc9 (k := 704) (j := 47) lwD_11 rfl) (by decide +kernel) rfl
theorem dL_law_752 : decode cL_law 752 = .ok (.aload_n 0, 1) := dec_w [0x2a] (pc9 (k := 704) (j := 48) lwD_11 rfl) (by decide +kernel) rfl
theorem dL_law_753 : decode cL_law 753 = .ok (.iload 5, 2) := dec_w [0x15, 0x05] (pc9 (k := 704) (j := 49) lwD_11 rfl) (by decide +kernel) rfl
theorem dL_law_755 : decode cL_law 755 = .ok (.iconst 1, 1) := dec_w [0x04] (pc9 (k := 704) (j := 51) lwD_11 rfl) (by decide +kernel) rfl
theorem dL_law_756 : decode cL_law 756 = .ok (.iadd, 1) := dec_w [0x60] (pc9 (k := 704) (j := 52) lwD_11 rfl) (by decide +kernel) rfl
theorem dL_law_757 : decode cL_law 757 = .ok (.iaload, 1) := dec_w [0x2e] (pc9 (k := 704) (j := 53) lwD_11 rfl) (by decide +kernel) rfl
theorem dL_law_758 : decode cL_law 758 = .ok (.aload_n 3, 1) := dec_w [0x2d] (pc9 (k := 704) (j := 54) lwD_11 rfl) (by decide +kernel) rfl
theorem dL_law_759 : decode cL_law 759 = .ok (.invokestatic 229, 3) := dec_w [0xb8, 0x00, 0xe5] (pc9 (k := 704) (j := 55) lwD_11 rfl) (by decide +kernel) rfl
theorem dL_law_762 : decode cL_law 762 = .ok (.istore 6, 2) := dec_w [0x36, 0x06] (pc9 (k := 704) (j := 58) lwD_11 rfl) (by decide +kernel) rfl
theorem dL_law_764 : decode cL_law 764 = .ok (.aload_n 2, 1) := dec_w [0x2c] (pc9 (k := 704) (j := 60) lwD_11 rfl) (by decide +kernel) rfl
theorem dL_law_765 : decode cL_law 765 = .ok (.aload_n 0, 1) := dec_w [0x2a] (pc9 (k := 704) (j := 61) lwD_11 rfl) (by decide +kernel) rfl
theorem dL_law_766 : decode cL_law 766 = .ok (.iload 5, 2) := dec_w [0x15, 0x05] (pc9 (k := 704) (j := 62) lwD_11 rfl) (by decide +kernel) rfl
theorem dL_law_768 : decode cL_law 768 = .ok (.iconst 1, 1) := dec_w [0x04] (pc9 (k := 768) (j := 0) lwD_12 rfl) (by decide +kernel) rfl
theorem dL_law_769 : decode cL_law 769 = .ok (.iadd, 1) := dec_w [0x60] (pc9 (k := 768) (j := 1) lwD_12 rfl) (by decide +kernel) rfl
theorem dL_law_770 : decode cL_law 770 = .ok (.iaload, 1) := dec_w [0x2e] (pc9 (k := 768) (j := 2) lwD_12 rfl) (by decide +kernel) rfl
theorem dL_law_771 : decode cL_law 771 = .ok (.invokevirtual 231, 3) := dec_w [0xb6, 0x00, 0xe7] (pc9 (k := 768) (j := 3) lwD_12 rfl) (by decide +kernel) rfl
theorem dL_law_774 : decode cL_law 774 = .ok (.istore 7, 2) := dec_w [0x36, 0x07] (pc9 (k := 768) (j := 6) lwD_12 rfl) (by decide +kernel) rfl
theorem dL_law_776 : decode cL_law 776 = .ok (.aload_n 2, 1) := dec_w [0x2c] (pc9 (k := 768) (j := 8) lwD_12 rfl) (by decide +kernel) rfl
theorem dL_law_777 : decode cL_law 777 = .ok (.invokevirtual 212, 3) := dec_w [0xb6, 0x00, 0xd4] (pc9 (k := 768) (j := 9) lwD_12 rfl) (by decide +kernel) rfl
theorem dL_law_780 : decode cL_law 780 = .ok (.iload 6, 2) := dec_w [0x15, 0x06] (pc9 (k := 768) (j := 12) lwD_12 rfl) (by decide +kernel) rfl
theorem dL_law_782 : decode cL_law 782 = .ok (.if_icmp .eq 5, 3) := dec_w [0x9f, 0x00, 0x05] (pc9 (k := 768) (j := 14) lwD_12 rfl) (by decide +kernel) rfl
theorem dL_law_785 : decode cL_law 785 = .ok (.iconst 0, 1) := dec_w [0x03] (pc9 (k := 768) (j := 17) lwD_12 rfl) (by decide +kernel) rfl
theorem dL_law_786 : decode cL_law 786 = .ok (.ireturn, 1) := dec_w [0xac] (pc9 (k := 768) (j := 18) lwD_12 rfl) (by decide +kernel) rfl
theorem dL_law_787 : decode cL_law 787 = .ok (.iload 6, 2) := dec_w [0x15, 0x06] (pc9 (k := 768) (j := 19) lwD_12 rfl) (by decide +kernel) rfl
theorem dL_law_789 : decode cL_law 789 = .ok (.ifCond .ne 15, 3) := dec_w [0x9a, 0x00, 0x0f] (pc9 (k := 768) (j := 21) lwD_12 rfl) (by decide +kernel) rfl
theorem dL_law_792 : decode cL_law 792 = .ok (.aload_n 3, 1) := dec_w [0x2d] (pc9 (k := 768) (j := 24) lwD_12 rfl) (by decide +kernel) rfl
theorem dL_law_793 : decode cL_law 793 = .ok (.iconst 0, 1) := dec_w [0x03] (pc9 (k := 768) (j := 25) lwD_12 rfl) (by decide +kernel) rfl
theorem dL_law_794 : decode cL_law 794 = .ok (.laload, 1) := dec_w [0x2f] (pc9 (k := 768) (j := 26) lwD_12 rfl) (by decide +kernel) rfl
theorem dL_law_795 : decode cL_law 795 = .ok (.iload 7, 2) := dec_w [0x15, 0x07] (pc9 (k := 768) (j := 27) lwD_12 rfl) (by decide +kernel) rfl
theorem dL_law_797 : decode cL_law 797 = .ok (.i2l, 1) := dec_w [0x85] (pc9 (k := 768) (j := 29) lwD_12 rfl) (by decide +kernel) rfl
theorem dL_law_798 : decode cL_law 798 = .ok (.lcmp, 1) := dec_w [0x94] (pc9 (k := 768) (j := 30) lwD_12 rfl) (by decide +kernel) rfl
theorem dL_law_799 : decode cL_law 799 = .ok (.ifCond .eq 5, 3) := dec_w [0x99, 0x00, 0x05] (pc9 (k := 768) (j := 31) lwD_12 rfl) (by decide +kernel) rfl
theorem dL_law_802 : decode cL_law 802 = .ok (.iconst 0, 1) := dec_w [0x03] (pc9 (k := 768) (j := 34) lwD_12 rfl) (by decide +kernel) rfl
theorem dL_law_803 : decode cL_law 803 = .ok (.ireturn, 1) := dec_w [0xac] (pc9 (k := 768) (j := 35) lwD_12 rfl) (by decide +kernel) rfl
theorem dL_law_804 : decode cL_law 804 = .ok (.goto 3422, 3) := dec_w [0xa7, 0x0d, 0x5e] (pc9 (k := 768) (j := 36) lwD_12 rfl) (by decide +kernel) rfl
theorem dL_law_807 : decode cL_law 807 = .ok (.aload_n 1, 1) := dec_w [0x2b] (pc9 (k := 768) (j := 39) lwD_12 rfl) (by decide +kernel) rfl
theorem dL_law_808 : decode cL_law 808 = .ok (.aload_n 0, 1) := dec_w [0x2a] (pc9 (k := 768) (j := 40) lwD_12 rfl) (by decide +kernel) rfl
theorem dL_law_809 : decode cL_law 809 = .ok (.iload 5, 2) := dec_w [0x15, 0x05] (pc9 (k := 768) (j := 41) lwD_12 rfl) (by decide +kernel) rfl
theorem dL_law_811 : decode cL_law 811 = .ok (.iconst 1, 1) := dec_w [0x04] (pc9 (k := 768) (j := 43) lwD_12 rfl) (by decide +kernel) rfl
theorem dL_law_812 : decode cL_law 812 = .ok (.iadd, 1) := dec_w [0x60] (pc9 (k := 768) (j := 44) lwD_12 rfl) (by decide +kernel) rfl
theorem dL_law_813 : decode cL_law 813 = .ok (.iaload, 1) := dec_w [0x2e] (pc9 (k := 768) (j := 45) lwD_12 rfl) (by decide +kernel) rfl
theorem dL_law_814 : decode cL_law 814 = .ok (.aload_n 0, 1) := dec_w [0x2a] (pc9 (k := 768) (j := 46) lwD_12 rfl) (by decide +kernel) rfl
theorem dL_law_815 : decode cL_law 815 = .ok (.iload 5, 2) := dec_w [0x15, 0x05] (pc9 (k := 768) (j := 47) lwD_12 rfl) (by decide +kernel) rfl
theorem dL_law_817 : decode cL_law 817 = .ok (.iconst 2, 1) := dec_w [0x05] (pc9 (k := 768) (j := 49) lwD_12 rfl) (by decide +kernel) rfl
theorem dL_law_818 : decode cL_law 818 = .ok (.iadd, 1) := dec_w [0x60] (pc9 (k := 768) (j := 50) lwD_12 rfl) (by decide +kernel) rfl
theorem dL_law_819 : decode cL_law 819 = .ok (.iaload, 1) := dec_w [0x2e] (pc9 (k := 768) (j := 51) lwD_12 rfl) (by decide +kernel) rfl
theorem dL_law_820 : decode cL_law 820 = .ok (.aload_n 3, 1) := dec_w [0x2d] (pc9 (k := 768) (j := 52) lwD_12 rfl) (by decide +kernel) rfl
theorem dL_law_821 : decode cL_law 821 = .ok (.invokestatic 232, 3) := dec_w [0xb8, 0x00, 0xe8] (pc9 (k := 768) (j := 53) lwD_12 rfl) (by decide +kernel) rfl
theorem dL_law_824 : decode cL_law 824 = .ok (.istore 6, 2) := dec_w [0x36, 0x06] (pc9 (k := 768) (j := 56) lwD_12 rfl) (by decide +kernel) rfl
theorem dL_law_826 : decode cL_law 826 = .ok (.aload_n 2, 1) := dec_w [0x2c] (pc9 (k := 768) (j := 58) lwD_12 rfl) (by decide +kernel) rfl
theorem dL_law_827 : decode cL_law 827 = .ok (.aload_n 0, 1) := dec_w [0x2a] (pc9 (k := 768) (j := 59) lwD_12 rfl) (by decide +kernel) rfl
theorem dL_law_828 : decode cL_law 828 = .ok (.iload 5, 2) := dec_w [0x15, 0x05] (pc9 (k := 768) (j := 60) lwD_12 rfl) (by decide +kernel) rfl
theorem dL_law_830 : decode cL_law 830 = .ok (.iconst 1, 1) := dec_w [0x04] (pc9 (k := 768) (j := 62) lwD_12 rfl) (by decide +kernel) rfl
theorem dL_law_831 : decode cL_law 831 = .ok (.iadd, 1) := dec_w [0x60] (pc9 (k := 768) (j := 63) lwD_12 rfl) (by decide +kernel) rfl
theorem dL_law_832 : decode cL_law 832 = .ok (.iaload, 1) := dec_w [0x2e] (pc9 (k := 832) (j := 0) lwD_13 rfl) (by decide +kernel) rfl
theorem dL_law_833 : decode cL_law 833 = .ok (.aload_n 0, 1) := dec_w [0x2a] (pc9 (k := 832) (j := 1) lwD_13 rfl) (by decide +kernel) rfl
theorem dL_law_834 : decode cL_law 834 = .ok (.iload 5, 2) := dec_w [0x15, 0x05] (pc9 (k := 832) (j := 2) lwD_13 rfl) (by decide +kernel) rfl
theorem dL_law_836 : decode cL_law 836 = .ok (.iconst 2, 1) := dec_w [0x05] (pc9 (k := 832) (j := 4) lwD_13 rfl) (by decide +kernel) rfl
theorem dL_law_837 : decode cL_law 837 = .ok (.iadd, 1) := dec_w [0x60] (pc9 (k := 832) (j := 5) lwD_13 rfl) (by decide +kernel) rfl
theorem dL_law_838 : decode cL_law 838 = .ok (.iaload, 1) := dec_w [0x2e] (pc9 (k := 832) (j := 6) lwD_13 rfl) (by decide +kernel) rfl
theorem dL_law_839 : decode cL_law 839 = .ok (.invokevirtual 234, 3) := dec_w [0xb6, 0x00, 0xea] (pc9 (k := 832) (j := 7) lwD_13 rfl) (by decide +kernel) rfl
theorem dL_law_842 : decode cL_law 842 = .ok (.istore 7, 2) := dec_w [0x36, 0x07] (pc9 (k := 832) (j := 10) lwD_13 rfl) (by decide +kernel) rfl
theorem dL_law_844 : decode cL_law 844 = .ok (.aload_n 2, 1) := dec_w [0x2c] (pc9 (k := 832) (j := 12) lwD_13 rfl) (by decide +kernel) rfl
theorem dL_law_845 : decode cL_law 845 = .ok (.invokevirtual 212, 3) := dec_w [0xb6, 0x00, 0xd4] (pc9 (k := 832) (j := 13) lwD_13 rfl) (by decide +kernel) rfl
theorem dL_law_848 : decode cL_law 848 = .ok (.iload 6, 2) := dec_w [0x15, 0x06] (pc9 (k := 832) (j := 16) lwD_13 rfl) (by decide +kernel) rfl
theorem dL_law_850 : decode cL_law 850 = .ok (.if_icmp .eq 5, 3) := dec_w [0x9f, 0x00, 0x05] (pc9 (k := 832) (j := 18) lwD_13 rfl) (by decide +kernel) rfl
theorem dL_law_853 : decode cL_law 853 = .ok (.iconst 0, 1) := dec_w [0x03] (pc9 (k := 832) (j := 21) lwD_13 rfl) (by decide +kernel) rfl
theorem dL_law_854 : decode cL_law 854 = .ok (.ireturn, 1) := dec_w [0xac] (pc9 (k := 832) (j := 22) lwD_13 rfl) (by decide +kernel) rfl
theorem dL_law_855 : decode cL_law 855 = .ok (.iload 6, 2) := dec_w [0x15, 0x06] (pc9 (k := 832) (j := 23) lwD_13 rfl) (by decide +kernel) rfl
theorem dL_law_857 : decode cL_law 857 = .ok (.ifCond .ne 15, 3) := dec_w [0x9a, 0x00, 0x0f] (pc9 (k := 832) (j := 25) lwD_13 rfl) (by decide +kernel) rfl
theorem dL_law_860 : decode cL_law 860 = .ok (.aload_n 3, 1) := dec_w [0x2d] (pc9 (k := 832) (j := 28) lwD_13 rfl) (by decide +kernel) rfl
theorem dL_law_861 : decode cL_law 861 = .ok (.iconst 0, 1) := dec_w [0x03] (pc9 (k := 832) (j := 29) lwD_13 rfl) (by decide +kernel) rfl
theorem dL_law_862 : decode cL_law 862 = .ok (.laload, 1) := dec_w [0x2f] (pc9 (k := 832) (j := 30) lwD_13 rfl) (by decide +kernel) rfl
theorem dL_law_863 : decode cL_law 863 = .ok (.iload 7, 2) := dec_w [0x15, 0x07] (pc9 (k := 832) (j := 31) lwD_13 rfl) (by decide +kernel) rfl
theorem dL_law_865 : decode cL_law 865 = .ok (.i2l, 1) := dec_w [0x85] (pc9 (k := 832) (j := 33) lwD_13 rfl) (by decide +kernel) rfl
theorem dL_law_866 : decode cL_law 866 = .ok (.lcmp, 1) := dec_w [0x94] (pc9 (k := 832) (j := 34) lwD_13 rfl) (by decide +kernel) rfl
theorem dL_law_867 : decode cL_law 867 = .ok (.ifCond .eq 5, 3) := dec_w [0x99, 0x00, 0x05] (pc9 (k := 832) (j := 35) lwD_13 rfl) (by decide +kernel) rfl
theorem dL_law_870 : decode cL_law 870 = .ok (.iconst 0, 1) := dec_w [0x03] (pc9 (k := 832) (j := 38) lwD_13 rfl) (by decide +kernel) rfl
theorem dL_law_871 : decode cL_law 871 = .ok (.ireturn, 1) := dec_w [0xac] (pc9 (k := 832) (j := 39) lwD_13 rfl) (by decide +kernel) rfl
theorem dL_law_872 : decode cL_law 872 = .ok (.goto 3354, 3) := dec_w [0xa7, 0x0d, 0x1a] (pc9 (k := 832) (j := 40) lwD_13 rfl) (by decide +kernel) rfl
theorem dL_law_875 : decode cL_law 875 = .ok (.aload_n 1, 1) := dec_w [0x2b] (pc9 (k := 832) (j := 43) lwD_13 rfl) (by decide +kernel) rfl
theorem dL_law_876 : decode cL_law 876 = .ok (.aload_n 0, 1) := dec_w [0x2a] (pc9 (k := 832) (j := 44) lwD_13 rfl) (by decide +kernel) rfl
theorem dL_law_877 : decode cL_law 877 = .ok (.iload 5, 2) := dec_w [0x15, 0x05] (pc9 (k := 832) (j := 45) lwD_13 rfl) (by decide +kernel) rfl
theorem dL_law_879 : decode cL_law 879 = .ok (.iconst 1, 1) := dec_w [0x04] (pc9 (k := 832) (j := 47) lwD_13 rfl) (by decide +kernel) rfl
theorem dL_law_880 : decode cL_law 880 = .ok (.iadd, 1) := dec_w [0x60] (pc9 (k := 832) (j := 48) lwD_13 rfl) (by decide +kernel) rfl
theorem dL_law_881 : decode cL_law 881 = .ok (.iaload, 1) := dec_w [0x2e] (pc9 (k := 832) (j := 49) lwD_13 rfl) (by decide +kernel) rfl
theorem dL_law_882 : decode cL_law 882 = .ok (.aload_n 0, 1) := dec_w [0x2a] (pc9 (k := 832) (j := 50) lwD_13 rfl) (by decide +kernel) rfl
theorem dL_law_883 : decode cL_law 883 = .ok (.iload 5, 2) := dec_w [0x15, 0x05] (pc9 (k := 832) (j := 51) lwD_13 rfl) (by decide +kernel) rfl
theorem dL_law_885 : decode cL_law 885 = .ok (.iconst 2, 1) := dec_w [0x05] (pc9 (k := 832) (j := 53) lwD_13 rfl) (by decide +kernel) rfl
theorem dL_law_886 : decode cL_law 886 = .ok (.iadd, 1) := dec_w [0x60] (pc9 (k := 832) (j := 54) lwD_13 rfl) (by decide +kernel) rfl
theorem dL_law_887 : decode cL_law 887 = .ok (.iaload, 1) := dec_w [0x2e] (pc9 (k := 832) (j := 55) lwD_13 rfl) (by decide +kernel) rfl
theorem dL_law_888 : decode cL_law 888 = .ok (.aload_n 3, 1) := dec_w [0x2d] (pc9 (k := 832) (j := 56) lwD_13 rfl) (by decide +kernel) rfl
theorem dL_law_889 : decode cL_law 889 = .ok (.invokestatic 235, 3) := dec_w [0xb8, 0x00, 0xeb] (pc9 (k := 832) (j := 57) lwD_13 rfl) (by decide +kernel) rfl
theorem dL_law_892 : decode cL_law 892 = .ok (.istore 6, 2) := dec_w [0x36, 0x06] (pc9 (k := 832) (j := 60) lwD_13 rfl) (by decide +kernel) rfl
theorem dL_law_894 : decode cL_law 894 = .ok (.aload_n 2, 1) := dec_w [0x2c] (pc9 (k := 832) (j := 62) lwD_13 rfl) (by decide +kernel) rfl
theorem dL_law_895 : decode cL_law 895 = .ok (.aload_n 0, 1) := dec_w [0x2a] (pc9 (k := 832) (j := 63) lwD_13 rfl) (by decide +kernel) rfl
theorem dL_law_896 : decode cL_law 896 = .ok (.iload 5, 2) := dec_w [0x15, 0x05] (pc9 (k := 896) (j := 0) lwD_14 rfl) (by decide +kernel) rfl
theorem dL_law_898 : decode cL_law 898 = .ok (.iconst 1, 1) := dec_w [0x04] (pc9 (k := 896) (j := 2) lwD_14 rfl) (by decide +kernel) rfl
theorem dL_law_899 : decode cL_law 899 = .ok (.iadd, 1) := dec_w [0x60] (pc9 (k := 896) (j := 3) lwD_14 rfl) (by decide +kernel) rfl
theorem dL_law_900 : decode cL_law 900 = .ok (.iaload, 1) := dec_w [0x2e] (pc9 (k := 896) (j := 4) lwD_14 rfl) (by decide +kernel) rfl
theorem dL_law_901 : decode cL_law 901 = .ok (.aload_n 0, 1) := dec_w [0x2a] (pc9 (k := 896) (j := 5) lwD_14 rfl) (by decide +kernel) rfl
theorem dL_law_902 : decode cL_law 902 = .ok (.iload 5, 2) := dec_w [0x15, 0x05] (pc9 (k := 896) (j := 6) lwD_14 rfl) (by decide +kernel) rfl
theorem dL_law_904 : decode cL_law 904 = .ok (.iconst 2, 1) := dec_w [0x05] (pc9 (k := 896) (j := 8) lwD_14 rfl) (by decide +kernel) rfl
theorem dL_law_905 : decode cL_law 905 = .ok (.iadd, 1) := dec_w [0x60] (pc9 (k := 896) (j := 9) lwD_14 rfl) (by decide +kernel) rfl
theorem dL_law_906 : decode cL_law 906 = .ok (.iaload, 1) := dec_w [0x2e] (pc9 (k := 896) (j := 10) lwD_14 rfl) (by decide +kernel) rfl
theorem dL_law_907 : decode cL_law 907 = .ok (.invokevirtual 237, 3) := dec_w [0xb6, 0x00, 0xed] (pc9 (k := 896) (j := 11) lwD_14 rfl) (by decide +kernel) rfl
theorem dL_law_910 : decode cL_law 910 = .ok (.istore 7, 2) := dec_w [0x36, 0x07] (pc9 (k := 896) (j := 14) lwD_14 rfl) (by decide +kernel) rfl
theorem dL_law_912 : decode cL_law 912 = .ok (.aload_n 2, 1) := dec_w [0x2c] (pc9 (k := 896) (j := 16) lwD_14 rfl) (by decide +kernel) rfl
theorem dL_law_913 : decode cL_law 913 = .ok (.invokevirtual 212, 3) := dec_w [0xb6, 0x00, 0xd4] (pc9 (k := 896) (j := 17) lwD_14 rfl) (by decide +kernel) rfl
theorem dL_law_916 : decode cL_law 916 = .ok (.iload 6, 2) := dec_w [0x15, 0x06] (pc9 (k := 896) (j := 20) lwD_14 rfl) (by decide +kernel) rfl
theorem dL_law_918 : decode cL_law 918 = .ok (.if_icmp .eq 5, 3) := dec_w [0x9f, 0x00, 0x05] (pc9 (k := 896) (j := 22) lwD_14 rfl) (by decide +kernel) rfl
theorem dL_law_921 : decode cL_law 921 = .ok (.iconst 0, 1) := dec_w [0x03] (pc9 (k := 896) (j := 25) lwD_14 rfl) (by decide +kernel) rfl
theorem dL_law_922 : decode cL_law 922 = .ok (.ireturn, 1) := dec_w [0xac] (pc9 (k := 896) (j := 26) lwD_14 rfl) (by decide +kernel) rfl
theorem dL_law_923 : decode cL_law 923 = .ok (.iload 6, 2) := dec_w [0x15, 0x06] (pc9 (k := 896) (j := 27) lwD_14 rfl) (by decide +kernel) rfl
theorem dL_law_925 : decode cL_law 925 = .ok (.ifCond .ne 15, 3) := dec_w [0x9a, 0x00, 0x0f] (pc9 (k := 896) (j := 29) lwD_14 rfl) (by decide +kernel) rfl
theorem dL_law_928 : decode cL_law 928 = .ok (.aload_n 3, 1) := dec_w [0x2d] (pc9 (k := 896) (j := 32) lwD_14 rfl) (by decide +kernel) rfl
theorem dL_law_929 : decode cL_law 929 = .ok (.iconst 0, 1) := dec_w [0x03] (pc9 (k := 896) (j := 33) lwD_14 rfl) (by decide +kernel) rfl
theorem dL_law_930 : decode cL_law 930 = .ok (.laload, 1) := dec_w [0x2f] (pc9 (k := 896) (j := 34) lwD_14 rfl) (by decide +kernel) rfl
theorem dL_law_931 : decode cL_law 931 = .ok (.iload 7, 2) := dec_w [0x15, 0x07] (pc9 (k := 896) (j := 35) lwD_14 rfl) (by decide +kernel) rfl
theorem dL_law_933 : decode cL_law 933 = .ok (.i2l, 1) := dec_w [0x85] (pc9 (k := 896) (j := 37) lwD_14 rfl) (by decide +kernel) rfl
theorem dL_law_934 : decode cL_law 934 = .ok (.lcmp, 1) := dec_w [0x94] (pc9 (k := 896) (j := 38) lwD_14 rfl) (by decide +kernel) rfl
theorem dL_law_935 : decode cL_law 935 = .ok (.ifCond .eq 5, 3) := dec_w [0x99, 0x00, 0x05] (pc9 (k := 896) (j := 39) lwD_14 rfl) (by decide +kernel) rfl
theorem dL_law_938 : decode cL_law 938 = .ok (.iconst 0, 1) := dec_w [0x03] (pc9 (k := 896) (j := 42) lwD_14 rfl) (by decide +kernel) rfl
theorem dL_law_939 : decode cL_law 939 = .ok (.ireturn, 1) := dec_w [0xac] (pc9 (k := 896) (j := 43) lwD_14 rfl) (by decide +kernel) rfl
theorem dL_law_940 : decode cL_law 940 = .ok (.goto 3286, 3) := dec_w [0xa7, 0x0c, 0xd6] (pc9 (k := 896) (j := 44) lwD_14 rfl) (by decide +kernel) rfl
theorem dL_law_943 : decode cL_law 943 = .ok (.aload_n 1, 1) := dec_w [0x2b] (pc9 (k := 896) (j := 47) lwD_14 rfl) (by decide +kernel) rfl
theorem dL_law_944 : decode cL_law 944 = .ok (.aload_n 0, 1) := dec_w [0x2a] (pc9 (k := 896) (j := 48) lwD_14 rfl) (by decide +kernel) rfl
theorem dL_law_945 : decode cL_law 945 = .ok (.iload 5, 2) := dec_w [0x15, 0x05] (pc9 (k := 896) (j := 49) lwD_14 rfl) (by decide +kernel) rfl
theorem dL_law_947 : decode cL_law 947 = .ok (.iconst 1, 1) := dec_w [0x04] (pc9 (k := 896) (j := 51) lwD_14 rfl) (by decide +kernel) rfl
theorem dL_law_948 : decode cL_law 948 = .ok (.iadd, 1) := dec_w [0x60] (pc9 (k := 896) (j := 52) lwD_14 rfl) (by decide +kernel) rfl
theorem dL_law_949 : decode cL_law 949 = .ok (.iaload, 1) := dec_w [0x2e] (pc9 (k := 896) (j := 53) lwD_14 rfl) (by decide +kernel) rfl
theorem dL_law_950 : decode cL_law 950 = .ok (.aload_n 3, 1) := dec_w [0x2d] (pc9 (k := 896) (j := 54) lwD_14 rfl) (by decide +kernel) rfl
theorem dL_law_951 : decode cL_law 951 = .ok (.invokestatic 238, 3) := dec_w [0xb8, 0x00, 0xee] (pc9 (k := 896) (j := 55) lwD_14 rfl) (by decide +kernel) rfl
theorem dL_law_954 : decode cL_law 954 = .ok (.istore 6, 2) := dec_w [0x36, 0x06] (pc9 (k := 896) (j := 58) lwD_14 rfl) (by decide +kernel) rfl
theorem dL_law_956 : decode cL_law 956 = .ok (.aload_n 2, 1) := dec_w [0x2c] (pc9 (k := 896) (j := 60) lwD_14 rfl) (by decide +kernel) rfl
theorem dL_law_957 : decode cL_law 957 = .ok (.aload_n 0, 1) := dec_w [0x2a] (pc9 (k := 896) (j := 61) lwD_14 rfl) (by decide +kernel) rfl
theorem dL_law_958 : decode cL_law 958 = .ok (.iload 5, 2) := dec_w [0x15, 0x05] (pc9 (k := 896) (j := 62) lwD_14 rfl) (by decide +kernel) rfl
theorem dL_law_960 : decode cL_law 960 = .ok (.iconst 1, 1) := dec_w [0x04] (pc9 (k := 960) (j := 0) lwD_15 rfl) (by decide +kernel) rfl
theorem dL_law_961 : decode cL_law 961 = .ok (.iadd, 1) := dec_w [0x60] (pc9 (k := 960) (j := 1) lwD_15 rfl) (by decide +kernel) rfl
theorem dL_law_962 : decode cL_law 962 = .ok (.iaload, 1) := dec_w [0x2e] (pc9 (k := 960) (j := 2) lwD_15 rfl) (by decide +kernel) rfl
theorem dL_law_963 : decode cL_law 963 = .ok (.invokevirtual 240, 3) := dec_w [0xb6, 0x00, 0xf0] (pc9 (k := 960) (j := 3) lwD_15 rfl) (by decide +kernel) rfl
theorem dL_law_966 : decode cL_law 966 = .ok (.istore 7, 2) := dec_w [0x36, 0x07] (pc9 (k := 960) (j := 6) lwD_15 rfl) (by decide +kernel) rfl
theorem dL_law_968 : decode cL_law 968 = .ok (.aload_n 2, 1) := dec_w [0x2c] (pc9 (k := 960) (j := 8) lwD_15 rfl) (by decide +kernel) rfl
theorem dL_law_969 : decode cL_law 969 = .ok (.invokevirtual 212, 3) := dec_w [0xb6, 0x00, 0xd4] (pc9 (k := 960) (j := 9) lwD_15 rfl) (by decide +kernel) rfl
theorem dL_law_972 : decode cL_law 972 = .ok (.iload 6, 2) := dec_w [0x15, 0x06] (pc9 (k := 960) (j := 12) lwD_15 rfl) (by decide +kernel) rfl
theorem dL_law_974 : decode cL_law 974 = .ok (.if_icmp .eq 5, 3) := dec_w [0x9f, 0x00, 0x05] (pc9 (k := 960) (j := 14) lwD_15 rfl) (by decide +kernel) rfl
theorem dL_law_977 : decode cL_law 977 = .ok (.iconst 0, 1) := dec_w [0x03] (pc9 (k := 960) (j := 17) lwD_15 rfl) (by decide +kernel) rfl
theorem dL_law_978 : decode cL_law 978 = .ok (.ireturn, 1) := dec_w [0xac] (pc9 (k := 960) (j := 18) lwD_15 rfl) (by decide +kernel) rfl
theorem dL_law_979 : decode cL_law 979 = .ok (.iload 6, 2) := dec_w [0x15, 0x06] (pc9 (k := 960) (j := 19) lwD_15 rfl) (by decide +kernel) rfl
theorem dL_law_981 : decode cL_law 981 = .ok (.ifCond .ne 15, 3) := dec_w [0x9a, 0x00, 0x0f] (pc9 (k := 960) (j := 21) lwD_15 rfl) (by decide +kernel) rfl
theorem dL_law_984 : decode cL_law 984 = .ok (.aload_n 3, 1) := dec_w [0x2d] (pc9 (k := 960) (j := 24) lwD_15 rfl) (by decide +kernel) rfl
theorem dL_law_985 : decode cL_law 985 = .ok (.iconst 0, 1) := dec_w [0x03] (pc9 (k := 960) (j := 25) lwD_15 rfl) (by decide +kernel) rfl
theorem dL_law_986 : decode cL_law 986 = .ok (.laload, 1) := dec_w [0x2f] (pc9 (k := 960) (j := 26) lwD_15 rfl) (by decide +kernel) rfl
theorem dL_law_987 : decode cL_law 987 = .ok (.iload 7, 2) := dec_w [0x15, 0x07] (pc9 (k := 960) (j := 27) lwD_15 rfl) (by decide +kernel) rfl
theorem dL_law_989 : decode cL_law 989 = .ok (.i2l, 1) := dec_w [0x85] (pc9 (k := 960) (j := 29) lwD_15 rfl) (by decide +kernel) rfl
theorem dL_law_990 : decode cL_law 990 = .ok (.lcmp, 1) := dec_w [0x94] (pc9 (k := 960) (j := 30) lwD_15 rfl) (by decide +kernel) rfl
theorem dL_law_991 : decode cL_law 991 = .ok (.ifCond .eq 5, 3) := dec_w [0x99, 0x00, 0x05] (pc9 (k := 960) (j := 31) lwD_15 rfl) (by decide +kernel) rfl
theorem dL_law_994 : decode cL_law 994 = .ok (.iconst 0, 1) := dec_w [0x03] (pc9 (k := 960) (j := 34) lwD_15 rfl) (by decide +kernel) rfl
theorem dL_law_995 : decode cL_law 995 = .ok (.ireturn, 1) := dec_w [0xac] (pc9 (k := 960) (j := 35) lwD_15 rfl) (by decide +kernel) rfl
theorem dL_law_996 : decode cL_law 996 = .ok (.goto 3230, 3) := dec_w [0xa7, 0x0c, 0x9e] (pc9 (k := 960) (j := 36) lwD_15 rfl) (by decide +kernel) rfl
theorem dL_law_999 : decode cL_law 999 = .ok (.aload_n 1, 1) := dec_w [0x2b] (pc9 (k := 960) (j := 39) lwD_15 rfl) (by decide +kernel) rfl
theorem dL_law_1000 : decode cL_law 1000 = .ok (.aload_n 0, 1) := dec_w [0x2a] (pc9 (k := 960) (j := 40) lwD_15 rfl) (by decide +kernel) rfl
theorem dL_law_1001 : decode cL_law 1001 = .ok (.iload 5, 2) := dec_w [0x15, 0x05] (pc9 (k := 960) (j := 41) lwD_15 rfl) (by decide +kernel) rfl
theorem dL_law_1003 : decode cL_law 1003 = .ok (.iconst 1, 1) := dec_w [0x04] (pc9 (k := 960) (j := 43) lwD_15 rfl) (by decide +kernel) rfl
theorem dL_law_1004 : decode cL_law 1004 = .ok (.iadd, 1) := dec_w [0x60] (pc9 (k := 960) (j := 44) lwD_15 rfl) (by decide +kernel) rfl
theorem dL_law_1005 : decode cL_law 1005 = .ok (.iaload, 1) := dec_w [0x2e] (pc9 (k := 960) (j := 45) lwD_15 rfl) (by decide +kernel) rfl
theorem dL_law_1006 : decode cL_law 1006 = .ok (.aload_n 0, 1) := dec_w [0x2a] (pc9 (k := 960) (j := 46) lwD_15 rfl) (by decide +kernel) rfl
theorem dL_law_1007 : decode cL_law 1007 = .ok (.iload 5, 2) := dec_w [0x15, 0x05] (pc9 (k := 960) (j := 47) lwD_15 rfl) (by decide +kernel) rfl
theorem dL_law_1009 : decode cL_law 1009 = .ok (.iconst 2, 1) := dec_w [0x05] (pc9 (k := 960) (j := 49) lwD_15 rfl) (by decide +kernel) rfl
theorem dL_law_1010 : decode cL_law 1010 = .ok (.iadd, 1) := dec_w [0x60] (pc9 (k := 960) (j := 50) lwD_15 rfl) (by decide +kernel) rfl
theorem dL_law_1011 : decode cL_law 1011 = .ok (.iaload, 1) := dec_w [0x2e] (pc9 (k := 960) (j := 51) lwD_15 rfl) (by decide +kernel) rfl
theorem dL_law_1012 : decode cL_law 1012 = .ok (.aload_n 3, 1) := dec_w [0x2d] (pc9 (k := 960) (j := 52) lwD_15 rfl) (by decide +kernel) rfl
theorem dL_law_1013 : decode cL_law 1013 = .ok (.invokestatic 241, 3) := dec_w [0xb8, 0x00, 0xf1] (pc9 (k := 960) (j := 53) lwD_15 rfl) (by decide +kernel) rfl
theorem dL_law_1016 : decode cL_law 1016 = .ok (.istore 6, 2) := dec_w [0x36, 0x06] (pc9 (k := 960) (j := 56) lwD_15 rfl) (by decide +kernel) rfl
theorem dL_law_1018 : decode cL_law 1018 = .ok (.aload_n 2, 1) := dec_w [0x2c] (pc9 (k := 960) (j := 58) lwD_15 rfl) (by decide +kernel) rfl
theorem dL_law_1019 : decode cL_law 1019 = .ok (.aload_n 0, 1) := dec_w [0x2a] (pc9 (k := 960) (j := 59) lwD_15 rfl) (by decide +kernel) rfl
theorem dL_law_1020 : decode cL_law 1020 = .ok (.iload 5, 2) := dec_w [0x15, 0x05] (pc9 (k := 960) (j := 60) lwD_15 rfl) (by decide +kernel) rfl
theorem dL_law_1022 : decode cL_law 1022 = .ok (.iconst 1, 1) := dec_w [0x04] (pc9 (k := 960) (j := 62) lwD_15 rfl) (by decide +kernel) rfl
theorem dL_law_1023 : decode cL_law 1023 = .ok (.iadd, 1) := dec_w [0x60] (pc9 (k := 960) (j := 63) lwD_15 rfl) (by decide +kernel) rfl
theorem dL_law_1024 : decode cL_law 1024 = .ok (.iaload, 1) := dec_w [0x2e] (pc9 (k := 1024) (j := 0) lwD_16 rfl) (by decide +kernel) rfl
theorem dL_law_1025 : decode cL_law 1025 = .ok (.aload_n 0, 1) := dec_w [0x2a] (pc9 (k := 1024) (j := 1) lwD_16 rfl) (by decide +kernel) rfl
theorem dL_law_1026 : decode cL_law 1026 = .ok (.iload 5, 2) := dec_w [0x15, 0x05] (pc9 (k := 1024) (j := 2) lwD_16 rfl) (by decide +kernel) rfl
theorem dL_law_1028 : decode cL_law 1028 = .ok (.iconst 2, 1) := dec_w [0x05] (pc9 (k := 1024) (j := 4) lwD_16 rfl) (by decide +kernel) rfl
theorem dL_law_1029 : decode cL_law 1029 = .ok (.iadd, 1) := dec_w [0x60] (pc9 (k := 1024) (j := 5) lwD_16 rfl) (by decide +kernel) rfl
theorem dL_law_1030 : decode cL_law 1030 = .ok (.iaload, 1) := dec_w [0x2e] (pc9 (k := 1024) (j := 6) lwD_16 rfl) (by decide +kernel) rfl
theorem dL_law_1031 : decode cL_law 1031 = .ok (.invokevirtual 243, 3) := dec_w [0xb6, 0x00, 0xf3] (pc9 (k := 1024) (j := 7) lwD_16 rfl) (by decide +kernel) rfl
theorem dL_law_1034 : decode cL_law 1034 = .ok (.istore 7, 2) := dec_w [0x36, 0x07] (pc9 (k := 1024) (j := 10) lwD_16 rfl) (by decide +kernel) rfl
theorem dL_law_1036 : decode cL_law 1036 = .ok (.aload_n 2, 1) := dec_w [0x2c] (pc9 (k := 1024) (j := 12) lwD_16 rfl) (by decide +kernel) rfl
theorem dL_law_1037 : decode cL_law 1037 = .ok (.invokevirtual 212, 3) := dec_w [0xb6, 0x00, 0xd4] (pc9 (k := 1024) (j := 13) lwD_16 rfl) (by decide +kernel) rfl
theorem dL_law_1040 : decode cL_law 1040 = .ok (.iload 6, 2) := dec_w [0x15, 0x06] (pc9 (k := 1024) (j := 16) lwD_16 rfl) (by decide +kernel) rfl
theorem dL_law_1042 : decode cL_law 1042 = .ok (.if_icmp .eq 5, 3) := dec_w [0x9f, 0x00, 0x05] (pc9 (k := 1024) (j := 18) lwD_16 rfl) (by decide +kernel) rfl
theorem dL_law_1045 : decode cL_law 1045 = .ok (.iconst 0, 1) := dec_w [0x03] (pc9 (k := 1024) (j := 21) lwD_16 rfl) (by decide +kernel) rfl
theorem dL_law_1046 : decode cL_law 1046 = .ok (.ireturn, 1) := dec_w [0xac] (pc9 (k := 1024) (j := 22) lwD_16 rfl) (by decide +kernel) rfl
theorem dL_law_1047 : decode cL_law 1047 = .ok (.iload 6, 2) := dec_w [0x15, 0x06] (pc9 (k := 1024) (j := 23) lwD_16 rfl) (by decide +kernel) rfl
theorem dL_law_1049 : decode cL_law 1049 = .ok (.ifCond .ne 15, 3) := dec_w [0x9a, 0x00, 0x0f] (pc9 (k := 1024) (j := 25) lwD_16 rfl) (by decide +kernel) rfl
theorem dL_law_1052 : decode cL_law 1052 = .ok (.aload_n 3, 1) := dec_w [0x2d] (pc9 (k := 1024) (j := 28) lwD_16 rfl) (by decide +kernel) rfl
theorem dL_law_1053 : decode cL_law 1053 = .ok (.iconst 0, 1) := dec_w [0x03] (pc9 (k := 1024) (j := 29) lwD_16 rfl) (by decide +kernel) rfl
theorem dL_law_1054 : decode cL_law 1054 = .ok (.laload, 1) := dec_w [0x2f] (pc9 (k := 1024) (j := 30) lwD_16 rfl) (by decide +kernel) rfl
theorem dL_law_1055 : decode cL_law 1055 = .ok (.iload 7, 2) := dec_w [0x15, 0x07] (pc9 (k := 1024) (j := 31) lwD_16 rfl) (by decide +kernel) rfl
theorem dL_law_1057 : decode cL_law 1057 = .ok (.i2l, 1) := dec_w [0x85] (pc9 (k := 1024) (j := 33) lwD_16 rfl) (by decide +kernel) rfl
theorem dL_law_1058 : decode cL_law 1058 = .ok (.lcmp, 1) := dec_w [0x94] (pc9 (k := 1024) (j := 34) lwD_16 rfl) (by decide +kernel) rfl
theorem dL_law_1059 : decode cL_law 1059 = .ok (.ifCond .eq 5, 3) := dec_w [0x99, 0x00, 0x05] (pc9 (k := 1024) (j := 35) lwD_16 rfl) (by decide +kernel) rfl
theorem dL_law_1062 : decode cL_law 1062 = .ok (.iconst 0, 1) := dec_w [0x03] (pc9 (k := 1024) (j := 38) lwD_16 rfl) (by decide +kernel) rfl
theorem dL_law_1063 : decode cL_law 1063 = .ok (.ireturn, 1) := dec_w [0xac] (pc9 (k := 1024) (j := 39) lwD_16 rfl) (by decide +kernel) rfl
theorem dL_law_1064 : decode cL_law 1064 = .ok (.goto 3162, 3) := dec_w [0xa7, 0x0c, 0x5a] (pc9 (k := 1024) (j := 40) lwD_16 rfl) (by decide +kernel) rfl
theorem dL_law_1067 : decode cL_law 1067 = .ok (.aload_n 1, 1) := dec_w [0x2b] (pc9 (k := 1024) (j := 43) lwD_16 rfl) (by decide +kernel) rfl
theorem dL_law_1068 : decode cL_law 1068 = .ok (.aload_n 0, 1) := dec_w [0x2a] (pc9 (k := 1024) (j := 44) lwD_16 rfl) (by decide +kernel) rfl
theorem dL_law_1069 : decode cL_law 1069 = .ok (.iload 5, 2) := dec_w [0x15, 0x05] (pc9 (k := 1024) (j := 45) lwD_16 rfl) (by decide +kernel) rfl
theorem dL_law_1071 : decode cL_law 1071 = .ok (.iconst 1, 1) := dec_w [0x04] (pc9 (k := 1024) (j := 47) lwD_16 rfl) (by decide +kernel) rfl
theorem dL_law_1072 : decode cL_law 1072 = .ok (.iadd, 1) := dec_w [0x60] (pc9 (k := 1024) (j := 48) lwD_16 rfl) (by decide +kernel) rfl
theorem dL_law_1073 : decode cL_law 1073 = .ok (.iaload, 1) := dec_w [0x2e] (pc9 (k := 1024) (j := 49) lwD_16 rfl) (by decide +kernel) rfl
theorem dL_law_1074 : decode cL_law 1074 = .ok (.aload_n 0, 1) := dec_w [0x2a] (pc9 (k := 1024) (j := 50) lwD_16 rfl) (by decide +kernel) rfl
theorem dL_law_1075 : decode cL_law 1075 = .ok (.iload 5, 2) := dec_w [0x15, 0x05] (pc9 (k := 1024) (j := 51) lwD_16 rfl) (by decide +kernel) rfl
theorem dL_law_1077 : decode cL_law 1077 = .ok (.iconst 2, 1) := dec_w [0x05] (pc9 (k := 1024) (j := 53) lwD_16 rfl) (by decide +kernel) rfl
theorem dL_law_1078 : decode cL_law 1078 = .ok (.iadd, 1) := dec_w [0x60] (pc9 (k := 1024) (j := 54) lwD_16 rfl) (by decide +kernel) rfl
theorem dL_law_1079 : decode cL_law 1079 = .ok (.iaload, 1) := dec_w [0x2e] (pc9 (k := 1024) (j := 55) lwD_16 rfl) (by decide +kernel) rfl
theorem dL_law_1080 : decode cL_law 1080 = .ok (.i2l, 1) := dec_w [0x85] (pc9 (k := 1024) (j := 56) lwD_16 rfl) (by decide +kernel) rfl
theorem dL_law_1081 : decode cL_law 1081 = .ok (.bipush 32, 2) := dec_w [0x10, 0x20] (pc9 (k := 1024) (j := 57) lwD_16 rfl) (by decide +kernel) rfl
theorem dL_law_1083 : decode cL_law 1083 = .ok (.lshl, 1) := dec_w [0x79] (pc9 (k := 1024) (j := 59) lwD_16 rfl) (by decide +kernel) rfl
theorem dL_law_1084 : decode cL_law 1084 = .ok (.aload_n 0, 1) := dec_w [0x2a] (pc9 (k := 1024) (j := 60) lwD_16 rfl) (by decide +kernel) rfl
theorem dL_law_1085 : decode cL_law 1085 = .ok (.iload 5, 2) := dec_w [0x15, 0x05] (pc9 (k := 1024) (j := 61) lwD_16 rfl) (by decide +kernel) rfl
theorem dL_law_1087 : decode cL_law 1087 = .ok (.iconst 3, 1) := dec_w [0x06] (pc9 (k := 1024) (j := 63) lwD_16 rfl) (by decide +kernel) rfl
theorem dL_law_1088 : decode cL_law 1088 = .ok (.iadd, 1) := dec_w [0x60] (pc9 (k := 1088) (j := 0) lwD_17 rfl) (by decide +kernel) rfl
theorem dL_law_1089 : decode cL_law 1089 = .ok (.iaload, 1) := dec_w [0x2e] (pc9 (k := 1088) (j := 1) lwD_17 rfl) (by decide +kernel) rfl
theorem dL_law_1090 : decode cL_law 1090 = .ok (.i2l, 1) := dec_w [0x85] (pc9 (k := 1088) (j := 2) lwD_17 rfl) (by decide +kernel) rfl
theorem dL_law_1091 : decode cL_law 1091 = .ok (.ldc2_w 186, 3) := dec_w [0x14, 0x00, 0xba] (pc9 (k := 1088) (j := 3) lwD_17 rfl) (by decide +kernel) rfl
theorem dL_law_1094 : decode cL_law 1094 = .ok (.land, 1) := dec_w [0x7f] (pc9 (k := 1088) (j := 6) lwD_17 rfl) (by decide +kernel) rfl
theorem dL_law_1095 : decode cL_law 1095 = .ok (.lor, 1) := dec_w [0x81] (pc9 (k := 1088) (j := 7) lwD_17 rfl) (by decide +kernel) rfl
theorem dL_law_1096 : decode cL_law 1096 = .ok (.aload_n 3, 1) := dec_w [0x2d] (pc9 (k := 1088) (j := 8) lwD_17 rfl) (by decide +kernel) rfl
theorem dL_law_1097 : decode cL_law 1097 = .ok (.invokestatic 244, 3) := dec_w [0xb8, 0x00, 0xf4] (pc9 (k := 1088) (j := 9) lwD_17 rfl) (by decide +kernel) rfl
theorem dL_law_1100 : decode cL_law 1100 = .ok (.istore 6, 2) := dec_w [0x36, 0x06] (pc9 (k := 1088) (j := 12) lwD_17 rfl) (by decide +kernel) rfl
theorem dL_law_1102 : decode cL_law 1102 = .ok (.aload_n 2, 1) := dec_w [0x2c] (pc9 (k := 1088) (j := 14) lwD_17 rfl) (by decide +kernel) rfl
theorem dL_law_1103 : decode cL_law 1103 = .ok (.aload_n 0, 1) := dec_w [0x2a] (pc9 (k := 1088) (j := 15) lwD_17 rfl) (by decide +kernel) rfl
theorem dL_law_1104 : decode cL_law 1104 = .ok (.iload 5, 2) := dec_w [0x15, 0x05] (pc9 (k := 1088) (j := 16) lwD_17 rfl) (by decide +kernel) rfl
theorem dL_law_1106 : decode cL_law 1106 = .ok (.iconst 1, 1) := dec_w [0x04] (pc9 (k := 1088) (j := 18) lwD_17 rfl) (by decide +kernel) rfl
theorem dL_law_1107 : decode cL_law 1107 = .ok (.iadd, 1) := dec_w [0x60] (pc9 (k := 1088) (j := 19) lwD_17 rfl) (by decide +kernel) rfl
theorem dL_law_1108 : decode cL_law 1108 = .ok (.iaload, 1) := dec_w [0x2e] (pc9 (k := 1088) (j := 20) lwD_17 rfl) (by decide +kernel) rfl
theorem dL_law_1109 : decode cL_law 1109 = .ok (.aload_n 0, 1) := dec_w [0x2a] (pc9 (k := 1088) (j := 21) lwD_17 rfl) (by decide +kernel) rfl
theorem dL_law_1110 : decode cL_law 1110 = .ok (.iload 5, 2) := dec_w [0x15, 0x05] (pc9 (k := 1088) (j := 22) lwD_17 rfl) (by decide +kernel) rfl
theorem dL_law_1112 : decode cL_law 1112 = .ok (.iconst 2, 1) := dec_w [0x05] (pc9 (k := 1088) (j := 24) lwD_17 rfl) (by decide +kernel) rfl
theorem dL_law_1113 : decode cL_law 1113 = .ok (.iadd, 1) := dec_w [0x60] (pc9 (k := 1088) (j := 25) lwD_17 rfl) (by decide +kernel) rfl
theorem dL_law_1114 : decode cL_law 1114 = .ok (.iaload, 1) := dec_w [0x2e] (pc9 (k := 1088) (j := 26) lwD_17 rfl) (by decide +kernel) rfl
theorem dL_law_1115 : decode cL_law 1115 = .ok (.i2l, 1) := dec_w [0x85] (pc9 (k := 1088) (j := 27) lwD_17 rfl) (by decide +kernel) rfl
theorem dL_law_1116 : decode cL_law 1116 = .ok (.bipush 32, 2) := dec_w [0x10, 0x20] (pc9 (k := 1088) (j := 28) lwD_17 rfl) (by decide +kernel) rfl
theorem dL_law_1118 : decode cL_law 1118 = .ok (.lshl, 1) := dec_w [0x79] (pc9 (k := 1088) (j := 30) lwD_17 rfl) (by decide +kernel) rfl
theorem dL_law_1119 : decode cL_law 1119 = .ok (.aload_n 0, 1) := dec_w [0x2a] (pc9 (k := 1088) (j := 31) lwD_17 rfl) (by decide +kernel) rfl
theorem dL_law_1120 : decode cL_law 1120 = .ok (.iload 5, 2) := dec_w [0x15, 0x05] (pc9 (k := 1088) (j := 32) lwD_17 rfl) (by decide +kernel) rfl
theorem dL_law_1122 : decode cL_law 1122 = .ok (.iconst 3, 1) := dec_w [0x06] (pc9 (k := 1088) (j := 34) lwD_17 rfl) (by decide +kernel) rfl
theorem dL_law_1123 : decode cL_law 1123 = .ok (.iadd, 1) := dec_w [0x60] (pc9 (k := 1088) (j := 35) lwD_17 rfl) (by decide +kernel) rfl
theorem dL_law_1124 : decode cL_law 1124 = .ok (.iaload, 1) := dec_w [0x2e] (pc9 (k := 1088) (j := 36) lwD_17 rfl) (by decide +kernel) rfl
theorem dL_law_1125 : decode cL_law 1125 = .ok (.i2l, 1) := dec_w [0x85] (pc9 (k := 1088) (j := 37) lwD_17 rfl) (by decide +kernel) rfl
theorem dL_law_1126 : decode cL_law 1126 = .ok (.ldc2_w 186, 3) := dec_w [0x14, 0x00, 0xba] (pc9 (k := 1088) (j := 38) lwD_17 rfl) (by decide +kernel) rfl
theorem dL_law_1129 : decode cL_law 1129 = .ok (.land, 1) := dec_w [0x7f] (pc9 (k := 1088) (j := 41) lwD_17 rfl) (by decide +kernel) rfl
theorem dL_law_1130 : decode cL_law 1130 = .ok (.lor, 1) := dec_w [0x81] (pc9 (k := 1088) (j := 42) lwD_17 rfl) (by decide +kernel) rfl
theorem dL_law_1131 : decode cL_law 1131 = .ok (.invokevirtual 247, 3) := dec_w [0xb6, 0x00, 0xf7] (pc9 (k := 1088) (j := 43) lwD_17 rfl) (by decide +kernel) rfl
theorem dL_law_1134 : decode cL_law 1134 = .ok (.istore 7, 2) := dec_w [0x36, 0x07] (pc9 (k := 1088) (j := 46) lwD_17 rfl) (by decide +kernel) rfl
theorem dL_law_1136 : decode cL_law 1136 = .ok (.aload_n 2, 1) := dec_w [0x2c] (pc9 (k := 1088) (j := 48) lwD_17 rfl) (by decide +kernel) rfl
theorem dL_law_1137 : decode cL_law 1137 = .ok (.invokevirtual 212, 3) := dec_w [0xb6, 0x00, 0xd4] (pc9 (k := 1088) (j := 49) lwD_17 rfl) (by decide +kernel) rfl
theorem dL_law_1140 : decode cL_law 1140 = .ok (.iload 6, 2) := dec_w [0x15, 0x06] (pc9 (k := 1088) (j := 52) lwD_17 rfl) (by decide +kernel) rfl
theorem dL_law_1142 : decode cL_law 1142 = .ok (.if_icmp .eq 5, 3) := dec_w [0x9f, 0x00, 0x05] (pc9 (k := 1088) (j := 54) lwD_17 rfl) (by decide +kernel) rfl
theorem dL_law_1145 : decode cL_law 1145 = .ok (.iconst 0, 1) := dec_w [0x03] (pc9 (k := 1088) (j := 57) lwD_17 rfl) (by decide +kernel) rfl
theorem dL_law_1146 : decode cL_law 1146 = .ok (.ireturn, 1) := dec_w [0xac] (pc9 (k := 1088) (j := 58) lwD_17 rfl) (by decide +kernel) rfl
theorem dL_law_1147 : decode cL_law 1147 = .ok (.iload 6, 2) := dec_w [0x15, 0x06] (pc9 (k := 1088) (j := 59) lwD_17 rfl) (by decide +kernel) rfl
theorem dL_law_1149 : decode cL_law 1149 = .ok (.ifCond .ne 15, 3) := dec_w [0x9a, 0x00, 0x0f] (pc9 (k := 1088) (j := 61) lwD_17 rfl) (by decide +kernel) rfl
theorem dL_law_1152 : decode cL_law 1152 = .ok (.aload_n 3, 1) := dec_w [0x2d] (pc9 (k := 1152) (j := 0) lwD_18 rfl) (by decide +kernel) rfl
theorem dL_law_1153 : decode cL_law 1153 = .ok (.iconst 0, 1) := dec_w [0x03] (pc9 (k := 1152) (j := 1) lwD_18 rfl) (by decide +kernel) rfl
theorem dL_law_1154 : decode cL_law 1154 = .ok (.laload, 1) := dec_w [0x2f] (pc9 (k := 1152) (j := 2) lwD_18 rfl) (by decide +kernel) rfl
theorem dL_law_1155 : decode cL_law 1155 = .ok (.iload 7, 2) := dec_w [0x15, 0x07] (pc9 (k := 1152) (j := 3) lwD_18 rfl) (by decide +kernel) rfl
theorem dL_law_1157 : decode cL_law 1157 = .ok (.i2l, 1) := dec_w [0x85] (pc9 (k := 1152) (j := 5) lwD_18 rfl) (by decide +kernel) rfl
theorem dL_law_1158 : decode cL_law 1158 = .ok (.lcmp, 1) := dec_w [0x94] (pc9 (k := 1152) (j := 6) lwD_18 rfl) (by decide +kernel) rfl
theorem dL_law_1159 : decode cL_law 1159 = .ok (.ifCond .eq 5, 3) := dec_w [0x99, 0x00, 0x05] (pc9 (k := 1152) (j := 7) lwD_18 rfl) (by decide +kernel) rfl
theorem dL_law_1162 : decode cL_law 1162 = .ok (.iconst 0, 1) := dec_w [0x03] (pc9 (k := 1152) (j := 10) lwD_18 rfl) (by decide +kernel) rfl
theorem dL_law_1163 : decode cL_law 1163 = .ok (.ireturn, 1) := dec_w [0xac] (pc9 (k := 1152) (j := 11) lwD_18 rfl) (by decide +kernel) rfl
theorem dL_law_1164 : decode cL_law 1164 = .ok (.goto 3062, 3) := dec_w [0xa7, 0x0b, 0xf6] (pc9 (k := 1152) (j := 12) lwD_18 rfl) (by decide +kernel) rfl
theorem dL_law_1167 : decode cL_law 1167 = .ok (.aload_n 1, 1) := dec_w [0x2b] (pc9 (k := 1152) (j := 15) lwD_18 rfl) (by decide +kernel) rfl
theorem dL_law_1168 : decode cL_law 1168 = .ok (.aload_n 0, 1) := dec_w [0x2a] (pc9 (k := 1152) (j := 16) lwD_18 rfl) (by decide +kernel) rfl
theorem dL_law_1169 : decode cL_law 1169 = .ok (.iload 5, 2) := dec_w [0x15, 0x05] (pc9 (k := 1152) (j := 17) lwD_18 rfl) (by decide +kernel) rfl
theorem dL_law_1171 : decode cL_law 1171 = .ok (.iconst 1, 1) := dec_w [0x04] (pc9 (k := 1152) (j := 19) lwD_18 rfl) (by decide +kernel) rfl
theorem dL_law_1172 : decode cL_law 1172 = .ok (.iadd, 1) := dec_w [0x60] (pc9 (k := 1152) (j := 20) lwD_18 rfl) (by decide +kernel) rfl
theorem dL_law_1173 : decode cL_law 1173 = .ok (.iaload, 1) := dec_w [0x2e] (pc9 (k := 1152) (j := 21) lwD_18 rfl) (by decide +kernel) rfl
theorem dL_law_1174 : decode cL_law 1174 = .ok (.aload_n 0, 1) := dec_w [0x2a] (pc9 (k := 1152) (j := 22) lwD_18 rfl) (by decide +kernel) rfl
theorem dL_law_1175 : decode cL_law 1175 = .ok (.iload 5, 2) := dec_w [0x15, 0x05] (pc9 (k := 1152) (j := 23) lwD_18 rfl) (by decide +kernel) rfl
theorem dL_law_1177 : decode cL_law 1177 = .ok (.iconst 2, 1) := dec_w [0x05] (pc9 (k := 1152) (j := 25) lwD_18 rfl) (by decide +kernel) rfl
theorem dL_law_1178 : decode cL_law 1178 = .ok (.iadd, 1) := dec_w [0x60] (pc9 (k := 1152) (j := 26) lwD_18 rfl) (by decide +kernel) rfl
theorem dL_law_1179 : decode cL_law 1179 = .ok (.iaload, 1) := dec_w [0x2e] (pc9 (k := 1152) (j := 27) lwD_18 rfl) (by decide +kernel) rfl
theorem dL_law_1180 : decode cL_law 1180 = .ok (.aload_n 3, 1) := dec_w [0x2d] (pc9 (k := 1152) (j := 28) lwD_18 rfl) (by decide +kernel) rfl
theorem dL_law_1181 : decode cL_law 1181 = .ok (.invokestatic 248, 3) := dec_w [0xb8, 0x00, 0xf8] (pc9 (k := 1152) (j := 29) lwD_18 rfl) (by decide +kernel) rfl
theorem dL_law_1184 : decode cL_law 1184 = .ok (.istore 6, 2) := dec_w [0x36, 0x06] (pc9 (k := 1152) (j := 32) lwD_18 rfl) (by decide +kernel) rfl
theorem dL_law_1186 : decode cL_law 1186 = .ok (.aload_n 2, 1) := dec_w [0x2c] (pc9 (k := 1152) (j := 34) lwD_18 rfl) (by decide +kernel) rfl
theorem dL_law_1187 : decode cL_law 1187 = .ok (.aload_n 0, 1) := dec_w [0x2a] (pc9 (k := 1152) (j := 35) lwD_18 rfl) (by decide +kernel) rfl
theorem dL_law_1188 : decode cL_law 1188 = .ok (.iload 5, 2) := dec_w [0x15, 0x05] (pc9 (k := 1152) (j := 36) lwD_18 rfl) (by decide +kernel) rfl
theorem dL_law_1190 : decode cL_law 1190 = .ok (.iconst 1, 1) := dec_w [0x04] (pc9 (k := 1152) (j := 38) lwD_18 rfl) (by decide +kernel) rfl
theorem dL_law_1191 : decode cL_law 1191 = .ok (.iadd, 1) := dec_w [0x60] (pc9 (k := 1152) (j := 39) lwD_18 rfl) (by decide +kernel) rfl
theorem dL_law_1192 : decode cL_law 1192 = .ok (.iaload, 1) := dec_w [0x2e] (pc9 (k := 1152) (j := 40) lwD_18 rfl) (by decide +kernel) rfl
theorem dL_law_1193 : decode cL_law 1193 = .ok (.aload_n 0, 1) := dec_w [0x2a] (pc9 (k := 1152) (j := 41) lwD_18 rfl) (by decide +kernel) rfl
theorem dL_law_1194 : decode cL_law 1194 = .ok (.iload 5, 2) := dec_w [0x15, 0x05] (pc9 (k := 1152) (j := 42) lwD_18 rfl) (by decide +kernel) rfl
theorem dL_law_1196 : decode cL_law 1196 = .ok (.iconst 2, 1) := dec_w [0x05] (pc9 (k := 1152) (j := 44) lwD_18 rfl) (by decide +kernel) rfl
theorem dL_law_1197 : decode cL_law 1197 = .ok (.iadd, 1) := dec_w [0x60] (pc9 (k := 1152) (j := 45) lwD_18 rfl) (by decide +kernel) rfl
theorem dL_law_1198 : decode cL_law 1198 = .ok (.iaload, 1) := dec_w [0x2e] (pc9 (k := 1152) (j := 46) lwD_18 rfl) (by decide +kernel) rfl
theorem dL_law_1199 : decode cL_law 1199 = .ok (.invokevirtual 250, 3) := dec_w [0xb6, 0x00, 0xfa] (pc9 (k := 1152) (j := 47) lwD_18 rfl) (by decide +kernel) rfl
theorem dL_law_1202 : decode cL_law 1202 = .ok (.istore 7, 2) := dec_w [0x36, 0x07] (pc9 (k := 1152) (j := 50) lwD_18 rfl) (by decide +kernel) rfl
theorem dL_law_1204 : decode cL_law 1204 = .ok (.aload_n 2, 1) := dec_w [0x2c] (pc9 (k := 1152) (j := 52) lwD_18 rfl) (by decide +kernel) rfl
theorem dL_law_1205 : decode cL_law 1205 = .ok (.invokevirtual 212, 3) := dec_w [0xb6, 0x00, 0xd4] (pc9 (k := 1152) (j := 53) lwD_18 rfl) (by decide +kernel) rfl
theorem dL_law_1208 : decode cL_law 1208 = .ok (.iload 6, 2) := dec_w [0x15, 0x06] (pc9 (k := 1152) (j := 56) lwD_18 rfl) (by decide +kernel) rfl
theorem dL_law_1210 : decode cL_law 1210 = .ok (.if_icmp .eq 5, 3) := dec_w [0x9f, 0x00, 0x05] (pc9 (k := 1152) (j := 58) lwD_18 rfl) (by decide +kernel) rfl
theorem dL_law_1213 : decode cL_law 1213 = .ok (.iconst 0, 1) := dec_w [0x03] (pc9 (k := 1152) (j := 61) lwD_18 rfl) (by decide +kernel) rfl
theorem dL_law_1214 : decode cL_law 1214 = .ok (.ireturn, 1) := dec_w [0xac] (pc9 (k := 1152) (j := 62) lwD_18 rfl) (by decide +kernel) rfl
theorem dL_law_1215 : decode cL_law 1215 = .ok (.iload 6, 2) := dec_w [0x15, 0x06] (pc9 (k := 1152) (j := 63) lwD_18 rfl) (by decide +kernel) rfl
theorem dL_law_1217 : decode cL_law 1217 = .ok (.ifCond .ne 15, 3) := dec_w [0x9a, 0x00, 0x0f] (pc9 (k := 1216) (j := 1) lwD_19 rfl) (by decide +kernel) rfl
theorem dL_law_1220 : decode cL_law 1220 = .ok (.aload_n 3, 1) := dec_w [0x2d] (pc9 (k := 1216) (j := 4) lwD_19 rfl) (by decide +kernel) rfl
theorem dL_law_1221 : decode cL_law 1221 = .ok (.iconst 0, 1) := dec_w [0x03] (pc9 (k := 1216) (j := 5) lwD_19 rfl) (by decide +kernel) rfl
theorem dL_law_1222 : decode cL_law 1222 = .ok (.laload, 1) := dec_w [0x2f] (pc9 (k := 1216) (j := 6) lwD_19 rfl) (by decide +kernel) rfl
theorem dL_law_1223 : decode cL_law 1223 = .ok (.iload 7, 2) := dec_w [0x15, 0x07] (pc9 (k := 1216) (j := 7) lwD_19 rfl) (by decide +kernel) rfl
theorem dL_law_1225 : decode cL_law 1225 = .ok (.i2l, 1) := dec_w [0x85] (pc9 (k := 1216) (j := 9) lwD_19 rfl) (by decide +kernel) rfl
theorem dL_law_1226 : decode cL_law 1226 = .ok (.lcmp, 1) := dec_w [0x94] (pc9 (k := 1216) (j := 10) lwD_19 rfl) (by decide +kernel) rfl
theorem dL_law_1227 : decode cL_law 1227 = .ok (.ifCond .eq 5, 3) := dec_w [0x99, 0x00, 0x05] (pc9 (k := 1216) (j := 11) lwD_19 rfl) (by decide +kernel) rfl
theorem dL_law_1230 : decode cL_law 1230 = .ok (.iconst 0, 1) := dec_w [0x03] (pc9 (k := 1216) (j := 14) lwD_19 rfl) (by decide +kernel) rfl
theorem dL_law_1231 : decode cL_law 1231 = .ok (.ireturn, 1) := dec_w [0xac] (pc9 (k := 1216) (j := 15) lwD_19 rfl) (by decide +kernel) rfl
theorem dL_law_1232 : decode cL_law 1232 = .ok (.goto 2994, 3) := dec_w [0xa7, 0x0b, 0xb2] (pc9 (k := 1216) (j := 16) lwD_19 rfl) (by decide +kernel) rfl
theorem dL_law_1235 : decode cL_law 1235 = .ok (.aload_n 1, 1) := dec_w [0x2b] (pc9 (k := 1216) (j := 19) lwD_19 rfl) (by decide +kernel) rfl
theorem dL_law_1236 : decode cL_law 1236 = .ok (.aload_n 0, 1) := dec_w [0x2a] (pc9 (k := 1216) (j := 20) lwD_19 rfl) (by decide +kernel) rfl
theorem dL_law_1237 : decode cL_law 1237 = .ok (.iload 5, 2) := dec_w [0x15, 0x05] (pc9 (k := 1216) (j := 21) lwD_19 rfl) (by decide +kernel) rfl
theorem dL_law_1239 : decode cL_law 1239 = .ok (.iconst 1, 1) := dec_w [0x04] (pc9 (k := 1216) (j := 23) lwD_19 rfl) (by decide +kernel) rfl
theorem dL_law_1240 : decode cL_law 1240 = .ok (.iadd, 1) := dec_w [0x60] (pc9 (k := 1216) (j := 24) lwD_19 rfl) (by decide +kernel) rfl
theorem dL_law_1241 : decode cL_law 1241 = .ok (.iaload, 1) := dec_w [0x2e] (pc9 (k := 1216) (j := 25) lwD_19 rfl) (by decide +kernel) rfl
theorem dL_law_1242 : decode cL_law 1242 = .ok (.aload 4, 2) := dec_w [0x19, 0x04] (pc9 (k := 1216) (j := 26) lwD_19 rfl) (by decide +kernel) rfl
theorem dL_law_1244 : decode cL_law 1244 = .ok (.invokestatic 251, 3) := dec_w [0xb8, 0x00, 0xfb] (pc9 (k := 1216) (j := 28) lwD_19 rfl) (by decide +kernel) rfl
theorem dL_law_1247 : decode cL_law 1247 = .ok (.istore 6, 2) := dec_w [0x36, 0x06] (pc9 (k := 1216) (j := 31) lwD_19 rfl) (by decide +kernel) rfl
theorem dL_law_1249 : decode cL_law 1249 = .ok (.aload_n 2, 1) := dec_w [0x2c] (pc9 (k := 1216) (j := 33) lwD_19 rfl) (by decide +kernel) rfl
theorem dL_law_1250 : decode cL_law 1250 = .ok (.aload_n 0, 1) := dec_w [0x2a] (pc9 (k := 1216) (j := 34) lwD_19 rfl) (by decide +kernel) rfl
theorem dL_law_1251 : decode cL_law 1251 = .ok (.iload 5, 2) := dec_w [0x15, 0x05] (pc9 (k := 1216) (j := 35) lwD_19 rfl) (by decide +kernel) rfl
theorem dL_law_1253 : decode cL_law 1253 = .ok (.iconst 1, 1) := dec_w [0x04] (pc9 (k := 1216) (j := 37) lwD_19 rfl) (by decide +kernel) rfl
theorem dL_law_1254 : decode cL_law 1254 = .ok (.iadd, 1) := dec_w [0x60] (pc9 (k := 1216) (j := 38) lwD_19 rfl) (by decide +kernel) rfl
theorem dL_law_1255 : decode cL_law 1255 = .ok (.iaload, 1) := dec_w [0x2e] (pc9 (k := 1216) (j := 39) lwD_19 rfl) (by decide +kernel) rfl
theorem dL_law_1256 : decode cL_law 1256 = .ok (.invokevirtual 254, 3) := dec_w [0xb6, 0x00, 0xfe] (pc9 (k := 1216) (j := 40) lwD_19 rfl) (by decide +kernel) rfl
theorem dL_law_1259 : decode cL_law 1259 = .ok (.dstore 7, 2) := dec_w [0x39, 0x07] (pc9 (k := 1216) (j := 43) lwD_19 rfl) (by decide +kernel) rfl
theorem dL_law_1261 : decode cL_law 1261 = .ok (.aload_n 2, 1) := dec_w [0x2c] (pc9 (k := 1216) (j := 45) lwD_19 rfl) (by decide +kernel) rfl
theorem dL_law_1262 : decode cL_law 1262 = .ok (.invokevirtual 212, 3) := dec_w [0xb6, 0x00, 0xd4] (pc9 (k := 1216) (j := 46) lwD_19 rfl) (by decide +kernel) rfl
theorem dL_law_1265 : decode cL_law 1265 = .ok (.iload 6, 2) := dec_w [0x15, 0x06] (pc9 (k := 1216) (j := 49) lwD_19 rfl) (by decide +kernel) rfl
theorem dL_law_1267 : decode cL_law 1267 = .ok (.if_icmp .eq 5, 3) := dec_w [0x9f, 0x00, 0x05] (pc9 (k := 1216) (j := 51) lwD_19 rfl) (by decide +kernel) rfl
theorem dL_law_1270 : decode cL_law 1270 = .ok (.iconst 0, 1) := dec_w [0x03] (pc9 (k := 1216) (j := 54) lwD_19 rfl) (by decide +kernel) rfl
theorem dL_law_1271 : decode cL_law 1271 = .ok (.ireturn, 1) := dec_w [0xac] (pc9 (k := 1216) (j := 55) lwD_19 rfl) (by decide +kernel) rfl
theorem dL_law_1272 : decode cL_law 1272 = .ok (.iload 6, 2) := dec_w [0x15, 0x06] (pc9 (k := 1216) (j := 56) lwD_19 rfl) (by decide +kernel) rfl
theorem dL_law_1274 : decode cL_law 1274 = .ok (.ifCond .ne 35, 3) := dec_w [0x9a, 0x00, 0x23] (pc9 (k := 1216) (j := 58) lwD_19 rfl) (by decide +kernel) rfl
theorem dL_law_1277 : decode cL_law 1277 = .ok (.aload 4, 2) := dec_w [0x19, 0x04] (pc9 (k := 1216) (j := 61) lwD_19 rfl) (by decide +kernel) rfl
theorem dL_law_1279 : decode cL_law 1279 = .ok (.iconst 0, 1) := dec_w [0x03] (pc9 (k := 1216) (j := 63) lwD_19 rfl) (by decide +kernel) rfl
theorem dL_law_1280 : decode cL_law 1280 = .ok (.daload, 1) := dec_w [0x31] (pc9 (k := 1280) (j := 0) lwD_20 rfl) (by decide +kernel) rfl
theorem dL_law_1281 : decode cL_law 1281 = .ok (.dload 7, 2) := dec_w [0x18, 0x07] (pc9 (k := 1280) (j := 1) lwD_20 rfl) (by decide +kernel) rfl
theorem dL_law_1283 : decode cL_law 1283 = .ok (.dcmp .l, 1) := dec_w [0x97] (pc9 (k := 1280) (j := 3) lwD_20 rfl) (by decide +kernel) rfl
theorem dL_law_1284 : decode cL_law 1284 = .ok (.ifCond .eq 25, 3) := dec_w [0x99, 0x00, 0x19] (pc9 (k := 1280) (j := 4) lwD_20 rfl) (by decide +kernel) rfl
theorem dL_law_1287 : decode cL_law 1287 = .ok (.aload 4, 2) := dec_w [0x19, 0x04] (pc9 (k := 1280) (j := 7) lwD_20 rfl) (by decide +kernel) rfl
theorem dL_law_1289 : decode cL_law 1289 = .ok (.iconst 0, 1) := dec_w [0x03] (pc9 (k := 1280) (j := 9) lwD_20 rfl) (by decide +kernel) rfl
theorem dL_law_1290 : decode cL_law 1290 = .ok (.daload, 1) := dec_w [0x31] (pc9 (k := 1280) (j := 10) lwD_20 rfl) (by decide +kernel) rfl
theorem dL_law_1291 : decode cL_law 1291 = .ok (.aload 4, 2) := dec_w [0x19, 0x04] (pc9 (k := 1280) (j := 11) lwD_20 rfl) (by decide +kernel) rfl
theorem dL_law_1293 : decode cL_law 1293 = .ok (.iconst 0, 1) := dec_w [0x03] (pc9 (k := 1280) (j := 13) lwD_20 rfl) (by decide +kernel) rfl
theorem dL_law_1294 : decode cL_law 1294 = .ok (.daload, 1) := dec_w [0x31] (pc9 (k := 1280) (j := 14) lwD_20 rfl) (by decide +kernel) rfl
theorem dL_law_1295 : decode cL_law 1295 = .ok (.dcmp .l, 1) := dec_w [0x97] (pc9 (k := 1280) (j := 15) lwD_20 rfl) (by decide +kernel) rfl
theorem dL_law_1296 : decode cL_law 1296 = .ok (.ifCond .eq 11, 3) := dec_w [0x99, 0x00, 0x0b] (pc9 (k := 1280) (j := 16) lwD_20 rfl) (by decide +kernel) rfl
theorem dL_law_1299 : decode cL_law 1299 = .ok (.dload 7, 2) := dec_w [0x18, 0x07] (pc9 (k := 1280) (j := 19) lwD_20 rfl) (by decide +kernel) rfl
theorem dL_law_1301 : decode cL_law 1301 = .ok (.dload 7, 2) := dec_w [0x18, 0x07] (pc9 (k := 1280) (j := 21) lwD_20 rfl) (by decide +kernel) rfl
theorem dL_law_1303 : decode cL_law 1303 = .ok (.dcmp .l, 1) := dec_w [0x97] (pc9 (k := 1280) (j := 23) lwD_20 rfl) (by decide +kernel) rfl
theorem dL_law_1304 : decode cL_law 1304 = .ok (.ifCond .ne 5, 3) := dec_w [0x9a, 0x00, 0x05] (pc9 (k := 1280) (j := 24) lwD_20 rfl) (by decide +kernel) rfl
theorem dL_law_1307 : decode cL_law 1307 = .ok (.iconst 0, 1) := dec_w [0x03] (pc9 (k := 1280) (j := 27) lwD_20 rfl) (by decide +kernel) rfl
theorem dL_law_1308 : decode cL_law 1308 = .ok (.ireturn, 1) := dec_w [0xac] (pc9 (k := 1280) (j := 28) lwD_20 rfl) (by decide +kernel) rfl
theorem dL_law_1309 : decode cL_law 1309 = .ok (.goto 2917, 3) := dec_w [0xa7, 0x0b, 0x65] (pc9 (k := 1280) (j := 29) lwD_20 rfl) (by decide +kernel) rfl
theorem dL_law_1312 : decode cL_law 1312 = .ok (.aload_n 1, 1) := dec_w [0x2b] (pc9 (k := 1280) (j := 32) lwD_20 rfl) (by decide +kernel) rfl
theorem dL_law_1313 : decode cL_law 1313 = .ok (.aload_n 0, 1) := dec_w [0x2a] (pc9 (k := 1280) (j := 33) lwD_20 rfl) (by decide +kernel) rfl
theorem dL_law_1314 : decode cL_law 1314 = .ok (.iload 5, 2) := dec_w [0x15, 0x05] (pc9 (k := 1280) (j := 34) lwD_20 rfl) (by decide +kernel) rfl
theorem dL_law_1316 : decode cL_law 1316 = .ok (.iconst 1, 1) := dec_w [0x04] (pc9 (k := 1280) (j := 36) lwD_20 rfl) (by decide +kernel) rfl
theorem dL_law_1317 : decode cL_law 1317 = .ok (.iadd, 1) := dec_w [0x60] (pc9 (k := 1280) (j := 37) lwD_20 rfl) (by decide +kernel) rfl
theorem dL_law_1318 : decode cL_law 1318 = .ok (.iaload, 1) := dec_w [0x2e] (pc9 (k := 1280) (j := 38) lwD_20 rfl) (by decide +kernel) rfl
theorem dL_law_1319 : decode cL_law 1319 = .ok (.aload_n 3, 1) := dec_w [0x2d] (pc9 (k := 1280) (j := 39) lwD_20 rfl) (by decide +kernel) rfl
theorem dL_law_1320 : decode cL_law 1320 = .ok (.invokestatic 255, 3) := dec_w [0xb8, 0x00, 0xff] (pc9 (k := 1280) (j := 40) lwD_20 rfl) (by decide +kernel) rfl
theorem dL_law_1323 : decode cL_law 1323 = .ok (.istore 6, 2) := dec_w [0x36, 0x06] (pc9 (k := 1280) (j := 43) lwD_20 rfl) (by decide +kernel) rfl
theorem dL_law_1325 : decode cL_law 1325 = .ok (.aload_n 2, 1) := dec_w [0x2c] (pc9 (k := 1280) (j := 45) lwD_20 rfl) (by decide +kernel) rfl
theorem dL_law_1326 : decode cL_law 1326 = .ok (.aload_n 0, 1) := dec_w [0x2a] (pc9 (k := 1280) (j := 46) lwD_20 rfl) (by decide +kernel) rfl
theorem dL_law_1327 : decode cL_law 1327 = .ok (.iload 5, 2) := dec_w [0x15, 0x05] (pc9 (k := 1280) (j := 47) lwD_20 rfl) (by decide +kernel) rfl
theorem dL_law_1329 : decode cL_law 1329 = .ok (.iconst 1, 1) := dec_w [0x04] (pc9 (k := 1280) (j := 49) lwD_20 rfl) (by decide +kernel) rfl
theorem dL_law_1330 : decode cL_law 1330 = .ok (.iadd, 1) := dec_w [0x60] (pc9 (k := 1280) (j := 50) lwD_20 rfl) (by decide +kernel) rfl
theorem dL_law_1331 : decode cL_law 1331 = .ok (.iaload, 1) := dec_w [0x2e] (pc9 (k := 1280) (j := 51) lwD_20 rfl) (by decide +kernel) rfl
theorem dL_law_1332 : decode cL_law 1332 = .ok (.invokevirtual 257, 3) := dec_w [0xb6, 0x01, 0x01] (pc9 (k := 1280) (j := 52) lwD_20 rfl) (by decide +kernel) rfl
theorem dL_law_1335 : decode cL_law 1335 = .ok (.istore 7, 2) := dec_w [0x36, 0x07] (pc9 (k := 1280) (j := 55) lwD_20 rfl) (by decide +kernel) rfl
theorem dL_law_1337 : decode cL_law 1337 = .ok (.aload_n 2, 1) := dec_w [0x2c] (pc9 (k := 1280) (j := 57) lwD_20 rfl) (by decide +kernel) rfl
theorem dL_law_1338 : decode cL_law 1338 = .ok (.invokevirtual 212, 3) := dec_w [0xb6, 0x00, 0xd4] (pc9 (k := 1280) (j := 58) lwD_20 rfl) (by decide +kernel) rfl
theorem dL_law_1341 : decode cL_law 1341 = .ok (.iload 6, 2) := dec_w [0x15, 0x06] (pc9 (k := 1280) (j := 61) lwD_20 rfl) (by decide +kernel) rfl
theorem dL_law_1343 : decode cL_law 1343 = .ok (.if_icmp .eq 5, 3) := dec_w [0x9f, 0x00, 0x05] (pc9 (k := 1280) (j := 63) lwD_20 rfl) (by decide +kernel) rfl
theorem dL_law_1346 : decode cL_law 1346 = .ok (.iconst 0, 1) := dec_w [0x03] (pc9 (k := 1344) (j := 2) lwD_21 rfl) (by decide +kernel) rfl
theorem dL_law_1347 : decode cL_law 1347 = .ok (.ireturn, 1) := dec_w [0xac] (pc9 (k := 1344) (j := 3) lwD_21 rfl) (by decide +kernel) rfl
theorem dL_law_1348 : decode cL_law 1348 = .ok (.iload 6, 2) := dec_w [0x15, 0x06] (pc9 (k := 1344) (j := 4) lwD_21 rfl) (by decide +kernel) rfl
theorem dL_law_1350 : decode cL_law 1350 = .ok (.ifCond .ne 22, 3) := dec_w [0x9a, 0x00, 0x16] (pc9 (k := 1344) (j := 6) lwD_21 rfl) (by decide +kernel) rfl
theorem dL_law_1353 : decode cL_law 1353 = .ok (.aload_n 3, 1) := dec_w [0x2d] (pc9 (k := 1344) (j := 9) lwD_21 rfl) (by decide +kernel) rfl
theorem dL_law_1354 : decode cL_law 1354 = .ok (.iconst 0, 1) := dec_w [0x03] (pc9 (k := 1344) (j := 10) lwD_21 rfl) (by decide +kernel) rfl
theorem dL_law_1355 : decode cL_law 1355 = .ok (.laload, 1) := dec_w [0x2f] (pc9 (k := 1344) (j := 11) lwD_21 rfl) (by decide +kernel) rfl
theorem dL_law_1356 : decode cL_law 1356 = .ok (.iload 7, 2) := dec_w [0x15, 0x07] (pc9 (k := 1344) (j := 12) lwD_21 rfl) (by decide +kernel) rfl
theorem dL_law_1358 : decode cL_law 1358 = .ok (.ifCond .eq 7, 3) := dec_w [0x99, 0x00, 0x07] (pc9 (k := 1344) (j := 14) lwD_21 rfl) (by decide +kernel) rfl
theorem dL_law_1361 : decode cL_law 1361 = .ok (.lconst 1, 1) := dec_w [0x0a] (pc9 (k := 1344) (j := 17) lwD_21 rfl) (by decide +kernel) rfl
theorem dL_law_1362 : decode cL_law 1362 = .ok (.goto 4, 3) := dec_w [0xa7, 0x00, 0x04] (pc9 (k := 1344) (j := 18) lwD_21 rfl) (by decide +kernel) rfl
theorem dL_law_1365 : decode cL_law 1365 = .ok (.lconst 0, 1) := dec_w [0x09] (pc9 (k := 1344) (j := 21) lwD_21 rfl) (by decide +kernel) rfl
theorem dL_law_1366 : decode cL_law 1366 = .ok (.lcmp, 1) := dec_w [0x94] (pc9 (k := 1344) (j := 22) lwD_21 rfl) (by decide +kernel) rfl
theorem dL_law_1367 : decode cL_law 1367 = .ok (.ifCond .eq 5, 3) := dec_w [0x99, 0x00, 0x05] (pc9 (k := 1344) (j := 23) lwD_21 rfl) (by decide +kernel) rfl
theorem dL_law_1370 : decode cL_law 1370 = .ok (.iconst 0, 1) := dec_w [0x03] (pc9 (k := 1344) (j := 26) lwD_21 rfl) (by decide +kernel) rfl
theorem dL_law_1371 : decode cL_law 1371 = .ok (.ireturn, 1) := dec_w [0xac] (pc9 (k := 1344) (j := 27) lwD_21 rfl) (by decide +kernel) rfl
theorem dL_law_1372 : decode cL_law 1372 = .ok (.goto 2854, 3) := dec_w [0xa7, 0x0b, 0x26] (pc9 (k := 1344) (j := 28) lwD_21 rfl) (by decide +kernel) rfl
theorem dL_law_1375 : decode cL_law 1375 = .ok (.aload_n 1, 1) := dec_w [0x2b] (pc9 (k := 1344) (j := 31) lwD_21 rfl) (by decide +kernel) rfl
theorem dL_law_1376 : decode cL_law 1376 = .ok (.aload_n 0, 1) := dec_w [0x2a] (pc9 (k := 1344) (j := 32) lwD_21 rfl) (by decide +kernel) rfl
theorem dL_law_1377 : decode cL_law 1377 = .ok (.iload 5, 2) := dec_w [0x15, 0x05] (pc9 (k := 1344) (j := 33) lwD_21 rfl) (by decide +kernel) rfl
theorem dL_law_1379 : decode cL_law 1379 = .ok (.iconst 1, 1) := dec_w [0x04] (pc9 (k := 1344) (j := 35) lwD_21 rfl) (by decide +kernel) rfl
theorem dL_law_1380 : decode cL_law 1380 = .ok (.iadd, 1) := dec_w [0x60] (pc9 (k := 1344) (j := 36) lwD_21 rfl) (by decide +kernel) rfl
theorem dL_law_1381 : decode cL_law 1381 = .ok (.iaload, 1) := dec_w [0x2e] (pc9 (k := 1344) (j := 37) lwD_21 rfl) (by decide +kernel) rfl
theorem dL_law_1382 : decode cL_law 1382 = .ok (.aload_n 0, 1) := dec_w [0x2a] (pc9 (k := 1344) (j := 38) lwD_21 rfl) (by decide +kernel) rfl
theorem dL_law_1383 : decode cL_law 1383 = .ok (.iload 5, 2) := dec_w [0x15, 0x05] (pc9 (k := 1344) (j := 39) lwD_21 rfl) (by decide +kernel) rfl
theorem dL_law_1385 : decode cL_law 1385 = .ok (.iconst 2, 1) := dec_w [0x05] (pc9 (k := 1344) (j := 41) lwD_21 rfl) (by decide +kernel) rfl
theorem dL_law_1386 : decode cL_law 1386 = .ok (.iadd, 1) := dec_w [0x60] (pc9 (k := 1344) (j := 42) lwD_21 rfl) (by decide +kernel) rfl
theorem dL_law_1387 : decode cL_law 1387 = .ok (.iaload, 1) := dec_w [0x2e] (pc9 (k := 1344) (j := 43) lwD_21 rfl) (by decide +kernel) rfl
theorem dL_law_1388 : decode cL_law 1388 = .ok (.aload_n 0, 1) := dec_w [0x2a] (pc9 (k := 1344) (j := 44) lwD_21 rfl) (by decide +kernel) rfl
theorem dL_law_1389 : decode cL_law 1389 = .ok (.iload 5, 2) := dec_w [0x15, 0x05] (pc9 (k := 1344) (j := 45) lwD_21 rfl) (by decide +kernel) rfl
theorem dL_law_1391 : decode cL_law 1391 = .ok (.iconst 3, 1) := dec_w [0x06] (pc9 (k := 1344) (j := 47) lwD_21 rfl) (by decide +kernel) rfl
theorem dL_law_1392 : decode cL_law 1392 = .ok (.iadd, 1) := dec_w [0x60] (pc9 (k := 1344) (j := 48) lwD_21 rfl) (by decide +kernel) rfl
theorem dL_law_1393 : decode cL_law 1393 = .ok (.iaload, 1) := dec_w [0x2e] (pc9 (k := 1344) (j := 49) lwD_21 rfl) (by decide +kernel) rfl
theorem dL_law_1394 : decode cL_law 1394 = .ok (.aload_n 3, 1) := dec_w [0x2d] (pc9 (k := 1344) (j := 50) lwD_21 rfl) (by decide +kernel) rfl
theorem dL_law_1395 : decode cL_law 1395 = .ok (.invokestatic 258, 3) := dec_w [0xb8, 0x01, 0x02] (pc9 (k := 1344) (j := 51) lwD_21 rfl) (by decide +kernel) rfl
theorem dL_law_1398 : decode cL_law 1398 = .ok (.istore 6, 2) := dec_w [0x36, 0x06] (pc9 (k := 1344) (j := 54) lwD_21 rfl) (by decide +kernel) rfl
theorem dL_law_1400 : decode cL_law 1400 = .ok (.aload_n 2, 1) := dec_w [0x2c] (pc9 (k := 1344) (j := 56) lwD_21 rfl) (by decide +kernel) rfl
theorem dL_law_1401 : decode cL_law 1401 = .ok (.aload_n 0, 1) := dec_w [0x2a] (pc9 (k := 1344) (j := 57) lwD_21 rfl) (by decide +kernel) rfl
theorem dL_law_1402 : decode cL_law 1402 = .ok (.iload 5, 2) := dec_w [0x15, 0x05] (pc9 (k := 1344) (j := 58) lwD_21 rfl) (by decide +kernel) rfl
theorem dL_law_1404 : decode cL_law 1404 = .ok (.iconst 1, 1) := dec_w [0x04] (pc9 (k := 1344) (j := 60) lwD_21 rfl) (by decide +kernel) rfl
theorem dL_law_1405 : decode cL_law 1405 = .ok (.iadd, 1) := dec_w [0x60] (pc9 (k := 1344) (j := 61) lwD_21 rfl) (by decide +kernel) rfl
theorem dL_law_1406 : decode cL_law 1406 = .ok (.iaload, 1) := dec_w [0x2e] (pc9 (k := 1344) (j := 62) lwD_21 rfl) (by decide +kernel) rfl
theorem dL_law_1407 : decode cL_law 1407 = .ok (.aload_n 0, 1) := dec_w [0x2a] (pc9 (k := 1344) (j := 63) lwD_21 rfl) (by decide +kernel) rfl
theorem dL_law_1408 : decode cL_law 1408 = .ok (.iload 5, 2) := dec_w [0x15, 0x05] (pc9 (k := 1408) (j := 0) lwD_22 rfl) (by decide +kernel) rfl
theorem dL_law_1410 : decode cL_law 1410 = .ok (.iconst 2, 1) := dec_w [0x05] (pc9 (k := 1408) (j := 2) lwD_22 rfl) (by decide +kernel) rfl
theorem dL_law_1411 : decode cL_law 1411 = .ok (.iadd, 1) := dec_w [0x60] (pc9 (k := 1408) (j := 3) lwD_22 rfl) (by decide +kernel) rfl
theorem dL_law_1412 : decode cL_law 1412 = .ok (.iaload, 1) := dec_w [0x2e] (pc9 (k := 1408) (j := 4) lwD_22 rfl) (by decide +kernel) rfl
theorem dL_law_1413 : decode cL_law 1413 = .ok (.aload_n 0, 1) := dec_w [0x2a] (pc9 (k := 1408) (j := 5) lwD_22 rfl) (by decide +kernel) rfl
theorem dL_law_1414 : decode cL_law 1414 = .ok (.iload 5, 2) := dec_w [0x15, 0x05] (pc9 (k := 1408) (j := 6) lwD_22 rfl) (by decide +kernel) rfl
theorem dL_law_1416 : decode cL_law 1416 = .ok (.iconst 3, 1) := dec_w [0x06] (pc9 (k := 1408) (j := 8) lwD_22 rfl) (by decide +kernel) rfl
theorem dL_law_1417 : decode cL_law 1417 = .ok (.iadd, 1) := dec_w [0x60] (pc9 (k := 1408) (j := 9) lwD_22 rfl) (by decide +kernel) rfl
theorem dL_law_1418 : decode cL_law 1418 = .ok (.iaload, 1) := dec_w [0x2e] (pc9 (k := 1408) (j := 10) lwD_22 rfl) (by decide +kernel) rfl
theorem dL_law_1419 : decode cL_law 1419 = .ok (.invokevirtual 260, 3) := dec_w [0xb6, 0x01, 0x04] (pc9 (k := 1408) (j := 11) lwD_22 rfl) (by decide +kernel) rfl
theorem dL_law_1422 : decode cL_law 1422 = .ok (.istore 7, 2) := dec_w [0x36, 0x07] (pc9 (k := 1408) (j := 14) lwD_22 rfl) (by decide +kernel) rfl
theorem dL_law_1424 : decode cL_law 1424 = .ok (.aload_n 2, 1) := dec_w [0x2c] (pc9 (k := 1408) (j := 16) lwD_22 rfl) (by decide +kernel) rfl
theorem dL_law_1425 : decode cL_law 1425 = .ok (.invokevirtual 212, 3) := dec_w [0xb6, 0x00, 0xd4] (pc9 (k := 1408) (j := 17) lwD_22 rfl) (by decide +kernel) rfl
theorem dL_law_1428 : decode cL_law 1428 = .ok (.iload 6, 2) := dec_w [0x15, 0x06] (pc9 (k := 1408) (j := 20) lwD_22 rfl) (by decide +kernel) rfl
theorem dL_law_1430 : decode cL_law 1430 = .ok (.if_icmp .eq 5, 3) := dec_w [0x9f, 0x00, 0x05] (pc9 (k := 1408) (j := 22) lwD_22 rfl) (by decide +kernel) rfl
theorem dL_law_1433 : decode cL_law 1433 = .ok (.iconst 0, 1) := dec_w [0x03] (pc9 (k := 1408) (j := 25) lwD_22 rfl) (by decide +kernel) rfl
theorem dL_law_1434 : decode cL_law 1434 = .ok (.ireturn, 1) := dec_w [0xac] (pc9 (k := 1408) (j := 26) lwD_22 rfl) (by decide +kernel) rfl
theorem dL_law_1435 : decode cL_law 1435 = .ok (.iload 6, 2) := dec_w [0x15, 0x06] (pc9 (k := 1408) (j := 27) lwD_22 rfl) (by decide +kernel) rfl
theorem dL_law_1437 : decode cL_law 1437 = .ok (.ifCond .ne 15, 3) := dec_w [0x9a, 0x00, 0x0f] (pc9 (k := 1408) (j := 29) lwD_22 rfl) (by decide +kernel) rfl
theorem dL_law_1440 : decode cL_law 1440 = .ok (.aload_n 3, 1) := dec_w [0x2d] (pc9 (k := 1408) (j := 32) lwD_22 rfl) (by decide +kernel) rfl
theorem dL_law_1441 : decode cL_law 1441 = .ok (.iconst 0, 1) := dec_w [0x03] (pc9 (k := 1408) (j := 33) lwD_22 rfl) (by decide +kernel) rfl
theorem dL_law_1442 : decode cL_law 1442 = .ok (.laload, 1) := dec_w [0x2f] (pc9 (k := 1408) (j := 34) lwD_22 rfl) (by decide +kernel) rfl
theorem dL_law_1443 : decode cL_law 1443 = .ok (.iload 7, 2) := dec_w [0x15, 0x07] (pc9 (k := 1408) (j := 35) lwD_22 rfl) (by decide +kernel) rfl
theorem dL_law_1445 : decode cL_law 1445 = .ok (.i2l, 1) := dec_w [0x85] (pc9 (k := 1408) (j := 37) lwD_22 rfl) (by decide +kernel) rfl
theorem dL_law_1446 : decode cL_law 1446 = .ok (.lcmp, 1) := dec_w [0x94] (pc9 (k := 1408) (j := 38) lwD_22 rfl) (by decide +kernel) rfl
theorem dL_law_1447 : decode cL_law 1447 = .ok (.ifCond .eq 5, 3) := dec_w [0x99, 0x00, 0x05] (pc9 (k := 1408) (j := 39) lwD_22 rfl) (by decide +kernel) rfl
theorem dL_law_1450 : decode cL_law 1450 = .ok (.iconst 0, 1) := dec_w [0x03] (pc9 (k := 1408) (j := 42) lwD_22 rfl) (by decide +kernel) rfl
theorem dL_law_1451 : decode cL_law 1451 = .ok (.ireturn, 1) := dec_w [0xac] (pc9 (k := 1408) (j := 43) lwD_22 rfl) (by decide +kernel) rfl
theorem dL_law_1452 : decode cL_law 1452 = .ok (.goto 2774, 3) := dec_w [0xa7, 0x0a, 0xd6] (pc9 (k := 1408) (j := 44) lwD_22 rfl) (by decide +kernel) rfl
theorem dL_law_1455 : decode cL_law 1455 = .ok (.aload_n 1, 1) := dec_w [0x2b] (pc9 (k := 1408) (j := 47) lwD_22 rfl) (by decide +kernel) rfl
theorem dL_law_1456 : decode cL_law 1456 = .ok (.aload_n 0, 1) := dec_w [0x2a] (pc9 (k := 1408) (j := 48) lwD_22 rfl) (by decide +kernel) rfl
theorem dL_law_1457 : decode cL_law 1457 = .ok (.iload 5, 2) := dec_w [0x15, 0x05] (pc9 (k := 1408) (j := 49) lwD_22 rfl) (by decide +kernel) rfl
theorem dL_law_1459 : decode cL_law 1459 = .ok (.iconst 1, 1) := dec_w [0x04] (pc9 (k := 1408) (j := 51) lwD_22 rfl) (by decide +kernel) rfl
theorem dL_law_1460 : decode cL_law 1460 = .ok (.iadd, 1) := dec_w [0x60] (pc9 (k := 1408) (j := 52) lwD_22 rfl) (by decide +kernel) rfl
theorem dL_law_1461 : decode cL_law 1461 = .ok (.iaload, 1) := dec_w [0x2e] (pc9 (k := 1408) (j := 53) lwD_22 rfl) (by decide +kernel) rfl
theorem dL_law_1462 : decode cL_law 1462 = .ok (.aload_n 0, 1) := dec_w [0x2a] (pc9 (k := 1408) (j := 54) lwD_22 rfl) (by decide +kernel) rfl
theorem dL_law_1463 : decode cL_law 1463 = .ok (.iload 5, 2) := dec_w [0x15, 0x05] (pc9 (k := 1408) (j := 55) lwD_22 rfl) (by decide +kernel) rfl
theorem dL_law_1465 : decode cL_law 1465 = .ok (.iconst 2, 1) := dec_w [0x05] (pc9 (k := 1408) (j := 57) lwD_22 rfl) (by decide +kernel) rfl
theorem dL_law_1466 : decode cL_law 1466 = .ok (.iadd, 1) := dec_w [0x60] (pc9 (k := 1408) (j := 58) lwD_22 rfl) (by decide +kernel) rfl
theorem dL_law_1467 : decode cL_law 1467 = .ok (.iaload, 1) := dec_w [0x2e] (pc9 (k := 1408) (j := 59) lwD_22 rfl) (by decide +kernel) rfl
theorem dL_law_1468 : decode cL_law 1468 = .ok (.aload_n 3, 1) := dec_w [0x2d] (pc9 (k := 1408) (j := 60) lwD_22 rfl) (by decide +kernel) rfl
theorem dL_law_1469 : decode cL_law 1469 = .ok (.invokestatic 261, 3) := dec_w [0xb8, 0x01, 0x05] (pc9 (k := 1408) (j := 61) lwD_22 rfl) (by decide +kernel) rfl
theorem dL_law_1472 : decode cL_law 1472 = .ok (.istore 6, 2) := dec_w [0x36, 0x06] (pc9 (k := 1472) (j := 0) lwD_23 rfl) (by decide +kernel) rfl
theorem dL_law_1474 : decode cL_law 1474 = .ok (.aload_n 2, 1) := dec_w [0x2c] (pc9 (k := 1472) (j := 2) lwD_23 rfl) (by decide +kernel) rfl
theorem dL_law_1475 : decode cL_law 1475 = .ok (.aload_n 0, 1) := dec_w [0x2a] (pc9 (k := 1472) (j := 3) lwD_23 rfl) (by decide +kernel) rfl
theorem dL_law_1476 : decode cL_law 1476 = .ok (.iload 5, 2) := dec_w [0x15, 0x05] (pc9 (k := 1472) (j := 4) lwD_23 rfl) (by decide +kernel) rfl
theorem dL_law_1478 : decode cL_law 1478 = .ok (.iconst 1, 1) := dec_w [0x04] (pc9 (k := 1472) (j := 6) lwD_23 rfl) (by decide +kernel) rfl
theorem dL_law_1479 : decode cL_law 1479 = .ok (.iadd, 1) := dec_w [0x60] (pc9 (k := 1472) (j := 7) lwD_23 rfl) (by decide +kernel) rfl
theorem dL_law_1480 : decode cL_law 1480 = .ok (.iaload, 1) := dec_w [0x2e] (pc9 (k := 1472) (j := 8) lwD_23 rfl) (by decide +kernel) rfl
theorem dL_law_1481 : decode cL_law 1481 = .ok (.aload_n 0, 1) := dec_w [0x2a] (pc9 (k := 1472) (j := 9) lwD_23 rfl) (by decide +kernel) rfl
theorem dL_law_1482 : decode cL_law 1482 = .ok (.iload 5, 2) := dec_w [0x15, 0x05] (pc9 (k := 1472) (j := 10) lwD_23 rfl) (by decide +kernel) rfl
theorem dL_law_1484 : decode cL_law 1484 = .ok (.iconst 2, 1) := dec_w [0x05] (pc9 (k := 1472) (j := 12) lwD_23 rfl) (by decide +kernel) rfl
theorem dL_law_1485 : decode cL_law 1485 = .ok (.iadd, 1) := dec_w [0x60] (pc9 (k := 1472) (j := 13) lwD_23 rfl) (by decide +kernel) rfl
theorem dL_law_1486 : decode cL_law 1486 = .ok (.iaload, 1) := dec_w [0x2e] (pc9 (k := 1472) (j := 14) lwD_23 rfl) (by decide +kernel) rfl
theorem dL_law_1487 : decode cL_law 1487 = .ok (.invokevirtual 263, 3) := dec_w [0xb6, 0x01, 0x07] (pc9 (k := 1472) (j := 15) lwD_23 rfl) (by decide +kernel) rfl
theorem dL_law_1490 : decode cL_law 1490 = .ok (.istore 7, 2) := dec_w [0x36, 0x07] (pc9 (k := 1472) (j := 18) lwD_23 rfl) (by decide +kernel) rfl
theorem dL_law_1492 : decode cL_law 1492 = .ok (.aload_n 2, 1) := dec_w [0x2c] (pc9 (k := 1472) (j := 20) lwD_23 rfl) (by decide +kernel) rfl
theorem dL_law_1493 : decode cL_law 1493 = .ok (.invokevirtual 212, 3) := dec_w [0xb6, 0x00, 0xd4] (pc9 (k := 1472) (j := 21) lwD_23 rfl) (by decide +kernel) rfl
theorem dL_law_1496 : decode cL_law 1496 = .ok (.iload 6, 2) := dec_w [0x15, 0x06] (pc9 (k := 1472) (j := 24) lwD_23 rfl) (by decide +kernel) rfl
theorem dL_law_1498 : decode cL_law 1498 = .ok (.if_icmp .eq 5, 3) := dec_w [0x9f, 0x00, 0x05] (pc9 (k := 1472) (j := 26) lwD_23 rfl) (by decide +kernel) rfl
theorem dL_law_1501 : decode cL_law 1501 = .ok (.iconst 0, 1) := dec_w [0x03] (pc9 (k := 1472) (j := 29) lwD_23 rfl) (by decide +kernel) rfl
theorem dL_law_1502 : decode cL_law 1502 = .ok (.ireturn, 1) := dec_w [0xac] (pc9 (k := 1472) (j := 30) lwD_23 rfl) (by decide +kernel) rfl
theorem dL_law_1503 : decode cL_law 1503 = .ok (.iload 6, 2) := dec_w [0x15, 0x06] (pc9 (k := 1472) (j := 31) lwD_23 rfl) (by decide +kernel) rfl
theorem dL_law_1505 : decode cL_law 1505 = .ok (.ifCond .ne 15, 3) := dec_w [0x9a, 0x00, 0x0f] (pc9 (k := 1472) (j := 33) lwD_23 rfl) (by decide +kernel) rfl
theorem dL_law_1508 : decode cL_law 1508 = .ok (.aload_n 3, 1) := dec_w [0x2d] (pc9 (k := 1472) (j := 36) lwD_23 rfl) (by decide +kernel) rfl
theorem dL_law_1509 : decode cL_law 1509 = .ok (.iconst 0, 1) := dec_w [0x03] (pc9 (k := 1472) (j := 37) lwD_23 rfl) (by decide +kernel) rfl
theorem dL_law_1510 : decode cL_law 1510 = .ok (.laload, 1) := dec_w [0x2f] (pc9 (k := 1472) (j := 38) lwD_23 rfl) (by decide +kernel) rfl
theorem dL_law_1511 : decode cL_law 1511 = .ok (.iload 7, 2) := dec_w [0x15, 0x07] (pc9 (k := 1472) (j := 39) lwD_23 rfl) (by decide +kernel) rfl
theorem dL_law_1513 : decode cL_law 1513 = .ok (.i2l, 1) := dec_w [0x85] (pc9 (k := 1472) (j := 41) lwD_23 rfl) (by decide +kernel) rfl
theorem dL_law_1514 : decode cL_law 1514 = .ok (.lcmp, 1) := dec_w [0x94] (pc9 (k := 1472) (j := 42) lwD_23 rfl) (by decide +kernel) rfl
theorem dL_law_1515 : decode cL_law 1515 = .ok (.ifCond .eq 5, 3) := dec_w [0x99, 0x00, 0x05] (pc9 (k := 1472) (j := 43) lwD_23 rfl) (by decide +kernel) rfl
theorem dL_law_1518 : decode cL_law 1518 = .ok (.iconst 0, 1) := dec_w [0x03] (pc9 (k := 1472) (j := 46) lwD_23 rfl) (by decide +kernel) rfl
theorem dL_law_1519 : decode cL_law 1519 = .ok (.ireturn, 1) := dec_w [0xac] (pc9 (k := 1472) (j := 47) lwD_23 rfl) (by decide +kernel) rfl
theorem dL_law_1520 : decode cL_law 1520 = .ok (.goto 2706, 3) := dec_w [0xa7, 0x0a, 0x92] (pc9 (k := 1472) (j := 48) lwD_23 rfl) (by decide +kernel) rfl
theorem dL_law_1523 : decode cL_law 1523 = .ok (.aload_n 1, 1) := dec_w [0x2b] (pc9 (k := 1472) (j := 51) lwD_23 rfl) (by decide +kernel) rfl
theorem dL_law_1524 : decode cL_law 1524 = .ok (.aload_n 0, 1) := dec_w [0x2a] (pc9 (k := 1472) (j := 52) lwD_23 rfl) (by decide +kernel) rfl
theorem dL_law_1525 : decode cL_law 1525 = .ok (.iload 5, 2) := dec_w [0x15, 0x05] (pc9 (k := 1472) (j := 53) lwD_23 rfl) (by decide +kernel) rfl
theorem dL_law_1527 : decode cL_law 1527 = .ok (.iconst 1, 1) := dec_w [0x04] (pc9 (k := 1472) (j := 55) lwD_23 rfl) (by decide +kernel) rfl
theorem dL_law_1528 : decode cL_law 1528 = .ok (.iadd, 1) := dec_w [0x60] (pc9 (k := 1472) (j := 56) lwD_23 rfl) (by decide +kernel) rfl
theorem dL_law_1529 : decode cL_law 1529 = .ok (.iaload, 1) := dec_w [0x2e] (pc9 (k := 1472) (j := 57) lwD_23 rfl) (by decide +kernel) rfl
theorem dL_law_1530 : decode cL_law 1530 = .ok (.aload_n 3, 1) := dec_w [0x2d] (pc9 (k := 1472) (j := 58) lwD_23 rfl) (by decide +kernel) rfl
theorem dL_law_1531 : decode cL_law 1531 = .ok (.invokestatic 264, 3) := dec_w [0xb8, 0x01, 0x08] (pc9 (k := 1472) (j := 59) lwD_23 rfl) (by decide +kernel) rfl
theorem dL_law_1534 : decode cL_law 1534 = .ok (.istore 6, 2) := dec_w [0x36, 0x06] (pc9 (k := 1472) (j := 62) lwD_23 rfl) (by decide +kernel) rfl
theorem dL_law_1536 : decode cL_law 1536 = .ok (.aload_n 2, 1) := dec_w [0x2c] (pc9 (k := 1536) (j := 0) lwD_24 rfl) (by decide +kernel) rfl
theorem dL_law_1537 : decode cL_law 1537 = .ok (.aload_n 0, 1) := dec_w [0x2a] (pc9 (k := 1536) (j := 1) lwD_24 rfl) (by decide +kernel) rfl
theorem dL_law_1538 : decode cL_law 1538 = .ok (.iload 5, 2) := dec_w [0x15, 0x05] (pc9 (k := 1536) (j := 2) lwD_24 rfl) (by decide +kernel) rfl
theorem dL_law_1540 : decode cL_law 1540 = .ok (.iconst 1, 1) := dec_w [0x04] (pc9 (k := 1536) (j := 4) lwD_24 rfl) (by decide +kernel) rfl
theorem dL_law_1541 : decode cL_law 1541 = .ok (.iadd, 1) := dec_w [0x60] (pc9 (k := 1536) (j := 5) lwD_24 rfl) (by decide +kernel) rfl
theorem dL_law_1542 : decode cL_law 1542 = .ok (.iaload, 1) := dec_w [0x2e] (pc9 (k := 1536) (j := 6) lwD_24 rfl) (by decide +kernel) rfl
theorem dL_law_1543 : decode cL_law 1543 = .ok (.invokevirtual 266, 3) := dec_w [0xb6, 0x01, 0x0a] (pc9 (k := 1536) (j := 7) lwD_24 rfl) (by decide +kernel) rfl
theorem dL_law_1546 : decode cL_law 1546 = .ok (.istore 7, 2) := dec_w [0x36, 0x07] (pc9 (k := 1536) (j := 10) lwD_24 rfl) (by decide +kernel) rfl
theorem dL_law_1548 : decode cL_law 1548 = .ok (.aload_n 2, 1) := dec_w [0x2c] (pc9 (k := 1536) (j := 12) lwD_24 rfl) (by decide +kernel) rfl
theorem dL_law_1549 : decode cL_law 1549 = .ok (.invokevirtual 212, 3) := dec_w [0xb6, 0x00, 0xd4] (pc9 (k := 1536) (j := 13) lwD_24 rfl) (by decide +kernel) rfl
theorem dL_law_1552 : decode cL_law 1552 = .ok (.iload 6, 2) := dec_w [0x15, 0x06] (pc9 (k := 1536) (j := 16) lwD_24 rfl) (by decide +kernel) rfl
theorem dL_law_1554 : decode cL_law 1554 = .ok (.if_icmp .eq 5, 3) := dec_w [0x9f, 0x00, 0x05] (pc9 (k := 1536) (j := 18) lwD_24 rfl) (by decide +kernel) rfl
theorem dL_law_1557 : decode cL_law 1557 = .ok (.iconst 0, 1) := dec_w [0x03] (pc9 (k := 1536) (j := 21) lwD_24 rfl) (by decide +kernel) rfl
theorem dL_law_1558 : decode cL_law 1558 = .ok (.ireturn, 1) := dec_w [0xac] (pc9 (k := 1536) (j := 22) lwD_24 rfl) (by decide +kernel) rfl
theorem dL_law_1559 : decode cL_law 1559 = .ok (.iload 6, 2) := dec_w [0x15, 0x06] (pc9 (k := 1536) (j := 23) lwD_24 rfl) (by decide +kernel) rfl
theorem dL_law_1561 : decode cL_law 1561 = .ok (.ifCond .ne 15, 3) := dec_w [0x9a, 0x00, 0x0f] (pc9 (k := 1536) (j := 25) lwD_24 rfl) (by decide +kernel) rfl
theorem dL_law_1564 : decode cL_law 1564 = .ok (.aload_n 3, 1) := dec_w [0x2d] (pc9 (k := 1536) (j := 28) lwD_24 rfl) (by decide +kernel) rfl
theorem dL_law_1565 : decode cL_law 1565 = .ok (.iconst 0, 1) := dec_w [0x03] (pc9 (k := 1536) (j := 29) lwD_24 rfl) (by decide +kernel) rfl
theorem dL_law_1566 : decode cL_law 1566 = .ok (.laload, 1) := dec_w [0x2f] (pc9 (k := 1536) (j := 30) lwD_24 rfl) (by decide +kernel) rfl
theorem dL_law_1567 : decode cL_law 1567 = .ok (.iload 7, 2) := dec_w [0x15, 0x07] (pc9 (k := 1536) (j := 31) lwD_24 rfl) (by decide +kernel) rfl
theorem dL_law_1569 : decode cL_law 1569 = .ok (.i2l, 1) := dec_w [0x85] (pc9 (k := 1536) (j := 33) lwD_24 rfl) (by decide +kernel) rfl
theorem dL_law_1570 : decode cL_law 1570 = .ok (.lcmp, 1) := dec_w [0x94] (pc9 (k := 1536) (j := 34) lwD_24 rfl) (by decide +kernel) rfl
theorem dL_law_1571 : decode cL_law 1571 = .ok (.ifCond .eq 5, 3) := dec_w [0x99, 0x00, 0x05] (pc9 (k := 1536) (j := 35) lwD_24 rfl) (by decide +kernel) rfl
theorem dL_law_1574 : decode cL_law 1574 = .ok (.iconst 0, 1) := dec_w [0x03] (pc9 (k := 1536) (j := 38) lwD_24 rfl) (by decide +kernel) rfl
theorem dL_law_1575 : decode cL_law 1575 = .ok (.ireturn, 1) := dec_w [0xac] (pc9 (k := 1536) (j := 39) lwD_24 rfl) (by decide +kernel) rfl
theorem dL_law_1576 : decode cL_law 1576 = .ok (.goto 2650, 3) := dec_w [0xa7, 0x0a, 0x5a] (pc9 (k := 1536) (j := 40) lwD_24 rfl) (by decide +kernel) rfl
theorem dL_law_1579 : decode cL_law 1579 = .ok (.aload_n 1, 1) := dec_w [0x2b] (pc9 (k := 1536) (j := 43) lwD_24 rfl) (by decide +kernel) rfl
theorem dL_law_1580 : decode cL_law 1580 = .ok (.aload_n 0, 1) := dec_w [0x2a] (pc9 (k := 1536) (j := 44) lwD_24 rfl) (by decide +kernel) rfl
theorem dL_law_1581 : decode cL_law 1581 = .ok (.iload 5, 2) := dec_w [0x15, 0x05] (pc9 (k := 1536) (j := 45) lwD_24 rfl) (by decide +kernel) rfl
theorem dL_law_1583 : decode cL_law 1583 = .ok (.iconst 1, 1) := dec_w [0x04] (pc9 (k := 1536) (j := 47) lwD_24 rfl) (by decide +kernel) rfl
theorem dL_law_1584 : decode cL_law 1584 = .ok (.iadd, 1) := dec_w [0x60] (pc9 (k := 1536) (j := 48) lwD_24 rfl) (by decide +kernel) rfl
theorem dL_law_1585 : decode cL_law 1585 = .ok (.iaload, 1) := dec_w [0x2e] (pc9 (k := 1536) (j := 49) lwD_24 rfl) (by decide +kernel) rfl
theorem dL_law_1586 : decode cL_law 1586 = .ok (.aload 4, 2) := dec_w [0x19, 0x04] (pc9 (k := 1536) (j := 50) lwD_24 rfl) (by decide +kernel) rfl
theorem dL_law_1588 : decode cL_law 1588 = .ok (.invokestatic 267, 3) := dec_w [0xb8, 0x01, 0x0b] (pc9 (k := 1536) (j := 52) lwD_24 rfl) (by decide +kernel) rfl
theorem dL_law_1591 : decode cL_law 1591 = .ok (.istore 6, 2) := dec_w [0x36, 0x06] (pc9 (k := 1536) (j := 55) lwD_24 rfl) (by decide +kernel) rfl
theorem dL_law_1593 : decode cL_law 1593 = .ok (.aload_n 2, 1) := dec_w [0x2c] (pc9 (k := 1536) (j := 57) lwD_24 rfl) (by decide +kernel) rfl
theorem dL_law_1594 : decode cL_law 1594 = .ok (.aload_n 0, 1) := dec_w [0x2a] (pc9 (k := 1536) (j := 58) lwD_24 rfl) (by decide +kernel) rfl
theorem dL_law_1595 : decode cL_law 1595 = .ok (.iload 5, 2) := dec_w [0x15, 0x05] (pc9 (k := 1536) (j := 59) lwD_24 rfl) (by decide +kernel) rfl
theorem dL_law_1597 : decode cL_law 1597 = .ok (.iconst 1, 1) := dec_w [0x04] (pc9 (k := 1536) (j := 61) lwD_24 rfl) (by decide +kernel) rfl
theorem dL_law_1598 : decode cL_law 1598 = .ok (.iadd, 1) := dec_w [0x60] (pc9 (k := 1536) (j := 62) lwD_24 rfl) (by decide +kernel) rfl
theorem dL_law_1599 : decode cL_law 1599 = .ok (.iaload, 1) := dec_w [0x2e] (pc9 (k := 1536) (j := 63) lwD_24 rfl) (by decide +kernel) rfl
theorem dL_law_1600 : decode cL_law 1600 = .ok (.invokevirtual 269, 3) := dec_w [0xb6, 0x01, 0x0d] (pc9 (k := 1600) (j := 0) lwD_25 rfl) (by decide +kernel) rfl
theorem dL_law_1603 : decode cL_law 1603 = .ok (.fstore 7, 2) := dec_w [0x38, 0x07] (pc9 (k := 1600) (j := 3) lwD_25 rfl) (by decide +kernel) rfl
theorem dL_law_1605 : decode cL_law 1605 = .ok (.aload_n 2, 1) := dec_w [0x2c] (pc9 (k := 1600) (j := 5) lwD_25 rfl) (by decide +kernel) rfl
theorem dL_law_1606 : decode cL_law 1606 = .ok (.invokevirtual 212, 3) := dec_w [0xb6, 0x00, 0xd4] (pc9 (k := 1600) (j := 6) lwD_25 rfl) (by decide +kernel) rfl
theorem dL_law_1609 : decode cL_law 1609 = .ok (.iload 6, 2) := dec_w [0x15, 0x06] (pc9 (k := 1600) (j := 9) lwD_25 rfl) (by decide +kernel) rfl
theorem dL_law_1611 : decode cL_law 1611 = .ok (.if_icmp .eq 5, 3) := dec_w [0x9f, 0x00, 0x05] (pc9 (k := 1600) (j := 11) lwD_25 rfl) (by decide +kernel) rfl
theorem dL_law_1614 : decode cL_law 1614 = .ok (.iconst 0, 1) := dec_w [0x03] (pc9 (k := 1600) (j := 14) lwD_25 rfl) (by decide +kernel) rfl
theorem dL_law_1615 : decode cL_law 1615 = .ok (.ireturn, 1) := dec_w [0xac] (pc9 (k := 1600) (j := 15) lwD_25 rfl) (by decide +kernel) rfl
theorem dL_law_1616 : decode cL_law 1616 = .ok (.iload 6, 2) := dec_w [0x15, 0x06] (pc9 (k := 1600) (j := 16) lwD_25 rfl) (by decide +kernel) rfl
theorem dL_law_1618 : decode cL_law 1618 = .ok (.ifCond .ne 36, 3) := dec_w [0x9a, 0x00, 0x24] (pc9 (k := 1600) (j := 18) lwD_25 rfl) (by decide +kernel) rfl
theorem dL_law_1621 : decode cL_law 1621 = .ok (.aload 4, 2) := dec_w [0x19, 0x04] (pc9 (k := 1600) (j := 21) lwD_25 rfl) (by decide +kernel) rfl
theorem dL_law_1623 : decode cL_law 1623 = .ok (.iconst 0, 1) := dec_w [0x03] (pc9 (k := 1600) (j := 23) lwD_25 rfl) (by decide +kernel) rfl
theorem dL_law_1624 : decode cL_law 1624 = .ok (.daload, 1) := dec_w [0x31] (pc9 (k := 1600) (j := 24) lwD_25 rfl) (by decide +kernel) rfl
theorem dL_law_1625 : decode cL_law 1625 = .ok (.fload 7, 2) := dec_w [0x17, 0x07] (pc9 (k := 1600) (j := 25) lwD_25 rfl) (by decide +kernel) rfl
theorem dL_law_1627 : decode cL_law 1627 = .ok (.f2d, 1) := dec_w [0x8d] (pc9 (k := 1600) (j := 27) lwD_25 rfl) (by decide +kernel) rfl
theorem dL_law_1628 : decode cL_law 1628 = .ok (.dcmp .l, 1) := dec_w [0x97] (pc9 (k := 1600) (j := 28) lwD_25 rfl) (by decide +kernel) rfl
theorem dL_law_1629 : decode cL_law 1629 = .ok (.ifCond .eq 25, 3) := dec_w [0x99, 0x00, 0x19] (pc9 (k := 1600) (j := 29) lwD_25 rfl) (by decide +kernel) rfl
theorem dL_law_1632 : decode cL_law 1632 = .ok (.aload 4, 2) := dec_w [0x19, 0x04] (pc9 (k := 1600) (j := 32) lwD_25 rfl) (by decide +kernel) rfl
theorem dL_law_1634 : decode cL_law 1634 = .ok (.iconst 0, 1) := dec_w [0x03] (pc9 (k := 1600) (j := 34) lwD_25 rfl) (by decide +kernel) rfl
theorem dL_law_1635 : decode cL_law 1635 = .ok (.daload, 1) := dec_w [0x31] (pc9 (k := 1600) (j := 35) lwD_25 rfl) (by decide +kernel) rfl
theorem dL_law_1636 : decode cL_law 1636 = .ok (.aload 4, 2) := dec_w [0x19, 0x04] (pc9 (k := 1600) (j := 36) lwD_25 rfl) (by decide +kernel) rfl
theorem dL_law_1638 : decode cL_law 1638 = .ok (.iconst 0, 1) := dec_w [0x03] (pc9 (k := 1600) (j := 38) lwD_25 rfl) (by decide +kernel) rfl
theorem dL_law_1639 : decode cL_law 1639 = .ok (.daload, 1) := dec_w [0x31] (pc9 (k := 1600) (j := 39) lwD_25 rfl) (by decide +kernel) rfl
theorem dL_law_1640 : decode cL_law 1640 = .ok (.dcmp .l, 1) := dec_w [0x97] (pc9 (k := 1600) (j := 40) lwD_25 rfl) (by decide +kernel) rfl
theorem dL_law_1641 : decode cL_law 1641 = .ok (.ifCond .eq 11, 3) := dec_w [0x99, 0x00, 0x0b] (pc9 (k := 1600) (j := 41) lwD_25 rfl) (by decide +kernel) rfl
theorem dL_law_1644 : decode cL_law 1644 = .ok (.fload 7, 2) := dec_w [0x17, 0x07] (pc9 (k := 1600) (j := 44) lwD_25 rfl) (by decide +kernel) rfl
theorem dL_law_1646 : decode cL_law 1646 = .ok (.fload 7, 2) := dec_w [0x17, 0x07] (pc9 (k := 1600) (j := 46) lwD_25 rfl) (by decide +kernel) rfl
theorem dL_law_1648 : decode cL_law 1648 = .ok (.fcmp .l, 1) := dec_w [0x95] (pc9 (k := 1600) (j := 48) lwD_25 rfl) (by decide +kernel) rfl
theorem dL_law_1649 : decode cL_law 1649 = .ok (.ifCond .ne 5, 3) := dec_w [0x9a, 0x00, 0x05] (pc9 (k := 1600) (j := 49) lwD_25 rfl) (by decide +kernel) rfl
theorem dL_law_1652 : decode cL_law 1652 = .ok (.iconst 0, 1) := dec_w [0x03] (pc9 (k := 1600) (j := 52) lwD_25 rfl) (by decide +kernel) rfl
theorem dL_law_1653 : decode cL_law 1653 = .ok (.ireturn, 1) := dec_w [0xac] (pc9 (k := 1600) (j := 53) lwD_25 rfl) (by decide +kernel) rfl
theorem dL_law_1654 : decode cL_law 1654 = .ok (.goto 2572, 3) := dec_w [0xa7, 0x0a, 0x0c] (pc9 (k := 1600) (j := 54) lwD_25 rfl) (by decide +kernel) rfl
theorem dL_law_1657 : decode cL_law 1657 = .ok (.aload_n 1, 1) := dec_w [0x2b] (pc9 (k := 1600) (j := 57) lwD_25 rfl) (by decide +kernel) rfl
theorem dL_law_1658 : decode cL_law 1658 = .ok (.aload_n 0, 1) := dec_w [0x2a] (pc9 (k := 1600) (j := 58) lwD_25 rfl) (by decide +kernel) rfl
theorem dL_law_1659 : decode cL_law 1659 = .ok (.iload 5, 2) := dec_w [0x15, 0x05] (pc9 (k := 1600) (j := 59) lwD_25 rfl) (by decide +kernel) rfl
theorem dL_law_1661 : decode cL_law 1661 = .ok (.iconst 1, 1) := dec_w [0x04] (pc9 (k := 1600) (j := 61) lwD_25 rfl) (by decide +kernel) rfl
theorem dL_law_1662 : decode cL_law 1662 = .ok (.iadd, 1) := dec_w [0x60] (pc9 (k := 1600) (j := 62) lwD_25 rfl) (by decide +kernel) rfl
theorem dL_law_1663 : decode cL_law 1663 = .ok (.iaload, 1) := dec_w [0x2e] (pc9 (k := 1600) (j := 63) lwD_25 rfl) (by decide +kernel) rfl
theorem dL_law_1664 : decode cL_law 1664 = .ok (.aload_n 0, 1) := dec_w [0x2a] (pc9 (k := 1664) (j := 0) lwD_26 rfl) (by decide +kernel) rfl
theorem dL_law_1665 : decode cL_law 1665 = .ok (.iload 5, 2) := dec_w [0x15, 0x05] (pc9 (k := 1664) (j := 1) lwD_26 rfl) (by decide +kernel) rfl
theorem dL_law_1667 : decode cL_law 1667 = .ok (.iconst 2, 1) := dec_w [0x05] (pc9 (k := 1664) (j := 3) lwD_26 rfl) (by decide +kernel) rfl
theorem dL_law_1668 : decode cL_law 1668 = .ok (.iadd, 1) := dec_w [0x60] (pc9 (k := 1664) (j := 4) lwD_26 rfl) (by decide +kernel) rfl
theorem dL_law_1669 : decode cL_law 1669 = .ok (.iaload, 1) := dec_w [0x2e] (pc9 (k := 1664) (j := 5) lwD_26 rfl) (by decide +kernel) rfl
theorem dL_law_1670 : decode cL_law 1670 = .ok (.aload_n 3, 1) := dec_w [0x2d] (pc9 (k := 1664) (j := 6) lwD_26 rfl) (by decide +kernel) rfl
theorem dL_law_1671 : decode cL_law 1671 = .ok (.invokestatic 270, 3) := dec_w [0xb8, 0x01, 0x0e] (pc9 (k := 1664) (j := 7) lwD_26 rfl) (by decide +kernel) rfl
theorem dL_law_1674 : decode cL_law 1674 = .ok (.istore 6, 2) := dec_w [0x36, 0x06] (pc9 (k := 1664) (j := 10) lwD_26 rfl) (by decide +kernel) rfl
theorem dL_law_1676 : decode cL_law 1676 = .ok (.aload_n 2, 1) := dec_w [0x2c] (pc9 (k := 1664) (j := 12) lwD_26 rfl) (by decide +kernel) rfl
theorem dL_law_1677 : decode cL_law 1677 = .ok (.aload_n 0, 1) := dec_w [0x2a] (pc9 (k := 1664) (j := 13) lwD_26 rfl) (by decide +kernel) rfl
theorem dL_law_1678 : decode cL_law 1678 = .ok (.iload 5, 2) := dec_w [0x15, 0x05] (pc9 (k := 1664) (j := 14) lwD_26 rfl) (by decide +kernel) rfl
theorem dL_law_1680 : decode cL_law 1680 = .ok (.iconst 1, 1) := dec_w [0x04] (pc9 (k := 1664) (j := 16) lwD_26 rfl) (by decide +kernel) rfl
theorem dL_law_1681 : decode cL_law 1681 = .ok (.iadd, 1) := dec_w [0x60] (pc9 (k := 1664) (j := 17) lwD_26 rfl) (by decide +kernel) rfl
theorem dL_law_1682 : decode cL_law 1682 = .ok (.iaload, 1) := dec_w [0x2e] (pc9 (k := 1664) (j := 18) lwD_26 rfl) (by decide +kernel) rfl
theorem dL_law_1683 : decode cL_law 1683 = .ok (.aload_n 0, 1) := dec_w [0x2a] (pc9 (k := 1664) (j := 19) lwD_26 rfl) (by decide +kernel) rfl
theorem dL_law_1684 : decode cL_law 1684 = .ok (.iload 5, 2) := dec_w [0x15, 0x05] (pc9 (k := 1664) (j := 20) lwD_26 rfl) (by decide +kernel) rfl
theorem dL_law_1686 : decode cL_law 1686 = .ok (.iconst 2, 1) := dec_w [0x05] (pc9 (k := 1664) (j := 22) lwD_26 rfl) (by decide +kernel) rfl
theorem dL_law_1687 : decode cL_law 1687 = .ok (.iadd, 1) := dec_w [0x60] (pc9 (k := 1664) (j := 23) lwD_26 rfl) (by decide +kernel) rfl
theorem dL_law_1688 : decode cL_law 1688 = .ok (.iaload, 1) := dec_w [0x2e] (pc9 (k := 1664) (j := 24) lwD_26 rfl) (by decide +kernel) rfl
theorem dL_law_1689 : decode cL_law 1689 = .ok (.invokevirtual 272, 3) := dec_w [0xb6, 0x01, 0x10] (pc9 (k := 1664) (j := 25) lwD_26 rfl) (by decide +kernel) rfl
theorem dL_law_1692 : decode cL_law 1692 = .ok (.istore 7, 2) := dec_w [0x36, 0x07] (pc9 (k := 1664) (j := 28) lwD_26 rfl) (by decide +kernel) rfl
theorem dL_law_1694 : decode cL_law 1694 = .ok (.aload_n 2, 1) := dec_w [0x2c] (pc9 (k := 1664) (j := 30) lwD_26 rfl) (by decide +kernel) rfl
theorem dL_law_1695 : decode cL_law 1695 = .ok (.invokevirtual 212, 3) := dec_w [0xb6, 0x00, 0xd4] (pc9 (k := 1664) (j := 31) lwD_26 rfl) (by decide +kernel) rfl
theorem dL_law_1698 : decode cL_law 1698 = .ok (.iload 6, 2) := dec_w [0x15, 0x06] (pc9 (k := 1664) (j := 34) lwD_26 rfl) (by decide +kernel) rfl
theorem dL_law_1700 : decode cL_law 1700 = .ok (.if_icmp .eq 5, 3) := dec_w [0x9f, 0x00, 0x05] (pc9 (k := 1664) (j := 36) lwD_26 rfl) (by decide +kernel) rfl
theorem dL_law_1703 : decode cL_law 1703 = .ok (.iconst 0, 1) := dec_w [0x03] (pc9 (k := 1664) (j := 39) lwD_26 rfl) (by decide +kernel) rfl
theorem dL_law_1704 : decode cL_law 1704 = .ok (.ireturn, 1) := dec_w [0xac] (pc9 (k := 1664) (j := 40) lwD_26 rfl) (by decide +kernel) rfl
theorem dL_law_1705 : decode cL_law 1705 = .ok (.iload 6, 2) := dec_w [0x15, 0x06] (pc9 (k := 1664) (j := 41) lwD_26 rfl) (by decide +kernel) rfl
theorem dL_law_1707 : decode cL_law 1707 = .ok (.ifCond .ne 15, 3) := dec_w [0x9a, 0x00, 0x0f] (pc9 (k := 1664) (j := 43) lwD_26 rfl) (by decide +kernel) rfl
theorem dL_law_1710 : decode cL_law 1710 = .ok (.aload_n 3, 1) := dec_w [0x2d] (pc9 (k := 1664) (j := 46) lwD_26 rfl) (by decide +kernel) rfl
theorem dL_law_1711 : decode cL_law 1711 = .ok (.iconst 0, 1) := dec_w [0x03] (pc9 (k := 1664) (j := 47) lwD_26 rfl) (by decide +kernel) rfl
theorem dL_law_1712 : decode cL_law 1712 = .ok (.laload, 1) := dec_w [0x2f] (pc9 (k := 1664) (j := 48) lwD_26 rfl) (by decide +kernel) rfl
theorem dL_law_1713 : decode cL_law 1713 = .ok (.iload 7, 2) := dec_w [0x15, 0x07] (pc9 (k := 1664) (j := 49) lwD_26 rfl) (by decide +kernel) rfl
theorem dL_law_1715 : decode cL_law 1715 = .ok (.i2l, 1) := dec_w [0x85] (pc9 (k := 1664) (j := 51) lwD_26 rfl) (by decide +kernel) rfl
theorem dL_law_1716 : decode cL_law 1716 = .ok (.lcmp, 1) := dec_w [0x94] (pc9 (k := 1664) (j := 52) lwD_26 rfl) (by decide +kernel) rfl
theorem dL_law_1717 : decode cL_law 1717 = .ok (.ifCond .eq 5, 3) := dec_w [0x99, 0x00, 0x05] (pc9 (k := 1664) (j := 53) lwD_26 rfl) (by decide +kernel) rfl
theorem dL_law_1720 : decode cL_law 1720 = .ok (.iconst 0, 1) := dec_w [0x03] (pc9 (k := 1664) (j := 56) lwD_26 rfl) (by decide +kernel) rfl
theorem dL_law_1721 : decode cL_law 1721 = .ok (.ireturn, 1) := dec_w [0xac] (pc9 (k := 1664) (j := 57) lwD_26 rfl) (by decide +kernel) rfl
theorem dL_law_1722 : decode cL_law 1722 = .ok (.goto 2504, 3) := dec_w [0xa7, 0x09, 0xc8] (pc9 (k := 1664) (j := 58) lwD_26 rfl) (by decide +kernel) rfl
theorem dL_law_1725 : decode cL_law 1725 = .ok (.aload_n 1, 1) := dec_w [0x2b] (pc9 (k := 1664) (j := 61) lwD_26 rfl) (by decide +kernel) rfl
theorem dL_law_1726 : decode cL_law 1726 = .ok (.aload_n 0, 1) := dec_w [0x2a] (pc9 (k := 1664) (j := 62) lwD_26 rfl) (by decide +kernel) rfl
theorem dL_law_1727 : decode cL_law 1727 = .ok (.iload 5, 2) := dec_w [0x15, 0x05] (pc9 (k := 1664) (j := 63) lwD_26 rfl) (by decide +kernel) rfl
theorem dL_law_1729 : decode cL_law 1729 = .ok (.iconst 1, 1) := dec_w [0x04] (pc9 (k := 1728) (j := 1) lwD_27 rfl) (by decide +kernel) rfl
theorem dL_law_1730 : decode cL_law 1730 = .ok (.iadd, 1) := dec_w [0x60] (pc9 (k := 1728) (j := 2) lwD_27 rfl) (by decide +kernel) rfl
theorem dL_law_1731 : decode cL_law 1731 = .ok (.iaload, 1) := dec_w [0x2e] (pc9 (k := 1728) (j := 3) lwD_27 rfl) (by decide +kernel) rfl
theorem dL_law_1732 : decode cL_law 1732 = .ok (.aload_n 3, 1) := dec_w [0x2d] (pc9 (k := 1728) (j := 4) lwD_27 rfl) (by decide +kernel) rfl
theorem dL_law_1733 : decode cL_law 1733 = .ok (.invokestatic 273, 3) := dec_w [0xb8, 0x01, 0x11] (pc9 (k := 1728) (j := 5) lwD_27 rfl) (by decide +kernel) rfl
theorem dL_law_1736 : decode cL_law 1736 = .ok (.istore 6, 2) := dec_w [0x36, 0x06] (pc9 (k := 1728) (j := 8) lwD_27 rfl) (by decide +kernel) rfl
theorem dL_law_1738 : decode cL_law 1738 = .ok (.aload_n 2, 1) := dec_w [0x2c] (pc9 (k := 1728) (j := 10) lwD_27 rfl) (by decide +kernel) rfl
theorem dL_law_1739 : decode cL_law 1739 = .ok (.aload_n 0, 1) := dec_w [0x2a] (pc9 (k := 1728) (j := 11) lwD_27 rfl) (by decide +kernel) rfl
theorem dL_law_1740 : decode cL_law 1740 = .ok (.iload 5, 2) := dec_w [0x15, 0x05] (pc9 (k := 1728) (j := 12) lwD_27 rfl) (by decide +kernel) rfl
theorem dL_law_1742 : decode cL_law 1742 = .ok (.iconst 1, 1) := dec_w [0x04] (pc9 (k := 1728) (j := 14) lwD_27 rfl) (by decide +kernel) rfl
theorem dL_law_1743 : decode cL_law 1743 = .ok (.iadd, 1) := dec_w [0x60] (pc9 (k := 1728) (j := 15) lwD_27 rfl) (by decide +kernel) rfl
theorem dL_law_1744 : decode cL_law 1744 = .ok (.iaload, 1) := dec_w [0x2e] (pc9 (k := 1728) (j := 16) lwD_27 rfl) (by decide +kernel) rfl
theorem dL_law_1745 : decode cL_law 1745 = .ok (.invokevirtual 275, 3) := dec_w [0xb6, 0x01, 0x13] (pc9 (k := 1728) (j := 17) lwD_27 rfl) (by decide +kernel) rfl
theorem dL_law_1748 : decode cL_law 1748 = .ok (.istore 7, 2) := dec_w [0x36, 0x07] (pc9 (k := 1728) (j := 20) lwD_27 rfl) (by decide +kernel) rfl
theorem dL_law_1750 : decode cL_law 1750 = .ok (.aload_n 2, 1) := dec_w [0x2c] (pc9 (k := 1728) (j := 22) lwD_27 rfl) (by decide +kernel) rfl
theorem dL_law_1751 : decode cL_law 1751 = .ok (.invokevirtual 212, 3) := dec_w [0xb6, 0x00, 0xd4] (pc9 (k := 1728) (j := 23) lwD_27 rfl) (by decide +kernel) rfl
theorem dL_law_1754 : decode cL_law 1754 = .ok (.iload 6, 2) := dec_w [0x15, 0x06] (pc9 (k := 1728) (j := 26) lwD_27 rfl) (by decide +kernel) rfl
theorem dL_law_1756 : decode cL_law 1756 = .ok (.if_icmp .eq 5, 3) := dec_w [0x9f, 0x00, 0x05] (pc9 (k := 1728) (j := 28) lwD_27 rfl) (by decide +kernel) rfl
theorem dL_law_1759 : decode cL_law 1759 = .ok (.iconst 0, 1) := dec_w [0x03] (pc9 (k := 1728) (j := 31) lwD_27 rfl) (by decide +kernel) rfl
theorem dL_law_1760 : decode cL_law 1760 = .ok (.ireturn, 1) := dec_w [0xac] (pc9 (k := 1728) (j := 32) lwD_27 rfl) (by decide +kernel) rfl
theorem dL_law_1761 : decode cL_law 1761 = .ok (.iload 6, 2) := dec_w [0x15, 0x06] (pc9 (k := 1728) (j := 33) lwD_27 rfl) (by decide +kernel) rfl
theorem dL_law_1763 : decode cL_law 1763 = .ok (.ifCond .ne 15, 3) := dec_w [0x9a, 0x00, 0x0f] (pc9 (k := 1728) (j := 35) lwD_27 rfl) (by decide +kernel) rfl
theorem dL_law_1766 : decode cL_law 1766 = .ok (.aload_n 3, 1) := dec_w [0x2d] (pc9 (k := 1728) (j := 38) lwD_27 rfl) (by decide +kernel) rfl
theorem dL_law_1767 : decode cL_law 1767 = .ok (.iconst 0, 1) := dec_w [0x03] (pc9 (k := 1728) (j := 39) lwD_27 rfl) (by decide +kernel) rfl
theorem dL_law_1768 : decode cL_law 1768 = .ok (.laload, 1) := dec_w [0x2f] (pc9 (k := 1728) (j := 40) lwD_27 rfl) (by decide +kernel) rfl
theorem dL_law_1769 : decode cL_law 1769 = .ok (.iload 7, 2) := dec_w [0x15, 0x07] (pc9 (k := 1728) (j := 41) lwD_27 rfl) (by decide +kernel) rfl
theorem dL_law_1771 : decode cL_law 1771 = .ok (.i2l, 1) := dec_w [0x85] (pc9 (k := 1728) (j := 43) lwD_27 rfl) (by decide +kernel) rfl
theorem dL_law_1772 : decode cL_law 1772 = .ok (.lcmp, 1) := dec_w [0x94] (pc9 (k := 1728) (j := 44) lwD_27 rfl) (by decide +kernel) rfl
theorem dL_law_1773 : decode cL_law 1773 = .ok (.ifCond .eq 5, 3) := dec_w [0x99, 0x00, 0x05] (pc9 (k := 1728) (j := 45) lwD_27 rfl) (by decide +kernel) rfl
theorem dL_law_1776 : decode cL_law 1776 = .ok (.iconst 0, 1) := dec_w [0x03] (pc9 (k := 1728) (j := 48) lwD_27 rfl) (by decide +kernel) rfl
theorem dL_law_1777 : decode cL_law 1777 = .ok (.ireturn, 1) := dec_w [0xac] (pc9 (k := 1728) (j := 49) lwD_27 rfl) (by decide +kernel) rfl
theorem dL_law_1778 : decode cL_law 1778 = .ok (.goto 2448, 3) := dec_w [0xa7, 0x09, 0x90] (pc9 (k := 1728) (j := 50) lwD_27 rfl) (by decide +kernel) rfl
theorem dL_law_1781 : decode cL_law 1781 = .ok (.aload_n 1, 1) := dec_w [0x2b] (pc9 (k := 1728) (j := 53) lwD_27 rfl) (by decide +kernel) rfl
theorem dL_law_1782 : decode cL_law 1782 = .ok (.aload_n 0, 1) := dec_w [0x2a] (pc9 (k := 1728) (j := 54) lwD_27 rfl) (by decide +kernel) rfl
theorem dL_law_1783 : decode cL_law 1783 = .ok (.iload 5, 2) := dec_w [0x15, 0x05] (pc9 (k := 1728) (j := 55) lwD_27 rfl) (by decide +kernel) rfl
theorem dL_law_1785 : decode cL_law 1785 = .ok (.iconst 1, 1) := dec_w [0x04] (pc9 (k := 1728) (j := 57) lwD_27 rfl) (by decide +kernel) rfl
theorem dL_law_1786 : decode cL_law 1786 = .ok (.iadd, 1) := dec_w [0x60] (pc9 (k := 1728) (j := 58) lwD_27 rfl) (by decide +kernel) rfl
theorem dL_law_1787 : decode cL_law 1787 = .ok (.iaload, 1) := dec_w [0x2e] (pc9 (k := 1728) (j := 59) lwD_27 rfl) (by decide +kernel) rfl
theorem dL_law_1788 : decode cL_law 1788 = .ok (.aload_n 0, 1) := dec_w [0x2a] (pc9 (k := 1728) (j := 60) lwD_27 rfl) (by decide +kernel) rfl
theorem dL_law_1789 : decode cL_law 1789 = .ok (.iload 5, 2) := dec_w [0x15, 0x05] (pc9 (k := 1728) (j := 61) lwD_27 rfl) (by decide +kernel) rfl
theorem dL_law_1791 : decode cL_law 1791 = .ok (.iconst 2, 1) := dec_w [0x05] (pc9 (k := 1728) (j := 63) lwD_27 rfl) (by decide +kernel) rfl
theorem dL_law_1792 : decode cL_law 1792 = .ok (.iadd, 1) := dec_w [0x60] (pc9 (k := 1792) (j := 0) lwD_28 rfl) (by decide +kernel) rfl
theorem dL_law_1793 : decode cL_law 1793 = .ok (.iaload, 1) := dec_w [0x2e] (pc9 (k := 1792) (j := 1) lwD_28 rfl) (by decide +kernel) rfl
theorem dL_law_1794 : decode cL_law 1794 = .ok (.aload_n 0, 1) := dec_w [0x2a] (pc9 (k := 1792) (j := 2) lwD_28 rfl) (by decide +kernel) rfl
theorem dL_law_1795 : decode cL_law 1795 = .ok (.iload 5, 2) := dec_w [0x15, 0x05] (pc9 (k := 1792) (j := 3) lwD_28 rfl) (by decide +kernel) rfl
theorem dL_law_1797 : decode cL_law 1797 = .ok (.iconst 3, 1) := dec_w [0x06] (pc9 (k := 1792) (j := 5) lwD_28 rfl) (by decide +kernel) rfl
theorem dL_law_1798 : decode cL_law 1798 = .ok (.iadd, 1) := dec_w [0x60] (pc9 (k := 1792) (j := 6) lwD_28 rfl) (by decide +kernel) rfl
theorem dL_law_1799 : decode cL_law 1799 = .ok (.iaload, 1) := dec_w [0x2e] (pc9 (k := 1792) (j := 7) lwD_28 rfl) (by decide +kernel) rfl
theorem dL_law_1800 : decode cL_law 1800 = .ok (.aload_n 3, 1) := dec_w [0x2d] (pc9 (k := 1792) (j := 8) lwD_28 rfl) (by decide +kernel) rfl
theorem dL_law_1801 : decode cL_law 1801 = .ok (.invokestatic 276, 3) := dec_w [0xb8, 0x01, 0x14] (pc9 (k := 1792) (j := 9) lwD_28 rfl) (by decide +kernel) rfl
theorem dL_law_1804 : decode cL_law 1804 = .ok (.istore 6, 2) := dec_w [0x36, 0x06] (pc9 (k := 1792) (j := 12) lwD_28 rfl) (by decide +kernel) rfl
theorem dL_law_1806 : decode cL_law 1806 = .ok (.aload_n 2, 1) := dec_w [0x2c] (pc9 (k := 1792) (j := 14) lwD_28 rfl) (by decide +kernel) rfl
theorem dL_law_1807 : decode cL_law 1807 = .ok (.aload_n 0, 1) := dec_w [0x2a] (pc9 (k := 1792) (j := 15) lwD_28 rfl) (by decide +kernel) rfl
theorem dL_law_1808 : decode cL_law 1808 = .ok (.iload 5, 2) := dec_w [0x15, 0x05] (pc9 (k := 1792) (j := 16) lwD_28 rfl) (by decide +kernel) rfl
theorem dL_law_1810 : decode cL_law 1810 = .ok (.iconst 1, 1) := dec_w [0x04] (pc9 (k := 1792) (j := 18) lwD_28 rfl) (by decide +kernel) rfl
theorem dL_law_1811 : decode cL_law 1811 = .ok (.iadd, 1) := dec_w [0x60] (pc9 (k := 1792) (j := 19) lwD_28 rfl) (by decide +kernel) rfl
theorem dL_law_1812 : decode cL_law 1812 = .ok (.iaload, 1) := dec_w [0x2e] (pc9 (k := 1792) (j := 20) lwD_28 rfl) (by decide +kernel) rfl
theorem dL_law_1813 : decode cL_law 1813 = .ok (.aload_n 0, 1) := dec_w [0x2a] (pc9 (k := 1792) (j := 21) lwD_28 rfl) (by decide +kernel) rfl
theorem dL_law_1814 : decode cL_law 1814 = .ok (.iload 5, 2) := dec_w [0x15, 0x05] (pc9 (k := 1792) (j := 22) lwD_28 rfl) (by decide +kernel) rfl
theorem dL_law_1816 : decode cL_law 1816 = .ok (.iconst 2, 1) := dec_w [0x05] (pc9 (k := 1792) (j := 24) lwD_28 rfl) (by decide +kernel) rfl
theorem dL_law_1817 : decode cL_law 1817 = .ok (.iadd, 1) := dec_w [0x60] (pc9 (k := 1792) (j := 25) lwD_28 rfl) (by decide +kernel) rfl
theorem dL_law_1818 : decode cL_law 1818 = .ok (.iaload, 1) := dec_w [0x2e] (pc9 (k := 1792) (j := 26) lwD_28 rfl) (by decide +kernel) rfl
theorem dL_law_1819 : decode cL_law 1819 = .ok (.aload_n 0, 1) := dec_w [0x2a] (pc9 (k := 1792) (j := 27) lwD_28 rfl) (by decide +kernel) rfl
theorem dL_law_1820 : decode cL_law 1820 = .ok (.iload 5, 2) := dec_w [0x15, 0x05] (pc9 (k := 1792) (j := 28) lwD_28 rfl) (by decide +kernel) rfl
theorem dL_law_1822 : decode cL_law 1822 = .ok (.iconst 3, 1) := dec_w [0x06] (pc9 (k := 1792) (j := 30) lwD_28 rfl) (by decide +kernel) rfl
theorem dL_law_1823 : decode cL_law 1823 = .ok (.iadd, 1) := dec_w [0x60] (pc9 (k := 1792) (j := 31) lwD_28 rfl) (by decide +kernel) rfl
theorem dL_law_1824 : decode cL_law 1824 = .ok (.iaload, 1) := dec_w [0x2e] (pc9 (k := 1792) (j := 32) lwD_28 rfl) (by decide +kernel) rfl
theorem dL_law_1825 : decode cL_law 1825 = .ok (.invokevirtual 278, 3) := dec_w [0xb6, 0x01, 0x16] (pc9 (k := 1792) (j := 33) lwD_28 rfl) (by decide +kernel) rfl
theorem dL_law_1828 : decode cL_law 1828 = .ok (.istore 7, 2) := dec_w [0x36, 0x07] (pc9 (k := 1792) (j := 36) lwD_28 rfl) (by decide +kernel) rfl
theorem dL_law_1830 : decode cL_law 1830 = .ok (.aload_n 2, 1) := dec_w [0x2c] (pc9 (k := 1792) (j := 38) lwD_28 rfl) (by decide +kernel) rfl
theorem dL_law_1831 : decode cL_law 1831 = .ok (.invokevirtual 212, 3) := dec_w [0xb6, 0x00, 0xd4] (pc9 (k := 1792) (j := 39) lwD_28 rfl) (by decide +kernel) rfl
theorem dL_law_1834 : decode cL_law 1834 = .ok (.iload 6, 2) := dec_w [0x15, 0x06] (pc9 (k := 1792) (j := 42) lwD_28 rfl) (by decide +kernel) rfl
theorem dL_law_1836 : decode cL_law 1836 = .ok (.if_icmp .eq 5, 3) := dec_w [0x9f, 0x00, 0x05] (pc9 (k := 1792) (j := 44) lwD_28 rfl) (by decide +kernel) rfl
theorem dL_law_1839 : decode cL_law 1839 = .ok (.iconst 0, 1) := dec_w [0x03] (pc9 (k := 1792) (j := 47) lwD_28 rfl) (by decide +kernel) rfl
theorem dL_law_1840 : decode cL_law 1840 = .ok (.ireturn, 1) := dec_w [0xac] (pc9 (k := 1792) (j := 48) lwD_28 rfl) (by decide +kernel) rfl
theorem dL_law_1841 : decode cL_law 1841 = .ok (.iload 6, 2) := dec_w [0x15, 0x06] (pc9 (k := 1792) (j := 49) lwD_28 rfl) (by decide +kernel) rfl
theorem dL_law_1843 : decode cL_law 1843 = .ok (.ifCond .ne 15, 3) := dec_w [0x9a, 0x00, 0x0f] (pc9 (k := 1792) (j := 51) lwD_28 rfl) (by decide +kernel) rfl
theorem dL_law_1846 : decode cL_law 1846 = .ok (.aload_n 3, 1) := dec_w [0x2d] (pc9 (k := 1792) (j := 54) lwD_28 rfl) (by decide +kernel) rfl
theorem dL_law_1847 : decode cL_law 1847 = .ok (.iconst 0, 1) := dec_w [0x03] (pc9 (k := 1792) (j := 55) lwD_28 rfl) (by decide +kernel) rfl
theorem dL_law_1848 : decode cL_law 1848 = .ok (.laload, 1) := dec_w [0x2f] (pc9 (k := 1792) (j := 56) lwD_28 rfl) (by decide +kernel) rfl
theorem dL_law_1849 : decode cL_law 1849 = .ok (.iload 7, 2) := dec_w [0x15, 0x07] (pc9 (k := 1792) (j := 57) lwD_28 rfl) (by decide +kernel) rfl
theorem dL_law_1851 : decode cL_law 1851 = .ok (.i2l, 1) := dec_w [0x85] (pc9 (k := 1792) (j := 59) lwD_28 rfl) (by decide +kernel) rfl
theorem dL_law_1852 : decode cL_law 1852 = .ok (.lcmp, 1) := dec_w [0x94] (pc9 (k := 1792) (j := 60) lwD_28 rfl) (by decide +kernel) rfl
theorem dL_law_1853 : decode cL_law 1853 = .ok (.ifCond .eq 5, 3) := dec_w [0x99, 0x00, 0x05] (pc9 (k := 1792) (j := 61) lwD_28 rfl) (by decide +kernel) rfl
theorem dL_law_1856 : decode cL_law 1856 = .ok (.iconst 0, 1) := dec_w [0x03] (pc9 (k := 1856) (j := 0) lwD_29 rfl) (by decide +kernel) rfl
theorem dL_law_1857 : decode cL_law 1857 = .ok (.ireturn, 1) := dec_w [0xac] (pc9 (k := 1856) (j := 1) lwD_29 rfl) (by decide +kernel) rfl
theorem dL_law_1858 : decode cL_law 1858 = .ok (.goto 2368, 3) := dec_w [0xa7, 0x09, 0x40] (pc9 (k := 1856) (j := 2) lwD_29 rfl) (by decide +kernel) rfl
theorem dL_law_1861 : decode cL_law 1861 = .ok (.aload_n 1, 1) := dec_w [0x2b] (pc9 (k := 1856) (j := 5) lwD_29 rfl) (by decide +kernel) rfl
theorem dL_law_1862 : decode cL_law 1862 = .ok (.aload_n 0, 1) := dec_w [0x2a] (pc9 (k := 1856) (j := 6) lwD_29 rfl) (by decide +kernel) rfl
theorem dL_law_1863 : decode cL_law 1863 = .ok (.iload 5, 2) := dec_w [0x15, 0x05] (pc9 (k := 1856) (j := 7) lwD_29 rfl) (by decide +kernel) rfl
theorem dL_law_1865 : decode cL_law 1865 = .ok (.iconst 1, 1) := dec_w [0x04] (pc9 (k := 1856) (j := 9) lwD_29 rfl) (by decide +kernel) rfl
theorem dL_law_1866 : decode cL_law 1866 = .ok (.iadd, 1) := dec_w [0x60] (pc9 (k := 1856) (j := 10) lwD_29 rfl) (by decide +kernel) rfl
theorem dL_law_1867 : decode cL_law 1867 = .ok (.iaload, 1) := dec_w [0x2e] (pc9 (k := 1856) (j := 11) lwD_29 rfl) (by decide +kernel) rfl
theorem dL_law_1868 : decode cL_law 1868 = .ok (.aload_n 0, 1) := dec_w [0x2a] (pc9 (k := 1856) (j := 12) lwD_29 rfl) (by decide +kernel) rfl
theorem dL_law_1869 : decode cL_law 1869 = .ok (.iload 5, 2) := dec_w [0x15, 0x05] (pc9 (k := 1856) (j := 13) lwD_29 rfl) (by decide +kernel) rfl
theorem dL_law_1871 : decode cL_law 1871 = .ok (.iconst 2, 1) := dec_w [0x05] (pc9 (k := 1856) (j := 15) lwD_29 rfl) (by decide +kernel) rfl
theorem dL_law_1872 : decode cL_law 1872 = .ok (.iadd, 1) := dec_w [0x60] (pc9 (k := 1856) (j := 16) lwD_29 rfl) (by decide +kernel) rfl
theorem dL_law_1873 : decode cL_law 1873 = .ok (.iaload, 1) := dec_w [0x2e] (pc9 (k := 1856) (j := 17) lwD_29 rfl) (by decide +kernel) rfl
theorem dL_law_1874 : decode cL_law 1874 = .ok (.aload_n 0, 1) := dec_w [0x2a] (pc9 (k := 1856) (j := 18) lwD_29 rfl) (by decide +kernel) rfl
theorem dL_law_1875 : decode cL_law 1875 = .ok (.iload 5, 2) := dec_w [0x15, 0x05] (pc9 (k := 1856) (j := 19) lwD_29 rfl) (by decide +kernel) rfl
theorem dL_law_1877 : decode cL_law 1877 = .ok (.iconst 3, 1) := dec_w [0x06] (pc9 (k := 1856) (j := 21) lwD_29 rfl) (by decide +kernel) rfl
theorem dL_law_1878 : decode cL_law 1878 = .ok (.iadd, 1) := dec_w [0x60] (pc9 (k := 1856) (j := 22) lwD_29 rfl) (by decide +kernel) rfl
theorem dL_law_1879 : decode cL_law 1879 = .ok (.iaload, 1) := dec_w [0x2e] (pc9 (k := 1856) (j := 23) lwD_29 rfl) (by decide +kernel) rfl
theorem dL_law_1880 : decode cL_law 1880 = .ok (.aload_n 0, 1) := dec_w [0x2a] (pc9 (k := 1856) (j := 24) lwD_29 rfl) (by decide +kernel) rfl
theorem dL_law_1881 : decode cL_law 1881 = .ok (.iload 5, 2) := dec_w [0x15, 0x05] (pc9 (k := 1856) (j := 25) lwD_29 rfl) (by decide +kernel) rfl
theorem dL_law_1883 : decode cL_law 1883 = .ok (.iconst 4, 1) := dec_w [0x07] (pc9 (k := 1856) (j := 27) lwD_29 rfl) (by decide +kernel) rfl
theorem dL_law_1884 : decode cL_law 1884 = .ok (.iadd, 1) := dec_w [0x60] (pc9 (k := 1856) (j := 28) lwD_29 rfl) (by decide +kernel) rfl
theorem dL_law_1885 : decode cL_law 1885 = .ok (.iaload, 1) := dec_w [0x2e] (pc9 (k := 1856) (j := 29) lwD_29 rfl) (by decide +kernel) rfl
theorem dL_law_1886 : decode cL_law 1886 = .ok (.aload_n 3, 1) := dec_w [0x2d] (pc9 (k := 1856) (j := 30) lwD_29 rfl) (by decide +kernel) rfl
theorem dL_law_1887 : decode cL_law 1887 = .ok (.invokestatic 279, 3) := dec_w [0xb8, 0x01, 0x17] (pc9 (k := 1856) (j := 31) lwD_29 rfl) (by decide +kernel) rfl
theorem dL_law_1890 : decode cL_law 1890 = .ok (.istore 6, 2) := dec_w [0x36, 0x06] (pc9 (k := 1856) (j := 34) lwD_29 rfl) (by decide +kernel) rfl
theorem dL_law_1892 : decode cL_law 1892 = .ok (.aload_n 2, 1) := dec_w [0x2c] (pc9 (k := 1856) (j := 36) lwD_29 rfl) (by decide +kernel) rfl
theorem dL_law_1893 : decode cL_law 1893 = .ok (.aload_n 0, 1) := dec_w [0x2a] (pc9 (k := 1856) (j := 37) lwD_29 rfl) (by decide +kernel) rfl
theorem dL_law_1894 : decode cL_law 1894 = .ok (.iload 5, 2) := dec_w [0x15, 0x05] (pc9 (k := 1856) (j := 38) lwD_29 rfl) (by decide +kernel) rfl
theorem dL_law_1896 : decode cL_law 1896 = .ok (.iconst 1, 1) := dec_w [0x04] (pc9 (k := 1856) (j := 40) lwD_29 rfl) (by decide +kernel) rfl
theorem dL_law_1897 : decode cL_law 1897 = .ok (.iadd, 1) := dec_w [0x60] (pc9 (k := 1856) (j := 41) lwD_29 rfl) (by decide +kernel) rfl
theorem dL_law_1898 : decode cL_law 1898 = .ok (.iaload, 1) := dec_w [0x2e] (pc9 (k := 1856) (j := 42) lwD_29 rfl) (by decide +kernel) rfl
theorem dL_law_1899 : decode cL_law 1899 = .ok (.aload_n 0, 1) := dec_w [0x2a] (pc9 (k := 1856) (j := 43) lwD_29 rfl) (by decide +kernel) rfl
theorem dL_law_1900 : decode cL_law 1900 = .ok (.iload 5, 2) := dec_w [0x15, 0x05] (pc9 (k := 1856) (j := 44) lwD_29 rfl) (by decide +kernel) rfl
theorem dL_law_1902 : decode cL_law 1902 = .ok (.iconst 2, 1) := dec_w [0x05] (pc9 (k := 1856) (j := 46) lwD_29 rfl) (by decide +kernel) rfl
theorem dL_law_1903 : decode cL_law 1903 = .ok (.iadd, 1) := dec_w [0x60] (pc9 (k := 1856) (j := 47) lwD_29 rfl) (by decide +kernel) rfl
theorem dL_law_1904 : decode cL_law 1904 = .ok (.iaload, 1) := dec_w [0x2e] (pc9 (k := 1856) (j := 48) lwD_29 rfl) (by decide +kernel) rfl
theorem dL_law_1905 : decode cL_law 1905 = .ok (.aload_n 0, 1) := dec_w [0x2a] (pc9 (k := 1856) (j := 49) lwD_29 rfl) (by decide +kernel) rfl
theorem dL_law_1906 : decode cL_law 1906 = .ok (.iload 5, 2) := dec_w [0x15, 0x05] (pc9 (k := 1856) (j := 50) lwD_29 rfl) (by decide +kernel) rfl
theorem dL_law_1908 : decode cL_law 1908 = .ok (.iconst 3, 1) := dec_w [0x06] (pc9 (k := 1856) (j := 52) lwD_29 rfl) (by decide +kernel) rfl
theorem dL_law_1909 : decode cL_law 1909 = .ok (.iadd, 1) := dec_w [0x60] (pc9 (k := 1856) (j := 53) lwD_29 rfl) (by decide +kernel) rfl
theorem dL_law_1910 : decode cL_law 1910 = .ok (.iaload, 1) := dec_w [0x2e] (pc9 (k := 1856) (j := 54) lwD_29 rfl) (by decide +kernel) rfl
theorem dL_law_1911 : decode cL_law 1911 = .ok (.aload_n 0, 1) := dec_w [0x2a] (pc9 (k := 1856) (j := 55) lwD_29 rfl) (by decide +kernel) rfl
theorem dL_law_1912 : decode cL_law 1912 = .ok (.iload 5, 2) := dec_w [0x15, 0x05] (pc9 (k := 1856) (j := 56) lwD_29 rfl) (by decide +kernel) rfl
theorem dL_law_1914 : decode cL_law 1914 = .ok (.iconst 4, 1) := dec_w [0x07] (pc9 (k := 1856) (j := 58) lwD_29 rfl) (by decide +kernel) rfl
theorem dL_law_1915 : decode cL_law 1915 = .ok (.iadd, 1) := dec_w [0x60] (pc9 (k := 1856) (j := 59) lwD_29 rfl) (by decide +kernel) rfl
theorem dL_law_1916 : decode cL_law 1916 = .ok (.iaload, 1) := dec_w [0x2e] (pc9 (k := 1856) (j := 60) lwD_29 rfl) (by decide +kernel) rfl
theorem dL_law_1917 : decode cL_law 1917 = .ok (.invokevirtual 282, 3) := dec_w [0xb6, 0x01, 0x1a] (pc9 (k := 1856) (j := 61) lwD_29 rfl) (by decide +kernel) rfl
theorem dL_law_1920 : decode cL_law 1920 = .ok (.istore 7, 2) := dec_w [0x36, 0x07] (pc9 (k := 1920) (j := 0) lwD_30 rfl) (by decide +kernel) rfl
theorem dL_law_1922 : decode cL_law 1922 = .ok (.aload_n 2, 1) := dec_w [0x2c] (pc9 (k := 1920) (j := 2) lwD_30 rfl) (by decide +kernel) rfl
theorem dL_law_1923 : decode cL_law 1923 = .ok (.invokevirtual 212, 3) := dec_w [0xb6, 0x00, 0xd4] (pc9 (k := 1920) (j := 3) lwD_30 rfl) (by decide +kernel) rfl
theorem dL_law_1926 : decode cL_law 1926 = .ok (.iload 6, 2) := dec_w [0x15, 0x06] (pc9 (k := 1920) (j := 6) lwD_30 rfl) (by decide +kernel) rfl
theorem dL_law_1928 : decode cL_law 1928 = .ok (.if_icmp .eq 5, 3) := dec_w [0x9f, 0x00, 0x05] (pc9 (k := 1920) (j := 8) lwD_30 rfl) (by decide +kernel) rfl
theorem dL_law_1931 : decode cL_law 1931 = .ok (.iconst 0, 1) := dec_w [0x03] (pc9 (k := 1920) (j := 11) lwD_30 rfl) (by decide +kernel) rfl
theorem dL_law_1932 : decode cL_law 1932 = .ok (.ireturn, 1) := dec_w [0xac] (pc9 (k := 1920) (j := 12) lwD_30 rfl) (by decide +kernel) rfl
theorem dL_law_1933 : decode cL_law 1933 = .ok (.iload 6, 2) := dec_w [0x15, 0x06] (pc9 (k := 1920) (j := 13) lwD_30 rfl) (by decide +kernel) rfl
theorem dL_law_1935 : decode cL_law 1935 = .ok (.ifCond .ne 15, 3) := dec_w [0x9a, 0x00, 0x0f] (pc9 (k := 1920) (j := 15) lwD_30 rfl) (by decide +kernel) rfl
theorem dL_law_1938 : decode cL_law 1938 = .ok (.aload_n 3, 1) := dec_w [0x2d] (pc9 (k := 1920) (j := 18) lwD_30 rfl) (by decide +kernel) rfl
theorem dL_law_1939 : decode cL_law 1939 = .ok (.iconst 0, 1) := dec_w [0x03] (pc9 (k := 1920) (j := 19) lwD_30 rfl) (by decide +kernel) rfl
theorem dL_law_1940 : decode cL_law 1940 = .ok (.laload, 1) := dec_w [0x2f] (pc9 (k := 1920) (j := 20) lwD_30 rfl) (by decide +kernel) rfl
theorem dL_law_1941 : decode cL_law 1941 = .ok (.iload 7, 2) := dec_w [0x15, 0x07] (pc9 (k := 1920) (j := 21) lwD_30 rfl) (by decide +kernel) rfl
theorem dL_law_1943 : decode cL_law 1943 = .ok (.i2l, 1) := dec_w [0x85] (pc9 (k := 1920) (j := 23) lwD_30 rfl) (by decide +kernel) rfl
theorem dL_law_1944 : decode cL_law 1944 = .ok (.lcmp, 1) := dec_w [0x94] (pc9 (k := 1920) (j := 24) lwD_30 rfl) (by decide +kernel) rfl
theorem dL_law_1945 : decode cL_law 1945 = .ok (.ifCond .eq 5, 3) := dec_w [0x99, 0x00, 0x05] (pc9 (k := 1920) (j := 25) lwD_30 rfl) (by decide +kernel) rfl
theorem dL_law_1948 : decode cL_law 1948 = .ok (.iconst 0, 1) := dec_w [0x03] (pc9 (k := 1920) (j := 28) lwD_30 rfl) (by decide +kernel) rfl
theorem dL_law_1949 : decode cL_law 1949 = .ok (.ireturn, 1) := dec_w [0xac] (pc9 (k := 1920) (j := 29) lwD_30 rfl) (by decide +kernel) rfl
theorem dL_law_1950 : decode cL_law 1950 = .ok (.goto 2276, 3) := dec_w [0xa7, 0x08, 0xe4] (pc9 (k := 1920) (j := 30) lwD_30 rfl) (by decide +kernel) rfl
theorem dL_law_1953 : decode cL_law 1953 = .ok (.aload_n 1, 1) := dec_w [0x2b] (pc9 (k := 1920) (j := 33) lwD_30 rfl) (by decide +kernel) rfl
theorem dL_law_1954 : decode cL_law 1954 = .ok (.aload_n 0, 1) := dec_w [0x2a] (pc9 (k := 1920) (j := 34) lwD_30 rfl) (by decide +kernel) rfl
theorem dL_law_1955 : decode cL_law 1955 = .ok (.iload 5, 2) := dec_w [0x15, 0x05] (pc9 (k := 1920) (j := 35) lwD_30 rfl) (by decide +kernel) rfl
theorem dL_law_1957 : decode cL_law 1957 = .ok (.iconst 1, 1) := dec_w [0x04] (pc9 (k := 1920) (j := 37) lwD_30 rfl) (by decide +kernel) rfl
theorem dL_law_1958 : decode cL_law 1958 = .ok (.iadd, 1) := dec_w [0x60] (pc9 (k := 1920) (j := 38) lwD_30 rfl) (by decide +kernel) rfl
theorem dL_law_1959 : decode cL_law 1959 = .ok (.iaload, 1) := dec_w [0x2e] (pc9 (k := 1920) (j := 39) lwD_30 rfl) (by decide +kernel) rfl
theorem dL_law_1960 : decode cL_law 1960 = .ok (.aload_n 0, 1) := dec_w [0x2a] (pc9 (k := 1920) (j := 40) lwD_30 rfl) (by decide +kernel) rfl
theorem dL_law_1961 : decode cL_law 1961 = .ok (.iload 5, 2) := dec_w [0x15, 0x05] (pc9 (k := 1920) (j := 41) lwD_30 rfl) (by decide +kernel) rfl
theorem dL_law_1963 : decode cL_law 1963 = .ok (.iconst 2, 1) := dec_w [0x05] (pc9 (k := 1920) (j := 43) lwD_30 rfl) (by decide +kernel) rfl
theorem dL_law_1964 : decode cL_law 1964 = .ok (.iadd, 1) := dec_w [0x60] (pc9 (k := 1920) (j := 44) lwD_30 rfl) (by decide +kernel) rfl
theorem dL_law_1965 : decode cL_law 1965 = .ok (.iaload, 1) := dec_w [0x2e] (pc9 (k := 1920) (j := 45) lwD_30 rfl) (by decide +kernel) rfl
theorem dL_law_1966 : decode cL_law 1966 = .ok (.aload_n 3, 1) := dec_w [0x2d] (pc9 (k := 1920) (j := 46) lwD_30 rfl) (by decide +kernel) rfl
theorem dL_law_1967 : decode cL_law 1967 = .ok (.invokestatic 283, 3) := dec_w [0xb8, 0x01, 0x1b] (pc9 (k := 1920) (j := 47) lwD_30 rfl) (by decide +kernel) rfl
theorem dL_law_1970 : decode cL_law 1970 = .ok (.istore 6, 2) := dec_w [0x36, 0x06] (pc9 (k := 1920) (j := 50) lwD_30 rfl) (by decide +kernel) rfl
theorem dL_law_1972 : decode cL_law 1972 = .ok (.aload_n 2, 1) := dec_w [0x2c] (pc9 (k := 1920) (j := 52) lwD_30 rfl) (by decide +kernel) rfl
theorem dL_law_1973 : decode cL_law 1973 = .ok (.aload_n 0, 1) := dec_w [0x2a] (pc9 (k := 1920) (j := 53) lwD_30 rfl) (by decide +kernel) rfl
theorem dL_law_1974 : decode cL_law 1974 = .ok (.iload 5, 2) := dec_w [0x15, 0x05] (pc9 (k := 1920) (j := 54) lwD_30 rfl) (by decide +kernel) rfl
theorem dL_law_1976 : decode cL_law 1976 = .ok (.iconst 1, 1) := dec_w [0x04] (pc9 (k := 1920) (j := 56) lwD_30 rfl) (by decide +kernel) rfl
theorem dL_law_1977 : decode cL_law 1977 = .ok (.iadd, 1) := dec_w [0x60] (pc9 (k := 1920) (j := 57) lwD_30 rfl) (by decide +kernel) rfl
theorem dL_law_1978 : decode cL_law 1978 = .ok (.iaload, 1) := dec_w [0x2e] (pc9 (k := 1920) (j := 58) lwD_30 rfl) (by decide +kernel) rfl
theorem dL_law_1979 : decode cL_law 1979 = .ok (.aload_n 0, 1) := dec_w [0x2a] (pc9 (k := 1920) (j := 59) lwD_30 rfl) (by decide +kernel) rfl
theorem dL_law_1980 : decode cL_law 1980 = .ok (.iload 5, 2) := dec_w [0x15, 0x05] (pc9 (k := 1920) (j := 60) lwD_30 rfl) (by decide +kernel) rfl
theorem dL_law_1982 : decode cL_law 1982 = .ok (.iconst 2, 1) := dec_w [0x05] (pc9 (k := 1920) (j := 62) lwD_30 rfl) (by decide +kernel) rfl
theorem dL_law_1983 : decode cL_law 1983 = .ok (.iadd, 1) := dec_w [0x60] (pc9 (k := 1920) (j := 63) lwD_30 rfl) (by decide +kernel) rfl
theorem dL_law_1984 : decode cL_law 1984 = .ok (.iaload, 1) := dec_w [0x2e] (pc9 (k := 1984) (j := 0) lwD_31 rfl) (by decide +kernel) rfl
theorem dL_law_1985 : decode cL_law 1985 = .ok (.invokevirtual 285, 3) := dec_w [0xb6, 0x01, 0x1d] (pc9 (k := 1984) (j := 1) lwD_31 rfl) (by decide +kernel) rfl
theorem dL_law_1988 : decode cL_law 1988 = .ok (.istore 7, 2) := dec_w [0x36, 0x07] (pc9 (k := 1984) (j := 4) lwD_31 rfl) (by decide +kernel) rfl
theorem dL_law_1990 : decode cL_law 1990 = .ok (.aload_n 2, 1) := dec_w [0x2c] (pc9 (k := 1984) (j := 6) lwD_31 rfl) (by decide +kernel) rfl
theorem dL_law_1991 : decode cL_law 1991 = .ok (.invokevirtual 212, 3) := dec_w [0xb6, 0x00, 0xd4] (pc9 (k := 1984) (j := 7) lwD_31 rfl) (by decide +kernel) rfl
theorem dL_law_1994 : decode cL_law 1994 = .ok (.iload 6, 2) := dec_w [0x15, 0x06] (pc9 (k := 1984) (j := 10) lwD_31 rfl) (by decide +kernel) rfl
theorem dL_law_1996 : decode cL_law 1996 = .ok (.if_icmp .eq 5, 3) := dec_w [0x9f, 0x00, 0x05] (pc9 (k := 1984) (j := 12) lwD_31 rfl) (by decide +kernel) rfl
theorem dL_law_1999 : decode cL_law 1999 = .ok (.iconst 0, 1) := dec_w [0x03] (pc9 (k := 1984) (j := 15) lwD_31 rfl) (by decide +kernel) rfl
theorem dL_law_2000 : decode cL_law 2000 = .ok (.ireturn, 1) := dec_w [0xac] (pc9 (k := 1984) (j := 16) lwD_31 rfl) (by decide +kernel) rfl
theorem dL_law_2001 : decode cL_law 2001 = .ok (.iload 6, 2) := dec_w [0x15, 0x06] (pc9 (k := 1984) (j := 17) lwD_31 rfl) (by decide +kernel) rfl
theorem dL_law_2003 : decode cL_law 2003 = .ok (.ifCond .ne 15, 3) := dec_w [0x9a, 0x00, 0x0f] (pc9 (k := 1984) (j := 19) lwD_31 rfl) (by decide +kernel) rfl
theorem dL_law_2006 : decode cL_law 2006 = .ok (.aload_n 3, 1) := dec_w [0x2d] (pc9 (k := 1984) (j := 22) lwD_31 rfl) (by decide +kernel) rfl
theorem dL_law_2007 : decode cL_law 2007 = .ok (.iconst 0, 1) := dec_w [0x03] (pc9 (k := 1984) (j := 23) lwD_31 rfl) (by decide +kernel) rfl
theorem dL_law_2008 : decode cL_law 2008 = .ok (.laload, 1) := dec_w [0x2f] (pc9 (k := 1984) (j := 24) lwD_31 rfl) (by decide +kernel) rfl
theorem dL_law_2009 : decode cL_law 2009 = .ok (.iload 7, 2) := dec_w [0x15, 0x07] (pc9 (k := 1984) (j := 25) lwD_31 rfl) (by decide +kernel) rfl
theorem dL_law_2011 : decode cL_law 2011 = .ok (.i2l, 1) := dec_w [0x85] (pc9 (k := 1984) (j := 27) lwD_31 rfl) (by decide +kernel) rfl
theorem dL_law_2012 : decode cL_law 2012 = .ok (.lcmp, 1) := dec_w [0x94] (pc9 (k := 1984) (j := 28) lwD_31 rfl) (by decide +kernel) rfl
theorem dL_law_2013 : decode cL_law 2013 = .ok (.ifCond .eq 5, 3) := dec_w [0x99, 0x00, 0x05] (pc9 (k := 1984) (j := 29) lwD_31 rfl) (by decide +kernel) rfl
theorem dL_law_2016 : decode cL_law 2016 = .ok (.iconst 0, 1) := dec_w [0x03] (pc9 (k := 1984) (j := 32) lwD_31 rfl) (by decide +kernel) rfl
theorem dL_law_2017 : decode cL_law 2017 = .ok (.ireturn, 1) := dec_w [0xac] (pc9 (k := 1984) (j := 33) lwD_31 rfl) (by decide +kernel) rfl
theorem dL_law_2018 : decode cL_law 2018 = .ok (.goto 2208, 3) := dec_w [0xa7, 0x08, 0xa0] (pc9 (k := 1984) (j := 34) lwD_31 rfl) (by decide +kernel) rfl
theorem dL_law_2021 : decode cL_law 2021 = .ok (.aload_n 1, 1) := dec_w [0x2b] (pc9 (k := 1984) (j := 37) lwD_31 rfl) (by decide +kernel) rfl
theorem dL_law_2022 : decode cL_law 2022 = .ok (.aload_n 0, 1) := dec_w [0x2a] (pc9 (k := 1984) (j := 38) lwD_31 rfl) (by decide +kernel) rfl
theorem dL_law_2023 : decode cL_law 2023 = .ok (.iload 5, 2) := dec_w [0x15, 0x05] (pc9 (k := 1984) (j := 39) lwD_31 rfl) (by decide +kernel) rfl
theorem dL_law_2025 : decode cL_law 2025 = .ok (.iconst 1, 1) := dec_w [0x04] (pc9 (k := 1984) (j := 41) lwD_31 rfl) (by decide +kernel) rfl
theorem dL_law_2026 : decode cL_law 2026 = .ok (.iadd, 1) := dec_w [0x60] (pc9 (k := 1984) (j := 42) lwD_31 rfl) (by decide +kernel) rfl
theorem dL_law_2027 : decode cL_law 2027 = .ok (.iaload, 1) := dec_w [0x2e] (pc9 (k := 1984) (j := 43) lwD_31 rfl) (by decide +kernel) rfl
theorem dL_law_2028 : decode cL_law 2028 = .ok (.aload_n 3, 1) := dec_w [0x2d] (pc9 (k := 1984) (j := 44) lwD_31 rfl) (by decide +kernel) rfl
theorem dL_law_2029 : decode cL_law 2029 = .ok (.invokestatic 286, 3) := dec_w [0xb8, 0x01, 0x1e] (pc9 (k := 1984) (j := 45) lwD_31 rfl) (by decide +kernel) rfl
theorem dL_law_2032 : decode cL_law 2032 = .ok (.istore 6, 2) := dec_w [0x36, 0x06] (pc9 (k := 1984) (j := 48) lwD_31 rfl) (by decide +kernel) rfl
theorem dL_law_2034 : decode cL_law 2034 = .ok (.aload_n 2, 1) := dec_w [0x2c] (pc9 (k := 1984) (j := 50) lwD_31 rfl) (by decide +kernel) rfl
theorem dL_law_2035 : decode cL_law 2035 = .ok (.aload_n 0, 1) := dec_w [0x2a] (pc9 (k := 1984) (j := 51) lwD_31 rfl) (by decide +kernel) rfl
theorem dL_law_2036 : decode cL_law 2036 = .ok (.iload 5, 2) := dec_w [0x15, 0x05] (pc9 (k := 1984) (j := 52) lwD_31 rfl) (by decide +kernel) rfl
theorem dL_law_2038 : decode cL_law 2038 = .ok (.iconst 1, 1) := dec_w [0x04] (pc9 (k := 1984) (j := 54) lwD_31 rfl) (by decide +kernel) rfl
theorem dL_law_2039 : decode cL_law 2039 = .ok (.iadd, 1) := dec_w [0x60] (pc9 (k := 1984) (j := 55) lwD_31 rfl) (by decide +kernel) rfl
theorem dL_law_2040 : decode cL_law 2040 = .ok (.iaload, 1) := dec_w [0x2e] (pc9 (k := 1984) (j := 56) lwD_31 rfl) (by decide +kernel) rfl
theorem dL_law_2041 : decode cL_law 2041 = .ok (.invokevirtual 288, 3) := dec_w [0xb6, 0x01, 0x20] (pc9 (k := 1984) (j := 57) lwD_31 rfl) (by decide +kernel) rfl
theorem dL_law_2044 : decode cL_law 2044 = .ok (.istore 7, 2) := dec_w [0x36, 0x07] (pc9 (k := 1984) (j := 60) lwD_31 rfl) (by decide +kernel) rfl
theorem dL_law_2046 : decode cL_law 2046 = .ok (.aload_n 2, 1) := dec_w [0x2c] (pc9 (k := 1984) (j := 62) lwD_31 rfl) (by decide +kernel) rfl
theorem dL_law_2047 : decode cL_law 2047 = .ok (.invokevirtual 212, 3) := dec_w [0xb6, 0x00, 0xd4] (pc9 (k := 1984) (j := 63) lwD_31 rfl) (by decide +kernel) rfl
theorem dL_law_2050 : decode cL_law 2050 = .ok (.iload 6, 2) := dec_w [0x15, 0x06] (pc9 (k := 2048) (j := 2) lwD_32 rfl) (by decide +kernel) rfl
theorem dL_law_2052 : decode cL_law 2052 = .ok (.if_icmp .eq 5, 3) := dec_w [0x9f, 0x00, 0x05] (pc9 (k := 2048) (j := 4) lwD_32 rfl) (by decide +kernel) rfl
theorem dL_law_2055 : decode cL_law 2055 = .ok (.iconst 0, 1) := dec_w [0x03] (pc9 (k := 2048) (j := 7) lwD_32 rfl) (by decide +kernel) rfl
theorem dL_law_2056 : decode cL_law 2056 = .ok (.ireturn, 1) := dec_w [0xac] (pc9 (k := 2048) (j := 8) lwD_32 rfl) (by decide +kernel) rfl
theorem dL_law_2057 : decode cL_law 2057 = .ok (.iload 6, 2) := dec_w [0x15, 0x06] (pc9 (k := 2048) (j := 9) lwD_32 rfl) (by decide +kernel) rfl
theorem dL_law_2059 : decode cL_law 2059 = .ok (.ifCond .ne 15, 3) := dec_w [0x9a, 0x00, 0x0f] (pc9 (k := 2048) (j := 11) lwD_32 rfl) (by decide +kernel) rfl
theorem dL_law_2062 : decode cL_law 2062 = .ok (.aload_n 3, 1) := dec_w [0x2d] (pc9 (k := 2048) (j := 14) lwD_32 rfl) (by decide +kernel) rfl
theorem dL_law_2063 : decode cL_law 2063 = .ok (.iconst 0, 1) := dec_w [0x03] (pc9 (k := 2048) (j := 15) lwD_32 rfl) (by decide +kernel) rfl
theorem dL_law_2064 : decode cL_law 2064 = .ok (.laload, 1) := dec_w [0x2f] (pc9 (k := 2048) (j := 16) lwD_32 rfl) (by decide +kernel) rfl
theorem dL_law_2065 : decode cL_law 2065 = .ok (.iload 7, 2) := dec_w [0x15, 0x07] (pc9 (k := 2048) (j := 17) lwD_32 rfl) (by decide +kernel) rfl
theorem dL_law_2067 : decode cL_law 2067 = .ok (.i2l, 1) := dec_w [0x85] (pc9 (k := 2048) (j := 19) lwD_32 rfl) (by decide +kernel) rfl
theorem dL_law_2068 : decode cL_law 2068 = .ok (.lcmp, 1) := dec_w [0x94] (pc9 (k := 2048) (j := 20) lwD_32 rfl) (by decide +kernel) rfl
theorem dL_law_2069 : decode cL_law 2069 = .ok (.ifCond .eq 5, 3) := dec_w [0x99, 0x00, 0x05] (pc9 (k := 2048) (j := 21) lwD_32 rfl) (by decide +kernel) rfl
theorem dL_law_2072 : decode cL_law 2072 = .ok (.iconst 0, 1) := dec_w [0x03] (pc9 (k := 2048) (j := 24) lwD_32 rfl) (by decide +kernel) rfl
theorem dL_law_2073 : decode cL_law 2073 = .ok (.ireturn, 1) := dec_w [0xac] (pc9 (k := 2048) (j := 25) lwD_32 rfl) (by decide +kernel) rfl
theorem dL_law_2074 : decode cL_law 2074 = .ok (.goto 2152, 3) := dec_w [0xa7, 0x08, 0x68] (pc9 (k := 2048) (j := 26) lwD_32 rfl) (by decide +kernel) rfl
theorem dL_law_2077 : decode cL_law 2077 = .ok (.aload_n 1, 1) := dec_w [0x2b] (pc9 (k := 2048) (j := 29) lwD_32 rfl) (by decide +kernel) rfl
theorem dL_law_2078 : decode cL_law 2078 = .ok (.aload_n 0, 1) := dec_w [0x2a] (pc9 (k := 2048) (j := 30) lwD_32 rfl) (by decide +kernel) rfl
theorem dL_law_2079 : decode cL_law 2079 = .ok (.iload 5, 2) := dec_w [0x15, 0x05] (pc9 (k := 2048) (j := 31) lwD_32 rfl) (by decide +kernel) rfl
theorem dL_law_2081 : decode cL_law 2081 = .ok (.iconst 1, 1) := dec_w [0x04] (pc9 (k := 2048) (j := 33) lwD_32 rfl) (by decide +kernel) rfl
theorem dL_law_2082 : decode cL_law 2082 = .ok (.iadd, 1) := dec_w [0x60] (pc9 (k := 2048) (j := 34) lwD_32 rfl) (by decide +kernel) rfl
theorem dL_law_2083 : decode cL_law 2083 = .ok (.iaload, 1) := dec_w [0x2e] (pc9 (k := 2048) (j := 35) lwD_32 rfl) (by decide +kernel) rfl
theorem dL_law_2084 : decode cL_law 2084 = .ok (.aload_n 0, 1) := dec_w [0x2a] (pc9 (k := 2048) (j := 36) lwD_32 rfl) (by decide +kernel) rfl
theorem dL_law_2085 : decode cL_law 2085 = .ok (.iload 5, 2) := dec_w [0x15, 0x05] (pc9 (k := 2048) (j := 37) lwD_32 rfl) (by decide +kernel) rfl
theorem dL_law_2087 : decode cL_law 2087 = .ok (.iconst 2, 1) := dec_w [0x05] (pc9 (k := 2048) (j := 39) lwD_32 rfl) (by decide +kernel) rfl
theorem dL_law_2088 : decode cL_law 2088 = .ok (.iadd, 1) := dec_w [0x60] (pc9 (k := 2048) (j := 40) lwD_32 rfl) (by decide +kernel) rfl
theorem dL_law_2089 : decode cL_law 2089 = .ok (.iaload, 1) := dec_w [0x2e] (pc9 (k := 2048) (j := 41) lwD_32 rfl) (by decide +kernel) rfl
theorem dL_law_2090 : decode cL_law 2090 = .ok (.aload_n 3, 1) := dec_w [0x2d] (pc9 (k := 2048) (j := 42) lwD_32 rfl) (by decide +kernel) rfl
theorem dL_law_2091 : decode cL_law 2091 = .ok (.invokestatic 289, 3) := dec_w [0xb8, 0x01, 0x21] (pc9 (k := 2048) (j := 43) lwD_32 rfl) (by decide +kernel) rfl
theorem dL_law_2094 : decode cL_law 2094 = .ok (.istore 6, 2) := dec_w [0x36, 0x06] (pc9 (k := 2048) (j := 46) lwD_32 rfl) (by decide +kernel) rfl
theorem dL_law_2096 : decode cL_law 2096 = .ok (.aload_n 2, 1) := dec_w [0x2c] (pc9 (k := 2048) (j := 48) lwD_32 rfl) (by decide +kernel) rfl
theorem dL_law_2097 : decode cL_law 2097 = .ok (.aload_n 0, 1) := dec_w [0x2a] (pc9 (k := 2048) (j := 49) lwD_32 rfl) (by decide +kernel) rfl
theorem dL_law_2098 : decode cL_law 2098 = .ok (.iload 5, 2) := dec_w [0x15, 0x05] (pc9 (k := 2048) (j := 50) lwD_32 rfl) (by decide +kernel) rfl
theorem dL_law_2100 : decode cL_law 2100 = .ok (.iconst 1, 1) := dec_w [0x04] (pc9 (k := 2048) (j := 52) lwD_32 rfl) (by decide +kernel) rfl
theorem dL_law_2101 : decode cL_law 2101 = .ok (.iadd, 1) := dec_w [0x60] (pc9 (k := 2048) (j := 53) lwD_32 rfl) (by decide +kernel) rfl
theorem dL_law_2102 : decode cL_law 2102 = .ok (.iaload, 1) := dec_w [0x2e] (pc9 (k := 2048) (j := 54) lwD_32 rfl) (by decide +kernel) rfl
theorem dL_law_2103 : decode cL_law 2103 = .ok (.aload_n 0, 1) := dec_w [0x2a] (pc9 (k := 2048) (j := 55) lwD_32 rfl) (by decide +kernel) rfl
theorem dL_law_2104 : decode cL_law 2104 = .ok (.iload 5, 2) := dec_w [0x15, 0x05] (pc9 (k := 2048) (j := 56) lwD_32 rfl) (by decide +kernel) rfl
theorem dL_law_2106 : decode cL_law 2106 = .ok (.iconst 2, 1) := dec_w [0x05] (pc9 (k := 2048) (j := 58) lwD_32 rfl) (by decide +kernel) rfl
theorem dL_law_2107 : decode cL_law 2107 = .ok (.iadd, 1) := dec_w [0x60] (pc9 (k := 2048) (j := 59) lwD_32 rfl) (by decide +kernel) rfl
theorem dL_law_2108 : decode cL_law 2108 = .ok (.iaload, 1) := dec_w [0x2e] (pc9 (k := 2048) (j := 60) lwD_32 rfl) (by decide +kernel) rfl
theorem dL_law_2109 : decode cL_law 2109 = .ok (.invokevirtual 291, 3) := dec_w [0xb6, 0x01, 0x23] (pc9 (k := 2048) (j := 61) lwD_32 rfl) (by decide +kernel) rfl
theorem dL_law_2112 : decode cL_law 2112 = .ok (.istore 7, 2) := dec_w [0x36, 0x07] (pc9 (k := 2112) (j := 0) lwD_33 rfl) (by decide +kernel) rfl
theorem dL_law_2114 : decode cL_law 2114 = .ok (.aload_n 2, 1) := dec_w [0x2c] (pc9 (k := 2112) (j := 2) lwD_33 rfl) (by decide +kernel) rfl
theorem dL_law_2115 : decode cL_law 2115 = .ok (.invokevirtual 212, 3) := dec_w [0xb6, 0x00, 0xd4] (pc9 (k := 2112) (j := 3) lwD_33 rfl) (by decide +kernel) rfl
theorem dL_law_2118 : decode cL_law 2118 = .ok (.iload 6, 2) := dec_w [0x15, 0x06] (pc9 (k := 2112) (j := 6) lwD_33 rfl) (by decide +kernel) rfl
theorem dL_law_2120 : decode cL_law 2120 = .ok (.if_icmp .eq 5, 3) := dec_w [0x9f, 0x00, 0x05] (pc9 (k := 2112) (j := 8) lwD_33 rfl) (by decide +kernel) rfl
theorem dL_law_2123 : decode cL_law 2123 = .ok (.iconst 0, 1) := dec_w [0x03] (pc9 (k := 2112) (j := 11) lwD_33 rfl) (by decide +kernel) rfl
theorem dL_law_2124 : decode cL_law 2124 = .ok (.ireturn, 1) := dec_w [0xac] (pc9 (k := 2112) (j := 12) lwD_33 rfl) (by decide +kernel) rfl
theorem dL_law_2125 : decode cL_law 2125 = .ok (.iload 6, 2) := dec_w [0x15, 0x06] (pc9 (k := 2112) (j := 13) lwD_33 rfl) (by decide +kernel) rfl
theorem dL_law_2127 : decode cL_law 2127 = .ok (.ifCond .ne 15, 3) := dec_w [0x9a, 0x00, 0x0f] (pc9 (k := 2112) (j := 15) lwD_33 rfl) (by decide +kernel) rfl
theorem dL_law_2130 : decode cL_law 2130 = .ok (.aload_n 3, 1) := dec_w [0x2d] (pc9 (k := 2112) (j := 18) lwD_33 rfl) (by decide +kernel) rfl
theorem dL_law_2131 : decode cL_law 2131 = .ok (.iconst 0, 1) := dec_w [0x03] (pc9 (k := 2112) (j := 19) lwD_33 rfl) (by decide +kernel) rfl
theorem dL_law_2132 : decode cL_law 2132 = .ok (.laload, 1) := dec_w [0x2f] (pc9 (k := 2112) (j := 20) lwD_33 rfl) (by decide +kernel) rfl
theorem dL_law_2133 : decode cL_law 2133 = .ok (.iload 7, 2) := dec_w [0x15, 0x07] (pc9 (k := 2112) (j := 21) lwD_33 rfl) (by decide +kernel) rfl
theorem dL_law_2135 : decode cL_law 2135 = .ok (.i2l, 1) := dec_w [0x85] (pc9 (k := 2112) (j := 23) lwD_33 rfl) (by decide +kernel) rfl
theorem dL_law_2136 : decode cL_law 2136 = .ok (.lcmp, 1) := dec_w [0x94] (pc9 (k := 2112) (j := 24) lwD_33 rfl) (by decide +kernel) rfl
theorem dL_law_2137 : decode cL_law 2137 = .ok (.ifCond .eq 5, 3) := dec_w [0x99, 0x00, 0x05] (pc9 (k := 2112) (j := 25) lwD_33 rfl) (by decide +kernel) rfl
theorem dL_law_2140 : decode cL_law 2140 = .ok (.iconst 0, 1) := dec_w [0x03] (pc9 (k := 2112) (j := 28) lwD_33 rfl) (by decide +kernel) rfl
theorem dL_law_2141 : decode cL_law 2141 = .ok (.ireturn, 1) := dec_w [0xac] (pc9 (k := 2112) (j := 29) lwD_33 rfl) (by decide +kernel) rfl
theorem dL_law_2142 : decode cL_law 2142 = .ok (.goto 2084, 3) := dec_w [0xa7, 0x08, 0x24] (pc9 (k := 2112) (j := 30) lwD_33 rfl) (by decide +kernel) rfl
theorem dL_law_2145 : decode cL_law 2145 = .ok (.aload_n 1, 1) := dec_w [0x2b] (pc9 (k := 2112) (j := 33) lwD_33 rfl) (by decide +kernel) rfl
theorem dL_law_2146 : decode cL_law 2146 = .ok (.aload_n 0, 1) := dec_w [0x2a] (pc9 (k := 2112) (j := 34) lwD_33 rfl) (by decide +kernel) rfl
theorem dL_law_2147 : decode cL_law 2147 = .ok (.iload 5, 2) := dec_w [0x15, 0x05] (pc9 (k := 2112) (j := 35) lwD_33 rfl) (by decide +kernel) rfl
theorem dL_law_2149 : decode cL_law 2149 = .ok (.iconst 1, 1) := dec_w [0x04] (pc9 (k := 2112) (j := 37) lwD_33 rfl) (by decide +kernel) rfl
theorem dL_law_2150 : decode cL_law 2150 = .ok (.iadd, 1) := dec_w [0x60] (pc9 (k := 2112) (j := 38) lwD_33 rfl) (by decide +kernel) rfl
theorem dL_law_2151 : decode cL_law 2151 = .ok (.iaload, 1) := dec_w [0x2e] (pc9 (k := 2112) (j := 39) lwD_33 rfl) (by decide +kernel) rfl
theorem dL_law_2152 : decode cL_law 2152 = .ok (.aload_n 0, 1) := dec_w [0x2a] (pc9 (k := 2112) (j := 40) lwD_33 rfl) (by decide +kernel) rfl
theorem dL_law_2153 : decode cL_law 2153 = .ok (.iload 5, 2) := dec_w [0x15, 0x05] (pc9 (k := 2112) (j := 41) lwD_33 rfl) (by decide +kernel) rfl
theorem dL_law_2155 : decode cL_law 2155 = .ok (.iconst 2, 1) := dec_w [0x05] (pc9 (k := 2112) (j := 43) lwD_33 rfl) (by decide +kernel) rfl
theorem dL_law_2156 : decode cL_law 2156 = .ok (.iadd, 1) := dec_w [0x60] (pc9 (k := 2112) (j := 44) lwD_33 rfl) (by decide +kernel) rfl
theorem dL_law_2157 : decode cL_law 2157 = .ok (.iaload, 1) := dec_w [0x2e] (pc9 (k := 2112) (j := 45) lwD_33 rfl) (by decide +kernel) rfl
theorem dL_law_2158 : decode cL_law 2158 = .ok (.aload_n 0, 1) := dec_w [0x2a] (pc9 (k := 2112) (j := 46) lwD_33 rfl) (by decide +kernel) rfl
theorem dL_law_2159 : decode cL_law 2159 = .ok (.iload 5, 2) := dec_w [0x15, 0x05] (pc9 (k := 2112) (j := 47) lwD_33 rfl) (by decide +kernel) rfl
theorem dL_law_2161 : decode cL_law 2161 = .ok (.iconst 3, 1) := dec_w [0x06] (pc9 (k := 2112) (j := 49) lwD_33 rfl) (by decide +kernel) rfl
theorem dL_law_2162 : decode cL_law 2162 = .ok (.iadd, 1) := dec_w [0x60] (pc9 (k := 2112) (j := 50) lwD_33 rfl) (by decide +kernel) rfl
theorem dL_law_2163 : decode cL_law 2163 = .ok (.iaload, 1) := dec_w [0x2e] (pc9 (k := 2112) (j := 51) lwD_33 rfl) (by decide +kernel) rfl
theorem dL_law_2164 : decode cL_law 2164 = .ok (.aload_n 3, 1) := dec_w [0x2d] (pc9 (k := 2112) (j := 52) lwD_33 rfl) (by decide +kernel) rfl
theorem dL_law_2165 : decode cL_law 2165 = .ok (.invokestatic 292, 3) := dec_w [0xb8, 0x01, 0x24] (pc9 (k := 2112) (j := 53) lwD_33 rfl) (by decide +kernel) rfl
theorem dL_law_2168 : decode cL_law 2168 = .ok (.istore 6, 2) := dec_w [0x36, 0x06] (pc9 (k := 2112) (j := 56) lwD_33 rfl) (by decide +kernel) rfl
theorem dL_law_2170 : decode cL_law 2170 = .ok (.aload_n 2, 1) := dec_w [0x2c] (pc9 (k := 2112) (j := 58) lwD_33 rfl) (by decide +kernel) rfl
theorem dL_law_2171 : decode cL_law 2171 = .ok (.aload_n 0, 1) := dec_w [0x2a] (pc9 (k := 2112) (j := 59) lwD_33 rfl) (by decide +kernel) rfl
theorem dL_law_2172 : decode cL_law 2172 = .ok (.iload 5, 2) := dec_w [0x15, 0x05] (pc9 (k := 2112) (j := 60) lwD_33 rfl) (by decide +kernel) rfl
theorem dL_law_2174 : decode cL_law 2174 = .ok (.iconst 1, 1) := dec_w [0x04] (pc9 (k := 2112) (j := 62) lwD_33 rfl) (by decide +kernel) rfl
theorem dL_law_2175 : decode cL_law 2175 = .ok (.iadd, 1) := dec_w [0x60] (pc9 (k := 2112) (j := 63) lwD_33 rfl) (by decide +kernel) rfl
theorem dL_law_2176 : decode cL_law 2176 = .ok (.iaload, 1) := dec_w [0x2e] (pc9 (k := 2176) (j := 0) lwD_34 rfl) (by decide +kernel) rfl
theorem dL_law_2177 : decode cL_law 2177 = .ok (.aload_n 0, 1) := dec_w [0x2a] (pc9 (k := 2176) (j := 1) lwD_34 rfl) (by decide +kernel) rfl
theorem dL_law_2178 : decode cL_law 2178 = .ok (.iload 5, 2) := dec_w [0x15, 0x05] (pc9 (k := 2176) (j := 2) lwD_34 rfl) (by decide +kernel) rfl
theorem dL_law_2180 : decode cL_law 2180 = .ok (.iconst 2, 1) := dec_w [0x05] (pc9 (k := 2176) (j := 4) lwD_34 rfl) (by decide +kernel) rfl
theorem dL_law_2181 : decode cL_law 2181 = .ok (.iadd, 1) := dec_w [0x60] (pc9 (k := 2176) (j := 5) lwD_34 rfl) (by decide +kernel) rfl
theorem dL_law_2182 : decode cL_law 2182 = .ok (.iaload, 1) := dec_w [0x2e] (pc9 (k := 2176) (j := 6) lwD_34 rfl) (by decide +kernel) rfl
theorem dL_law_2183 : decode cL_law 2183 = .ok (.aload_n 0, 1) := dec_w [0x2a] (pc9 (k := 2176) (j := 7) lwD_34 rfl) (by decide +kernel) rfl
theorem dL_law_2184 : decode cL_law 2184 = .ok (.iload 5, 2) := dec_w [0x15, 0x05] (pc9 (k := 2176) (j := 8) lwD_34 rfl) (by decide +kernel) rfl
theorem dL_law_2186 : decode cL_law 2186 = .ok (.iconst 3, 1) := dec_w [0x06] (pc9 (k := 2176) (j := 10) lwD_34 rfl) (by decide +kernel) rfl
theorem dL_law_2187 : decode cL_law 2187 = .ok (.iadd, 1) := dec_w [0x60] (pc9 (k := 2176) (j := 11) lwD_34 rfl) (by decide +kernel) rfl
theorem dL_law_2188 : decode cL_law 2188 = .ok (.iaload, 1) := dec_w [0x2e] (pc9 (k := 2176) (j := 12) lwD_34 rfl) (by decide +kernel) rfl
theorem dL_law_2189 : decode cL_law 2189 = .ok (.invokevirtual 294, 3) := dec_w [0xb6, 0x01, 0x26] (pc9 (k := 2176) (j := 13) lwD_34 rfl) (by decide +kernel) rfl
theorem dL_law_2192 : decode cL_law 2192 = .ok (.istore 7, 2) := dec_w [0x36, 0x07] (pc9 (k := 2176) (j := 16) lwD_34 rfl) (by decide +kernel) rfl
theorem dL_law_2194 : decode cL_law 2194 = .ok (.aload_n 2, 1) := dec_w [0x2c] (pc9 (k := 2176) (j := 18) lwD_34 rfl) (by decide +kernel) rfl
theorem dL_law_2195 : decode cL_law 2195 = .ok (.invokevirtual 212, 3) := dec_w [0xb6, 0x00, 0xd4] (pc9 (k := 2176) (j := 19) lwD_34 rfl) (by decide +kernel) rfl
theorem dL_law_2198 : decode cL_law 2198 = .ok (.iload 6, 2) := dec_w [0x15, 0x06] (pc9 (k := 2176) (j := 22) lwD_34 rfl) (by decide +kernel) rfl
theorem dL_law_2200 : decode cL_law 2200 = .ok (.if_icmp .eq 5, 3) := dec_w [0x9f, 0x00, 0x05] (pc9 (k := 2176) (j := 24) lwD_34 rfl) (by decide +kernel) rfl
theorem dL_law_2203 : decode cL_law 2203 = .ok (.iconst 0, 1) := dec_w [0x03] (pc9 (k := 2176) (j := 27) lwD_34 rfl) (by decide +kernel) rfl
theorem dL_law_2204 : decode cL_law 2204 = .ok (.ireturn, 1) := dec_w [0xac] (pc9 (k := 2176) (j := 28) lwD_34 rfl) (by decide +kernel) rfl
theorem dL_law_2205 : decode cL_law 2205 = .ok (.iload 6, 2) := dec_w [0x15, 0x06] (pc9 (k := 2176) (j := 29) lwD_34 rfl) (by decide +kernel) rfl
theorem dL_law_2207 : decode cL_law 2207 = .ok (.ifCond .ne 15, 3) := dec_w [0x9a, 0x00, 0x0f] (pc9 (k := 2176) (j := 31) lwD_34 rfl) (by decide +kernel) rfl
theorem dL_law_2210 : decode cL_law 2210 = .ok (.aload_n 3, 1) := dec_w [0x2d] (pc9 (k := 2176) (j := 34) lwD_34 rfl) (by decide +kernel) rfl
theorem dL_law_2211 : decode cL_law 2211 = .ok (.iconst 0, 1) := dec_w [0x03] (pc9 (k := 2176) (j := 35) lwD_34 rfl) (by decide +kernel) rfl
theorem dL_law_2212 : decode cL_law 2212 = .ok (.laload, 1) := dec_w [0x2f] (pc9 (k := 2176) (j := 36) lwD_34 rfl) (by decide +kernel) rfl
theorem dL_law_2213 : decode cL_law 2213 = .ok (.iload 7, 2) := dec_w [0x15, 0x07] (pc9 (k := 2176) (j := 37) lwD_34 rfl) (by decide +kernel) rfl
theorem dL_law_2215 : decode cL_law 2215 = .ok (.i2l, 1) := dec_w [0x85] (pc9 (k := 2176) (j := 39) lwD_34 rfl) (by decide +kernel) rfl
theorem dL_law_2216 : decode cL_law 2216 = .ok (.lcmp, 1) := dec_w [0x94] (pc9 (k := 2176) (j := 40) lwD_34 rfl) (by decide +kernel) rfl
theorem dL_law_2217 : decode cL_law 2217 = .ok (.ifCond .eq 5, 3) := dec_w [0x99, 0x00, 0x05] (pc9 (k := 2176) (j := 41) lwD_34 rfl) (by decide +kernel) rfl
theorem dL_law_2220 : decode cL_law 2220 = .ok (.iconst 0, 1) := dec_w [0x03] (pc9 (k := 2176) (j := 44) lwD_34 rfl) (by decide +kernel) rfl
theorem dL_law_2221 : decode cL_law 2221 = .ok (.ireturn, 1) := dec_w [0xac] (pc9 (k := 2176) (j := 45) lwD_34 rfl) (by decide +kernel) rfl
theorem dL_law_2222 : decode cL_law 2222 = .ok (.goto 2004, 3) := dec_w [0xa7, 0x07, 0xd4] (pc9 (k := 2176) (j := 46) lwD_34 rfl) (by decide +kernel) rfl
theorem dL_law_2225 : decode cL_law 2225 = .ok (.aload_n 1, 1) := dec_w [0x2b] (pc9 (k := 2176) (j := 49) lwD_34 rfl) (by decide +kernel) rfl
theorem dL_law_2226 : decode cL_law 2226 = .ok (.aload_n 0, 1) := dec_w [0x2a] (pc9 (k := 2176) (j := 50) lwD_34 rfl) (by decide +kernel) rfl
theorem dL_law_2227 : decode cL_law 2227 = .ok (.iload 5, 2) := dec_w [0x15, 0x05] (pc9 (k := 2176) (j := 51) lwD_34 rfl) (by decide +kernel) rfl
theorem dL_law_2229 : decode cL_law 2229 = .ok (.iconst 1, 1) := dec_w [0x04] (pc9 (k := 2176) (j := 53) lwD_34 rfl) (by decide +kernel) rfl
theorem dL_law_2230 : decode cL_law 2230 = .ok (.iadd, 1) := dec_w [0x60] (pc9 (k := 2176) (j := 54) lwD_34 rfl) (by decide +kernel) rfl
theorem dL_law_2231 : decode cL_law 2231 = .ok (.iaload, 1) := dec_w [0x2e] (pc9 (k := 2176) (j := 55) lwD_34 rfl) (by decide +kernel) rfl
theorem dL_law_2232 : decode cL_law 2232 = .ok (.aload_n 0, 1) := dec_w [0x2a] (pc9 (k := 2176) (j := 56) lwD_34 rfl) (by decide +kernel) rfl
theorem dL_law_2233 : decode cL_law 2233 = .ok (.iload 5, 2) := dec_w [0x15, 0x05] (pc9 (k := 2176) (j := 57) lwD_34 rfl) (by decide +kernel) rfl
theorem dL_law_2235 : decode cL_law 2235 = .ok (.iconst 2, 1) := dec_w [0x05] (pc9 (k := 2176) (j := 59) lwD_34 rfl) (by decide +kernel) rfl
theorem dL_law_2236 : decode cL_law 2236 = .ok (.iadd, 1) := dec_w [0x60] (pc9 (k := 2176) (j := 60) lwD_34 rfl) (by decide +kernel) rfl
theorem dL_law_2237 : decode cL_law 2237 = .ok (.iaload, 1) := dec_w [0x2e] (pc9 (k := 2176) (j := 61) lwD_34 rfl) (by decide +kernel) rfl
theorem dL_law_2238 : decode cL_law 2238 = .ok (.aload_n 0, 1) := dec_w [0x2a] (pc9 (k := 2176) (j := 62) lwD_34 rfl) (by decide +kernel) rfl
theorem dL_law_2239 : decode cL_law 2239 = .ok (.iload 5, 2) := dec_w [0x15, 0x05] (pc9 (k := 2176) (j := 63) lwD_34 rfl) (by decide +kernel) rfl
theorem dL_law_2241 : decode cL_law 2241 = .ok (.iconst 3, 1) := dec_w [0x06] (pc9 (k := 2240) (j := 1) lwD_35 rfl) (by decide +kernel) rfl
theorem dL_law_2242 : decode cL_law 2242 = .ok (.iadd, 1) := dec_w [0x60] (pc9 (k := 2240) (j := 2) lwD_35 rfl) (by decide +kernel) rfl
theorem dL_law_2243 : decode cL_law 2243 = .ok (.iaload, 1) := dec_w [0x2e] (pc9 (k := 2240) (j := 3) lwD_35 rfl) (by decide +kernel) rfl
