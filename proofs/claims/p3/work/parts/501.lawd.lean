/-! the law's rows, 1 -/
theorem dL_law_0 : decode cL_law 0 = .ok (.new 8, 3) := dec_w [0xbb, 0x00, 0x08] (pc9 (k := 0) (j := 0) lwD_0 rfl) (by decide +kernel) rfl
theorem dL_law_3 : decode cL_law 3 = .ok (.dup, 1) := dec_w [0x59] (pc9 (k := 0) (j := 3) lwD_0 rfl) (by decide +kernel) rfl
theorem dL_law_4 : decode cL_law 4 = .ok (.invokespecial 182, 3) := dec_w [0xb7, 0x00, 0xb6] (pc9 (k := 0) (j := 4) lwD_0 rfl) (by decide +kernel) rfl
theorem dL_law_7 : decode cL_law 7 = .ok (.astore_n 1, 1) := dec_w [0x4c] (pc9 (k := 0) (j := 7) lwD_0 rfl) (by decide +kernel) rfl
theorem dL_law_8 : decode cL_law 8 = .ok (.new 183, 3) := dec_w [0xbb, 0x00, 0xb7] (pc9 (k := 0) (j := 8) lwD_0 rfl) (by decide +kernel) rfl
theorem dL_law_11 : decode cL_law 11 = .ok (.dup, 1) := dec_w [0x59] (pc9 (k := 0) (j := 11) lwD_0 rfl) (by decide +kernel) rfl
theorem dL_law_12 : decode cL_law 12 = .ok (.invokespecial 185, 3) := dec_w [0xb7, 0x00, 0xb9] (pc9 (k := 0) (j := 12) lwD_0 rfl) (by decide +kernel) rfl
theorem dL_law_15 : decode cL_law 15 = .ok (.astore_n 2, 1) := dec_w [0x4d] (pc9 (k := 0) (j := 15) lwD_0 rfl) (by decide +kernel) rfl
theorem dL_law_16 : decode cL_law 16 = .ok (.iconst 1, 1) := dec_w [0x04] (pc9 (k := 0) (j := 16) lwD_0 rfl) (by decide +kernel) rfl
theorem dL_law_17 : decode cL_law 17 = .ok (.newarray .long, 2) := by decide +kernel
theorem dL_law_19 : decode cL_law 19 = .ok (.astore_n 3, 1) := dec_w [0x4e] (pc9 (k := 0) (j := 19) lwD_0 rfl) (by decide +kernel) rfl
theorem dL_law_20 : decode cL_law 20 = .ok (.iconst 1, 1) := dec_w [0x04] (pc9 (k := 0) (j := 20) lwD_0 rfl) (by decide +kernel) rfl
theorem dL_law_21 : decode cL_law 21 = .ok (.newarray .double, 2) := by decide +kernel
theorem dL_law_23 : decode cL_law 23 = .ok (.astore 4, 2) := dec_w [0x3a, 0x04] (pc9 (k := 0) (j := 23) lwD_0 rfl) (by decide +kernel) rfl
theorem dL_law_25 : decode cL_law 25 = .ok (.iconst 0, 1) := dec_w [0x03] (pc9 (k := 0) (j := 25) lwD_0 rfl) (by decide +kernel) rfl
theorem dL_law_26 : decode cL_law 26 = .ok (.istore 5, 2) := dec_w [0x36, 0x05] (pc9 (k := 0) (j := 26) lwD_0 rfl) (by decide +kernel) rfl
theorem dL_law_28 : decode cL_law 28 = .ok (.iload 5, 2) := dec_w [0x15, 0x05] (pc9 (k := 0) (j := 28) lwD_0 rfl) (by decide +kernel) rfl
theorem dL_law_30 : decode cL_law 30 = .ok (.aload_n 0, 1) := dec_w [0x2a] (pc9 (k := 0) (j := 30) lwD_0 rfl) (by decide +kernel) rfl
theorem dL_law_31 : decode cL_law 31 = .ok (.arraylength, 1) := dec_w [0xbe] (pc9 (k := 0) (j := 31) lwD_0 rfl) (by decide +kernel) rfl
theorem dL_law_32 : decode cL_law 32 = .ok (.iconst 5, 1) := dec_w [0x08] (pc9 (k := 0) (j := 32) lwD_0 rfl) (by decide +kernel) rfl
theorem dL_law_33 : decode cL_law 33 = .ok (.isub, 1) := dec_w [0x64] (pc9 (k := 0) (j := 33) lwD_0 rfl) (by decide +kernel) rfl
theorem dL_law_34 : decode cL_law 34 = .ok (.if_icmp .gt 2696, 3) := dec_w [0xa3, 0x0a, 0x88] (pc9 (k := 0) (j := 34) lwD_0 rfl) (by decide +kernel) rfl
theorem dL_law_37 : decode cL_law 37 = .ok (.aload_n 0, 1) := dec_w [0x2a] (pc9 (k := 0) (j := 37) lwD_0 rfl) (by decide +kernel) rfl
theorem dL_law_38 : decode cL_law 38 = .ok (.iload 5, 2) := dec_w [0x15, 0x05] (pc9 (k := 0) (j := 38) lwD_0 rfl) (by decide +kernel) rfl
theorem dL_law_40 : decode cL_law 40 = .ok (.iaload, 1) := dec_w [0x2e] (pc9 (k := 0) (j := 40) lwD_0 rfl) (by decide +kernel) rfl
theorem dL_law_41 : decode cL_law 41 = .ok (.bipush 63, 2) := dec_w [0x10, 0x3f] (pc9 (k := 0) (j := 41) lwD_0 rfl) (by decide +kernel) rfl
theorem dL_law_43 : decode cL_law 43 = .ok (.iand, 1) := dec_w [0x7e] (pc9 (k := 0) (j := 43) lwD_0 rfl) (by decide +kernel) rfl
theorem dL_law_44 : decode cL_law 44 = .ok (.tableswitch 2680 0 57 #[248, 305, 318, 331, 344, 372, 424, 464, 516, 568, 596, 636, 676, 704, 744, 816, 856, 885, 913, 965, 1005, 1033, 1062, 1102, 1130, 1182, 1246, 1286, 1314, 1354, 1406, 1458, 1486, 1514, 1542, 1570, 1642, 1714, 1754, 1834, 1918, 1958, 1998, 2062, 2142, 2222, 2262, 2302, 2342, 2394, 2450, 2478, 2518, 2546, 2586, 2611, 2624, 2652], 248) := by decide +kernel
theorem dL_law_292 : decode cL_law 292 = .ok (.aload_n 1, 1) := dec_w [0x2b] (pc9 (k := 256) (j := 36) lwD_4 rfl) (by decide +kernel) rfl
theorem dL_law_293 : decode cL_law 293 = .ok (.aload_n 0, 1) := dec_w [0x2a] (pc9 (k := 256) (j := 37) lwD_4 rfl) (by decide +kernel) rfl
theorem dL_law_294 : decode cL_law 294 = .ok (.iload 5, 2) := dec_w [0x15, 0x05] (pc9 (k := 256) (j := 38) lwD_4 rfl) (by decide +kernel) rfl
theorem dL_law_296 : decode cL_law 296 = .ok (.iconst 1, 1) := dec_w [0x04] (pc9 (k := 256) (j := 40) lwD_4 rfl) (by decide +kernel) rfl
theorem dL_law_297 : decode cL_law 297 = .ok (.iadd, 1) := dec_w [0x60] (pc9 (k := 256) (j := 41) lwD_4 rfl) (by decide +kernel) rfl
theorem dL_law_298 : decode cL_law 298 = .ok (.iaload, 1) := dec_w [0x2e] (pc9 (k := 256) (j := 42) lwD_4 rfl) (by decide +kernel) rfl
theorem dL_law_299 : decode cL_law 299 = .ok (.i2l, 1) := dec_w [0x85] (pc9 (k := 256) (j := 43) lwD_4 rfl) (by decide +kernel) rfl
theorem dL_law_300 : decode cL_law 300 = .ok (.bipush 32, 2) := dec_w [0x10, 0x20] (pc9 (k := 256) (j := 44) lwD_4 rfl) (by decide +kernel) rfl
theorem dL_law_302 : decode cL_law 302 = .ok (.lshl, 1) := dec_w [0x79] (pc9 (k := 256) (j := 46) lwD_4 rfl) (by decide +kernel) rfl
theorem dL_law_303 : decode cL_law 303 = .ok (.aload_n 0, 1) := dec_w [0x2a] (pc9 (k := 256) (j := 47) lwD_4 rfl) (by decide +kernel) rfl
theorem dL_law_304 : decode cL_law 304 = .ok (.iload 5, 2) := dec_w [0x15, 0x05] (pc9 (k := 256) (j := 48) lwD_4 rfl) (by decide +kernel) rfl
theorem dL_law_306 : decode cL_law 306 = .ok (.iconst 2, 1) := dec_w [0x05] (pc9 (k := 256) (j := 50) lwD_4 rfl) (by decide +kernel) rfl
theorem dL_law_307 : decode cL_law 307 = .ok (.iadd, 1) := dec_w [0x60] (pc9 (k := 256) (j := 51) lwD_4 rfl) (by decide +kernel) rfl
theorem dL_law_308 : decode cL_law 308 = .ok (.iaload, 1) := dec_w [0x2e] (pc9 (k := 256) (j := 52) lwD_4 rfl) (by decide +kernel) rfl
theorem dL_law_309 : decode cL_law 309 = .ok (.i2l, 1) := dec_w [0x85] (pc9 (k := 256) (j := 53) lwD_4 rfl) (by decide +kernel) rfl
theorem dL_law_310 : decode cL_law 310 = .ok (.ldc2_w 186, 3) := dec_w [0x14, 0x00, 0xba] (pc9 (k := 256) (j := 54) lwD_4 rfl) (by decide +kernel) rfl
theorem dL_law_313 : decode cL_law 313 = .ok (.land, 1) := dec_w [0x7f] (pc9 (k := 256) (j := 57) lwD_4 rfl) (by decide +kernel) rfl
theorem dL_law_314 : decode cL_law 314 = .ok (.lor, 1) := dec_w [0x81] (pc9 (k := 256) (j := 58) lwD_4 rfl) (by decide +kernel) rfl
theorem dL_law_315 : decode cL_law 315 = .ok (.invokevirtual 188, 3) := dec_w [0xb6, 0x00, 0xbc] (pc9 (k := 256) (j := 59) lwD_4 rfl) (by decide +kernel) rfl
theorem dL_law_318 : decode cL_law 318 = .ok (.pop, 1) := dec_w [0x57] (pc9 (k := 256) (j := 62) lwD_4 rfl) (by decide +kernel) rfl
theorem dL_law_319 : decode cL_law 319 = .ok (.aload_n 2, 1) := dec_w [0x2c] (pc9 (k := 256) (j := 63) lwD_4 rfl) (by decide +kernel) rfl
theorem dL_law_320 : decode cL_law 320 = .ok (.aload_n 0, 1) := dec_w [0x2a] (pc9 (k := 320) (j := 0) lwD_5 rfl) (by decide +kernel) rfl
theorem dL_law_321 : decode cL_law 321 = .ok (.iload 5, 2) := dec_w [0x15, 0x05] (pc9 (k := 320) (j := 1) lwD_5 rfl) (by decide +kernel) rfl
theorem dL_law_323 : decode cL_law 323 = .ok (.iconst 1, 1) := dec_w [0x04] (pc9 (k := 320) (j := 3) lwD_5 rfl) (by decide +kernel) rfl
theorem dL_law_324 : decode cL_law 324 = .ok (.iadd, 1) := dec_w [0x60] (pc9 (k := 320) (j := 4) lwD_5 rfl) (by decide +kernel) rfl
theorem dL_law_325 : decode cL_law 325 = .ok (.iaload, 1) := dec_w [0x2e] (pc9 (k := 320) (j := 5) lwD_5 rfl) (by decide +kernel) rfl
theorem dL_law_326 : decode cL_law 326 = .ok (.i2l, 1) := dec_w [0x85] (pc9 (k := 320) (j := 6) lwD_5 rfl) (by decide +kernel) rfl
theorem dL_law_327 : decode cL_law 327 = .ok (.bipush 32, 2) := dec_w [0x10, 0x20] (pc9 (k := 320) (j := 7) lwD_5 rfl) (by decide +kernel) rfl
theorem dL_law_329 : decode cL_law 329 = .ok (.lshl, 1) := dec_w [0x79] (pc9 (k := 320) (j := 9) lwD_5 rfl) (by decide +kernel) rfl
theorem dL_law_330 : decode cL_law 330 = .ok (.aload_n 0, 1) := dec_w [0x2a] (pc9 (k := 320) (j := 10) lwD_5 rfl) (by decide +kernel) rfl
theorem dL_law_331 : decode cL_law 331 = .ok (.iload 5, 2) := dec_w [0x15, 0x05] (pc9 (k := 320) (j := 11) lwD_5 rfl) (by decide +kernel) rfl
theorem dL_law_333 : decode cL_law 333 = .ok (.iconst 2, 1) := dec_w [0x05] (pc9 (k := 320) (j := 13) lwD_5 rfl) (by decide +kernel) rfl
theorem dL_law_334 : decode cL_law 334 = .ok (.iadd, 1) := dec_w [0x60] (pc9 (k := 320) (j := 14) lwD_5 rfl) (by decide +kernel) rfl
theorem dL_law_335 : decode cL_law 335 = .ok (.iaload, 1) := dec_w [0x2e] (pc9 (k := 320) (j := 15) lwD_5 rfl) (by decide +kernel) rfl
theorem dL_law_336 : decode cL_law 336 = .ok (.i2l, 1) := dec_w [0x85] (pc9 (k := 320) (j := 16) lwD_5 rfl) (by decide +kernel) rfl
theorem dL_law_337 : decode cL_law 337 = .ok (.ldc2_w 186, 3) := dec_w [0x14, 0x00, 0xba] (pc9 (k := 320) (j := 17) lwD_5 rfl) (by decide +kernel) rfl
theorem dL_law_340 : decode cL_law 340 = .ok (.land, 1) := dec_w [0x7f] (pc9 (k := 320) (j := 20) lwD_5 rfl) (by decide +kernel) rfl
theorem dL_law_341 : decode cL_law 341 = .ok (.lor, 1) := dec_w [0x81] (pc9 (k := 320) (j := 21) lwD_5 rfl) (by decide +kernel) rfl
theorem dL_law_342 : decode cL_law 342 = .ok (.invokevirtual 192, 3) := dec_w [0xb6, 0x00, 0xc0] (pc9 (k := 320) (j := 22) lwD_5 rfl) (by decide +kernel) rfl
theorem dL_law_345 : decode cL_law 345 = .ok (.pop, 1) := dec_w [0x57] (pc9 (k := 320) (j := 25) lwD_5 rfl) (by decide +kernel) rfl
theorem dL_law_346 : decode cL_law 346 = .ok (.goto 2378, 3) := dec_w [0xa7, 0x09, 0x4a] (pc9 (k := 320) (j := 26) lwD_5 rfl) (by decide +kernel) rfl
theorem dL_law_349 : decode cL_law 349 = .ok (.aload_n 1, 1) := dec_w [0x2b] (pc9 (k := 320) (j := 29) lwD_5 rfl) (by decide +kernel) rfl
theorem dL_law_350 : decode cL_law 350 = .ok (.invokevirtual 193, 3) := dec_w [0xb6, 0x00, 0xc1] (pc9 (k := 320) (j := 30) lwD_5 rfl) (by decide +kernel) rfl
theorem dL_law_353 : decode cL_law 353 = .ok (.aload_n 2, 1) := dec_w [0x2c] (pc9 (k := 320) (j := 33) lwD_5 rfl) (by decide +kernel) rfl
theorem dL_law_354 : decode cL_law 354 = .ok (.invokevirtual 197, 3) := dec_w [0xb6, 0x00, 0xc5] (pc9 (k := 320) (j := 34) lwD_5 rfl) (by decide +kernel) rfl
theorem dL_law_357 : decode cL_law 357 = .ok (.if_icmp .eq 2367, 3) := dec_w [0x9f, 0x09, 0x3f] (pc9 (k := 320) (j := 37) lwD_5 rfl) (by decide +kernel) rfl
theorem dL_law_360 : decode cL_law 360 = .ok (.iconst 0, 1) := dec_w [0x03] (pc9 (k := 320) (j := 40) lwD_5 rfl) (by decide +kernel) rfl
theorem dL_law_361 : decode cL_law 361 = .ok (.ireturn, 1) := dec_w [0xac] (pc9 (k := 320) (j := 41) lwD_5 rfl) (by decide +kernel) rfl
theorem dL_law_362 : decode cL_law 362 = .ok (.aload_n 1, 1) := dec_w [0x2b] (pc9 (k := 320) (j := 42) lwD_5 rfl) (by decide +kernel) rfl
theorem dL_law_363 : decode cL_law 363 = .ok (.invokevirtual 198, 3) := dec_w [0xb6, 0x00, 0xc6] (pc9 (k := 320) (j := 43) lwD_5 rfl) (by decide +kernel) rfl
theorem dL_law_366 : decode cL_law 366 = .ok (.pop, 1) := dec_w [0x57] (pc9 (k := 320) (j := 46) lwD_5 rfl) (by decide +kernel) rfl
theorem dL_law_367 : decode cL_law 367 = .ok (.aload_n 2, 1) := dec_w [0x2c] (pc9 (k := 320) (j := 47) lwD_5 rfl) (by decide +kernel) rfl
theorem dL_law_368 : decode cL_law 368 = .ok (.invokevirtual 201, 3) := dec_w [0xb6, 0x00, 0xc9] (pc9 (k := 320) (j := 48) lwD_5 rfl) (by decide +kernel) rfl
theorem dL_law_371 : decode cL_law 371 = .ok (.pop, 1) := dec_w [0x57] (pc9 (k := 320) (j := 51) lwD_5 rfl) (by decide +kernel) rfl
theorem dL_law_372 : decode cL_law 372 = .ok (.goto 2352, 3) := dec_w [0xa7, 0x09, 0x30] (pc9 (k := 320) (j := 52) lwD_5 rfl) (by decide +kernel) rfl
theorem dL_law_375 : decode cL_law 375 = .ok (.aload_n 1, 1) := dec_w [0x2b] (pc9 (k := 320) (j := 55) lwD_5 rfl) (by decide +kernel) rfl
theorem dL_law_376 : decode cL_law 376 = .ok (.invokevirtual 202, 3) := dec_w [0xb6, 0x00, 0xca] (pc9 (k := 320) (j := 56) lwD_5 rfl) (by decide +kernel) rfl
theorem dL_law_379 : decode cL_law 379 = .ok (.pop, 1) := dec_w [0x57] (pc9 (k := 320) (j := 59) lwD_5 rfl) (by decide +kernel) rfl
theorem dL_law_380 : decode cL_law 380 = .ok (.aload_n 2, 1) := dec_w [0x2c] (pc9 (k := 320) (j := 60) lwD_5 rfl) (by decide +kernel) rfl
theorem dL_law_381 : decode cL_law 381 = .ok (.invokevirtual 205, 3) := dec_w [0xb6, 0x00, 0xcd] (pc9 (k := 320) (j := 61) lwD_5 rfl) (by decide +kernel) rfl
theorem dL_law_384 : decode cL_law 384 = .ok (.pop, 1) := dec_w [0x57] (pc9 (k := 384) (j := 0) lwD_6 rfl) (by decide +kernel) rfl
theorem dL_law_385 : decode cL_law 385 = .ok (.goto 2339, 3) := dec_w [0xa7, 0x09, 0x23] (pc9 (k := 384) (j := 1) lwD_6 rfl) (by decide +kernel) rfl
theorem dL_law_388 : decode cL_law 388 = .ok (.aload_n 1, 1) := dec_w [0x2b] (pc9 (k := 384) (j := 4) lwD_6 rfl) (by decide +kernel) rfl
theorem dL_law_389 : decode cL_law 389 = .ok (.aload_n 0, 1) := dec_w [0x2a] (pc9 (k := 384) (j := 5) lwD_6 rfl) (by decide +kernel) rfl
theorem dL_law_390 : decode cL_law 390 = .ok (.iload 5, 2) := dec_w [0x15, 0x05] (pc9 (k := 384) (j := 6) lwD_6 rfl) (by decide +kernel) rfl
theorem dL_law_392 : decode cL_law 392 = .ok (.iconst 1, 1) := dec_w [0x04] (pc9 (k := 384) (j := 8) lwD_6 rfl) (by decide +kernel) rfl
theorem dL_law_393 : decode cL_law 393 = .ok (.iadd, 1) := dec_w [0x60] (pc9 (k := 384) (j := 9) lwD_6 rfl) (by decide +kernel) rfl
theorem dL_law_394 : decode cL_law 394 = .ok (.iaload, 1) := dec_w [0x2e] (pc9 (k := 384) (j := 10) lwD_6 rfl) (by decide +kernel) rfl
theorem dL_law_395 : decode cL_law 395 = .ok (.aload_n 3, 1) := dec_w [0x2d] (pc9 (k := 384) (j := 11) lwD_6 rfl) (by decide +kernel) rfl
theorem dL_law_396 : decode cL_law 396 = .ok (.invokestatic 206, 3) := dec_w [0xb8, 0x00, 0xce] (pc9 (k := 384) (j := 12) lwD_6 rfl) (by decide +kernel) rfl
theorem dL_law_399 : decode cL_law 399 = .ok (.istore 6, 2) := dec_w [0x36, 0x06] (pc9 (k := 384) (j := 15) lwD_6 rfl) (by decide +kernel) rfl
theorem dL_law_401 : decode cL_law 401 = .ok (.aload_n 2, 1) := dec_w [0x2c] (pc9 (k := 384) (j := 17) lwD_6 rfl) (by decide +kernel) rfl
theorem dL_law_402 : decode cL_law 402 = .ok (.aload_n 0, 1) := dec_w [0x2a] (pc9 (k := 384) (j := 18) lwD_6 rfl) (by decide +kernel) rfl
theorem dL_law_403 : decode cL_law 403 = .ok (.iload 5, 2) := dec_w [0x15, 0x05] (pc9 (k := 384) (j := 19) lwD_6 rfl) (by decide +kernel) rfl
theorem dL_law_405 : decode cL_law 405 = .ok (.iconst 1, 1) := dec_w [0x04] (pc9 (k := 384) (j := 21) lwD_6 rfl) (by decide +kernel) rfl
theorem dL_law_406 : decode cL_law 406 = .ok (.iadd, 1) := dec_w [0x60] (pc9 (k := 384) (j := 22) lwD_6 rfl) (by decide +kernel) rfl
theorem dL_law_407 : decode cL_law 407 = .ok (.iaload, 1) := dec_w [0x2e] (pc9 (k := 384) (j := 23) lwD_6 rfl) (by decide +kernel) rfl
theorem dL_law_408 : decode cL_law 408 = .ok (.invokevirtual 211, 3) := dec_w [0xb6, 0x00, 0xd3] (pc9 (k := 384) (j := 24) lwD_6 rfl) (by decide +kernel) rfl
theorem dL_law_411 : decode cL_law 411 = .ok (.istore 7, 2) := dec_w [0x36, 0x07] (pc9 (k := 384) (j := 27) lwD_6 rfl) (by decide +kernel) rfl
theorem dL_law_413 : decode cL_law 413 = .ok (.goto 2311, 3) := dec_w [0xa7, 0x09, 0x07] (pc9 (k := 384) (j := 29) lwD_6 rfl) (by decide +kernel) rfl
theorem dL_law_416 : decode cL_law 416 = .ok (.aload_n 1, 1) := dec_w [0x2b] (pc9 (k := 384) (j := 32) lwD_6 rfl) (by decide +kernel) rfl
theorem dL_law_417 : decode cL_law 417 = .ok (.aload_n 0, 1) := dec_w [0x2a] (pc9 (k := 384) (j := 33) lwD_6 rfl) (by decide +kernel) rfl
theorem dL_law_418 : decode cL_law 418 = .ok (.iload 5, 2) := dec_w [0x15, 0x05] (pc9 (k := 384) (j := 34) lwD_6 rfl) (by decide +kernel) rfl
theorem dL_law_420 : decode cL_law 420 = .ok (.iconst 1, 1) := dec_w [0x04] (pc9 (k := 384) (j := 36) lwD_6 rfl) (by decide +kernel) rfl
theorem dL_law_421 : decode cL_law 421 = .ok (.iadd, 1) := dec_w [0x60] (pc9 (k := 384) (j := 37) lwD_6 rfl) (by decide +kernel) rfl
theorem dL_law_422 : decode cL_law 422 = .ok (.iaload, 1) := dec_w [0x2e] (pc9 (k := 384) (j := 38) lwD_6 rfl) (by decide +kernel) rfl
theorem dL_law_423 : decode cL_law 423 = .ok (.aload_n 0, 1) := dec_w [0x2a] (pc9 (k := 384) (j := 39) lwD_6 rfl) (by decide +kernel) rfl
theorem dL_law_424 : decode cL_law 424 = .ok (.iload 5, 2) := dec_w [0x15, 0x05] (pc9 (k := 384) (j := 40) lwD_6 rfl) (by decide +kernel) rfl
theorem dL_law_426 : decode cL_law 426 = .ok (.iconst 2, 1) := dec_w [0x05] (pc9 (k := 384) (j := 42) lwD_6 rfl) (by decide +kernel) rfl
theorem dL_law_427 : decode cL_law 427 = .ok (.iadd, 1) := dec_w [0x60] (pc9 (k := 384) (j := 43) lwD_6 rfl) (by decide +kernel) rfl
theorem dL_law_428 : decode cL_law 428 = .ok (.iaload, 1) := dec_w [0x2e] (pc9 (k := 384) (j := 44) lwD_6 rfl) (by decide +kernel) rfl
theorem dL_law_429 : decode cL_law 429 = .ok (.aload_n 0, 1) := dec_w [0x2a] (pc9 (k := 384) (j := 45) lwD_6 rfl) (by decide +kernel) rfl
theorem dL_law_430 : decode cL_law 430 = .ok (.iload 5, 2) := dec_w [0x15, 0x05] (pc9 (k := 384) (j := 46) lwD_6 rfl) (by decide +kernel) rfl
theorem dL_law_432 : decode cL_law 432 = .ok (.iconst 3, 1) := dec_w [0x06] (pc9 (k := 384) (j := 48) lwD_6 rfl) (by decide +kernel) rfl
theorem dL_law_433 : decode cL_law 433 = .ok (.iadd, 1) := dec_w [0x60] (pc9 (k := 384) (j := 49) lwD_6 rfl) (by decide +kernel) rfl
theorem dL_law_434 : decode cL_law 434 = .ok (.iaload, 1) := dec_w [0x2e] (pc9 (k := 384) (j := 50) lwD_6 rfl) (by decide +kernel) rfl
theorem dL_law_435 : decode cL_law 435 = .ok (.aload_n 3, 1) := dec_w [0x2d] (pc9 (k := 384) (j := 51) lwD_6 rfl) (by decide +kernel) rfl
theorem dL_law_436 : decode cL_law 436 = .ok (.invokestatic 212, 3) := dec_w [0xb8, 0x00, 0xd4] (pc9 (k := 384) (j := 52) lwD_6 rfl) (by decide +kernel) rfl
theorem dL_law_439 : decode cL_law 439 = .ok (.istore 6, 2) := dec_w [0x36, 0x06] (pc9 (k := 384) (j := 55) lwD_6 rfl) (by decide +kernel) rfl
theorem dL_law_441 : decode cL_law 441 = .ok (.aload_n 2, 1) := dec_w [0x2c] (pc9 (k := 384) (j := 57) lwD_6 rfl) (by decide +kernel) rfl
theorem dL_law_442 : decode cL_law 442 = .ok (.aload_n 0, 1) := dec_w [0x2a] (pc9 (k := 384) (j := 58) lwD_6 rfl) (by decide +kernel) rfl
theorem dL_law_443 : decode cL_law 443 = .ok (.iload 5, 2) := dec_w [0x15, 0x05] (pc9 (k := 384) (j := 59) lwD_6 rfl) (by decide +kernel) rfl
theorem dL_law_445 : decode cL_law 445 = .ok (.iconst 1, 1) := dec_w [0x04] (pc9 (k := 384) (j := 61) lwD_6 rfl) (by decide +kernel) rfl
theorem dL_law_446 : decode cL_law 446 = .ok (.iadd, 1) := dec_w [0x60] (pc9 (k := 384) (j := 62) lwD_6 rfl) (by decide +kernel) rfl
theorem dL_law_447 : decode cL_law 447 = .ok (.iaload, 1) := dec_w [0x2e] (pc9 (k := 384) (j := 63) lwD_6 rfl) (by decide +kernel) rfl
theorem dL_law_448 : decode cL_law 448 = .ok (.aload_n 0, 1) := dec_w [0x2a] (pc9 (k := 448) (j := 0) lwD_7 rfl) (by decide +kernel) rfl
theorem dL_law_449 : decode cL_law 449 = .ok (.iload 5, 2) := dec_w [0x15, 0x05] (pc9 (k := 448) (j := 1) lwD_7 rfl) (by decide +kernel) rfl
theorem dL_law_451 : decode cL_law 451 = .ok (.iconst 2, 1) := dec_w [0x05] (pc9 (k := 448) (j := 3) lwD_7 rfl) (by decide +kernel) rfl
theorem dL_law_452 : decode cL_law 452 = .ok (.iadd, 1) := dec_w [0x60] (pc9 (k := 448) (j := 4) lwD_7 rfl) (by decide +kernel) rfl
theorem dL_law_453 : decode cL_law 453 = .ok (.iaload, 1) := dec_w [0x2e] (pc9 (k := 448) (j := 5) lwD_7 rfl) (by decide +kernel) rfl
theorem dL_law_454 : decode cL_law 454 = .ok (.aload_n 0, 1) := dec_w [0x2a] (pc9 (k := 448) (j := 6) lwD_7 rfl) (by decide +kernel) rfl
theorem dL_law_455 : decode cL_law 455 = .ok (.iload 5, 2) := dec_w [0x15, 0x05] (pc9 (k := 448) (j := 7) lwD_7 rfl) (by decide +kernel) rfl
theorem dL_law_457 : decode cL_law 457 = .ok (.iconst 3, 1) := dec_w [0x06] (pc9 (k := 448) (j := 9) lwD_7 rfl) (by decide +kernel) rfl
theorem dL_law_458 : decode cL_law 458 = .ok (.iadd, 1) := dec_w [0x60] (pc9 (k := 448) (j := 10) lwD_7 rfl) (by decide +kernel) rfl
theorem dL_law_459 : decode cL_law 459 = .ok (.iaload, 1) := dec_w [0x2e] (pc9 (k := 448) (j := 11) lwD_7 rfl) (by decide +kernel) rfl
theorem dL_law_460 : decode cL_law 460 = .ok (.invokevirtual 215, 3) := dec_w [0xb6, 0x00, 0xd7] (pc9 (k := 448) (j := 12) lwD_7 rfl) (by decide +kernel) rfl
theorem dL_law_463 : decode cL_law 463 = .ok (.istore 7, 2) := dec_w [0x36, 0x07] (pc9 (k := 448) (j := 15) lwD_7 rfl) (by decide +kernel) rfl
theorem dL_law_465 : decode cL_law 465 = .ok (.goto 2259, 3) := dec_w [0xa7, 0x08, 0xd3] (pc9 (k := 448) (j := 17) lwD_7 rfl) (by decide +kernel) rfl
theorem dL_law_468 : decode cL_law 468 = .ok (.aload_n 1, 1) := dec_w [0x2b] (pc9 (k := 448) (j := 20) lwD_7 rfl) (by decide +kernel) rfl
theorem dL_law_469 : decode cL_law 469 = .ok (.aload_n 0, 1) := dec_w [0x2a] (pc9 (k := 448) (j := 21) lwD_7 rfl) (by decide +kernel) rfl
theorem dL_law_470 : decode cL_law 470 = .ok (.iload 5, 2) := dec_w [0x15, 0x05] (pc9 (k := 448) (j := 22) lwD_7 rfl) (by decide +kernel) rfl
theorem dL_law_472 : decode cL_law 472 = .ok (.iconst 1, 1) := dec_w [0x04] (pc9 (k := 448) (j := 24) lwD_7 rfl) (by decide +kernel) rfl
theorem dL_law_473 : decode cL_law 473 = .ok (.iadd, 1) := dec_w [0x60] (pc9 (k := 448) (j := 25) lwD_7 rfl) (by decide +kernel) rfl
theorem dL_law_474 : decode cL_law 474 = .ok (.iaload, 1) := dec_w [0x2e] (pc9 (k := 448) (j := 26) lwD_7 rfl) (by decide +kernel) rfl
theorem dL_law_475 : decode cL_law 475 = .ok (.aload_n 0, 1) := dec_w [0x2a] (pc9 (k := 448) (j := 27) lwD_7 rfl) (by decide +kernel) rfl
theorem dL_law_476 : decode cL_law 476 = .ok (.iload 5, 2) := dec_w [0x15, 0x05] (pc9 (k := 448) (j := 28) lwD_7 rfl) (by decide +kernel) rfl
theorem dL_law_478 : decode cL_law 478 = .ok (.iconst 2, 1) := dec_w [0x05] (pc9 (k := 448) (j := 30) lwD_7 rfl) (by decide +kernel) rfl
theorem dL_law_479 : decode cL_law 479 = .ok (.iadd, 1) := dec_w [0x60] (pc9 (k := 448) (j := 31) lwD_7 rfl) (by decide +kernel) rfl
theorem dL_law_480 : decode cL_law 480 = .ok (.iaload, 1) := dec_w [0x2e] (pc9 (k := 448) (j := 32) lwD_7 rfl) (by decide +kernel) rfl
theorem dL_law_481 : decode cL_law 481 = .ok (.aload_n 3, 1) := dec_w [0x2d] (pc9 (k := 448) (j := 33) lwD_7 rfl) (by decide +kernel) rfl
theorem dL_law_482 : decode cL_law 482 = .ok (.invokestatic 216, 3) := dec_w [0xb8, 0x00, 0xd8] (pc9 (k := 448) (j := 34) lwD_7 rfl) (by decide +kernel) rfl
theorem dL_law_485 : decode cL_law 485 = .ok (.istore 6, 2) := dec_w [0x36, 0x06] (pc9 (k := 448) (j := 37) lwD_7 rfl) (by decide +kernel) rfl
theorem dL_law_487 : decode cL_law 487 = .ok (.aload_n 2, 1) := dec_w [0x2c] (pc9 (k := 448) (j := 39) lwD_7 rfl) (by decide +kernel) rfl
theorem dL_law_488 : decode cL_law 488 = .ok (.aload_n 0, 1) := dec_w [0x2a] (pc9 (k := 448) (j := 40) lwD_7 rfl) (by decide +kernel) rfl
theorem dL_law_489 : decode cL_law 489 = .ok (.iload 5, 2) := dec_w [0x15, 0x05] (pc9 (k := 448) (j := 41) lwD_7 rfl) (by decide +kernel) rfl
theorem dL_law_491 : decode cL_law 491 = .ok (.iconst 1, 1) := dec_w [0x04] (pc9 (k := 448) (j := 43) lwD_7 rfl) (by decide +kernel) rfl
theorem dL_law_492 : decode cL_law 492 = .ok (.iadd, 1) := dec_w [0x60] (pc9 (k := 448) (j := 44) lwD_7 rfl) (by decide +kernel) rfl
theorem dL_law_493 : decode cL_law 493 = .ok (.iaload, 1) := dec_w [0x2e] (pc9 (k := 448) (j := 45) lwD_7 rfl) (by decide +kernel) rfl
theorem dL_law_494 : decode cL_law 494 = .ok (.aload_n 0, 1) := dec_w [0x2a] (pc9 (k := 448) (j := 46) lwD_7 rfl) (by decide +kernel) rfl
theorem dL_law_495 : decode cL_law 495 = .ok (.iload 5, 2) := dec_w [0x15, 0x05] (pc9 (k := 448) (j := 47) lwD_7 rfl) (by decide +kernel) rfl
theorem dL_law_497 : decode cL_law 497 = .ok (.iconst 2, 1) := dec_w [0x05] (pc9 (k := 448) (j := 49) lwD_7 rfl) (by decide +kernel) rfl
theorem dL_law_498 : decode cL_law 498 = .ok (.iadd, 1) := dec_w [0x60] (pc9 (k := 448) (j := 50) lwD_7 rfl) (by decide +kernel) rfl
theorem dL_law_499 : decode cL_law 499 = .ok (.iaload, 1) := dec_w [0x2e] (pc9 (k := 448) (j := 51) lwD_7 rfl) (by decide +kernel) rfl
theorem dL_law_500 : decode cL_law 500 = .ok (.invokevirtual 219, 3) := dec_w [0xb6, 0x00, 0xdb] (pc9 (k := 448) (j := 52) lwD_7 rfl) (by decide +kernel) rfl
theorem dL_law_503 : decode cL_law 503 = .ok (.lstore 7, 2) := dec_w [0x37, 0x07] (pc9 (k := 448) (j := 55) lwD_7 rfl) (by decide +kernel) rfl
theorem dL_law_505 : decode cL_law 505 = .ok (.goto 2219, 3) := dec_w [0xa7, 0x08, 0xab] (pc9 (k := 448) (j := 57) lwD_7 rfl) (by decide +kernel) rfl
theorem dL_law_508 : decode cL_law 508 = .ok (.aload_n 1, 1) := dec_w [0x2b] (pc9 (k := 448) (j := 60) lwD_7 rfl) (by decide +kernel) rfl
theorem dL_law_509 : decode cL_law 509 = .ok (.aload_n 0, 1) := dec_w [0x2a] (pc9 (k := 448) (j := 61) lwD_7 rfl) (by decide +kernel) rfl
theorem dL_law_510 : decode cL_law 510 = .ok (.iload 5, 2) := dec_w [0x15, 0x05] (pc9 (k := 448) (j := 62) lwD_7 rfl) (by decide +kernel) rfl
theorem dL_law_512 : decode cL_law 512 = .ok (.iconst 1, 1) := dec_w [0x04] (pc9 (k := 512) (j := 0) lwD_8 rfl) (by decide +kernel) rfl
theorem dL_law_513 : decode cL_law 513 = .ok (.iadd, 1) := dec_w [0x60] (pc9 (k := 512) (j := 1) lwD_8 rfl) (by decide +kernel) rfl
theorem dL_law_514 : decode cL_law 514 = .ok (.iaload, 1) := dec_w [0x2e] (pc9 (k := 512) (j := 2) lwD_8 rfl) (by decide +kernel) rfl
theorem dL_law_515 : decode cL_law 515 = .ok (.aload_n 0, 1) := dec_w [0x2a] (pc9 (k := 512) (j := 3) lwD_8 rfl) (by decide +kernel) rfl
theorem dL_law_516 : decode cL_law 516 = .ok (.iload 5, 2) := dec_w [0x15, 0x05] (pc9 (k := 512) (j := 4) lwD_8 rfl) (by decide +kernel) rfl
theorem dL_law_518 : decode cL_law 518 = .ok (.iconst 2, 1) := dec_w [0x05] (pc9 (k := 512) (j := 6) lwD_8 rfl) (by decide +kernel) rfl
theorem dL_law_519 : decode cL_law 519 = .ok (.iadd, 1) := dec_w [0x60] (pc9 (k := 512) (j := 7) lwD_8 rfl) (by decide +kernel) rfl
theorem dL_law_520 : decode cL_law 520 = .ok (.iaload, 1) := dec_w [0x2e] (pc9 (k := 512) (j := 8) lwD_8 rfl) (by decide +kernel) rfl
theorem dL_law_521 : decode cL_law 521 = .ok (.aload_n 0, 1) := dec_w [0x2a] (pc9 (k := 512) (j := 9) lwD_8 rfl) (by decide +kernel) rfl
theorem dL_law_522 : decode cL_law 522 = .ok (.iload 5, 2) := dec_w [0x15, 0x05] (pc9 (k := 512) (j := 10) lwD_8 rfl) (by decide +kernel) rfl
theorem dL_law_524 : decode cL_law 524 = .ok (.iconst 3, 1) := dec_w [0x06] (pc9 (k := 512) (j := 12) lwD_8 rfl) (by decide +kernel) rfl
theorem dL_law_525 : decode cL_law 525 = .ok (.iadd, 1) := dec_w [0x60] (pc9 (k := 512) (j := 13) lwD_8 rfl) (by decide +kernel) rfl
theorem dL_law_526 : decode cL_law 526 = .ok (.iaload, 1) := dec_w [0x2e] (pc9 (k := 512) (j := 14) lwD_8 rfl) (by decide +kernel) rfl
theorem dL_law_527 : decode cL_law 527 = .ok (.aload_n 3, 1) := dec_w [0x2d] (pc9 (k := 512) (j := 15) lwD_8 rfl) (by decide +kernel) rfl
theorem dL_law_528 : decode cL_law 528 = .ok (.invokestatic 220, 3) := dec_w [0xb8, 0x00, 0xdc] (pc9 (k := 512) (j := 16) lwD_8 rfl) (by decide +kernel) rfl
theorem dL_law_531 : decode cL_law 531 = .ok (.istore 6, 2) := dec_w [0x36, 0x06] (pc9 (k := 512) (j := 19) lwD_8 rfl) (by decide +kernel) rfl
theorem dL_law_533 : decode cL_law 533 = .ok (.aload_n 2, 1) := dec_w [0x2c] (pc9 (k := 512) (j := 21) lwD_8 rfl) (by decide +kernel) rfl
theorem dL_law_534 : decode cL_law 534 = .ok (.aload_n 0, 1) := dec_w [0x2a] (pc9 (k := 512) (j := 22) lwD_8 rfl) (by decide +kernel) rfl
theorem dL_law_535 : decode cL_law 535 = .ok (.iload 5, 2) := dec_w [0x15, 0x05] (pc9 (k := 512) (j := 23) lwD_8 rfl) (by decide +kernel) rfl
theorem dL_law_537 : decode cL_law 537 = .ok (.iconst 1, 1) := dec_w [0x04] (pc9 (k := 512) (j := 25) lwD_8 rfl) (by decide +kernel) rfl
theorem dL_law_538 : decode cL_law 538 = .ok (.iadd, 1) := dec_w [0x60] (pc9 (k := 512) (j := 26) lwD_8 rfl) (by decide +kernel) rfl
theorem dL_law_539 : decode cL_law 539 = .ok (.iaload, 1) := dec_w [0x2e] (pc9 (k := 512) (j := 27) lwD_8 rfl) (by decide +kernel) rfl
theorem dL_law_540 : decode cL_law 540 = .ok (.aload_n 0, 1) := dec_w [0x2a] (pc9 (k := 512) (j := 28) lwD_8 rfl) (by decide +kernel) rfl
theorem dL_law_541 : decode cL_law 541 = .ok (.iload 5, 2) := dec_w [0x15, 0x05] (pc9 (k := 512) (j := 29) lwD_8 rfl) (by decide +kernel) rfl
theorem dL_law_543 : decode cL_law 543 = .ok (.iconst 2, 1) := dec_w [0x05] (pc9 (k := 512) (j := 31) lwD_8 rfl) (by decide +kernel) rfl
theorem dL_law_544 : decode cL_law 544 = .ok (.iadd, 1) := dec_w [0x60] (pc9 (k := 512) (j := 32) lwD_8 rfl) (by decide +kernel) rfl
theorem dL_law_545 : decode cL_law 545 = .ok (.iaload, 1) := dec_w [0x2e] (pc9 (k := 512) (j := 33) lwD_8 rfl) (by decide +kernel) rfl
theorem dL_law_546 : decode cL_law 546 = .ok (.aload_n 0, 1) := dec_w [0x2a] (pc9 (k := 512) (j := 34) lwD_8 rfl) (by decide +kernel) rfl
theorem dL_law_547 : decode cL_law 547 = .ok (.iload 5, 2) := dec_w [0x15, 0x05] (pc9 (k := 512) (j := 35) lwD_8 rfl) (by decide +kernel) rfl
theorem dL_law_549 : decode cL_law 549 = .ok (.iconst 3, 1) := dec_w [0x06] (pc9 (k := 512) (j := 37) lwD_8 rfl) (by decide +kernel) rfl
theorem dL_law_550 : decode cL_law 550 = .ok (.iadd, 1) := dec_w [0x60] (pc9 (k := 512) (j := 38) lwD_8 rfl) (by decide +kernel) rfl
theorem dL_law_551 : decode cL_law 551 = .ok (.iaload, 1) := dec_w [0x2e] (pc9 (k := 512) (j := 39) lwD_8 rfl) (by decide +kernel) rfl
theorem dL_law_552 : decode cL_law 552 = .ok (.invokevirtual 222, 3) := dec_w [0xb6, 0x00, 0xde] (pc9 (k := 512) (j := 40) lwD_8 rfl) (by decide +kernel) rfl
theorem dL_law_555 : decode cL_law 555 = .ok (.istore 7, 2) := dec_w [0x36, 0x07] (pc9 (k := 512) (j := 43) lwD_8 rfl) (by decide +kernel) rfl
theorem dL_law_557 : decode cL_law 557 = .ok (.goto 2167, 3) := dec_w [0xa7, 0x08, 0x77] (pc9 (k := 512) (j := 45) lwD_8 rfl) (by decide +kernel) rfl
theorem dL_law_560 : decode cL_law 560 = .ok (.aload_n 1, 1) := dec_w [0x2b] (pc9 (k := 512) (j := 48) lwD_8 rfl) (by decide +kernel) rfl
theorem dL_law_561 : decode cL_law 561 = .ok (.aload_n 0, 1) := dec_w [0x2a] (pc9 (k := 512) (j := 49) lwD_8 rfl) (by decide +kernel) rfl
theorem dL_law_562 : decode cL_law 562 = .ok (.iload 5, 2) := dec_w [0x15, 0x05] (pc9 (k := 512) (j := 50) lwD_8 rfl) (by decide +kernel) rfl
theorem dL_law_564 : decode cL_law 564 = .ok (.iconst 1, 1) := dec_w [0x04] (pc9 (k := 512) (j := 52) lwD_8 rfl) (by decide +kernel) rfl
theorem dL_law_565 : decode cL_law 565 = .ok (.iadd, 1) := dec_w [0x60] (pc9 (k := 512) (j := 53) lwD_8 rfl) (by decide +kernel) rfl
theorem dL_law_566 : decode cL_law 566 = .ok (.iaload, 1) := dec_w [0x2e] (pc9 (k := 512) (j := 54) lwD_8 rfl) (by decide +kernel) rfl
theorem dL_law_567 : decode cL_law 567 = .ok (.aload_n 0, 1) := dec_w [0x2a] (pc9 (k := 512) (j := 55) lwD_8 rfl) (by decide +kernel) rfl
theorem dL_law_568 : decode cL_law 568 = .ok (.iload 5, 2) := dec_w [0x15, 0x05] (pc9 (k := 512) (j := 56) lwD_8 rfl) (by decide +kernel) rfl
theorem dL_law_570 : decode cL_law 570 = .ok (.iconst 2, 1) := dec_w [0x05] (pc9 (k := 512) (j := 58) lwD_8 rfl) (by decide +kernel) rfl
theorem dL_law_571 : decode cL_law 571 = .ok (.iadd, 1) := dec_w [0x60] (pc9 (k := 512) (j := 59) lwD_8 rfl) (by decide +kernel) rfl
theorem dL_law_572 : decode cL_law 572 = .ok (.iaload, 1) := dec_w [0x2e] (pc9 (k := 512) (j := 60) lwD_8 rfl) (by decide +kernel) rfl
theorem dL_law_573 : decode cL_law 573 = .ok (.aload_n 0, 1) := dec_w [0x2a] (pc9 (k := 512) (j := 61) lwD_8 rfl) (by decide +kernel) rfl
theorem dL_law_574 : decode cL_law 574 = .ok (.iload 5, 2) := dec_w [0x15, 0x05] (pc9 (k := 512) (j := 62) lwD_8 rfl) (by decide +kernel) rfl
theorem dL_law_576 : decode cL_law 576 = .ok (.iconst 3, 1) := dec_w [0x06] (pc9 (k := 576) (j := 0) lwD_9 rfl) (by decide +kernel) rfl
theorem dL_law_577 : decode cL_law 577 = .ok (.iadd, 1) := dec_w [0x60] (pc9 (k := 576) (j := 1) lwD_9 rfl) (by decide +kernel) rfl
theorem dL_law_578 : decode cL_law 578 = .ok (.iaload, 1) := dec_w [0x2e] (pc9 (k := 576) (j := 2) lwD_9 rfl) (by decide +kernel) rfl
theorem dL_law_579 : decode cL_law 579 = .ok (.aload_n 3, 1) := dec_w [0x2d] (pc9 (k := 576) (j := 3) lwD_9 rfl) (by decide +kernel) rfl
theorem dL_law_580 : decode cL_law 580 = .ok (.invokestatic 223, 3) := dec_w [0xb8, 0x00, 0xdf] (pc9 (k := 576) (j := 4) lwD_9 rfl) (by decide +kernel) rfl
theorem dL_law_583 : decode cL_law 583 = .ok (.istore 6, 2) := dec_w [0x36, 0x06] (pc9 (k := 576) (j := 7) lwD_9 rfl) (by decide +kernel) rfl
theorem dL_law_585 : decode cL_law 585 = .ok (.aload_n 2, 1) := dec_w [0x2c] (pc9 (k := 576) (j := 9) lwD_9 rfl) (by decide +kernel) rfl
theorem dL_law_586 : decode cL_law 586 = .ok (.aload_n 0, 1) := dec_w [0x2a] (pc9 (k := 576) (j := 10) lwD_9 rfl) (by decide +kernel) rfl
theorem dL_law_587 : decode cL_law 587 = .ok (.iload 5, 2) := dec_w [0x15, 0x05] (pc9 (k := 576) (j := 11) lwD_9 rfl) (by decide +kernel) rfl
theorem dL_law_589 : decode cL_law 589 = .ok (.iconst 1, 1) := dec_w [0x04] (pc9 (k := 576) (j := 13) lwD_9 rfl) (by decide +kernel) rfl
theorem dL_law_590 : decode cL_law 590 = .ok (.iadd, 1) := dec_w [0x60] (pc9 (k := 576) (j := 14) lwD_9 rfl) (by decide +kernel) rfl
theorem dL_law_591 : decode cL_law 591 = .ok (.iaload, 1) := dec_w [0x2e] (pc9 (k := 576) (j := 15) lwD_9 rfl) (by decide +kernel) rfl
theorem dL_law_592 : decode cL_law 592 = .ok (.aload_n 0, 1) := dec_w [0x2a] (pc9 (k := 576) (j := 16) lwD_9 rfl) (by decide +kernel) rfl
theorem dL_law_593 : decode cL_law 593 = .ok (.iload 5, 2) := dec_w [0x15, 0x05] (pc9 (k := 576) (j := 17) lwD_9 rfl) (by decide +kernel) rfl
theorem dL_law_595 : decode cL_law 595 = .ok (.iconst 2, 1) := dec_w [0x05] (pc9 (k := 576) (j := 19) lwD_9 rfl) (by decide +kernel) rfl
theorem dL_law_596 : decode cL_law 596 = .ok (.iadd, 1) := dec_w [0x60] (pc9 (k := 576) (j := 20) lwD_9 rfl) (by decide +kernel) rfl
theorem dL_law_597 : decode cL_law 597 = .ok (.iaload, 1) := dec_w [0x2e] (pc9 (k := 576) (j := 21) lwD_9 rfl) (by decide +kernel) rfl
theorem dL_law_598 : decode cL_law 598 = .ok (.aload_n 0, 1) := dec_w [0x2a] (pc9 (k := 576) (j := 22) lwD_9 rfl) (by decide +kernel) rfl
theorem dL_law_599 : decode cL_law 599 = .ok (.iload 5, 2) := dec_w [0x15, 0x05] (pc9 (k := 576) (j := 23) lwD_9 rfl) (by decide +kernel) rfl
theorem dL_law_601 : decode cL_law 601 = .ok (.iconst 3, 1) := dec_w [0x06] (pc9 (k := 576) (j := 25) lwD_9 rfl) (by decide +kernel) rfl
theorem dL_law_602 : decode cL_law 602 = .ok (.iadd, 1) := dec_w [0x60] (pc9 (k := 576) (j := 26) lwD_9 rfl) (by decide +kernel) rfl
theorem dL_law_603 : decode cL_law 603 = .ok (.iaload, 1) := dec_w [0x2e] (pc9 (k := 576) (j := 27) lwD_9 rfl) (by decide +kernel) rfl
theorem dL_law_604 : decode cL_law 604 = .ok (.invokevirtual 225, 3) := dec_w [0xb6, 0x00, 0xe1] (pc9 (k := 576) (j := 28) lwD_9 rfl) (by decide +kernel) rfl
theorem dL_law_607 : decode cL_law 607 = .ok (.istore 7, 2) := dec_w [0x36, 0x07] (pc9 (k := 576) (j := 31) lwD_9 rfl) (by decide +kernel) rfl
theorem dL_law_609 : decode cL_law 609 = .ok (.goto 2115, 3) := dec_w [0xa7, 0x08, 0x43] (pc9 (k := 576) (j := 33) lwD_9 rfl) (by decide +kernel) rfl
theorem dL_law_612 : decode cL_law 612 = .ok (.aload_n 1, 1) := dec_w [0x2b] (pc9 (k := 576) (j := 36) lwD_9 rfl) (by decide +kernel) rfl
theorem dL_law_613 : decode cL_law 613 = .ok (.aload_n 0, 1) := dec_w [0x2a] (pc9 (k := 576) (j := 37) lwD_9 rfl) (by decide +kernel) rfl
theorem dL_law_614 : decode cL_law 614 = .ok (.iload 5, 2) := dec_w [0x15, 0x05] (pc9 (k := 576) (j := 38) lwD_9 rfl) (by decide +kernel) rfl
theorem dL_law_616 : decode cL_law 616 = .ok (.iconst 1, 1) := dec_w [0x04] (pc9 (k := 576) (j := 40) lwD_9 rfl) (by decide +kernel) rfl
theorem dL_law_617 : decode cL_law 617 = .ok (.iadd, 1) := dec_w [0x60] (pc9 (k := 576) (j := 41) lwD_9 rfl) (by decide +kernel) rfl
theorem dL_law_618 : decode cL_law 618 = .ok (.iaload, 1) := dec_w [0x2e] (pc9 (k := 576) (j := 42) lwD_9 rfl) (by decide +kernel) rfl
theorem dL_law_619 : decode cL_law 619 = .ok (.aload_n 3, 1) := dec_w [0x2d] (pc9 (k := 576) (j := 43) lwD_9 rfl) (by decide +kernel) rfl
theorem dL_law_620 : decode cL_law 620 = .ok (.invokestatic 226, 3) := dec_w [0xb8, 0x00, 0xe2] (pc9 (k := 576) (j := 44) lwD_9 rfl) (by decide +kernel) rfl
theorem dL_law_623 : decode cL_law 623 = .ok (.istore 6, 2) := dec_w [0x36, 0x06] (pc9 (k := 576) (j := 47) lwD_9 rfl) (by decide +kernel) rfl
theorem dL_law_625 : decode cL_law 625 = .ok (.aload_n 2, 1) := dec_w [0x2c] (pc9 (k := 576) (j := 49) lwD_9 rfl) (by decide +kernel) rfl
theorem dL_law_626 : decode cL_law 626 = .ok (.aload_n 0, 1) := dec_w [0x2a] (pc9 (k := 576) (j := 50) lwD_9 rfl) (by decide +kernel) rfl
theorem dL_law_627 : decode cL_law 627 = .ok (.iload 5, 2) := dec_w [0x15, 0x05] (pc9 (k := 576) (j := 51) lwD_9 rfl) (by decide +kernel) rfl
theorem dL_law_629 : decode cL_law 629 = .ok (.iconst 1, 1) := dec_w [0x04] (pc9 (k := 576) (j := 53) lwD_9 rfl) (by decide +kernel) rfl
theorem dL_law_630 : decode cL_law 630 = .ok (.iadd, 1) := dec_w [0x60] (pc9 (k := 576) (j := 54) lwD_9 rfl) (by decide +kernel) rfl
theorem dL_law_631 : decode cL_law 631 = .ok (.iaload, 1) := dec_w [0x2e] (pc9 (k := 576) (j := 55) lwD_9 rfl) (by decide +kernel) rfl
theorem dL_law_632 : decode cL_law 632 = .ok (.invokevirtual 228, 3) := dec_w [0xb6, 0x00, 0xe4] (pc9 (k := 576) (j := 56) lwD_9 rfl) (by decide +kernel) rfl
theorem dL_law_635 : decode cL_law 635 = .ok (.istore 7, 2) := dec_w [0x36, 0x07] (pc9 (k := 576) (j := 59) lwD_9 rfl) (by decide +kernel) rfl
theorem dL_law_637 : decode cL_law 637 = .ok (.goto 2087, 3) := dec_w [0xa7, 0x08, 0x27] (pc9 (k := 576) (j := 61) lwD_9 rfl) (by decide +kernel) rfl
theorem dL_law_640 : decode cL_law 640 = .ok (.aload_n 1, 1) := dec_w [0x2b] (pc9 (k := 640) (j := 0) lwD_10 rfl) (by decide +kernel) rfl
theorem dL_law_641 : decode cL_law 641 = .ok (.aload_n 0, 1) := dec_w [0x2a] (pc9 (k := 640) (j := 1) lwD_10 rfl) (by decide +kernel) rfl
theorem dL_law_642 : decode cL_law 642 = .ok (.iload 5, 2) := dec_w [0x15, 0x05] (pc9 (k := 640) (j := 2) lwD_10 rfl) (by decide +kernel) rfl
theorem dL_law_644 : decode cL_law 644 = .ok (.iconst 1, 1) := dec_w [0x04] (pc9 (k := 640) (j := 4) lwD_10 rfl) (by decide +kernel) rfl
theorem dL_law_645 : decode cL_law 645 = .ok (.iadd, 1) := dec_w [0x60] (pc9 (k := 640) (j := 5) lwD_10 rfl) (by decide +kernel) rfl
theorem dL_law_646 : decode cL_law 646 = .ok (.iaload, 1) := dec_w [0x2e] (pc9 (k := 640) (j := 6) lwD_10 rfl) (by decide +kernel) rfl
theorem dL_law_647 : decode cL_law 647 = .ok (.aload_n 0, 1) := dec_w [0x2a] (pc9 (k := 640) (j := 7) lwD_10 rfl) (by decide +kernel) rfl
theorem dL_law_648 : decode cL_law 648 = .ok (.iload 5, 2) := dec_w [0x15, 0x05] (pc9 (k := 640) (j := 8) lwD_10 rfl) (by decide +kernel) rfl
theorem dL_law_650 : decode cL_law 650 = .ok (.iconst 2, 1) := dec_w [0x05] (pc9 (k := 640) (j := 10) lwD_10 rfl) (by decide +kernel) rfl
theorem dL_law_651 : decode cL_law 651 = .ok (.iadd, 1) := dec_w [0x60] (pc9 (k := 640) (j := 11) lwD_10 rfl) (by decide +kernel) rfl
theorem dL_law_652 : decode cL_law 652 = .ok (.iaload, 1) := dec_w [0x2e] (pc9 (k := 640) (j := 12) lwD_10 rfl) (by decide +kernel) rfl
theorem dL_law_653 : decode cL_law 653 = .ok (.aload_n 3, 1) := dec_w [0x2d] (pc9 (k := 640) (j := 13) lwD_10 rfl) (by decide +kernel) rfl
theorem dL_law_654 : decode cL_law 654 = .ok (.invokestatic 229, 3) := dec_w [0xb8, 0x00, 0xe5] (pc9 (k := 640) (j := 14) lwD_10 rfl) (by decide +kernel) rfl
theorem dL_law_657 : decode cL_law 657 = .ok (.istore 6, 2) := dec_w [0x36, 0x06] (pc9 (k := 640) (j := 17) lwD_10 rfl) (by decide +kernel) rfl
theorem dL_law_659 : decode cL_law 659 = .ok (.aload_n 2, 1) := dec_w [0x2c] (pc9 (k := 640) (j := 19) lwD_10 rfl) (by decide +kernel) rfl
theorem dL_law_660 : decode cL_law 660 = .ok (.aload_n 0, 1) := dec_w [0x2a] (pc9 (k := 640) (j := 20) lwD_10 rfl) (by decide +kernel) rfl
theorem dL_law_661 : decode cL_law 661 = .ok (.iload 5, 2) := dec_w [0x15, 0x05] (pc9 (k := 640) (j := 21) lwD_10 rfl) (by decide +kernel) rfl
theorem dL_law_663 : decode cL_law 663 = .ok (.iconst 1, 1) := dec_w [0x04] (pc9 (k := 640) (j := 23) lwD_10 rfl) (by decide +kernel) rfl
theorem dL_law_664 : decode cL_law 664 = .ok (.iadd, 1) := dec_w [0x60] (pc9 (k := 640) (j := 24) lwD_10 rfl) (by decide +kernel) rfl
theorem dL_law_665 : decode cL_law 665 = .ok (.iaload, 1) := dec_w [0x2e] (pc9 (k := 640) (j := 25) lwD_10 rfl) (by decide +kernel) rfl
theorem dL_law_666 : decode cL_law 666 = .ok (.aload_n 0, 1) := dec_w [0x2a] (pc9 (k := 640) (j := 26) lwD_10 rfl) (by decide +kernel) rfl
theorem dL_law_667 : decode cL_law 667 = .ok (.iload 5, 2) := dec_w [0x15, 0x05] (pc9 (k := 640) (j := 27) lwD_10 rfl) (by decide +kernel) rfl
theorem dL_law_669 : decode cL_law 669 = .ok (.iconst 2, 1) := dec_w [0x05] (pc9 (k := 640) (j := 29) lwD_10 rfl) (by decide +kernel) rfl
theorem dL_law_670 : decode cL_law 670 = .ok (.iadd, 1) := dec_w [0x60] (pc9 (k := 640) (j := 30) lwD_10 rfl) (by decide +kernel) rfl
theorem dL_law_671 : decode cL_law 671 = .ok (.iaload, 1) := dec_w [0x2e] (pc9 (k := 640) (j := 31) lwD_10 rfl) (by decide +kernel) rfl
theorem dL_law_672 : decode cL_law 672 = .ok (.invokevirtual 231, 3) := dec_w [0xb6, 0x00, 0xe7] (pc9 (k := 640) (j := 32) lwD_10 rfl) (by decide +kernel) rfl
theorem dL_law_675 : decode cL_law 675 = .ok (.istore 7, 2) := dec_w [0x36, 0x07] (pc9 (k := 640) (j := 35) lwD_10 rfl) (by decide +kernel) rfl
theorem dL_law_677 : decode cL_law 677 = .ok (.goto 2047, 3) := dec_w [0xa7, 0x07, 0xff] (pc9 (k := 640) (j := 37) lwD_10 rfl) (by decide +kernel) rfl
theorem dL_law_680 : decode cL_law 680 = .ok (.aload_n 1, 1) := dec_w [0x2b] (pc9 (k := 640) (j := 40) lwD_10 rfl) (by decide +kernel) rfl
theorem dL_law_681 : decode cL_law 681 = .ok (.aload_n 0, 1) := dec_w [0x2a] (pc9 (k := 640) (j := 41) lwD_10 rfl) (by decide +kernel) rfl
theorem dL_law_682 : decode cL_law 682 = .ok (.iload 5, 2) := dec_w [0x15, 0x05] (pc9 (k := 640) (j := 42) lwD_10 rfl) (by decide +kernel) rfl
theorem dL_law_684 : decode cL_law 684 = .ok (.iconst 1, 1) := dec_w [0x04] (pc9 (k := 640) (j := 44) lwD_10 rfl) (by decide +kernel) rfl
theorem dL_law_685 : decode cL_law 685 = .ok (.iadd, 1) := dec_w [0x60] (pc9 (k := 640) (j := 45) lwD_10 rfl) (by decide +kernel) rfl
theorem dL_law_686 : decode cL_law 686 = .ok (.iaload, 1) := dec_w [0x2e] (pc9 (k := 640) (j := 46) lwD_10 rfl) (by decide +kernel) rfl
theorem dL_law_687 : decode cL_law 687 = .ok (.aload_n 0, 1) := dec_w [0x2a] (pc9 (k := 640) (j := 47) lwD_10 rfl) (by decide +kernel) rfl
theorem dL_law_688 : decode cL_law 688 = .ok (.iload 5, 2) := dec_w [0x15, 0x05] (pc9 (k := 640) (j := 48) lwD_10 rfl) (by decide +kernel) rfl
theorem dL_law_690 : decode cL_law 690 = .ok (.iconst 2, 1) := dec_w [0x05] (pc9 (k := 640) (j := 50) lwD_10 rfl) (by decide +kernel) rfl
theorem dL_law_691 : decode cL_law 691 = .ok (.iadd, 1) := dec_w [0x60] (pc9 (k := 640) (j := 51) lwD_10 rfl) (by decide +kernel) rfl
theorem dL_law_692 : decode cL_law 692 = .ok (.iaload, 1) := dec_w [0x2e] (pc9 (k := 640) (j := 52) lwD_10 rfl) (by decide +kernel) rfl
theorem dL_law_693 : decode cL_law 693 = .ok (.aload_n 3, 1) := dec_w [0x2d] (pc9 (k := 640) (j := 53) lwD_10 rfl) (by decide +kernel) rfl
theorem dL_law_694 : decode cL_law 694 = .ok (.invokestatic 232, 3) := dec_w [0xb8, 0x00, 0xe8] (pc9 (k := 640) (j := 54) lwD_10 rfl) (by decide +kernel) rfl
theorem dL_law_697 : decode cL_law 697 = .ok (.istore 6, 2) := dec_w [0x36, 0x06] (pc9 (k := 640) (j := 57) lwD_10 rfl) (by decide +kernel) rfl
theorem dL_law_699 : decode cL_law 699 = .ok (.aload_n 2, 1) := dec_w [0x2c] (pc9 (k := 640) (j := 59) lwD_10 rfl) (by decide +kernel) rfl
theorem dL_law_700 : decode cL_law 700 = .ok (.aload_n 0, 1) := dec_w [0x2a] (pc9 (k := 640) (j := 60) lwD_10 rfl) (by decide +kernel) rfl
theorem dL_law_701 : decode cL_law 701 = .ok (.iload 5, 2) := dec_w [0x15, 0x05] (pc9 (k := 640) (j := 61) lwD_10 rfl) (by decide +kernel) rfl
theorem dL_law_703 : decode cL_law 703 = .ok (.iconst 1, 1) := dec_w [0x04] (pc9 (k := 640) (j := 63) lwD_10 rfl) (by decide +kernel) rfl
theorem dL_law_704 : decode cL_law 704 = .ok (.iadd, 1) := dec_w [0x60] (pc9 (k := 704) (j := 0) lwD_11 rfl) (by decide +kernel) rfl
theorem dL_law_705 : decode cL_law 705 = .ok (.iaload, 1) := dec_w [0x2e] (pc9 (k := 704) (j := 1) lwD_11 rfl) (by decide +kernel) rfl
theorem dL_law_706 : decode cL_law 706 = .ok (.aload_n 0, 1) := dec_w [0x2a] (pc9 (k := 704) (j := 2) lwD_11 rfl) (by decide +kernel) rfl
theorem dL_law_707 : decode cL_law 707 = .ok (.iload 5, 2) := dec_w [0x15, 0x05] (pc9 (k := 704) (j := 3) lwD_11 rfl) (by decide +kernel) rfl
theorem dL_law_709 : decode cL_law 709 = .ok (.iconst 2, 1) := dec_w [0x05] (pc9 (k := 704) (j := 5) lwD_11 rfl) (by decide +kernel) rfl
theorem dL_law_710 : decode cL_law 710 = .ok (.iadd, 1) := dec_w [0x60] (pc9 (k := 704) (j := 6) lwD_11 rfl) (by decide +kernel) rfl
theorem dL_law_711 : decode cL_law 711 = .ok (.iaload, 1) := dec_w [0x2e] (pc9 (k := 704) (j := 7) lwD_11 rfl) (by decide +kernel) rfl
theorem dL_law_712 : decode cL_law 712 = .ok (.invokevirtual 234, 3) := dec_w [0xb6, 0x00, 0xea] (pc9 (k := 704) (j := 8) lwD_11 rfl) (by decide +kernel) rfl
theorem dL_law_715 : decode cL_law 715 = .ok (.istore 7, 2) := dec_w [0x36, 0x07] (pc9 (k := 704) (j := 11) lwD_11 rfl) (by decide +kernel) rfl
theorem dL_law_717 : decode cL_law 717 = .ok (.goto 2007, 3) := dec_w [0xa7, 0x07, 0xd7] (pc9 (k := 704) (j := 13) lwD_11 rfl) (by decide +kernel) rfl
theorem dL_law_720 : decode cL_law 720 = .ok (.aload_n 1, 1) := dec_w [0x2b] (pc9 (k := 704) (j := 16) lwD_11 rfl) (by decide +kernel) rfl
theorem dL_law_721 : decode cL_law 721 = .ok (.aload_n 0, 1) := dec_w [0x2a] (pc9 (k := 704) (j := 17) lwD_11 rfl) (by decide +kernel) rfl
theorem dL_law_722 : decode cL_law 722 = .ok (.iload 5, 2) := dec_w [0x15, 0x05] (pc9 (k := 704) (j := 18) lwD_11 rfl) (by decide +kernel) rfl
theorem dL_law_724 : decode cL_law 724 = .ok (.iconst 1, 1) := dec_w [0x04] (pc9 (k := 704) (j := 20) lwD_11 rfl) (by decide +kernel) rfl
theorem dL_law_725 : decode cL_law 725 = .ok (.iadd, 1) := dec_w [0x60] (pc9 (k := 704) (j := 21) lwD_11 rfl) (by decide +kernel) rfl
theorem dL_law_726 : decode cL_law 726 = .ok (.iaload, 1) := dec_w [0x2e] (pc9 (k := 704) (j := 22) lwD_11 rfl) (by decide +kernel) rfl
theorem dL_law_727 : decode cL_law 727 = .ok (.aload_n 3, 1) := dec_w [0x2d] (pc9 (k := 704) (j := 23) lwD_11 rfl) (by decide +kernel) rfl
theorem dL_law_728 : decode cL_law 728 = .ok (.invokestatic 235, 3) := dec_w [0xb8, 0x00, 0xeb] (pc9 (k := 704) (j := 24) lwD_11 rfl) (by decide +kernel) rfl
theorem dL_law_731 : decode cL_law 731 = .ok (.istore 6, 2) := dec_w [0x36, 0x06] (pc9 (k := 704) (j := 27) lwD_11 rfl) (by decide +kernel) rfl
theorem dL_law_733 : decode cL_law 733 = .ok (.aload_n 2, 1) := dec_w [0x2c] (pc9 (k := 704) (j := 29) lwD_11 rfl) (by decide +kernel) rfl
theorem dL_law_734 : decode cL_law 734 = .ok (.aload_n 0, 1) := dec_w [0x2a] (pc9 (k := 704) (j := 30) lwD_11 rfl) (by decide +kernel) rfl
theorem dL_law_735 : decode cL_law 735 = .ok (.iload 5, 2) := dec_w [0x15, 0x05] (pc9 (k := 704) (j := 31) lwD_11 rfl) (by decide +kernel) rfl
theorem dL_law_737 : decode cL_law 737 = .ok (.iconst 1, 1) := dec_w [0x04] (pc9 (k := 704) (j := 33) lwD_11 rfl) (by decide +kernel) rfl
theorem dL_law_738 : decode cL_law 738 = .ok (.iadd, 1) := dec_w [0x60] (pc9 (k := 704) (j := 34) lwD_11 rfl) (by decide +kernel) rfl
theorem dL_law_739 : decode cL_law 739 = .ok (.iaload, 1) := dec_w [0x2e] (pc9 (k := 704) (j := 35) lwD_11 rfl) (by decide +kernel) rfl
theorem dL_law_740 : decode cL_law 740 = .ok (.invokevirtual 237, 3) := dec_w [0xb6, 0x00, 0xed] (pc9 (k := 704) (j := 36) lwD_11 rfl) (by decide +kernel) rfl
theorem dL_law_743 : decode cL_law 743 = .ok (.istore 7, 2) := dec_w [0x36, 0x07] (pc9 (k := 704) (j := 39) lwD_11 rfl) (by decide +kernel) rfl
theorem dL_law_745 : decode cL_law 745 = .ok (.goto 1979, 3) := dec_w [0xa7, 0x07, 0xbb] (pc9 (k := 704) (j := 41) lwD_11 rfl) (by decide +kernel) rfl
theorem dL_law_748 : decode cL_law 748 = .ok (.aload_n 1, 1) := dec_w [0x2b] (pc9 (k := 704) (j := 44) lwD_11 rfl) (by decide +kernel) rfl
theorem dL_law_749 : decode cL_law 749 = .ok (.aload_n 0, 1) := dec_w [0x2a] (pc9 (k := 704) (j := 45) lwD_11 rfl) (by decide +kernel) rfl
theorem dL_law_750 : decode cL_law 750 = .ok (.iload 5, 2) := dec_w [0x15, 0x05] (pc9 (k := 704) (j := 46) lwD_11 rfl) (by decide +kernel) rfl
theorem dL_law_752 : decode cL_law 752 = .ok (.iconst 1, 1) := dec_w [0x04] (pc9 (k := 704) (j := 48) lwD_11 rfl) (by decide +kernel) rfl
theorem dL_law_753 : decode cL_law 753 = .ok (.iadd, 1) := dec_w [0x60] (pc9 (k := 704) (j := 49) lwD_11 rfl) (by decide +kernel) rfl
theorem dL_law_754 : decode cL_law 754 = .ok (.iaload, 1) := dec_w [0x2e] (pc9 (k := 704) (j := 50) lwD_11 rfl) (by decide +kernel) rfl
theorem dL_law_755 : decode cL_law 755 = .ok (.aload_n 0, 1) := dec_w [0x2a] (pc9 (k := 704) (j := 51) lwD_11 rfl) (by decide +kernel) rfl
theorem dL_law_756 : decode cL_law 756 = .ok (.iload 5, 2) := dec_w [0x15, 0x05] (pc9 (k := 704) (j := 52) lwD_11 rfl) (by decide +kernel) rfl
theorem dL_law_758 : decode cL_law 758 = .ok (.iconst 2, 1) := dec_w [0x05] (pc9 (k := 704) (j := 54) lwD_11 rfl) (by decide +kernel) rfl
theorem dL_law_759 : decode cL_law 759 = .ok (.iadd, 1) := dec_w [0x60] (pc9 (k := 704) (j := 55) lwD_11 rfl) (by decide +kernel) rfl
theorem dL_law_760 : decode cL_law 760 = .ok (.iaload, 1) := dec_w [0x2e] (pc9 (k := 704) (j := 56) lwD_11 rfl) (by decide +kernel) rfl
theorem dL_law_761 : decode cL_law 761 = .ok (.aload_n 3, 1) := dec_w [0x2d] (pc9 (k := 704) (j := 57) lwD_11 rfl) (by decide +kernel) rfl
theorem dL_law_762 : decode cL_law 762 = .ok (.invokestatic 238, 3) := dec_w [0xb8, 0x00, 0xee] (pc9 (k := 704) (j := 58) lwD_11 rfl) (by decide +kernel) rfl
theorem dL_law_765 : decode cL_law 765 = .ok (.istore 6, 2) := dec_w [0x36, 0x06] (pc9 (k := 704) (j := 61) lwD_11 rfl) (by decide +kernel) rfl
theorem dL_law_767 : decode cL_law 767 = .ok (.aload_n 2, 1) := dec_w [0x2c] (pc9 (k := 704) (j := 63) lwD_11 rfl) (by decide +kernel) rfl
theorem dL_law_768 : decode cL_law 768 = .ok (.aload_n 0, 1) := dec_w [0x2a] (pc9 (k := 768) (j := 0) lwD_12 rfl) (by decide +kernel) rfl
theorem dL_law_769 : decode cL_law 769 = .ok (.iload 5, 2) := dec_w [0x15, 0x05] (pc9 (k := 768) (j := 1) lwD_12 rfl) (by decide +kernel) rfl
theorem dL_law_771 : decode cL_law 771 = .ok (.iconst 1, 1) := dec_w [0x04] (pc9 (k := 768) (j := 3) lwD_12 rfl) (by decide +kernel) rfl
theorem dL_law_772 : decode cL_law 772 = .ok (.iadd, 1) := dec_w [0x60] (pc9 (k := 768) (j := 4) lwD_12 rfl) (by decide +kernel) rfl
theorem dL_law_773 : decode cL_law 773 = .ok (.iaload, 1) := dec_w [0x2e] (pc9 (k := 768) (j := 5) lwD_12 rfl) (by decide +kernel) rfl
theorem dL_law_774 : decode cL_law 774 = .ok (.aload_n 0, 1) := dec_w [0x2a] (pc9 (k := 768) (j := 6) lwD_12 rfl) (by decide +kernel) rfl
theorem dL_law_775 : decode cL_law 775 = .ok (.iload 5, 2) := dec_w [0x15, 0x05] (pc9 (k := 768) (j := 7) lwD_12 rfl) (by decide +kernel) rfl
theorem dL_law_777 : decode cL_law 777 = .ok (.iconst 2, 1) := dec_w [0x05] (pc9 (k := 768) (j := 9) lwD_12 rfl) (by decide +kernel) rfl
theorem dL_law_778 : decode cL_law 778 = .ok (.iadd, 1) := dec_w [0x60] (pc9 (k := 768) (j := 10) lwD_12 rfl) (by decide +kernel) rfl
theorem dL_law_779 : decode cL_law 779 = .ok (.iaload, 1) := dec_w [0x2e] (pc9 (k := 768) (j := 11) lwD_12 rfl) (by decide +kernel) rfl
theorem dL_law_780 : decode cL_law 780 = .ok (.invokevirtual 240, 3) := dec_w [0xb6, 0x00, 0xf0] (pc9 (k := 768) (j := 12) lwD_12 rfl) (by decide +kernel) rfl
theorem dL_law_783 : decode cL_law 783 = .ok (.istore 7, 2) := dec_w [0x36, 0x07] (pc9 (k := 768) (j := 15) lwD_12 rfl) (by decide +kernel) rfl
theorem dL_law_785 : decode cL_law 785 = .ok (.goto 1939, 3) := dec_w [0xa7, 0x07, 0x93] (pc9 (k := 768) (j := 17) lwD_12 rfl) (by decide +kernel) rfl
theorem dL_law_788 : decode cL_law 788 = .ok (.aload_n 1, 1) := dec_w [0x2b] (pc9 (k := 768) (j := 20) lwD_12 rfl) (by decide +kernel) rfl
theorem dL_law_789 : decode cL_law 789 = .ok (.aload_n 0, 1) := dec_w [0x2a] (pc9 (k := 768) (j := 21) lwD_12 rfl) (by decide +kernel) rfl
theorem dL_law_790 : decode cL_law 790 = .ok (.iload 5, 2) := dec_w [0x15, 0x05] (pc9 (k := 768) (j := 22) lwD_12 rfl) (by decide +kernel) rfl
theorem dL_law_792 : decode cL_law 792 = .ok (.iconst 1, 1) := dec_w [0x04] (pc9 (k := 768) (j := 24) lwD_12 rfl) (by decide +kernel) rfl
theorem dL_law_793 : decode cL_law 793 = .ok (.iadd, 1) := dec_w [0x60] (pc9 (k := 768) (j := 25) lwD_12 rfl) (by decide +kernel) rfl
theorem dL_law_794 : decode cL_law 794 = .ok (.iaload, 1) := dec_w [0x2e] (pc9 (k := 768) (j := 26) lwD_12 rfl) (by decide +kernel) rfl
theorem dL_law_795 : decode cL_law 795 = .ok (.aload_n 0, 1) := dec_w [0x2a] (pc9 (k := 768) (j := 27) lwD_12 rfl) (by decide +kernel) rfl
theorem dL_law_796 : decode cL_law 796 = .ok (.iload 5, 2) := dec_w [0x15, 0x05] (pc9 (k := 768) (j := 28) lwD_12 rfl) (by decide +kernel) rfl
theorem dL_law_798 : decode cL_law 798 = .ok (.iconst 2, 1) := dec_w [0x05] (pc9 (k := 768) (j := 30) lwD_12 rfl) (by decide +kernel) rfl
theorem dL_law_799 : decode cL_law 799 = .ok (.iadd, 1) := dec_w [0x60] (pc9 (k := 768) (j := 31) lwD_12 rfl) (by decide +kernel) rfl
theorem dL_law_800 : decode cL_law 800 = .ok (.iaload, 1) := dec_w [0x2e] (pc9 (k := 768) (j := 32) lwD_12 rfl) (by decide +kernel) rfl
theorem dL_law_801 : decode cL_law 801 = .ok (.i2l, 1) := dec_w [0x85] (pc9 (k := 768) (j := 33) lwD_12 rfl) (by decide +kernel) rfl
theorem dL_law_802 : decode cL_law 802 = .ok (.bipush 32, 2) := dec_w [0x10, 0x20] (pc9 (k := 768) (j := 34) lwD_12 rfl) (by decide +kernel) rfl
theorem dL_law_804 : decode cL_law 804 = .ok (.lshl, 1) := dec_w [0x79] (pc9 (k := 768) (j := 36) lwD_12 rfl) (by decide +kernel) rfl
theorem dL_law_805 : decode cL_law 805 = .ok (.aload_n 0, 1) := dec_w [0x2a] (pc9 (k := 768) (j := 37) lwD_12 rfl) (by decide +kernel) rfl
theorem dL_law_806 : decode cL_law 806 = .ok (.iload 5, 2) := dec_w [0x15, 0x05] (pc9 (k := 768) (j := 38) lwD_12 rfl) (by decide +kernel) rfl
theorem dL_law_808 : decode cL_law 808 = .ok (.iconst 3, 1) := dec_w [0x06] (pc9 (k := 768) (j := 40) lwD_12 rfl) (by decide +kernel) rfl
theorem dL_law_809 : decode cL_law 809 = .ok (.iadd, 1) := dec_w [0x60] (pc9 (k := 768) (j := 41) lwD_12 rfl) (by decide +kernel) rfl
theorem dL_law_810 : decode cL_law 810 = .ok (.iaload, 1) := dec_w [0x2e] (pc9 (k := 768) (j := 42) lwD_12 rfl) (by decide +kernel) rfl
theorem dL_law_811 : decode cL_law 811 = .ok (.i2l, 1) := dec_w [0x85] (pc9 (k := 768) (j := 43) lwD_12 rfl) (by decide +kernel) rfl
theorem dL_law_812 : decode cL_law 812 = .ok (.ldc2_w 186, 3) := dec_w [0x14, 0x00, 0xba] (pc9 (k := 768) (j := 44) lwD_12 rfl) (by decide +kernel) rfl
theorem dL_law_815 : decode cL_law 815 = .ok (.land, 1) := dec_w [0x7f] (pc9 (k := 768) (j := 47) lwD_12 rfl) (by decide +kernel) rfl
theorem dL_law_816 : decode cL_law 816 = .ok (.lor, 1) := dec_w [0x81] (pc9 (k := 768) (j := 48) lwD_12 rfl) (by decide +kernel) rfl
theorem dL_law_817 : decode cL_law 817 = .ok (.aload_n 3, 1) := dec_w [0x2d] (pc9 (k := 768) (j := 49) lwD_12 rfl) (by decide +kernel) rfl
theorem dL_law_818 : decode cL_law 818 = .ok (.invokestatic 241, 3) := dec_w [0xb8, 0x00, 0xf1] (pc9 (k := 768) (j := 50) lwD_12 rfl) (by decide +kernel) rfl
theorem dL_law_821 : decode cL_law 821 = .ok (.istore 6, 2) := dec_w [0x36, 0x06] (pc9 (k := 768) (j := 53) lwD_12 rfl) (by decide +kernel) rfl
theorem dL_law_823 : decode cL_law 823 = .ok (.aload_n 2, 1) := dec_w [0x2c] (pc9 (k := 768) (j := 55) lwD_12 rfl) (by decide +kernel) rfl
theorem dL_law_824 : decode cL_law 824 = .ok (.aload_n 0, 1) := dec_w [0x2a] (pc9 (k := 768) (j := 56) lwD_12 rfl) (by decide +kernel) rfl
theorem dL_law_825 : decode cL_law 825 = .ok (.iload 5, 2) := dec_w [0x15, 0x05] (pc9 (k := 768) (j := 57) lwD_12 rfl) (by decide +kernel) rfl
theorem dL_law_827 : decode cL_law 827 = .ok (.iconst 1, 1) := dec_w [0x04] (pc9 (k := 768) (j := 59) lwD_12 rfl) (by decide +kernel) rfl
theorem dL_law_828 : decode cL_law 828 = .ok (.iadd, 1) := dec_w [0x60] (pc9 (k := 768) (j := 60) lwD_12 rfl) (by decide +kernel) rfl
theorem dL_law_829 : decode cL_law 829 = .ok (.iaload, 1) := dec_w [0x2e] (pc9 (k := 768) (j := 61) lwD_12 rfl) (by decide +kernel) rfl
theorem dL_law_830 : decode cL_law 830 = .ok (.aload_n 0, 1) := dec_w [0x2a] (pc9 (k := 768) (j := 62) lwD_12 rfl) (by decide +kernel) rfl
theorem dL_law_831 : decode cL_law 831 = .ok (.iload 5, 2) := dec_w [0x15, 0x05] (pc9 (k := 768) (j := 63) lwD_12 rfl) (by decide +kernel) rfl
theorem dL_law_833 : decode cL_law 833 = .ok (.iconst 2, 1) := dec_w [0x05] (pc9 (k := 832) (j := 1) lwD_13 rfl) (by decide +kernel) rfl
theorem dL_law_834 : decode cL_law 834 = .ok (.iadd, 1) := dec_w [0x60] (pc9 (k := 832) (j := 2) lwD_13 rfl) (by decide +kernel) rfl
theorem dL_law_835 : decode cL_law 835 = .ok (.iaload, 1) := dec_w [0x2e] (pc9 (k := 832) (j := 3) lwD_13 rfl) (by decide +kernel) rfl
theorem dL_law_836 : decode cL_law 836 = .ok (.i2l, 1) := dec_w [0x85] (pc9 (k := 832) (j := 4) lwD_13 rfl) (by decide +kernel) rfl
theorem dL_law_837 : decode cL_law 837 = .ok (.bipush 32, 2) := dec_w [0x10, 0x20] (pc9 (k := 832) (j := 5) lwD_13 rfl) (by decide +kernel) rfl
theorem dL_law_839 : decode cL_law 839 = .ok (.lshl, 1) := dec_w [0x79] (pc9 (k := 832) (j := 7) lwD_13 rfl) (by decide +kernel) rfl
theorem dL_law_840 : decode cL_law 840 = .ok (.aload_n 0, 1) := dec_w [0x2a] (pc9 (k := 832) (j := 8) lwD_13 rfl) (by decide +kernel) rfl
theorem dL_law_841 : decode cL_law 841 = .ok (.iload 5, 2) := dec_w [0x15, 0x05] (pc9 (k := 832) (j := 9) lwD_13 rfl) (by decide +kernel) rfl
theorem dL_law_843 : decode cL_law 843 = .ok (.iconst 3, 1) := dec_w [0x06] (pc9 (k := 832) (j := 11) lwD_13 rfl) (by decide +kernel) rfl
theorem dL_law_844 : decode cL_law 844 = .ok (.iadd, 1) := dec_w [0x60] (pc9 (k := 832) (j := 12) lwD_13 rfl) (by decide +kernel) rfl
theorem dL_law_845 : decode cL_law 845 = .ok (.iaload, 1) := dec_w [0x2e] (pc9 (k := 832) (j := 13) lwD_13 rfl) (by decide +kernel) rfl
theorem dL_law_846 : decode cL_law 846 = .ok (.i2l, 1) := dec_w [0x85] (pc9 (k := 832) (j := 14) lwD_13 rfl) (by decide +kernel) rfl
theorem dL_law_847 : decode cL_law 847 = .ok (.ldc2_w 186, 3) := dec_w [0x14, 0x00, 0xba] (pc9 (k := 832) (j := 15) lwD_13 rfl) (by decide +kernel) rfl
theorem dL_law_850 : decode cL_law 850 = .ok (.land, 1) := dec_w [0x7f] (pc9 (k := 832) (j := 18) lwD_13 rfl) (by decide +kernel) rfl
theorem dL_law_851 : decode cL_law 851 = .ok (.lor, 1) := dec_w [0x81] (pc9 (k := 832) (j := 19) lwD_13 rfl) (by decide +kernel) rfl
theorem dL_law_852 : decode cL_law 852 = .ok (.invokevirtual 244, 3) := dec_w [0xb6, 0x00, 0xf4] (pc9 (k := 832) (j := 20) lwD_13 rfl) (by decide +kernel) rfl
theorem dL_law_855 : decode cL_law 855 = .ok (.istore 7, 2) := dec_w [0x36, 0x07] (pc9 (k := 832) (j := 23) lwD_13 rfl) (by decide +kernel) rfl
theorem dL_law_857 : decode cL_law 857 = .ok (.goto 1867, 3) := dec_w [0xa7, 0x07, 0x4b] (pc9 (k := 832) (j := 25) lwD_13 rfl) (by decide +kernel) rfl
theorem dL_law_860 : decode cL_law 860 = .ok (.aload_n 1, 1) := dec_w [0x2b] (pc9 (k := 832) (j := 28) lwD_13 rfl) (by decide +kernel) rfl
theorem dL_law_861 : decode cL_law 861 = .ok (.aload_n 0, 1) := dec_w [0x2a] (pc9 (k := 832) (j := 29) lwD_13 rfl) (by decide +kernel) rfl
theorem dL_law_862 : decode cL_law 862 = .ok (.iload 5, 2) := dec_w [0x15, 0x05] (pc9 (k := 832) (j := 30) lwD_13 rfl) (by decide +kernel) rfl
theorem dL_law_864 : decode cL_law 864 = .ok (.iconst 1, 1) := dec_w [0x04] (pc9 (k := 832) (j := 32) lwD_13 rfl) (by decide +kernel) rfl
theorem dL_law_865 : decode cL_law 865 = .ok (.iadd, 1) := dec_w [0x60] (pc9 (k := 832) (j := 33) lwD_13 rfl) (by decide +kernel) rfl
theorem dL_law_866 : decode cL_law 866 = .ok (.iaload, 1) := dec_w [0x2e] (pc9 (k := 832) (j := 34) lwD_13 rfl) (by decide +kernel) rfl
theorem dL_law_867 : decode cL_law 867 = .ok (.aload_n 0, 1) := dec_w [0x2a] (pc9 (k := 832) (j := 35) lwD_13 rfl) (by decide +kernel) rfl
theorem dL_law_868 : decode cL_law 868 = .ok (.iload 5, 2) := dec_w [0x15, 0x05] (pc9 (k := 832) (j := 36) lwD_13 rfl) (by decide +kernel) rfl
theorem dL_law_870 : decode cL_law 870 = .ok (.iconst 2, 1) := dec_w [0x05] (pc9 (k := 832) (j := 38) lwD_13 rfl) (by decide +kernel) rfl
theorem dL_law_871 : decode cL_law 871 = .ok (.iadd, 1) := dec_w [0x60] (pc9 (k := 832) (j := 39) lwD_13 rfl) (by decide +kernel) rfl
theorem dL_law_872 : decode cL_law 872 = .ok (.iaload, 1) := dec_w [0x2e] (pc9 (k := 832) (j := 40) lwD_13 rfl) (by decide +kernel) rfl
theorem dL_law_873 : decode cL_law 873 = .ok (.aload_n 3, 1) := dec_w [0x2d] (pc9 (k := 832) (j := 41) lwD_13 rfl) (by decide +kernel) rfl
theorem dL_law_874 : decode cL_law 874 = .ok (.invokestatic 245, 3) := dec_w [0xb8, 0x00, 0xf5] (pc9 (k := 832) (j := 42) lwD_13 rfl) (by decide +kernel) rfl
theorem dL_law_877 : decode cL_law 877 = .ok (.istore 6, 2) := dec_w [0x36, 0x06] (pc9 (k := 832) (j := 45) lwD_13 rfl) (by decide +kernel) rfl
theorem dL_law_879 : decode cL_law 879 = .ok (.aload_n 2, 1) := dec_w [0x2c] (pc9 (k := 832) (j := 47) lwD_13 rfl) (by decide +kernel) rfl
theorem dL_law_880 : decode cL_law 880 = .ok (.aload_n 0, 1) := dec_w [0x2a] (pc9 (k := 832) (j := 48) lwD_13 rfl) (by decide +kernel) rfl
theorem dL_law_881 : decode cL_law 881 = .ok (.iload 5, 2) := dec_w [0x15, 0x05] (pc9 (k := 832) (j := 49) lwD_13 rfl) (by decide +kernel) rfl
theorem dL_law_883 : decode cL_law 883 = .ok (.iconst 1, 1) := dec_w [0x04] (pc9 (k := 832) (j := 51) lwD_13 rfl) (by decide +kernel) rfl
theorem dL_law_884 : decode cL_law 884 = .ok (.iadd, 1) := dec_w [0x60] (pc9 (k := 832) (j := 52) lwD_13 rfl) (by decide +kernel) rfl
theorem dL_law_885 : decode cL_law 885 = .ok (.iaload, 1) := dec_w [0x2e] (pc9 (k := 832) (j := 53) lwD_13 rfl) (by decide +kernel) rfl
theorem dL_law_886 : decode cL_law 886 = .ok (.aload_n 0, 1) := dec_w [0x2a] (pc9 (k := 832) (j := 54) lwD_13 rfl) (by decide +kernel) rfl
theorem dL_law_887 : decode cL_law 887 = .ok (.iload 5, 2) := dec_w [0x15, 0x05] (pc9 (k := 832) (j := 55) lwD_13 rfl) (by decide +kernel) rfl
theorem dL_law_889 : decode cL_law 889 = .ok (.iconst 2, 1) := dec_w [0x05] (pc9 (k := 832) (j := 57) lwD_13 rfl) (by decide +kernel) rfl
theorem dL_law_890 : decode cL_law 890 = .ok (.iadd, 1) := dec_w [0x60] (pc9 (k := 832) (j := 58) lwD_13 rfl) (by decide +kernel) rfl
theorem dL_law_891 : decode cL_law 891 = .ok (.iaload, 1) := dec_w [0x2e] (pc9 (k := 832) (j := 59) lwD_13 rfl) (by decide +kernel) rfl
theorem dL_law_892 : decode cL_law 892 = .ok (.invokevirtual 247, 3) := dec_w [0xb6, 0x00, 0xf7] (pc9 (k := 832) (j := 60) lwD_13 rfl) (by decide +kernel) rfl
theorem dL_law_895 : decode cL_law 895 = .ok (.istore 7, 2) := dec_w [0x36, 0x07] (pc9 (k := 832) (j := 63) lwD_13 rfl) (by decide +kernel) rfl
theorem dL_law_897 : decode cL_law 897 = .ok (.goto 1827, 3) := dec_w [0xa7, 0x07, 0x23] (pc9 (k := 896) (j := 1) lwD_14 rfl) (by decide +kernel) rfl
theorem dL_law_900 : decode cL_law 900 = .ok (.aload_n 1, 1) := dec_w [0x2b] (pc9 (k := 896) (j := 4) lwD_14 rfl) (by decide +kernel) rfl
theorem dL_law_901 : decode cL_law 901 = .ok (.aload_n 0, 1) := dec_w [0x2a] (pc9 (k := 896) (j := 5) lwD_14 rfl) (by decide +kernel) rfl
theorem dL_law_902 : decode cL_law 902 = .ok (.iload 5, 2) := dec_w [0x15, 0x05] (pc9 (k := 896) (j := 6) lwD_14 rfl) (by decide +kernel) rfl
theorem dL_law_904 : decode cL_law 904 = .ok (.iconst 1, 1) := dec_w [0x04] (pc9 (k := 896) (j := 8) lwD_14 rfl) (by decide +kernel) rfl
theorem dL_law_905 : decode cL_law 905 = .ok (.iadd, 1) := dec_w [0x60] (pc9 (k := 896) (j := 9) lwD_14 rfl) (by decide +kernel) rfl
theorem dL_law_906 : decode cL_law 906 = .ok (.iaload, 1) := dec_w [0x2e] (pc9 (k := 896) (j := 10) lwD_14 rfl) (by decide +kernel) rfl
theorem dL_law_907 : decode cL_law 907 = .ok (.aload 4, 2) := dec_w [0x19, 0x04] (pc9 (k := 896) (j := 11) lwD_14 rfl) (by decide +kernel) rfl
theorem dL_law_909 : decode cL_law 909 = .ok (.invokestatic 248, 3) := dec_w [0xb8, 0x00, 0xf8] (pc9 (k := 896) (j := 13) lwD_14 rfl) (by decide +kernel) rfl
theorem dL_law_912 : decode cL_law 912 = .ok (.istore 6, 2) := dec_w [0x36, 0x06] (pc9 (k := 896) (j := 16) lwD_14 rfl) (by decide +kernel) rfl
theorem dL_law_914 : decode cL_law 914 = .ok (.aload_n 2, 1) := dec_w [0x2c] (pc9 (k := 896) (j := 18) lwD_14 rfl) (by decide +kernel) rfl
theorem dL_law_915 : decode cL_law 915 = .ok (.aload_n 0, 1) := dec_w [0x2a] (pc9 (k := 896) (j := 19) lwD_14 rfl) (by decide +kernel) rfl
theorem dL_law_916 : decode cL_law 916 = .ok (.iload 5, 2) := dec_w [0x15, 0x05] (pc9 (k := 896) (j := 20) lwD_14 rfl) (by decide +kernel) rfl
theorem dL_law_918 : decode cL_law 918 = .ok (.iconst 1, 1) := dec_w [0x04] (pc9 (k := 896) (j := 22) lwD_14 rfl) (by decide +kernel) rfl
theorem dL_law_919 : decode cL_law 919 = .ok (.iadd, 1) := dec_w [0x60] (pc9 (k := 896) (j := 23) lwD_14 rfl) (by decide +kernel) rfl
theorem dL_law_920 : decode cL_law 920 = .ok (.iaload, 1) := dec_w [0x2e] (pc9 (k := 896) (j := 24) lwD_14 rfl) (by decide +kernel) rfl
theorem dL_law_921 : decode cL_law 921 = .ok (.invokevirtual 251, 3) := dec_w [0xb6, 0x00, 0xfb] (pc9 (k := 896) (j := 25) lwD_14 rfl) (by decide +kernel) rfl
theorem dL_law_924 : decode cL_law 924 = .ok (.dstore 7, 2) := dec_w [0x39, 0x07] (pc9 (k := 896) (j := 28) lwD_14 rfl) (by decide +kernel) rfl
theorem dL_law_926 : decode cL_law 926 = .ok (.goto 1798, 3) := dec_w [0xa7, 0x07, 0x06] (pc9 (k := 896) (j := 30) lwD_14 rfl) (by decide +kernel) rfl
theorem dL_law_929 : decode cL_law 929 = .ok (.aload_n 1, 1) := dec_w [0x2b] (pc9 (k := 896) (j := 33) lwD_14 rfl) (by decide +kernel) rfl
theorem dL_law_930 : decode cL_law 930 = .ok (.aload_n 0, 1) := dec_w [0x2a] (pc9 (k := 896) (j := 34) lwD_14 rfl) (by decide +kernel) rfl
theorem dL_law_931 : decode cL_law 931 = .ok (.iload 5, 2) := dec_w [0x15, 0x05] (pc9 (k := 896) (j := 35) lwD_14 rfl) (by decide +kernel) rfl
theorem dL_law_933 : decode cL_law 933 = .ok (.iconst 1, 1) := dec_w [0x04] (pc9 (k := 896) (j := 37) lwD_14 rfl) (by decide +kernel) rfl
theorem dL_law_934 : decode cL_law 934 = .ok (.iadd, 1) := dec_w [0x60] (pc9 (k := 896) (j := 38) lwD_14 rfl) (by decide +kernel) rfl
theorem dL_law_935 : decode cL_law 935 = .ok (.iaload, 1) := dec_w [0x2e] (pc9 (k := 896) (j := 39) lwD_14 rfl) (by decide +kernel) rfl
theorem dL_law_936 : decode cL_law 936 = .ok (.aload_n 3, 1) := dec_w [0x2d] (pc9 (k := 896) (j := 40) lwD_14 rfl) (by decide +kernel) rfl
theorem dL_law_937 : decode cL_law 937 = .ok (.invokestatic 252, 3) := dec_w [0xb8, 0x00, 0xfc] (pc9 (k := 896) (j := 41) lwD_14 rfl) (by decide +kernel) rfl
theorem dL_law_940 : decode cL_law 940 = .ok (.istore 6, 2) := dec_w [0x36, 0x06] (pc9 (k := 896) (j := 44) lwD_14 rfl) (by decide +kernel) rfl
theorem dL_law_942 : decode cL_law 942 = .ok (.aload_n 2, 1) := dec_w [0x2c] (pc9 (k := 896) (j := 46) lwD_14 rfl) (by decide +kernel) rfl
theorem dL_law_943 : decode cL_law 943 = .ok (.aload_n 0, 1) := dec_w [0x2a] (pc9 (k := 896) (j := 47) lwD_14 rfl) (by decide +kernel) rfl
theorem dL_law_944 : decode cL_law 944 = .ok (.iload 5, 2) := dec_w [0x15, 0x05] (pc9 (k := 896) (j := 48) lwD_14 rfl) (by decide +kernel) rfl
theorem dL_law_946 : decode cL_law 946 = .ok (.iconst 1, 1) := dec_w [0x04] (pc9 (k := 896) (j := 50) lwD_14 rfl) (by decide +kernel) rfl
theorem dL_law_947 : decode cL_law 947 = .ok (.iadd, 1) := dec_w [0x60] (pc9 (k := 896) (j := 51) lwD_14 rfl) (by decide +kernel) rfl
theorem dL_law_948 : decode cL_law 948 = .ok (.iaload, 1) := dec_w [0x2e] (pc9 (k := 896) (j := 52) lwD_14 rfl) (by decide +kernel) rfl
theorem dL_law_949 : decode cL_law 949 = .ok (.invokevirtual 254, 3) := dec_w [0xb6, 0x00, 0xfe] (pc9 (k := 896) (j := 53) lwD_14 rfl) (by decide +kernel) rfl
theorem dL_law_952 : decode cL_law 952 = .ok (.istore 7, 2) := dec_w [0x36, 0x07] (pc9 (k := 896) (j := 56) lwD_14 rfl) (by decide +kernel) rfl
theorem dL_law_954 : decode cL_law 954 = .ok (.goto 1770, 3) := dec_w [0xa7, 0x06, 0xea] (pc9 (k := 896) (j := 58) lwD_14 rfl) (by decide +kernel) rfl
theorem dL_law_957 : decode cL_law 957 = .ok (.aload_n 1, 1) := dec_w [0x2b] (pc9 (k := 896) (j := 61) lwD_14 rfl) (by decide +kernel) rfl
theorem dL_law_958 : decode cL_law 958 = .ok (.aload_n 0, 1) := dec_w [0x2a] (pc9 (k := 896) (j := 62) lwD_14 rfl) (by decide +kernel) rfl
theorem dL_law_959 : decode cL_law 959 = .ok (.iload 5, 2) := dec_w [0x15, 0x05] (pc9 (k := 896) (j := 63) lwD_14 rfl) (by decide +kernel) rfl
theorem dL_law_961 : decode cL_law 961 = .ok (.iconst 1, 1) := dec_w [0x04] (pc9 (k := 960) (j := 1) lwD_15 rfl) (by decide +kernel) rfl
theorem dL_law_962 : decode cL_law 962 = .ok (.iadd, 1) := dec_w [0x60] (pc9 (k := 960) (j := 2) lwD_15 rfl) (by decide +kernel) rfl
theorem dL_law_963 : decode cL_law 963 = .ok (.iaload, 1) := dec_w [0x2e] (pc9 (k := 960) (j := 3) lwD_15 rfl) (by decide +kernel) rfl
theorem dL_law_964 : decode cL_law 964 = .ok (.aload_n 0, 1) := dec_w [0x2a] (pc9 (k := 960) (j := 4) lwD_15 rfl) (by decide +kernel) rfl
theorem dL_law_965 : decode cL_law 965 = .ok (.iload 5, 2) := dec_w [0x15, 0x05] (pc9 (k := 960) (j := 5) lwD_15 rfl) (by decide +kernel) rfl
theorem dL_law_967 : decode cL_law 967 = .ok (.iconst 2, 1) := dec_w [0x05] (pc9 (k := 960) (j := 7) lwD_15 rfl) (by decide +kernel) rfl
theorem dL_law_968 : decode cL_law 968 = .ok (.iadd, 1) := dec_w [0x60] (pc9 (k := 960) (j := 8) lwD_15 rfl) (by decide +kernel) rfl
theorem dL_law_969 : decode cL_law 969 = .ok (.iaload, 1) := dec_w [0x2e] (pc9 (k := 960) (j := 9) lwD_15 rfl) (by decide +kernel) rfl
theorem dL_law_970 : decode cL_law 970 = .ok (.aload_n 0, 1) := dec_w [0x2a] (pc9 (k := 960) (j := 10) lwD_15 rfl) (by decide +kernel) rfl
theorem dL_law_971 : decode cL_law 971 = .ok (.iload 5, 2) := dec_w [0x15, 0x05] (pc9 (k := 960) (j := 11) lwD_15 rfl) (by decide +kernel) rfl
theorem dL_law_973 : decode cL_law 973 = .ok (.iconst 3, 1) := dec_w [0x06] (pc9 (k := 960) (j := 13) lwD_15 rfl) (by decide +kernel) rfl
theorem dL_law_974 : decode cL_law 974 = .ok (.iadd, 1) := dec_w [0x60] (pc9 (k := 960) (j := 14) lwD_15 rfl) (by decide +kernel) rfl
theorem dL_law_975 : decode cL_law 975 = .ok (.iaload, 1) := dec_w [0x2e] (pc9 (k := 960) (j := 15) lwD_15 rfl) (by decide +kernel) rfl
theorem dL_law_976 : decode cL_law 976 = .ok (.aload_n 3, 1) := dec_w [0x2d] (pc9 (k := 960) (j := 16) lwD_15 rfl) (by decide +kernel) rfl
theorem dL_law_977 : decode cL_law 977 = .ok (.invokestatic 255, 3) := dec_w [0xb8, 0x00, 0xff] (pc9 (k := 960) (j := 17) lwD_15 rfl) (by decide +kernel) rfl
theorem dL_law_980 : decode cL_law 980 = .ok (.istore 6, 2) := dec_w [0x36, 0x06] (pc9 (k := 960) (j := 20) lwD_15 rfl) (by decide +kernel) rfl
theorem dL_law_982 : decode cL_law 982 = .ok (.aload_n 2, 1) := dec_w [0x2c] (pc9 (k := 960) (j := 22) lwD_15 rfl) (by decide +kernel) rfl
theorem dL_law_983 : decode cL_law 983 = .ok (.aload_n 0, 1) := dec_w [0x2a] (pc9 (k := 960) (j := 23) lwD_15 rfl) (by decide +kernel) rfl
theorem dL_law_984 : decode cL_law 984 = .ok (.iload 5, 2) := dec_w [0x15, 0x05] (pc9 (k := 960) (j := 24) lwD_15 rfl) (by decide +kernel) rfl
theorem dL_law_986 : decode cL_law 986 = .ok (.iconst 1, 1) := dec_w [0x04] (pc9 (k := 960) (j := 26) lwD_15 rfl) (by decide +kernel) rfl
theorem dL_law_987 : decode cL_law 987 = .ok (.iadd, 1) := dec_w [0x60] (pc9 (k := 960) (j := 27) lwD_15 rfl) (by decide +kernel) rfl
theorem dL_law_988 : decode cL_law 988 = .ok (.iaload, 1) := dec_w [0x2e] (pc9 (k := 960) (j := 28) lwD_15 rfl) (by decide +kernel) rfl
theorem dL_law_989 : decode cL_law 989 = .ok (.aload_n 0, 1) := dec_w [0x2a] (pc9 (k := 960) (j := 29) lwD_15 rfl) (by decide +kernel) rfl
theorem dL_law_990 : decode cL_law 990 = .ok (.iload 5, 2) := dec_w [0x15, 0x05] (pc9 (k := 960) (j := 30) lwD_15 rfl) (by decide +kernel) rfl
theorem dL_law_992 : decode cL_law 992 = .ok (.iconst 2, 1) := dec_w [0x05] (pc9 (k := 960) (j := 32) lwD_15 rfl) (by decide +kernel) rfl
theorem dL_law_993 : decode cL_law 993 = .ok (.iadd, 1) := dec_w [0x60] (pc9 (k := 960) (j := 33) lwD_15 rfl) (by decide +kernel) rfl
theorem dL_law_994 : decode cL_law 994 = .ok (.iaload, 1) := dec_w [0x2e] (pc9 (k := 960) (j := 34) lwD_15 rfl) (by decide +kernel) rfl
theorem dL_law_995 : decode cL_law 995 = .ok (.aload_n 0, 1) := dec_w [0x2a] (pc9 (k := 960) (j := 35) lwD_15 rfl) (by decide +kernel) rfl
theorem dL_law_996 : decode cL_law 996 = .ok (.iload 5, 2) := dec_w [0x15, 0x05] (pc9 (k := 960) (j := 36) lwD_15 rfl) (by decide +kernel) rfl
theorem dL_law_998 : decode cL_law 998 = .ok (.iconst 3, 1) := dec_w [0x06] (pc9 (k := 960) (j := 38) lwD_15 rfl) (by decide +kernel) rfl
theorem dL_law_999 : decode cL_law 999 = .ok (.iadd, 1) := dec_w [0x60] (pc9 (k := 960) (j := 39) lwD_15 rfl) (by decide +kernel) rfl
theorem dL_law_1000 : decode cL_law 1000 = .ok (.iaload, 1) := dec_w [0x2e] (pc9 (k := 960) (j := 40) lwD_15 rfl) (by decide +kernel) rfl
theorem dL_law_1001 : decode cL_law 1001 = .ok (.invokevirtual 257, 3) := dec_w [0xb6, 0x01, 0x01] (pc9 (k := 960) (j := 41) lwD_15 rfl) (by decide +kernel) rfl
theorem dL_law_1004 : decode cL_law 1004 = .ok (.istore 7, 2) := dec_w [0x36, 0x07] (pc9 (k := 960) (j := 44) lwD_15 rfl) (by decide +kernel) rfl
theorem dL_law_1006 : decode cL_law 1006 = .ok (.goto 1718, 3) := dec_w [0xa7, 0x06, 0xb6] (pc9 (k := 960) (j := 46) lwD_15 rfl) (by decide +kernel) rfl
theorem dL_law_1009 : decode cL_law 1009 = .ok (.aload_n 1, 1) := dec_w [0x2b] (pc9 (k := 960) (j := 49) lwD_15 rfl) (by decide +kernel) rfl
theorem dL_law_1010 : decode cL_law 1010 = .ok (.aload_n 0, 1) := dec_w [0x2a] (pc9 (k := 960) (j := 50) lwD_15 rfl) (by decide +kernel) rfl
theorem dL_law_1011 : decode cL_law 1011 = .ok (.iload 5, 2) := dec_w [0x15, 0x05] (pc9 (k := 960) (j := 51) lwD_15 rfl) (by decide +kernel) rfl
theorem dL_law_1013 : decode cL_law 1013 = .ok (.iconst 1, 1) := dec_w [0x04] (pc9 (k := 960) (j := 53) lwD_15 rfl) (by decide +kernel) rfl
theorem dL_law_1014 : decode cL_law 1014 = .ok (.iadd, 1) := dec_w [0x60] (pc9 (k := 960) (j := 54) lwD_15 rfl) (by decide +kernel) rfl
theorem dL_law_1015 : decode cL_law 1015 = .ok (.iaload, 1) := dec_w [0x2e] (pc9 (k := 960) (j := 55) lwD_15 rfl) (by decide +kernel) rfl
theorem dL_law_1016 : decode cL_law 1016 = .ok (.aload_n 0, 1) := dec_w [0x2a] (pc9 (k := 960) (j := 56) lwD_15 rfl) (by decide +kernel) rfl
theorem dL_law_1017 : decode cL_law 1017 = .ok (.iload 5, 2) := dec_w [0x15, 0x05] (pc9 (k := 960) (j := 57) lwD_15 rfl) (by decide +kernel) rfl
theorem dL_law_1019 : decode cL_law 1019 = .ok (.iconst 2, 1) := dec_w [0x05] (pc9 (k := 960) (j := 59) lwD_15 rfl) (by decide +kernel) rfl
theorem dL_law_1020 : decode cL_law 1020 = .ok (.iadd, 1) := dec_w [0x60] (pc9 (k := 960) (j := 60) lwD_15 rfl) (by decide +kernel) rfl
theorem dL_law_1021 : decode cL_law 1021 = .ok (.iaload, 1) := dec_w [0x2e] (pc9 (k := 960) (j := 61) lwD_15 rfl) (by decide +kernel) rfl
theorem dL_law_1022 : decode cL_law 1022 = .ok (.aload_n 3, 1) := dec_w [0x2d] (pc9 (k := 960) (j := 62) lwD_15 rfl) (by decide +kernel) rfl
theorem dL_law_1023 : decode cL_law 1023 = .ok (.invokestatic 258, 3) := dec_w [0xb8, 0x01, 0x02] (pc9 (k := 960) (j := 63) lwD_15 rfl) (by decide +kernel) rfl
theorem dL_law_1026 : decode cL_law 1026 = .ok (.istore 6, 2) := dec_w [0x36, 0x06] (pc9 (k := 1024) (j := 2) lwD_16 rfl) (by decide +kernel) rfl
theorem dL_law_1028 : decode cL_law 1028 = .ok (.aload_n 2, 1) := dec_w [0x2c] (pc9 (k := 1024) (j := 4) lwD_16 rfl) (by decide +kernel) rfl
theorem dL_law_1029 : decode cL_law 1029 = .ok (.aload_n 0, 1) := dec_w [0x2a] (pc9 (k := 1024) (j := 5) lwD_16 rfl) (by decide +kernel) rfl
theorem dL_law_1030 : decode cL_law 1030 = .ok (.iload 5, 2) := dec_w [0x15, 0x05] (pc9 (k := 1024) (j := 6) lwD_16 rfl) (by decide +kernel) rfl
theorem dL_law_1032 : decode cL_law 1032 = .ok (.iconst 1, 1) := dec_w [0x04] (pc9 (k := 1024) (j := 8) lwD_16 rfl) (by decide +kernel) rfl
theorem dL_law_1033 : decode cL_law 1033 = .ok (.iadd, 1) := dec_w [0x60] (pc9 (k := 1024) (j := 9) lwD_16 rfl) (by decide +kernel) rfl
theorem dL_law_1034 : decode cL_law 1034 = .ok (.iaload, 1) := dec_w [0x2e] (pc9 (k := 1024) (j := 10) lwD_16 rfl) (by decide +kernel) rfl
theorem dL_law_1035 : decode cL_law 1035 = .ok (.aload_n 0, 1) := dec_w [0x2a] (pc9 (k := 1024) (j := 11) lwD_16 rfl) (by decide +kernel) rfl
theorem dL_law_1036 : decode cL_law 1036 = .ok (.iload 5, 2) := dec_w [0x15, 0x05] (pc9 (k := 1024) (j := 12) lwD_16 rfl) (by decide +kernel) rfl
theorem dL_law_1038 : decode cL_law 1038 = .ok (.iconst 2, 1) := dec_w [0x05] (pc9 (k := 1024) (j := 14) lwD_16 rfl) (by decide +kernel) rfl
theorem dL_law_1039 : decode cL_law 1039 = .ok (.iadd, 1) := dec_w [0x60] (pc9 (k := 1024) (j := 15) lwD_16 rfl) (by decide +kernel) rfl
theorem dL_law_1040 : decode cL_law 1040 = .ok (.iaload, 1) := dec_w [0x2e] (pc9 (k := 1024) (j := 16) lwD_16 rfl) (by decide +kernel) rfl
theorem dL_law_1041 : decode cL_law 1041 = .ok (.invokevirtual 260, 3) := dec_w [0xb6, 0x01, 0x04] (pc9 (k := 1024) (j := 17) lwD_16 rfl) (by decide +kernel) rfl
theorem dL_law_1044 : decode cL_law 1044 = .ok (.istore 7, 2) := dec_w [0x36, 0x07] (pc9 (k := 1024) (j := 20) lwD_16 rfl) (by decide +kernel) rfl
theorem dL_law_1046 : decode cL_law 1046 = .ok (.goto 1678, 3) := dec_w [0xa7, 0x06, 0x8e] (pc9 (k := 1024) (j := 22) lwD_16 rfl) (by decide +kernel) rfl
theorem dL_law_1049 : decode cL_law 1049 = .ok (.aload_n 1, 1) := dec_w [0x2b] (pc9 (k := 1024) (j := 25) lwD_16 rfl) (by decide +kernel) rfl
theorem dL_law_1050 : decode cL_law 1050 = .ok (.aload_n 0, 1) := dec_w [0x2a] (pc9 (k := 1024) (j := 26) lwD_16 rfl) (by decide +kernel) rfl
theorem dL_law_1051 : decode cL_law 1051 = .ok (.iload 5, 2) := dec_w [0x15, 0x05] (pc9 (k := 1024) (j := 27) lwD_16 rfl) (by decide +kernel) rfl
theorem dL_law_1053 : decode cL_law 1053 = .ok (.iconst 1, 1) := dec_w [0x04] (pc9 (k := 1024) (j := 29) lwD_16 rfl) (by decide +kernel) rfl
theorem dL_law_1054 : decode cL_law 1054 = .ok (.iadd, 1) := dec_w [0x60] (pc9 (k := 1024) (j := 30) lwD_16 rfl) (by decide +kernel) rfl
theorem dL_law_1055 : decode cL_law 1055 = .ok (.iaload, 1) := dec_w [0x2e] (pc9 (k := 1024) (j := 31) lwD_16 rfl) (by decide +kernel) rfl
theorem dL_law_1056 : decode cL_law 1056 = .ok (.aload_n 3, 1) := dec_w [0x2d] (pc9 (k := 1024) (j := 32) lwD_16 rfl) (by decide +kernel) rfl
theorem dL_law_1057 : decode cL_law 1057 = .ok (.invokestatic 261, 3) := dec_w [0xb8, 0x01, 0x05] (pc9 (k := 1024) (j := 33) lwD_16 rfl) (by decide +kernel) rfl
theorem dL_law_1060 : decode cL_law 1060 = .ok (.istore 6, 2) := dec_w [0x36, 0x06] (pc9 (k := 1024) (j := 36) lwD_16 rfl) (by decide +kernel) rfl
theorem dL_law_1062 : decode cL_law 1062 = .ok (.aload_n 2, 1) := dec_w [0x2c] (pc9 (k := 1024) (j := 38) lwD_16 rfl) (by decide +kernel) rfl
theorem dL_law_1063 : decode cL_law 1063 = .ok (.aload_n 0, 1) := dec_w [0x2a] (pc9 (k := 1024) (j := 39) lwD_16 rfl) (by decide +kernel) rfl
theorem dL_law_1064 : decode cL_law 1064 = .ok (.iload 5, 2) := dec_w [0x15, 0x05] (pc9 (k := 1024) (j := 40) lwD_16 rfl) (by decide +kernel) rfl
theorem dL_law_1066 : decode cL_law 1066 = .ok (.iconst 1, 1) := dec_w [0x04] (pc9 (k := 1024) (j := 42) lwD_16 rfl) (by decide +kernel) rfl
theorem dL_law_1067 : decode cL_law 1067 = .ok (.iadd, 1) := dec_w [0x60] (pc9 (k := 1024) (j := 43) lwD_16 rfl) (by decide +kernel) rfl
theorem dL_law_1068 : decode cL_law 1068 = .ok (.iaload, 1) := dec_w [0x2e] (pc9 (k := 1024) (j := 44) lwD_16 rfl) (by decide +kernel) rfl
theorem dL_law_1069 : decode cL_law 1069 = .ok (.invokevirtual 263, 3) := dec_w [0xb6, 0x01, 0x07] (pc9 (k := 1024) (j := 45) lwD_16 rfl) (by decide +kernel) rfl
theorem dL_law_1072 : decode cL_law 1072 = .ok (.istore 7, 2) := dec_w [0x36, 0x07] (pc9 (k := 1024) (j := 48) lwD_16 rfl) (by decide +kernel) rfl
theorem dL_law_1074 : decode cL_law 1074 = .ok (.goto 1650, 3) := dec_w [0xa7, 0x06, 0x72] (pc9 (k := 1024) (j := 50) lwD_16 rfl) (by decide +kernel) rfl
theorem dL_law_1077 : decode cL_law 1077 = .ok (.aload_n 1, 1) := dec_w [0x2b] (pc9 (k := 1024) (j := 53) lwD_16 rfl) (by decide +kernel) rfl
theorem dL_law_1078 : decode cL_law 1078 = .ok (.aload_n 0, 1) := dec_w [0x2a] (pc9 (k := 1024) (j := 54) lwD_16 rfl) (by decide +kernel) rfl
theorem dL_law_1079 : decode cL_law 1079 = .ok (.iload 5, 2) := dec_w [0x15, 0x05] (pc9 (k := 1024) (j := 55) lwD_16 rfl) (by decide +kernel) rfl
theorem dL_law_1081 : decode cL_law 1081 = .ok (.iconst 1, 1) := dec_w [0x04] (pc9 (k := 1024) (j := 57) lwD_16 rfl) (by decide +kernel) rfl
theorem dL_law_1082 : decode cL_law 1082 = .ok (.iadd, 1) := dec_w [0x60] (pc9 (k := 1024) (j := 58) lwD_16 rfl) (by decide +kernel) rfl
theorem dL_law_1083 : decode cL_law 1083 = .ok (.iaload, 1) := dec_w [0x2e] (pc9 (k := 1024) (j := 59) lwD_16 rfl) (by decide +kernel) rfl
theorem dL_law_1084 : decode cL_law 1084 = .ok (.aload 4, 2) := dec_w [0x19, 0x04] (pc9 (k := 1024) (j := 60) lwD_16 rfl) (by decide +kernel) rfl
theorem dL_law_1086 : decode cL_law 1086 = .ok (.invokestatic 264, 3) := dec_w [0xb8, 0x01, 0x08] (pc9 (k := 1024) (j := 62) lwD_16 rfl) (by decide +kernel) rfl
theorem dL_law_1089 : decode cL_law 1089 = .ok (.istore 6, 2) := dec_w [0x36, 0x06] (pc9 (k := 1088) (j := 1) lwD_17 rfl) (by decide +kernel) rfl
theorem dL_law_1091 : decode cL_law 1091 = .ok (.aload_n 2, 1) := dec_w [0x2c] (pc9 (k := 1088) (j := 3) lwD_17 rfl) (by decide +kernel) rfl
theorem dL_law_1092 : decode cL_law 1092 = .ok (.aload_n 0, 1) := dec_w [0x2a] (pc9 (k := 1088) (j := 4) lwD_17 rfl) (by decide +kernel) rfl
theorem dL_law_1093 : decode cL_law 1093 = .ok (.iload 5, 2) := dec_w [0x15, 0x05] (pc9 (k := 1088) (j := 5) lwD_17 rfl) (by decide +kernel) rfl
theorem dL_law_1095 : decode cL_law 1095 = .ok (.iconst 1, 1) := dec_w [0x04] (pc9 (k := 1088) (j := 7) lwD_17 rfl) (by decide +kernel) rfl
theorem dL_law_1096 : decode cL_law 1096 = .ok (.iadd, 1) := dec_w [0x60] (pc9 (k := 1088) (j := 8) lwD_17 rfl) (by decide +kernel) rfl
theorem dL_law_1097 : decode cL_law 1097 = .ok (.iaload, 1) := dec_w [0x2e] (pc9 (k := 1088) (j := 9) lwD_17 rfl) (by decide +kernel) rfl
theorem dL_law_1098 : decode cL_law 1098 = .ok (.invokevirtual 266, 3) := dec_w [0xb6, 0x01, 0x0a] (pc9 (k := 1088) (j := 10) lwD_17 rfl) (by decide +kernel) rfl
theorem dL_law_1101 : decode cL_law 1101 = .ok (.fstore 7, 2) := dec_w [0x38, 0x07] (pc9 (k := 1088) (j := 13) lwD_17 rfl) (by decide +kernel) rfl
theorem dL_law_1103 : decode cL_law 1103 = .ok (.goto 1621, 3) := dec_w [0xa7, 0x06, 0x55] (pc9 (k := 1088) (j := 15) lwD_17 rfl) (by decide +kernel) rfl
theorem dL_law_1106 : decode cL_law 1106 = .ok (.aload_n 1, 1) := dec_w [0x2b] (pc9 (k := 1088) (j := 18) lwD_17 rfl) (by decide +kernel) rfl
theorem dL_law_1107 : decode cL_law 1107 = .ok (.aload_n 0, 1) := dec_w [0x2a] (pc9 (k := 1088) (j := 19) lwD_17 rfl) (by decide +kernel) rfl
theorem dL_law_1108 : decode cL_law 1108 = .ok (.iload 5, 2) := dec_w [0x15, 0x05] (pc9 (k := 1088) (j := 20) lwD_17 rfl) (by decide +kernel) rfl
theorem dL_law_1110 : decode cL_law 1110 = .ok (.iconst 1, 1) := dec_w [0x04] (pc9 (k := 1088) (j := 22) lwD_17 rfl) (by decide +kernel) rfl
theorem dL_law_1111 : decode cL_law 1111 = .ok (.iadd, 1) := dec_w [0x60] (pc9 (k := 1088) (j := 23) lwD_17 rfl) (by decide +kernel) rfl
theorem dL_law_1112 : decode cL_law 1112 = .ok (.iaload, 1) := dec_w [0x2e] (pc9 (k := 1088) (j := 24) lwD_17 rfl) (by decide +kernel) rfl
theorem dL_law_1113 : decode cL_law 1113 = .ok (.aload_n 0, 1) := dec_w [0x2a] (pc9 (k := 1088) (j := 25) lwD_17 rfl) (by decide +kernel) rfl
theorem dL_law_1114 : decode cL_law 1114 = .ok (.iload 5, 2) := dec_w [0x15, 0x05] (pc9 (k := 1088) (j := 26) lwD_17 rfl) (by decide +kernel) rfl
theorem dL_law_1116 : decode cL_law 1116 = .ok (.iconst 2, 1) := dec_w [0x05] (pc9 (k := 1088) (j := 28) lwD_17 rfl) (by decide +kernel) rfl
theorem dL_law_1117 : decode cL_law 1117 = .ok (.iadd, 1) := dec_w [0x60] (pc9 (k := 1088) (j := 29) lwD_17 rfl) (by decide +kernel) rfl
theorem dL_law_1118 : decode cL_law 1118 = .ok (.iaload, 1) := dec_w [0x2e] (pc9 (k := 1088) (j := 30) lwD_17 rfl) (by decide +kernel) rfl
theorem dL_law_1119 : decode cL_law 1119 = .ok (.aload_n 3, 1) := dec_w [0x2d] (pc9 (k := 1088) (j := 31) lwD_17 rfl) (by decide +kernel) rfl
theorem dL_law_1120 : decode cL_law 1120 = .ok (.invokestatic 267, 3) := dec_w [0xb8, 0x01, 0x0b] (pc9 (k := 1088) (j := 32) lwD_17 rfl) (by decide +kernel) rfl
theorem dL_law_1123 : decode cL_law 1123 = .ok (.istore 6, 2) := dec_w [0x36, 0x06] (pc9 (k := 1088) (j := 35) lwD_17 rfl) (by decide +kernel) rfl
theorem dL_law_1125 : decode cL_law 1125 = .ok (.aload_n 2, 1) := dec_w [0x2c] (pc9 (k := 1088) (j := 37) lwD_17 rfl) (by decide +kernel) rfl
theorem dL_law_1126 : decode cL_law 1126 = .ok (.aload_n 0, 1) := dec_w [0x2a] (pc9 (k := 1088) (j := 38) lwD_17 rfl) (by decide +kernel) rfl
theorem dL_law_1127 : decode cL_law 1127 = .ok (.iload 5, 2) := dec_w [0x15, 0x05] (pc9 (k := 1088) (j := 39) lwD_17 rfl) (by decide +kernel) rfl
theorem dL_law_1129 : decode cL_law 1129 = .ok (.iconst 1, 1) := dec_w [0x04] (pc9 (k := 1088) (j := 41) lwD_17 rfl) (by decide +kernel) rfl
theorem dL_law_1130 : decode cL_law 1130 = .ok (.iadd, 1) := dec_w [0x60] (pc9 (k := 1088) (j := 42) lwD_17 rfl) (by decide +kernel) rfl
theorem dL_law_1131 : decode cL_law 1131 = .ok (.iaload, 1) := dec_w [0x2e] (pc9 (k := 1088) (j := 43) lwD_17 rfl) (by decide +kernel) rfl
theorem dL_law_1132 : decode cL_law 1132 = .ok (.aload_n 0, 1) := dec_w [0x2a] (pc9 (k := 1088) (j := 44) lwD_17 rfl) (by decide +kernel) rfl
theorem dL_law_1133 : decode cL_law 1133 = .ok (.iload 5, 2) := dec_w [0x15, 0x05] (pc9 (k := 1088) (j := 45) lwD_17 rfl) (by decide +kernel) rfl
theorem dL_law_1135 : decode cL_law 1135 = .ok (.iconst 2, 1) := dec_w [0x05] (pc9 (k := 1088) (j := 47) lwD_17 rfl) (by decide +kernel) rfl
theorem dL_law_1136 : decode cL_law 1136 = .ok (.iadd, 1) := dec_w [0x60] (pc9 (k := 1088) (j := 48) lwD_17 rfl) (by decide +kernel) rfl
theorem dL_law_1137 : decode cL_law 1137 = .ok (.iaload, 1) := dec_w [0x2e] (pc9 (k := 1088) (j := 49) lwD_17 rfl) (by decide +kernel) rfl
theorem dL_law_1138 : decode cL_law 1138 = .ok (.invokevirtual 269, 3) := dec_w [0xb6, 0x01, 0x0d] (pc9 (k := 1088) (j := 50) lwD_17 rfl) (by decide +kernel) rfl
theorem dL_law_1141 : decode cL_law 1141 = .ok (.istore 7, 2) := dec_w [0x36, 0x07] (pc9 (k := 1088) (j := 53) lwD_17 rfl) (by decide +kernel) rfl
theorem dL_law_1143 : decode cL_law 1143 = .ok (.goto 1581, 3) := dec_w [0xa7, 0x06, 0x2d] (pc9 (k := 1088) (j := 55) lwD_17 rfl) (by decide +kernel) rfl
theorem dL_law_1146 : decode cL_law 1146 = .ok (.aload_n 1, 1) := dec_w [0x2b] (pc9 (k := 1088) (j := 58) lwD_17 rfl) (by decide +kernel) rfl
theorem dL_law_1147 : decode cL_law 1147 = .ok (.aload_n 0, 1) := dec_w [0x2a] (pc9 (k := 1088) (j := 59) lwD_17 rfl) (by decide +kernel) rfl
theorem dL_law_1148 : decode cL_law 1148 = .ok (.iload 5, 2) := dec_w [0x15, 0x05] (pc9 (k := 1088) (j := 60) lwD_17 rfl) (by decide +kernel) rfl
theorem dL_law_1150 : decode cL_law 1150 = .ok (.iconst 1, 1) := dec_w [0x04] (pc9 (k := 1088) (j := 62) lwD_17 rfl) (by decide +kernel) rfl
theorem dL_law_1151 : decode cL_law 1151 = .ok (.iadd, 1) := dec_w [0x60] (pc9 (k := 1088) (j := 63) lwD_17 rfl) (by decide +kernel) rfl
theorem dL_law_1152 : decode cL_law 1152 = .ok (.iaload, 1) := dec_w [0x2e] (pc9 (k := 1152) (j := 0) lwD_18 rfl) (by decide +kernel) rfl
theorem dL_law_1153 : decode cL_law 1153 = .ok (.aload_n 3, 1) := dec_w [0x2d] (pc9 (k := 1152) (j := 1) lwD_18 rfl) (by decide +kernel) rfl
theorem dL_law_1154 : decode cL_law 1154 = .ok (.invokestatic 270, 3) := dec_w [0xb8, 0x01, 0x0e] (pc9 (k := 1152) (j := 2) lwD_18 rfl) (by decide +kernel) rfl
theorem dL_law_1157 : decode cL_law 1157 = .ok (.istore 6, 2) := dec_w [0x36, 0x06] (pc9 (k := 1152) (j := 5) lwD_18 rfl) (by decide +kernel) rfl
theorem dL_law_1159 : decode cL_law 1159 = .ok (.aload_n 2, 1) := dec_w [0x2c] (pc9 (k := 1152) (j := 7) lwD_18 rfl) (by decide +kernel) rfl
theorem dL_law_1160 : decode cL_law 1160 = .ok (.aload_n 0, 1) := dec_w [0x2a] (pc9 (k := 1152) (j := 8) lwD_18 rfl) (by decide +kernel) rfl
theorem dL_law_1161 : decode cL_law 1161 = .ok (.iload 5, 2) := dec_w [0x15, 0x05] (pc9 (k := 1152) (j := 9) lwD_18 rfl) (by decide +kernel) rfl
theorem dL_law_1163 : decode cL_law 1163 = .ok (.iconst 1, 1) := dec_w [0x04] (pc9 (k := 1152) (j := 11) lwD_18 rfl) (by decide +kernel) rfl
theorem dL_law_1164 : decode cL_law 1164 = .ok (.iadd, 1) := dec_w [0x60] (pc9 (k := 1152) (j := 12) lwD_18 rfl) (by decide +kernel) rfl
theorem dL_law_1165 : decode cL_law 1165 = .ok (.iaload, 1) := dec_w [0x2e] (pc9 (k := 1152) (j := 13) lwD_18 rfl) (by decide +kernel) rfl
theorem dL_law_1166 : decode cL_law 1166 = .ok (.invokevirtual 272, 3) := dec_w [0xb6, 0x01, 0x10] (pc9 (k := 1152) (j := 14) lwD_18 rfl) (by decide +kernel) rfl
theorem dL_law_1169 : decode cL_law 1169 = .ok (.istore 7, 2) := dec_w [0x36, 0x07] (pc9 (k := 1152) (j := 17) lwD_18 rfl) (by decide +kernel) rfl
theorem dL_law_1171 : decode cL_law 1171 = .ok (.goto 1553, 3) := dec_w [0xa7, 0x06, 0x11] (pc9 (k := 1152) (j := 19) lwD_18 rfl) (by decide +kernel) rfl
theorem dL_law_1174 : decode cL_law 1174 = .ok (.aload_n 1, 1) := dec_w [0x2b] (pc9 (k := 1152) (j := 22) lwD_18 rfl) (by decide +kernel) rfl
theorem dL_law_1175 : decode cL_law 1175 = .ok (.aload_n 0, 1) := dec_w [0x2a] (pc9 (k := 1152) (j := 23) lwD_18 rfl) (by decide +kernel) rfl
theorem dL_law_1176 : decode cL_law 1176 = .ok (.iload 5, 2) := dec_w [0x15, 0x05] (pc9 (k := 1152) (j := 24) lwD_18 rfl) (by decide +kernel) rfl
theorem dL_law_1178 : decode cL_law 1178 = .ok (.iconst 1, 1) := dec_w [0x04] (pc9 (k := 1152) (j := 26) lwD_18 rfl) (by decide +kernel) rfl
theorem dL_law_1179 : decode cL_law 1179 = .ok (.iadd, 1) := dec_w [0x60] (pc9 (k := 1152) (j := 27) lwD_18 rfl) (by decide +kernel) rfl
theorem dL_law_1180 : decode cL_law 1180 = .ok (.iaload, 1) := dec_w [0x2e] (pc9 (k := 1152) (j := 28) lwD_18 rfl) (by decide +kernel) rfl
theorem dL_law_1181 : decode cL_law 1181 = .ok (.aload_n 0, 1) := dec_w [0x2a] (pc9 (k := 1152) (j := 29) lwD_18 rfl) (by decide +kernel) rfl
theorem dL_law_1182 : decode cL_law 1182 = .ok (.iload 5, 2) := dec_w [0x15, 0x05] (pc9 (k := 1152) (j := 30) lwD_18 rfl) (by decide +kernel) rfl
theorem dL_law_1184 : decode cL_law 1184 = .ok (.iconst 2, 1) := dec_w [0x05] (pc9 (k := 1152) (j := 32) lwD_18 rfl) (by decide +kernel) rfl
theorem dL_law_1185 : decode cL_law 1185 = .ok (.iadd, 1) := dec_w [0x60] (pc9 (k := 1152) (j := 33) lwD_18 rfl) (by decide +kernel) rfl
theorem dL_law_1186 : decode cL_law 1186 = .ok (.iaload, 1) := dec_w [0x2e] (pc9 (k := 1152) (j := 34) lwD_18 rfl) (by decide +kernel) rfl
theorem dL_law_1187 : decode cL_law 1187 = .ok (.aload_n 0, 1) := dec_w [0x2a] (pc9 (k := 1152) (j := 35) lwD_18 rfl) (by decide +kernel) rfl
theorem dL_law_1188 : decode cL_law 1188 = .ok (.iload 5, 2) := dec_w [0x15, 0x05] (pc9 (k := 1152) (j := 36) lwD_18 rfl) (by decide +kernel) rfl
theorem dL_law_1190 : decode cL_law 1190 = .ok (.iconst 3, 1) := dec_w [0x06] (pc9 (k := 1152) (j := 38) lwD_18 rfl) (by decide +kernel) rfl
theorem dL_law_1191 : decode cL_law 1191 = .ok (.iadd, 1) := dec_w [0x60] (pc9 (k := 1152) (j := 39) lwD_18 rfl) (by decide +kernel) rfl
theorem dL_law_1192 : decode cL_law 1192 = .ok (.iaload, 1) := dec_w [0x2e] (pc9 (k := 1152) (j := 40) lwD_18 rfl) (by decide +kernel) rfl
theorem dL_law_1193 : decode cL_law 1193 = .ok (.aload_n 3, 1) := dec_w [0x2d] (pc9 (k := 1152) (j := 41) lwD_18 rfl) (by decide +kernel) rfl
theorem dL_law_1194 : decode cL_law 1194 = .ok (.invokestatic 273, 3) := dec_w [0xb8, 0x01, 0x11] (pc9 (k := 1152) (j := 42) lwD_18 rfl) (by decide +kernel) rfl
theorem dL_law_1197 : decode cL_law 1197 = .ok (.istore 6, 2) := dec_w [0x36, 0x06] (pc9 (k := 1152) (j := 45) lwD_18 rfl) (by decide +kernel) rfl
theorem dL_law_1199 : decode cL_law 1199 = .ok (.aload_n 2, 1) := dec_w [0x2c] (pc9 (k := 1152) (j := 47) lwD_18 rfl) (by decide +kernel) rfl
theorem dL_law_1200 : decode cL_law 1200 = .ok (.aload_n 0, 1) := dec_w [0x2a] (pc9 (k := 1152) (j := 48) lwD_18 rfl) (by decide +kernel) rfl
theorem dL_law_1201 : decode cL_law 1201 = .ok (.iload 5, 2) := dec_w [0x15, 0x05] (pc9 (k := 1152) (j := 49) lwD_18 rfl) (by decide +kernel) rfl
theorem dL_law_1203 : decode cL_law 1203 = .ok (.iconst 1, 1) := dec_w [0x04] (pc9 (k := 1152) (j := 51) lwD_18 rfl) (by decide +kernel) rfl
theorem dL_law_1204 : decode cL_law 1204 = .ok (.iadd, 1) := dec_w [0x60] (pc9 (k := 1152) (j := 52) lwD_18 rfl) (by decide +kernel) rfl
theorem dL_law_1205 : decode cL_law 1205 = .ok (.iaload, 1) := dec_w [0x2e] (pc9 (k := 1152) (j := 53) lwD_18 rfl) (by decide +kernel) rfl
theorem dL_law_1206 : decode cL_law 1206 = .ok (.aload_n 0, 1) := dec_w [0x2a] (pc9 (k := 1152) (j := 54) lwD_18 rfl) (by decide +kernel) rfl
theorem dL_law_1207 : decode cL_law 1207 = .ok (.iload 5, 2) := dec_w [0x15, 0x05] (pc9 (k := 1152) (j := 55) lwD_18 rfl) (by decide +kernel) rfl
theorem dL_law_1209 : decode cL_law 1209 = .ok (.iconst 2, 1) := dec_w [0x05] (pc9 (k := 1152) (j := 57) lwD_18 rfl) (by decide +kernel) rfl
theorem dL_law_1210 : decode cL_law 1210 = .ok (.iadd, 1) := dec_w [0x60] (pc9 (k := 1152) (j := 58) lwD_18 rfl) (by decide +kernel) rfl
theorem dL_law_1211 : decode cL_law 1211 = .ok (.iaload, 1) := dec_w [0x2e] (pc9 (k := 1152) (j := 59) lwD_18 rfl) (by decide +kernel) rfl
theorem dL_law_1212 : decode cL_law 1212 = .ok (.aload_n 0, 1) := dec_w [0x2a] (pc9 (k := 1152) (j := 60) lwD_18 rfl) (by decide +kernel) rfl
theorem dL_law_1213 : decode cL_law 1213 = .ok (.iload 5, 2) := dec_w [0x15, 0x05] (pc9 (k := 1152) (j := 61) lwD_18 rfl) (by decide +kernel) rfl
theorem dL_law_1215 : decode cL_law 1215 = .ok (.iconst 3, 1) := dec_w [0x06] (pc9 (k := 1152) (j := 63) lwD_18 rfl) (by decide +kernel) rfl
theorem dL_law_1216 : decode cL_law 1216 = .ok (.iadd, 1) := dec_w [0x60] (pc9 (k := 1216) (j := 0) lwD_19 rfl) (by decide +kernel) rfl
theorem dL_law_1217 : decode cL_law 1217 = .ok (.iaload, 1) := dec_w [0x2e] (pc9 (k := 1216) (j := 1) lwD_19 rfl) (by decide +kernel) rfl
theorem dL_law_1218 : decode cL_law 1218 = .ok (.invokevirtual 275, 3) := dec_w [0xb6, 0x01, 0x13] (pc9 (k := 1216) (j := 2) lwD_19 rfl) (by decide +kernel) rfl
theorem dL_law_1221 : decode cL_law 1221 = .ok (.istore 7, 2) := dec_w [0x36, 0x07] (pc9 (k := 1216) (j := 5) lwD_19 rfl) (by decide +kernel) rfl
theorem dL_law_1223 : decode cL_law 1223 = .ok (.goto 1501, 3) := dec_w [0xa7, 0x05, 0xdd] (pc9 (k := 1216) (j := 7) lwD_19 rfl) (by decide +kernel) rfl
theorem dL_law_1226 : decode cL_law 1226 = .ok (.aload_n 1, 1) := dec_w [0x2b] (pc9 (k := 1216) (j := 10) lwD_19 rfl) (by decide +kernel) rfl
theorem dL_law_1227 : decode cL_law 1227 = .ok (.aload_n 0, 1) := dec_w [0x2a] (pc9 (k := 1216) (j := 11) lwD_19 rfl) (by decide +kernel) rfl
theorem dL_law_1228 : decode cL_law 1228 = .ok (.iload 5, 2) := dec_w [0x15, 0x05] (pc9 (k := 1216) (j := 12) lwD_19 rfl) (by decide +kernel) rfl
theorem dL_law_1230 : decode cL_law 1230 = .ok (.iconst 1, 1) := dec_w [0x04] (pc9 (k := 1216) (j := 14) lwD_19 rfl) (by decide +kernel) rfl
theorem dL_law_1231 : decode cL_law 1231 = .ok (.iadd, 1) := dec_w [0x60] (pc9 (k := 1216) (j := 15) lwD_19 rfl) (by decide +kernel) rfl
theorem dL_law_1232 : decode cL_law 1232 = .ok (.iaload, 1) := dec_w [0x2e] (pc9 (k := 1216) (j := 16) lwD_19 rfl) (by decide +kernel) rfl
theorem dL_law_1233 : decode cL_law 1233 = .ok (.aload_n 0, 1) := dec_w [0x2a] (pc9 (k := 1216) (j := 17) lwD_19 rfl) (by decide +kernel) rfl
theorem dL_law_1234 : decode cL_law 1234 = .ok (.iload 5, 2) := dec_w [0x15, 0x05] (pc9 (k := 1216) (j := 18) lwD_19 rfl) (by decide +kernel) rfl
theorem dL_law_1236 : decode cL_law 1236 = .ok (.iconst 2, 1) := dec_w [0x05] (pc9 (k := 1216) (j := 20) lwD_19 rfl) (by decide +kernel) rfl
theorem dL_law_1237 : decode cL_law 1237 = .ok (.iadd, 1) := dec_w [0x60] (pc9 (k := 1216) (j := 21) lwD_19 rfl) (by decide +kernel) rfl
theorem dL_law_1238 : decode cL_law 1238 = .ok (.iaload, 1) := dec_w [0x2e] (pc9 (k := 1216) (j := 22) lwD_19 rfl) (by decide +kernel) rfl
theorem dL_law_1239 : decode cL_law 1239 = .ok (.aload_n 0, 1) := dec_w [0x2a] (pc9 (k := 1216) (j := 23) lwD_19 rfl) (by decide +kernel) rfl
theorem dL_law_1240 : decode cL_law 1240 = .ok (.iload 5, 2) := dec_w [0x15, 0x05] (pc9 (k := 1216) (j := 24) lwD_19 rfl) (by decide +kernel) rfl
theorem dL_law_1242 : decode cL_law 1242 = .ok (.iconst 3, 1) := dec_w [0x06] (pc9 (k := 1216) (j := 26) lwD_19 rfl) (by decide +kernel) rfl
theorem dL_law_1243 : decode cL_law 1243 = .ok (.iadd, 1) := dec_w [0x60] (pc9 (k := 1216) (j := 27) lwD_19 rfl) (by decide +kernel) rfl
theorem dL_law_1244 : decode cL_law 1244 = .ok (.iaload, 1) := dec_w [0x2e] (pc9 (k := 1216) (j := 28) lwD_19 rfl) (by decide +kernel) rfl
theorem dL_law_1245 : decode cL_law 1245 = .ok (.aload_n 0, 1) := dec_w [0x2a] (pc9 (k := 1216) (j := 29) lwD_19 rfl) (by decide +kernel) rfl
theorem dL_law_1246 : decode cL_law 1246 = .ok (.iload 5, 2) := dec_w [0x15, 0x05] (pc9 (k := 1216) (j := 30) lwD_19 rfl) (by decide +kernel) rfl
theorem dL_law_1248 : decode cL_law 1248 = .ok (.iconst 4, 1) := dec_w [0x07] (pc9 (k := 1216) (j := 32) lwD_19 rfl) (by decide +kernel) rfl
theorem dL_law_1249 : decode cL_law 1249 = .ok (.iadd, 1) := dec_w [0x60] (pc9 (k := 1216) (j := 33) lwD_19 rfl) (by decide +kernel) rfl
theorem dL_law_1250 : decode cL_law 1250 = .ok (.iaload, 1) := dec_w [0x2e] (pc9 (k := 1216) (j := 34) lwD_19 rfl) (by decide +kernel) rfl
theorem dL_law_1251 : decode cL_law 1251 = .ok (.aload_n 3, 1) := dec_w [0x2d] (pc9 (k := 1216) (j := 35) lwD_19 rfl) (by decide +kernel) rfl
theorem dL_law_1252 : decode cL_law 1252 = .ok (.invokestatic 276, 3) := dec_w [0xb8, 0x01, 0x14] (pc9 (k := 1216) (j := 36) lwD_19 rfl) (by decide +kernel) rfl
theorem dL_law_1255 : decode cL_law 1255 = .ok (.istore 6, 2) := dec_w [0x36, 0x06] (pc9 (k := 1216) (j := 39) lwD_19 rfl) (by decide +kernel) rfl
theorem dL_law_1257 : decode cL_law 1257 = .ok (.aload_n 2, 1) := dec_w [0x2c] (pc9 (k := 1216) (j := 41) lwD_19 rfl) (by decide +kernel) rfl
theorem dL_law_1258 : decode cL_law 1258 = .ok (.aload_n 0, 1) := dec_w [0x2a] (pc9 (k := 1216) (j := 42) lwD_19 rfl) (by decide +kernel) rfl
theorem dL_law_1259 : decode cL_law 1259 = .ok (.iload 5, 2) := dec_w [0x15, 0x05] (pc9 (k := 1216) (j := 43) lwD_19 rfl) (by decide +kernel) rfl
theorem dL_law_1261 : decode cL_law 1261 = .ok (.iconst 1, 1) := dec_w [0x04] (pc9 (k := 1216) (j := 45) lwD_19 rfl) (by decide +kernel) rfl
theorem dL_law_1262 : decode cL_law 1262 = .ok (.iadd, 1) := dec_w [0x60] (pc9 (k := 1216) (j := 46) lwD_19 rfl) (by decide +kernel) rfl
theorem dL_law_1263 : decode cL_law 1263 = .ok (.iaload, 1) := dec_w [0x2e] (pc9 (k := 1216) (j := 47) lwD_19 rfl) (by decide +kernel) rfl
theorem dL_law_1264 : decode cL_law 1264 = .ok (.aload_n 0, 1) := dec_w [0x2a] (pc9 (k := 1216) (j := 48) lwD_19 rfl) (by decide +kernel) rfl
theorem dL_law_1265 : decode cL_law 1265 = .ok (.iload 5, 2) := dec_w [0x15, 0x05] (pc9 (k := 1216) (j := 49) lwD_19 rfl) (by decide +kernel) rfl
theorem dL_law_1267 : decode cL_law 1267 = .ok (.iconst 2, 1) := dec_w [0x05] (pc9 (k := 1216) (j := 51) lwD_19 rfl) (by decide +kernel) rfl
theorem dL_law_1268 : decode cL_law 1268 = .ok (.iadd, 1) := dec_w [0x60] (pc9 (k := 1216) (j := 52) lwD_19 rfl) (by decide +kernel) rfl
theorem dL_law_1269 : decode cL_law 1269 = .ok (.iaload, 1) := dec_w [0x2e] (pc9 (k := 1216) (j := 53) lwD_19 rfl) (by decide +kernel) rfl
theorem dL_law_1270 : decode cL_law 1270 = .ok (.aload_n 0, 1) := dec_w [0x2a] (pc9 (k := 1216) (j := 54) lwD_19 rfl) (by decide +kernel) rfl
theorem dL_law_1271 : decode cL_law 1271 = .ok (.iload 5, 2) := dec_w [0x15, 0x05] (pc9 (k := 1216) (j := 55) lwD_19 rfl) (by decide +kernel) rfl
theorem dL_law_1273 : decode cL_law 1273 = .ok (.iconst 3, 1) := dec_w [0x06] (pc9 (k := 1216) (j := 57) lwD_19 rfl) (by decide +kernel) rfl
theorem dL_law_1274 : decode cL_law 1274 = .ok (.iadd, 1) := dec_w [0x60] (pc9 (k := 1216) (j := 58) lwD_19 rfl) (by decide +kernel) rfl
theorem dL_law_1275 : decode cL_law 1275 = .ok (.iaload, 1) := dec_w [0x2e] (pc9 (k := 1216) (j := 59) lwD_19 rfl) (by decide +kernel) rfl
theorem dL_law_1276 : decode cL_law 1276 = .ok (.aload_n 0, 1) := dec_w [0x2a] (pc9 (k := 1216) (j := 60) lwD_19 rfl) (by decide +kernel) rfl
theorem dL_law_1277 : decode cL_law 1277 = .ok (.iload 5, 2) := dec_w [0x15, 0x05] (pc9 (k := 1216) (j := 61) lwD_19 rfl) (by decide +kernel) rfl
theorem dL_law_1279 : decode cL_law 1279 = .ok (.iconst 4, 1) := dec_w [0x07] (pc9 (k := 1216) (j := 63) lwD_19 rfl) (by decide +kernel) rfl
theorem dL_law_1280 : decode cL_law 1280 = .ok (.iadd, 1) := dec_w [0x60] (pc9 (k := 1280) (j := 0) lwD_20 rfl) (by decide +kernel) rfl
theorem dL_law_1281 : decode cL_law 1281 = .ok (.iaload, 1) := dec_w [0x2e] (pc9 (k := 1280) (j := 1) lwD_20 rfl) (by decide +kernel) rfl
theorem dL_law_1282 : decode cL_law 1282 = .ok (.invokevirtual 279, 3) := dec_w [0xb6, 0x01, 0x17] (pc9 (k := 1280) (j := 2) lwD_20 rfl) (by decide +kernel) rfl
theorem dL_law_1285 : decode cL_law 1285 = .ok (.istore 7, 2) := dec_w [0x36, 0x07] (pc9 (k := 1280) (j := 5) lwD_20 rfl) (by decide +kernel) rfl
theorem dL_law_1287 : decode cL_law 1287 = .ok (.goto 1437, 3) := dec_w [0xa7, 0x05, 0x9d] (pc9 (k := 1280) (j := 7) lwD_20 rfl) (by decide +kernel) rfl
theorem dL_law_1290 : decode cL_law 1290 = .ok (.aload_n 1, 1) := dec_w [0x2b] (pc9 (k := 1280) (j := 10) lwD_20 rfl) (by decide +kernel) rfl
theorem dL_law_1291 : decode cL_law 1291 = .ok (.aload_n 0, 1) := dec_w [0x2a] (pc9 (k := 1280) (j := 11) lwD_20 rfl) (by decide +kernel) rfl
theorem dL_law_1292 : decode cL_law 1292 = .ok (.iload 5, 2) := dec_w [0x15, 0x05] (pc9 (k := 1280) (j := 12) lwD_20 rfl) (by decide +kernel) rfl
theorem dL_law_1294 : decode cL_law 1294 = .ok (.iconst 1, 1) := dec_w [0x04] (pc9 (k := 1280) (j := 14) lwD_20 rfl) (by decide +kernel) rfl
theorem dL_law_1295 : decode cL_law 1295 = .ok (.iadd, 1) := dec_w [0x60] (pc9 (k := 1280) (j := 15) lwD_20 rfl) (by decide +kernel) rfl
theorem dL_law_1296 : decode cL_law 1296 = .ok (.iaload, 1) := dec_w [0x2e] (pc9 (k := 1280) (j := 16) lwD_20 rfl) (by decide +kernel) rfl
theorem dL_law_1297 : decode cL_law 1297 = .ok (.aload_n 0, 1) := dec_w [0x2a] (pc9 (k := 1280) (j := 17) lwD_20 rfl) (by decide +kernel) rfl
theorem dL_law_1298 : decode cL_law 1298 = .ok (.iload 5, 2) := dec_w [0x15, 0x05] (pc9 (k := 1280) (j := 18) lwD_20 rfl) (by decide +kernel) rfl
theorem dL_law_1300 : decode cL_law 1300 = .ok (.iconst 2, 1) := dec_w [0x05] (pc9 (k := 1280) (j := 20) lwD_20 rfl) (by decide +kernel) rfl
theorem dL_law_1301 : decode cL_law 1301 = .ok (.iadd, 1) := dec_w [0x60] (pc9 (k := 1280) (j := 21) lwD_20 rfl) (by decide +kernel) rfl
theorem dL_law_1302 : decode cL_law 1302 = .ok (.iaload, 1) := dec_w [0x2e] (pc9 (k := 1280) (j := 22) lwD_20 rfl) (by decide +kernel) rfl
theorem dL_law_1303 : decode cL_law 1303 = .ok (.aload_n 3, 1) := dec_w [0x2d] (pc9 (k := 1280) (j := 23) lwD_20 rfl) (by decide +kernel) rfl
theorem dL_law_1304 : decode cL_law 1304 = .ok (.invokestatic 280, 3) := dec_w [0xb8, 0x01, 0x18] (pc9 (k := 1280) (j := 24) lwD_20 rfl) (by decide +kernel) rfl
theorem dL_law_1307 : decode cL_law 1307 = .ok (.istore 6, 2) := dec_w [0x36, 0x06] (pc9 (k := 1280) (j := 27) lwD_20 rfl) (by decide +kernel) rfl
theorem dL_law_1309 : decode cL_law 1309 = .ok (.aload_n 2, 1) := dec_w [0x2c] (pc9 (k := 1280) (j := 29) lwD_20 rfl) (by decide +kernel) rfl
theorem dL_law_1310 : decode cL_law 1310 = .ok (.aload_n 0, 1) := dec_w [0x2a] (pc9 (k := 1280) (j := 30) lwD_20 rfl) (by decide +kernel) rfl
theorem dL_law_1311 : decode cL_law 1311 = .ok (.iload 5, 2) := dec_w [0x15, 0x05] (pc9 (k := 1280) (j := 31) lwD_20 rfl) (by decide +kernel) rfl
theorem dL_law_1313 : decode cL_law 1313 = .ok (.iconst 1, 1) := dec_w [0x04] (pc9 (k := 1280) (j := 33) lwD_20 rfl) (by decide +kernel) rfl
theorem dL_law_1314 : decode cL_law 1314 = .ok (.iadd, 1) := dec_w [0x60] (pc9 (k := 1280) (j := 34) lwD_20 rfl) (by decide +kernel) rfl
theorem dL_law_1315 : decode cL_law 1315 = .ok (.iaload, 1) := dec_w [0x2e] (pc9 (k := 1280) (j := 35) lwD_20 rfl) (by decide +kernel) rfl
theorem dL_law_1316 : decode cL_law 1316 = .ok (.aload_n 0, 1) := dec_w [0x2a] (pc9 (k := 1280) (j := 36) lwD_20 rfl) (by decide +kernel) rfl
theorem dL_law_1317 : decode cL_law 1317 = .ok (.iload 5, 2) := dec_w [0x15, 0x05] (pc9 (k := 1280) (j := 37) lwD_20 rfl) (by decide +kernel) rfl
theorem dL_law_1319 : decode cL_law 1319 = .ok (.iconst 2, 1) := dec_w [0x05] (pc9 (k := 1280) (j := 39) lwD_20 rfl) (by decide +kernel) rfl
theorem dL_law_1320 : decode cL_law 1320 = .ok (.iadd, 1) := dec_w [0x60] (pc9 (k := 1280) (j := 40) lwD_20 rfl) (by decide +kernel) rfl
theorem dL_law_1321 : decode cL_law 1321 = .ok (.iaload, 1) := dec_w [0x2e] (pc9 (k := 1280) (j := 41) lwD_20 rfl) (by decide +kernel) rfl
theorem dL_law_1322 : decode cL_law 1322 = .ok (.invokevirtual 282, 3) := dec_w [0xb6, 0x01, 0x1a] (pc9 (k := 1280) (j := 42) lwD_20 rfl) (by decide +kernel) rfl
theorem dL_law_1325 : decode cL_law 1325 = .ok (.istore 7, 2) := dec_w [0x36, 0x07] (pc9 (k := 1280) (j := 45) lwD_20 rfl) (by decide +kernel) rfl
theorem dL_law_1327 : decode cL_law 1327 = .ok (.goto 1397, 3) := dec_w [0xa7, 0x05, 0x75] (pc9 (k := 1280) (j := 47) lwD_20 rfl) (by decide +kernel) rfl
theorem dL_law_1330 : decode cL_law 1330 = .ok (.aload_n 1, 1) := dec_w [0x2b] (pc9 (k := 1280) (j := 50) lwD_20 rfl) (by decide +kernel) rfl
theorem dL_law_1331 : decode cL_law 1331 = .ok (.aload_n 0, 1) := dec_w [0x2a] (pc9 (k := 1280) (j := 51) lwD_20 rfl) (by decide +kernel) rfl
theorem dL_law_1332 : decode cL_law 1332 = .ok (.iload 5, 2) := dec_w [0x15, 0x05] (pc9 (k := 1280) (j := 52) lwD_20 rfl) (by decide +kernel) rfl
theorem dL_law_1334 : decode cL_law 1334 = .ok (.iconst 1, 1) := dec_w [0x04] (pc9 (k := 1280) (j := 54) lwD_20 rfl) (by decide +kernel) rfl
theorem dL_law_1335 : decode cL_law 1335 = .ok (.iadd, 1) := dec_w [0x60] (pc9 (k := 1280) (j := 55) lwD_20 rfl) (by decide +kernel) rfl
theorem dL_law_1336 : decode cL_law 1336 = .ok (.iaload, 1) := dec_w [0x2e] (pc9 (k := 1280) (j := 56) lwD_20 rfl) (by decide +kernel) rfl
theorem dL_law_1337 : decode cL_law 1337 = .ok (.aload_n 3, 1) := dec_w [0x2d] (pc9 (k := 1280) (j := 57) lwD_20 rfl) (by decide +kernel) rfl
theorem dL_law_1338 : decode cL_law 1338 = .ok (.invokestatic 283, 3) := dec_w [0xb8, 0x01, 0x1b] (pc9 (k := 1280) (j := 58) lwD_20 rfl) (by decide +kernel) rfl
theorem dL_law_1341 : decode cL_law 1341 = .ok (.istore 6, 2) := dec_w [0x36, 0x06] (pc9 (k := 1280) (j := 61) lwD_20 rfl) (by decide +kernel) rfl
theorem dL_law_1343 : decode cL_law 1343 = .ok (.aload_n 2, 1) := dec_w [0x2c] (pc9 (k := 1280) (j := 63) lwD_20 rfl) (by decide +kernel) rfl
theorem dL_law_1344 : decode cL_law 1344 = .ok (.aload_n 0, 1) := dec_w [0x2a] (pc9 (k := 1344) (j := 0) lwD_21 rfl) (by decide +kernel) rfl
theorem dL_law_1345 : decode cL_law 1345 = .ok (.iload 5, 2) := dec_w [0x15, 0x05] (pc9 (k := 1344) (j := 1) lwD_21 rfl) (by decide +kernel) rfl
theorem dL_law_1347 : decode cL_law 1347 = .ok (.iconst 1, 1) := dec_w [0x04] (pc9 (k := 1344) (j := 3) lwD_21 rfl) (by decide +kernel) rfl
theorem dL_law_1348 : decode cL_law 1348 = .ok (.iadd, 1) := dec_w [0x60] (pc9 (k := 1344) (j := 4) lwD_21 rfl) (by decide +kernel) rfl
theorem dL_law_1349 : decode cL_law 1349 = .ok (.iaload, 1) := dec_w [0x2e] (pc9 (k := 1344) (j := 5) lwD_21 rfl) (by decide +kernel) rfl
theorem dL_law_1350 : decode cL_law 1350 = .ok (.invokevirtual 285, 3) := dec_w [0xb6, 0x01, 0x1d] (pc9 (k := 1344) (j := 6) lwD_21 rfl) (by decide +kernel) rfl
theorem dL_law_1353 : decode cL_law 1353 = .ok (.istore 7, 2) := dec_w [0x36, 0x07] (pc9 (k := 1344) (j := 9) lwD_21 rfl) (by decide +kernel) rfl
theorem dL_law_1355 : decode cL_law 1355 = .ok (.goto 1369, 3) := dec_w [0xa7, 0x05, 0x59] (pc9 (k := 1344) (j := 11) lwD_21 rfl) (by decide +kernel) rfl
theorem dL_law_1358 : decode cL_law 1358 = .ok (.aload_n 1, 1) := dec_w [0x2b] (pc9 (k := 1344) (j := 14) lwD_21 rfl) (by decide +kernel) rfl
theorem dL_law_1359 : decode cL_law 1359 = .ok (.aload_n 0, 1) := dec_w [0x2a] (pc9 (k := 1344) (j := 15) lwD_21 rfl) (by decide +kernel) rfl
theorem dL_law_1360 : decode cL_law 1360 = .ok (.iload 5, 2) := dec_w [0x15, 0x05] (pc9 (k := 1344) (j := 16) lwD_21 rfl) (by decide +kernel) rfl
theorem dL_law_1362 : decode cL_law 1362 = .ok (.iconst 1, 1) := dec_w [0x04] (pc9 (k := 1344) (j := 18) lwD_21 rfl) (by decide +kernel) rfl
theorem dL_law_1363 : decode cL_law 1363 = .ok (.iadd, 1) := dec_w [0x60] (pc9 (k := 1344) (j := 19) lwD_21 rfl) (by decide +kernel) rfl
theorem dL_law_1364 : decode cL_law 1364 = .ok (.iaload, 1) := dec_w [0x2e] (pc9 (k := 1344) (j := 20) lwD_21 rfl) (by decide +kernel) rfl
theorem dL_law_1365 : decode cL_law 1365 = .ok (.aload_n 0, 1) := dec_w [0x2a] (pc9 (k := 1344) (j := 21) lwD_21 rfl) (by decide +kernel) rfl
theorem dL_law_1366 : decode cL_law 1366 = .ok (.iload 5, 2) := dec_w [0x15, 0x05] (pc9 (k := 1344) (j := 22) lwD_21 rfl) (by decide +kernel) rfl
theorem dL_law_1368 : decode cL_law 1368 = .ok (.iconst 2, 1) := dec_w [0x05] (pc9 (k := 1344) (j := 24) lwD_21 rfl) (by decide +kernel) rfl
theorem dL_law_1369 : decode cL_law 1369 = .ok (.iadd, 1) := dec_w [0x60] (pc9 (k := 1344) (j := 25) lwD_21 rfl) (by decide +kernel) rfl
theorem dL_law_1370 : decode cL_law 1370 = .ok (.iaload, 1) := dec_w [0x2e] (pc9 (k := 1344) (j := 26) lwD_21 rfl) (by decide +kernel) rfl
theorem dL_law_1371 : decode cL_law 1371 = .ok (.aload_n 3, 1) := dec_w [0x2d] (pc9 (k := 1344) (j := 27) lwD_21 rfl) (by decide +kernel) rfl
theorem dL_law_1372 : decode cL_law 1372 = .ok (.invokestatic 286, 3) := dec_w [0xb8, 0x01, 0x1e] (pc9 (k := 1344) (j := 28) lwD_21 rfl) (by decide +kernel) rfl
theorem dL_law_1375 : decode cL_law 1375 = .ok (.istore 6, 2) := dec_w [0x36, 0x06] (pc9 (k := 1344) (j := 31) lwD_21 rfl) (by decide +kernel) rfl
theorem dL_law_1377 : decode cL_law 1377 = .ok (.aload_n 2, 1) := dec_w [0x2c] (pc9 (k := 1344) (j := 33) lwD_21 rfl) (by decide +kernel) rfl
theorem dL_law_1378 : decode cL_law 1378 = .ok (.aload_n 0, 1) := dec_w [0x2a] (pc9 (k := 1344) (j := 34) lwD_21 rfl) (by decide +kernel) rfl
theorem dL_law_1379 : decode cL_law 1379 = .ok (.iload 5, 2) := dec_w [0x15, 0x05] (pc9 (k := 1344) (j := 35) lwD_21 rfl) (by decide +kernel) rfl
theorem dL_law_1381 : decode cL_law 1381 = .ok (.iconst 1, 1) := dec_w [0x04] (pc9 (k := 1344) (j := 37) lwD_21 rfl) (by decide +kernel) rfl
theorem dL_law_1382 : decode cL_law 1382 = .ok (.iadd, 1) := dec_w [0x60] (pc9 (k := 1344) (j := 38) lwD_21 rfl) (by decide +kernel) rfl
theorem dL_law_1383 : decode cL_law 1383 = .ok (.iaload, 1) := dec_w [0x2e] (pc9 (k := 1344) (j := 39) lwD_21 rfl) (by decide +kernel) rfl
theorem dL_law_1384 : decode cL_law 1384 = .ok (.aload_n 0, 1) := dec_w [0x2a] (pc9 (k := 1344) (j := 40) lwD_21 rfl) (by decide +kernel) rfl
theorem dL_law_1385 : decode cL_law 1385 = .ok (.iload 5, 2) := dec_w [0x15, 0x05] (pc9 (k := 1344) (j := 41) lwD_21 rfl) (by decide +kernel) rfl
theorem dL_law_1387 : decode cL_law 1387 = .ok (.iconst 2, 1) := dec_w [0x05] (pc9 (k := 1344) (j := 43) lwD_21 rfl) (by decide +kernel) rfl
theorem dL_law_1388 : decode cL_law 1388 = .ok (.iadd, 1) := dec_w [0x60] (pc9 (k := 1344) (j := 44) lwD_21 rfl) (by decide +kernel) rfl
theorem dL_law_1389 : decode cL_law 1389 = .ok (.iaload, 1) := dec_w [0x2e] (pc9 (k := 1344) (j := 45) lwD_21 rfl) (by decide +kernel) rfl
theorem dL_law_1390 : decode cL_law 1390 = .ok (.invokevirtual 288, 3) := dec_w [0xb6, 0x01, 0x20] (pc9 (k := 1344) (j := 46) lwD_21 rfl) (by decide +kernel) rfl
theorem dL_law_1393 : decode cL_law 1393 = .ok (.istore 7, 2) := dec_w [0x36, 0x07] (pc9 (k := 1344) (j := 49) lwD_21 rfl) (by decide +kernel) rfl
theorem dL_law_1395 : decode cL_law 1395 = .ok (.goto 1329, 3) := dec_w [0xa7, 0x05, 0x31] (pc9 (k := 1344) (j := 51) lwD_21 rfl) (by decide +kernel) rfl
theorem dL_law_1398 : decode cL_law 1398 = .ok (.aload_n 1, 1) := dec_w [0x2b] (pc9 (k := 1344) (j := 54) lwD_21 rfl) (by decide +kernel) rfl
theorem dL_law_1399 : decode cL_law 1399 = .ok (.aload_n 0, 1) := dec_w [0x2a] (pc9 (k := 1344) (j := 55) lwD_21 rfl) (by decide +kernel) rfl
theorem dL_law_1400 : decode cL_law 1400 = .ok (.iload 5, 2) := dec_w [0x15, 0x05] (pc9 (k := 1344) (j := 56) lwD_21 rfl) (by decide +kernel) rfl
theorem dL_law_1402 : decode cL_law 1402 = .ok (.iconst 1, 1) := dec_w [0x04] (pc9 (k := 1344) (j := 58) lwD_21 rfl) (by decide +kernel) rfl
theorem dL_law_1403 : decode cL_law 1403 = .ok (.iadd, 1) := dec_w [0x60] (pc9 (k := 1344) (j := 59) lwD_21 rfl) (by decide +kernel) rfl
theorem dL_law_1404 : decode cL_law 1404 = .ok (.iaload, 1) := dec_w [0x2e] (pc9 (k := 1344) (j := 60) lwD_21 rfl) (by decide +kernel) rfl
theorem dL_law_1405 : decode cL_law 1405 = .ok (.aload_n 0, 1) := dec_w [0x2a] (pc9 (k := 1344) (j := 61) lwD_21 rfl) (by decide +kernel) rfl
theorem dL_law_1406 : decode cL_law 1406 = .ok (.iload 5, 2) := dec_w [0x15, 0x05] (pc9 (k := 1344) (j := 62) lwD_21 rfl) (by decide +kernel) rfl
theorem dL_law_1408 : decode cL_law 1408 = .ok (.iconst 2, 1) := dec_w [0x05] (pc9 (k := 1408) (j := 0) lwD_22 rfl) (by decide +kernel) rfl
theorem dL_law_1409 : decode cL_law 1409 = .ok (.iadd, 1) := dec_w [0x60] (pc9 (k := 1408) (j := 1) lwD_22 rfl) (by decide +kernel) rfl
theorem dL_law_1410 : decode cL_law 1410 = .ok (.iaload, 1) := dec_w [0x2e] (pc9 (k := 1408) (j := 2) lwD_22 rfl) (by decide +kernel) rfl
theorem dL_law_1411 : decode cL_law 1411 = .ok (.aload_n 0, 1) := dec_w [0x2a] (pc9 (k := 1408) (j := 3) lwD_22 rfl) (by decide +kernel) rfl
theorem dL_law_1412 : decode cL_law 1412 = .ok (.iload 5, 2) := dec_w [0x15, 0x05] (pc9 (k := 1408) (j := 4) lwD_22 rfl) (by decide +kernel) rfl
theorem dL_law_1414 : decode cL_law 1414 = .ok (.iconst 3, 1) := dec_w [0x06] (pc9 (k := 1408) (j := 6) lwD_22 rfl) (by decide +kernel) rfl
theorem dL_law_1415 : decode cL_law 1415 = .ok (.iadd, 1) := dec_w [0x60] (pc9 (k := 1408) (j := 7) lwD_22 rfl) (by decide +kernel) rfl
theorem dL_law_1416 : decode cL_law 1416 = .ok (.iaload, 1) := dec_w [0x2e] (pc9 (k := 1408) (j := 8) lwD_22 rfl) (by decide +kernel) rfl
theorem dL_law_1417 : decode cL_law 1417 = .ok (.aload_n 3, 1) := dec_w [0x2d] (pc9 (k := 1408) (j := 9) lwD_22 rfl) (by decide +kernel) rfl
theorem dL_law_1418 : decode cL_law 1418 = .ok (.invokestatic 289, 3) := dec_w [0xb8, 0x01, 0x21] (pc9 (k := 1408) (j := 10) lwD_22 rfl) (by decide +kernel) rfl
theorem dL_law_1421 : decode cL_law 1421 = .ok (.istore 6, 2) := dec_w [0x36, 0x06] (pc9 (k := 1408) (j := 13) lwD_22 rfl) (by decide +kernel) rfl
theorem dL_law_1423 : decode cL_law 1423 = .ok (.aload_n 2, 1) := dec_w [0x2c] (pc9 (k := 1408) (j := 15) lwD_22 rfl) (by decide +kernel) rfl
theorem dL_law_1424 : decode cL_law 1424 = .ok (.aload_n 0, 1) := dec_w [0x2a] (pc9 (k := 1408) (j := 16) lwD_22 rfl) (by decide +kernel) rfl
theorem dL_law_1425 : decode cL_law 1425 = .ok (.iload 5, 2) := dec_w [0x15, 0x05] (pc9 (k := 1408) (j := 17) lwD_22 rfl) (by decide +kernel) rfl
theorem dL_law_1427 : decode cL_law 1427 = .ok (.iconst 1, 1) := dec_w [0x04] (pc9 (k := 1408) (j := 19) lwD_22 rfl) (by decide +kernel) rfl
theorem dL_law_1428 : decode cL_law 1428 = .ok (.iadd, 1) := dec_w [0x60] (pc9 (k := 1408) (j := 20) lwD_22 rfl) (by decide +kernel) rfl
theorem dL_law_1429 : decode cL_law 1429 = .ok (.iaload, 1) := dec_w [0x2e] (pc9 (k := 1408) (j := 21) lwD_22 rfl) (by decide +kernel) rfl
theorem dL_law_1430 : decode cL_law 1430 = .ok (.aload_n 0, 1) := dec_w [0x2a] (pc9 (k := 1408) (j := 22) lwD_22 rfl) (by decide +kernel) rfl
theorem dL_law_1431 : decode cL_law 1431 = .ok (.iload 5, 2) := dec_w [0x15, 0x05] (pc9 (k := 1408) (j := 23) lwD_22 rfl) (by decide +kernel) rfl
theorem dL_law_1433 : decode cL_law 1433 = .ok (.iconst 2, 1) := dec_w [0x05] (pc9 (k := 1408) (j := 25) lwD_22 rfl) (by decide +kernel) rfl
theorem dL_law_1434 : decode cL_law 1434 = .ok (.iadd, 1) := dec_w [0x60] (pc9 (k := 1408) (j := 26) lwD_22 rfl) (by decide +kernel) rfl
theorem dL_law_1435 : decode cL_law 1435 = .ok (.iaload, 1) := dec_w [0x2e] (pc9 (k := 1408) (j := 27) lwD_22 rfl) (by decide +kernel) rfl
theorem dL_law_1436 : decode cL_law 1436 = .ok (.aload_n 0, 1) := dec_w [0x2a] (pc9 (k := 1408) (j := 28) lwD_22 rfl) (by decide +kernel) rfl
theorem dL_law_1437 : decode cL_law 1437 = .ok (.iload 5, 2) := dec_w [0x15, 0x05] (pc9 (k := 1408) (j := 29) lwD_22 rfl) (by decide +kernel) rfl
theorem dL_law_1439 : decode cL_law 1439 = .ok (.iconst 3, 1) := dec_w [0x06] (pc9 (k := 1408) (j := 31) lwD_22 rfl) (by decide +kernel) rfl
theorem dL_law_1440 : decode cL_law 1440 = .ok (.iadd, 1) := dec_w [0x60] (pc9 (k := 1408) (j := 32) lwD_22 rfl) (by decide +kernel) rfl
theorem dL_law_1441 : decode cL_law 1441 = .ok (.iaload, 1) := dec_w [0x2e] (pc9 (k := 1408) (j := 33) lwD_22 rfl) (by decide +kernel) rfl
theorem dL_law_1442 : decode cL_law 1442 = .ok (.invokevirtual 291, 3) := dec_w [0xb6, 0x01, 0x23] (pc9 (k := 1408) (j := 34) lwD_22 rfl) (by decide +kernel) rfl
theorem dL_law_1445 : decode cL_law 1445 = .ok (.istore 7, 2) := dec_w [0x36, 0x07] (pc9 (k := 1408) (j := 37) lwD_22 rfl) (by decide +kernel) rfl
theorem dL_law_1447 : decode cL_law 1447 = .ok (.goto 1277, 3) := dec_w [0xa7, 0x04, 0xfd] (pc9 (k := 1408) (j := 39) lwD_22 rfl) (by decide +kernel) rfl
theorem dL_law_1450 : decode cL_law 1450 = .ok (.aload_n 1, 1) := dec_w [0x2b] (pc9 (k := 1408) (j := 42) lwD_22 rfl) (by decide +kernel) rfl
theorem dL_law_1451 : decode cL_law 1451 = .ok (.aload_n 0, 1) := dec_w [0x2a] (pc9 (k := 1408) (j := 43) lwD_22 rfl) (by decide +kernel) rfl
theorem dL_law_1452 : decode cL_law 1452 = .ok (.iload 5, 2) := dec_w [0x15, 0x05] (pc9 (k := 1408) (j := 44) lwD_22 rfl) (by decide +kernel) rfl
theorem dL_law_1454 : decode cL_law 1454 = .ok (.iconst 1, 1) := dec_w [0x04] (pc9 (k := 1408) (j := 46) lwD_22 rfl) (by decide +kernel) rfl
theorem dL_law_1455 : decode cL_law 1455 = .ok (.iadd, 1) := dec_w [0x60] (pc9 (k := 1408) (j := 47) lwD_22 rfl) (by decide +kernel) rfl
theorem dL_law_1456 : decode cL_law 1456 = .ok (.iaload, 1) := dec_w [0x2e] (pc9 (k := 1408) (j := 48) lwD_22 rfl) (by decide +kernel) rfl
theorem dL_law_1457 : decode cL_law 1457 = .ok (.aload_n 0, 1) := dec_w [0x2a] (pc9 (k := 1408) (j := 49) lwD_22 rfl) (by decide +kernel) rfl
theorem dL_law_1458 : decode cL_law 1458 = .ok (.iload 5, 2) := dec_w [0x15, 0x05] (pc9 (k := 1408) (j := 50) lwD_22 rfl) (by decide +kernel) rfl
theorem dL_law_1460 : decode cL_law 1460 = .ok (.iconst 2, 1) := dec_w [0x05] (pc9 (k := 1408) (j := 52) lwD_22 rfl) (by decide +kernel) rfl
theorem dL_law_1461 : decode cL_law 1461 = .ok (.iadd, 1) := dec_w [0x60] (pc9 (k := 1408) (j := 53) lwD_22 rfl) (by decide +kernel) rfl
theorem dL_law_1462 : decode cL_law 1462 = .ok (.iaload, 1) := dec_w [0x2e] (pc9 (k := 1408) (j := 54) lwD_22 rfl) (by decide +kernel) rfl
theorem dL_law_1463 : decode cL_law 1463 = .ok (.aload_n 0, 1) := dec_w [0x2a] (pc9 (k := 1408) (j := 55) lwD_22 rfl) (by decide +kernel) rfl
theorem dL_law_1464 : decode cL_law 1464 = .ok (.iload 5, 2) := dec_w [0x15, 0x05] (pc9 (k := 1408) (j := 56) lwD_22 rfl) (by decide +kernel) rfl
theorem dL_law_1466 : decode cL_law 1466 = .ok (.iconst 3, 1) := dec_w [0x06] (pc9 (k := 1408) (j := 58) lwD_22 rfl) (by decide +kernel) rfl
theorem dL_law_1467 : decode cL_law 1467 = .ok (.iadd, 1) := dec_w [0x60] (pc9 (k := 1408) (j := 59) lwD_22 rfl) (by decide +kernel) rfl
theorem dL_law_1468 : decode cL_law 1468 = .ok (.iaload, 1) := dec_w [0x2e] (pc9 (k := 1408) (j := 60) lwD_22 rfl) (by decide +kernel) rfl
theorem dL_law_1469 : decode cL_law 1469 = .ok (.aload_n 3, 1) := dec_w [0x2d] (pc9 (k := 1408) (j := 61) lwD_22 rfl) (by decide +kernel) rfl
theorem dL_law_1470 : decode cL_law 1470 = .ok (.invokestatic 292, 3) := dec_w [0xb8, 0x01, 0x24] (pc9 (k := 1408) (j := 62) lwD_22 rfl) (by decide +kernel) rfl
theorem dL_law_1473 : decode cL_law 1473 = .ok (.istore 6, 2) := dec_w [0x36, 0x06] (pc9 (k := 1472) (j := 1) lwD_23 rfl) (by decide +kernel) rfl
theorem dL_law_1475 : decode cL_law 1475 = .ok (.aload_n 2, 1) := dec_w [0x2c] (pc9 (k := 1472) (j := 3) lwD_23 rfl) (by decide +kernel) rfl
theorem dL_law_1476 : decode cL_law 1476 = .ok (.aload_n 0, 1) := dec_w [0x2a] (pc9 (k := 1472) (j := 4) lwD_23 rfl) (by decide +kernel) rfl
theorem dL_law_1477 : decode cL_law 1477 = .ok (.iload 5, 2) := dec_w [0x15, 0x05] (pc9 (k := 1472) (j := 5) lwD_23 rfl) (by decide +kernel) rfl
theorem dL_law_1479 : decode cL_law 1479 = .ok (.iconst 1, 1) := dec_w [0x04] (pc9 (k := 1472) (j := 7) lwD_23 rfl) (by decide +kernel) rfl
theorem dL_law_1480 : decode cL_law 1480 = .ok (.iadd, 1) := dec_w [0x60] (pc9 (k := 1472) (j := 8) lwD_23 rfl) (by decide +kernel) rfl
theorem dL_law_1481 : decode cL_law 1481 = .ok (.iaload, 1) := dec_w [0x2e] (pc9 (k := 1472) (j := 9) lwD_23 rfl) (by decide +kernel) rfl
theorem dL_law_1482 : decode cL_law 1482 = .ok (.aload_n 0, 1) := dec_w [0x2a] (pc9 (k := 1472) (j := 10) lwD_23 rfl) (by decide +kernel) rfl
theorem dL_law_1483 : decode cL_law 1483 = .ok (.iload 5, 2) := dec_w [0x15, 0x05] (pc9 (k := 1472) (j := 11) lwD_23 rfl) (by decide +kernel) rfl
theorem dL_law_1485 : decode cL_law 1485 = .ok (.iconst 2, 1) := dec_w [0x05] (pc9 (k := 1472) (j := 13) lwD_23 rfl) (by decide +kernel) rfl
theorem dL_law_1486 : decode cL_law 1486 = .ok (.iadd, 1) := dec_w [0x60] (pc9 (k := 1472) (j := 14) lwD_23 rfl) (by decide +kernel) rfl
