/-! the law's rows, 2 -/
theorem dL_law_2244 : decode cL_law 2244 = .ok (.aload_n 3, 1) := dec_w [0x2d] (pc9 (k := 2240) (j := 4) lwD_35 rfl) (by decide +kernel) rfl
theorem dL_law_2245 : decode cL_law 2245 = .ok (.invokestatic 295, 3) := dec_w [0xb8, 0x01, 0x27] (pc9 (k := 2240) (j := 5) lwD_35 rfl) (by decide +kernel) rfl
theorem dL_law_2248 : decode cL_law 2248 = .ok (.istore 6, 2) := dec_w [0x36, 0x06] (pc9 (k := 2240) (j := 8) lwD_35 rfl) (by decide +kernel) rfl
theorem dL_law_2250 : decode cL_law 2250 = .ok (.aload_n 2, 1) := dec_w [0x2c] (pc9 (k := 2240) (j := 10) lwD_35 rfl) (by decide +kernel) rfl
theorem dL_law_2251 : decode cL_law 2251 = .ok (.aload_n 0, 1) := dec_w [0x2a] (pc9 (k := 2240) (j := 11) lwD_35 rfl) (by decide +kernel) rfl
theorem dL_law_2252 : decode cL_law 2252 = .ok (.iload 5, 2) := dec_w [0x15, 0x05] (pc9 (k := 2240) (j := 12) lwD_35 rfl) (by decide +kernel) rfl
theorem dL_law_2254 : decode cL_law 2254 = .ok (.iconst 1, 1) := dec_w [0x04] (pc9 (k := 2240) (j := 14) lwD_35 rfl) (by decide +kernel) rfl
theorem dL_law_2255 : decode cL_law 2255 = .ok (.iadd, 1) := dec_w [0x60] (pc9 (k := 2240) (j := 15) lwD_35 rfl) (by decide +kernel) rfl
theorem dL_law_2256 : decode cL_law 2256 = .ok (.iaload, 1) := dec_w [0x2e] (pc9 (k := 2240) (j := 16) lwD_35 rfl) (by decide +kernel) rfl
theorem dL_law_2257 : decode cL_law 2257 = .ok (.aload_n 0, 1) := dec_w [0x2a] (pc9 (k := 2240) (j := 17) lwD_35 rfl) (by decide +kernel) rfl
theorem dL_law_2258 : decode cL_law 2258 = .ok (.iload 5, 2) := dec_w [0x15, 0x05] (pc9 (k := 2240) (j := 18) lwD_35 rfl) (by decide +kernel) rfl
theorem dL_law_2260 : decode cL_law 2260 = .ok (.iconst 2, 1) := dec_w [0x05] (pc9 (k := 2240) (j := 20) lwD_35 rfl) (by decide +kernel) rfl
theorem dL_law_2261 : decode cL_law 2261 = .ok (.iadd, 1) := dec_w [0x60] (pc9 (k := 2240) (j := 21) lwD_35 rfl) (by decide +kernel) rfl
theorem dL_law_2262 : decode cL_law 2262 = .ok (.iaload, 1) := dec_w [0x2e] (pc9 (k := 2240) (j := 22) lwD_35 rfl) (by decide +kernel) rfl
theorem dL_law_2263 : decode cL_law 2263 = .ok (.aload_n 0, 1) := dec_w [0x2a] (pc9 (k := 2240) (j := 23) lwD_35 rfl) (by decide +kernel) rfl
theorem dL_law_2264 : decode cL_law 2264 = .ok (.iload 5, 2) := dec_w [0x15, 0x05] (pc9 (k := 2240) (j := 24) lwD_35 rfl) (by decide +kernel) rfl
theorem dL_law_2266 : decode cL_law 2266 = .ok (.iconst 3, 1) := dec_w [0x06] (pc9 (k := 2240) (j := 26) lwD_35 rfl) (by decide +kernel) rfl
theorem dL_law_2267 : decode cL_law 2267 = .ok (.iadd, 1) := dec_w [0x60] (pc9 (k := 2240) (j := 27) lwD_35 rfl) (by decide +kernel) rfl
theorem dL_law_2268 : decode cL_law 2268 = .ok (.iaload, 1) := dec_w [0x2e] (pc9 (k := 2240) (j := 28) lwD_35 rfl) (by decide +kernel) rfl
theorem dL_law_2269 : decode cL_law 2269 = .ok (.invokevirtual 297, 3) := dec_w [0xb6, 0x01, 0x29] (pc9 (k := 2240) (j := 29) lwD_35 rfl) (by decide +kernel) rfl
theorem dL_law_2272 : decode cL_law 2272 = .ok (.istore 7, 2) := dec_w [0x36, 0x07] (pc9 (k := 2240) (j := 32) lwD_35 rfl) (by decide +kernel) rfl
theorem dL_law_2274 : decode cL_law 2274 = .ok (.aload_n 2, 1) := dec_w [0x2c] (pc9 (k := 2240) (j := 34) lwD_35 rfl) (by decide +kernel) rfl
theorem dL_law_2275 : decode cL_law 2275 = .ok (.invokevirtual 212, 3) := dec_w [0xb6, 0x00, 0xd4] (pc9 (k := 2240) (j := 35) lwD_35 rfl) (by decide +kernel) rfl
theorem dL_law_2278 : decode cL_law 2278 = .ok (.iload 6, 2) := dec_w [0x15, 0x06] (pc9 (k := 2240) (j := 38) lwD_35 rfl) (by decide +kernel) rfl
theorem dL_law_2280 : decode cL_law 2280 = .ok (.if_icmp .eq 5, 3) := dec_w [0x9f, 0x00, 0x05] (pc9 (k := 2240) (j := 40) lwD_35 rfl) (by decide +kernel) rfl
theorem dL_law_2283 : decode cL_law 2283 = .ok (.iconst 0, 1) := dec_w [0x03] (pc9 (k := 2240) (j := 43) lwD_35 rfl) (by decide +kernel) rfl
theorem dL_law_2284 : decode cL_law 2284 = .ok (.ireturn, 1) := dec_w [0xac] (pc9 (k := 2240) (j := 44) lwD_35 rfl) (by decide +kernel) rfl
theorem dL_law_2285 : decode cL_law 2285 = .ok (.iload 6, 2) := dec_w [0x15, 0x06] (pc9 (k := 2240) (j := 45) lwD_35 rfl) (by decide +kernel) rfl
theorem dL_law_2287 : decode cL_law 2287 = .ok (.ifCond .ne 15, 3) := dec_w [0x9a, 0x00, 0x0f] (pc9 (k := 2240) (j := 47) lwD_35 rfl) (by decide +kernel) rfl
theorem dL_law_2290 : decode cL_law 2290 = .ok (.aload_n 3, 1) := dec_w [0x2d] (pc9 (k := 2240) (j := 50) lwD_35 rfl) (by decide +kernel) rfl
theorem dL_law_2291 : decode cL_law 2291 = .ok (.iconst 0, 1) := dec_w [0x03] (pc9 (k := 2240) (j := 51) lwD_35 rfl) (by decide +kernel) rfl
theorem dL_law_2292 : decode cL_law 2292 = .ok (.laload, 1) := dec_w [0x2f] (pc9 (k := 2240) (j := 52) lwD_35 rfl) (by decide +kernel) rfl
theorem dL_law_2293 : decode cL_law 2293 = .ok (.iload 7, 2) := dec_w [0x15, 0x07] (pc9 (k := 2240) (j := 53) lwD_35 rfl) (by decide +kernel) rfl
theorem dL_law_2295 : decode cL_law 2295 = .ok (.i2l, 1) := dec_w [0x85] (pc9 (k := 2240) (j := 55) lwD_35 rfl) (by decide +kernel) rfl
theorem dL_law_2296 : decode cL_law 2296 = .ok (.lcmp, 1) := dec_w [0x94] (pc9 (k := 2240) (j := 56) lwD_35 rfl) (by decide +kernel) rfl
theorem dL_law_2297 : decode cL_law 2297 = .ok (.ifCond .eq 5, 3) := dec_w [0x99, 0x00, 0x05] (pc9 (k := 2240) (j := 57) lwD_35 rfl) (by decide +kernel) rfl
theorem dL_law_2300 : decode cL_law 2300 = .ok (.iconst 0, 1) := dec_w [0x03] (pc9 (k := 2240) (j := 60) lwD_35 rfl) (by decide +kernel) rfl
theorem dL_law_2301 : decode cL_law 2301 = .ok (.ireturn, 1) := dec_w [0xac] (pc9 (k := 2240) (j := 61) lwD_35 rfl) (by decide +kernel) rfl
theorem dL_law_2302 : decode cL_law 2302 = .ok (.goto 1924, 3) := dec_w [0xa7, 0x07, 0x84] (pc9 (k := 2240) (j := 62) lwD_35 rfl) (by decide +kernel) rfl
theorem dL_law_2305 : decode cL_law 2305 = .ok (.aload_n 1, 1) := dec_w [0x2b] (pc9 (k := 2304) (j := 1) lwD_36 rfl) (by decide +kernel) rfl
theorem dL_law_2306 : decode cL_law 2306 = .ok (.aload_n 0, 1) := dec_w [0x2a] (pc9 (k := 2304) (j := 2) lwD_36 rfl) (by decide +kernel) rfl
theorem dL_law_2307 : decode cL_law 2307 = .ok (.iload 5, 2) := dec_w [0x15, 0x05] (pc9 (k := 2304) (j := 3) lwD_36 rfl) (by decide +kernel) rfl
theorem dL_law_2309 : decode cL_law 2309 = .ok (.iconst 1, 1) := dec_w [0x04] (pc9 (k := 2304) (j := 5) lwD_36 rfl) (by decide +kernel) rfl
theorem dL_law_2310 : decode cL_law 2310 = .ok (.iadd, 1) := dec_w [0x60] (pc9 (k := 2304) (j := 6) lwD_36 rfl) (by decide +kernel) rfl
theorem dL_law_2311 : decode cL_law 2311 = .ok (.iaload, 1) := dec_w [0x2e] (pc9 (k := 2304) (j := 7) lwD_36 rfl) (by decide +kernel) rfl
theorem dL_law_2312 : decode cL_law 2312 = .ok (.aload_n 3, 1) := dec_w [0x2d] (pc9 (k := 2304) (j := 8) lwD_36 rfl) (by decide +kernel) rfl
theorem dL_law_2313 : decode cL_law 2313 = .ok (.invokestatic 298, 3) := dec_w [0xb8, 0x01, 0x2a] (pc9 (k := 2304) (j := 9) lwD_36 rfl) (by decide +kernel) rfl
theorem dL_law_2316 : decode cL_law 2316 = .ok (.istore 6, 2) := dec_w [0x36, 0x06] (pc9 (k := 2304) (j := 12) lwD_36 rfl) (by decide +kernel) rfl
theorem dL_law_2318 : decode cL_law 2318 = .ok (.aload_n 2, 1) := dec_w [0x2c] (pc9 (k := 2304) (j := 14) lwD_36 rfl) (by decide +kernel) rfl
theorem dL_law_2319 : decode cL_law 2319 = .ok (.aload_n 0, 1) := dec_w [0x2a] (pc9 (k := 2304) (j := 15) lwD_36 rfl) (by decide +kernel) rfl
theorem dL_law_2320 : decode cL_law 2320 = .ok (.iload 5, 2) := dec_w [0x15, 0x05] (pc9 (k := 2304) (j := 16) lwD_36 rfl) (by decide +kernel) rfl
theorem dL_law_2322 : decode cL_law 2322 = .ok (.iconst 1, 1) := dec_w [0x04] (pc9 (k := 2304) (j := 18) lwD_36 rfl) (by decide +kernel) rfl
theorem dL_law_2323 : decode cL_law 2323 = .ok (.iadd, 1) := dec_w [0x60] (pc9 (k := 2304) (j := 19) lwD_36 rfl) (by decide +kernel) rfl
theorem dL_law_2324 : decode cL_law 2324 = .ok (.iaload, 1) := dec_w [0x2e] (pc9 (k := 2304) (j := 20) lwD_36 rfl) (by decide +kernel) rfl
theorem dL_law_2325 : decode cL_law 2325 = .ok (.invokevirtual 300, 3) := dec_w [0xb6, 0x01, 0x2c] (pc9 (k := 2304) (j := 21) lwD_36 rfl) (by decide +kernel) rfl
theorem dL_law_2328 : decode cL_law 2328 = .ok (.istore 7, 2) := dec_w [0x36, 0x07] (pc9 (k := 2304) (j := 24) lwD_36 rfl) (by decide +kernel) rfl
theorem dL_law_2330 : decode cL_law 2330 = .ok (.aload_n 2, 1) := dec_w [0x2c] (pc9 (k := 2304) (j := 26) lwD_36 rfl) (by decide +kernel) rfl
theorem dL_law_2331 : decode cL_law 2331 = .ok (.invokevirtual 212, 3) := dec_w [0xb6, 0x00, 0xd4] (pc9 (k := 2304) (j := 27) lwD_36 rfl) (by decide +kernel) rfl
theorem dL_law_2334 : decode cL_law 2334 = .ok (.iload 6, 2) := dec_w [0x15, 0x06] (pc9 (k := 2304) (j := 30) lwD_36 rfl) (by decide +kernel) rfl
theorem dL_law_2336 : decode cL_law 2336 = .ok (.if_icmp .eq 5, 3) := dec_w [0x9f, 0x00, 0x05] (pc9 (k := 2304) (j := 32) lwD_36 rfl) (by decide +kernel) rfl
theorem dL_law_2339 : decode cL_law 2339 = .ok (.iconst 0, 1) := dec_w [0x03] (pc9 (k := 2304) (j := 35) lwD_36 rfl) (by decide +kernel) rfl
theorem dL_law_2340 : decode cL_law 2340 = .ok (.ireturn, 1) := dec_w [0xac] (pc9 (k := 2304) (j := 36) lwD_36 rfl) (by decide +kernel) rfl
theorem dL_law_2341 : decode cL_law 2341 = .ok (.iload 6, 2) := dec_w [0x15, 0x06] (pc9 (k := 2304) (j := 37) lwD_36 rfl) (by decide +kernel) rfl
theorem dL_law_2343 : decode cL_law 2343 = .ok (.ifCond .ne 15, 3) := dec_w [0x9a, 0x00, 0x0f] (pc9 (k := 2304) (j := 39) lwD_36 rfl) (by decide +kernel) rfl
theorem dL_law_2346 : decode cL_law 2346 = .ok (.aload_n 3, 1) := dec_w [0x2d] (pc9 (k := 2304) (j := 42) lwD_36 rfl) (by decide +kernel) rfl
theorem dL_law_2347 : decode cL_law 2347 = .ok (.iconst 0, 1) := dec_w [0x03] (pc9 (k := 2304) (j := 43) lwD_36 rfl) (by decide +kernel) rfl
theorem dL_law_2348 : decode cL_law 2348 = .ok (.laload, 1) := dec_w [0x2f] (pc9 (k := 2304) (j := 44) lwD_36 rfl) (by decide +kernel) rfl
theorem dL_law_2349 : decode cL_law 2349 = .ok (.iload 7, 2) := dec_w [0x15, 0x07] (pc9 (k := 2304) (j := 45) lwD_36 rfl) (by decide +kernel) rfl
theorem dL_law_2351 : decode cL_law 2351 = .ok (.i2l, 1) := dec_w [0x85] (pc9 (k := 2304) (j := 47) lwD_36 rfl) (by decide +kernel) rfl
theorem dL_law_2352 : decode cL_law 2352 = .ok (.lcmp, 1) := dec_w [0x94] (pc9 (k := 2304) (j := 48) lwD_36 rfl) (by decide +kernel) rfl
theorem dL_law_2353 : decode cL_law 2353 = .ok (.ifCond .eq 5, 3) := dec_w [0x99, 0x00, 0x05] (pc9 (k := 2304) (j := 49) lwD_36 rfl) (by decide +kernel) rfl
theorem dL_law_2356 : decode cL_law 2356 = .ok (.iconst 0, 1) := dec_w [0x03] (pc9 (k := 2304) (j := 52) lwD_36 rfl) (by decide +kernel) rfl
theorem dL_law_2357 : decode cL_law 2357 = .ok (.ireturn, 1) := dec_w [0xac] (pc9 (k := 2304) (j := 53) lwD_36 rfl) (by decide +kernel) rfl
theorem dL_law_2358 : decode cL_law 2358 = .ok (.goto 1868, 3) := dec_w [0xa7, 0x07, 0x4c] (pc9 (k := 2304) (j := 54) lwD_36 rfl) (by decide +kernel) rfl
theorem dL_law_2361 : decode cL_law 2361 = .ok (.aload_n 1, 1) := dec_w [0x2b] (pc9 (k := 2304) (j := 57) lwD_36 rfl) (by decide +kernel) rfl
theorem dL_law_2362 : decode cL_law 2362 = .ok (.aload_n 0, 1) := dec_w [0x2a] (pc9 (k := 2304) (j := 58) lwD_36 rfl) (by decide +kernel) rfl
theorem dL_law_2363 : decode cL_law 2363 = .ok (.iload 5, 2) := dec_w [0x15, 0x05] (pc9 (k := 2304) (j := 59) lwD_36 rfl) (by decide +kernel) rfl
theorem dL_law_2365 : decode cL_law 2365 = .ok (.iconst 1, 1) := dec_w [0x04] (pc9 (k := 2304) (j := 61) lwD_36 rfl) (by decide +kernel) rfl
theorem dL_law_2366 : decode cL_law 2366 = .ok (.iadd, 1) := dec_w [0x60] (pc9 (k := 2304) (j := 62) lwD_36 rfl) (by decide +kernel) rfl
theorem dL_law_2367 : decode cL_law 2367 = .ok (.iaload, 1) := dec_w [0x2e] (pc9 (k := 2304) (j := 63) lwD_36 rfl) (by decide +kernel) rfl
theorem dL_law_2368 : decode cL_law 2368 = .ok (.aload_n 3, 1) := dec_w [0x2d] (pc9 (k := 2368) (j := 0) lwD_37 rfl) (by decide +kernel) rfl
theorem dL_law_2369 : decode cL_law 2369 = .ok (.invokestatic 301, 3) := dec_w [0xb8, 0x01, 0x2d] (pc9 (k := 2368) (j := 1) lwD_37 rfl) (by decide +kernel) rfl
theorem dL_law_2372 : decode cL_law 2372 = .ok (.istore 6, 2) := dec_w [0x36, 0x06] (pc9 (k := 2368) (j := 4) lwD_37 rfl) (by decide +kernel) rfl
theorem dL_law_2374 : decode cL_law 2374 = .ok (.aload_n 2, 1) := dec_w [0x2c] (pc9 (k := 2368) (j := 6) lwD_37 rfl) (by decide +kernel) rfl
theorem dL_law_2375 : decode cL_law 2375 = .ok (.aload_n 0, 1) := dec_w [0x2a] (pc9 (k := 2368) (j := 7) lwD_37 rfl) (by decide +kernel) rfl
theorem dL_law_2376 : decode cL_law 2376 = .ok (.iload 5, 2) := dec_w [0x15, 0x05] (pc9 (k := 2368) (j := 8) lwD_37 rfl) (by decide +kernel) rfl
theorem dL_law_2378 : decode cL_law 2378 = .ok (.iconst 1, 1) := dec_w [0x04] (pc9 (k := 2368) (j := 10) lwD_37 rfl) (by decide +kernel) rfl
theorem dL_law_2379 : decode cL_law 2379 = .ok (.iadd, 1) := dec_w [0x60] (pc9 (k := 2368) (j := 11) lwD_37 rfl) (by decide +kernel) rfl
theorem dL_law_2380 : decode cL_law 2380 = .ok (.iaload, 1) := dec_w [0x2e] (pc9 (k := 2368) (j := 12) lwD_37 rfl) (by decide +kernel) rfl
theorem dL_law_2381 : decode cL_law 2381 = .ok (.invokevirtual 303, 3) := dec_w [0xb6, 0x01, 0x2f] (pc9 (k := 2368) (j := 13) lwD_37 rfl) (by decide +kernel) rfl
theorem dL_law_2384 : decode cL_law 2384 = .ok (.istore 7, 2) := dec_w [0x36, 0x07] (pc9 (k := 2368) (j := 16) lwD_37 rfl) (by decide +kernel) rfl
theorem dL_law_2386 : decode cL_law 2386 = .ok (.aload_n 2, 1) := dec_w [0x2c] (pc9 (k := 2368) (j := 18) lwD_37 rfl) (by decide +kernel) rfl
theorem dL_law_2387 : decode cL_law 2387 = .ok (.invokevirtual 212, 3) := dec_w [0xb6, 0x00, 0xd4] (pc9 (k := 2368) (j := 19) lwD_37 rfl) (by decide +kernel) rfl
theorem dL_law_2390 : decode cL_law 2390 = .ok (.iload 6, 2) := dec_w [0x15, 0x06] (pc9 (k := 2368) (j := 22) lwD_37 rfl) (by decide +kernel) rfl
theorem dL_law_2392 : decode cL_law 2392 = .ok (.if_icmp .eq 5, 3) := dec_w [0x9f, 0x00, 0x05] (pc9 (k := 2368) (j := 24) lwD_37 rfl) (by decide +kernel) rfl
theorem dL_law_2395 : decode cL_law 2395 = .ok (.iconst 0, 1) := dec_w [0x03] (pc9 (k := 2368) (j := 27) lwD_37 rfl) (by decide +kernel) rfl
theorem dL_law_2396 : decode cL_law 2396 = .ok (.ireturn, 1) := dec_w [0xac] (pc9 (k := 2368) (j := 28) lwD_37 rfl) (by decide +kernel) rfl
theorem dL_law_2397 : decode cL_law 2397 = .ok (.iload 6, 2) := dec_w [0x15, 0x06] (pc9 (k := 2368) (j := 29) lwD_37 rfl) (by decide +kernel) rfl
theorem dL_law_2399 : decode cL_law 2399 = .ok (.ifCond .ne 15, 3) := dec_w [0x9a, 0x00, 0x0f] (pc9 (k := 2368) (j := 31) lwD_37 rfl) (by decide +kernel) rfl
theorem dL_law_2402 : decode cL_law 2402 = .ok (.aload_n 3, 1) := dec_w [0x2d] (pc9 (k := 2368) (j := 34) lwD_37 rfl) (by decide +kernel) rfl
theorem dL_law_2403 : decode cL_law 2403 = .ok (.iconst 0, 1) := dec_w [0x03] (pc9 (k := 2368) (j := 35) lwD_37 rfl) (by decide +kernel) rfl
theorem dL_law_2404 : decode cL_law 2404 = .ok (.laload, 1) := dec_w [0x2f] (pc9 (k := 2368) (j := 36) lwD_37 rfl) (by decide +kernel) rfl
theorem dL_law_2405 : decode cL_law 2405 = .ok (.iload 7, 2) := dec_w [0x15, 0x07] (pc9 (k := 2368) (j := 37) lwD_37 rfl) (by decide +kernel) rfl
theorem dL_law_2407 : decode cL_law 2407 = .ok (.i2l, 1) := dec_w [0x85] (pc9 (k := 2368) (j := 39) lwD_37 rfl) (by decide +kernel) rfl
theorem dL_law_2408 : decode cL_law 2408 = .ok (.lcmp, 1) := dec_w [0x94] (pc9 (k := 2368) (j := 40) lwD_37 rfl) (by decide +kernel) rfl
theorem dL_law_2409 : decode cL_law 2409 = .ok (.ifCond .eq 5, 3) := dec_w [0x99, 0x00, 0x05] (pc9 (k := 2368) (j := 41) lwD_37 rfl) (by decide +kernel) rfl
theorem dL_law_2412 : decode cL_law 2412 = .ok (.iconst 0, 1) := dec_w [0x03] (pc9 (k := 2368) (j := 44) lwD_37 rfl) (by decide +kernel) rfl
theorem dL_law_2413 : decode cL_law 2413 = .ok (.ireturn, 1) := dec_w [0xac] (pc9 (k := 2368) (j := 45) lwD_37 rfl) (by decide +kernel) rfl
theorem dL_law_2414 : decode cL_law 2414 = .ok (.goto 1812, 3) := dec_w [0xa7, 0x07, 0x14] (pc9 (k := 2368) (j := 46) lwD_37 rfl) (by decide +kernel) rfl
theorem dL_law_2417 : decode cL_law 2417 = .ok (.aload_n 1, 1) := dec_w [0x2b] (pc9 (k := 2368) (j := 49) lwD_37 rfl) (by decide +kernel) rfl
theorem dL_law_2418 : decode cL_law 2418 = .ok (.aload_n 0, 1) := dec_w [0x2a] (pc9 (k := 2368) (j := 50) lwD_37 rfl) (by decide +kernel) rfl
theorem dL_law_2419 : decode cL_law 2419 = .ok (.iload 5, 2) := dec_w [0x15, 0x05] (pc9 (k := 2368) (j := 51) lwD_37 rfl) (by decide +kernel) rfl
theorem dL_law_2421 : decode cL_law 2421 = .ok (.iconst 1, 1) := dec_w [0x04] (pc9 (k := 2368) (j := 53) lwD_37 rfl) (by decide +kernel) rfl
theorem dL_law_2422 : decode cL_law 2422 = .ok (.iadd, 1) := dec_w [0x60] (pc9 (k := 2368) (j := 54) lwD_37 rfl) (by decide +kernel) rfl
theorem dL_law_2423 : decode cL_law 2423 = .ok (.iaload, 1) := dec_w [0x2e] (pc9 (k := 2368) (j := 55) lwD_37 rfl) (by decide +kernel) rfl
theorem dL_law_2424 : decode cL_law 2424 = .ok (.aload_n 3, 1) := dec_w [0x2d] (pc9 (k := 2368) (j := 56) lwD_37 rfl) (by decide +kernel) rfl
theorem dL_law_2425 : decode cL_law 2425 = .ok (.invokestatic 304, 3) := dec_w [0xb8, 0x01, 0x30] (pc9 (k := 2368) (j := 57) lwD_37 rfl) (by decide +kernel) rfl
theorem dL_law_2428 : decode cL_law 2428 = .ok (.istore 6, 2) := dec_w [0x36, 0x06] (pc9 (k := 2368) (j := 60) lwD_37 rfl) (by decide +kernel) rfl
theorem dL_law_2430 : decode cL_law 2430 = .ok (.aload_n 2, 1) := dec_w [0x2c] (pc9 (k := 2368) (j := 62) lwD_37 rfl) (by decide +kernel) rfl
theorem dL_law_2431 : decode cL_law 2431 = .ok (.aload_n 0, 1) := dec_w [0x2a] (pc9 (k := 2368) (j := 63) lwD_37 rfl) (by decide +kernel) rfl
theorem dL_law_2432 : decode cL_law 2432 = .ok (.iload 5, 2) := dec_w [0x15, 0x05] (pc9 (k := 2432) (j := 0) lwD_38 rfl) (by decide +kernel) rfl
theorem dL_law_2434 : decode cL_law 2434 = .ok (.iconst 1, 1) := dec_w [0x04] (pc9 (k := 2432) (j := 2) lwD_38 rfl) (by decide +kernel) rfl
theorem dL_law_2435 : decode cL_law 2435 = .ok (.iadd, 1) := dec_w [0x60] (pc9 (k := 2432) (j := 3) lwD_38 rfl) (by decide +kernel) rfl
theorem dL_law_2436 : decode cL_law 2436 = .ok (.iaload, 1) := dec_w [0x2e] (pc9 (k := 2432) (j := 4) lwD_38 rfl) (by decide +kernel) rfl
theorem dL_law_2437 : decode cL_law 2437 = .ok (.invokevirtual 306, 3) := dec_w [0xb6, 0x01, 0x32] (pc9 (k := 2432) (j := 5) lwD_38 rfl) (by decide +kernel) rfl
theorem dL_law_2440 : decode cL_law 2440 = .ok (.istore 7, 2) := dec_w [0x36, 0x07] (pc9 (k := 2432) (j := 8) lwD_38 rfl) (by decide +kernel) rfl
theorem dL_law_2442 : decode cL_law 2442 = .ok (.aload_n 2, 1) := dec_w [0x2c] (pc9 (k := 2432) (j := 10) lwD_38 rfl) (by decide +kernel) rfl
theorem dL_law_2443 : decode cL_law 2443 = .ok (.invokevirtual 212, 3) := dec_w [0xb6, 0x00, 0xd4] (pc9 (k := 2432) (j := 11) lwD_38 rfl) (by decide +kernel) rfl
theorem dL_law_2446 : decode cL_law 2446 = .ok (.iload 6, 2) := dec_w [0x15, 0x06] (pc9 (k := 2432) (j := 14) lwD_38 rfl) (by decide +kernel) rfl
theorem dL_law_2448 : decode cL_law 2448 = .ok (.if_icmp .eq 5, 3) := dec_w [0x9f, 0x00, 0x05] (pc9 (k := 2432) (j := 16) lwD_38 rfl) (by decide +kernel) rfl
theorem dL_law_2451 : decode cL_law 2451 = .ok (.iconst 0, 1) := dec_w [0x03] (pc9 (k := 2432) (j := 19) lwD_38 rfl) (by decide +kernel) rfl
theorem dL_law_2452 : decode cL_law 2452 = .ok (.ireturn, 1) := dec_w [0xac] (pc9 (k := 2432) (j := 20) lwD_38 rfl) (by decide +kernel) rfl
theorem dL_law_2453 : decode cL_law 2453 = .ok (.iload 6, 2) := dec_w [0x15, 0x06] (pc9 (k := 2432) (j := 21) lwD_38 rfl) (by decide +kernel) rfl
theorem dL_law_2455 : decode cL_law 2455 = .ok (.ifCond .ne 15, 3) := dec_w [0x9a, 0x00, 0x0f] (pc9 (k := 2432) (j := 23) lwD_38 rfl) (by decide +kernel) rfl
theorem dL_law_2458 : decode cL_law 2458 = .ok (.aload_n 3, 1) := dec_w [0x2d] (pc9 (k := 2432) (j := 26) lwD_38 rfl) (by decide +kernel) rfl
theorem dL_law_2459 : decode cL_law 2459 = .ok (.iconst 0, 1) := dec_w [0x03] (pc9 (k := 2432) (j := 27) lwD_38 rfl) (by decide +kernel) rfl
theorem dL_law_2460 : decode cL_law 2460 = .ok (.laload, 1) := dec_w [0x2f] (pc9 (k := 2432) (j := 28) lwD_38 rfl) (by decide +kernel) rfl
theorem dL_law_2461 : decode cL_law 2461 = .ok (.iload 7, 2) := dec_w [0x15, 0x07] (pc9 (k := 2432) (j := 29) lwD_38 rfl) (by decide +kernel) rfl
theorem dL_law_2463 : decode cL_law 2463 = .ok (.i2l, 1) := dec_w [0x85] (pc9 (k := 2432) (j := 31) lwD_38 rfl) (by decide +kernel) rfl
theorem dL_law_2464 : decode cL_law 2464 = .ok (.lcmp, 1) := dec_w [0x94] (pc9 (k := 2432) (j := 32) lwD_38 rfl) (by decide +kernel) rfl
theorem dL_law_2465 : decode cL_law 2465 = .ok (.ifCond .eq 5, 3) := dec_w [0x99, 0x00, 0x05] (pc9 (k := 2432) (j := 33) lwD_38 rfl) (by decide +kernel) rfl
theorem dL_law_2468 : decode cL_law 2468 = .ok (.iconst 0, 1) := dec_w [0x03] (pc9 (k := 2432) (j := 36) lwD_38 rfl) (by decide +kernel) rfl
theorem dL_law_2469 : decode cL_law 2469 = .ok (.ireturn, 1) := dec_w [0xac] (pc9 (k := 2432) (j := 37) lwD_38 rfl) (by decide +kernel) rfl
theorem dL_law_2470 : decode cL_law 2470 = .ok (.goto 1756, 3) := dec_w [0xa7, 0x06, 0xdc] (pc9 (k := 2432) (j := 38) lwD_38 rfl) (by decide +kernel) rfl
theorem dL_law_2473 : decode cL_law 2473 = .ok (.aload_n 1, 1) := dec_w [0x2b] (pc9 (k := 2432) (j := 41) lwD_38 rfl) (by decide +kernel) rfl
theorem dL_law_2474 : decode cL_law 2474 = .ok (.aload_n 0, 1) := dec_w [0x2a] (pc9 (k := 2432) (j := 42) lwD_38 rfl) (by decide +kernel) rfl
theorem dL_law_2475 : decode cL_law 2475 = .ok (.iload 5, 2) := dec_w [0x15, 0x05] (pc9 (k := 2432) (j := 43) lwD_38 rfl) (by decide +kernel) rfl
theorem dL_law_2477 : decode cL_law 2477 = .ok (.iconst 1, 1) := dec_w [0x04] (pc9 (k := 2432) (j := 45) lwD_38 rfl) (by decide +kernel) rfl
theorem dL_law_2478 : decode cL_law 2478 = .ok (.iadd, 1) := dec_w [0x60] (pc9 (k := 2432) (j := 46) lwD_38 rfl) (by decide +kernel) rfl
theorem dL_law_2479 : decode cL_law 2479 = .ok (.iaload, 1) := dec_w [0x2e] (pc9 (k := 2432) (j := 47) lwD_38 rfl) (by decide +kernel) rfl
theorem dL_law_2480 : decode cL_law 2480 = .ok (.aload_n 3, 1) := dec_w [0x2d] (pc9 (k := 2432) (j := 48) lwD_38 rfl) (by decide +kernel) rfl
theorem dL_law_2481 : decode cL_law 2481 = .ok (.invokestatic 307, 3) := dec_w [0xb8, 0x01, 0x33] (pc9 (k := 2432) (j := 49) lwD_38 rfl) (by decide +kernel) rfl
theorem dL_law_2484 : decode cL_law 2484 = .ok (.istore 6, 2) := dec_w [0x36, 0x06] (pc9 (k := 2432) (j := 52) lwD_38 rfl) (by decide +kernel) rfl
theorem dL_law_2486 : decode cL_law 2486 = .ok (.aload_n 2, 1) := dec_w [0x2c] (pc9 (k := 2432) (j := 54) lwD_38 rfl) (by decide +kernel) rfl
theorem dL_law_2487 : decode cL_law 2487 = .ok (.aload_n 0, 1) := dec_w [0x2a] (pc9 (k := 2432) (j := 55) lwD_38 rfl) (by decide +kernel) rfl
theorem dL_law_2488 : decode cL_law 2488 = .ok (.iload 5, 2) := dec_w [0x15, 0x05] (pc9 (k := 2432) (j := 56) lwD_38 rfl) (by decide +kernel) rfl
theorem dL_law_2490 : decode cL_law 2490 = .ok (.iconst 1, 1) := dec_w [0x04] (pc9 (k := 2432) (j := 58) lwD_38 rfl) (by decide +kernel) rfl
theorem dL_law_2491 : decode cL_law 2491 = .ok (.iadd, 1) := dec_w [0x60] (pc9 (k := 2432) (j := 59) lwD_38 rfl) (by decide +kernel) rfl
theorem dL_law_2492 : decode cL_law 2492 = .ok (.iaload, 1) := dec_w [0x2e] (pc9 (k := 2432) (j := 60) lwD_38 rfl) (by decide +kernel) rfl
theorem dL_law_2493 : decode cL_law 2493 = .ok (.invokevirtual 309, 3) := dec_w [0xb6, 0x01, 0x35] (pc9 (k := 2432) (j := 61) lwD_38 rfl) (by decide +kernel) rfl
theorem dL_law_2496 : decode cL_law 2496 = .ok (.istore 7, 2) := dec_w [0x36, 0x07] (pc9 (k := 2496) (j := 0) lwD_39 rfl) (by decide +kernel) rfl
theorem dL_law_2498 : decode cL_law 2498 = .ok (.aload_n 2, 1) := dec_w [0x2c] (pc9 (k := 2496) (j := 2) lwD_39 rfl) (by decide +kernel) rfl
theorem dL_law_2499 : decode cL_law 2499 = .ok (.invokevirtual 212, 3) := dec_w [0xb6, 0x00, 0xd4] (pc9 (k := 2496) (j := 3) lwD_39 rfl) (by decide +kernel) rfl
theorem dL_law_2502 : decode cL_law 2502 = .ok (.iload 6, 2) := dec_w [0x15, 0x06] (pc9 (k := 2496) (j := 6) lwD_39 rfl) (by decide +kernel) rfl
theorem dL_law_2504 : decode cL_law 2504 = .ok (.if_icmp .eq 5, 3) := dec_w [0x9f, 0x00, 0x05] (pc9 (k := 2496) (j := 8) lwD_39 rfl) (by decide +kernel) rfl
theorem dL_law_2507 : decode cL_law 2507 = .ok (.iconst 0, 1) := dec_w [0x03] (pc9 (k := 2496) (j := 11) lwD_39 rfl) (by decide +kernel) rfl
theorem dL_law_2508 : decode cL_law 2508 = .ok (.ireturn, 1) := dec_w [0xac] (pc9 (k := 2496) (j := 12) lwD_39 rfl) (by decide +kernel) rfl
theorem dL_law_2509 : decode cL_law 2509 = .ok (.iload 6, 2) := dec_w [0x15, 0x06] (pc9 (k := 2496) (j := 13) lwD_39 rfl) (by decide +kernel) rfl
theorem dL_law_2511 : decode cL_law 2511 = .ok (.ifCond .ne 15, 3) := dec_w [0x9a, 0x00, 0x0f] (pc9 (k := 2496) (j := 15) lwD_39 rfl) (by decide +kernel) rfl
theorem dL_law_2514 : decode cL_law 2514 = .ok (.aload_n 3, 1) := dec_w [0x2d] (pc9 (k := 2496) (j := 18) lwD_39 rfl) (by decide +kernel) rfl
theorem dL_law_2515 : decode cL_law 2515 = .ok (.iconst 0, 1) := dec_w [0x03] (pc9 (k := 2496) (j := 19) lwD_39 rfl) (by decide +kernel) rfl
theorem dL_law_2516 : decode cL_law 2516 = .ok (.laload, 1) := dec_w [0x2f] (pc9 (k := 2496) (j := 20) lwD_39 rfl) (by decide +kernel) rfl
theorem dL_law_2517 : decode cL_law 2517 = .ok (.iload 7, 2) := dec_w [0x15, 0x07] (pc9 (k := 2496) (j := 21) lwD_39 rfl) (by decide +kernel) rfl
theorem dL_law_2519 : decode cL_law 2519 = .ok (.i2l, 1) := dec_w [0x85] (pc9 (k := 2496) (j := 23) lwD_39 rfl) (by decide +kernel) rfl
theorem dL_law_2520 : decode cL_law 2520 = .ok (.lcmp, 1) := dec_w [0x94] (pc9 (k := 2496) (j := 24) lwD_39 rfl) (by decide +kernel) rfl
theorem dL_law_2521 : decode cL_law 2521 = .ok (.ifCond .eq 5, 3) := dec_w [0x99, 0x00, 0x05] (pc9 (k := 2496) (j := 25) lwD_39 rfl) (by decide +kernel) rfl
theorem dL_law_2524 : decode cL_law 2524 = .ok (.iconst 0, 1) := dec_w [0x03] (pc9 (k := 2496) (j := 28) lwD_39 rfl) (by decide +kernel) rfl
theorem dL_law_2525 : decode cL_law 2525 = .ok (.ireturn, 1) := dec_w [0xac] (pc9 (k := 2496) (j := 29) lwD_39 rfl) (by decide +kernel) rfl
theorem dL_law_2526 : decode cL_law 2526 = .ok (.goto 1700, 3) := dec_w [0xa7, 0x06, 0xa4] (pc9 (k := 2496) (j := 30) lwD_39 rfl) (by decide +kernel) rfl
theorem dL_law_2529 : decode cL_law 2529 = .ok (.aload_n 1, 1) := dec_w [0x2b] (pc9 (k := 2496) (j := 33) lwD_39 rfl) (by decide +kernel) rfl
theorem dL_law_2530 : decode cL_law 2530 = .ok (.aload_n 0, 1) := dec_w [0x2a] (pc9 (k := 2496) (j := 34) lwD_39 rfl) (by decide +kernel) rfl
theorem dL_law_2531 : decode cL_law 2531 = .ok (.iload 5, 2) := dec_w [0x15, 0x05] (pc9 (k := 2496) (j := 35) lwD_39 rfl) (by decide +kernel) rfl
theorem dL_law_2533 : decode cL_law 2533 = .ok (.iconst 1, 1) := dec_w [0x04] (pc9 (k := 2496) (j := 37) lwD_39 rfl) (by decide +kernel) rfl
theorem dL_law_2534 : decode cL_law 2534 = .ok (.iadd, 1) := dec_w [0x60] (pc9 (k := 2496) (j := 38) lwD_39 rfl) (by decide +kernel) rfl
theorem dL_law_2535 : decode cL_law 2535 = .ok (.iaload, 1) := dec_w [0x2e] (pc9 (k := 2496) (j := 39) lwD_39 rfl) (by decide +kernel) rfl
theorem dL_law_2536 : decode cL_law 2536 = .ok (.aload_n 0, 1) := dec_w [0x2a] (pc9 (k := 2496) (j := 40) lwD_39 rfl) (by decide +kernel) rfl
theorem dL_law_2537 : decode cL_law 2537 = .ok (.iload 5, 2) := dec_w [0x15, 0x05] (pc9 (k := 2496) (j := 41) lwD_39 rfl) (by decide +kernel) rfl
theorem dL_law_2539 : decode cL_law 2539 = .ok (.iconst 2, 1) := dec_w [0x05] (pc9 (k := 2496) (j := 43) lwD_39 rfl) (by decide +kernel) rfl
theorem dL_law_2540 : decode cL_law 2540 = .ok (.iadd, 1) := dec_w [0x60] (pc9 (k := 2496) (j := 44) lwD_39 rfl) (by decide +kernel) rfl
theorem dL_law_2541 : decode cL_law 2541 = .ok (.iaload, 1) := dec_w [0x2e] (pc9 (k := 2496) (j := 45) lwD_39 rfl) (by decide +kernel) rfl
theorem dL_law_2542 : decode cL_law 2542 = .ok (.i2l, 1) := dec_w [0x85] (pc9 (k := 2496) (j := 46) lwD_39 rfl) (by decide +kernel) rfl
theorem dL_law_2543 : decode cL_law 2543 = .ok (.bipush 32, 2) := dec_w [0x10, 0x20] (pc9 (k := 2496) (j := 47) lwD_39 rfl) (by decide +kernel) rfl
theorem dL_law_2545 : decode cL_law 2545 = .ok (.lshl, 1) := dec_w [0x79] (pc9 (k := 2496) (j := 49) lwD_39 rfl) (by decide +kernel) rfl
theorem dL_law_2546 : decode cL_law 2546 = .ok (.aload_n 0, 1) := dec_w [0x2a] (pc9 (k := 2496) (j := 50) lwD_39 rfl) (by decide +kernel) rfl
theorem dL_law_2547 : decode cL_law 2547 = .ok (.iload 5, 2) := dec_w [0x15, 0x05] (pc9 (k := 2496) (j := 51) lwD_39 rfl) (by decide +kernel) rfl
theorem dL_law_2549 : decode cL_law 2549 = .ok (.iconst 3, 1) := dec_w [0x06] (pc9 (k := 2496) (j := 53) lwD_39 rfl) (by decide +kernel) rfl
theorem dL_law_2550 : decode cL_law 2550 = .ok (.iadd, 1) := dec_w [0x60] (pc9 (k := 2496) (j := 54) lwD_39 rfl) (by decide +kernel) rfl
theorem dL_law_2551 : decode cL_law 2551 = .ok (.iaload, 1) := dec_w [0x2e] (pc9 (k := 2496) (j := 55) lwD_39 rfl) (by decide +kernel) rfl
theorem dL_law_2552 : decode cL_law 2552 = .ok (.i2l, 1) := dec_w [0x85] (pc9 (k := 2496) (j := 56) lwD_39 rfl) (by decide +kernel) rfl
theorem dL_law_2553 : decode cL_law 2553 = .ok (.ldc2_w 186, 3) := dec_w [0x14, 0x00, 0xba] (pc9 (k := 2496) (j := 57) lwD_39 rfl) (by decide +kernel) rfl
theorem dL_law_2556 : decode cL_law 2556 = .ok (.land, 1) := dec_w [0x7f] (pc9 (k := 2496) (j := 60) lwD_39 rfl) (by decide +kernel) rfl
theorem dL_law_2557 : decode cL_law 2557 = .ok (.lor, 1) := dec_w [0x81] (pc9 (k := 2496) (j := 61) lwD_39 rfl) (by decide +kernel) rfl
theorem dL_law_2558 : decode cL_law 2558 = .ok (.aload_n 3, 1) := dec_w [0x2d] (pc9 (k := 2496) (j := 62) lwD_39 rfl) (by decide +kernel) rfl
theorem dL_law_2559 : decode cL_law 2559 = .ok (.invokestatic 310, 3) := dec_w [0xb8, 0x01, 0x36] (pc9 (k := 2496) (j := 63) lwD_39 rfl) (by decide +kernel) rfl
theorem dL_law_2562 : decode cL_law 2562 = .ok (.istore 6, 2) := dec_w [0x36, 0x06] (pc9 (k := 2560) (j := 2) lwD_40 rfl) (by decide +kernel) rfl
theorem dL_law_2564 : decode cL_law 2564 = .ok (.aload_n 2, 1) := dec_w [0x2c] (pc9 (k := 2560) (j := 4) lwD_40 rfl) (by decide +kernel) rfl
theorem dL_law_2565 : decode cL_law 2565 = .ok (.aload_n 0, 1) := dec_w [0x2a] (pc9 (k := 2560) (j := 5) lwD_40 rfl) (by decide +kernel) rfl
theorem dL_law_2566 : decode cL_law 2566 = .ok (.iload 5, 2) := dec_w [0x15, 0x05] (pc9 (k := 2560) (j := 6) lwD_40 rfl) (by decide +kernel) rfl
theorem dL_law_2568 : decode cL_law 2568 = .ok (.iconst 1, 1) := dec_w [0x04] (pc9 (k := 2560) (j := 8) lwD_40 rfl) (by decide +kernel) rfl
theorem dL_law_2569 : decode cL_law 2569 = .ok (.iadd, 1) := dec_w [0x60] (pc9 (k := 2560) (j := 9) lwD_40 rfl) (by decide +kernel) rfl
theorem dL_law_2570 : decode cL_law 2570 = .ok (.iaload, 1) := dec_w [0x2e] (pc9 (k := 2560) (j := 10) lwD_40 rfl) (by decide +kernel) rfl
theorem dL_law_2571 : decode cL_law 2571 = .ok (.aload_n 0, 1) := dec_w [0x2a] (pc9 (k := 2560) (j := 11) lwD_40 rfl) (by decide +kernel) rfl
theorem dL_law_2572 : decode cL_law 2572 = .ok (.iload 5, 2) := dec_w [0x15, 0x05] (pc9 (k := 2560) (j := 12) lwD_40 rfl) (by decide +kernel) rfl
theorem dL_law_2574 : decode cL_law 2574 = .ok (.iconst 2, 1) := dec_w [0x05] (pc9 (k := 2560) (j := 14) lwD_40 rfl) (by decide +kernel) rfl
theorem dL_law_2575 : decode cL_law 2575 = .ok (.iadd, 1) := dec_w [0x60] (pc9 (k := 2560) (j := 15) lwD_40 rfl) (by decide +kernel) rfl
theorem dL_law_2576 : decode cL_law 2576 = .ok (.iaload, 1) := dec_w [0x2e] (pc9 (k := 2560) (j := 16) lwD_40 rfl) (by decide +kernel) rfl
theorem dL_law_2577 : decode cL_law 2577 = .ok (.i2l, 1) := dec_w [0x85] (pc9 (k := 2560) (j := 17) lwD_40 rfl) (by decide +kernel) rfl
theorem dL_law_2578 : decode cL_law 2578 = .ok (.bipush 32, 2) := dec_w [0x10, 0x20] (pc9 (k := 2560) (j := 18) lwD_40 rfl) (by decide +kernel) rfl
theorem dL_law_2580 : decode cL_law 2580 = .ok (.lshl, 1) := dec_w [0x79] (pc9 (k := 2560) (j := 20) lwD_40 rfl) (by decide +kernel) rfl
theorem dL_law_2581 : decode cL_law 2581 = .ok (.aload_n 0, 1) := dec_w [0x2a] (pc9 (k := 2560) (j := 21) lwD_40 rfl) (by decide +kernel) rfl
theorem dL_law_2582 : decode cL_law 2582 = .ok (.iload 5, 2) := dec_w [0x15, 0x05] (pc9 (k := 2560) (j := 22) lwD_40 rfl) (by decide +kernel) rfl
theorem dL_law_2584 : decode cL_law 2584 = .ok (.iconst 3, 1) := dec_w [0x06] (pc9 (k := 2560) (j := 24) lwD_40 rfl) (by decide +kernel) rfl
theorem dL_law_2585 : decode cL_law 2585 = .ok (.iadd, 1) := dec_w [0x60] (pc9 (k := 2560) (j := 25) lwD_40 rfl) (by decide +kernel) rfl
theorem dL_law_2586 : decode cL_law 2586 = .ok (.iaload, 1) := dec_w [0x2e] (pc9 (k := 2560) (j := 26) lwD_40 rfl) (by decide +kernel) rfl
theorem dL_law_2587 : decode cL_law 2587 = .ok (.i2l, 1) := dec_w [0x85] (pc9 (k := 2560) (j := 27) lwD_40 rfl) (by decide +kernel) rfl
theorem dL_law_2588 : decode cL_law 2588 = .ok (.ldc2_w 186, 3) := dec_w [0x14, 0x00, 0xba] (pc9 (k := 2560) (j := 28) lwD_40 rfl) (by decide +kernel) rfl
theorem dL_law_2591 : decode cL_law 2591 = .ok (.land, 1) := dec_w [0x7f] (pc9 (k := 2560) (j := 31) lwD_40 rfl) (by decide +kernel) rfl
theorem dL_law_2592 : decode cL_law 2592 = .ok (.lor, 1) := dec_w [0x81] (pc9 (k := 2560) (j := 32) lwD_40 rfl) (by decide +kernel) rfl
theorem dL_law_2593 : decode cL_law 2593 = .ok (.invokevirtual 312, 3) := dec_w [0xb6, 0x01, 0x38] (pc9 (k := 2560) (j := 33) lwD_40 rfl) (by decide +kernel) rfl
theorem dL_law_2596 : decode cL_law 2596 = .ok (.lstore 7, 2) := dec_w [0x37, 0x07] (pc9 (k := 2560) (j := 36) lwD_40 rfl) (by decide +kernel) rfl
theorem dL_law_2598 : decode cL_law 2598 = .ok (.aload_n 2, 1) := dec_w [0x2c] (pc9 (k := 2560) (j := 38) lwD_40 rfl) (by decide +kernel) rfl
theorem dL_law_2599 : decode cL_law 2599 = .ok (.invokevirtual 212, 3) := dec_w [0xb6, 0x00, 0xd4] (pc9 (k := 2560) (j := 39) lwD_40 rfl) (by decide +kernel) rfl
theorem dL_law_2602 : decode cL_law 2602 = .ok (.iload 6, 2) := dec_w [0x15, 0x06] (pc9 (k := 2560) (j := 42) lwD_40 rfl) (by decide +kernel) rfl
theorem dL_law_2604 : decode cL_law 2604 = .ok (.if_icmp .eq 5, 3) := dec_w [0x9f, 0x00, 0x05] (pc9 (k := 2560) (j := 44) lwD_40 rfl) (by decide +kernel) rfl
theorem dL_law_2607 : decode cL_law 2607 = .ok (.iconst 0, 1) := dec_w [0x03] (pc9 (k := 2560) (j := 47) lwD_40 rfl) (by decide +kernel) rfl
theorem dL_law_2608 : decode cL_law 2608 = .ok (.ireturn, 1) := dec_w [0xac] (pc9 (k := 2560) (j := 48) lwD_40 rfl) (by decide +kernel) rfl
theorem dL_law_2609 : decode cL_law 2609 = .ok (.iload 6, 2) := dec_w [0x15, 0x06] (pc9 (k := 2560) (j := 49) lwD_40 rfl) (by decide +kernel) rfl
theorem dL_law_2611 : decode cL_law 2611 = .ok (.ifCond .ne 14, 3) := dec_w [0x9a, 0x00, 0x0e] (pc9 (k := 2560) (j := 51) lwD_40 rfl) (by decide +kernel) rfl
theorem dL_law_2614 : decode cL_law 2614 = .ok (.aload_n 3, 1) := dec_w [0x2d] (pc9 (k := 2560) (j := 54) lwD_40 rfl) (by decide +kernel) rfl
theorem dL_law_2615 : decode cL_law 2615 = .ok (.iconst 0, 1) := dec_w [0x03] (pc9 (k := 2560) (j := 55) lwD_40 rfl) (by decide +kernel) rfl
theorem dL_law_2616 : decode cL_law 2616 = .ok (.laload, 1) := dec_w [0x2f] (pc9 (k := 2560) (j := 56) lwD_40 rfl) (by decide +kernel) rfl
theorem dL_law_2617 : decode cL_law 2617 = .ok (.lload 7, 2) := dec_w [0x16, 0x07] (pc9 (k := 2560) (j := 57) lwD_40 rfl) (by decide +kernel) rfl
theorem dL_law_2619 : decode cL_law 2619 = .ok (.lcmp, 1) := dec_w [0x94] (pc9 (k := 2560) (j := 59) lwD_40 rfl) (by decide +kernel) rfl
theorem dL_law_2620 : decode cL_law 2620 = .ok (.ifCond .eq 5, 3) := dec_w [0x99, 0x00, 0x05] (pc9 (k := 2560) (j := 60) lwD_40 rfl) (by decide +kernel) rfl
theorem dL_law_2623 : decode cL_law 2623 = .ok (.iconst 0, 1) := dec_w [0x03] (pc9 (k := 2560) (j := 63) lwD_40 rfl) (by decide +kernel) rfl
theorem dL_law_2624 : decode cL_law 2624 = .ok (.ireturn, 1) := dec_w [0xac] (pc9 (k := 2624) (j := 0) lwD_41 rfl) (by decide +kernel) rfl
theorem dL_law_2625 : decode cL_law 2625 = .ok (.goto 1601, 3) := dec_w [0xa7, 0x06, 0x41] (pc9 (k := 2624) (j := 1) lwD_41 rfl) (by decide +kernel) rfl
theorem dL_law_2628 : decode cL_law 2628 = .ok (.aload_n 1, 1) := dec_w [0x2b] (pc9 (k := 2624) (j := 4) lwD_41 rfl) (by decide +kernel) rfl
theorem dL_law_2629 : decode cL_law 2629 = .ok (.aload_n 0, 1) := dec_w [0x2a] (pc9 (k := 2624) (j := 5) lwD_41 rfl) (by decide +kernel) rfl
theorem dL_law_2630 : decode cL_law 2630 = .ok (.iload 5, 2) := dec_w [0x15, 0x05] (pc9 (k := 2624) (j := 6) lwD_41 rfl) (by decide +kernel) rfl
theorem dL_law_2632 : decode cL_law 2632 = .ok (.iconst 1, 1) := dec_w [0x04] (pc9 (k := 2624) (j := 8) lwD_41 rfl) (by decide +kernel) rfl
theorem dL_law_2633 : decode cL_law 2633 = .ok (.iadd, 1) := dec_w [0x60] (pc9 (k := 2624) (j := 9) lwD_41 rfl) (by decide +kernel) rfl
theorem dL_law_2634 : decode cL_law 2634 = .ok (.iaload, 1) := dec_w [0x2e] (pc9 (k := 2624) (j := 10) lwD_41 rfl) (by decide +kernel) rfl
theorem dL_law_2635 : decode cL_law 2635 = .ok (.aload_n 0, 1) := dec_w [0x2a] (pc9 (k := 2624) (j := 11) lwD_41 rfl) (by decide +kernel) rfl
theorem dL_law_2636 : decode cL_law 2636 = .ok (.iload 5, 2) := dec_w [0x15, 0x05] (pc9 (k := 2624) (j := 12) lwD_41 rfl) (by decide +kernel) rfl
theorem dL_law_2638 : decode cL_law 2638 = .ok (.iconst 2, 1) := dec_w [0x05] (pc9 (k := 2624) (j := 14) lwD_41 rfl) (by decide +kernel) rfl
theorem dL_law_2639 : decode cL_law 2639 = .ok (.iadd, 1) := dec_w [0x60] (pc9 (k := 2624) (j := 15) lwD_41 rfl) (by decide +kernel) rfl
theorem dL_law_2640 : decode cL_law 2640 = .ok (.iaload, 1) := dec_w [0x2e] (pc9 (k := 2624) (j := 16) lwD_41 rfl) (by decide +kernel) rfl
theorem dL_law_2641 : decode cL_law 2641 = .ok (.i2l, 1) := dec_w [0x85] (pc9 (k := 2624) (j := 17) lwD_41 rfl) (by decide +kernel) rfl
theorem dL_law_2642 : decode cL_law 2642 = .ok (.bipush 32, 2) := dec_w [0x10, 0x20] (pc9 (k := 2624) (j := 18) lwD_41 rfl) (by decide +kernel) rfl
theorem dL_law_2644 : decode cL_law 2644 = .ok (.lshl, 1) := dec_w [0x79] (pc9 (k := 2624) (j := 20) lwD_41 rfl) (by decide +kernel) rfl
theorem dL_law_2645 : decode cL_law 2645 = .ok (.aload_n 0, 1) := dec_w [0x2a] (pc9 (k := 2624) (j := 21) lwD_41 rfl) (by decide +kernel) rfl
theorem dL_law_2646 : decode cL_law 2646 = .ok (.iload 5, 2) := dec_w [0x15, 0x05] (pc9 (k := 2624) (j := 22) lwD_41 rfl) (by decide +kernel) rfl
theorem dL_law_2648 : decode cL_law 2648 = .ok (.iconst 3, 1) := dec_w [0x06] (pc9 (k := 2624) (j := 24) lwD_41 rfl) (by decide +kernel) rfl
theorem dL_law_2649 : decode cL_law 2649 = .ok (.iadd, 1) := dec_w [0x60] (pc9 (k := 2624) (j := 25) lwD_41 rfl) (by decide +kernel) rfl
theorem dL_law_2650 : decode cL_law 2650 = .ok (.iaload, 1) := dec_w [0x2e] (pc9 (k := 2624) (j := 26) lwD_41 rfl) (by decide +kernel) rfl
theorem dL_law_2651 : decode cL_law 2651 = .ok (.i2l, 1) := dec_w [0x85] (pc9 (k := 2624) (j := 27) lwD_41 rfl) (by decide +kernel) rfl
theorem dL_law_2652 : decode cL_law 2652 = .ok (.ldc2_w 186, 3) := dec_w [0x14, 0x00, 0xba] (pc9 (k := 2624) (j := 28) lwD_41 rfl) (by decide +kernel) rfl
theorem dL_law_2655 : decode cL_law 2655 = .ok (.land, 1) := dec_w [0x7f] (pc9 (k := 2624) (j := 31) lwD_41 rfl) (by decide +kernel) rfl
theorem dL_law_2656 : decode cL_law 2656 = .ok (.lor, 1) := dec_w [0x81] (pc9 (k := 2624) (j := 32) lwD_41 rfl) (by decide +kernel) rfl
theorem dL_law_2657 : decode cL_law 2657 = .ok (.aload_n 3, 1) := dec_w [0x2d] (pc9 (k := 2624) (j := 33) lwD_41 rfl) (by decide +kernel) rfl
theorem dL_law_2658 : decode cL_law 2658 = .ok (.invokestatic 313, 3) := dec_w [0xb8, 0x01, 0x39] (pc9 (k := 2624) (j := 34) lwD_41 rfl) (by decide +kernel) rfl
theorem dL_law_2661 : decode cL_law 2661 = .ok (.istore 6, 2) := dec_w [0x36, 0x06] (pc9 (k := 2624) (j := 37) lwD_41 rfl) (by decide +kernel) rfl
theorem dL_law_2663 : decode cL_law 2663 = .ok (.aload_n 2, 1) := dec_w [0x2c] (pc9 (k := 2624) (j := 39) lwD_41 rfl) (by decide +kernel) rfl
theorem dL_law_2664 : decode cL_law 2664 = .ok (.aload_n 0, 1) := dec_w [0x2a] (pc9 (k := 2624) (j := 40) lwD_41 rfl) (by decide +kernel) rfl
theorem dL_law_2665 : decode cL_law 2665 = .ok (.iload 5, 2) := dec_w [0x15, 0x05] (pc9 (k := 2624) (j := 41) lwD_41 rfl) (by decide +kernel) rfl
theorem dL_law_2667 : decode cL_law 2667 = .ok (.iconst 1, 1) := dec_w [0x04] (pc9 (k := 2624) (j := 43) lwD_41 rfl) (by decide +kernel) rfl
theorem dL_law_2668 : decode cL_law 2668 = .ok (.iadd, 1) := dec_w [0x60] (pc9 (k := 2624) (j := 44) lwD_41 rfl) (by decide +kernel) rfl
theorem dL_law_2669 : decode cL_law 2669 = .ok (.iaload, 1) := dec_w [0x2e] (pc9 (k := 2624) (j := 45) lwD_41 rfl) (by decide +kernel) rfl
theorem dL_law_2670 : decode cL_law 2670 = .ok (.aload_n 0, 1) := dec_w [0x2a] (pc9 (k := 2624) (j := 46) lwD_41 rfl) (by decide +kernel) rfl
theorem dL_law_2671 : decode cL_law 2671 = .ok (.iload 5, 2) := dec_w [0x15, 0x05] (pc9 (k := 2624) (j := 47) lwD_41 rfl) (by decide +kernel) rfl
theorem dL_law_2673 : decode cL_law 2673 = .ok (.iconst 2, 1) := dec_w [0x05] (pc9 (k := 2624) (j := 49) lwD_41 rfl) (by decide +kernel) rfl
theorem dL_law_2674 : decode cL_law 2674 = .ok (.iadd, 1) := dec_w [0x60] (pc9 (k := 2624) (j := 50) lwD_41 rfl) (by decide +kernel) rfl
theorem dL_law_2675 : decode cL_law 2675 = .ok (.iaload, 1) := dec_w [0x2e] (pc9 (k := 2624) (j := 51) lwD_41 rfl) (by decide +kernel) rfl
theorem dL_law_2676 : decode cL_law 2676 = .ok (.i2l, 1) := dec_w [0x85] (pc9 (k := 2624) (j := 52) lwD_41 rfl) (by decide +kernel) rfl
theorem dL_law_2677 : decode cL_law 2677 = .ok (.bipush 32, 2) := dec_w [0x10, 0x20] (pc9 (k := 2624) (j := 53) lwD_41 rfl) (by decide +kernel) rfl
theorem dL_law_2679 : decode cL_law 2679 = .ok (.lshl, 1) := dec_w [0x79] (pc9 (k := 2624) (j := 55) lwD_41 rfl) (by decide +kernel) rfl
theorem dL_law_2680 : decode cL_law 2680 = .ok (.aload_n 0, 1) := dec_w [0x2a] (pc9 (k := 2624) (j := 56) lwD_41 rfl) (by decide +kernel) rfl
theorem dL_law_2681 : decode cL_law 2681 = .ok (.iload 5, 2) := dec_w [0x15, 0x05] (pc9 (k := 2624) (j := 57) lwD_41 rfl) (by decide +kernel) rfl
theorem dL_law_2683 : decode cL_law 2683 = .ok (.iconst 3, 1) := dec_w [0x06] (pc9 (k := 2624) (j := 59) lwD_41 rfl) (by decide +kernel) rfl
theorem dL_law_2684 : decode cL_law 2684 = .ok (.iadd, 1) := dec_w [0x60] (pc9 (k := 2624) (j := 60) lwD_41 rfl) (by decide +kernel) rfl
theorem dL_law_2685 : decode cL_law 2685 = .ok (.iaload, 1) := dec_w [0x2e] (pc9 (k := 2624) (j := 61) lwD_41 rfl) (by decide +kernel) rfl
theorem dL_law_2686 : decode cL_law 2686 = .ok (.i2l, 1) := dec_w [0x85] (pc9 (k := 2624) (j := 62) lwD_41 rfl) (by decide +kernel) rfl
theorem dL_law_2687 : decode cL_law 2687 = .ok (.ldc2_w 186, 3) := dec_w [0x14, 0x00, 0xba] (pc9 (k := 2624) (j := 63) lwD_41 rfl) (by decide +kernel) rfl
theorem dL_law_2690 : decode cL_law 2690 = .ok (.land, 1) := dec_w [0x7f] (pc9 (k := 2688) (j := 2) lwD_42 rfl) (by decide +kernel) rfl
theorem dL_law_2691 : decode cL_law 2691 = .ok (.lor, 1) := dec_w [0x81] (pc9 (k := 2688) (j := 3) lwD_42 rfl) (by decide +kernel) rfl
theorem dL_law_2692 : decode cL_law 2692 = .ok (.invokevirtual 315, 3) := dec_w [0xb6, 0x01, 0x3b] (pc9 (k := 2688) (j := 4) lwD_42 rfl) (by decide +kernel) rfl
theorem dL_law_2695 : decode cL_law 2695 = .ok (.istore 7, 2) := dec_w [0x36, 0x07] (pc9 (k := 2688) (j := 7) lwD_42 rfl) (by decide +kernel) rfl
theorem dL_law_2697 : decode cL_law 2697 = .ok (.aload_n 2, 1) := dec_w [0x2c] (pc9 (k := 2688) (j := 9) lwD_42 rfl) (by decide +kernel) rfl
theorem dL_law_2698 : decode cL_law 2698 = .ok (.invokevirtual 212, 3) := dec_w [0xb6, 0x00, 0xd4] (pc9 (k := 2688) (j := 10) lwD_42 rfl) (by decide +kernel) rfl
theorem dL_law_2701 : decode cL_law 2701 = .ok (.iload 6, 2) := dec_w [0x15, 0x06] (pc9 (k := 2688) (j := 13) lwD_42 rfl) (by decide +kernel) rfl
theorem dL_law_2703 : decode cL_law 2703 = .ok (.if_icmp .eq 5, 3) := dec_w [0x9f, 0x00, 0x05] (pc9 (k := 2688) (j := 15) lwD_42 rfl) (by decide +kernel) rfl
theorem dL_law_2706 : decode cL_law 2706 = .ok (.iconst 0, 1) := dec_w [0x03] (pc9 (k := 2688) (j := 18) lwD_42 rfl) (by decide +kernel) rfl
theorem dL_law_2707 : decode cL_law 2707 = .ok (.ireturn, 1) := dec_w [0xac] (pc9 (k := 2688) (j := 19) lwD_42 rfl) (by decide +kernel) rfl
theorem dL_law_2708 : decode cL_law 2708 = .ok (.iload 6, 2) := dec_w [0x15, 0x06] (pc9 (k := 2688) (j := 20) lwD_42 rfl) (by decide +kernel) rfl
theorem dL_law_2710 : decode cL_law 2710 = .ok (.ifCond .ne 15, 3) := dec_w [0x9a, 0x00, 0x0f] (pc9 (k := 2688) (j := 22) lwD_42 rfl) (by decide +kernel) rfl
theorem dL_law_2713 : decode cL_law 2713 = .ok (.aload_n 3, 1) := dec_w [0x2d] (pc9 (k := 2688) (j := 25) lwD_42 rfl) (by decide +kernel) rfl
theorem dL_law_2714 : decode cL_law 2714 = .ok (.iconst 0, 1) := dec_w [0x03] (pc9 (k := 2688) (j := 26) lwD_42 rfl) (by decide +kernel) rfl
theorem dL_law_2715 : decode cL_law 2715 = .ok (.laload, 1) := dec_w [0x2f] (pc9 (k := 2688) (j := 27) lwD_42 rfl) (by decide +kernel) rfl
theorem dL_law_2716 : decode cL_law 2716 = .ok (.iload 7, 2) := dec_w [0x15, 0x07] (pc9 (k := 2688) (j := 28) lwD_42 rfl) (by decide +kernel) rfl
theorem dL_law_2718 : decode cL_law 2718 = .ok (.i2l, 1) := dec_w [0x85] (pc9 (k := 2688) (j := 30) lwD_42 rfl) (by decide +kernel) rfl
theorem dL_law_2719 : decode cL_law 2719 = .ok (.lcmp, 1) := dec_w [0x94] (pc9 (k := 2688) (j := 31) lwD_42 rfl) (by decide +kernel) rfl
theorem dL_law_2720 : decode cL_law 2720 = .ok (.ifCond .eq 5, 3) := dec_w [0x99, 0x00, 0x05] (pc9 (k := 2688) (j := 32) lwD_42 rfl) (by decide +kernel) rfl
theorem dL_law_2723 : decode cL_law 2723 = .ok (.iconst 0, 1) := dec_w [0x03] (pc9 (k := 2688) (j := 35) lwD_42 rfl) (by decide +kernel) rfl
theorem dL_law_2724 : decode cL_law 2724 = .ok (.ireturn, 1) := dec_w [0xac] (pc9 (k := 2688) (j := 36) lwD_42 rfl) (by decide +kernel) rfl
theorem dL_law_2725 : decode cL_law 2725 = .ok (.goto 1501, 3) := dec_w [0xa7, 0x05, 0xdd] (pc9 (k := 2688) (j := 37) lwD_42 rfl) (by decide +kernel) rfl
theorem dL_law_2728 : decode cL_law 2728 = .ok (.aload_n 1, 1) := dec_w [0x2b] (pc9 (k := 2688) (j := 40) lwD_42 rfl) (by decide +kernel) rfl
theorem dL_law_2729 : decode cL_law 2729 = .ok (.aload_n 0, 1) := dec_w [0x2a] (pc9 (k := 2688) (j := 41) lwD_42 rfl) (by decide +kernel) rfl
theorem dL_law_2730 : decode cL_law 2730 = .ok (.iload 5, 2) := dec_w [0x15, 0x05] (pc9 (k := 2688) (j := 42) lwD_42 rfl) (by decide +kernel) rfl
theorem dL_law_2732 : decode cL_law 2732 = .ok (.iconst 1, 1) := dec_w [0x04] (pc9 (k := 2688) (j := 44) lwD_42 rfl) (by decide +kernel) rfl
theorem dL_law_2733 : decode cL_law 2733 = .ok (.iadd, 1) := dec_w [0x60] (pc9 (k := 2688) (j := 45) lwD_42 rfl) (by decide +kernel) rfl
theorem dL_law_2734 : decode cL_law 2734 = .ok (.iaload, 1) := dec_w [0x2e] (pc9 (k := 2688) (j := 46) lwD_42 rfl) (by decide +kernel) rfl
theorem dL_law_2735 : decode cL_law 2735 = .ok (.aload_n 0, 1) := dec_w [0x2a] (pc9 (k := 2688) (j := 47) lwD_42 rfl) (by decide +kernel) rfl
theorem dL_law_2736 : decode cL_law 2736 = .ok (.iload 5, 2) := dec_w [0x15, 0x05] (pc9 (k := 2688) (j := 48) lwD_42 rfl) (by decide +kernel) rfl
theorem dL_law_2738 : decode cL_law 2738 = .ok (.iconst 2, 1) := dec_w [0x05] (pc9 (k := 2688) (j := 50) lwD_42 rfl) (by decide +kernel) rfl
theorem dL_law_2739 : decode cL_law 2739 = .ok (.iadd, 1) := dec_w [0x60] (pc9 (k := 2688) (j := 51) lwD_42 rfl) (by decide +kernel) rfl
theorem dL_law_2740 : decode cL_law 2740 = .ok (.iaload, 1) := dec_w [0x2e] (pc9 (k := 2688) (j := 52) lwD_42 rfl) (by decide +kernel) rfl
theorem dL_law_2741 : decode cL_law 2741 = .ok (.aload_n 3, 1) := dec_w [0x2d] (pc9 (k := 2688) (j := 53) lwD_42 rfl) (by decide +kernel) rfl
theorem dL_law_2742 : decode cL_law 2742 = .ok (.invokestatic 316, 3) := dec_w [0xb8, 0x01, 0x3c] (pc9 (k := 2688) (j := 54) lwD_42 rfl) (by decide +kernel) rfl
theorem dL_law_2745 : decode cL_law 2745 = .ok (.istore 6, 2) := dec_w [0x36, 0x06] (pc9 (k := 2688) (j := 57) lwD_42 rfl) (by decide +kernel) rfl
theorem dL_law_2747 : decode cL_law 2747 = .ok (.aload_n 2, 1) := dec_w [0x2c] (pc9 (k := 2688) (j := 59) lwD_42 rfl) (by decide +kernel) rfl
theorem dL_law_2748 : decode cL_law 2748 = .ok (.aload_n 0, 1) := dec_w [0x2a] (pc9 (k := 2688) (j := 60) lwD_42 rfl) (by decide +kernel) rfl
theorem dL_law_2749 : decode cL_law 2749 = .ok (.iload 5, 2) := dec_w [0x15, 0x05] (pc9 (k := 2688) (j := 61) lwD_42 rfl) (by decide +kernel) rfl
theorem dL_law_2751 : decode cL_law 2751 = .ok (.iconst 1, 1) := dec_w [0x04] (pc9 (k := 2688) (j := 63) lwD_42 rfl) (by decide +kernel) rfl
theorem dL_law_2752 : decode cL_law 2752 = .ok (.iadd, 1) := dec_w [0x60] (pc9 (k := 2752) (j := 0) lwD_43 rfl) (by decide +kernel) rfl
theorem dL_law_2753 : decode cL_law 2753 = .ok (.iaload, 1) := dec_w [0x2e] (pc9 (k := 2752) (j := 1) lwD_43 rfl) (by decide +kernel) rfl
theorem dL_law_2754 : decode cL_law 2754 = .ok (.aload_n 0, 1) := dec_w [0x2a] (pc9 (k := 2752) (j := 2) lwD_43 rfl) (by decide +kernel) rfl
theorem dL_law_2755 : decode cL_law 2755 = .ok (.iload 5, 2) := dec_w [0x15, 0x05] (pc9 (k := 2752) (j := 3) lwD_43 rfl) (by decide +kernel) rfl
theorem dL_law_2757 : decode cL_law 2757 = .ok (.iconst 2, 1) := dec_w [0x05] (pc9 (k := 2752) (j := 5) lwD_43 rfl) (by decide +kernel) rfl
theorem dL_law_2758 : decode cL_law 2758 = .ok (.iadd, 1) := dec_w [0x60] (pc9 (k := 2752) (j := 6) lwD_43 rfl) (by decide +kernel) rfl
theorem dL_law_2759 : decode cL_law 2759 = .ok (.iaload, 1) := dec_w [0x2e] (pc9 (k := 2752) (j := 7) lwD_43 rfl) (by decide +kernel) rfl
theorem dL_law_2760 : decode cL_law 2760 = .ok (.invokevirtual 318, 3) := dec_w [0xb6, 0x01, 0x3e] (pc9 (k := 2752) (j := 8) lwD_43 rfl) (by decide +kernel) rfl
theorem dL_law_2763 : decode cL_law 2763 = .ok (.istore 7, 2) := dec_w [0x36, 0x07] (pc9 (k := 2752) (j := 11) lwD_43 rfl) (by decide +kernel) rfl
theorem dL_law_2765 : decode cL_law 2765 = .ok (.aload_n 2, 1) := dec_w [0x2c] (pc9 (k := 2752) (j := 13) lwD_43 rfl) (by decide +kernel) rfl
theorem dL_law_2766 : decode cL_law 2766 = .ok (.invokevirtual 212, 3) := dec_w [0xb6, 0x00, 0xd4] (pc9 (k := 2752) (j := 14) lwD_43 rfl) (by decide +kernel) rfl
theorem dL_law_2769 : decode cL_law 2769 = .ok (.iload 6, 2) := dec_w [0x15, 0x06] (pc9 (k := 2752) (j := 17) lwD_43 rfl) (by decide +kernel) rfl
theorem dL_law_2771 : decode cL_law 2771 = .ok (.if_icmp .eq 5, 3) := dec_w [0x9f, 0x00, 0x05] (pc9 (k := 2752) (j := 19) lwD_43 rfl) (by decide +kernel) rfl
theorem dL_law_2774 : decode cL_law 2774 = .ok (.iconst 0, 1) := dec_w [0x03] (pc9 (k := 2752) (j := 22) lwD_43 rfl) (by decide +kernel) rfl
theorem dL_law_2775 : decode cL_law 2775 = .ok (.ireturn, 1) := dec_w [0xac] (pc9 (k := 2752) (j := 23) lwD_43 rfl) (by decide +kernel) rfl
theorem dL_law_2776 : decode cL_law 2776 = .ok (.iload 6, 2) := dec_w [0x15, 0x06] (pc9 (k := 2752) (j := 24) lwD_43 rfl) (by decide +kernel) rfl
theorem dL_law_2778 : decode cL_law 2778 = .ok (.ifCond .ne 15, 3) := dec_w [0x9a, 0x00, 0x0f] (pc9 (k := 2752) (j := 26) lwD_43 rfl) (by decide +kernel) rfl
theorem dL_law_2781 : decode cL_law 2781 = .ok (.aload_n 3, 1) := dec_w [0x2d] (pc9 (k := 2752) (j := 29) lwD_43 rfl) (by decide +kernel) rfl
theorem dL_law_2782 : decode cL_law 2782 = .ok (.iconst 0, 1) := dec_w [0x03] (pc9 (k := 2752) (j := 30) lwD_43 rfl) (by decide +kernel) rfl
theorem dL_law_2783 : decode cL_law 2783 = .ok (.laload, 1) := dec_w [0x2f] (pc9 (k := 2752) (j := 31) lwD_43 rfl) (by decide +kernel) rfl
theorem dL_law_2784 : decode cL_law 2784 = .ok (.iload 7, 2) := dec_w [0x15, 0x07] (pc9 (k := 2752) (j := 32) lwD_43 rfl) (by decide +kernel) rfl
theorem dL_law_2786 : decode cL_law 2786 = .ok (.i2l, 1) := dec_w [0x85] (pc9 (k := 2752) (j := 34) lwD_43 rfl) (by decide +kernel) rfl
theorem dL_law_2787 : decode cL_law 2787 = .ok (.lcmp, 1) := dec_w [0x94] (pc9 (k := 2752) (j := 35) lwD_43 rfl) (by decide +kernel) rfl
theorem dL_law_2788 : decode cL_law 2788 = .ok (.ifCond .eq 5, 3) := dec_w [0x99, 0x00, 0x05] (pc9 (k := 2752) (j := 36) lwD_43 rfl) (by decide +kernel) rfl
theorem dL_law_2791 : decode cL_law 2791 = .ok (.iconst 0, 1) := dec_w [0x03] (pc9 (k := 2752) (j := 39) lwD_43 rfl) (by decide +kernel) rfl
theorem dL_law_2792 : decode cL_law 2792 = .ok (.ireturn, 1) := dec_w [0xac] (pc9 (k := 2752) (j := 40) lwD_43 rfl) (by decide +kernel) rfl
theorem dL_law_2793 : decode cL_law 2793 = .ok (.goto 1433, 3) := dec_w [0xa7, 0x05, 0x99] (pc9 (k := 2752) (j := 41) lwD_43 rfl) (by decide +kernel) rfl
theorem dL_law_2796 : decode cL_law 2796 = .ok (.aload_n 1, 1) := dec_w [0x2b] (pc9 (k := 2752) (j := 44) lwD_43 rfl) (by decide +kernel) rfl
theorem dL_law_2797 : decode cL_law 2797 = .ok (.aload_n 0, 1) := dec_w [0x2a] (pc9 (k := 2752) (j := 45) lwD_43 rfl) (by decide +kernel) rfl
theorem dL_law_2798 : decode cL_law 2798 = .ok (.iload 5, 2) := dec_w [0x15, 0x05] (pc9 (k := 2752) (j := 46) lwD_43 rfl) (by decide +kernel) rfl
theorem dL_law_2800 : decode cL_law 2800 = .ok (.iconst 1, 1) := dec_w [0x04] (pc9 (k := 2752) (j := 48) lwD_43 rfl) (by decide +kernel) rfl
theorem dL_law_2801 : decode cL_law 2801 = .ok (.iadd, 1) := dec_w [0x60] (pc9 (k := 2752) (j := 49) lwD_43 rfl) (by decide +kernel) rfl
theorem dL_law_2802 : decode cL_law 2802 = .ok (.iaload, 1) := dec_w [0x2e] (pc9 (k := 2752) (j := 50) lwD_43 rfl) (by decide +kernel) rfl
theorem dL_law_2803 : decode cL_law 2803 = .ok (.aload_n 0, 1) := dec_w [0x2a] (pc9 (k := 2752) (j := 51) lwD_43 rfl) (by decide +kernel) rfl
theorem dL_law_2804 : decode cL_law 2804 = .ok (.iload 5, 2) := dec_w [0x15, 0x05] (pc9 (k := 2752) (j := 52) lwD_43 rfl) (by decide +kernel) rfl
theorem dL_law_2806 : decode cL_law 2806 = .ok (.iconst 2, 1) := dec_w [0x05] (pc9 (k := 2752) (j := 54) lwD_43 rfl) (by decide +kernel) rfl
theorem dL_law_2807 : decode cL_law 2807 = .ok (.iadd, 1) := dec_w [0x60] (pc9 (k := 2752) (j := 55) lwD_43 rfl) (by decide +kernel) rfl
theorem dL_law_2808 : decode cL_law 2808 = .ok (.iaload, 1) := dec_w [0x2e] (pc9 (k := 2752) (j := 56) lwD_43 rfl) (by decide +kernel) rfl
theorem dL_law_2809 : decode cL_law 2809 = .ok (.aload_n 0, 1) := dec_w [0x2a] (pc9 (k := 2752) (j := 57) lwD_43 rfl) (by decide +kernel) rfl
theorem dL_law_2810 : decode cL_law 2810 = .ok (.iload 5, 2) := dec_w [0x15, 0x05] (pc9 (k := 2752) (j := 58) lwD_43 rfl) (by decide +kernel) rfl
theorem dL_law_2812 : decode cL_law 2812 = .ok (.iconst 3, 1) := dec_w [0x06] (pc9 (k := 2752) (j := 60) lwD_43 rfl) (by decide +kernel) rfl
theorem dL_law_2813 : decode cL_law 2813 = .ok (.iadd, 1) := dec_w [0x60] (pc9 (k := 2752) (j := 61) lwD_43 rfl) (by decide +kernel) rfl
theorem dL_law_2814 : decode cL_law 2814 = .ok (.iaload, 1) := dec_w [0x2e] (pc9 (k := 2752) (j := 62) lwD_43 rfl) (by decide +kernel) rfl
theorem dL_law_2815 : decode cL_law 2815 = .ok (.aload_n 0, 1) := dec_w [0x2a] (pc9 (k := 2752) (j := 63) lwD_43 rfl) (by decide +kernel) rfl
theorem dL_law_2816 : decode cL_law 2816 = .ok (.iload 5, 2) := dec_w [0x15, 0x05] (pc9 (k := 2816) (j := 0) lwD_44 rfl) (by decide +kernel) rfl
theorem dL_law_2818 : decode cL_law 2818 = .ok (.iconst 4, 1) := dec_w [0x07] (pc9 (k := 2816) (j := 2) lwD_44 rfl) (by decide +kernel) rfl
theorem dL_law_2819 : decode cL_law 2819 = .ok (.iadd, 1) := dec_w [0x60] (pc9 (k := 2816) (j := 3) lwD_44 rfl) (by decide +kernel) rfl
theorem dL_law_2820 : decode cL_law 2820 = .ok (.iaload, 1) := dec_w [0x2e] (pc9 (k := 2816) (j := 4) lwD_44 rfl) (by decide +kernel) rfl
theorem dL_law_2821 : decode cL_law 2821 = .ok (.ifCond .eq 7, 3) := dec_w [0x99, 0x00, 0x07] (pc9 (k := 2816) (j := 5) lwD_44 rfl) (by decide +kernel) rfl
theorem dL_law_2824 : decode cL_law 2824 = .ok (.iconst 1, 1) := dec_w [0x04] (pc9 (k := 2816) (j := 8) lwD_44 rfl) (by decide +kernel) rfl
theorem dL_law_2825 : decode cL_law 2825 = .ok (.goto 4, 3) := dec_w [0xa7, 0x00, 0x04] (pc9 (k := 2816) (j := 9) lwD_44 rfl) (by decide +kernel) rfl
theorem dL_law_2828 : decode cL_law 2828 = .ok (.iconst 0, 1) := dec_w [0x03] (pc9 (k := 2816) (j := 12) lwD_44 rfl) (by decide +kernel) rfl
theorem dL_law_2829 : decode cL_law 2829 = .ok (.aload_n 3, 1) := dec_w [0x2d] (pc9 (k := 2816) (j := 13) lwD_44 rfl) (by decide +kernel) rfl
theorem dL_law_2830 : decode cL_law 2830 = .ok (.invokestatic 319, 3) := dec_w [0xb8, 0x01, 0x3f] (pc9 (k := 2816) (j := 14) lwD_44 rfl) (by decide +kernel) rfl
theorem dL_law_2833 : decode cL_law 2833 = .ok (.istore 6, 2) := dec_w [0x36, 0x06] (pc9 (k := 2816) (j := 17) lwD_44 rfl) (by decide +kernel) rfl
theorem dL_law_2835 : decode cL_law 2835 = .ok (.aload_n 2, 1) := dec_w [0x2c] (pc9 (k := 2816) (j := 19) lwD_44 rfl) (by decide +kernel) rfl
theorem dL_law_2836 : decode cL_law 2836 = .ok (.aload_n 0, 1) := dec_w [0x2a] (pc9 (k := 2816) (j := 20) lwD_44 rfl) (by decide +kernel) rfl
theorem dL_law_2837 : decode cL_law 2837 = .ok (.iload 5, 2) := dec_w [0x15, 0x05] (pc9 (k := 2816) (j := 21) lwD_44 rfl) (by decide +kernel) rfl
theorem dL_law_2839 : decode cL_law 2839 = .ok (.iconst 1, 1) := dec_w [0x04] (pc9 (k := 2816) (j := 23) lwD_44 rfl) (by decide +kernel) rfl
theorem dL_law_2840 : decode cL_law 2840 = .ok (.iadd, 1) := dec_w [0x60] (pc9 (k := 2816) (j := 24) lwD_44 rfl) (by decide +kernel) rfl
theorem dL_law_2841 : decode cL_law 2841 = .ok (.iaload, 1) := dec_w [0x2e] (pc9 (k := 2816) (j := 25) lwD_44 rfl) (by decide +kernel) rfl
theorem dL_law_2842 : decode cL_law 2842 = .ok (.aload_n 0, 1) := dec_w [0x2a] (pc9 (k := 2816) (j := 26) lwD_44 rfl) (by decide +kernel) rfl
theorem dL_law_2843 : decode cL_law 2843 = .ok (.iload 5, 2) := dec_w [0x15, 0x05] (pc9 (k := 2816) (j := 27) lwD_44 rfl) (by decide +kernel) rfl
theorem dL_law_2845 : decode cL_law 2845 = .ok (.iconst 2, 1) := dec_w [0x05] (pc9 (k := 2816) (j := 29) lwD_44 rfl) (by decide +kernel) rfl
theorem dL_law_2846 : decode cL_law 2846 = .ok (.iadd, 1) := dec_w [0x60] (pc9 (k := 2816) (j := 30) lwD_44 rfl) (by decide +kernel) rfl
theorem dL_law_2847 : decode cL_law 2847 = .ok (.iaload, 1) := dec_w [0x2e] (pc9 (k := 2816) (j := 31) lwD_44 rfl) (by decide +kernel) rfl
theorem dL_law_2848 : decode cL_law 2848 = .ok (.aload_n 0, 1) := dec_w [0x2a] (pc9 (k := 2816) (j := 32) lwD_44 rfl) (by decide +kernel) rfl
theorem dL_law_2849 : decode cL_law 2849 = .ok (.iload 5, 2) := dec_w [0x15, 0x05] (pc9 (k := 2816) (j := 33) lwD_44 rfl) (by decide +kernel) rfl
theorem dL_law_2851 : decode cL_law 2851 = .ok (.iconst 3, 1) := dec_w [0x06] (pc9 (k := 2816) (j := 35) lwD_44 rfl) (by decide +kernel) rfl
theorem dL_law_2852 : decode cL_law 2852 = .ok (.iadd, 1) := dec_w [0x60] (pc9 (k := 2816) (j := 36) lwD_44 rfl) (by decide +kernel) rfl
theorem dL_law_2853 : decode cL_law 2853 = .ok (.iaload, 1) := dec_w [0x2e] (pc9 (k := 2816) (j := 37) lwD_44 rfl) (by decide +kernel) rfl
theorem dL_law_2854 : decode cL_law 2854 = .ok (.aload_n 0, 1) := dec_w [0x2a] (pc9 (k := 2816) (j := 38) lwD_44 rfl) (by decide +kernel) rfl
theorem dL_law_2855 : decode cL_law 2855 = .ok (.iload 5, 2) := dec_w [0x15, 0x05] (pc9 (k := 2816) (j := 39) lwD_44 rfl) (by decide +kernel) rfl
theorem dL_law_2857 : decode cL_law 2857 = .ok (.iconst 4, 1) := dec_w [0x07] (pc9 (k := 2816) (j := 41) lwD_44 rfl) (by decide +kernel) rfl
theorem dL_law_2858 : decode cL_law 2858 = .ok (.iadd, 1) := dec_w [0x60] (pc9 (k := 2816) (j := 42) lwD_44 rfl) (by decide +kernel) rfl
theorem dL_law_2859 : decode cL_law 2859 = .ok (.iaload, 1) := dec_w [0x2e] (pc9 (k := 2816) (j := 43) lwD_44 rfl) (by decide +kernel) rfl
theorem dL_law_2860 : decode cL_law 2860 = .ok (.ifCond .eq 7, 3) := dec_w [0x99, 0x00, 0x07] (pc9 (k := 2816) (j := 44) lwD_44 rfl) (by decide +kernel) rfl
theorem dL_law_2863 : decode cL_law 2863 = .ok (.iconst 1, 1) := dec_w [0x04] (pc9 (k := 2816) (j := 47) lwD_44 rfl) (by decide +kernel) rfl
theorem dL_law_2864 : decode cL_law 2864 = .ok (.goto 4, 3) := dec_w [0xa7, 0x00, 0x04] (pc9 (k := 2816) (j := 48) lwD_44 rfl) (by decide +kernel) rfl
theorem dL_law_2867 : decode cL_law 2867 = .ok (.iconst 0, 1) := dec_w [0x03] (pc9 (k := 2816) (j := 51) lwD_44 rfl) (by decide +kernel) rfl
theorem dL_law_2868 : decode cL_law 2868 = .ok (.invokevirtual 322, 3) := dec_w [0xb6, 0x01, 0x42] (pc9 (k := 2816) (j := 52) lwD_44 rfl) (by decide +kernel) rfl
theorem dL_law_2871 : decode cL_law 2871 = .ok (.istore 7, 2) := dec_w [0x36, 0x07] (pc9 (k := 2816) (j := 55) lwD_44 rfl) (by decide +kernel) rfl
theorem dL_law_2873 : decode cL_law 2873 = .ok (.aload_n 2, 1) := dec_w [0x2c] (pc9 (k := 2816) (j := 57) lwD_44 rfl) (by decide +kernel) rfl
theorem dL_law_2874 : decode cL_law 2874 = .ok (.invokevirtual 212, 3) := dec_w [0xb6, 0x00, 0xd4] (pc9 (k := 2816) (j := 58) lwD_44 rfl) (by decide +kernel) rfl
theorem dL_law_2877 : decode cL_law 2877 = .ok (.iload 6, 2) := dec_w [0x15, 0x06] (pc9 (k := 2816) (j := 61) lwD_44 rfl) (by decide +kernel) rfl
theorem dL_law_2879 : decode cL_law 2879 = .ok (.if_icmp .eq 5, 3) := dec_w [0x9f, 0x00, 0x05] (pc9 (k := 2816) (j := 63) lwD_44 rfl) (by decide +kernel) rfl
theorem dL_law_2882 : decode cL_law 2882 = .ok (.iconst 0, 1) := dec_w [0x03] (pc9 (k := 2880) (j := 2) lwD_45 rfl) (by decide +kernel) rfl
theorem dL_law_2883 : decode cL_law 2883 = .ok (.ireturn, 1) := dec_w [0xac] (pc9 (k := 2880) (j := 3) lwD_45 rfl) (by decide +kernel) rfl
theorem dL_law_2884 : decode cL_law 2884 = .ok (.iload 6, 2) := dec_w [0x15, 0x06] (pc9 (k := 2880) (j := 4) lwD_45 rfl) (by decide +kernel) rfl
theorem dL_law_2886 : decode cL_law 2886 = .ok (.ifCond .ne 15, 3) := dec_w [0x9a, 0x00, 0x0f] (pc9 (k := 2880) (j := 6) lwD_45 rfl) (by decide +kernel) rfl
theorem dL_law_2889 : decode cL_law 2889 = .ok (.aload_n 3, 1) := dec_w [0x2d] (pc9 (k := 2880) (j := 9) lwD_45 rfl) (by decide +kernel) rfl
theorem dL_law_2890 : decode cL_law 2890 = .ok (.iconst 0, 1) := dec_w [0x03] (pc9 (k := 2880) (j := 10) lwD_45 rfl) (by decide +kernel) rfl
theorem dL_law_2891 : decode cL_law 2891 = .ok (.laload, 1) := dec_w [0x2f] (pc9 (k := 2880) (j := 11) lwD_45 rfl) (by decide +kernel) rfl
theorem dL_law_2892 : decode cL_law 2892 = .ok (.iload 7, 2) := dec_w [0x15, 0x07] (pc9 (k := 2880) (j := 12) lwD_45 rfl) (by decide +kernel) rfl
theorem dL_law_2894 : decode cL_law 2894 = .ok (.i2l, 1) := dec_w [0x85] (pc9 (k := 2880) (j := 14) lwD_45 rfl) (by decide +kernel) rfl
theorem dL_law_2895 : decode cL_law 2895 = .ok (.lcmp, 1) := dec_w [0x94] (pc9 (k := 2880) (j := 15) lwD_45 rfl) (by decide +kernel) rfl
theorem dL_law_2896 : decode cL_law 2896 = .ok (.ifCond .eq 5, 3) := dec_w [0x99, 0x00, 0x05] (pc9 (k := 2880) (j := 16) lwD_45 rfl) (by decide +kernel) rfl
theorem dL_law_2899 : decode cL_law 2899 = .ok (.iconst 0, 1) := dec_w [0x03] (pc9 (k := 2880) (j := 19) lwD_45 rfl) (by decide +kernel) rfl
theorem dL_law_2900 : decode cL_law 2900 = .ok (.ireturn, 1) := dec_w [0xac] (pc9 (k := 2880) (j := 20) lwD_45 rfl) (by decide +kernel) rfl
theorem dL_law_2901 : decode cL_law 2901 = .ok (.goto 1325, 3) := dec_w [0xa7, 0x05, 0x2d] (pc9 (k := 2880) (j := 21) lwD_45 rfl) (by decide +kernel) rfl
theorem dL_law_2904 : decode cL_law 2904 = .ok (.aload_n 1, 1) := dec_w [0x2b] (pc9 (k := 2880) (j := 24) lwD_45 rfl) (by decide +kernel) rfl
theorem dL_law_2905 : decode cL_law 2905 = .ok (.aload_n 0, 1) := dec_w [0x2a] (pc9 (k := 2880) (j := 25) lwD_45 rfl) (by decide +kernel) rfl
theorem dL_law_2906 : decode cL_law 2906 = .ok (.iload 5, 2) := dec_w [0x15, 0x05] (pc9 (k := 2880) (j := 26) lwD_45 rfl) (by decide +kernel) rfl
theorem dL_law_2908 : decode cL_law 2908 = .ok (.iconst 1, 1) := dec_w [0x04] (pc9 (k := 2880) (j := 28) lwD_45 rfl) (by decide +kernel) rfl
theorem dL_law_2909 : decode cL_law 2909 = .ok (.iadd, 1) := dec_w [0x60] (pc9 (k := 2880) (j := 29) lwD_45 rfl) (by decide +kernel) rfl
theorem dL_law_2910 : decode cL_law 2910 = .ok (.iaload, 1) := dec_w [0x2e] (pc9 (k := 2880) (j := 30) lwD_45 rfl) (by decide +kernel) rfl
theorem dL_law_2911 : decode cL_law 2911 = .ok (.aload_n 0, 1) := dec_w [0x2a] (pc9 (k := 2880) (j := 31) lwD_45 rfl) (by decide +kernel) rfl
theorem dL_law_2912 : decode cL_law 2912 = .ok (.iload 5, 2) := dec_w [0x15, 0x05] (pc9 (k := 2880) (j := 32) lwD_45 rfl) (by decide +kernel) rfl
theorem dL_law_2914 : decode cL_law 2914 = .ok (.iconst 2, 1) := dec_w [0x05] (pc9 (k := 2880) (j := 34) lwD_45 rfl) (by decide +kernel) rfl
theorem dL_law_2915 : decode cL_law 2915 = .ok (.iadd, 1) := dec_w [0x60] (pc9 (k := 2880) (j := 35) lwD_45 rfl) (by decide +kernel) rfl
theorem dL_law_2916 : decode cL_law 2916 = .ok (.iaload, 1) := dec_w [0x2e] (pc9 (k := 2880) (j := 36) lwD_45 rfl) (by decide +kernel) rfl
theorem dL_law_2917 : decode cL_law 2917 = .ok (.aload_n 0, 1) := dec_w [0x2a] (pc9 (k := 2880) (j := 37) lwD_45 rfl) (by decide +kernel) rfl
theorem dL_law_2918 : decode cL_law 2918 = .ok (.iload 5, 2) := dec_w [0x15, 0x05] (pc9 (k := 2880) (j := 38) lwD_45 rfl) (by decide +kernel) rfl
theorem dL_law_2920 : decode cL_law 2920 = .ok (.iconst 3, 1) := dec_w [0x06] (pc9 (k := 2880) (j := 40) lwD_45 rfl) (by decide +kernel) rfl
theorem dL_law_2921 : decode cL_law 2921 = .ok (.iadd, 1) := dec_w [0x60] (pc9 (k := 2880) (j := 41) lwD_45 rfl) (by decide +kernel) rfl
theorem dL_law_2922 : decode cL_law 2922 = .ok (.iaload, 1) := dec_w [0x2e] (pc9 (k := 2880) (j := 42) lwD_45 rfl) (by decide +kernel) rfl
theorem dL_law_2923 : decode cL_law 2923 = .ok (.i2l, 1) := dec_w [0x85] (pc9 (k := 2880) (j := 43) lwD_45 rfl) (by decide +kernel) rfl
theorem dL_law_2924 : decode cL_law 2924 = .ok (.bipush 32, 2) := dec_w [0x10, 0x20] (pc9 (k := 2880) (j := 44) lwD_45 rfl) (by decide +kernel) rfl
theorem dL_law_2926 : decode cL_law 2926 = .ok (.lshl, 1) := dec_w [0x79] (pc9 (k := 2880) (j := 46) lwD_45 rfl) (by decide +kernel) rfl
theorem dL_law_2927 : decode cL_law 2927 = .ok (.aload_n 0, 1) := dec_w [0x2a] (pc9 (k := 2880) (j := 47) lwD_45 rfl) (by decide +kernel) rfl
theorem dL_law_2928 : decode cL_law 2928 = .ok (.iload 5, 2) := dec_w [0x15, 0x05] (pc9 (k := 2880) (j := 48) lwD_45 rfl) (by decide +kernel) rfl
theorem dL_law_2930 : decode cL_law 2930 = .ok (.iconst 4, 1) := dec_w [0x07] (pc9 (k := 2880) (j := 50) lwD_45 rfl) (by decide +kernel) rfl
theorem dL_law_2931 : decode cL_law 2931 = .ok (.iadd, 1) := dec_w [0x60] (pc9 (k := 2880) (j := 51) lwD_45 rfl) (by decide +kernel) rfl
theorem dL_law_2932 : decode cL_law 2932 = .ok (.iaload, 1) := dec_w [0x2e] (pc9 (k := 2880) (j := 52) lwD_45 rfl) (by decide +kernel) rfl
theorem dL_law_2933 : decode cL_law 2933 = .ok (.i2l, 1) := dec_w [0x85] (pc9 (k := 2880) (j := 53) lwD_45 rfl) (by decide +kernel) rfl
theorem dL_law_2934 : decode cL_law 2934 = .ok (.ldc2_w 186, 3) := dec_w [0x14, 0x00, 0xba] (pc9 (k := 2880) (j := 54) lwD_45 rfl) (by decide +kernel) rfl
theorem dL_law_2937 : decode cL_law 2937 = .ok (.land, 1) := dec_w [0x7f] (pc9 (k := 2880) (j := 57) lwD_45 rfl) (by decide +kernel) rfl
theorem dL_law_2938 : decode cL_law 2938 = .ok (.lor, 1) := dec_w [0x81] (pc9 (k := 2880) (j := 58) lwD_45 rfl) (by decide +kernel) rfl
theorem dL_law_2939 : decode cL_law 2939 = .ok (.aload_n 3, 1) := dec_w [0x2d] (pc9 (k := 2880) (j := 59) lwD_45 rfl) (by decide +kernel) rfl
theorem dL_law_2940 : decode cL_law 2940 = .ok (.invokestatic 323, 3) := dec_w [0xb8, 0x01, 0x43] (pc9 (k := 2880) (j := 60) lwD_45 rfl) (by decide +kernel) rfl
theorem dL_law_2943 : decode cL_law 2943 = .ok (.istore 6, 2) := dec_w [0x36, 0x06] (pc9 (k := 2880) (j := 63) lwD_45 rfl) (by decide +kernel) rfl
theorem dL_law_2945 : decode cL_law 2945 = .ok (.aload_n 2, 1) := dec_w [0x2c] (pc9 (k := 2944) (j := 1) lwD_46 rfl) (by decide +kernel) rfl
theorem dL_law_2946 : decode cL_law 2946 = .ok (.aload_n 0, 1) := dec_w [0x2a] (pc9 (k := 2944) (j := 2) lwD_46 rfl) (by decide +kernel) rfl
theorem dL_law_2947 : decode cL_law 2947 = .ok (.iload 5, 2) := dec_w [0x15, 0x05] (pc9 (k := 2944) (j := 3) lwD_46 rfl) (by decide +kernel) rfl
theorem dL_law_2949 : decode cL_law 2949 = .ok (.iconst 1, 1) := dec_w [0x04] (pc9 (k := 2944) (j := 5) lwD_46 rfl) (by decide +kernel) rfl
theorem dL_law_2950 : decode cL_law 2950 = .ok (.iadd, 1) := dec_w [0x60] (pc9 (k := 2944) (j := 6) lwD_46 rfl) (by decide +kernel) rfl
theorem dL_law_2951 : decode cL_law 2951 = .ok (.iaload, 1) := dec_w [0x2e] (pc9 (k := 2944) (j := 7) lwD_46 rfl) (by decide +kernel) rfl
theorem dL_law_2952 : decode cL_law 2952 = .ok (.aload_n 0, 1) := dec_w [0x2a] (pc9 (k := 2944) (j := 8) lwD_46 rfl) (by decide +kernel) rfl
theorem dL_law_2953 : decode cL_law 2953 = .ok (.iload 5, 2) := dec_w [0x15, 0x05] (pc9 (k := 2944) (j := 9) lwD_46 rfl) (by decide +kernel) rfl
theorem dL_law_2955 : decode cL_law 2955 = .ok (.iconst 2, 1) := dec_w [0x05] (pc9 (k := 2944) (j := 11) lwD_46 rfl) (by decide +kernel) rfl
theorem dL_law_2956 : decode cL_law 2956 = .ok (.iadd, 1) := dec_w [0x60] (pc9 (k := 2944) (j := 12) lwD_46 rfl) (by decide +kernel) rfl
theorem dL_law_2957 : decode cL_law 2957 = .ok (.iaload, 1) := dec_w [0x2e] (pc9 (k := 2944) (j := 13) lwD_46 rfl) (by decide +kernel) rfl
theorem dL_law_2958 : decode cL_law 2958 = .ok (.aload_n 0, 1) := dec_w [0x2a] (pc9 (k := 2944) (j := 14) lwD_46 rfl) (by decide +kernel) rfl
theorem dL_law_2959 : decode cL_law 2959 = .ok (.iload 5, 2) := dec_w [0x15, 0x05] (pc9 (k := 2944) (j := 15) lwD_46 rfl) (by decide +kernel) rfl
theorem dL_law_2961 : decode cL_law 2961 = .ok (.iconst 3, 1) := dec_w [0x06] (pc9 (k := 2944) (j := 17) lwD_46 rfl) (by decide +kernel) rfl
theorem dL_law_2962 : decode cL_law 2962 = .ok (.iadd, 1) := dec_w [0x60] (pc9 (k := 2944) (j := 18) lwD_46 rfl) (by decide +kernel) rfl
theorem dL_law_2963 : decode cL_law 2963 = .ok (.iaload, 1) := dec_w [0x2e] (pc9 (k := 2944) (j := 19) lwD_46 rfl) (by decide +kernel) rfl
theorem dL_law_2964 : decode cL_law 2964 = .ok (.i2l, 1) := dec_w [0x85] (pc9 (k := 2944) (j := 20) lwD_46 rfl) (by decide +kernel) rfl
theorem dL_law_2965 : decode cL_law 2965 = .ok (.bipush 32, 2) := dec_w [0x10, 0x20] (pc9 (k := 2944) (j := 21) lwD_46 rfl) (by decide +kernel) rfl
theorem dL_law_2967 : decode cL_law 2967 = .ok (.lshl, 1) := dec_w [0x79] (pc9 (k := 2944) (j := 23) lwD_46 rfl) (by decide +kernel) rfl
theorem dL_law_2968 : decode cL_law 2968 = .ok (.aload_n 0, 1) := dec_w [0x2a] (pc9 (k := 2944) (j := 24) lwD_46 rfl) (by decide +kernel) rfl
theorem dL_law_2969 : decode cL_law 2969 = .ok (.iload 5, 2) := dec_w [0x15, 0x05] (pc9 (k := 2944) (j := 25) lwD_46 rfl) (by decide +kernel) rfl
theorem dL_law_2971 : decode cL_law 2971 = .ok (.iconst 4, 1) := dec_w [0x07] (pc9 (k := 2944) (j := 27) lwD_46 rfl) (by decide +kernel) rfl
theorem dL_law_2972 : decode cL_law 2972 = .ok (.iadd, 1) := dec_w [0x60] (pc9 (k := 2944) (j := 28) lwD_46 rfl) (by decide +kernel) rfl
theorem dL_law_2973 : decode cL_law 2973 = .ok (.iaload, 1) := dec_w [0x2e] (pc9 (k := 2944) (j := 29) lwD_46 rfl) (by decide +kernel) rfl
theorem dL_law_2974 : decode cL_law 2974 = .ok (.i2l, 1) := dec_w [0x85] (pc9 (k := 2944) (j := 30) lwD_46 rfl) (by decide +kernel) rfl
theorem dL_law_2975 : decode cL_law 2975 = .ok (.ldc2_w 186, 3) := dec_w [0x14, 0x00, 0xba] (pc9 (k := 2944) (j := 31) lwD_46 rfl) (by decide +kernel) rfl
theorem dL_law_2978 : decode cL_law 2978 = .ok (.land, 1) := dec_w [0x7f] (pc9 (k := 2944) (j := 34) lwD_46 rfl) (by decide +kernel) rfl
theorem dL_law_2979 : decode cL_law 2979 = .ok (.lor, 1) := dec_w [0x81] (pc9 (k := 2944) (j := 35) lwD_46 rfl) (by decide +kernel) rfl
theorem dL_law_2980 : decode cL_law 2980 = .ok (.invokevirtual 326, 3) := dec_w [0xb6, 0x01, 0x46] (pc9 (k := 2944) (j := 36) lwD_46 rfl) (by decide +kernel) rfl
theorem dL_law_2983 : decode cL_law 2983 = .ok (.istore 7, 2) := dec_w [0x36, 0x07] (pc9 (k := 2944) (j := 39) lwD_46 rfl) (by decide +kernel) rfl
theorem dL_law_2985 : decode cL_law 2985 = .ok (.aload_n 2, 1) := dec_w [0x2c] (pc9 (k := 2944) (j := 41) lwD_46 rfl) (by decide +kernel) rfl
theorem dL_law_2986 : decode cL_law 2986 = .ok (.invokevirtual 212, 3) := dec_w [0xb6, 0x00, 0xd4] (pc9 (k := 2944) (j := 42) lwD_46 rfl) (by decide +kernel) rfl
theorem dL_law_2989 : decode cL_law 2989 = .ok (.iload 6, 2) := dec_w [0x15, 0x06] (pc9 (k := 2944) (j := 45) lwD_46 rfl) (by decide +kernel) rfl
theorem dL_law_2991 : decode cL_law 2991 = .ok (.if_icmp .eq 5, 3) := dec_w [0x9f, 0x00, 0x05] (pc9 (k := 2944) (j := 47) lwD_46 rfl) (by decide +kernel) rfl
theorem dL_law_2994 : decode cL_law 2994 = .ok (.iconst 0, 1) := dec_w [0x03] (pc9 (k := 2944) (j := 50) lwD_46 rfl) (by decide +kernel) rfl
theorem dL_law_2995 : decode cL_law 2995 = .ok (.ireturn, 1) := dec_w [0xac] (pc9 (k := 2944) (j := 51) lwD_46 rfl) (by decide +kernel) rfl
theorem dL_law_2996 : decode cL_law 2996 = .ok (.iload 6, 2) := dec_w [0x15, 0x06] (pc9 (k := 2944) (j := 52) lwD_46 rfl) (by decide +kernel) rfl
theorem dL_law_2998 : decode cL_law 2998 = .ok (.ifCond .ne 15, 3) := dec_w [0x9a, 0x00, 0x0f] (pc9 (k := 2944) (j := 54) lwD_46 rfl) (by decide +kernel) rfl
theorem dL_law_3001 : decode cL_law 3001 = .ok (.aload_n 3, 1) := dec_w [0x2d] (pc9 (k := 2944) (j := 57) lwD_46 rfl) (by decide +kernel) rfl
theorem dL_law_3002 : decode cL_law 3002 = .ok (.iconst 0, 1) := dec_w [0x03] (pc9 (k := 2944) (j := 58) lwD_46 rfl) (by decide +kernel) rfl
theorem dL_law_3003 : decode cL_law 3003 = .ok (.laload, 1) := dec_w [0x2f] (pc9 (k := 2944) (j := 59) lwD_46 rfl) (by decide +kernel) rfl
theorem dL_law_3004 : decode cL_law 3004 = .ok (.iload 7, 2) := dec_w [0x15, 0x07] (pc9 (k := 2944) (j := 60) lwD_46 rfl) (by decide +kernel) rfl
theorem dL_law_3006 : decode cL_law 3006 = .ok (.i2l, 1) := dec_w [0x85] (pc9 (k := 2944) (j := 62) lwD_46 rfl) (by decide +kernel) rfl
theorem dL_law_3007 : decode cL_law 3007 = .ok (.lcmp, 1) := dec_w [0x94] (pc9 (k := 2944) (j := 63) lwD_46 rfl) (by decide +kernel) rfl
theorem dL_law_3008 : decode cL_law 3008 = .ok (.ifCond .eq 5, 3) := dec_w [0x99, 0x00, 0x05] (pc9 (k := 3008) (j := 0) lwD_47 rfl) (by decide +kernel) rfl
theorem dL_law_3011 : decode cL_law 3011 = .ok (.iconst 0, 1) := dec_w [0x03] (pc9 (k := 3008) (j := 3) lwD_47 rfl) (by decide +kernel) rfl
theorem dL_law_3012 : decode cL_law 3012 = .ok (.ireturn, 1) := dec_w [0xac] (pc9 (k := 3008) (j := 4) lwD_47 rfl) (by decide +kernel) rfl
theorem dL_law_3013 : decode cL_law 3013 = .ok (.goto 1213, 3) := dec_w [0xa7, 0x04, 0xbd] (pc9 (k := 3008) (j := 5) lwD_47 rfl) (by decide +kernel) rfl
theorem dL_law_3016 : decode cL_law 3016 = .ok (.aload_n 1, 1) := dec_w [0x2b] (pc9 (k := 3008) (j := 8) lwD_47 rfl) (by decide +kernel) rfl
theorem dL_law_3017 : decode cL_law 3017 = .ok (.aload_n 0, 1) := dec_w [0x2a] (pc9 (k := 3008) (j := 9) lwD_47 rfl) (by decide +kernel) rfl
theorem dL_law_3018 : decode cL_law 3018 = .ok (.iload 5, 2) := dec_w [0x15, 0x05] (pc9 (k := 3008) (j := 10) lwD_47 rfl) (by decide +kernel) rfl
theorem dL_law_3020 : decode cL_law 3020 = .ok (.iconst 1, 1) := dec_w [0x04] (pc9 (k := 3008) (j := 12) lwD_47 rfl) (by decide +kernel) rfl
theorem dL_law_3021 : decode cL_law 3021 = .ok (.iadd, 1) := dec_w [0x60] (pc9 (k := 3008) (j := 13) lwD_47 rfl) (by decide +kernel) rfl
theorem dL_law_3022 : decode cL_law 3022 = .ok (.iaload, 1) := dec_w [0x2e] (pc9 (k := 3008) (j := 14) lwD_47 rfl) (by decide +kernel) rfl
theorem dL_law_3023 : decode cL_law 3023 = .ok (.aload_n 0, 1) := dec_w [0x2a] (pc9 (k := 3008) (j := 15) lwD_47 rfl) (by decide +kernel) rfl
theorem dL_law_3024 : decode cL_law 3024 = .ok (.iload 5, 2) := dec_w [0x15, 0x05] (pc9 (k := 3008) (j := 16) lwD_47 rfl) (by decide +kernel) rfl
theorem dL_law_3026 : decode cL_law 3026 = .ok (.iconst 2, 1) := dec_w [0x05] (pc9 (k := 3008) (j := 18) lwD_47 rfl) (by decide +kernel) rfl
theorem dL_law_3027 : decode cL_law 3027 = .ok (.iadd, 1) := dec_w [0x60] (pc9 (k := 3008) (j := 19) lwD_47 rfl) (by decide +kernel) rfl
theorem dL_law_3028 : decode cL_law 3028 = .ok (.iaload, 1) := dec_w [0x2e] (pc9 (k := 3008) (j := 20) lwD_47 rfl) (by decide +kernel) rfl
theorem dL_law_3029 : decode cL_law 3029 = .ok (.aload_n 3, 1) := dec_w [0x2d] (pc9 (k := 3008) (j := 21) lwD_47 rfl) (by decide +kernel) rfl
theorem dL_law_3030 : decode cL_law 3030 = .ok (.invokestatic 327, 3) := dec_w [0xb8, 0x01, 0x47] (pc9 (k := 3008) (j := 22) lwD_47 rfl) (by decide +kernel) rfl
theorem dL_law_3033 : decode cL_law 3033 = .ok (.istore 6, 2) := dec_w [0x36, 0x06] (pc9 (k := 3008) (j := 25) lwD_47 rfl) (by decide +kernel) rfl
theorem dL_law_3035 : decode cL_law 3035 = .ok (.aload_n 2, 1) := dec_w [0x2c] (pc9 (k := 3008) (j := 27) lwD_47 rfl) (by decide +kernel) rfl
theorem dL_law_3036 : decode cL_law 3036 = .ok (.aload_n 0, 1) := dec_w [0x2a] (pc9 (k := 3008) (j := 28) lwD_47 rfl) (by decide +kernel) rfl
theorem dL_law_3037 : decode cL_law 3037 = .ok (.iload 5, 2) := dec_w [0x15, 0x05] (pc9 (k := 3008) (j := 29) lwD_47 rfl) (by decide +kernel) rfl
theorem dL_law_3039 : decode cL_law 3039 = .ok (.iconst 1, 1) := dec_w [0x04] (pc9 (k := 3008) (j := 31) lwD_47 rfl) (by decide +kernel) rfl
theorem dL_law_3040 : decode cL_law 3040 = .ok (.iadd, 1) := dec_w [0x60] (pc9 (k := 3008) (j := 32) lwD_47 rfl) (by decide +kernel) rfl
theorem dL_law_3041 : decode cL_law 3041 = .ok (.iaload, 1) := dec_w [0x2e] (pc9 (k := 3008) (j := 33) lwD_47 rfl) (by decide +kernel) rfl
theorem dL_law_3042 : decode cL_law 3042 = .ok (.aload_n 0, 1) := dec_w [0x2a] (pc9 (k := 3008) (j := 34) lwD_47 rfl) (by decide +kernel) rfl
theorem dL_law_3043 : decode cL_law 3043 = .ok (.iload 5, 2) := dec_w [0x15, 0x05] (pc9 (k := 3008) (j := 35) lwD_47 rfl) (by decide +kernel) rfl
theorem dL_law_3045 : decode cL_law 3045 = .ok (.iconst 2, 1) := dec_w [0x05] (pc9 (k := 3008) (j := 37) lwD_47 rfl) (by decide +kernel) rfl
theorem dL_law_3046 : decode cL_law 3046 = .ok (.iadd, 1) := dec_w [0x60] (pc9 (k := 3008) (j := 38) lwD_47 rfl) (by decide +kernel) rfl
theorem dL_law_3047 : decode cL_law 3047 = .ok (.iaload, 1) := dec_w [0x2e] (pc9 (k := 3008) (j := 39) lwD_47 rfl) (by decide +kernel) rfl
theorem dL_law_3048 : decode cL_law 3048 = .ok (.invokevirtual 329, 3) := dec_w [0xb6, 0x01, 0x49] (pc9 (k := 3008) (j := 40) lwD_47 rfl) (by decide +kernel) rfl
theorem dL_law_3051 : decode cL_law 3051 = .ok (.istore 7, 2) := dec_w [0x36, 0x07] (pc9 (k := 3008) (j := 43) lwD_47 rfl) (by decide +kernel) rfl
theorem dL_law_3053 : decode cL_law 3053 = .ok (.aload_n 2, 1) := dec_w [0x2c] (pc9 (k := 3008) (j := 45) lwD_47 rfl) (by decide +kernel) rfl
theorem dL_law_3054 : decode cL_law 3054 = .ok (.invokevirtual 212, 3) := dec_w [0xb6, 0x00, 0xd4] (pc9 (k := 3008) (j := 46) lwD_47 rfl) (by decide +kernel) rfl
theorem dL_law_3057 : decode cL_law 3057 = .ok (.iload 6, 2) := dec_w [0x15, 0x06] (pc9 (k := 3008) (j := 49) lwD_47 rfl) (by decide +kernel) rfl
theorem dL_law_3059 : decode cL_law 3059 = .ok (.if_icmp .eq 5, 3) := dec_w [0x9f, 0x00, 0x05] (pc9 (k := 3008) (j := 51) lwD_47 rfl) (by decide +kernel) rfl
theorem dL_law_3062 : decode cL_law 3062 = .ok (.iconst 0, 1) := dec_w [0x03] (pc9 (k := 3008) (j := 54) lwD_47 rfl) (by decide +kernel) rfl
theorem dL_law_3063 : decode cL_law 3063 = .ok (.ireturn, 1) := dec_w [0xac] (pc9 (k := 3008) (j := 55) lwD_47 rfl) (by decide +kernel) rfl
theorem dL_law_3064 : decode cL_law 3064 = .ok (.iload 6, 2) := dec_w [0x15, 0x06] (pc9 (k := 3008) (j := 56) lwD_47 rfl) (by decide +kernel) rfl
theorem dL_law_3066 : decode cL_law 3066 = .ok (.ifCond .ne 15, 3) := dec_w [0x9a, 0x00, 0x0f] (pc9 (k := 3008) (j := 58) lwD_47 rfl) (by decide +kernel) rfl
theorem dL_law_3069 : decode cL_law 3069 = .ok (.aload_n 3, 1) := dec_w [0x2d] (pc9 (k := 3008) (j := 61) lwD_47 rfl) (by decide +kernel) rfl
theorem dL_law_3070 : decode cL_law 3070 = .ok (.iconst 0, 1) := dec_w [0x03] (pc9 (k := 3008) (j := 62) lwD_47 rfl) (by decide +kernel) rfl
theorem dL_law_3071 : decode cL_law 3071 = .ok (.laload, 1) := dec_w [0x2f] (pc9 (k := 3008) (j := 63) lwD_47 rfl) (by decide +kernel) rfl
theorem dL_law_3072 : decode cL_law 3072 = .ok (.iload 7, 2) := dec_w [0x15, 0x07] (pc9 (k := 3072) (j := 0) lwD_48 rfl) (by decide +kernel) rfl
theorem dL_law_3074 : decode cL_law 3074 = .ok (.i2l, 1) := dec_w [0x85] (pc9 (k := 3072) (j := 2) lwD_48 rfl) (by decide +kernel) rfl
theorem dL_law_3075 : decode cL_law 3075 = .ok (.lcmp, 1) := dec_w [0x94] (pc9 (k := 3072) (j := 3) lwD_48 rfl) (by decide +kernel) rfl
theorem dL_law_3076 : decode cL_law 3076 = .ok (.ifCond .eq 5, 3) := dec_w [0x99, 0x00, 0x05] (pc9 (k := 3072) (j := 4) lwD_48 rfl) (by decide +kernel) rfl
theorem dL_law_3079 : decode cL_law 3079 = .ok (.iconst 0, 1) := dec_w [0x03] (pc9 (k := 3072) (j := 7) lwD_48 rfl) (by decide +kernel) rfl
theorem dL_law_3080 : decode cL_law 3080 = .ok (.ireturn, 1) := dec_w [0xac] (pc9 (k := 3072) (j := 8) lwD_48 rfl) (by decide +kernel) rfl
theorem dL_law_3081 : decode cL_law 3081 = .ok (.goto 1145, 3) := dec_w [0xa7, 0x04, 0x79] (pc9 (k := 3072) (j := 9) lwD_48 rfl) (by decide +kernel) rfl
theorem dL_law_3084 : decode cL_law 3084 = .ok (.aload_n 1, 1) := dec_w [0x2b] (pc9 (k := 3072) (j := 12) lwD_48 rfl) (by decide +kernel) rfl
theorem dL_law_3085 : decode cL_law 3085 = .ok (.aload_n 0, 1) := dec_w [0x2a] (pc9 (k := 3072) (j := 13) lwD_48 rfl) (by decide +kernel) rfl
theorem dL_law_3086 : decode cL_law 3086 = .ok (.iload 5, 2) := dec_w [0x15, 0x05] (pc9 (k := 3072) (j := 14) lwD_48 rfl) (by decide +kernel) rfl
theorem dL_law_3088 : decode cL_law 3088 = .ok (.iconst 1, 1) := dec_w [0x04] (pc9 (k := 3072) (j := 16) lwD_48 rfl) (by decide +kernel) rfl
theorem dL_law_3089 : decode cL_law 3089 = .ok (.iadd, 1) := dec_w [0x60] (pc9 (k := 3072) (j := 17) lwD_48 rfl) (by decide +kernel) rfl
theorem dL_law_3090 : decode cL_law 3090 = .ok (.iaload, 1) := dec_w [0x2e] (pc9 (k := 3072) (j := 18) lwD_48 rfl) (by decide +kernel) rfl
theorem dL_law_3091 : decode cL_law 3091 = .ok (.aload_n 0, 1) := dec_w [0x2a] (pc9 (k := 3072) (j := 19) lwD_48 rfl) (by decide +kernel) rfl
theorem dL_law_3092 : decode cL_law 3092 = .ok (.iload 5, 2) := dec_w [0x15, 0x05] (pc9 (k := 3072) (j := 20) lwD_48 rfl) (by decide +kernel) rfl
theorem dL_law_3094 : decode cL_law 3094 = .ok (.iconst 2, 1) := dec_w [0x05] (pc9 (k := 3072) (j := 22) lwD_48 rfl) (by decide +kernel) rfl
theorem dL_law_3095 : decode cL_law 3095 = .ok (.iadd, 1) := dec_w [0x60] (pc9 (k := 3072) (j := 23) lwD_48 rfl) (by decide +kernel) rfl
theorem dL_law_3096 : decode cL_law 3096 = .ok (.iaload, 1) := dec_w [0x2e] (pc9 (k := 3072) (j := 24) lwD_48 rfl) (by decide +kernel) rfl
theorem dL_law_3097 : decode cL_law 3097 = .ok (.aload_n 3, 1) := dec_w [0x2d] (pc9 (k := 3072) (j := 25) lwD_48 rfl) (by decide +kernel) rfl
theorem dL_law_3098 : decode cL_law 3098 = .ok (.invokestatic 330, 3) := dec_w [0xb8, 0x01, 0x4a] (pc9 (k := 3072) (j := 26) lwD_48 rfl) (by decide +kernel) rfl
theorem dL_law_3101 : decode cL_law 3101 = .ok (.istore 6, 2) := dec_w [0x36, 0x06] (pc9 (k := 3072) (j := 29) lwD_48 rfl) (by decide +kernel) rfl
theorem dL_law_3103 : decode cL_law 3103 = .ok (.aload_n 2, 1) := dec_w [0x2c] (pc9 (k := 3072) (j := 31) lwD_48 rfl) (by decide +kernel) rfl
theorem dL_law_3104 : decode cL_law 3104 = .ok (.aload_n 0, 1) := dec_w [0x2a] (pc9 (k := 3072) (j := 32) lwD_48 rfl) (by decide +kernel) rfl
theorem dL_law_3105 : decode cL_law 3105 = .ok (.iload 5, 2) := dec_w [0x15, 0x05] (pc9 (k := 3072) (j := 33) lwD_48 rfl) (by decide +kernel) rfl
theorem dL_law_3107 : decode cL_law 3107 = .ok (.iconst 1, 1) := dec_w [0x04] (pc9 (k := 3072) (j := 35) lwD_48 rfl) (by decide +kernel) rfl
theorem dL_law_3108 : decode cL_law 3108 = .ok (.iadd, 1) := dec_w [0x60] (pc9 (k := 3072) (j := 36) lwD_48 rfl) (by decide +kernel) rfl
theorem dL_law_3109 : decode cL_law 3109 = .ok (.iaload, 1) := dec_w [0x2e] (pc9 (k := 3072) (j := 37) lwD_48 rfl) (by decide +kernel) rfl
theorem dL_law_3110 : decode cL_law 3110 = .ok (.aload_n 0, 1) := dec_w [0x2a] (pc9 (k := 3072) (j := 38) lwD_48 rfl) (by decide +kernel) rfl
theorem dL_law_3111 : decode cL_law 3111 = .ok (.iload 5, 2) := dec_w [0x15, 0x05] (pc9 (k := 3072) (j := 39) lwD_48 rfl) (by decide +kernel) rfl
theorem dL_law_3113 : decode cL_law 3113 = .ok (.iconst 2, 1) := dec_w [0x05] (pc9 (k := 3072) (j := 41) lwD_48 rfl) (by decide +kernel) rfl
theorem dL_law_3114 : decode cL_law 3114 = .ok (.iadd, 1) := dec_w [0x60] (pc9 (k := 3072) (j := 42) lwD_48 rfl) (by decide +kernel) rfl
theorem dL_law_3115 : decode cL_law 3115 = .ok (.iaload, 1) := dec_w [0x2e] (pc9 (k := 3072) (j := 43) lwD_48 rfl) (by decide +kernel) rfl
theorem dL_law_3116 : decode cL_law 3116 = .ok (.invokevirtual 332, 3) := dec_w [0xb6, 0x01, 0x4c] (pc9 (k := 3072) (j := 44) lwD_48 rfl) (by decide +kernel) rfl
theorem dL_law_3119 : decode cL_law 3119 = .ok (.istore 7, 2) := dec_w [0x36, 0x07] (pc9 (k := 3072) (j := 47) lwD_48 rfl) (by decide +kernel) rfl
theorem dL_law_3121 : decode cL_law 3121 = .ok (.aload_n 2, 1) := dec_w [0x2c] (pc9 (k := 3072) (j := 49) lwD_48 rfl) (by decide +kernel) rfl
theorem dL_law_3122 : decode cL_law 3122 = .ok (.invokevirtual 212, 3) := dec_w [0xb6, 0x00, 0xd4] (pc9 (k := 3072) (j := 50) lwD_48 rfl) (by decide +kernel) rfl
theorem dL_law_3125 : decode cL_law 3125 = .ok (.iload 6, 2) := dec_w [0x15, 0x06] (pc9 (k := 3072) (j := 53) lwD_48 rfl) (by decide +kernel) rfl
theorem dL_law_3127 : decode cL_law 3127 = .ok (.if_icmp .eq 5, 3) := dec_w [0x9f, 0x00, 0x05] (pc9 (k := 3072) (j := 55) lwD_48 rfl) (by decide +kernel) rfl
theorem dL_law_3130 : decode cL_law 3130 = .ok (.iconst 0, 1) := dec_w [0x03] (pc9 (k := 3072) (j := 58) lwD_48 rfl) (by decide +kernel) rfl
theorem dL_law_3131 : decode cL_law 3131 = .ok (.ireturn, 1) := dec_w [0xac] (pc9 (k := 3072) (j := 59) lwD_48 rfl) (by decide +kernel) rfl
theorem dL_law_3132 : decode cL_law 3132 = .ok (.iload 6, 2) := dec_w [0x15, 0x06] (pc9 (k := 3072) (j := 60) lwD_48 rfl) (by decide +kernel) rfl
theorem dL_law_3134 : decode cL_law 3134 = .ok (.ifCond .ne 15, 3) := dec_w [0x9a, 0x00, 0x0f] (pc9 (k := 3072) (j := 62) lwD_48 rfl) (by decide +kernel) rfl
theorem dL_law_3137 : decode cL_law 3137 = .ok (.aload_n 3, 1) := dec_w [0x2d] (pc9 (k := 3136) (j := 1) lwD_49 rfl) (by decide +kernel) rfl
theorem dL_law_3138 : decode cL_law 3138 = .ok (.iconst 0, 1) := dec_w [0x03] (pc9 (k := 3136) (j := 2) lwD_49 rfl) (by decide +kernel) rfl
theorem dL_law_3139 : decode cL_law 3139 = .ok (.laload, 1) := dec_w [0x2f] (pc9 (k := 3136) (j := 3) lwD_49 rfl) (by decide +kernel) rfl
theorem dL_law_3140 : decode cL_law 3140 = .ok (.iload 7, 2) := dec_w [0x15, 0x07] (pc9 (k := 3136) (j := 4) lwD_49 rfl) (by decide +kernel) rfl
theorem dL_law_3142 : decode cL_law 3142 = .ok (.i2l, 1) := dec_w [0x85] (pc9 (k := 3136) (j := 6) lwD_49 rfl) (by decide +kernel) rfl
theorem dL_law_3143 : decode cL_law 3143 = .ok (.lcmp, 1) := dec_w [0x94] (pc9 (k := 3136) (j := 7) lwD_49 rfl) (by decide +kernel) rfl
theorem dL_law_3144 : decode cL_law 3144 = .ok (.ifCond .eq 5, 3) := dec_w [0x99, 0x00, 0x05] (pc9 (k := 3136) (j := 8) lwD_49 rfl) (by decide +kernel) rfl
theorem dL_law_3147 : decode cL_law 3147 = .ok (.iconst 0, 1) := dec_w [0x03] (pc9 (k := 3136) (j := 11) lwD_49 rfl) (by decide +kernel) rfl
theorem dL_law_3148 : decode cL_law 3148 = .ok (.ireturn, 1) := dec_w [0xac] (pc9 (k := 3136) (j := 12) lwD_49 rfl) (by decide +kernel) rfl
theorem dL_law_3149 : decode cL_law 3149 = .ok (.goto 1077, 3) := dec_w [0xa7, 0x04, 0x35] (pc9 (k := 3136) (j := 13) lwD_49 rfl) (by decide +kernel) rfl
theorem dL_law_3152 : decode cL_law 3152 = .ok (.aload_n 1, 1) := dec_w [0x2b] (pc9 (k := 3136) (j := 16) lwD_49 rfl) (by decide +kernel) rfl
theorem dL_law_3153 : decode cL_law 3153 = .ok (.aload_n 0, 1) := dec_w [0x2a] (pc9 (k := 3136) (j := 17) lwD_49 rfl) (by decide +kernel) rfl
theorem dL_law_3154 : decode cL_law 3154 = .ok (.iload 5, 2) := dec_w [0x15, 0x05] (pc9 (k := 3136) (j := 18) lwD_49 rfl) (by decide +kernel) rfl
theorem dL_law_3156 : decode cL_law 3156 = .ok (.iconst 1, 1) := dec_w [0x04] (pc9 (k := 3136) (j := 20) lwD_49 rfl) (by decide +kernel) rfl
theorem dL_law_3157 : decode cL_law 3157 = .ok (.iadd, 1) := dec_w [0x60] (pc9 (k := 3136) (j := 21) lwD_49 rfl) (by decide +kernel) rfl
theorem dL_law_3158 : decode cL_law 3158 = .ok (.iaload, 1) := dec_w [0x2e] (pc9 (k := 3136) (j := 22) lwD_49 rfl) (by decide +kernel) rfl
theorem dL_law_3159 : decode cL_law 3159 = .ok (.aload_n 0, 1) := dec_w [0x2a] (pc9 (k := 3136) (j := 23) lwD_49 rfl) (by decide +kernel) rfl
theorem dL_law_3160 : decode cL_law 3160 = .ok (.iload 5, 2) := dec_w [0x15, 0x05] (pc9 (k := 3136) (j := 24) lwD_49 rfl) (by decide +kernel) rfl
theorem dL_law_3162 : decode cL_law 3162 = .ok (.iconst 2, 1) := dec_w [0x05] (pc9 (k := 3136) (j := 26) lwD_49 rfl) (by decide +kernel) rfl
theorem dL_law_3163 : decode cL_law 3163 = .ok (.iadd, 1) := dec_w [0x60] (pc9 (k := 3136) (j := 27) lwD_49 rfl) (by decide +kernel) rfl
theorem dL_law_3164 : decode cL_law 3164 = .ok (.iaload, 1) := dec_w [0x2e] (pc9 (k := 3136) (j := 28) lwD_49 rfl) (by decide +kernel) rfl
theorem dL_law_3165 : decode cL_law 3165 = .ok (.aload_n 0, 1) := dec_w [0x2a] (pc9 (k := 3136) (j := 29) lwD_49 rfl) (by decide +kernel) rfl
theorem dL_law_3166 : decode cL_law 3166 = .ok (.iload 5, 2) := dec_w [0x15, 0x05] (pc9 (k := 3136) (j := 30) lwD_49 rfl) (by decide +kernel) rfl
theorem dL_law_3168 : decode cL_law 3168 = .ok (.iconst 3, 1) := dec_w [0x06] (pc9 (k := 3136) (j := 32) lwD_49 rfl) (by decide +kernel) rfl
theorem dL_law_3169 : decode cL_law 3169 = .ok (.iadd, 1) := dec_w [0x60] (pc9 (k := 3136) (j := 33) lwD_49 rfl) (by decide +kernel) rfl
theorem dL_law_3170 : decode cL_law 3170 = .ok (.iaload, 1) := dec_w [0x2e] (pc9 (k := 3136) (j := 34) lwD_49 rfl) (by decide +kernel) rfl
theorem dL_law_3171 : decode cL_law 3171 = .ok (.aload_n 0, 1) := dec_w [0x2a] (pc9 (k := 3136) (j := 35) lwD_49 rfl) (by decide +kernel) rfl
theorem dL_law_3172 : decode cL_law 3172 = .ok (.iload 5, 2) := dec_w [0x15, 0x05] (pc9 (k := 3136) (j := 36) lwD_49 rfl) (by decide +kernel) rfl
theorem dL_law_3174 : decode cL_law 3174 = .ok (.iconst 4, 1) := dec_w [0x07] (pc9 (k := 3136) (j := 38) lwD_49 rfl) (by decide +kernel) rfl
theorem dL_law_3175 : decode cL_law 3175 = .ok (.iadd, 1) := dec_w [0x60] (pc9 (k := 3136) (j := 39) lwD_49 rfl) (by decide +kernel) rfl
theorem dL_law_3176 : decode cL_law 3176 = .ok (.iaload, 1) := dec_w [0x2e] (pc9 (k := 3136) (j := 40) lwD_49 rfl) (by decide +kernel) rfl
theorem dL_law_3177 : decode cL_law 3177 = .ok (.aload_n 3, 1) := dec_w [0x2d] (pc9 (k := 3136) (j := 41) lwD_49 rfl) (by decide +kernel) rfl
theorem dL_law_3178 : decode cL_law 3178 = .ok (.invokestatic 333, 3) := dec_w [0xb8, 0x01, 0x4d] (pc9 (k := 3136) (j := 42) lwD_49 rfl) (by decide +kernel) rfl
theorem dL_law_3181 : decode cL_law 3181 = .ok (.istore 6, 2) := dec_w [0x36, 0x06] (pc9 (k := 3136) (j := 45) lwD_49 rfl) (by decide +kernel) rfl
theorem dL_law_3183 : decode cL_law 3183 = .ok (.aload_n 2, 1) := dec_w [0x2c] (pc9 (k := 3136) (j := 47) lwD_49 rfl) (by decide +kernel) rfl
theorem dL_law_3184 : decode cL_law 3184 = .ok (.aload_n 0, 1) := dec_w [0x2a] (pc9 (k := 3136) (j := 48) lwD_49 rfl) (by decide +kernel) rfl
theorem dL_law_3185 : decode cL_law 3185 = .ok (.iload 5, 2) := dec_w [0x15, 0x05] (pc9 (k := 3136) (j := 49) lwD_49 rfl) (by decide +kernel) rfl
theorem dL_law_3187 : decode cL_law 3187 = .ok (.iconst 1, 1) := dec_w [0x04] (pc9 (k := 3136) (j := 51) lwD_49 rfl) (by decide +kernel) rfl
theorem dL_law_3188 : decode cL_law 3188 = .ok (.iadd, 1) := dec_w [0x60] (pc9 (k := 3136) (j := 52) lwD_49 rfl) (by decide +kernel) rfl
theorem dL_law_3189 : decode cL_law 3189 = .ok (.iaload, 1) := dec_w [0x2e] (pc9 (k := 3136) (j := 53) lwD_49 rfl) (by decide +kernel) rfl
theorem dL_law_3190 : decode cL_law 3190 = .ok (.aload_n 0, 1) := dec_w [0x2a] (pc9 (k := 3136) (j := 54) lwD_49 rfl) (by decide +kernel) rfl
theorem dL_law_3191 : decode cL_law 3191 = .ok (.iload 5, 2) := dec_w [0x15, 0x05] (pc9 (k := 3136) (j := 55) lwD_49 rfl) (by decide +kernel) rfl
theorem dL_law_3193 : decode cL_law 3193 = .ok (.iconst 2, 1) := dec_w [0x05] (pc9 (k := 3136) (j := 57) lwD_49 rfl) (by decide +kernel) rfl
theorem dL_law_3194 : decode cL_law 3194 = .ok (.iadd, 1) := dec_w [0x60] (pc9 (k := 3136) (j := 58) lwD_49 rfl) (by decide +kernel) rfl
theorem dL_law_3195 : decode cL_law 3195 = .ok (.iaload, 1) := dec_w [0x2e] (pc9 (k := 3136) (j := 59) lwD_49 rfl) (by decide +kernel) rfl
theorem dL_law_3196 : decode cL_law 3196 = .ok (.aload_n 0, 1) := dec_w [0x2a] (pc9 (k := 3136) (j := 60) lwD_49 rfl) (by decide +kernel) rfl
theorem dL_law_3197 : decode cL_law 3197 = .ok (.iload 5, 2) := dec_w [0x15, 0x05] (pc9 (k := 3136) (j := 61) lwD_49 rfl) (by decide +kernel) rfl
theorem dL_law_3199 : decode cL_law 3199 = .ok (.iconst 3, 1) := dec_w [0x06] (pc9 (k := 3136) (j := 63) lwD_49 rfl) (by decide +kernel) rfl
theorem dL_law_3200 : decode cL_law 3200 = .ok (.iadd, 1) := dec_w [0x60] (pc9 (k := 3200) (j := 0) lwD_50 rfl) (by decide +kernel) rfl
theorem dL_law_3201 : decode cL_law 3201 = .ok (.iaload, 1) := dec_w [0x2e] (pc9 (k := 3200) (j := 1) lwD_50 rfl) (by decide +kernel) rfl
theorem dL_law_3202 : decode cL_law 3202 = .ok (.aload_n 0, 1) := dec_w [0x2a] (pc9 (k := 3200) (j := 2) lwD_50 rfl) (by decide +kernel) rfl
theorem dL_law_3203 : decode cL_law 3203 = .ok (.iload 5, 2) := dec_w [0x15, 0x05] (pc9 (k := 3200) (j := 3) lwD_50 rfl) (by decide +kernel) rfl
theorem dL_law_3205 : decode cL_law 3205 = .ok (.iconst 4, 1) := dec_w [0x07] (pc9 (k := 3200) (j := 5) lwD_50 rfl) (by decide +kernel) rfl
theorem dL_law_3206 : decode cL_law 3206 = .ok (.iadd, 1) := dec_w [0x60] (pc9 (k := 3200) (j := 6) lwD_50 rfl) (by decide +kernel) rfl
theorem dL_law_3207 : decode cL_law 3207 = .ok (.iaload, 1) := dec_w [0x2e] (pc9 (k := 3200) (j := 7) lwD_50 rfl) (by decide +kernel) rfl
theorem dL_law_3208 : decode cL_law 3208 = .ok (.invokevirtual 335, 3) := dec_w [0xb6, 0x01, 0x4f] (pc9 (k := 3200) (j := 8) lwD_50 rfl) (by decide +kernel) rfl
theorem dL_law_3211 : decode cL_law 3211 = .ok (.istore 7, 2) := dec_w [0x36, 0x07] (pc9 (k := 3200) (j := 11) lwD_50 rfl) (by decide +kernel) rfl
theorem dL_law_3213 : decode cL_law 3213 = .ok (.aload_n 2, 1) := dec_w [0x2c] (pc9 (k := 3200) (j := 13) lwD_50 rfl) (by decide +kernel) rfl
theorem dL_law_3214 : decode cL_law 3214 = .ok (.invokevirtual 212, 3) := dec_w [0xb6, 0x00, 0xd4] (pc9 (k := 3200) (j := 14) lwD_50 rfl) (by decide +kernel) rfl
theorem dL_law_3217 : decode cL_law 3217 = .ok (.iload 6, 2) := dec_w [0x15, 0x06] (pc9 (k := 3200) (j := 17) lwD_50 rfl) (by decide +kernel) rfl
theorem dL_law_3219 : decode cL_law 3219 = .ok (.if_icmp .eq 5, 3) := dec_w [0x9f, 0x00, 0x05] (pc9 (k := 3200) (j := 19) lwD_50 rfl) (by decide +kernel) rfl
theorem dL_law_3222 : decode cL_law 3222 = .ok (.iconst 0, 1) := dec_w [0x03] (pc9 (k := 3200) (j := 22) lwD_50 rfl) (by decide +kernel) rfl
theorem dL_law_3223 : decode cL_law 3223 = .ok (.ireturn, 1) := dec_w [0xac] (pc9 (k := 3200) (j := 23) lwD_50 rfl) (by decide +kernel) rfl
theorem dL_law_3224 : decode cL_law 3224 = .ok (.iload 6, 2) := dec_w [0x15, 0x06] (pc9 (k := 3200) (j := 24) lwD_50 rfl) (by decide +kernel) rfl
theorem dL_law_3226 : decode cL_law 3226 = .ok (.ifCond .ne 15, 3) := dec_w [0x9a, 0x00, 0x0f] (pc9 (k := 3200) (j := 26) lwD_50 rfl) (by decide +kernel) rfl
theorem dL_law_3229 : decode cL_law 3229 = .ok (.aload_n 3, 1) := dec_w [0x2d] (pc9 (k := 3200) (j := 29) lwD_50 rfl) (by decide +kernel) rfl
theorem dL_law_3230 : decode cL_law 3230 = .ok (.iconst 0, 1) := dec_w [0x03] (pc9 (k := 3200) (j := 30) lwD_50 rfl) (by decide +kernel) rfl
theorem dL_law_3231 : decode cL_law 3231 = .ok (.laload, 1) := dec_w [0x2f] (pc9 (k := 3200) (j := 31) lwD_50 rfl) (by decide +kernel) rfl
theorem dL_law_3232 : decode cL_law 3232 = .ok (.iload 7, 2) := dec_w [0x15, 0x07] (pc9 (k := 3200) (j := 32) lwD_50 rfl) (by decide +kernel) rfl
theorem dL_law_3234 : decode cL_law 3234 = .ok (.i2l, 1) := dec_w [0x85] (pc9 (k := 3200) (j := 34) lwD_50 rfl) (by decide +kernel) rfl
theorem dL_law_3235 : decode cL_law 3235 = .ok (.lcmp, 1) := dec_w [0x94] (pc9 (k := 3200) (j := 35) lwD_50 rfl) (by decide +kernel) rfl
theorem dL_law_3236 : decode cL_law 3236 = .ok (.ifCond .eq 5, 3) := dec_w [0x99, 0x00, 0x05] (pc9 (k := 3200) (j := 36) lwD_50 rfl) (by decide +kernel) rfl
theorem dL_law_3239 : decode cL_law 3239 = .ok (.iconst 0, 1) := dec_w [0x03] (pc9 (k := 3200) (j := 39) lwD_50 rfl) (by decide +kernel) rfl
theorem dL_law_3240 : decode cL_law 3240 = .ok (.ireturn, 1) := dec_w [0xac] (pc9 (k := 3200) (j := 40) lwD_50 rfl) (by decide +kernel) rfl
theorem dL_law_3241 : decode cL_law 3241 = .ok (.goto 985, 3) := dec_w [0xa7, 0x03, 0xd9] (pc9 (k := 3200) (j := 41) lwD_50 rfl) (by decide +kernel) rfl
theorem dL_law_3244 : decode cL_law 3244 = .ok (.aload_n 1, 1) := dec_w [0x2b] (pc9 (k := 3200) (j := 44) lwD_50 rfl) (by decide +kernel) rfl
theorem dL_law_3245 : decode cL_law 3245 = .ok (.aload_n 0, 1) := dec_w [0x2a] (pc9 (k := 3200) (j := 45) lwD_50 rfl) (by decide +kernel) rfl
theorem dL_law_3246 : decode cL_law 3246 = .ok (.iload 5, 2) := dec_w [0x15, 0x05] (pc9 (k := 3200) (j := 46) lwD_50 rfl) (by decide +kernel) rfl
theorem dL_law_3248 : decode cL_law 3248 = .ok (.iconst 1, 1) := dec_w [0x04] (pc9 (k := 3200) (j := 48) lwD_50 rfl) (by decide +kernel) rfl
theorem dL_law_3249 : decode cL_law 3249 = .ok (.iadd, 1) := dec_w [0x60] (pc9 (k := 3200) (j := 49) lwD_50 rfl) (by decide +kernel) rfl
theorem dL_law_3250 : decode cL_law 3250 = .ok (.iaload, 1) := dec_w [0x2e] (pc9 (k := 3200) (j := 50) lwD_50 rfl) (by decide +kernel) rfl
theorem dL_law_3251 : decode cL_law 3251 = .ok (.aload_n 0, 1) := dec_w [0x2a] (pc9 (k := 3200) (j := 51) lwD_50 rfl) (by decide +kernel) rfl
theorem dL_law_3252 : decode cL_law 3252 = .ok (.iload 5, 2) := dec_w [0x15, 0x05] (pc9 (k := 3200) (j := 52) lwD_50 rfl) (by decide +kernel) rfl
theorem dL_law_3254 : decode cL_law 3254 = .ok (.iconst 2, 1) := dec_w [0x05] (pc9 (k := 3200) (j := 54) lwD_50 rfl) (by decide +kernel) rfl
theorem dL_law_3255 : decode cL_law 3255 = .ok (.iadd, 1) := dec_w [0x60] (pc9 (k := 3200) (j := 55) lwD_50 rfl) (by decide +kernel) rfl
theorem dL_law_3256 : decode cL_law 3256 = .ok (.iaload, 1) := dec_w [0x2e] (pc9 (k := 3200) (j := 56) lwD_50 rfl) (by decide +kernel) rfl
theorem dL_law_3257 : decode cL_law 3257 = .ok (.aload_n 0, 1) := dec_w [0x2a] (pc9 (k := 3200) (j := 57) lwD_50 rfl) (by decide +kernel) rfl
theorem dL_law_3258 : decode cL_law 3258 = .ok (.iload 5, 2) := dec_w [0x15, 0x05] (pc9 (k := 3200) (j := 58) lwD_50 rfl) (by decide +kernel) rfl
theorem dL_law_3260 : decode cL_law 3260 = .ok (.iconst 3, 1) := dec_w [0x06] (pc9 (k := 3200) (j := 60) lwD_50 rfl) (by decide +kernel) rfl
theorem dL_law_3261 : decode cL_law 3261 = .ok (.iadd, 1) := dec_w [0x60] (pc9 (k := 3200) (j := 61) lwD_50 rfl) (by decide +kernel) rfl
theorem dL_law_3262 : decode cL_law 3262 = .ok (.iaload, 1) := dec_w [0x2e] (pc9 (k := 3200) (j := 62) lwD_50 rfl) (by decide +kernel) rfl
theorem dL_law_3263 : decode cL_law 3263 = .ok (.aload_n 0, 1) := dec_w [0x2a] (pc9 (k := 3200) (j := 63) lwD_50 rfl) (by decide +kernel) rfl
theorem dL_law_3264 : decode cL_law 3264 = .ok (.iload 5, 2) := dec_w [0x15, 0x05] (pc9 (k := 3264) (j := 0) lwD_51 rfl) (by decide +kernel) rfl
theorem dL_law_3266 : decode cL_law 3266 = .ok (.iconst 4, 1) := dec_w [0x07] (pc9 (k := 3264) (j := 2) lwD_51 rfl) (by decide +kernel) rfl
theorem dL_law_3267 : decode cL_law 3267 = .ok (.iadd, 1) := dec_w [0x60] (pc9 (k := 3264) (j := 3) lwD_51 rfl) (by decide +kernel) rfl
theorem dL_law_3268 : decode cL_law 3268 = .ok (.iaload, 1) := dec_w [0x2e] (pc9 (k := 3264) (j := 4) lwD_51 rfl) (by decide +kernel) rfl
theorem dL_law_3269 : decode cL_law 3269 = .ok (.ifCond .eq 7, 3) := dec_w [0x99, 0x00, 0x07] (pc9 (k := 3264) (j := 5) lwD_51 rfl) (by decide +kernel) rfl
theorem dL_law_3272 : decode cL_law 3272 = .ok (.iconst 1, 1) := dec_w [0x04] (pc9 (k := 3264) (j := 8) lwD_51 rfl) (by decide +kernel) rfl
theorem dL_law_3273 : decode cL_law 3273 = .ok (.goto 4, 3) := dec_w [0xa7, 0x00, 0x04] (pc9 (k := 3264) (j := 9) lwD_51 rfl) (by decide +kernel) rfl
theorem dL_law_3276 : decode cL_law 3276 = .ok (.iconst 0, 1) := dec_w [0x03] (pc9 (k := 3264) (j := 12) lwD_51 rfl) (by decide +kernel) rfl
theorem dL_law_3277 : decode cL_law 3277 = .ok (.aload_n 3, 1) := dec_w [0x2d] (pc9 (k := 3264) (j := 13) lwD_51 rfl) (by decide +kernel) rfl
theorem dL_law_3278 : decode cL_law 3278 = .ok (.invokestatic 336, 3) := dec_w [0xb8, 0x01, 0x50] (pc9 (k := 3264) (j := 14) lwD_51 rfl) (by decide +kernel) rfl
theorem dL_law_3281 : decode cL_law 3281 = .ok (.istore 6, 2) := dec_w [0x36, 0x06] (pc9 (k := 3264) (j := 17) lwD_51 rfl) (by decide +kernel) rfl
theorem dL_law_3283 : decode cL_law 3283 = .ok (.aload_n 2, 1) := dec_w [0x2c] (pc9 (k := 3264) (j := 19) lwD_51 rfl) (by decide +kernel) rfl
theorem dL_law_3284 : decode cL_law 3284 = .ok (.aload_n 0, 1) := dec_w [0x2a] (pc9 (k := 3264) (j := 20) lwD_51 rfl) (by decide +kernel) rfl
theorem dL_law_3285 : decode cL_law 3285 = .ok (.iload 5, 2) := dec_w [0x15, 0x05] (pc9 (k := 3264) (j := 21) lwD_51 rfl) (by decide +kernel) rfl
theorem dL_law_3287 : decode cL_law 3287 = .ok (.iconst 1, 1) := dec_w [0x04] (pc9 (k := 3264) (j := 23) lwD_51 rfl) (by decide +kernel) rfl
theorem dL_law_3288 : decode cL_law 3288 = .ok (.iadd, 1) := dec_w [0x60] (pc9 (k := 3264) (j := 24) lwD_51 rfl) (by decide +kernel) rfl
theorem dL_law_3289 : decode cL_law 3289 = .ok (.iaload, 1) := dec_w [0x2e] (pc9 (k := 3264) (j := 25) lwD_51 rfl) (by decide +kernel) rfl
theorem dL_law_3290 : decode cL_law 3290 = .ok (.aload_n 0, 1) := dec_w [0x2a] (pc9 (k := 3264) (j := 26) lwD_51 rfl) (by decide +kernel) rfl
theorem dL_law_3291 : decode cL_law 3291 = .ok (.iload 5, 2) := dec_w [0x15, 0x05] (pc9 (k := 3264) (j := 27) lwD_51 rfl) (by decide +kernel) rfl
theorem dL_law_3293 : decode cL_law 3293 = .ok (.iconst 2, 1) := dec_w [0x05] (pc9 (k := 3264) (j := 29) lwD_51 rfl) (by decide +kernel) rfl
theorem dL_law_3294 : decode cL_law 3294 = .ok (.iadd, 1) := dec_w [0x60] (pc9 (k := 3264) (j := 30) lwD_51 rfl) (by decide +kernel) rfl
theorem dL_law_3295 : decode cL_law 3295 = .ok (.iaload, 1) := dec_w [0x2e] (pc9 (k := 3264) (j := 31) lwD_51 rfl) (by decide +kernel) rfl
theorem dL_law_3296 : decode cL_law 3296 = .ok (.aload_n 0, 1) := dec_w [0x2a] (pc9 (k := 3264) (j := 32) lwD_51 rfl) (by decide +kernel) rfl
theorem dL_law_3297 : decode cL_law 3297 = .ok (.iload 5, 2) := dec_w [0x15, 0x05] (pc9 (k := 3264) (j := 33) lwD_51 rfl) (by decide +kernel) rfl
theorem dL_law_3299 : decode cL_law 3299 = .ok (.iconst 3, 1) := dec_w [0x06] (pc9 (k := 3264) (j := 35) lwD_51 rfl) (by decide +kernel) rfl
theorem dL_law_3300 : decode cL_law 3300 = .ok (.iadd, 1) := dec_w [0x60] (pc9 (k := 3264) (j := 36) lwD_51 rfl) (by decide +kernel) rfl
theorem dL_law_3301 : decode cL_law 3301 = .ok (.iaload, 1) := dec_w [0x2e] (pc9 (k := 3264) (j := 37) lwD_51 rfl) (by decide +kernel) rfl
theorem dL_law_3302 : decode cL_law 3302 = .ok (.aload_n 0, 1) := dec_w [0x2a] (pc9 (k := 3264) (j := 38) lwD_51 rfl) (by decide +kernel) rfl
theorem dL_law_3303 : decode cL_law 3303 = .ok (.iload 5, 2) := dec_w [0x15, 0x05] (pc9 (k := 3264) (j := 39) lwD_51 rfl) (by decide +kernel) rfl
theorem dL_law_3305 : decode cL_law 3305 = .ok (.iconst 4, 1) := dec_w [0x07] (pc9 (k := 3264) (j := 41) lwD_51 rfl) (by decide +kernel) rfl
theorem dL_law_3306 : decode cL_law 3306 = .ok (.iadd, 1) := dec_w [0x60] (pc9 (k := 3264) (j := 42) lwD_51 rfl) (by decide +kernel) rfl
theorem dL_law_3307 : decode cL_law 3307 = .ok (.iaload, 1) := dec_w [0x2e] (pc9 (k := 3264) (j := 43) lwD_51 rfl) (by decide +kernel) rfl
theorem dL_law_3308 : decode cL_law 3308 = .ok (.ifCond .eq 7, 3) := dec_w [0x99, 0x00, 0x07] (pc9 (k := 3264) (j := 44) lwD_51 rfl) (by decide +kernel) rfl
theorem dL_law_3311 : decode cL_law 3311 = .ok (.iconst 1, 1) := dec_w [0x04] (pc9 (k := 3264) (j := 47) lwD_51 rfl) (by decide +kernel) rfl
theorem dL_law_3312 : decode cL_law 3312 = .ok (.goto 4, 3) := dec_w [0xa7, 0x00, 0x04] (pc9 (k := 3264) (j := 48) lwD_51 rfl) (by decide +kernel) rfl
theorem dL_law_3315 : decode cL_law 3315 = .ok (.iconst 0, 1) := dec_w [0x03] (pc9 (k := 3264) (j := 51) lwD_51 rfl) (by decide +kernel) rfl
theorem dL_law_3316 : decode cL_law 3316 = .ok (.invokevirtual 338, 3) := dec_w [0xb6, 0x01, 0x52] (pc9 (k := 3264) (j := 52) lwD_51 rfl) (by decide +kernel) rfl
theorem dL_law_3319 : decode cL_law 3319 = .ok (.istore 7, 2) := dec_w [0x36, 0x07] (pc9 (k := 3264) (j := 55) lwD_51 rfl) (by decide +kernel) rfl
theorem dL_law_3321 : decode cL_law 3321 = .ok (.aload_n 2, 1) := dec_w [0x2c] (pc9 (k := 3264) (j := 57) lwD_51 rfl) (by decide +kernel) rfl
theorem dL_law_3322 : decode cL_law 3322 = .ok (.invokevirtual 212, 3) := dec_w [0xb6, 0x00, 0xd4] (pc9 (k := 3264) (j := 58) lwD_51 rfl) (by decide +kernel) rfl
theorem dL_law_3325 : decode cL_law 3325 = .ok (.iload 6, 2) := dec_w [0x15, 0x06] (pc9 (k := 3264) (j := 61) lwD_51 rfl) (by decide +kernel) rfl
theorem dL_law_3327 : decode cL_law 3327 = .ok (.if_icmp .eq 5, 3) := dec_w [0x9f, 0x00, 0x05] (pc9 (k := 3264) (j := 63) lwD_51 rfl) (by decide +kernel) rfl
theorem dL_law_3330 : decode cL_law 3330 = .ok (.iconst 0, 1) := dec_w [0x03] (pc9 (k := 3328) (j := 2) lwD_52 rfl) (by decide +kernel) rfl
theorem dL_law_3331 : decode cL_law 3331 = .ok (.ireturn, 1) := dec_w [0xac] (pc9 (k := 3328) (j := 3) lwD_52 rfl) (by decide +kernel) rfl
theorem dL_law_3332 : decode cL_law 3332 = .ok (.iload 6, 2) := dec_w [0x15, 0x06] (pc9 (k := 3328) (j := 4) lwD_52 rfl) (by decide +kernel) rfl
theorem dL_law_3334 : decode cL_law 3334 = .ok (.ifCond .ne 15, 3) := dec_w [0x9a, 0x00, 0x0f] (pc9 (k := 3328) (j := 6) lwD_52 rfl) (by decide +kernel) rfl
theorem dL_law_3337 : decode cL_law 3337 = .ok (.aload_n 3, 1) := dec_w [0x2d] (pc9 (k := 3328) (j := 9) lwD_52 rfl) (by decide +kernel) rfl
theorem dL_law_3338 : decode cL_law 3338 = .ok (.iconst 0, 1) := dec_w [0x03] (pc9 (k := 3328) (j := 10) lwD_52 rfl) (by decide +kernel) rfl
theorem dL_law_3339 : decode cL_law 3339 = .ok (.laload, 1) := dec_w [0x2f] (pc9 (k := 3328) (j := 11) lwD_52 rfl) (by decide +kernel) rfl
theorem dL_law_3340 : decode cL_law 3340 = .ok (.iload 7, 2) := dec_w [0x15, 0x07] (pc9 (k := 3328) (j := 12) lwD_52 rfl) (by decide +kernel) rfl
theorem dL_law_3342 : decode cL_law 3342 = .ok (.i2l, 1) := dec_w [0x85] (pc9 (k := 3328) (j := 14) lwD_52 rfl) (by decide +kernel) rfl
theorem dL_law_3343 : decode cL_law 3343 = .ok (.lcmp, 1) := dec_w [0x94] (pc9 (k := 3328) (j := 15) lwD_52 rfl) (by decide +kernel) rfl
theorem dL_law_3344 : decode cL_law 3344 = .ok (.ifCond .eq 5, 3) := dec_w [0x99, 0x00, 0x05] (pc9 (k := 3328) (j := 16) lwD_52 rfl) (by decide +kernel) rfl
theorem dL_law_3347 : decode cL_law 3347 = .ok (.iconst 0, 1) := dec_w [0x03] (pc9 (k := 3328) (j := 19) lwD_52 rfl) (by decide +kernel) rfl
theorem dL_law_3348 : decode cL_law 3348 = .ok (.ireturn, 1) := dec_w [0xac] (pc9 (k := 3328) (j := 20) lwD_52 rfl) (by decide +kernel) rfl
theorem dL_law_3349 : decode cL_law 3349 = .ok (.goto 877, 3) := dec_w [0xa7, 0x03, 0x6d] (pc9 (k := 3328) (j := 21) lwD_52 rfl) (by decide +kernel) rfl
theorem dL_law_3352 : decode cL_law 3352 = .ok (.aload_n 1, 1) := dec_w [0x2b] (pc9 (k := 3328) (j := 24) lwD_52 rfl) (by decide +kernel) rfl
theorem dL_law_3353 : decode cL_law 3353 = .ok (.aload_n 0, 1) := dec_w [0x2a] (pc9 (k := 3328) (j := 25) lwD_52 rfl) (by decide +kernel) rfl
theorem dL_law_3354 : decode cL_law 3354 = .ok (.iload 5, 2) := dec_w [0x15, 0x05] (pc9 (k := 3328) (j := 26) lwD_52 rfl) (by decide +kernel) rfl
theorem dL_law_3356 : decode cL_law 3356 = .ok (.iconst 1, 1) := dec_w [0x04] (pc9 (k := 3328) (j := 28) lwD_52 rfl) (by decide +kernel) rfl
theorem dL_law_3357 : decode cL_law 3357 = .ok (.iadd, 1) := dec_w [0x60] (pc9 (k := 3328) (j := 29) lwD_52 rfl) (by decide +kernel) rfl
theorem dL_law_3358 : decode cL_law 3358 = .ok (.iaload, 1) := dec_w [0x2e] (pc9 (k := 3328) (j := 30) lwD_52 rfl) (by decide +kernel) rfl
theorem dL_law_3359 : decode cL_law 3359 = .ok (.aload_n 0, 1) := dec_w [0x2a] (pc9 (k := 3328) (j := 31) lwD_52 rfl) (by decide +kernel) rfl
theorem dL_law_3360 : decode cL_law 3360 = .ok (.iload 5, 2) := dec_w [0x15, 0x05] (pc9 (k := 3328) (j := 32) lwD_52 rfl) (by decide +kernel) rfl
theorem dL_law_3362 : decode cL_law 3362 = .ok (.iconst 2, 1) := dec_w [0x05] (pc9 (k := 3328) (j := 34) lwD_52 rfl) (by decide +kernel) rfl
theorem dL_law_3363 : decode cL_law 3363 = .ok (.iadd, 1) := dec_w [0x60] (pc9 (k := 3328) (j := 35) lwD_52 rfl) (by decide +kernel) rfl
theorem dL_law_3364 : decode cL_law 3364 = .ok (.iaload, 1) := dec_w [0x2e] (pc9 (k := 3328) (j := 36) lwD_52 rfl) (by decide +kernel) rfl
theorem dL_law_3365 : decode cL_law 3365 = .ok (.aload_n 0, 1) := dec_w [0x2a] (pc9 (k := 3328) (j := 37) lwD_52 rfl) (by decide +kernel) rfl
theorem dL_law_3366 : decode cL_law 3366 = .ok (.iload 5, 2) := dec_w [0x15, 0x05] (pc9 (k := 3328) (j := 38) lwD_52 rfl) (by decide +kernel) rfl
theorem dL_law_3368 : decode cL_law 3368 = .ok (.iconst 3, 1) := dec_w [0x06] (pc9 (k := 3328) (j := 40) lwD_52 rfl) (by decide +kernel) rfl
theorem dL_law_3369 : decode cL_law 3369 = .ok (.iadd, 1) := dec_w [0x60] (pc9 (k := 3328) (j := 41) lwD_52 rfl) (by decide +kernel) rfl
theorem dL_law_3370 : decode cL_law 3370 = .ok (.iaload, 1) := dec_w [0x2e] (pc9 (k := 3328) (j := 42) lwD_52 rfl) (by decide +kernel) rfl
theorem dL_law_3371 : decode cL_law 3371 = .ok (.aload_n 0, 1) := dec_w [0x2a] (pc9 (k := 3328) (j := 43) lwD_52 rfl) (by decide +kernel) rfl
theorem dL_law_3372 : decode cL_law 3372 = .ok (.iload 5, 2) := dec_w [0x15, 0x05] (pc9 (k := 3328) (j := 44) lwD_52 rfl) (by decide +kernel) rfl
theorem dL_law_3374 : decode cL_law 3374 = .ok (.iconst 4, 1) := dec_w [0x07] (pc9 (k := 3328) (j := 46) lwD_52 rfl) (by decide +kernel) rfl
theorem dL_law_3375 : decode cL_law 3375 = .ok (.iadd, 1) := dec_w [0x60] (pc9 (k := 3328) (j := 47) lwD_52 rfl) (by decide +kernel) rfl
theorem dL_law_3376 : decode cL_law 3376 = .ok (.iaload, 1) := dec_w [0x2e] (pc9 (k := 3328) (j := 48) lwD_52 rfl) (by decide +kernel) rfl
theorem dL_law_3377 : decode cL_law 3377 = .ok (.ifCond .eq 7, 3) := dec_w [0x99, 0x00, 0x07] (pc9 (k := 3328) (j := 49) lwD_52 rfl) (by decide +kernel) rfl
theorem dL_law_3380 : decode cL_law 3380 = .ok (.iconst 1, 1) := dec_w [0x04] (pc9 (k := 3328) (j := 52) lwD_52 rfl) (by decide +kernel) rfl
theorem dL_law_3381 : decode cL_law 3381 = .ok (.goto 4, 3) := dec_w [0xa7, 0x00, 0x04] (pc9 (k := 3328) (j := 53) lwD_52 rfl) (by decide +kernel) rfl
theorem dL_law_3384 : decode cL_law 3384 = .ok (.iconst 0, 1) := dec_w [0x03] (pc9 (k := 3328) (j := 56) lwD_52 rfl) (by decide +kernel) rfl
theorem dL_law_3385 : decode cL_law 3385 = .ok (.aload_n 3, 1) := dec_w [0x2d] (pc9 (k := 3328) (j := 57) lwD_52 rfl) (by decide +kernel) rfl
theorem dL_law_3386 : decode cL_law 3386 = .ok (.invokestatic 339, 3) := dec_w [0xb8, 0x01, 0x53] (pc9 (k := 3328) (j := 58) lwD_52 rfl) (by decide +kernel) rfl
theorem dL_law_3389 : decode cL_law 3389 = .ok (.istore 6, 2) := dec_w [0x36, 0x06] (pc9 (k := 3328) (j := 61) lwD_52 rfl) (by decide +kernel) rfl
theorem dL_law_3391 : decode cL_law 3391 = .ok (.aload_n 2, 1) := dec_w [0x2c] (pc9 (k := 3328) (j := 63) lwD_52 rfl) (by decide +kernel) rfl
theorem dL_law_3392 : decode cL_law 3392 = .ok (.aload_n 0, 1) := dec_w [0x2a] (pc9 (k := 3392) (j := 0) lwD_53 rfl) (by decide +kernel) rfl
theorem dL_law_3393 : decode cL_law 3393 = .ok (.iload 5, 2) := dec_w [0x15, 0x05] (pc9 (k := 3392) (j := 1) lwD_53 rfl) (by decide +kernel) rfl
theorem dL_law_3395 : decode cL_law 3395 = .ok (.iconst 1, 1) := dec_w [0x04] (pc9 (k := 3392) (j := 3) lwD_53 rfl) (by decide +kernel) rfl
theorem dL_law_3396 : decode cL_law 3396 = .ok (.iadd, 1) := dec_w [0x60] (pc9 (k := 3392) (j := 4) lwD_53 rfl) (by decide +kernel) rfl
theorem dL_law_3397 : decode cL_law 3397 = .ok (.iaload, 1) := dec_w [0x2e] (pc9 (k := 3392) (j := 5) lwD_53 rfl) (by decide +kernel) rfl
theorem dL_law_3398 : decode cL_law 3398 = .ok (.aload_n 0, 1) := dec_w [0x2a] (pc9 (k := 3392) (j := 6) lwD_53 rfl) (by decide +kernel) rfl
theorem dL_law_3399 : decode cL_law 3399 = .ok (.iload 5, 2) := dec_w [0x15, 0x05] (pc9 (k := 3392) (j := 7) lwD_53 rfl) (by decide +kernel) rfl
theorem dL_law_3401 : decode cL_law 3401 = .ok (.iconst 2, 1) := dec_w [0x05] (pc9 (k := 3392) (j := 9) lwD_53 rfl) (by decide +kernel) rfl
theorem dL_law_3402 : decode cL_law 3402 = .ok (.iadd, 1) := dec_w [0x60] (pc9 (k := 3392) (j := 10) lwD_53 rfl) (by decide +kernel) rfl
theorem dL_law_3403 : decode cL_law 3403 = .ok (.iaload, 1) := dec_w [0x2e] (pc9 (k := 3392) (j := 11) lwD_53 rfl) (by decide +kernel) rfl
theorem dL_law_3404 : decode cL_law 3404 = .ok (.aload_n 0, 1) := dec_w [0x2a] (pc9 (k := 3392) (j := 12) lwD_53 rfl) (by decide +kernel) rfl
theorem dL_law_3405 : decode cL_law 3405 = .ok (.iload 5, 2) := dec_w [0x15, 0x05] (pc9 (k := 3392) (j := 13) lwD_53 rfl) (by decide +kernel) rfl
theorem dL_law_3407 : decode cL_law 3407 = .ok (.iconst 3, 1) := dec_w [0x06] (pc9 (k := 3392) (j := 15) lwD_53 rfl) (by decide +kernel) rfl
theorem dL_law_3408 : decode cL_law 3408 = .ok (.iadd, 1) := dec_w [0x60] (pc9 (k := 3392) (j := 16) lwD_53 rfl) (by decide +kernel) rfl
theorem dL_law_3409 : decode cL_law 3409 = .ok (.iaload, 1) := dec_w [0x2e] (pc9 (k := 3392) (j := 17) lwD_53 rfl) (by decide +kernel) rfl
theorem dL_law_3410 : decode cL_law 3410 = .ok (.aload_n 0, 1) := dec_w [0x2a] (pc9 (k := 3392) (j := 18) lwD_53 rfl) (by decide +kernel) rfl
theorem dL_law_3411 : decode cL_law 3411 = .ok (.iload 5, 2) := dec_w [0x15, 0x05] (pc9 (k := 3392) (j := 19) lwD_53 rfl) (by decide +kernel) rfl
theorem dL_law_3413 : decode cL_law 3413 = .ok (.iconst 4, 1) := dec_w [0x07] (pc9 (k := 3392) (j := 21) lwD_53 rfl) (by decide +kernel) rfl
theorem dL_law_3414 : decode cL_law 3414 = .ok (.iadd, 1) := dec_w [0x60] (pc9 (k := 3392) (j := 22) lwD_53 rfl) (by decide +kernel) rfl
theorem dL_law_3415 : decode cL_law 3415 = .ok (.iaload, 1) := dec_w [0x2e] (pc9 (k := 3392) (j := 23) lwD_53 rfl) (by decide +kernel) rfl
theorem dL_law_3416 : decode cL_law 3416 = .ok (.ifCond .eq 7, 3) := dec_w [0x99, 0x00, 0x07] (pc9 (k := 3392) (j := 24) lwD_53 rfl) (by decide +kernel) rfl
theorem dL_law_3419 : decode cL_law 3419 = .ok (.iconst 1, 1) := dec_w [0x04] (pc9 (k := 3392) (j := 27) lwD_53 rfl) (by decide +kernel) rfl
theorem dL_law_3420 : decode cL_law 3420 = .ok (.goto 4, 3) := dec_w [0xa7, 0x00, 0x04] (pc9 (k := 3392) (j := 28) lwD_53 rfl) (by decide +kernel) rfl
theorem dL_law_3423 : decode cL_law 3423 = .ok (.iconst 0, 1) := dec_w [0x03] (pc9 (k := 3392) (j := 31) lwD_53 rfl) (by decide +kernel) rfl
theorem dL_law_3424 : decode cL_law 3424 = .ok (.invokevirtual 341, 3) := dec_w [0xb6, 0x01, 0x55] (pc9 (k := 3392) (j := 32) lwD_53 rfl) (by decide +kernel) rfl
theorem dL_law_3427 : decode cL_law 3427 = .ok (.istore 7, 2) := dec_w [0x36, 0x07] (pc9 (k := 3392) (j := 35) lwD_53 rfl) (by decide +kernel) rfl
theorem dL_law_3429 : decode cL_law 3429 = .ok (.aload_n 2, 1) := dec_w [0x2c] (pc9 (k := 3392) (j := 37) lwD_53 rfl) (by decide +kernel) rfl
theorem dL_law_3430 : decode cL_law 3430 = .ok (.invokevirtual 212, 3) := dec_w [0xb6, 0x00, 0xd4] (pc9 (k := 3392) (j := 38) lwD_53 rfl) (by decide +kernel) rfl
theorem dL_law_3433 : decode cL_law 3433 = .ok (.iload 6, 2) := dec_w [0x15, 0x06] (pc9 (k := 3392) (j := 41) lwD_53 rfl) (by decide +kernel) rfl
theorem dL_law_3435 : decode cL_law 3435 = .ok (.if_icmp .eq 5, 3) := dec_w [0x9f, 0x00, 0x05] (pc9 (k := 3392) (j := 43) lwD_53 rfl) (by decide +kernel) rfl
theorem dL_law_3438 : decode cL_law 3438 = .ok (.iconst 0, 1) := dec_w [0x03] (pc9 (k := 3392) (j := 46) lwD_53 rfl) (by decide +kernel) rfl
theorem dL_law_3439 : decode cL_law 3439 = .ok (.ireturn, 1) := dec_w [0xac] (pc9 (k := 3392) (j := 47) lwD_53 rfl) (by decide +kernel) rfl
theorem dL_law_3440 : decode cL_law 3440 = .ok (.iload 6, 2) := dec_w [0x15, 0x06] (pc9 (k := 3392) (j := 48) lwD_53 rfl) (by decide +kernel) rfl
theorem dL_law_3442 : decode cL_law 3442 = .ok (.ifCond .ne 15, 3) := dec_w [0x9a, 0x00, 0x0f] (pc9 (k := 3392) (j := 50) lwD_53 rfl) (by decide +kernel) rfl
theorem dL_law_3445 : decode cL_law 3445 = .ok (.aload_n 3, 1) := dec_w [0x2d] (pc9 (k := 3392) (j := 53) lwD_53 rfl) (by decide +kernel) rfl
theorem dL_law_3446 : decode cL_law 3446 = .ok (.iconst 0, 1) := dec_w [0x03] (pc9 (k := 3392) (j := 54) lwD_53 rfl) (by decide +kernel) rfl
theorem dL_law_3447 : decode cL_law 3447 = .ok (.laload, 1) := dec_w [0x2f] (pc9 (k := 3392) (j := 55) lwD_53 rfl) (by decide +kernel) rfl
theorem dL_law_3448 : decode cL_law 3448 = .ok (.iload 7, 2) := dec_w [0x15, 0x07] (pc9 (k := 3392) (j := 56) lwD_53 rfl) (by decide +kernel) rfl
theorem dL_law_3450 : decode cL_law 3450 = .ok (.i2l, 1) := dec_w [0x85] (pc9 (k := 3392) (j := 58) lwD_53 rfl) (by decide +kernel) rfl
theorem dL_law_3451 : decode cL_law 3451 = .ok (.lcmp, 1) := dec_w [0x94] (pc9 (k := 3392) (j := 59) lwD_53 rfl) (by decide +kernel) rfl
theorem dL_law_3452 : decode cL_law 3452 = .ok (.ifCond .eq 5, 3) := dec_w [0x99, 0x00, 0x05] (pc9 (k := 3392) (j := 60) lwD_53 rfl) (by decide +kernel) rfl
theorem dL_law_3455 : decode cL_law 3455 = .ok (.iconst 0, 1) := dec_w [0x03] (pc9 (k := 3392) (j := 63) lwD_53 rfl) (by decide +kernel) rfl
theorem dL_law_3456 : decode cL_law 3456 = .ok (.ireturn, 1) := dec_w [0xac] (pc9 (k := 3456) (j := 0) lwD_54 rfl) (by decide +kernel) rfl
theorem dL_law_3457 : decode cL_law 3457 = .ok (.goto 769, 3) := dec_w [0xa7, 0x03, 0x01] (pc9 (k := 3456) (j := 1) lwD_54 rfl) (by decide +kernel) rfl
theorem dL_law_3460 : decode cL_law 3460 = .ok (.aload_n 1, 1) := dec_w [0x2b] (pc9 (k := 3456) (j := 4) lwD_54 rfl) (by decide +kernel) rfl
theorem dL_law_3461 : decode cL_law 3461 = .ok (.aload_n 0, 1) := dec_w [0x2a] (pc9 (k := 3456) (j := 5) lwD_54 rfl) (by decide +kernel) rfl
theorem dL_law_3462 : decode cL_law 3462 = .ok (.iload 5, 2) := dec_w [0x15, 0x05] (pc9 (k := 3456) (j := 6) lwD_54 rfl) (by decide +kernel) rfl
theorem dL_law_3464 : decode cL_law 3464 = .ok (.iconst 1, 1) := dec_w [0x04] (pc9 (k := 3456) (j := 8) lwD_54 rfl) (by decide +kernel) rfl
theorem dL_law_3465 : decode cL_law 3465 = .ok (.iadd, 1) := dec_w [0x60] (pc9 (k := 3456) (j := 9) lwD_54 rfl) (by decide +kernel) rfl
theorem dL_law_3466 : decode cL_law 3466 = .ok (.iaload, 1) := dec_w [0x2e] (pc9 (k := 3456) (j := 10) lwD_54 rfl) (by decide +kernel) rfl
theorem dL_law_3467 : decode cL_law 3467 = .ok (.aload_n 0, 1) := dec_w [0x2a] (pc9 (k := 3456) (j := 11) lwD_54 rfl) (by decide +kernel) rfl
theorem dL_law_3468 : decode cL_law 3468 = .ok (.iload 5, 2) := dec_w [0x15, 0x05] (pc9 (k := 3456) (j := 12) lwD_54 rfl) (by decide +kernel) rfl
theorem dL_law_3470 : decode cL_law 3470 = .ok (.iconst 2, 1) := dec_w [0x05] (pc9 (k := 3456) (j := 14) lwD_54 rfl) (by decide +kernel) rfl
theorem dL_law_3471 : decode cL_law 3471 = .ok (.iadd, 1) := dec_w [0x60] (pc9 (k := 3456) (j := 15) lwD_54 rfl) (by decide +kernel) rfl
theorem dL_law_3472 : decode cL_law 3472 = .ok (.iaload, 1) := dec_w [0x2e] (pc9 (k := 3456) (j := 16) lwD_54 rfl) (by decide +kernel) rfl
theorem dL_law_3473 : decode cL_law 3473 = .ok (.aload_n 3, 1) := dec_w [0x2d] (pc9 (k := 3456) (j := 17) lwD_54 rfl) (by decide +kernel) rfl
theorem dL_law_3474 : decode cL_law 3474 = .ok (.invokestatic 342, 3) := dec_w [0xb8, 0x01, 0x56] (pc9 (k := 3456) (j := 18) lwD_54 rfl) (by decide +kernel) rfl
theorem dL_law_3477 : decode cL_law 3477 = .ok (.istore 6, 2) := dec_w [0x36, 0x06] (pc9 (k := 3456) (j := 21) lwD_54 rfl) (by decide +kernel) rfl
theorem dL_law_3479 : decode cL_law 3479 = .ok (.aload_n 2, 1) := dec_w [0x2c] (pc9 (k := 3456) (j := 23) lwD_54 rfl) (by decide +kernel) rfl
theorem dL_law_3480 : decode cL_law 3480 = .ok (.aload_n 0, 1) := dec_w [0x2a] (pc9 (k := 3456) (j := 24) lwD_54 rfl) (by decide +kernel) rfl
theorem dL_law_3481 : decode cL_law 3481 = .ok (.iload 5, 2) := dec_w [0x15, 0x05] (pc9 (k := 3456) (j := 25) lwD_54 rfl) (by decide +kernel) rfl
theorem dL_law_3483 : decode cL_law 3483 = .ok (.iconst 1, 1) := dec_w [0x04] (pc9 (k := 3456) (j := 27) lwD_54 rfl) (by decide +kernel) rfl
theorem dL_law_3484 : decode cL_law 3484 = .ok (.iadd, 1) := dec_w [0x60] (pc9 (k := 3456) (j := 28) lwD_54 rfl) (by decide +kernel) rfl
theorem dL_law_3485 : decode cL_law 3485 = .ok (.iaload, 1) := dec_w [0x2e] (pc9 (k := 3456) (j := 29) lwD_54 rfl) (by decide +kernel) rfl
theorem dL_law_3486 : decode cL_law 3486 = .ok (.aload_n 0, 1) := dec_w [0x2a] (pc9 (k := 3456) (j := 30) lwD_54 rfl) (by decide +kernel) rfl
theorem dL_law_3487 : decode cL_law 3487 = .ok (.iload 5, 2) := dec_w [0x15, 0x05] (pc9 (k := 3456) (j := 31) lwD_54 rfl) (by decide +kernel) rfl
theorem dL_law_3489 : decode cL_law 3489 = .ok (.iconst 2, 1) := dec_w [0x05] (pc9 (k := 3456) (j := 33) lwD_54 rfl) (by decide +kernel) rfl
theorem dL_law_3490 : decode cL_law 3490 = .ok (.iadd, 1) := dec_w [0x60] (pc9 (k := 3456) (j := 34) lwD_54 rfl) (by decide +kernel) rfl
theorem dL_law_3491 : decode cL_law 3491 = .ok (.iaload, 1) := dec_w [0x2e] (pc9 (k := 3456) (j := 35) lwD_54 rfl) (by decide +kernel) rfl
theorem dL_law_3492 : decode cL_law 3492 = .ok (.invokevirtual 344, 3) := dec_w [0xb6, 0x01, 0x58] (pc9 (k := 3456) (j := 36) lwD_54 rfl) (by decide +kernel) rfl
theorem dL_law_3495 : decode cL_law 3495 = .ok (.istore 7, 2) := dec_w [0x36, 0x07] (pc9 (k := 3456) (j := 39) lwD_54 rfl) (by decide +kernel) rfl
theorem dL_law_3497 : decode cL_law 3497 = .ok (.aload_n 2, 1) := dec_w [0x2c] (pc9 (k := 3456) (j := 41) lwD_54 rfl) (by decide +kernel) rfl
theorem dL_law_3498 : decode cL_law 3498 = .ok (.invokevirtual 212, 3) := dec_w [0xb6, 0x00, 0xd4] (pc9 (k := 3456) (j := 42) lwD_54 rfl) (by decide +kernel) rfl
theorem dL_law_3501 : decode cL_law 3501 = .ok (.iload 6, 2) := dec_w [0x15, 0x06] (pc9 (k := 3456) (j := 45) lwD_54 rfl) (by decide +kernel) rfl
theorem dL_law_3503 : decode cL_law 3503 = .ok (.if_icmp .eq 5, 3) := dec_w [0x9f, 0x00, 0x05] (pc9 (k := 3456) (j := 47) lwD_54 rfl) (by decide +kernel) rfl
theorem dL_law_3506 : decode cL_law 3506 = .ok (.iconst 0, 1) := dec_w [0x03] (pc9 (k := 3456) (j := 50) lwD_54 rfl) (by decide +kernel) rfl
theorem dL_law_3507 : decode cL_law 3507 = .ok (.ireturn, 1) := dec_w [0xac] (pc9 (k := 3456) (j := 51) lwD_54 rfl) (by decide +kernel) rfl
theorem dL_law_3508 : decode cL_law 3508 = .ok (.iload 6, 2) := dec_w [0x15, 0x06] (pc9 (k := 3456) (j := 52) lwD_54 rfl) (by decide +kernel) rfl
theorem dL_law_3510 : decode cL_law 3510 = .ok (.ifCond .ne 15, 3) := dec_w [0x9a, 0x00, 0x0f] (pc9 (k := 3456) (j := 54) lwD_54 rfl) (by decide +kernel) rfl
theorem dL_law_3513 : decode cL_law 3513 = .ok (.aload_n 3, 1) := dec_w [0x2d] (pc9 (k := 3456) (j := 57) lwD_54 rfl) (by decide +kernel) rfl
theorem dL_law_3514 : decode cL_law 3514 = .ok (.iconst 0, 1) := dec_w [0x03] (pc9 (k := 3456) (j := 58) lwD_54 rfl) (by decide +kernel) rfl
theorem dL_law_3515 : decode cL_law 3515 = .ok (.laload, 1) := dec_w [0x2f] (pc9 (k := 3456) (j := 59) lwD_54 rfl) (by decide +kernel) rfl
theorem dL_law_3516 : decode cL_law 3516 = .ok (.iload 7, 2) := dec_w [0x15, 0x07] (pc9 (k := 3456) (j := 60) lwD_54 rfl) (by decide +kernel) rfl
theorem dL_law_3518 : decode cL_law 3518 = .ok (.i2l, 1) := dec_w [0x85] (pc9 (k := 3456) (j := 62) lwD_54 rfl) (by decide +kernel) rfl
theorem dL_law_3519 : decode cL_law 3519 = .ok (.lcmp, 1) := dec_w [0x94] (pc9 (k := 3456) (j := 63) lwD_54 rfl) (by decide +kernel) rfl
theorem dL_law_3520 : decode cL_law 3520 = .ok (.ifCond .eq 5, 3) := dec_w [0x99, 0x00, 0x05] (pc9 (k := 3520) (j := 0) lwD_55 rfl) (by decide +kernel) rfl
theorem dL_law_3523 : decode cL_law 3523 = .ok (.iconst 0, 1) := dec_w [0x03] (pc9 (k := 3520) (j := 3) lwD_55 rfl) (by decide +kernel) rfl
theorem dL_law_3524 : decode cL_law 3524 = .ok (.ireturn, 1) := dec_w [0xac] (pc9 (k := 3520) (j := 4) lwD_55 rfl) (by decide +kernel) rfl
theorem dL_law_3525 : decode cL_law 3525 = .ok (.goto 701, 3) := dec_w [0xa7, 0x02, 0xbd] (pc9 (k := 3520) (j := 5) lwD_55 rfl) (by decide +kernel) rfl
theorem dL_law_3528 : decode cL_law 3528 = .ok (.aload_n 1, 1) := dec_w [0x2b] (pc9 (k := 3520) (j := 8) lwD_55 rfl) (by decide +kernel) rfl
theorem dL_law_3529 : decode cL_law 3529 = .ok (.aload_n 0, 1) := dec_w [0x2a] (pc9 (k := 3520) (j := 9) lwD_55 rfl) (by decide +kernel) rfl
theorem dL_law_3530 : decode cL_law 3530 = .ok (.iload 5, 2) := dec_w [0x15, 0x05] (pc9 (k := 3520) (j := 10) lwD_55 rfl) (by decide +kernel) rfl
theorem dL_law_3532 : decode cL_law 3532 = .ok (.iconst 1, 1) := dec_w [0x04] (pc9 (k := 3520) (j := 12) lwD_55 rfl) (by decide +kernel) rfl
theorem dL_law_3533 : decode cL_law 3533 = .ok (.iadd, 1) := dec_w [0x60] (pc9 (k := 3520) (j := 13) lwD_55 rfl) (by decide +kernel) rfl
theorem dL_law_3534 : decode cL_law 3534 = .ok (.iaload, 1) := dec_w [0x2e] (pc9 (k := 3520) (j := 14) lwD_55 rfl) (by decide +kernel) rfl
theorem dL_law_3535 : decode cL_law 3535 = .ok (.aload_n 0, 1) := dec_w [0x2a] (pc9 (k := 3520) (j := 15) lwD_55 rfl) (by decide +kernel) rfl
theorem dL_law_3536 : decode cL_law 3536 = .ok (.iload 5, 2) := dec_w [0x15, 0x05] (pc9 (k := 3520) (j := 16) lwD_55 rfl) (by decide +kernel) rfl
theorem dL_law_3538 : decode cL_law 3538 = .ok (.iconst 2, 1) := dec_w [0x05] (pc9 (k := 3520) (j := 18) lwD_55 rfl) (by decide +kernel) rfl
theorem dL_law_3539 : decode cL_law 3539 = .ok (.iadd, 1) := dec_w [0x60] (pc9 (k := 3520) (j := 19) lwD_55 rfl) (by decide +kernel) rfl
theorem dL_law_3540 : decode cL_law 3540 = .ok (.iaload, 1) := dec_w [0x2e] (pc9 (k := 3520) (j := 20) lwD_55 rfl) (by decide +kernel) rfl
theorem dL_law_3541 : decode cL_law 3541 = .ok (.aload_n 3, 1) := dec_w [0x2d] (pc9 (k := 3520) (j := 21) lwD_55 rfl) (by decide +kernel) rfl
theorem dL_law_3542 : decode cL_law 3542 = .ok (.invokestatic 345, 3) := dec_w [0xb8, 0x01, 0x59] (pc9 (k := 3520) (j := 22) lwD_55 rfl) (by decide +kernel) rfl
theorem dL_law_3545 : decode cL_law 3545 = .ok (.istore 6, 2) := dec_w [0x36, 0x06] (pc9 (k := 3520) (j := 25) lwD_55 rfl) (by decide +kernel) rfl
theorem dL_law_3547 : decode cL_law 3547 = .ok (.aload_n 2, 1) := dec_w [0x2c] (pc9 (k := 3520) (j := 27) lwD_55 rfl) (by decide +kernel) rfl
theorem dL_law_3548 : decode cL_law 3548 = .ok (.aload_n 0, 1) := dec_w [0x2a] (pc9 (k := 3520) (j := 28) lwD_55 rfl) (by decide +kernel) rfl
theorem dL_law_3549 : decode cL_law 3549 = .ok (.iload 5, 2) := dec_w [0x15, 0x05] (pc9 (k := 3520) (j := 29) lwD_55 rfl) (by decide +kernel) rfl
theorem dL_law_3551 : decode cL_law 3551 = .ok (.iconst 1, 1) := dec_w [0x04] (pc9 (k := 3520) (j := 31) lwD_55 rfl) (by decide +kernel) rfl
theorem dL_law_3552 : decode cL_law 3552 = .ok (.iadd, 1) := dec_w [0x60] (pc9 (k := 3520) (j := 32) lwD_55 rfl) (by decide +kernel) rfl
theorem dL_law_3553 : decode cL_law 3553 = .ok (.iaload, 1) := dec_w [0x2e] (pc9 (k := 3520) (j := 33) lwD_55 rfl) (by decide +kernel) rfl
theorem dL_law_3554 : decode cL_law 3554 = .ok (.aload_n 0, 1) := dec_w [0x2a] (pc9 (k := 3520) (j := 34) lwD_55 rfl) (by decide +kernel) rfl
theorem dL_law_3555 : decode cL_law 3555 = .ok (.iload 5, 2) := dec_w [0x15, 0x05] (pc9 (k := 3520) (j := 35) lwD_55 rfl) (by decide +kernel) rfl
theorem dL_law_3557 : decode cL_law 3557 = .ok (.iconst 2, 1) := dec_w [0x05] (pc9 (k := 3520) (j := 37) lwD_55 rfl) (by decide +kernel) rfl
theorem dL_law_3558 : decode cL_law 3558 = .ok (.iadd, 1) := dec_w [0x60] (pc9 (k := 3520) (j := 38) lwD_55 rfl) (by decide +kernel) rfl
theorem dL_law_3559 : decode cL_law 3559 = .ok (.iaload, 1) := dec_w [0x2e] (pc9 (k := 3520) (j := 39) lwD_55 rfl) (by decide +kernel) rfl
theorem dL_law_3560 : decode cL_law 3560 = .ok (.invokevirtual 347, 3) := dec_w [0xb6, 0x01, 0x5b] (pc9 (k := 3520) (j := 40) lwD_55 rfl) (by decide +kernel) rfl
theorem dL_law_3563 : decode cL_law 3563 = .ok (.istore 7, 2) := dec_w [0x36, 0x07] (pc9 (k := 3520) (j := 43) lwD_55 rfl) (by decide +kernel) rfl
theorem dL_law_3565 : decode cL_law 3565 = .ok (.aload_n 2, 1) := dec_w [0x2c] (pc9 (k := 3520) (j := 45) lwD_55 rfl) (by decide +kernel) rfl
theorem dL_law_3566 : decode cL_law 3566 = .ok (.invokevirtual 212, 3) := dec_w [0xb6, 0x00, 0xd4] (pc9 (k := 3520) (j := 46) lwD_55 rfl) (by decide +kernel) rfl
theorem dL_law_3569 : decode cL_law 3569 = .ok (.iload 6, 2) := dec_w [0x15, 0x06] (pc9 (k := 3520) (j := 49) lwD_55 rfl) (by decide +kernel) rfl
theorem dL_law_3571 : decode cL_law 3571 = .ok (.if_icmp .eq 5, 3) := dec_w [0x9f, 0x00, 0x05] (pc9 (k := 3520) (j := 51) lwD_55 rfl) (by decide +kernel) rfl
theorem dL_law_3574 : decode cL_law 3574 = .ok (.iconst 0, 1) := dec_w [0x03] (pc9 (k := 3520) (j := 54) lwD_55 rfl) (by decide +kernel) rfl
theorem dL_law_3575 : decode cL_law 3575 = .ok (.ireturn, 1) := dec_w [0xac] (pc9 (k := 3520) (j := 55) lwD_55 rfl) (by decide +kernel) rfl
theorem dL_law_3576 : decode cL_law 3576 = .ok (.iload 6, 2) := dec_w [0x15, 0x06] (pc9 (k := 3520) (j := 56) lwD_55 rfl) (by decide +kernel) rfl
theorem dL_law_3578 : decode cL_law 3578 = .ok (.ifCond .ne 15, 3) := dec_w [0x9a, 0x00, 0x0f] (pc9 (k := 3520) (j := 58) lwD_55 rfl) (by decide +kernel) rfl
theorem dL_law_3581 : decode cL_law 3581 = .ok (.aload_n 3, 1) := dec_w [0x2d] (pc9 (k := 3520) (j := 61) lwD_55 rfl) (by decide +kernel) rfl
theorem dL_law_3582 : decode cL_law 3582 = .ok (.iconst 0, 1) := dec_w [0x03] (pc9 (k := 3520) (j := 62) lwD_55 rfl) (by decide +kernel) rfl
theorem dL_law_3583 : decode cL_law 3583 = .ok (.laload, 1) := dec_w [0x2f] (pc9 (k := 3520) (j := 63) lwD_55 rfl) (by decide +kernel) rfl
theorem dL_law_3584 : decode cL_law 3584 = .ok (.iload 7, 2) := dec_w [0x15, 0x07] (pc9 (k := 3584) (j := 0) lwD_56 rfl) (by decide +kernel) rfl
theorem dL_law_3586 : decode cL_law 3586 = .ok (.i2l, 1) := dec_w [0x85] (pc9 (k := 3584) (j := 2) lwD_56 rfl) (by decide +kernel) rfl
theorem dL_law_3587 : decode cL_law 3587 = .ok (.lcmp, 1) := dec_w [0x94] (pc9 (k := 3584) (j := 3) lwD_56 rfl) (by decide +kernel) rfl
theorem dL_law_3588 : decode cL_law 3588 = .ok (.ifCond .eq 5, 3) := dec_w [0x99, 0x00, 0x05] (pc9 (k := 3584) (j := 4) lwD_56 rfl) (by decide +kernel) rfl
theorem dL_law_3591 : decode cL_law 3591 = .ok (.iconst 0, 1) := dec_w [0x03] (pc9 (k := 3584) (j := 7) lwD_56 rfl) (by decide +kernel) rfl
theorem dL_law_3592 : decode cL_law 3592 = .ok (.ireturn, 1) := dec_w [0xac] (pc9 (k := 3584) (j := 8) lwD_56 rfl) (by decide +kernel) rfl
theorem dL_law_3593 : decode cL_law 3593 = .ok (.goto 633, 3) := dec_w [0xa7, 0x02, 0x79] (pc9 (k := 3584) (j := 9) lwD_56 rfl) (by decide +kernel) rfl
theorem dL_law_3596 : decode cL_law 3596 = .ok (.aload_n 1, 1) := dec_w [0x2b] (pc9 (k := 3584) (j := 12) lwD_56 rfl) (by decide +kernel) rfl
theorem dL_law_3597 : decode cL_law 3597 = .ok (.aload_n 0, 1) := dec_w [0x2a] (pc9 (k := 3584) (j := 13) lwD_56 rfl) (by decide +kernel) rfl
theorem dL_law_3598 : decode cL_law 3598 = .ok (.iload 5, 2) := dec_w [0x15, 0x05] (pc9 (k := 3584) (j := 14) lwD_56 rfl) (by decide +kernel) rfl
theorem dL_law_3600 : decode cL_law 3600 = .ok (.iconst 1, 1) := dec_w [0x04] (pc9 (k := 3584) (j := 16) lwD_56 rfl) (by decide +kernel) rfl
theorem dL_law_3601 : decode cL_law 3601 = .ok (.iadd, 1) := dec_w [0x60] (pc9 (k := 3584) (j := 17) lwD_56 rfl) (by decide +kernel) rfl
theorem dL_law_3602 : decode cL_law 3602 = .ok (.iaload, 1) := dec_w [0x2e] (pc9 (k := 3584) (j := 18) lwD_56 rfl) (by decide +kernel) rfl
theorem dL_law_3603 : decode cL_law 3603 = .ok (.aload_n 0, 1) := dec_w [0x2a] (pc9 (k := 3584) (j := 19) lwD_56 rfl) (by decide +kernel) rfl
theorem dL_law_3604 : decode cL_law 3604 = .ok (.iload 5, 2) := dec_w [0x15, 0x05] (pc9 (k := 3584) (j := 20) lwD_56 rfl) (by decide +kernel) rfl
theorem dL_law_3606 : decode cL_law 3606 = .ok (.iconst 2, 1) := dec_w [0x05] (pc9 (k := 3584) (j := 22) lwD_56 rfl) (by decide +kernel) rfl
theorem dL_law_3607 : decode cL_law 3607 = .ok (.iadd, 1) := dec_w [0x60] (pc9 (k := 3584) (j := 23) lwD_56 rfl) (by decide +kernel) rfl
theorem dL_law_3608 : decode cL_law 3608 = .ok (.iaload, 1) := dec_w [0x2e] (pc9 (k := 3584) (j := 24) lwD_56 rfl) (by decide +kernel) rfl
theorem dL_law_3609 : decode cL_law 3609 = .ok (.aload_n 3, 1) := dec_w [0x2d] (pc9 (k := 3584) (j := 25) lwD_56 rfl) (by decide +kernel) rfl
theorem dL_law_3610 : decode cL_law 3610 = .ok (.invokestatic 348, 3) := dec_w [0xb8, 0x01, 0x5c] (pc9 (k := 3584) (j := 26) lwD_56 rfl) (by decide +kernel) rfl
theorem dL_law_3613 : decode cL_law 3613 = .ok (.istore 6, 2) := dec_w [0x36, 0x06] (pc9 (k := 3584) (j := 29) lwD_56 rfl) (by decide +kernel) rfl
theorem dL_law_3615 : decode cL_law 3615 = .ok (.aload_n 2, 1) := dec_w [0x2c] (pc9 (k := 3584) (j := 31) lwD_56 rfl) (by decide +kernel) rfl
theorem dL_law_3616 : decode cL_law 3616 = .ok (.aload_n 0, 1) := dec_w [0x2a] (pc9 (k := 3584) (j := 32) lwD_56 rfl) (by decide +kernel) rfl
theorem dL_law_3617 : decode cL_law 3617 = .ok (.iload 5, 2) := dec_w [0x15, 0x05] (pc9 (k := 3584) (j := 33) lwD_56 rfl) (by decide +kernel) rfl
theorem dL_law_3619 : decode cL_law 3619 = .ok (.iconst 1, 1) := dec_w [0x04] (pc9 (k := 3584) (j := 35) lwD_56 rfl) (by decide +kernel) rfl
theorem dL_law_3620 : decode cL_law 3620 = .ok (.iadd, 1) := dec_w [0x60] (pc9 (k := 3584) (j := 36) lwD_56 rfl) (by decide +kernel) rfl
theorem dL_law_3621 : decode cL_law 3621 = .ok (.iaload, 1) := dec_w [0x2e] (pc9 (k := 3584) (j := 37) lwD_56 rfl) (by decide +kernel) rfl
theorem dL_law_3622 : decode cL_law 3622 = .ok (.aload_n 0, 1) := dec_w [0x2a] (pc9 (k := 3584) (j := 38) lwD_56 rfl) (by decide +kernel) rfl
theorem dL_law_3623 : decode cL_law 3623 = .ok (.iload 5, 2) := dec_w [0x15, 0x05] (pc9 (k := 3584) (j := 39) lwD_56 rfl) (by decide +kernel) rfl
theorem dL_law_3625 : decode cL_law 3625 = .ok (.iconst 2, 1) := dec_w [0x05] (pc9 (k := 3584) (j := 41) lwD_56 rfl) (by decide +kernel) rfl
theorem dL_law_3626 : decode cL_law 3626 = .ok (.iadd, 1) := dec_w [0x60] (pc9 (k := 3584) (j := 42) lwD_56 rfl) (by decide +kernel) rfl
theorem dL_law_3627 : decode cL_law 3627 = .ok (.iaload, 1) := dec_w [0x2e] (pc9 (k := 3584) (j := 43) lwD_56 rfl) (by decide +kernel) rfl
theorem dL_law_3628 : decode cL_law 3628 = .ok (.invokevirtual 350, 3) := dec_w [0xb6, 0x01, 0x5e] (pc9 (k := 3584) (j := 44) lwD_56 rfl) (by decide +kernel) rfl
theorem dL_law_3631 : decode cL_law 3631 = .ok (.istore 7, 2) := dec_w [0x36, 0x07] (pc9 (k := 3584) (j := 47) lwD_56 rfl) (by decide +kernel) rfl
theorem dL_law_3633 : decode cL_law 3633 = .ok (.aload_n 2, 1) := dec_w [0x2c] (pc9 (k := 3584) (j := 49) lwD_56 rfl) (by decide +kernel) rfl
theorem dL_law_3634 : decode cL_law 3634 = .ok (.invokevirtual 212, 3) := dec_w [0xb6, 0x00, 0xd4] (pc9 (k := 3584) (j := 50) lwD_56 rfl) (by decide +kernel) rfl
theorem dL_law_3637 : decode cL_law 3637 = .ok (.iload 6, 2) := dec_w [0x15, 0x06] (pc9 (k := 3584) (j := 53) lwD_56 rfl) (by decide +kernel) rfl
theorem dL_law_3639 : decode cL_law 3639 = .ok (.if_icmp .eq 5, 3) := dec_w [0x9f, 0x00, 0x05] (pc9 (k := 3584) (j := 55) lwD_56 rfl) (by decide +kernel) rfl
theorem dL_law_3642 : decode cL_law 3642 = .ok (.iconst 0, 1) := dec_w [0x03] (pc9 (k := 3584) (j := 58) lwD_56 rfl) (by decide +kernel) rfl
theorem dL_law_3643 : decode cL_law 3643 = .ok (.ireturn, 1) := dec_w [0xac] (pc9 (k := 3584) (j := 59) lwD_56 rfl) (by decide +kernel) rfl
theorem dL_law_3644 : decode cL_law 3644 = .ok (.iload 6, 2) := dec_w [0x15, 0x06] (pc9 (k := 3584) (j := 60) lwD_56 rfl) (by decide +kernel) rfl
theorem dL_law_3646 : decode cL_law 3646 = .ok (.ifCond .ne 15, 3) := dec_w [0x9a, 0x00, 0x0f] (pc9 (k := 3584) (j := 62) lwD_56 rfl) (by decide +kernel) rfl
theorem dL_law_3649 : decode cL_law 3649 = .ok (.aload_n 3, 1) := dec_w [0x2d] (pc9 (k := 3648) (j := 1) lwD_57 rfl) (by decide +kernel) rfl
theorem dL_law_3650 : decode cL_law 3650 = .ok (.iconst 0, 1) := dec_w [0x03] (pc9 (k := 3648) (j := 2) lwD_57 rfl) (by decide +kernel) rfl
theorem dL_law_3651 : decode cL_law 3651 = .ok (.laload, 1) := dec_w [0x2f] (pc9 (k := 3648) (j := 3) lwD_57 rfl) (by decide +kernel) rfl
theorem dL_law_3652 : decode cL_law 3652 = .ok (.iload 7, 2) := dec_w [0x15, 0x07] (pc9 (k := 3648) (j := 4) lwD_57 rfl) (by decide +kernel) rfl
theorem dL_law_3654 : decode cL_law 3654 = .ok (.i2l, 1) := dec_w [0x85] (pc9 (k := 3648) (j := 6) lwD_57 rfl) (by decide +kernel) rfl
theorem dL_law_3655 : decode cL_law 3655 = .ok (.lcmp, 1) := dec_w [0x94] (pc9 (k := 3648) (j := 7) lwD_57 rfl) (by decide +kernel) rfl
theorem dL_law_3656 : decode cL_law 3656 = .ok (.ifCond .eq 5, 3) := dec_w [0x99, 0x00, 0x05] (pc9 (k := 3648) (j := 8) lwD_57 rfl) (by decide +kernel) rfl
theorem dL_law_3659 : decode cL_law 3659 = .ok (.iconst 0, 1) := dec_w [0x03] (pc9 (k := 3648) (j := 11) lwD_57 rfl) (by decide +kernel) rfl
theorem dL_law_3660 : decode cL_law 3660 = .ok (.ireturn, 1) := dec_w [0xac] (pc9 (k := 3648) (j := 12) lwD_57 rfl) (by decide +kernel) rfl
theorem dL_law_3661 : decode cL_law 3661 = .ok (.goto 565, 3) := dec_w [0xa7, 0x02, 0x35] (pc9 (k := 3648) (j := 13) lwD_57 rfl) (by decide +kernel) rfl
theorem dL_law_3664 : decode cL_law 3664 = .ok (.aload_n 1, 1) := dec_w [0x2b] (pc9 (k := 3648) (j := 16) lwD_57 rfl) (by decide +kernel) rfl
theorem dL_law_3665 : decode cL_law 3665 = .ok (.aload_n 0, 1) := dec_w [0x2a] (pc9 (k := 3648) (j := 17) lwD_57 rfl) (by decide +kernel) rfl
theorem dL_law_3666 : decode cL_law 3666 = .ok (.iload 5, 2) := dec_w [0x15, 0x05] (pc9 (k := 3648) (j := 18) lwD_57 rfl) (by decide +kernel) rfl
theorem dL_law_3668 : decode cL_law 3668 = .ok (.iconst 1, 1) := dec_w [0x04] (pc9 (k := 3648) (j := 20) lwD_57 rfl) (by decide +kernel) rfl
theorem dL_law_3669 : decode cL_law 3669 = .ok (.iadd, 1) := dec_w [0x60] (pc9 (k := 3648) (j := 21) lwD_57 rfl) (by decide +kernel) rfl
theorem dL_law_3670 : decode cL_law 3670 = .ok (.iaload, 1) := dec_w [0x2e] (pc9 (k := 3648) (j := 22) lwD_57 rfl) (by decide +kernel) rfl
theorem dL_law_3671 : decode cL_law 3671 = .ok (.aload_n 0, 1) := dec_w [0x2a] (pc9 (k := 3648) (j := 23) lwD_57 rfl) (by decide +kernel) rfl
theorem dL_law_3672 : decode cL_law 3672 = .ok (.iload 5, 2) := dec_w [0x15, 0x05] (pc9 (k := 3648) (j := 24) lwD_57 rfl) (by decide +kernel) rfl
theorem dL_law_3674 : decode cL_law 3674 = .ok (.iconst 2, 1) := dec_w [0x05] (pc9 (k := 3648) (j := 26) lwD_57 rfl) (by decide +kernel) rfl
theorem dL_law_3675 : decode cL_law 3675 = .ok (.iadd, 1) := dec_w [0x60] (pc9 (k := 3648) (j := 27) lwD_57 rfl) (by decide +kernel) rfl
theorem dL_law_3676 : decode cL_law 3676 = .ok (.iaload, 1) := dec_w [0x2e] (pc9 (k := 3648) (j := 28) lwD_57 rfl) (by decide +kernel) rfl
theorem dL_law_3677 : decode cL_law 3677 = .ok (.aload_n 0, 1) := dec_w [0x2a] (pc9 (k := 3648) (j := 29) lwD_57 rfl) (by decide +kernel) rfl
theorem dL_law_3678 : decode cL_law 3678 = .ok (.iload 5, 2) := dec_w [0x15, 0x05] (pc9 (k := 3648) (j := 30) lwD_57 rfl) (by decide +kernel) rfl
theorem dL_law_3680 : decode cL_law 3680 = .ok (.iconst 3, 1) := dec_w [0x06] (pc9 (k := 3648) (j := 32) lwD_57 rfl) (by decide +kernel) rfl
theorem dL_law_3681 : decode cL_law 3681 = .ok (.iadd, 1) := dec_w [0x60] (pc9 (k := 3648) (j := 33) lwD_57 rfl) (by decide +kernel) rfl
theorem dL_law_3682 : decode cL_law 3682 = .ok (.iaload, 1) := dec_w [0x2e] (pc9 (k := 3648) (j := 34) lwD_57 rfl) (by decide +kernel) rfl
theorem dL_law_3683 : decode cL_law 3683 = .ok (.aload_n 3, 1) := dec_w [0x2d] (pc9 (k := 3648) (j := 35) lwD_57 rfl) (by decide +kernel) rfl
theorem dL_law_3684 : decode cL_law 3684 = .ok (.invokestatic 351, 3) := dec_w [0xb8, 0x01, 0x5f] (pc9 (k := 3648) (j := 36) lwD_57 rfl) (by decide +kernel) rfl
theorem dL_law_3687 : decode cL_law 3687 = .ok (.istore 6, 2) := dec_w [0x36, 0x06] (pc9 (k := 3648) (j := 39) lwD_57 rfl) (by decide +kernel) rfl
theorem dL_law_3689 : decode cL_law 3689 = .ok (.aload_n 2, 1) := dec_w [0x2c] (pc9 (k := 3648) (j := 41) lwD_57 rfl) (by decide +kernel) rfl
theorem dL_law_3690 : decode cL_law 3690 = .ok (.aload_n 0, 1) := dec_w [0x2a] (pc9 (k := 3648) (j := 42) lwD_57 rfl) (by decide +kernel) rfl
theorem dL_law_3691 : decode cL_law 3691 = .ok (.iload 5, 2) := dec_w [0x15, 0x05] (pc9 (k := 3648) (j := 43) lwD_57 rfl) (by decide +kernel) rfl
theorem dL_law_3693 : decode cL_law 3693 = .ok (.iconst 1, 1) := dec_w [0x04] (pc9 (k := 3648) (j := 45) lwD_57 rfl) (by decide +kernel) rfl
theorem dL_law_3694 : decode cL_law 3694 = .ok (.iadd, 1) := dec_w [0x60] (pc9 (k := 3648) (j := 46) lwD_57 rfl) (by decide +kernel) rfl
theorem dL_law_3695 : decode cL_law 3695 = .ok (.iaload, 1) := dec_w [0x2e] (pc9 (k := 3648) (j := 47) lwD_57 rfl) (by decide +kernel) rfl
theorem dL_law_3696 : decode cL_law 3696 = .ok (.aload_n 0, 1) := dec_w [0x2a] (pc9 (k := 3648) (j := 48) lwD_57 rfl) (by decide +kernel) rfl
theorem dL_law_3697 : decode cL_law 3697 = .ok (.iload 5, 2) := dec_w [0x15, 0x05] (pc9 (k := 3648) (j := 49) lwD_57 rfl) (by decide +kernel) rfl
theorem dL_law_3699 : decode cL_law 3699 = .ok (.iconst 2, 1) := dec_w [0x05] (pc9 (k := 3648) (j := 51) lwD_57 rfl) (by decide +kernel) rfl
theorem dL_law_3700 : decode cL_law 3700 = .ok (.iadd, 1) := dec_w [0x60] (pc9 (k := 3648) (j := 52) lwD_57 rfl) (by decide +kernel) rfl
theorem dL_law_3701 : decode cL_law 3701 = .ok (.iaload, 1) := dec_w [0x2e] (pc9 (k := 3648) (j := 53) lwD_57 rfl) (by decide +kernel) rfl
theorem dL_law_3702 : decode cL_law 3702 = .ok (.aload_n 0, 1) := dec_w [0x2a] (pc9 (k := 3648) (j := 54) lwD_57 rfl) (by decide +kernel) rfl
theorem dL_law_3703 : decode cL_law 3703 = .ok (.iload 5, 2) := dec_w [0x15, 0x05] (pc9 (k := 3648) (j := 55) lwD_57 rfl) (by decide +kernel) rfl
theorem dL_law_3705 : decode cL_law 3705 = .ok (.iconst 3, 1) := dec_w [0x06] (pc9 (k := 3648) (j := 57) lwD_57 rfl) (by decide +kernel) rfl
theorem dL_law_3706 : decode cL_law 3706 = .ok (.iadd, 1) := dec_w [0x60] (pc9 (k := 3648) (j := 58) lwD_57 rfl) (by decide +kernel) rfl
theorem dL_law_3707 : decode cL_law 3707 = .ok (.iaload, 1) := dec_w [0x2e] (pc9 (k := 3648) (j := 59) lwD_57 rfl) (by decide +kernel) rfl
theorem dL_law_3708 : decode cL_law 3708 = .ok (.invokevirtual 353, 3) := dec_w [0xb6, 0x01, 0x61] (pc9 (k := 3648) (j := 60) lwD_57 rfl) (by decide +kernel) rfl
theorem dL_law_3711 : decode cL_law 3711 = .ok (.istore 7, 2) := dec_w [0x36, 0x07] (pc9 (k := 3648) (j := 63) lwD_57 rfl) (by decide +kernel) rfl
theorem dL_law_3713 : decode cL_law 3713 = .ok (.aload_n 2, 1) := dec_w [0x2c] (pc9 (k := 3712) (j := 1) lwD_58 rfl) (by decide +kernel) rfl
theorem dL_law_3714 : decode cL_law 3714 = .ok (.invokevirtual 212, 3) := dec_w [0xb6, 0x00, 0xd4] (pc9 (k := 3712) (j := 2) lwD_58 rfl) (by decide +kernel) rfl
theorem dL_law_3717 : decode cL_law 3717 = .ok (.iload 6, 2) := dec_w [0x15, 0x06] (pc9 (k := 3712) (j := 5) lwD_58 rfl) (by decide +kernel) rfl
theorem dL_law_3719 : decode cL_law 3719 = .ok (.if_icmp .eq 5, 3) := dec_w [0x9f, 0x00, 0x05] (pc9 (k := 3712) (j := 7) lwD_58 rfl) (by decide +kernel) rfl
theorem dL_law_3722 : decode cL_law 3722 = .ok (.iconst 0, 1) := dec_w [0x03] (pc9 (k := 3712) (j := 10) lwD_58 rfl) (by decide +kernel) rfl
theorem dL_law_3723 : decode cL_law 3723 = .ok (.ireturn, 1) := dec_w [0xac] (pc9 (k := 3712) (j := 11) lwD_58 rfl) (by decide +kernel) rfl
theorem dL_law_3724 : decode cL_law 3724 = .ok (.iload 6, 2) := dec_w [0x15, 0x06] (pc9 (k := 3712) (j := 12) lwD_58 rfl) (by decide +kernel) rfl
theorem dL_law_3726 : decode cL_law 3726 = .ok (.ifCond .ne 15, 3) := dec_w [0x9a, 0x00, 0x0f] (pc9 (k := 3712) (j := 14) lwD_58 rfl) (by decide +kernel) rfl
theorem dL_law_3729 : decode cL_law 3729 = .ok (.aload_n 3, 1) := dec_w [0x2d] (pc9 (k := 3712) (j := 17) lwD_58 rfl) (by decide +kernel) rfl
theorem dL_law_3730 : decode cL_law 3730 = .ok (.iconst 0, 1) := dec_w [0x03] (pc9 (k := 3712) (j := 18) lwD_58 rfl) (by decide +kernel) rfl
theorem dL_law_3731 : decode cL_law 3731 = .ok (.laload, 1) := dec_w [0x2f] (pc9 (k := 3712) (j := 19) lwD_58 rfl) (by decide +kernel) rfl
theorem dL_law_3732 : decode cL_law 3732 = .ok (.iload 7, 2) := dec_w [0x15, 0x07] (pc9 (k := 3712) (j := 20) lwD_58 rfl) (by decide +kernel) rfl
theorem dL_law_3734 : decode cL_law 3734 = .ok (.i2l, 1) := dec_w [0x85] (pc9 (k := 3712) (j := 22) lwD_58 rfl) (by decide +kernel) rfl
theorem dL_law_3735 : decode cL_law 3735 = .ok (.lcmp, 1) := dec_w [0x94] (pc9 (k := 3712) (j := 23) lwD_58 rfl) (by decide +kernel) rfl
theorem dL_law_3736 : decode cL_law 3736 = .ok (.ifCond .eq 5, 3) := dec_w [0x99, 0x00, 0x05] (pc9 (k := 3712) (j := 24) lwD_58 rfl) (by decide +kernel) rfl
theorem dL_law_3739 : decode cL_law 3739 = .ok (.iconst 0, 1) := dec_w [0x03] (pc9 (k := 3712) (j := 27) lwD_58 rfl) (by decide +kernel) rfl
theorem dL_law_3740 : decode cL_law 3740 = .ok (.ireturn, 1) := dec_w [0xac] (pc9 (k := 3712) (j := 28) lwD_58 rfl) (by decide +kernel) rfl
theorem dL_law_3741 : decode cL_law 3741 = .ok (.goto 485, 3) := dec_w [0xa7, 0x01, 0xe5] (pc9 (k := 3712) (j := 29) lwD_58 rfl) (by decide +kernel) rfl
theorem dL_law_3744 : decode cL_law 3744 = .ok (.aload_n 1, 1) := dec_w [0x2b] (pc9 (k := 3712) (j := 32) lwD_58 rfl) (by decide +kernel) rfl
theorem dL_law_3745 : decode cL_law 3745 = .ok (.aload_n 0, 1) := dec_w [0x2a] (pc9 (k := 3712) (j := 33) lwD_58 rfl) (by decide +kernel) rfl
theorem dL_law_3746 : decode cL_law 3746 = .ok (.iload 5, 2) := dec_w [0x15, 0x05] (pc9 (k := 3712) (j := 34) lwD_58 rfl) (by decide +kernel) rfl
theorem dL_law_3748 : decode cL_law 3748 = .ok (.iconst 1, 1) := dec_w [0x04] (pc9 (k := 3712) (j := 36) lwD_58 rfl) (by decide +kernel) rfl
theorem dL_law_3749 : decode cL_law 3749 = .ok (.iadd, 1) := dec_w [0x60] (pc9 (k := 3712) (j := 37) lwD_58 rfl) (by decide +kernel) rfl
theorem dL_law_3750 : decode cL_law 3750 = .ok (.iaload, 1) := dec_w [0x2e] (pc9 (k := 3712) (j := 38) lwD_58 rfl) (by decide +kernel) rfl
theorem dL_law_3751 : decode cL_law 3751 = .ok (.aload_n 0, 1) := dec_w [0x2a] (pc9 (k := 3712) (j := 39) lwD_58 rfl) (by decide +kernel) rfl
theorem dL_law_3752 : decode cL_law 3752 = .ok (.iload 5, 2) := dec_w [0x15, 0x05] (pc9 (k := 3712) (j := 40) lwD_58 rfl) (by decide +kernel) rfl
theorem dL_law_3754 : decode cL_law 3754 = .ok (.iconst 2, 1) := dec_w [0x05] (pc9 (k := 3712) (j := 42) lwD_58 rfl) (by decide +kernel) rfl
theorem dL_law_3755 : decode cL_law 3755 = .ok (.iadd, 1) := dec_w [0x60] (pc9 (k := 3712) (j := 43) lwD_58 rfl) (by decide +kernel) rfl
theorem dL_law_3756 : decode cL_law 3756 = .ok (.iaload, 1) := dec_w [0x2e] (pc9 (k := 3712) (j := 44) lwD_58 rfl) (by decide +kernel) rfl
theorem dL_law_3757 : decode cL_law 3757 = .ok (.ifCond .eq 7, 3) := dec_w [0x99, 0x00, 0x07] (pc9 (k := 3712) (j := 45) lwD_58 rfl) (by decide +kernel) rfl
theorem dL_law_3760 : decode cL_law 3760 = .ok (.iconst 1, 1) := dec_w [0x04] (pc9 (k := 3712) (j := 48) lwD_58 rfl) (by decide +kernel) rfl
theorem dL_law_3761 : decode cL_law 3761 = .ok (.goto 4, 3) := dec_w [0xa7, 0x00, 0x04] (pc9 (k := 3712) (j := 49) lwD_58 rfl) (by decide +kernel) rfl
theorem dL_law_3764 : decode cL_law 3764 = .ok (.iconst 0, 1) := dec_w [0x03] (pc9 (k := 3712) (j := 52) lwD_58 rfl) (by decide +kernel) rfl
theorem dL_law_3765 : decode cL_law 3765 = .ok (.aload_n 3, 1) := dec_w [0x2d] (pc9 (k := 3712) (j := 53) lwD_58 rfl) (by decide +kernel) rfl
theorem dL_law_3766 : decode cL_law 3766 = .ok (.invokestatic 354, 3) := dec_w [0xb8, 0x01, 0x62] (pc9 (k := 3712) (j := 54) lwD_58 rfl) (by decide +kernel) rfl
theorem dL_law_3769 : decode cL_law 3769 = .ok (.istore 6, 2) := dec_w [0x36, 0x06] (pc9 (k := 3712) (j := 57) lwD_58 rfl) (by decide +kernel) rfl
theorem dL_law_3771 : decode cL_law 3771 = .ok (.aload_n 2, 1) := dec_w [0x2c] (pc9 (k := 3712) (j := 59) lwD_58 rfl) (by decide +kernel) rfl
theorem dL_law_3772 : decode cL_law 3772 = .ok (.aload_n 0, 1) := dec_w [0x2a] (pc9 (k := 3712) (j := 60) lwD_58 rfl) (by decide +kernel) rfl
theorem dL_law_3773 : decode cL_law 3773 = .ok (.iload 5, 2) := dec_w [0x15, 0x05] (pc9 (k := 3712) (j := 61) lwD_58 rfl) (by decide +kernel) rfl
theorem dL_law_3775 : decode cL_law 3775 = .ok (.iconst 1, 1) := dec_w [0x04] (pc9 (k := 3712) (j := 63) lwD_58 rfl) (by decide +kernel) rfl
theorem dL_law_3776 : decode cL_law 3776 = .ok (.iadd, 1) := dec_w [0x60] (pc9 (k := 3776) (j := 0) lwD_59 rfl) (by decide +kernel) rfl
theorem dL_law_3777 : decode cL_law 3777 = .ok (.iaload, 1) := dec_w [0x2e] (pc9 (k := 3776) (j := 1) lwD_59 rfl) (by decide +kernel) rfl
theorem dL_law_3778 : decode cL_law 3778 = .ok (.aload_n 0, 1) := dec_w [0x2a] (pc9 (k := 3776) (j := 2) lwD_59 rfl) (by decide +kernel) rfl
theorem dL_law_3779 : decode cL_law 3779 = .ok (.iload 5, 2) := dec_w [0x15, 0x05] (pc9 (k := 3776) (j := 3) lwD_59 rfl) (by decide +kernel) rfl
theorem dL_law_3781 : decode cL_law 3781 = .ok (.iconst 2, 1) := dec_w [0x05] (pc9 (k := 3776) (j := 5) lwD_59 rfl) (by decide +kernel) rfl
theorem dL_law_3782 : decode cL_law 3782 = .ok (.iadd, 1) := dec_w [0x60] (pc9 (k := 3776) (j := 6) lwD_59 rfl) (by decide +kernel) rfl
theorem dL_law_3783 : decode cL_law 3783 = .ok (.iaload, 1) := dec_w [0x2e] (pc9 (k := 3776) (j := 7) lwD_59 rfl) (by decide +kernel) rfl
theorem dL_law_3784 : decode cL_law 3784 = .ok (.ifCond .eq 7, 3) := dec_w [0x99, 0x00, 0x07] (pc9 (k := 3776) (j := 8) lwD_59 rfl) (by decide +kernel) rfl
theorem dL_law_3787 : decode cL_law 3787 = .ok (.iconst 1, 1) := dec_w [0x04] (pc9 (k := 3776) (j := 11) lwD_59 rfl) (by decide +kernel) rfl
theorem dL_law_3788 : decode cL_law 3788 = .ok (.goto 4, 3) := dec_w [0xa7, 0x00, 0x04] (pc9 (k := 3776) (j := 12) lwD_59 rfl) (by decide +kernel) rfl
theorem dL_law_3791 : decode cL_law 3791 = .ok (.iconst 0, 1) := dec_w [0x03] (pc9 (k := 3776) (j := 15) lwD_59 rfl) (by decide +kernel) rfl
theorem dL_law_3792 : decode cL_law 3792 = .ok (.invokevirtual 357, 3) := dec_w [0xb6, 0x01, 0x65] (pc9 (k := 3776) (j := 16) lwD_59 rfl) (by decide +kernel) rfl
theorem dL_law_3795 : decode cL_law 3795 = .ok (.istore 7, 2) := dec_w [0x36, 0x07] (pc9 (k := 3776) (j := 19) lwD_59 rfl) (by decide +kernel) rfl
theorem dL_law_3797 : decode cL_law 3797 = .ok (.aload_n 2, 1) := dec_w [0x2c] (pc9 (k := 3776) (j := 21) lwD_59 rfl) (by decide +kernel) rfl
theorem dL_law_3798 : decode cL_law 3798 = .ok (.invokevirtual 212, 3) := dec_w [0xb6, 0x00, 0xd4] (pc9 (k := 3776) (j := 22) lwD_59 rfl) (by decide +kernel) rfl
theorem dL_law_3801 : decode cL_law 3801 = .ok (.iload 6, 2) := dec_w [0x15, 0x06] (pc9 (k := 3776) (j := 25) lwD_59 rfl) (by decide +kernel) rfl
theorem dL_law_3803 : decode cL_law 3803 = .ok (.if_icmp .eq 5, 3) := dec_w [0x9f, 0x00, 0x05] (pc9 (k := 3776) (j := 27) lwD_59 rfl) (by decide +kernel) rfl
theorem dL_law_3806 : decode cL_law 3806 = .ok (.iconst 0, 1) := dec_w [0x03] (pc9 (k := 3776) (j := 30) lwD_59 rfl) (by decide +kernel) rfl
theorem dL_law_3807 : decode cL_law 3807 = .ok (.ireturn, 1) := dec_w [0xac] (pc9 (k := 3776) (j := 31) lwD_59 rfl) (by decide +kernel) rfl
theorem dL_law_3808 : decode cL_law 3808 = .ok (.iload 6, 2) := dec_w [0x15, 0x06] (pc9 (k := 3776) (j := 32) lwD_59 rfl) (by decide +kernel) rfl
theorem dL_law_3810 : decode cL_law 3810 = .ok (.ifCond .ne 15, 3) := dec_w [0x9a, 0x00, 0x0f] (pc9 (k := 3776) (j := 34) lwD_59 rfl) (by decide +kernel) rfl
theorem dL_law_3813 : decode cL_law 3813 = .ok (.aload_n 3, 1) := dec_w [0x2d] (pc9 (k := 3776) (j := 37) lwD_59 rfl) (by decide +kernel) rfl
theorem dL_law_3814 : decode cL_law 3814 = .ok (.iconst 0, 1) := dec_w [0x03] (pc9 (k := 3776) (j := 38) lwD_59 rfl) (by decide +kernel) rfl
theorem dL_law_3815 : decode cL_law 3815 = .ok (.laload, 1) := dec_w [0x2f] (pc9 (k := 3776) (j := 39) lwD_59 rfl) (by decide +kernel) rfl
theorem dL_law_3816 : decode cL_law 3816 = .ok (.iload 7, 2) := dec_w [0x15, 0x07] (pc9 (k := 3776) (j := 40) lwD_59 rfl) (by decide +kernel) rfl
theorem dL_law_3818 : decode cL_law 3818 = .ok (.i2l, 1) := dec_w [0x85] (pc9 (k := 3776) (j := 42) lwD_59 rfl) (by decide +kernel) rfl
theorem dL_law_3819 : decode cL_law 3819 = .ok (.lcmp, 1) := dec_w [0x94] (pc9 (k := 3776) (j := 43) lwD_59 rfl) (by decide +kernel) rfl
theorem dL_law_3820 : decode cL_law 3820 = .ok (.ifCond .eq 5, 3) := dec_w [0x99, 0x00, 0x05] (pc9 (k := 3776) (j := 44) lwD_59 rfl) (by decide +kernel) rfl
theorem dL_law_3823 : decode cL_law 3823 = .ok (.iconst 0, 1) := dec_w [0x03] (pc9 (k := 3776) (j := 47) lwD_59 rfl) (by decide +kernel) rfl
theorem dL_law_3824 : decode cL_law 3824 = .ok (.ireturn, 1) := dec_w [0xac] (pc9 (k := 3776) (j := 48) lwD_59 rfl) (by decide +kernel) rfl
theorem dL_law_3825 : decode cL_law 3825 = .ok (.goto 401, 3) := dec_w [0xa7, 0x01, 0x91] (pc9 (k := 3776) (j := 49) lwD_59 rfl) (by decide +kernel) rfl
theorem dL_law_3828 : decode cL_law 3828 = .ok (.aload_n 1, 1) := dec_w [0x2b] (pc9 (k := 3776) (j := 52) lwD_59 rfl) (by decide +kernel) rfl
theorem dL_law_3829 : decode cL_law 3829 = .ok (.aload_n 0, 1) := dec_w [0x2a] (pc9 (k := 3776) (j := 53) lwD_59 rfl) (by decide +kernel) rfl
theorem dL_law_3830 : decode cL_law 3830 = .ok (.iload 5, 2) := dec_w [0x15, 0x05] (pc9 (k := 3776) (j := 54) lwD_59 rfl) (by decide +kernel) rfl
theorem dL_law_3832 : decode cL_law 3832 = .ok (.iconst 1, 1) := dec_w [0x04] (pc9 (k := 3776) (j := 56) lwD_59 rfl) (by decide +kernel) rfl
theorem dL_law_3833 : decode cL_law 3833 = .ok (.iadd, 1) := dec_w [0x60] (pc9 (k := 3776) (j := 57) lwD_59 rfl) (by decide +kernel) rfl
theorem dL_law_3834 : decode cL_law 3834 = .ok (.iaload, 1) := dec_w [0x2e] (pc9 (k := 3776) (j := 58) lwD_59 rfl) (by decide +kernel) rfl
theorem dL_law_3835 : decode cL_law 3835 = .ok (.aload_n 3, 1) := dec_w [0x2d] (pc9 (k := 3776) (j := 59) lwD_59 rfl) (by decide +kernel) rfl
theorem dL_law_3836 : decode cL_law 3836 = .ok (.invokestatic 358, 3) := dec_w [0xb8, 0x01, 0x66] (pc9 (k := 3776) (j := 60) lwD_59 rfl) (by decide +kernel) rfl
theorem dL_law_3839 : decode cL_law 3839 = .ok (.istore 6, 2) := dec_w [0x36, 0x06] (pc9 (k := 3776) (j := 63) lwD_59 rfl) (by decide +kernel) rfl
theorem dL_law_3841 : decode cL_law 3841 = .ok (.aload_n 2, 1) := dec_w [0x2c] (pc9 (k := 3840) (j := 1) lwD_60 rfl) (by decide +kernel) rfl
theorem dL_law_3842 : decode cL_law 3842 = .ok (.aload_n 0, 1) := dec_w [0x2a] (pc9 (k := 3840) (j := 2) lwD_60 rfl) (by decide +kernel) rfl
theorem dL_law_3843 : decode cL_law 3843 = .ok (.iload 5, 2) := dec_w [0x15, 0x05] (pc9 (k := 3840) (j := 3) lwD_60 rfl) (by decide +kernel) rfl
theorem dL_law_3845 : decode cL_law 3845 = .ok (.iconst 1, 1) := dec_w [0x04] (pc9 (k := 3840) (j := 5) lwD_60 rfl) (by decide +kernel) rfl
theorem dL_law_3846 : decode cL_law 3846 = .ok (.iadd, 1) := dec_w [0x60] (pc9 (k := 3840) (j := 6) lwD_60 rfl) (by decide +kernel) rfl
theorem dL_law_3847 : decode cL_law 3847 = .ok (.iaload, 1) := dec_w [0x2e] (pc9 (k := 3840) (j := 7) lwD_60 rfl) (by decide +kernel) rfl
theorem dL_law_3848 : decode cL_law 3848 = .ok (.invokevirtual 360, 3) := dec_w [0xb6, 0x01, 0x68] (pc9 (k := 3840) (j := 8) lwD_60 rfl) (by decide +kernel) rfl
theorem dL_law_3851 : decode cL_law 3851 = .ok (.istore 7, 2) := dec_w [0x36, 0x07] (pc9 (k := 3840) (j := 11) lwD_60 rfl) (by decide +kernel) rfl
theorem dL_law_3853 : decode cL_law 3853 = .ok (.aload_n 2, 1) := dec_w [0x2c] (pc9 (k := 3840) (j := 13) lwD_60 rfl) (by decide +kernel) rfl
theorem dL_law_3854 : decode cL_law 3854 = .ok (.invokevirtual 212, 3) := dec_w [0xb6, 0x00, 0xd4] (pc9 (k := 3840) (j := 14) lwD_60 rfl) (by decide +kernel) rfl
theorem dL_law_3857 : decode cL_law 3857 = .ok (.iload 6, 2) := dec_w [0x15, 0x06] (pc9 (k := 3840) (j := 17) lwD_60 rfl) (by decide +kernel) rfl
theorem dL_law_3859 : decode cL_law 3859 = .ok (.if_icmp .eq 5, 3) := dec_w [0x9f, 0x00, 0x05] (pc9 (k := 3840) (j := 19) lwD_60 rfl) (by decide +kernel) rfl
theorem dL_law_3862 : decode cL_law 3862 = .ok (.iconst 0, 1) := dec_w [0x03] (pc9 (k := 3840) (j := 22) lwD_60 rfl) (by decide +kernel) rfl
theorem dL_law_3863 : decode cL_law 3863 = .ok (.ireturn, 1) := dec_w [0xac] (pc9 (k := 3840) (j := 23) lwD_60 rfl) (by decide +kernel) rfl
theorem dL_law_3864 : decode cL_law 3864 = .ok (.iload 6, 2) := dec_w [0x15, 0x06] (pc9 (k := 3840) (j := 24) lwD_60 rfl) (by decide +kernel) rfl
theorem dL_law_3866 : decode cL_law 3866 = .ok (.ifCond .ne 15, 3) := dec_w [0x9a, 0x00, 0x0f] (pc9 (k := 3840) (j := 26) lwD_60 rfl) (by decide +kernel) rfl
theorem dL_law_3869 : decode cL_law 3869 = .ok (.aload_n 3, 1) := dec_w [0x2d] (pc9 (k := 3840) (j := 29) lwD_60 rfl) (by decide +kernel) rfl
theorem dL_law_3870 : decode cL_law 3870 = .ok (.iconst 0, 1) := dec_w [0x03] (pc9 (k := 3840) (j := 30) lwD_60 rfl) (by decide +kernel) rfl
theorem dL_law_3871 : decode cL_law 3871 = .ok (.laload, 1) := dec_w [0x2f] (pc9 (k := 3840) (j := 31) lwD_60 rfl) (by decide +kernel) rfl
theorem dL_law_3872 : decode cL_law 3872 = .ok (.iload 7, 2) := dec_w [0x15, 0x07] (pc9 (k := 3840) (j := 32) lwD_60 rfl) (by decide +kernel) rfl
theorem dL_law_3874 : decode cL_law 3874 = .ok (.i2l, 1) := dec_w [0x85] (pc9 (k := 3840) (j := 34) lwD_60 rfl) (by decide +kernel) rfl
theorem dL_law_3875 : decode cL_law 3875 = .ok (.lcmp, 1) := dec_w [0x94] (pc9 (k := 3840) (j := 35) lwD_60 rfl) (by decide +kernel) rfl
theorem dL_law_3876 : decode cL_law 3876 = .ok (.ifCond .eq 5, 3) := dec_w [0x99, 0x00, 0x05] (pc9 (k := 3840) (j := 36) lwD_60 rfl) (by decide +kernel) rfl
theorem dL_law_3879 : decode cL_law 3879 = .ok (.iconst 0, 1) := dec_w [0x03] (pc9 (k := 3840) (j := 39) lwD_60 rfl) (by decide +kernel) rfl
theorem dL_law_3880 : decode cL_law 3880 = .ok (.ireturn, 1) := dec_w [0xac] (pc9 (k := 3840) (j := 40) lwD_60 rfl) (by decide +kernel) rfl
theorem dL_law_3881 : decode cL_law 3881 = .ok (.goto 345, 3) := dec_w [0xa7, 0x01, 0x59] (pc9 (k := 3840) (j := 41) lwD_60 rfl) (by decide +kernel) rfl
theorem dL_law_3884 : decode cL_law 3884 = .ok (.aload_n 1, 1) := dec_w [0x2b] (pc9 (k := 3840) (j := 44) lwD_60 rfl) (by decide +kernel) rfl
theorem dL_law_3885 : decode cL_law 3885 = .ok (.aload_n 0, 1) := dec_w [0x2a] (pc9 (k := 3840) (j := 45) lwD_60 rfl) (by decide +kernel) rfl
theorem dL_law_3886 : decode cL_law 3886 = .ok (.iload 5, 2) := dec_w [0x15, 0x05] (pc9 (k := 3840) (j := 46) lwD_60 rfl) (by decide +kernel) rfl
theorem dL_law_3888 : decode cL_law 3888 = .ok (.iconst 1, 1) := dec_w [0x04] (pc9 (k := 3840) (j := 48) lwD_60 rfl) (by decide +kernel) rfl
theorem dL_law_3889 : decode cL_law 3889 = .ok (.iadd, 1) := dec_w [0x60] (pc9 (k := 3840) (j := 49) lwD_60 rfl) (by decide +kernel) rfl
theorem dL_law_3890 : decode cL_law 3890 = .ok (.iaload, 1) := dec_w [0x2e] (pc9 (k := 3840) (j := 50) lwD_60 rfl) (by decide +kernel) rfl
theorem dL_law_3891 : decode cL_law 3891 = .ok (.aload_n 0, 1) := dec_w [0x2a] (pc9 (k := 3840) (j := 51) lwD_60 rfl) (by decide +kernel) rfl
theorem dL_law_3892 : decode cL_law 3892 = .ok (.iload 5, 2) := dec_w [0x15, 0x05] (pc9 (k := 3840) (j := 52) lwD_60 rfl) (by decide +kernel) rfl
theorem dL_law_3894 : decode cL_law 3894 = .ok (.iconst 2, 1) := dec_w [0x05] (pc9 (k := 3840) (j := 54) lwD_60 rfl) (by decide +kernel) rfl
theorem dL_law_3895 : decode cL_law 3895 = .ok (.iadd, 1) := dec_w [0x60] (pc9 (k := 3840) (j := 55) lwD_60 rfl) (by decide +kernel) rfl
theorem dL_law_3896 : decode cL_law 3896 = .ok (.iaload, 1) := dec_w [0x2e] (pc9 (k := 3840) (j := 56) lwD_60 rfl) (by decide +kernel) rfl
theorem dL_law_3897 : decode cL_law 3897 = .ok (.aload_n 3, 1) := dec_w [0x2d] (pc9 (k := 3840) (j := 57) lwD_60 rfl) (by decide +kernel) rfl
theorem dL_law_3898 : decode cL_law 3898 = .ok (.invokestatic 361, 3) := dec_w [0xb8, 0x01, 0x69] (pc9 (k := 3840) (j := 58) lwD_60 rfl) (by decide +kernel) rfl
theorem dL_law_3901 : decode cL_law 3901 = .ok (.istore 6, 2) := dec_w [0x36, 0x06] (pc9 (k := 3840) (j := 61) lwD_60 rfl) (by decide +kernel) rfl
theorem dL_law_3903 : decode cL_law 3903 = .ok (.aload_n 2, 1) := dec_w [0x2c] (pc9 (k := 3840) (j := 63) lwD_60 rfl) (by decide +kernel) rfl
theorem dL_law_3904 : decode cL_law 3904 = .ok (.aload_n 0, 1) := dec_w [0x2a] (pc9 (k := 3904) (j := 0) lwD_61 rfl) (by decide +kernel) rfl
theorem dL_law_3905 : decode cL_law 3905 = .ok (.iload 5, 2) := dec_w [0x15, 0x05] (pc9 (k := 3904) (j := 1) lwD_61 rfl) (by decide +kernel) rfl
theorem dL_law_3907 : decode cL_law 3907 = .ok (.iconst 1, 1) := dec_w [0x04] (pc9 (k := 3904) (j := 3) lwD_61 rfl) (by decide +kernel) rfl
theorem dL_law_3908 : decode cL_law 3908 = .ok (.iadd, 1) := dec_w [0x60] (pc9 (k := 3904) (j := 4) lwD_61 rfl) (by decide +kernel) rfl
theorem dL_law_3909 : decode cL_law 3909 = .ok (.iaload, 1) := dec_w [0x2e] (pc9 (k := 3904) (j := 5) lwD_61 rfl) (by decide +kernel) rfl
theorem dL_law_3910 : decode cL_law 3910 = .ok (.aload_n 0, 1) := dec_w [0x2a] (pc9 (k := 3904) (j := 6) lwD_61 rfl) (by decide +kernel) rfl
theorem dL_law_3911 : decode cL_law 3911 = .ok (.iload 5, 2) := dec_w [0x15, 0x05] (pc9 (k := 3904) (j := 7) lwD_61 rfl) (by decide +kernel) rfl
theorem dL_law_3913 : decode cL_law 3913 = .ok (.iconst 2, 1) := dec_w [0x05] (pc9 (k := 3904) (j := 9) lwD_61 rfl) (by decide +kernel) rfl
theorem dL_law_3914 : decode cL_law 3914 = .ok (.iadd, 1) := dec_w [0x60] (pc9 (k := 3904) (j := 10) lwD_61 rfl) (by decide +kernel) rfl
theorem dL_law_3915 : decode cL_law 3915 = .ok (.iaload, 1) := dec_w [0x2e] (pc9 (k := 3904) (j := 11) lwD_61 rfl) (by decide +kernel) rfl
theorem dL_law_3916 : decode cL_law 3916 = .ok (.invokevirtual 363, 3) := dec_w [0xb6, 0x01, 0x6b] (pc9 (k := 3904) (j := 12) lwD_61 rfl) (by decide +kernel) rfl
theorem dL_law_3919 : decode cL_law 3919 = .ok (.istore 7, 2) := dec_w [0x36, 0x07] (pc9 (k := 3904) (j := 15) lwD_61 rfl) (by decide +kernel) rfl
theorem dL_law_3921 : decode cL_law 3921 = .ok (.aload_n 2, 1) := dec_w [0x2c] (pc9 (k := 3904) (j := 17) lwD_61 rfl) (by decide +kernel) rfl
theorem dL_law_3922 : decode cL_law 3922 = .ok (.invokevirtual 212, 3) := dec_w [0xb6, 0x00, 0xd4] (pc9 (k := 3904) (j := 18) lwD_61 rfl) (by decide +kernel) rfl
theorem dL_law_3925 : decode cL_law 3925 = .ok (.iload 6, 2) := dec_w [0x15, 0x06] (pc9 (k := 3904) (j := 21) lwD_61 rfl) (by decide +kernel) rfl
theorem dL_law_3927 : decode cL_law 3927 = .ok (.if_icmp .eq 5, 3) := dec_w [0x9f, 0x00, 0x05] (pc9 (k := 3904) (j := 23) lwD_61 rfl) (by decide +kernel) rfl
theorem dL_law_3930 : decode cL_law 3930 = .ok (.iconst 0, 1) := dec_w [0x03] (pc9 (k := 3904) (j := 26) lwD_61 rfl) (by decide +kernel) rfl
theorem dL_law_3931 : decode cL_law 3931 = .ok (.ireturn, 1) := dec_w [0xac] (pc9 (k := 3904) (j := 27) lwD_61 rfl) (by decide +kernel) rfl
theorem dL_law_3932 : decode cL_law 3932 = .ok (.iload 6, 2) := dec_w [0x15, 0x06] (pc9 (k := 3904) (j := 28) lwD_61 rfl) (by decide +kernel) rfl
theorem dL_law_3934 : decode cL_law 3934 = .ok (.ifCond .ne 15, 3) := dec_w [0x9a, 0x00, 0x0f] (pc9 (k := 3904) (j := 30) lwD_61 rfl) (by decide +kernel) rfl
theorem dL_law_3937 : decode cL_law 3937 = .ok (.aload_n 3, 1) := dec_w [0x2d] (pc9 (k := 3904) (j := 33) lwD_61 rfl) (by decide +kernel) rfl
theorem dL_law_3938 : decode cL_law 3938 = .ok (.iconst 0, 1) := dec_w [0x03] (pc9 (k := 3904) (j := 34) lwD_61 rfl) (by decide +kernel) rfl
theorem dL_law_3939 : decode cL_law 3939 = .ok (.laload, 1) := dec_w [0x2f] (pc9 (k := 3904) (j := 35) lwD_61 rfl) (by decide +kernel) rfl
theorem dL_law_3940 : decode cL_law 3940 = .ok (.iload 7, 2) := dec_w [0x15, 0x07] (pc9 (k := 3904) (j := 36) lwD_61 rfl) (by decide +kernel) rfl
theorem dL_law_3942 : decode cL_law 3942 = .ok (.i2l, 1) := dec_w [0x85] (pc9 (k := 3904) (j := 38) lwD_61 rfl) (by decide +kernel) rfl
theorem dL_law_3943 : decode cL_law 3943 = .ok (.lcmp, 1) := dec_w [0x94] (pc9 (k := 3904) (j := 39) lwD_61 rfl) (by decide +kernel) rfl
theorem dL_law_3944 : decode cL_law 3944 = .ok (.ifCond .eq 5, 3) := dec_w [0x99, 0x00, 0x05] (pc9 (k := 3904) (j := 40) lwD_61 rfl) (by decide +kernel) rfl
theorem dL_law_3947 : decode cL_law 3947 = .ok (.iconst 0, 1) := dec_w [0x03] (pc9 (k := 3904) (j := 43) lwD_61 rfl) (by decide +kernel) rfl
theorem dL_law_3948 : decode cL_law 3948 = .ok (.ireturn, 1) := dec_w [0xac] (pc9 (k := 3904) (j := 44) lwD_61 rfl) (by decide +kernel) rfl
theorem dL_law_3949 : decode cL_law 3949 = .ok (.goto 277, 3) := dec_w [0xa7, 0x01, 0x15] (pc9 (k := 3904) (j := 45) lwD_61 rfl) (by decide +kernel) rfl
theorem dL_law_3952 : decode cL_law 3952 = .ok (.aload_n 1, 1) := dec_w [0x2b] (pc9 (k := 3904) (j := 48) lwD_61 rfl) (by decide +kernel) rfl
theorem dL_law_3953 : decode cL_law 3953 = .ok (.aload_n 0, 1) := dec_w [0x2a] (pc9 (k := 3904) (j := 49) lwD_61 rfl) (by decide +kernel) rfl
theorem dL_law_3954 : decode cL_law 3954 = .ok (.iload 5, 2) := dec_w [0x15, 0x05] (pc9 (k := 3904) (j := 50) lwD_61 rfl) (by decide +kernel) rfl
theorem dL_law_3956 : decode cL_law 3956 = .ok (.iconst 1, 1) := dec_w [0x04] (pc9 (k := 3904) (j := 52) lwD_61 rfl) (by decide +kernel) rfl
theorem dL_law_3957 : decode cL_law 3957 = .ok (.iadd, 1) := dec_w [0x60] (pc9 (k := 3904) (j := 53) lwD_61 rfl) (by decide +kernel) rfl
theorem dL_law_3958 : decode cL_law 3958 = .ok (.iaload, 1) := dec_w [0x2e] (pc9 (k := 3904) (j := 54) lwD_61 rfl) (by decide +kernel) rfl
theorem dL_law_3959 : decode cL_law 3959 = .ok (.aload_n 3, 1) := dec_w [0x2d] (pc9 (k := 3904) (j := 55) lwD_61 rfl) (by decide +kernel) rfl
theorem dL_law_3960 : decode cL_law 3960 = .ok (.invokestatic 364, 3) := dec_w [0xb8, 0x01, 0x6c] (pc9 (k := 3904) (j := 56) lwD_61 rfl) (by decide +kernel) rfl
theorem dL_law_3963 : decode cL_law 3963 = .ok (.istore 6, 2) := dec_w [0x36, 0x06] (pc9 (k := 3904) (j := 59) lwD_61 rfl) (by decide +kernel) rfl
theorem dL_law_3965 : decode cL_law 3965 = .ok (.aload_n 2, 1) := dec_w [0x2c] (pc9 (k := 3904) (j := 61) lwD_61 rfl) (by decide +kernel) rfl
theorem dL_law_3966 : decode cL_law 3966 = .ok (.aload_n 0, 1) := dec_w [0x2a] (pc9 (k := 3904) (j := 62) lwD_61 rfl) (by decide +kernel) rfl
theorem dL_law_3967 : decode cL_law 3967 = .ok (.iload 5, 2) := dec_w [0x15, 0x05] (pc9 (k := 3904) (j := 63) lwD_61 rfl) (by decide +kernel) rfl
theorem dL_law_3969 : decode cL_law 3969 = .ok (.iconst 1, 1) := dec_w [0x04] (pc9 (k := 3968) (j := 1) lwD_62 rfl) (by decide +kernel) rfl
theorem dL_law_3970 : decode cL_law 3970 = .ok (.iadd, 1) := dec_w [0x60] (pc9 (k := 3968) (j := 2) lwD_62 rfl) (by decide +kernel) rfl
theorem dL_law_3971 : decode cL_law 3971 = .ok (.iaload, 1) := dec_w [0x2e] (pc9 (k := 3968) (j := 3) lwD_62 rfl) (by decide +kernel) rfl
theorem dL_law_3972 : decode cL_law 3972 = .ok (.invokevirtual 366, 3) := dec_w [0xb6, 0x01, 0x6e] (pc9 (k := 3968) (j := 4) lwD_62 rfl) (by decide +kernel) rfl
theorem dL_law_3975 : decode cL_law 3975 = .ok (.istore 7, 2) := dec_w [0x36, 0x07] (pc9 (k := 3968) (j := 7) lwD_62 rfl) (by decide +kernel) rfl
theorem dL_law_3977 : decode cL_law 3977 = .ok (.aload_n 2, 1) := dec_w [0x2c] (pc9 (k := 3968) (j := 9) lwD_62 rfl) (by decide +kernel) rfl
theorem dL_law_3978 : decode cL_law 3978 = .ok (.invokevirtual 212, 3) := dec_w [0xb6, 0x00, 0xd4] (pc9 (k := 3968) (j := 10) lwD_62 rfl) (by decide +kernel) rfl
theorem dL_law_3981 : decode cL_law 3981 = .ok (.iload 6, 2) := dec_w [0x15, 0x06] (pc9 (k := 3968) (j := 13) lwD_62 rfl) (by decide +kernel) rfl
theorem dL_law_3983 : decode cL_law 3983 = .ok (.if_icmp .eq 5, 3) := dec_w [0x9f, 0x00, 0x05] (pc9 (k := 3968) (j := 15) lwD_62 rfl) (by decide +kernel) rfl
theorem dL_law_3986 : decode cL_law 3986 = .ok (.iconst 0, 1) := dec_w [0x03] (pc9 (k := 3968) (j := 18) lwD_62 rfl) (by decide +kernel) rfl
theorem dL_law_3987 : decode cL_law 3987 = .ok (.ireturn, 1) := dec_w [0xac] (pc9 (k := 3968) (j := 19) lwD_62 rfl) (by decide +kernel) rfl
theorem dL_law_3988 : decode cL_law 3988 = .ok (.iload 6, 2) := dec_w [0x15, 0x06] (pc9 (k := 3968) (j := 20) lwD_62 rfl) (by decide +kernel) rfl
theorem dL_law_3990 : decode cL_law 3990 = .ok (.ifCond .ne 15, 3) := dec_w [0x9a, 0x00, 0x0f] (pc9 (k := 3968) (j := 22) lwD_62 rfl) (by decide +kernel) rfl
theorem dL_law_3993 : decode cL_law 3993 = .ok (.aload_n 3, 1) := dec_w [0x2d] (pc9 (k := 3968) (j := 25) lwD_62 rfl) (by decide +kernel) rfl
theorem dL_law_3994 : decode cL_law 3994 = .ok (.iconst 0, 1) := dec_w [0x03] (pc9 (k := 3968) (j := 26) lwD_62 rfl) (by decide +kernel) rfl
theorem dL_law_3995 : decode cL_law 3995 = .ok (.laload, 1) := dec_w [0x2f] (pc9 (k := 3968) (j := 27) lwD_62 rfl) (by decide +kernel) rfl
theorem dL_law_3996 : decode cL_law 3996 = .ok (.iload 7, 2) := dec_w [0x15, 0x07] (pc9 (k := 3968) (j := 28) lwD_62 rfl) (by decide +kernel) rfl
theorem dL_law_3998 : decode cL_law 3998 = .ok (.i2l, 1) := dec_w [0x85] (pc9 (k := 3968) (j := 30) lwD_62 rfl) (by decide +kernel) rfl
theorem dL_law_3999 : decode cL_law 3999 = .ok (.lcmp, 1) := dec_w [0x94] (pc9 (k := 3968) (j := 31) lwD_62 rfl) (by decide +kernel) rfl
theorem dL_law_4000 : decode cL_law 4000 = .ok (.ifCond .eq 5, 3) := dec_w [0x99, 0x00, 0x05] (pc9 (k := 3968) (j := 32) lwD_62 rfl) (by decide +kernel) rfl
theorem dL_law_4003 : decode cL_law 4003 = .ok (.iconst 0, 1) := dec_w [0x03] (pc9 (k := 3968) (j := 35) lwD_62 rfl) (by decide +kernel) rfl
theorem dL_law_4004 : decode cL_law 4004 = .ok (.ireturn, 1) := dec_w [0xac] (pc9 (k := 3968) (j := 36) lwD_62 rfl) (by decide +kernel) rfl
theorem dL_law_4005 : decode cL_law 4005 = .ok (.goto 221, 3) := dec_w [0xa7, 0x00, 0xdd] (pc9 (k := 3968) (j := 37) lwD_62 rfl) (by decide +kernel) rfl
theorem dL_law_4008 : decode cL_law 4008 = .ok (.aload_n 1, 1) := dec_w [0x2b] (pc9 (k := 3968) (j := 40) lwD_62 rfl) (by decide +kernel) rfl
theorem dL_law_4009 : decode cL_law 4009 = .ok (.aload_n 0, 1) := dec_w [0x2a] (pc9 (k := 3968) (j := 41) lwD_62 rfl) (by decide +kernel) rfl
theorem dL_law_4010 : decode cL_law 4010 = .ok (.iload 5, 2) := dec_w [0x15, 0x05] (pc9 (k := 3968) (j := 42) lwD_62 rfl) (by decide +kernel) rfl
theorem dL_law_4012 : decode cL_law 4012 = .ok (.iconst 1, 1) := dec_w [0x04] (pc9 (k := 3968) (j := 44) lwD_62 rfl) (by decide +kernel) rfl
theorem dL_law_4013 : decode cL_law 4013 = .ok (.iadd, 1) := dec_w [0x60] (pc9 (k := 3968) (j := 45) lwD_62 rfl) (by decide +kernel) rfl
theorem dL_law_4014 : decode cL_law 4014 = .ok (.iaload, 1) := dec_w [0x2e] (pc9 (k := 3968) (j := 46) lwD_62 rfl) (by decide +kernel) rfl
theorem dL_law_4015 : decode cL_law 4015 = .ok (.aload_n 0, 1) := dec_w [0x2a] (pc9 (k := 3968) (j := 47) lwD_62 rfl) (by decide +kernel) rfl
theorem dL_law_4016 : decode cL_law 4016 = .ok (.iload 5, 2) := dec_w [0x15, 0x05] (pc9 (k := 3968) (j := 48) lwD_62 rfl) (by decide +kernel) rfl
theorem dL_law_4018 : decode cL_law 4018 = .ok (.iconst 2, 1) := dec_w [0x05] (pc9 (k := 3968) (j := 50) lwD_62 rfl) (by decide +kernel) rfl
theorem dL_law_4019 : decode cL_law 4019 = .ok (.iadd, 1) := dec_w [0x60] (pc9 (k := 3968) (j := 51) lwD_62 rfl) (by decide +kernel) rfl
theorem dL_law_4020 : decode cL_law 4020 = .ok (.iaload, 1) := dec_w [0x2e] (pc9 (k := 3968) (j := 52) lwD_62 rfl) (by decide +kernel) rfl
theorem dL_law_4021 : decode cL_law 4021 = .ok (.aload_n 3, 1) := dec_w [0x2d] (pc9 (k := 3968) (j := 53) lwD_62 rfl) (by decide +kernel) rfl
theorem dL_law_4022 : decode cL_law 4022 = .ok (.invokestatic 367, 3) := dec_w [0xb8, 0x01, 0x6f] (pc9 (k := 3968) (j := 54) lwD_62 rfl) (by decide +kernel) rfl
theorem dL_law_4025 : decode cL_law 4025 = .ok (.istore 6, 2) := dec_w [0x36, 0x06] (pc9 (k := 3968) (j := 57) lwD_62 rfl) (by decide +kernel) rfl
theorem dL_law_4027 : decode cL_law 4027 = .ok (.aload_n 2, 1) := dec_w [0x2c] (pc9 (k := 3968) (j := 59) lwD_62 rfl) (by decide +kernel) rfl
theorem dL_law_4028 : decode cL_law 4028 = .ok (.aload_n 0, 1) := dec_w [0x2a] (pc9 (k := 3968) (j := 60) lwD_62 rfl) (by decide +kernel) rfl
theorem dL_law_4029 : decode cL_law 4029 = .ok (.iload 5, 2) := dec_w [0x15, 0x05] (pc9 (k := 3968) (j := 61) lwD_62 rfl) (by decide +kernel) rfl
theorem dL_law_4031 : decode cL_law 4031 = .ok (.iconst 1, 1) := dec_w [0x04] (pc9 (k := 3968) (j := 63) lwD_62 rfl) (by decide +kernel) rfl
theorem dL_law_4032 : decode cL_law 4032 = .ok (.iadd, 1) := dec_w [0x60] (pc9 (k := 4032) (j := 0) lwD_63 rfl) (by decide +kernel) rfl
theorem dL_law_4033 : decode cL_law 4033 = .ok (.iaload, 1) := dec_w [0x2e] (pc9 (k := 4032) (j := 1) lwD_63 rfl) (by decide +kernel) rfl
theorem dL_law_4034 : decode cL_law 4034 = .ok (.aload_n 0, 1) := dec_w [0x2a] (pc9 (k := 4032) (j := 2) lwD_63 rfl) (by decide +kernel) rfl
theorem dL_law_4035 : decode cL_law 4035 = .ok (.iload 5, 2) := dec_w [0x15, 0x05] (pc9 (k := 4032) (j := 3) lwD_63 rfl) (by decide +kernel) rfl
theorem dL_law_4037 : decode cL_law 4037 = .ok (.iconst 2, 1) := dec_w [0x05] (pc9 (k := 4032) (j := 5) lwD_63 rfl) (by decide +kernel) rfl
theorem dL_law_4038 : decode cL_law 4038 = .ok (.iadd, 1) := dec_w [0x60] (pc9 (k := 4032) (j := 6) lwD_63 rfl) (by decide +kernel) rfl
theorem dL_law_4039 : decode cL_law 4039 = .ok (.iaload, 1) := dec_w [0x2e] (pc9 (k := 4032) (j := 7) lwD_63 rfl) (by decide +kernel) rfl
theorem dL_law_4040 : decode cL_law 4040 = .ok (.invokevirtual 369, 3) := dec_w [0xb6, 0x01, 0x71] (pc9 (k := 4032) (j := 8) lwD_63 rfl) (by decide +kernel) rfl
theorem dL_law_4043 : decode cL_law 4043 = .ok (.istore 7, 2) := dec_w [0x36, 0x07] (pc9 (k := 4032) (j := 11) lwD_63 rfl) (by decide +kernel) rfl
theorem dL_law_4045 : decode cL_law 4045 = .ok (.aload_n 2, 1) := dec_w [0x2c] (pc9 (k := 4032) (j := 13) lwD_63 rfl) (by decide +kernel) rfl
theorem dL_law_4046 : decode cL_law 4046 = .ok (.invokevirtual 212, 3) := dec_w [0xb6, 0x00, 0xd4] (pc9 (k := 4032) (j := 14) lwD_63 rfl) (by decide +kernel) rfl
theorem dL_law_4049 : decode cL_law 4049 = .ok (.iload 6, 2) := dec_w [0x15, 0x06] (pc9 (k := 4032) (j := 17) lwD_63 rfl) (by decide +kernel) rfl
theorem dL_law_4051 : decode cL_law 4051 = .ok (.if_icmp .eq 5, 3) := dec_w [0x9f, 0x00, 0x05] (pc9 (k := 4032) (j := 19) lwD_63 rfl) (by decide +kernel) rfl
theorem dL_law_4054 : decode cL_law 4054 = .ok (.iconst 0, 1) := dec_w [0x03] (pc9 (k := 4032) (j := 22) lwD_63 rfl) (by decide +kernel) rfl
theorem dL_law_4055 : decode cL_law 4055 = .ok (.ireturn, 1) := dec_w [0xac] (pc9 (k := 4032) (j := 23) lwD_63 rfl) (by decide +kernel) rfl
theorem dL_law_4056 : decode cL_law 4056 = .ok (.iload 6, 2) := dec_w [0x15, 0x06] (pc9 (k := 4032) (j := 24) lwD_63 rfl) (by decide +kernel) rfl
theorem dL_law_4058 : decode cL_law 4058 = .ok (.ifCond .ne 15, 3) := dec_w [0x9a, 0x00, 0x0f] (pc9 (k := 4032) (j := 26) lwD_63 rfl) (by decide +kernel) rfl
theorem dL_law_4061 : decode cL_law 4061 = .ok (.aload_n 3, 1) := dec_w [0x2d] (pc9 (k := 4032) (j := 29) lwD_63 rfl) (by decide +kernel) rfl
theorem dL_law_4062 : decode cL_law 4062 = .ok (.iconst 0, 1) := dec_w [0x03] (pc9 (k := 4032) (j := 30) lwD_63 rfl) (by decide +kernel) rfl
theorem dL_law_4063 : decode cL_law 4063 = .ok (.laload, 1) := dec_w [0x2f] (pc9 (k := 4032) (j := 31) lwD_63 rfl) (by decide +kernel) rfl
theorem dL_law_4064 : decode cL_law 4064 = .ok (.iload 7, 2) := dec_w [0x15, 0x07] (pc9 (k := 4032) (j := 32) lwD_63 rfl) (by decide +kernel) rfl
theorem dL_law_4066 : decode cL_law 4066 = .ok (.i2l, 1) := dec_w [0x85] (pc9 (k := 4032) (j := 34) lwD_63 rfl) (by decide +kernel) rfl
theorem dL_law_4067 : decode cL_law 4067 = .ok (.lcmp, 1) := dec_w [0x94] (pc9 (k := 4032) (j := 35) lwD_63 rfl) (by decide +kernel) rfl
theorem dL_law_4068 : decode cL_law 4068 = .ok (.ifCond .eq 5, 3) := dec_w [0x99, 0x00, 0x05] (pc9 (k := 4032) (j := 36) lwD_63 rfl) (by decide +kernel) rfl
theorem dL_law_4071 : decode cL_law 4071 = .ok (.iconst 0, 1) := dec_w [0x03] (pc9 (k := 4032) (j := 39) lwD_63 rfl) (by decide +kernel) rfl
theorem dL_law_4072 : decode cL_law 4072 = .ok (.ireturn, 1) := dec_w [0xac] (pc9 (k := 4032) (j := 40) lwD_63 rfl) (by decide +kernel) rfl
theorem dL_law_4073 : decode cL_law 4073 = .ok (.goto 153, 3) := dec_w [0xa7, 0x00, 0x99] (pc9 (k := 4032) (j := 41) lwD_63 rfl) (by decide +kernel) rfl
theorem dL_law_4076 : decode cL_law 4076 = .ok (.aload_n 1, 1) := dec_w [0x2b] (pc9 (k := 4032) (j := 44) lwD_63 rfl) (by decide +kernel) rfl
theorem dL_law_4077 : decode cL_law 4077 = .ok (.aload_n 0, 1) := dec_w [0x2a] (pc9 (k := 4032) (j := 45) lwD_63 rfl) (by decide +kernel) rfl
theorem dL_law_4078 : decode cL_law 4078 = .ok (.iload 5, 2) := dec_w [0x15, 0x05] (pc9 (k := 4032) (j := 46) lwD_63 rfl) (by decide +kernel) rfl
theorem dL_law_4080 : decode cL_law 4080 = .ok (.iconst 1, 1) := dec_w [0x04] (pc9 (k := 4032) (j := 48) lwD_63 rfl) (by decide +kernel) rfl
theorem dL_law_4081 : decode cL_law 4081 = .ok (.iadd, 1) := dec_w [0x60] (pc9 (k := 4032) (j := 49) lwD_63 rfl) (by decide +kernel) rfl
theorem dL_law_4082 : decode cL_law 4082 = .ok (.iaload, 1) := dec_w [0x2e] (pc9 (k := 4032) (j := 50) lwD_63 rfl) (by decide +kernel) rfl
theorem dL_law_4083 : decode cL_law 4083 = .ok (.invokevirtual 370, 3) := dec_w [0xb6, 0x01, 0x72] (pc9 (k := 4032) (j := 51) lwD_63 rfl) (by decide +kernel) rfl
theorem dL_law_4086 : decode cL_law 4086 = .ok (.aload_n 2, 1) := dec_w [0x2c] (pc9 (k := 4032) (j := 54) lwD_63 rfl) (by decide +kernel) rfl
theorem dL_law_4087 : decode cL_law 4087 = .ok (.aload_n 0, 1) := dec_w [0x2a] (pc9 (k := 4032) (j := 55) lwD_63 rfl) (by decide +kernel) rfl
theorem dL_law_4088 : decode cL_law 4088 = .ok (.iload 5, 2) := dec_w [0x15, 0x05] (pc9 (k := 4032) (j := 56) lwD_63 rfl) (by decide +kernel) rfl
theorem dL_law_4090 : decode cL_law 4090 = .ok (.iconst 1, 1) := dec_w [0x04] (pc9 (k := 4032) (j := 58) lwD_63 rfl) (by decide +kernel) rfl
theorem dL_law_4091 : decode cL_law 4091 = .ok (.iadd, 1) := dec_w [0x60] (pc9 (k := 4032) (j := 59) lwD_63 rfl) (by decide +kernel) rfl
theorem dL_law_4092 : decode cL_law 4092 = .ok (.iaload, 1) := dec_w [0x2e] (pc9 (k := 4032) (j := 60) lwD_63 rfl) (by decide +kernel) rfl
theorem dL_law_4093 : decode cL_law 4093 = .ok (.invokevirtual 373, 3) := dec_w [0xb6, 0x01, 0x75] (pc9 (k := 4032) (j := 61) lwD_63 rfl) (by decide +kernel) rfl
theorem dL_law_4096 : decode cL_law 4096 = .ok (.if_icmp .eq 130, 3) := dec_w [0x9f, 0x00, 0x82] (pc9 (k := 4096) (j := 0) lwD_64 rfl) (by decide +kernel) rfl
theorem dL_law_4099 : decode cL_law 4099 = .ok (.iconst 0, 1) := dec_w [0x03] (pc9 (k := 4096) (j := 3) lwD_64 rfl) (by decide +kernel) rfl
theorem dL_law_4100 : decode cL_law 4100 = .ok (.ireturn, 1) := dec_w [0xac] (pc9 (k := 4096) (j := 4) lwD_64 rfl) (by decide +kernel) rfl
theorem dL_law_4101 : decode cL_law 4101 = .ok (.aload_n 1, 1) := dec_w [0x2b] (pc9 (k := 4096) (j := 5) lwD_64 rfl) (by decide +kernel) rfl
theorem dL_law_4102 : decode cL_law 4102 = .ok (.invokevirtual 374, 3) := dec_w [0xb6, 0x01, 0x76] (pc9 (k := 4096) (j := 6) lwD_64 rfl) (by decide +kernel) rfl
theorem dL_law_4105 : decode cL_law 4105 = .ok (.aload_n 2, 1) := dec_w [0x2c] (pc9 (k := 4096) (j := 9) lwD_64 rfl) (by decide +kernel) rfl
theorem dL_law_4106 : decode cL_law 4106 = .ok (.invokevirtual 377, 3) := dec_w [0xb6, 0x01, 0x79] (pc9 (k := 4096) (j := 10) lwD_64 rfl) (by decide +kernel) rfl
theorem dL_law_4109 : decode cL_law 4109 = .ok (.if_icmp .eq 117, 3) := dec_w [0x9f, 0x00, 0x75] (pc9 (k := 4096) (j := 13) lwD_64 rfl) (by decide +kernel) rfl
theorem dL_law_4112 : decode cL_law 4112 = .ok (.iconst 0, 1) := dec_w [0x03] (pc9 (k := 4096) (j := 16) lwD_64 rfl) (by decide +kernel) rfl
theorem dL_law_4113 : decode cL_law 4113 = .ok (.ireturn, 1) := dec_w [0xac] (pc9 (k := 4096) (j := 17) lwD_64 rfl) (by decide +kernel) rfl
theorem dL_law_4114 : decode cL_law 4114 = .ok (.aload_n 1, 1) := dec_w [0x2b] (pc9 (k := 4096) (j := 18) lwD_64 rfl) (by decide +kernel) rfl
theorem dL_law_4115 : decode cL_law 4115 = .ok (.aload_n 0, 1) := dec_w [0x2a] (pc9 (k := 4096) (j := 19) lwD_64 rfl) (by decide +kernel) rfl
theorem dL_law_4116 : decode cL_law 4116 = .ok (.iload 5, 2) := dec_w [0x15, 0x05] (pc9 (k := 4096) (j := 20) lwD_64 rfl) (by decide +kernel) rfl
theorem dL_law_4118 : decode cL_law 4118 = .ok (.iconst 1, 1) := dec_w [0x04] (pc9 (k := 4096) (j := 22) lwD_64 rfl) (by decide +kernel) rfl
theorem dL_law_4119 : decode cL_law 4119 = .ok (.iadd, 1) := dec_w [0x60] (pc9 (k := 4096) (j := 23) lwD_64 rfl) (by decide +kernel) rfl
theorem dL_law_4120 : decode cL_law 4120 = .ok (.iaload, 1) := dec_w [0x2e] (pc9 (k := 4096) (j := 24) lwD_64 rfl) (by decide +kernel) rfl
theorem dL_law_4121 : decode cL_law 4121 = .ok (.aload_n 3, 1) := dec_w [0x2d] (pc9 (k := 4096) (j := 25) lwD_64 rfl) (by decide +kernel) rfl
theorem dL_law_4122 : decode cL_law 4122 = .ok (.invokestatic 378, 3) := dec_w [0xb8, 0x01, 0x7a] (pc9 (k := 4096) (j := 26) lwD_64 rfl) (by decide +kernel) rfl
theorem dL_law_4125 : decode cL_law 4125 = .ok (.istore 6, 2) := dec_w [0x36, 0x06] (pc9 (k := 4096) (j := 29) lwD_64 rfl) (by decide +kernel) rfl
theorem dL_law_4127 : decode cL_law 4127 = .ok (.aload_n 2, 1) := dec_w [0x2c] (pc9 (k := 4096) (j := 31) lwD_64 rfl) (by decide +kernel) rfl
theorem dL_law_4128 : decode cL_law 4128 = .ok (.aload_n 0, 1) := dec_w [0x2a] (pc9 (k := 4096) (j := 32) lwD_64 rfl) (by decide +kernel) rfl
theorem dL_law_4129 : decode cL_law 4129 = .ok (.iload 5, 2) := dec_w [0x15, 0x05] (pc9 (k := 4096) (j := 33) lwD_64 rfl) (by decide +kernel) rfl
theorem dL_law_4131 : decode cL_law 4131 = .ok (.iconst 1, 1) := dec_w [0x04] (pc9 (k := 4096) (j := 35) lwD_64 rfl) (by decide +kernel) rfl
theorem dL_law_4132 : decode cL_law 4132 = .ok (.iadd, 1) := dec_w [0x60] (pc9 (k := 4096) (j := 36) lwD_64 rfl) (by decide +kernel) rfl
theorem dL_law_4133 : decode cL_law 4133 = .ok (.iaload, 1) := dec_w [0x2e] (pc9 (k := 4096) (j := 37) lwD_64 rfl) (by decide +kernel) rfl
theorem dL_law_4134 : decode cL_law 4134 = .ok (.invokevirtual 380, 3) := dec_w [0xb6, 0x01, 0x7c] (pc9 (k := 4096) (j := 38) lwD_64 rfl) (by decide +kernel) rfl
theorem dL_law_4137 : decode cL_law 4137 = .ok (.istore 7, 2) := dec_w [0x36, 0x07] (pc9 (k := 4096) (j := 41) lwD_64 rfl) (by decide +kernel) rfl
theorem dL_law_4139 : decode cL_law 4139 = .ok (.aload_n 2, 1) := dec_w [0x2c] (pc9 (k := 4096) (j := 43) lwD_64 rfl) (by decide +kernel) rfl
theorem dL_law_4140 : decode cL_law 4140 = .ok (.invokevirtual 212, 3) := dec_w [0xb6, 0x00, 0xd4] (pc9 (k := 4096) (j := 44) lwD_64 rfl) (by decide +kernel) rfl
theorem dL_law_4143 : decode cL_law 4143 = .ok (.iload 6, 2) := dec_w [0x15, 0x06] (pc9 (k := 4096) (j := 47) lwD_64 rfl) (by decide +kernel) rfl
theorem dL_law_4145 : decode cL_law 4145 = .ok (.if_icmp .eq 5, 3) := dec_w [0x9f, 0x00, 0x05] (pc9 (k := 4096) (j := 49) lwD_64 rfl) (by decide +kernel) rfl
theorem dL_law_4148 : decode cL_law 4148 = .ok (.iconst 0, 1) := dec_w [0x03] (pc9 (k := 4096) (j := 52) lwD_64 rfl) (by decide +kernel) rfl
theorem dL_law_4149 : decode cL_law 4149 = .ok (.ireturn, 1) := dec_w [0xac] (pc9 (k := 4096) (j := 53) lwD_64 rfl) (by decide +kernel) rfl
theorem dL_law_4150 : decode cL_law 4150 = .ok (.iload 6, 2) := dec_w [0x15, 0x06] (pc9 (k := 4096) (j := 54) lwD_64 rfl) (by decide +kernel) rfl
theorem dL_law_4152 : decode cL_law 4152 = .ok (.ifCond .ne 15, 3) := dec_w [0x9a, 0x00, 0x0f] (pc9 (k := 4096) (j := 56) lwD_64 rfl) (by decide +kernel) rfl
theorem dL_law_4155 : decode cL_law 4155 = .ok (.aload_n 3, 1) := dec_w [0x2d] (pc9 (k := 4096) (j := 59) lwD_64 rfl) (by decide +kernel) rfl
theorem dL_law_4156 : decode cL_law 4156 = .ok (.iconst 0, 1) := dec_w [0x03] (pc9 (k := 4096) (j := 60) lwD_64 rfl) (by decide +kernel) rfl
theorem dL_law_4157 : decode cL_law 4157 = .ok (.laload, 1) := dec_w [0x2f] (pc9 (k := 4096) (j := 61) lwD_64 rfl) (by decide +kernel) rfl
theorem dL_law_4158 : decode cL_law 4158 = .ok (.iload 7, 2) := dec_w [0x15, 0x07] (pc9 (k := 4096) (j := 62) lwD_64 rfl) (by decide +kernel) rfl
theorem dL_law_4160 : decode cL_law 4160 = .ok (.i2l, 1) := dec_w [0x85] (pc9 (k := 4160) (j := 0) lwD_65 rfl) (by decide +kernel) rfl
theorem dL_law_4161 : decode cL_law 4161 = .ok (.lcmp, 1) := dec_w [0x94] (pc9 (k := 4160) (j := 1) lwD_65 rfl) (by decide +kernel) rfl
theorem dL_law_4162 : decode cL_law 4162 = .ok (.ifCond .eq 5, 3) := dec_w [0x99, 0x00, 0x05] (pc9 (k := 4160) (j := 2) lwD_65 rfl) (by decide +kernel) rfl
theorem dL_law_4165 : decode cL_law 4165 = .ok (.iconst 0, 1) := dec_w [0x03] (pc9 (k := 4160) (j := 5) lwD_65 rfl) (by decide +kernel) rfl
theorem dL_law_4166 : decode cL_law 4166 = .ok (.ireturn, 1) := dec_w [0xac] (pc9 (k := 4160) (j := 6) lwD_65 rfl) (by decide +kernel) rfl
theorem dL_law_4167 : decode cL_law 4167 = .ok (.goto 59, 3) := dec_w [0xa7, 0x00, 0x3b] (pc9 (k := 4160) (j := 7) lwD_65 rfl) (by decide +kernel) rfl
theorem dL_law_4170 : decode cL_law 4170 = .ok (.aload_n 1, 1) := dec_w [0x2b] (pc9 (k := 4160) (j := 10) lwD_65 rfl) (by decide +kernel) rfl
theorem dL_law_4171 : decode cL_law 4171 = .ok (.aload_n 0, 1) := dec_w [0x2a] (pc9 (k := 4160) (j := 11) lwD_65 rfl) (by decide +kernel) rfl
theorem dL_law_4172 : decode cL_law 4172 = .ok (.iload 5, 2) := dec_w [0x15, 0x05] (pc9 (k := 4160) (j := 12) lwD_65 rfl) (by decide +kernel) rfl
theorem dL_law_4174 : decode cL_law 4174 = .ok (.iconst 1, 1) := dec_w [0x04] (pc9 (k := 4160) (j := 14) lwD_65 rfl) (by decide +kernel) rfl
theorem dL_law_4175 : decode cL_law 4175 = .ok (.iadd, 1) := dec_w [0x60] (pc9 (k := 4160) (j := 15) lwD_65 rfl) (by decide +kernel) rfl
theorem dL_law_4176 : decode cL_law 4176 = .ok (.iaload, 1) := dec_w [0x2e] (pc9 (k := 4160) (j := 16) lwD_65 rfl) (by decide +kernel) rfl
theorem dL_law_4177 : decode cL_law 4177 = .ok (.aload_n 3, 1) := dec_w [0x2d] (pc9 (k := 4160) (j := 17) lwD_65 rfl) (by decide +kernel) rfl
theorem dL_law_4178 : decode cL_law 4178 = .ok (.invokestatic 381, 3) := dec_w [0xb8, 0x01, 0x7d] (pc9 (k := 4160) (j := 18) lwD_65 rfl) (by decide +kernel) rfl
theorem dL_law_4181 : decode cL_law 4181 = .ok (.istore 6, 2) := dec_w [0x36, 0x06] (pc9 (k := 4160) (j := 21) lwD_65 rfl) (by decide +kernel) rfl
theorem dL_law_4183 : decode cL_law 4183 = .ok (.aload_n 2, 1) := dec_w [0x2c] (pc9 (k := 4160) (j := 23) lwD_65 rfl) (by decide +kernel) rfl
theorem dL_law_4184 : decode cL_law 4184 = .ok (.aload_n 0, 1) := dec_w [0x2a] (pc9 (k := 4160) (j := 24) lwD_65 rfl) (by decide +kernel) rfl
theorem dL_law_4185 : decode cL_law 4185 = .ok (.iload 5, 2) := dec_w [0x15, 0x05] (pc9 (k := 4160) (j := 25) lwD_65 rfl) (by decide +kernel) rfl
theorem dL_law_4187 : decode cL_law 4187 = .ok (.iconst 1, 1) := dec_w [0x04] (pc9 (k := 4160) (j := 27) lwD_65 rfl) (by decide +kernel) rfl
theorem dL_law_4188 : decode cL_law 4188 = .ok (.iadd, 1) := dec_w [0x60] (pc9 (k := 4160) (j := 28) lwD_65 rfl) (by decide +kernel) rfl
theorem dL_law_4189 : decode cL_law 4189 = .ok (.iaload, 1) := dec_w [0x2e] (pc9 (k := 4160) (j := 29) lwD_65 rfl) (by decide +kernel) rfl
theorem dL_law_4190 : decode cL_law 4190 = .ok (.invokevirtual 383, 3) := dec_w [0xb6, 0x01, 0x7f] (pc9 (k := 4160) (j := 30) lwD_65 rfl) (by decide +kernel) rfl
theorem dL_law_4193 : decode cL_law 4193 = .ok (.istore 7, 2) := dec_w [0x36, 0x07] (pc9 (k := 4160) (j := 33) lwD_65 rfl) (by decide +kernel) rfl
theorem dL_law_4195 : decode cL_law 4195 = .ok (.aload_n 2, 1) := dec_w [0x2c] (pc9 (k := 4160) (j := 35) lwD_65 rfl) (by decide +kernel) rfl
theorem dL_law_4196 : decode cL_law 4196 = .ok (.invokevirtual 212, 3) := dec_w [0xb6, 0x00, 0xd4] (pc9 (k := 4160) (j := 36) lwD_65 rfl) (by decide +kernel) rfl
theorem dL_law_4199 : decode cL_law 4199 = .ok (.iload 6, 2) := dec_w [0x15, 0x06] (pc9 (k := 4160) (j := 39) lwD_65 rfl) (by decide +kernel) rfl
theorem dL_law_4201 : decode cL_law 4201 = .ok (.if_icmp .eq 5, 3) := dec_w [0x9f, 0x00, 0x05] (pc9 (k := 4160) (j := 41) lwD_65 rfl) (by decide +kernel) rfl
theorem dL_law_4204 : decode cL_law 4204 = .ok (.iconst 0, 1) := dec_w [0x03] (pc9 (k := 4160) (j := 44) lwD_65 rfl) (by decide +kernel) rfl
theorem dL_law_4205 : decode cL_law 4205 = .ok (.ireturn, 1) := dec_w [0xac] (pc9 (k := 4160) (j := 45) lwD_65 rfl) (by decide +kernel) rfl
theorem dL_law_4206 : decode cL_law 4206 = .ok (.iload 6, 2) := dec_w [0x15, 0x06] (pc9 (k := 4160) (j := 46) lwD_65 rfl) (by decide +kernel) rfl
theorem dL_law_4208 : decode cL_law 4208 = .ok (.ifCond .ne 15, 3) := dec_w [0x9a, 0x00, 0x0f] (pc9 (k := 4160) (j := 48) lwD_65 rfl) (by decide +kernel) rfl
theorem dL_law_4211 : decode cL_law 4211 = .ok (.aload_n 3, 1) := dec_w [0x2d] (pc9 (k := 4160) (j := 51) lwD_65 rfl) (by decide +kernel) rfl
theorem dL_law_4212 : decode cL_law 4212 = .ok (.iconst 0, 1) := dec_w [0x03] (pc9 (k := 4160) (j := 52) lwD_65 rfl) (by decide +kernel) rfl
theorem dL_law_4213 : decode cL_law 4213 = .ok (.laload, 1) := dec_w [0x2f] (pc9 (k := 4160) (j := 53) lwD_65 rfl) (by decide +kernel) rfl
theorem dL_law_4214 : decode cL_law 4214 = .ok (.iload 7, 2) := dec_w [0x15, 0x07] (pc9 (k := 4160) (j := 54) lwD_65 rfl) (by decide +kernel) rfl
theorem dL_law_4216 : decode cL_law 4216 = .ok (.i2l, 1) := dec_w [0x85] (pc9 (k := 4160) (j := 56) lwD_65 rfl) (by decide +kernel) rfl
theorem dL_law_4217 : decode cL_law 4217 = .ok (.lcmp, 1) := dec_w [0x94] (pc9 (k := 4160) (j := 57) lwD_65 rfl) (by decide +kernel) rfl
theorem dL_law_4218 : decode cL_law 4218 = .ok (.ifCond .eq 5, 3) := dec_w [0x99, 0x00, 0x05] (pc9 (k := 4160) (j := 58) lwD_65 rfl) (by decide +kernel) rfl
theorem dL_law_4221 : decode cL_law 4221 = .ok (.iconst 0, 1) := dec_w [0x03] (pc9 (k := 4160) (j := 61) lwD_65 rfl) (by decide +kernel) rfl
theorem dL_law_4222 : decode cL_law 4222 = .ok (.ireturn, 1) := dec_w [0xac] (pc9 (k := 4160) (j := 62) lwD_65 rfl) (by decide +kernel) rfl
theorem dL_law_4223 : decode cL_law 4223 = .ok (.goto 3, 3) := dec_w [0xa7, 0x00, 0x03] (pc9 (k := 4160) (j := 63) lwD_65 rfl) (by decide +kernel) rfl
theorem dL_law_4226 : decode cL_law 4226 = .ok (.iinc 5 5, 3) := dec_w [0x84, 0x05, 0x05] (pc9 (k := 4224) (j := 2) lwD_66 rfl) (by decide +kernel) rfl
theorem dL_law_4229 : decode cL_law 4229 = .ok (.goto (-4201), 3) := dec_w [0xa7, 0xef, 0x97] (pc9 (k := 4224) (j := 5) lwD_66 rfl) (by decide +kernel) rfl
theorem dL_law_4232 : decode cL_law 4232 = .ok (.iconst 1, 1) := dec_w [0x04] (pc9 (k := 4224) (j := 8) lwD_66 rfl) (by decide +kernel) rfl
theorem dL_law_4233 : decode cL_law 4233 = .ok (.ireturn, 1) := dec_w [0xac] (pc9 (k := 4224) (j := 9) lwD_66 rfl) (by decide +kernel) rfl
