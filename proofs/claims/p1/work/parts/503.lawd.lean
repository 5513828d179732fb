/-! the law's rows, 3 -/
theorem dL_law_2376 : decode cL_law 2376 = .ok (.iload 5, 2) := by decide +kernel
theorem dL_law_2378 : decode cL_law 2378 = .ok (.iconst 1, 1) := by decide +kernel
theorem dL_law_2379 : decode cL_law 2379 = .ok (.iadd, 1) := by decide +kernel
theorem dL_law_2380 : decode cL_law 2380 = .ok (.iaload, 1) := by decide +kernel
theorem dL_law_2381 : decode cL_law 2381 = .ok (.invokevirtual 303, 3) := by decide +kernel
theorem dL_law_2384 : decode cL_law 2384 = .ok (.istore 7, 2) := by decide +kernel
theorem dL_law_2386 : decode cL_law 2386 = .ok (.aload_n 2, 1) := by decide +kernel
theorem dL_law_2387 : decode cL_law 2387 = .ok (.invokevirtual 212, 3) := by decide +kernel
theorem dL_law_2390 : decode cL_law 2390 = .ok (.iload 6, 2) := by decide +kernel
theorem dL_law_2392 : decode cL_law 2392 = .ok (.if_icmp .eq 5, 3) := by decide +kernel
theorem dL_law_2395 : decode cL_law 2395 = .ok (.iconst 0, 1) := by decide +kernel
theorem dL_law_2396 : decode cL_law 2396 = .ok (.ireturn, 1) := by decide +kernel
theorem dL_law_2397 : decode cL_law 2397 = .ok (.iload 6, 2) := by decide +kernel
theorem dL_law_2399 : decode cL_law 2399 = .ok (.ifCond .ne 15, 3) := by decide +kernel
theorem dL_law_2402 : decode cL_law 2402 = .ok (.aload_n 3, 1) := by decide +kernel
theorem dL_law_2403 : decode cL_law 2403 = .ok (.iconst 0, 1) := by decide +kernel
theorem dL_law_2404 : decode cL_law 2404 = .ok (.laload, 1) := by decide +kernel
theorem dL_law_2405 : decode cL_law 2405 = .ok (.iload 7, 2) := by decide +kernel
theorem dL_law_2407 : decode cL_law 2407 = .ok (.i2l, 1) := by decide +kernel
theorem dL_law_2408 : decode cL_law 2408 = .ok (.lcmp, 1) := by decide +kernel
theorem dL_law_2409 : decode cL_law 2409 = .ok (.ifCond .eq 5, 3) := by decide +kernel
theorem dL_law_2412 : decode cL_law 2412 = .ok (.iconst 0, 1) := by decide +kernel
theorem dL_law_2413 : decode cL_law 2413 = .ok (.ireturn, 1) := by decide +kernel
theorem dL_law_2414 : decode cL_law 2414 = .ok (.goto 1812, 3) := by decide +kernel
theorem dL_law_2417 : decode cL_law 2417 = .ok (.aload_n 1, 1) := by decide +kernel
theorem dL_law_2418 : decode cL_law 2418 = .ok (.aload_n 0, 1) := by decide +kernel
theorem dL_law_2419 : decode cL_law 2419 = .ok (.iload 5, 2) := by decide +kernel
theorem dL_law_2421 : decode cL_law 2421 = .ok (.iconst 1, 1) := by decide +kernel
theorem dL_law_2422 : decode cL_law 2422 = .ok (.iadd, 1) := by decide +kernel
theorem dL_law_2423 : decode cL_law 2423 = .ok (.iaload, 1) := by decide +kernel
theorem dL_law_2424 : decode cL_law 2424 = .ok (.aload_n 3, 1) := by decide +kernel
theorem dL_law_2425 : decode cL_law 2425 = .ok (.invokestatic 304, 3) := by decide +kernel
theorem dL_law_2428 : decode cL_law 2428 = .ok (.istore 6, 2) := by decide +kernel
theorem dL_law_2430 : decode cL_law 2430 = .ok (.aload_n 2, 1) := by decide +kernel
theorem dL_law_2431 : decode cL_law 2431 = .ok (.aload_n 0, 1) := by decide +kernel
theorem dL_law_2432 : decode cL_law 2432 = .ok (.iload 5, 2) := by decide +kernel
theorem dL_law_2434 : decode cL_law 2434 = .ok (.iconst 1, 1) := by decide +kernel
theorem dL_law_2435 : decode cL_law 2435 = .ok (.iadd, 1) := by decide +kernel
theorem dL_law_2436 : decode cL_law 2436 = .ok (.iaload, 1) := by decide +kernel
theorem dL_law_2437 : decode cL_law 2437 = .ok (.invokevirtual 306, 3) := by decide +kernel
theorem dL_law_2440 : decode cL_law 2440 = .ok (.istore 7, 2) := by decide +kernel
theorem dL_law_2442 : decode cL_law 2442 = .ok (.aload_n 2, 1) := by decide +kernel
theorem dL_law_2443 : decode cL_law 2443 = .ok (.invokevirtual 212, 3) := by decide +kernel
theorem dL_law_2446 : decode cL_law 2446 = .ok (.iload 6, 2) := by decide +kernel
theorem dL_law_2448 : decode cL_law 2448 = .ok (.if_icmp .eq 5, 3) := by decide +kernel
theorem dL_law_2451 : decode cL_law 2451 = .ok (.iconst 0, 1) := by decide +kernel
theorem dL_law_2452 : decode cL_law 2452 = .ok (.ireturn, 1) := by decide +kernel
theorem dL_law_2453 : decode cL_law 2453 = .ok (.iload 6, 2) := by decide +kernel
theorem dL_law_2455 : decode cL_law 2455 = .ok (.ifCond .ne 15, 3) := by decide +kernel
theorem dL_law_2458 : decode cL_law 2458 = .ok (.aload_n 3, 1) := by decide +kernel
theorem dL_law_2459 : decode cL_law 2459 = .ok (.iconst 0, 1) := by decide +kernel
theorem dL_law_2460 : decode cL_law 2460 = .ok (.laload, 1) := by decide +kernel
theorem dL_law_2461 : decode cL_law 2461 = .ok (.iload 7, 2) := by decide +kernel
theorem dL_law_2463 : decode cL_law 2463 = .ok (.i2l, 1) := by decide +kernel
theorem dL_law_2464 : decode cL_law 2464 = .ok (.lcmp, 1) := by decide +kernel
theorem dL_law_2465 : decode cL_law 2465 = .ok (.ifCond .eq 5, 3) := by decide +kernel
theorem dL_law_2468 : decode cL_law 2468 = .ok (.iconst 0, 1) := by decide +kernel
theorem dL_law_2469 : decode cL_law 2469 = .ok (.ireturn, 1) := by decide +kernel
theorem dL_law_2470 : decode cL_law 2470 = .ok (.goto 1756, 3) := by decide +kernel
theorem dL_law_2473 : decode cL_law 2473 = .ok (.aload_n 1, 1) := by decide +kernel
theorem dL_law_2474 : decode cL_law 2474 = .ok (.aload_n 0, 1) := by decide +kernel
theorem dL_law_2475 : decode cL_law 2475 = .ok (.iload 5, 2) := by decide +kernel
theorem dL_law_2477 : decode cL_law 2477 = .ok (.iconst 1, 1) := by decide +kernel
theorem dL_law_2478 : decode cL_law 2478 = .ok (.iadd, 1) := by decide +kernel
theorem dL_law_2479 : decode cL_law 2479 = .ok (.iaload, 1) := by decide +kernel
theorem dL_law_2480 : decode cL_law 2480 = .ok (.aload_n 3, 1) := by decide +kernel
theorem dL_law_2481 : decode cL_law 2481 = .ok (.invokestatic 307, 3) := by decide +kernel
theorem dL_law_2484 : decode cL_law 2484 = .ok (.istore 6, 2) := by decide +kernel
theorem dL_law_2486 : decode cL_law 2486 = .ok (.aload_n 2, 1) := by decide +kernel
theorem dL_law_2487 : decode cL_law 2487 = .ok (.aload_n 0, 1) := by decide +kernel
theorem dL_law_2488 : decode cL_law 2488 = .ok (.iload 5, 2) := by decide +kernel
theorem dL_law_2490 : decode cL_law 2490 = .ok (.iconst 1, 1) := by decide +kernel
theorem dL_law_2491 : decode cL_law 2491 = .ok (.iadd, 1) := by decide +kernel
theorem dL_law_2492 : decode cL_law 2492 = .ok (.iaload, 1) := by decide +kernel
theorem dL_law_2493 : decode cL_law 2493 = .ok (.invokevirtual 309, 3) := by decide +kernel
theorem dL_law_2496 : decode cL_law 2496 = .ok (.istore 7, 2) := by decide +kernel
theorem dL_law_2498 : decode cL_law 2498 = .ok (.aload_n 2, 1) := by decide +kernel
theorem dL_law_2499 : decode cL_law 2499 = .ok (.invokevirtual 212, 3) := by decide +kernel
theorem dL_law_2502 : decode cL_law 2502 = .ok (.iload 6, 2) := by decide +kernel
theorem dL_law_2504 : decode cL_law 2504 = .ok (.if_icmp .eq 5, 3) := by decide +kernel
theorem dL_law_2507 : decode cL_law 2507 = .ok (.iconst 0, 1) := by decide +kernel
theorem dL_law_2508 : decode cL_law 2508 = .ok (.ireturn, 1) := by decide +kernel
theorem dL_law_2509 : decode cL_law 2509 = .ok (.iload 6, 2) := by decide +kernel
theorem dL_law_2511 : decode cL_law 2511 = .ok (.ifCond .ne 15, 3) := by decide +kernel
theorem dL_law_2514 : decode cL_law 2514 = .ok (.aload_n 3, 1) := by decide +kernel
theorem dL_law_2515 : decode cL_law 2515 = .ok (.iconst 0, 1) := by decide +kernel
theorem dL_law_2516 : decode cL_law 2516 = .ok (.laload, 1) := by decide +kernel
theorem dL_law_2517 : decode cL_law 2517 = .ok (.iload 7, 2) := by decide +kernel
theorem dL_law_2519 : decode cL_law 2519 = .ok (.i2l, 1) := by decide +kernel
theorem dL_law_2520 : decode cL_law 2520 = .ok (.lcmp, 1) := by decide +kernel
theorem dL_law_2521 : decode cL_law 2521 = .ok (.ifCond .eq 5, 3) := by decide +kernel
theorem dL_law_2524 : decode cL_law 2524 = .ok (.iconst 0, 1) := by decide +kernel
theorem dL_law_2525 : decode cL_law 2525 = .ok (.ireturn, 1) := by decide +kernel
theorem dL_law_2526 : decode cL_law 2526 = .ok (.goto 1700, 3) := by decide +kernel
theorem dL_law_2529 : decode cL_law 2529 = .ok (.aload_n 1, 1) := by decide +kernel
theorem dL_law_2530 : decode cL_law 2530 = .ok (.aload_n 0, 1) := by decide +kernel
theorem dL_law_2531 : decode cL_law 2531 = .ok (.iload 5, 2) := by decide +kernel
theorem dL_law_2533 : decode cL_law 2533 = .ok (.iconst 1, 1) := by decide +kernel
theorem dL_law_2534 : decode cL_law 2534 = .ok (.iadd, 1) := by decide +kernel
theorem dL_law_2535 : decode cL_law 2535 = .ok (.iaload, 1) := by decide +kernel
theorem dL_law_2536 : decode cL_law 2536 = .ok (.aload_n 0, 1) := by decide +kernel
theorem dL_law_2537 : decode cL_law 2537 = .ok (.iload 5, 2) := by decide +kernel
theorem dL_law_2539 : decode cL_law 2539 = .ok (.iconst 2, 1) := by decide +kernel
theorem dL_law_2540 : decode cL_law 2540 = .ok (.iadd, 1) := by decide +kernel
theorem dL_law_2541 : decode cL_law 2541 = .ok (.iaload, 1) := by decide +kernel
theorem dL_law_2542 : decode cL_law 2542 = .ok (.i2l, 1) := by decide +kernel
theorem dL_law_2543 : decode cL_law 2543 = .ok (.bipush 32, 2) := by decide +kernel
theorem dL_law_2545 : decode cL_law 2545 = .ok (.lshl, 1) := by decide +kernel
theorem dL_law_2546 : decode cL_law 2546 = .ok (.aload_n 0, 1) := by decide +kernel
theorem dL_law_2547 : decode cL_law 2547 = .ok (.iload 5, 2) := by decide +kernel
theorem dL_law_2549 : decode cL_law 2549 = .ok (.iconst 3, 1) := by decide +kernel
theorem dL_law_2550 : decode cL_law 2550 = .ok (.iadd, 1) := by decide +kernel
theorem dL_law_2551 : decode cL_law 2551 = .ok (.iaload, 1) := by decide +kernel
theorem dL_law_2552 : decode cL_law 2552 = .ok (.i2l, 1) := by decide +kernel
theorem dL_law_2553 : decode cL_law 2553 = .ok (.ldc2_w 186, 3) := by decide +kernel
theorem dL_law_2556 : decode cL_law 2556 = .ok (.land, 1) := by decide +kernel
theorem dL_law_2557 : decode cL_law 2557 = .ok (.lor, 1) := by decide +kernel
theorem dL_law_2558 : decode cL_law 2558 = .ok (.aload_n 3, 1) := by decide +kernel
theorem dL_law_2559 : decode cL_law 2559 = .ok (.invokestatic 310, 3) := by decide +kernel
theorem dL_law_2562 : decode cL_law 2562 = .ok (.istore 6, 2) := by decide +kernel
theorem dL_law_2564 : decode cL_law 2564 = .ok (.aload_n 2, 1) := by decide +kernel
theorem dL_law_2565 : decode cL_law 2565 = .ok (.aload_n 0, 1) := by decide +kernel
theorem dL_law_2566 : decode cL_law 2566 = .ok (.iload 5, 2) := by decide +kernel
theorem dL_law_2568 : decode cL_law 2568 = .ok (.iconst 1, 1) := by decide +kernel
theorem dL_law_2569 : decode cL_law 2569 = .ok (.iadd, 1) := by decide +kernel
theorem dL_law_2570 : decode cL_law 2570 = .ok (.iaload, 1) := by decide +kernel
theorem dL_law_2571 : decode cL_law 2571 = .ok (.aload_n 0, 1) := by decide +kernel
theorem dL_law_2572 : decode cL_law 2572 = .ok (.iload 5, 2) := by decide +kernel
theorem dL_law_2574 : decode cL_law 2574 = .ok (.iconst 2, 1) := by decide +kernel
theorem dL_law_2575 : decode cL_law 2575 = .ok (.iadd, 1) := by decide +kernel
theorem dL_law_2576 : decode cL_law 2576 = .ok (.iaload, 1) := by decide +kernel
theorem dL_law_2577 : decode cL_law 2577 = .ok (.i2l, 1) := by decide +kernel
theorem dL_law_2578 : decode cL_law 2578 = .ok (.bipush 32, 2) := by decide +kernel
theorem dL_law_2580 : decode cL_law 2580 = .ok (.lshl, 1) := by decide +kernel
theorem dL_law_2581 : decode cL_law 2581 = .ok (.aload_n 0, 1) := by decide +kernel
theorem dL_law_2582 : decode cL_law 2582 = .ok (.iload 5, 2) := by decide +kernel
theorem dL_law_2584 : decode cL_law 2584 = .ok (.iconst 3, 1) := by decide +kernel
theorem dL_law_2585 : decode cL_law 2585 = .ok (.iadd, 1) := by decide +kernel
theorem dL_law_2586 : decode cL_law 2586 = .ok (.iaload, 1) := by decide +kernel
theorem dL_law_2587 : decode cL_law 2587 = .ok (.i2l, 1) := by decide +kernel
theorem dL_law_2588 : decode cL_law 2588 = .ok (.ldc2_w 186, 3) := by decide +kernel
theorem dL_law_2591 : decode cL_law 2591 = .ok (.land, 1) := by decide +kernel
theorem dL_law_2592 : decode cL_law 2592 = .ok (.lor, 1) := by decide +kernel
theorem dL_law_2593 : decode cL_law 2593 = .ok (.invokevirtual 312, 3) := by decide +kernel
theorem dL_law_2596 : decode cL_law 2596 = .ok (.lstore 7, 2) := by decide +kernel
theorem dL_law_2598 : decode cL_law 2598 = .ok (.aload_n 2, 1) := by decide +kernel
theorem dL_law_2599 : decode cL_law 2599 = .ok (.invokevirtual 212, 3) := by decide +kernel
theorem dL_law_2602 : decode cL_law 2602 = .ok (.iload 6, 2) := by decide +kernel
theorem dL_law_2604 : decode cL_law 2604 = .ok (.if_icmp .eq 5, 3) := by decide +kernel
theorem dL_law_2607 : decode cL_law 2607 = .ok (.iconst 0, 1) := by decide +kernel
theorem dL_law_2608 : decode cL_law 2608 = .ok (.ireturn, 1) := by decide +kernel
theorem dL_law_2609 : decode cL_law 2609 = .ok (.iload 6, 2) := by decide +kernel
theorem dL_law_2611 : decode cL_law 2611 = .ok (.ifCond .ne 14, 3) := by decide +kernel
theorem dL_law_2614 : decode cL_law 2614 = .ok (.aload_n 3, 1) := by decide +kernel
theorem dL_law_2615 : decode cL_law 2615 = .ok (.iconst 0, 1) := by decide +kernel
theorem dL_law_2616 : decode cL_law 2616 = .ok (.laload, 1) := by decide +kernel
theorem dL_law_2617 : decode cL_law 2617 = .ok (.lload 7, 2) := by decide +kernel
theorem dL_law_2619 : decode cL_law 2619 = .ok (.lcmp, 1) := by decide +kernel
theorem dL_law_2620 : decode cL_law 2620 = .ok (.ifCond .eq 5, 3) := by decide +kernel
theorem dL_law_2623 : decode cL_law 2623 = .ok (.iconst 0, 1) := by decide +kernel
theorem dL_law_2624 : decode cL_law 2624 = .ok (.ireturn, 1) := by decide +kernel
theorem dL_law_2625 : decode cL_law 2625 = .ok (.goto 1601, 3) := by decide +kernel
theorem dL_law_2628 : decode cL_law 2628 = .ok (.aload_n 1, 1) := by decide +kernel
theorem dL_law_2629 : decode cL_law 2629 = .ok (.aload_n 0, 1) := by decide +kernel
theorem dL_law_2630 : decode cL_law 2630 = .ok (.iload 5, 2) := by decide +kernel
theorem dL_law_2632 : decode cL_law 2632 = .ok (.iconst 1, 1) := by decide +kernel
theorem dL_law_2633 : decode cL_law 2633 = .ok (.iadd, 1) := by decide +kernel
theorem dL_law_2634 : decode cL_law 2634 = .ok (.iaload, 1) := by decide +kernel
theorem dL_law_2635 : decode cL_law 2635 = .ok (.aload_n 0, 1) := by decide +kernel
theorem dL_law_2636 : decode cL_law 2636 = .ok (.iload 5, 2) := by decide +kernel
theorem dL_law_2638 : decode cL_law 2638 = .ok (.iconst 2, 1) := by decide +kernel
theorem dL_law_2639 : decode cL_law 2639 = .ok (.iadd, 1) := by decide +kernel
theorem dL_law_2640 : decode cL_law 2640 = .ok (.iaload, 1) := by decide +kernel
theorem dL_law_2641 : decode cL_law 2641 = .ok (.i2l, 1) := by decide +kernel
theorem dL_law_2642 : decode cL_law 2642 = .ok (.bipush 32, 2) := by decide +kernel
theorem dL_law_2644 : decode cL_law 2644 = .ok (.lshl, 1) := by decide +kernel
theorem dL_law_2645 : decode cL_law 2645 = .ok (.aload_n 0, 1) := by decide +kernel
theorem dL_law_2646 : decode cL_law 2646 = .ok (.iload 5, 2) := by decide +kernel
theorem dL_law_2648 : decode cL_law 2648 = .ok (.iconst 3, 1) := by decide +kernel
theorem dL_law_2649 : decode cL_law 2649 = .ok (.iadd, 1) := by decide +kernel
theorem dL_law_2650 : decode cL_law 2650 = .ok (.iaload, 1) := by decide +kernel
theorem dL_law_2651 : decode cL_law 2651 = .ok (.i2l, 1) := by decide +kernel
theorem dL_law_2652 : decode cL_law 2652 = .ok (.ldc2_w 186, 3) := by decide +kernel
theorem dL_law_2655 : decode cL_law 2655 = .ok (.land, 1) := by decide +kernel
theorem dL_law_2656 : decode cL_law 2656 = .ok (.lor, 1) := by decide +kernel
theorem dL_law_2657 : decode cL_law 2657 = .ok (.aload_n 3, 1) := by decide +kernel
theorem dL_law_2658 : decode cL_law 2658 = .ok (.invokestatic 313, 3) := by decide +kernel
theorem dL_law_2661 : decode cL_law 2661 = .ok (.istore 6, 2) := by decide +kernel
theorem dL_law_2663 : decode cL_law 2663 = .ok (.aload_n 2, 1) := by decide +kernel
theorem dL_law_2664 : decode cL_law 2664 = .ok (.aload_n 0, 1) := by decide +kernel
theorem dL_law_2665 : decode cL_law 2665 = .ok (.iload 5, 2) := by decide +kernel
theorem dL_law_2667 : decode cL_law 2667 = .ok (.iconst 1, 1) := by decide +kernel
theorem dL_law_2668 : decode cL_law 2668 = .ok (.iadd, 1) := by decide +kernel
theorem dL_law_2669 : decode cL_law 2669 = .ok (.iaload, 1) := by decide +kernel
theorem dL_law_2670 : decode cL_law 2670 = .ok (.aload_n 0, 1) := by decide +kernel
theorem dL_law_2671 : decode cL_law 2671 = .ok (.iload 5, 2) := by decide +kernel
theorem dL_law_2673 : decode cL_law 2673 = .ok (.iconst 2, 1) := by decide +kernel
theorem dL_law_2674 : decode cL_law 2674 = .ok (.iadd, 1) := by decide +kernel
theorem dL_law_2675 : decode cL_law 2675 = .ok (.iaload, 1) := by decide +kernel
theorem dL_law_2676 : decode cL_law 2676 = .ok (.i2l, 1) := by decide +kernel
theorem dL_law_2677 : decode cL_law 2677 = .ok (.bipush 32, 2) := by decide +kernel
theorem dL_law_2679 : decode cL_law 2679 = .ok (.lshl, 1) := by decide +kernel
theorem dL_law_2680 : decode cL_law 2680 = .ok (.aload_n 0, 1) := by decide +kernel
theorem dL_law_2681 : decode cL_law 2681 = .ok (.iload 5, 2) := by decide +kernel
theorem dL_law_2683 : decode cL_law 2683 = .ok (.iconst 3, 1) := by decide +kernel
theorem dL_law_2684 : decode cL_law 2684 = .ok (.iadd, 1) := by decide +kernel
theorem dL_law_2685 : decode cL_law 2685 = .ok (.iaload, 1) := by decide +kernel
theorem dL_law_2686 : decode cL_law 2686 = .ok (.i2l, 1) := by decide +kernel
theorem dL_law_2687 : decode cL_law 2687 = .ok (.ldc2_w 186, 3) := by decide +kernel
theorem dL_law_2690 : decode cL_law 2690 = .ok (.land, 1) := by decide +kernel
theorem dL_law_2691 : decode cL_law 2691 = .ok (.lor, 1) := by decide +kernel
theorem dL_law_2692 : decode cL_law 2692 = .ok (.invokevirtual 315, 3) := by decide +kernel
theorem dL_law_2695 : decode cL_law 2695 = .ok (.istore 7, 2) := by decide +kernel
theorem dL_law_2697 : decode cL_law 2697 = .ok (.aload_n 2, 1) := by decide +kernel
theorem dL_law_2698 : decode cL_law 2698 = .ok (.invokevirtual 212, 3) := by decide +kernel
theorem dL_law_2701 : decode cL_law 2701 = .ok (.iload 6, 2) := by decide +kernel
theorem dL_law_2703 : decode cL_law 2703 = .ok (.if_icmp .eq 5, 3) := by decide +kernel
theorem dL_law_2706 : decode cL_law 2706 = .ok (.iconst 0, 1) := by decide +kernel
theorem dL_law_2707 : decode cL_law 2707 = .ok (.ireturn, 1) := by decide +kernel
theorem dL_law_2708 : decode cL_law 2708 = .ok (.iload 6, 2) := by decide +kernel
theorem dL_law_2710 : decode cL_law 2710 = .ok (.ifCond .ne 15, 3) := by decide +kernel
theorem dL_law_2713 : decode cL_law 2713 = .ok (.aload_n 3, 1) := by decide +kernel
theorem dL_law_2714 : decode cL_law 2714 = .ok (.iconst 0, 1) := by decide +kernel
theorem dL_law_2715 : decode cL_law 2715 = .ok (.laload, 1) := by decide +kernel
theorem dL_law_2716 : decode cL_law 2716 = .ok (.iload 7, 2) := by decide +kernel
theorem dL_law_2718 : decode cL_law 2718 = .ok (.i2l, 1) := by decide +kernel
theorem dL_law_2719 : decode cL_law 2719 = .ok (.lcmp, 1) := by decide +kernel
theorem dL_law_2720 : decode cL_law 2720 = .ok (.ifCond .eq 5, 3) := by decide +kernel
theorem dL_law_2723 : decode cL_law 2723 = .ok (.iconst 0, 1) := by decide +kernel
theorem dL_law_2724 : decode cL_law 2724 = .ok (.ireturn, 1) := by decide +kernel
theorem dL_law_2725 : decode cL_law 2725 = .ok (.goto 1501, 3) := by decide +kernel
theorem dL_law_2728 : decode cL_law 2728 = .ok (.aload_n 1, 1) := by decide +kernel
theorem dL_law_2729 : decode cL_law 2729 = .ok (.aload_n 0, 1) := by decide +kernel
theorem dL_law_2730 : decode cL_law 2730 = .ok (.iload 5, 2) := by decide +kernel
theorem dL_law_2732 : decode cL_law 2732 = .ok (.iconst 1, 1) := by decide +kernel
theorem dL_law_2733 : decode cL_law 2733 = .ok (.iadd, 1) := by decide +kernel
theorem dL_law_2734 : decode cL_law 2734 = .ok (.iaload, 1) := by decide +kernel
theorem dL_law_2735 : decode cL_law 2735 = .ok (.aload_n 0, 1) := by decide +kernel
theorem dL_law_2736 : decode cL_law 2736 = .ok (.iload 5, 2) := by decide +kernel
theorem dL_law_2738 : decode cL_law 2738 = .ok (.iconst 2, 1) := by decide +kernel
theorem dL_law_2739 : decode cL_law 2739 = .ok (.iadd, 1) := by decide +kernel
theorem dL_law_2740 : decode cL_law 2740 = .ok (.iaload, 1) := by decide +kernel
theorem dL_law_2741 : decode cL_law 2741 = .ok (.aload_n 3, 1) := by decide +kernel
theorem dL_law_2742 : decode cL_law 2742 = .ok (.invokestatic 316, 3) := by decide +kernel
theorem dL_law_2745 : decode cL_law 2745 = .ok (.istore 6, 2) := by decide +kernel
theorem dL_law_2747 : decode cL_law 2747 = .ok (.aload_n 2, 1) := by decide +kernel
theorem dL_law_2748 : decode cL_law 2748 = .ok (.aload_n 0, 1) := by decide +kernel
theorem dL_law_2749 : decode cL_law 2749 = .ok (.iload 5, 2) := by decide +kernel
theorem dL_law_2751 : decode cL_law 2751 = .ok (.iconst 1, 1) := by decide +kernel
theorem dL_law_2752 : decode cL_law 2752 = .ok (.iadd, 1) := by decide +kernel
theorem dL_law_2753 : decode cL_law 2753 = .ok (.iaload, 1) := by decide +kernel
theorem dL_law_2754 : decode cL_law 2754 = .ok (.aload_n 0, 1) := by decide +kernel
theorem dL_law_2755 : decode cL_law 2755 = .ok (.iload 5, 2) := by decide +kernel
theorem dL_law_2757 : decode cL_law 2757 = .ok (.iconst 2, 1) := by decide +kernel
theorem dL_law_2758 : decode cL_law 2758 = .ok (.iadd, 1) := by decide +kernel
theorem dL_law_2759 : decode cL_law 2759 = .ok (.iaload, 1) := by decide +kernel
theorem dL_law_2760 : decode cL_law 2760 = .ok (.invokevirtual 318, 3) := by decide +kernel
theorem dL_law_2763 : decode cL_law 2763 = .ok (.istore 7, 2) := by decide +kernel
theorem dL_law_2765 : decode cL_law 2765 = .ok (.aload_n 2, 1) := by decide +kernel
theorem dL_law_2766 : decode cL_law 2766 = .ok (.invokevirtual 212, 3) := by decide +kernel
theorem dL_law_2769 : decode cL_law 2769 = .ok (.iload 6, 2) := by decide +kernel
theorem dL_law_2771 : decode cL_law 2771 = .ok (.if_icmp .eq 5, 3) := by decide +kernel
theorem dL_law_2774 : decode cL_law 2774 = .ok (.iconst 0, 1) := by decide +kernel
theorem dL_law_2775 : decode cL_law 2775 = .ok (.ireturn, 1) := by decide +kernel
theorem dL_law_2776 : decode cL_law 2776 = .ok (.iload 6, 2) := by decide +kernel
theorem dL_law_2778 : decode cL_law 2778 = .ok (.ifCond .ne 15, 3) := by decide +kernel
theorem dL_law_2781 : decode cL_law 2781 = .ok (.aload_n 3, 1) := by decide +kernel
theorem dL_law_2782 : decode cL_law 2782 = .ok (.iconst 0, 1) := by decide +kernel
theorem dL_law_2783 : decode cL_law 2783 = .ok (.laload, 1) := by decide +kernel
theorem dL_law_2784 : decode cL_law 2784 = .ok (.iload 7, 2) := by decide +kernel
theorem dL_law_2786 : decode cL_law 2786 = .ok (.i2l, 1) := by decide +kernel
theorem dL_law_2787 : decode cL_law 2787 = .ok (.lcmp, 1) := by decide +kernel
theorem dL_law_2788 : decode cL_law 2788 = .ok (.ifCond .eq 5, 3) := by decide +kernel
theorem dL_law_2791 : decode cL_law 2791 = .ok (.iconst 0, 1) := by decide +kernel
theorem dL_law_2792 : decode cL_law 2792 = .ok (.ireturn, 1) := by decide +kernel
theorem dL_law_2793 : decode cL_law 2793 = .ok (.goto 1433, 3) := by decide +kernel
theorem dL_law_2796 : decode cL_law 2796 = .ok (.aload_n 1, 1) := by decide +kernel
theorem dL_law_2797 : decode cL_law 2797 = .ok (.aload_n 0, 1) := by decide +kernel
theorem dL_law_2798 : decode cL_law 2798 = .ok (.iload 5, 2) := by decide +kernel
theorem dL_law_2800 : decode cL_law 2800 = .ok (.iconst 1, 1) := by decide +kernel
theorem dL_law_2801 : decode cL_law 2801 = .ok (.iadd, 1) := by decide +kernel
theorem dL_law_2802 : decode cL_law 2802 = .ok (.iaload, 1) := by decide +kernel
theorem dL_law_2803 : decode cL_law 2803 = .ok (.aload_n 0, 1) := by decide +kernel
theorem dL_law_2804 : decode cL_law 2804 = .ok (.iload 5, 2) := by decide +kernel
theorem dL_law_2806 : decode cL_law 2806 = .ok (.iconst 2, 1) := by decide +kernel
theorem dL_law_2807 : decode cL_law 2807 = .ok (.iadd, 1) := by decide +kernel
theorem dL_law_2808 : decode cL_law 2808 = .ok (.iaload, 1) := by decide +kernel
theorem dL_law_2809 : decode cL_law 2809 = .ok (.aload_n 0, 1) := by decide +kernel
theorem dL_law_2810 : decode cL_law 2810 = .ok (.iload 5, 2) := by decide +kernel
theorem dL_law_2812 : decode cL_law 2812 = .ok (.iconst 3, 1) := by decide +kernel
theorem dL_law_2813 : decode cL_law 2813 = .ok (.iadd, 1) := by decide +kernel
theorem dL_law_2814 : decode cL_law 2814 = .ok (.iaload, 1) := by decide +kernel
theorem dL_law_2815 : decode cL_law 2815 = .ok (.aload_n 0, 1) := by decide +kernel
theorem dL_law_2816 : decode cL_law 2816 = .ok (.iload 5, 2) := by decide +kernel
theorem dL_law_2818 : decode cL_law 2818 = .ok (.iconst 4, 1) := by decide +kernel
theorem dL_law_2819 : decode cL_law 2819 = .ok (.iadd, 1) := by decide +kernel
theorem dL_law_2820 : decode cL_law 2820 = .ok (.iaload, 1) := by decide +kernel
theorem dL_law_2821 : decode cL_law 2821 = .ok (.ifCond .eq 7, 3) := by decide +kernel
theorem dL_law_2824 : decode cL_law 2824 = .ok (.iconst 1, 1) := by decide +kernel
theorem dL_law_2825 : decode cL_law 2825 = .ok (.goto 4, 3) := by decide +kernel
theorem dL_law_2828 : decode cL_law 2828 = .ok (.iconst 0, 1) := by decide +kernel
theorem dL_law_2829 : decode cL_law 2829 = .ok (.aload_n 3, 1) := by decide +kernel
theorem dL_law_2830 : decode cL_law 2830 = .ok (.invokestatic 319, 3) := by decide +kernel
theorem dL_law_2833 : decode cL_law 2833 = .ok (.istore 6, 2) := by decide +kernel
theorem dL_law_2835 : decode cL_law 2835 = .ok (.aload_n 2, 1) := by decide +kernel
theorem dL_law_2836 : decode cL_law 2836 = .ok (.aload_n 0, 1) := by decide +kernel
theorem dL_law_2837 : decode cL_law 2837 = .ok (.iload 5, 2) := by decide +kernel
theorem dL_law_2839 : decode cL_law 2839 = .ok (.iconst 1, 1) := by decide +kernel
theorem dL_law_2840 : decode cL_law 2840 = .ok (.iadd, 1) := by decide +kernel
theorem dL_law_2841 : decode cL_law 2841 = .ok (.iaload, 1) := by decide +kernel
theorem dL_law_2842 : decode cL_law 2842 = .ok (.aload_n 0, 1) := by decide +kernel
theorem dL_law_2843 : decode cL_law 2843 = .ok (.iload 5, 2) := by decide +kernel
theorem dL_law_2845 : decode cL_law 2845 = .ok (.iconst 2, 1) := by decide +kernel
theorem dL_law_2846 : decode cL_law 2846 = .ok (.iadd, 1) := by decide +kernel
theorem dL_law_2847 : decode cL_law 2847 = .ok (.iaload, 1) := by decide +kernel
theorem dL_law_2848 : decode cL_law 2848 = .ok (.aload_n 0, 1) := by decide +kernel
theorem dL_law_2849 : decode cL_law 2849 = .ok (.iload 5, 2) := by decide +kernel
theorem dL_law_2851 : decode cL_law 2851 = .ok (.iconst 3, 1) := by decide +kernel
theorem dL_law_2852 : decode cL_law 2852 = .ok (.iadd, 1) := by decide +kernel
theorem dL_law_2853 : decode cL_law 2853 = .ok (.iaload, 1) := by decide +kernel
theorem dL_law_2854 : decode cL_law 2854 = .ok (.aload_n 0, 1) := by decide +kernel
theorem dL_law_2855 : decode cL_law 2855 = .ok (.iload 5, 2) := by decide +kernel
theorem dL_law_2857 : decode cL_law 2857 = .ok (.iconst 4, 1) := by decide +kernel
theorem dL_law_2858 : decode cL_law 2858 = .ok (.iadd, 1) := by decide +kernel
theorem dL_law_2859 : decode cL_law 2859 = .ok (.iaload, 1) := by decide +kernel
theorem dL_law_2860 : decode cL_law 2860 = .ok (.ifCond .eq 7, 3) := by decide +kernel
theorem dL_law_2863 : decode cL_law 2863 = .ok (.iconst 1, 1) := by decide +kernel
theorem dL_law_2864 : decode cL_law 2864 = .ok (.goto 4, 3) := by decide +kernel
theorem dL_law_2867 : decode cL_law 2867 = .ok (.iconst 0, 1) := by decide +kernel
theorem dL_law_2868 : decode cL_law 2868 = .ok (.invokevirtual 322, 3) := by decide +kernel
theorem dL_law_2871 : decode cL_law 2871 = .ok (.istore 7, 2) := by decide +kernel
theorem dL_law_2873 : decode cL_law 2873 = .ok (.aload_n 2, 1) := by decide +kernel
theorem dL_law_2874 : decode cL_law 2874 = .ok (.invokevirtual 212, 3) := by decide +kernel
theorem dL_law_2877 : decode cL_law 2877 = .ok (.iload 6, 2) := by decide +kernel
theorem dL_law_2879 : decode cL_law 2879 = .ok (.if_icmp .eq 5, 3) := by decide +kernel
theorem dL_law_2882 : decode cL_law 2882 = .ok (.iconst 0, 1) := by decide +kernel
theorem dL_law_2883 : decode cL_law 2883 = .ok (.ireturn, 1) := by decide +kernel
theorem dL_law_2884 : decode cL_law 2884 = .ok (.iload 6, 2) := by decide +kernel
theorem dL_law_2886 : decode cL_law 2886 = .ok (.ifCond .ne 15, 3) := by decide +kernel
theorem dL_law_2889 : decode cL_law 2889 = .ok (.aload_n 3, 1) := by decide +kernel
theorem dL_law_2890 : decode cL_law 2890 = .ok (.iconst 0, 1) := by decide +kernel
theorem dL_law_2891 : decode cL_law 2891 = .ok (.laload, 1) := by decide +kernel
theorem dL_law_2892 : decode cL_law 2892 = .ok (.iload 7, 2) := by decide +kernel
theorem dL_law_2894 : decode cL_law 2894 = .ok (.i2l, 1) := by decide +kernel
theorem dL_law_2895 : decode cL_law 2895 = .ok (.lcmp, 1) := by decide +kernel
theorem dL_law_2896 : decode cL_law 2896 = .ok (.ifCond .eq 5, 3) := by decide +kernel
theorem dL_law_2899 : decode cL_law 2899 = .ok (.iconst 0, 1) := by decide +kernel
theorem dL_law_2900 : decode cL_law 2900 = .ok (.ireturn, 1) := by decide +kernel
theorem dL_law_2901 : decode cL_law 2901 = .ok (.goto 1325, 3) := by decide +kernel
theorem dL_law_2904 : decode cL_law 2904 = .ok (.aload_n 1, 1) := by decide +kernel
theorem dL_law_2905 : decode cL_law 2905 = .ok (.aload_n 0, 1) := by decide +kernel
theorem dL_law_2906 : decode cL_law 2906 = .ok (.iload 5, 2) := by decide +kernel
theorem dL_law_2908 : decode cL_law 2908 = .ok (.iconst 1, 1) := by decide +kernel
theorem dL_law_2909 : decode cL_law 2909 = .ok (.iadd, 1) := by decide +kernel
theorem dL_law_2910 : decode cL_law 2910 = .ok (.iaload, 1) := by decide +kernel
theorem dL_law_2911 : decode cL_law 2911 = .ok (.aload_n 0, 1) := by decide +kernel
theorem dL_law_2912 : decode cL_law 2912 = .ok (.iload 5, 2) := by decide +kernel
theorem dL_law_2914 : decode cL_law 2914 = .ok (.iconst 2, 1) := by decide +kernel
theorem dL_law_2915 : decode cL_law 2915 = .ok (.iadd, 1) := by decide +kernel
theorem dL_law_2916 : decode cL_law 2916 = .ok (.iaload, 1) := by decide +kernel
theorem dL_law_2917 : decode cL_law 2917 = .ok (.aload_n 0, 1) := by decide +kernel
theorem dL_law_2918 : decode cL_law 2918 = .ok (.iload 5, 2) := by decide +kernel
theorem dL_law_2920 : decode cL_law 2920 = .ok (.iconst 3, 1) := by decide +kernel
theorem dL_law_2921 : decode cL_law 2921 = .ok (.iadd, 1) := by decide +kernel
theorem dL_law_2922 : decode cL_law 2922 = .ok (.iaload, 1) := by decide +kernel
theorem dL_law_2923 : decode cL_law 2923 = .ok (.i2l, 1) := by decide +kernel
theorem dL_law_2924 : decode cL_law 2924 = .ok (.bipush 32, 2) := by decide +kernel
theorem dL_law_2926 : decode cL_law 2926 = .ok (.lshl, 1) := by decide +kernel
theorem dL_law_2927 : decode cL_law 2927 = .ok (.aload_n 0, 1) := by decide +kernel
theorem dL_law_2928 : decode cL_law 2928 = .ok (.iload 5, 2) := by decide +kernel
theorem dL_law_2930 : decode cL_law 2930 = .ok (.iconst 4, 1) := by decide +kernel
theorem dL_law_2931 : decode cL_law 2931 = .ok (.iadd, 1) := by decide +kernel
theorem dL_law_2932 : decode cL_law 2932 = .ok (.iaload, 1) := by decide +kernel
theorem dL_law_2933 : decode cL_law 2933 = .ok (.i2l, 1) := by decide +kernel
theorem dL_law_2934 : decode cL_law 2934 = .ok (.ldc2_w 186, 3) := by decide +kernel
theorem dL_law_2937 : decode cL_law 2937 = .ok (.land, 1) := by decide +kernel
theorem dL_law_2938 : decode cL_law 2938 = .ok (.lor, 1) := by decide +kernel
theorem dL_law_2939 : decode cL_law 2939 = .ok (.aload_n 3, 1) := by decide +kernel
theorem dL_law_2940 : decode cL_law 2940 = .ok (.invokestatic 323, 3) := by decide +kernel
theorem dL_law_2943 : decode cL_law 2943 = .ok (.istore 6, 2) := by decide +kernel
theorem dL_law_2945 : decode cL_law 2945 = .ok (.aload_n 2, 1) := by decide +kernel
theorem dL_law_2946 : decode cL_law 2946 = .ok (.aload_n 0, 1) := by decide +kernel
theorem dL_law_2947 : decode cL_law 2947 = .ok (.iload 5, 2) := by decide +kernel
theorem dL_law_2949 : decode cL_law 2949 = .ok (.iconst 1, 1) := by decide +kernel
theorem dL_law_2950 : decode cL_law 2950 = .ok (.iadd, 1) := by decide +kernel
theorem dL_law_2951 : decode cL_law 2951 = .ok (.iaload, 1) := by decide +kernel
theorem dL_law_2952 : decode cL_law 2952 = .ok (.aload_n 0, 1) := by decide +kernel
theorem dL_law_2953 : decode cL_law 2953 = .ok (.iload 5, 2) := by decide +kernel
theorem dL_law_2955 : decode cL_law 2955 = .ok (.iconst 2, 1) := by decide +kernel
theorem dL_law_2956 : decode cL_law 2956 = .ok (.iadd, 1) := by decide +kernel
theorem dL_law_2957 : decode cL_law 2957 = .ok (.iaload, 1) := by decide +kernel
theorem dL_law_2958 : decode cL_law 2958 = .ok (.aload_n 0, 1) := by decide +kernel
theorem dL_law_2959 : decode cL_law 2959 = .ok (.iload 5, 2) := by decide +kernel
theorem dL_law_2961 : decode cL_law 2961 = .ok (.iconst 3, 1) := by decide +kernel
theorem dL_law_2962 : decode cL_law 2962 = .ok (.iadd, 1) := by decide +kernel
theorem dL_law_2963 : decode cL_law 2963 = .ok (.iaload, 1) := by decide +kernel
theorem dL_law_2964 : decode cL_law 2964 = .ok (.i2l, 1) := by decide +kernel
theorem dL_law_2965 : decode cL_law 2965 = .ok (.bipush 32, 2) := by decide +kernel
theorem dL_law_2967 : decode cL_law 2967 = .ok (.lshl, 1) := by decide +kernel
theorem dL_law_2968 : decode cL_law 2968 = .ok (.aload_n 0, 1) := by decide +kernel
theorem dL_law_2969 : decode cL_law 2969 = .ok (.iload 5, 2) := by decide +kernel
theorem dL_law_2971 : decode cL_law 2971 = .ok (.iconst 4, 1) := by decide +kernel
theorem dL_law_2972 : decode cL_law 2972 = .ok (.iadd, 1) := by decide +kernel
theorem dL_law_2973 : decode cL_law 2973 = .ok (.iaload, 1) := by decide +kernel
theorem dL_law_2974 : decode cL_law 2974 = .ok (.i2l, 1) := by decide +kernel
theorem dL_law_2975 : decode cL_law 2975 = .ok (.ldc2_w 186, 3) := by decide +kernel
theorem dL_law_2978 : decode cL_law 2978 = .ok (.land, 1) := by decide +kernel
theorem dL_law_2979 : decode cL_law 2979 = .ok (.lor, 1) := by decide +kernel
theorem dL_law_2980 : decode cL_law 2980 = .ok (.invokevirtual 326, 3) := by decide +kernel
theorem dL_law_2983 : decode cL_law 2983 = .ok (.istore 7, 2) := by decide +kernel
theorem dL_law_2985 : decode cL_law 2985 = .ok (.aload_n 2, 1) := by decide +kernel
theorem dL_law_2986 : decode cL_law 2986 = .ok (.invokevirtual 212, 3) := by decide +kernel
theorem dL_law_2989 : decode cL_law 2989 = .ok (.iload 6, 2) := by decide +kernel
theorem dL_law_2991 : decode cL_law 2991 = .ok (.if_icmp .eq 5, 3) := by decide +kernel
theorem dL_law_2994 : decode cL_law 2994 = .ok (.iconst 0, 1) := by decide +kernel
theorem dL_law_2995 : decode cL_law 2995 = .ok (.ireturn, 1) := by decide +kernel
theorem dL_law_2996 : decode cL_law 2996 = .ok (.iload 6, 2) := by decide +kernel
theorem dL_law_2998 : decode cL_law 2998 = .ok (.ifCond .ne 15, 3) := by decide +kernel
theorem dL_law_3001 : decode cL_law 3001 = .ok (.aload_n 3, 1) := by decide +kernel
theorem dL_law_3002 : decode cL_law 3002 = .ok (.iconst 0, 1) := by decide +kernel
theorem dL_law_3003 : decode cL_law 3003 = .ok (.laload, 1) := by decide +kernel
theorem dL_law_3004 : decode cL_law 3004 = .ok (.iload 7, 2) := by decide +kernel
theorem dL_law_3006 : decode cL_law 3006 = .ok (.i2l, 1) := by decide +kernel
theorem dL_law_3007 : decode cL_law 3007 = .ok (.lcmp, 1) := by decide +kernel
theorem dL_law_3008 : decode cL_law 3008 = .ok (.ifCond .eq 5, 3) := by decide +kernel
theorem dL_law_3011 : decode cL_law 3011 = .ok (.iconst 0, 1) := by decide +kernel
theorem dL_law_3012 : decode cL_law 3012 = .ok (.ireturn, 1) := by decide +kernel
theorem dL_law_3013 : decode cL_law 3013 = .ok (.goto 1213, 3) := by decide +kernel
theorem dL_law_3016 : decode cL_law 3016 = .ok (.aload_n 1, 1) := by decide +kernel
theorem dL_law_3017 : decode cL_law 3017 = .ok (.aload_n 0, 1) := by decide +kernel
theorem dL_law_3018 : decode cL_law 3018 = .ok (.iload 5, 2) := by decide +kernel
theorem dL_law_3020 : decode cL_law 3020 = .ok (.iconst 1, 1) := by decide +kernel
theorem dL_law_3021 : decode cL_law 3021 = .ok (.iadd, 1) := by decide +kernel
theorem dL_law_3022 : decode cL_law 3022 = .ok (.iaload, 1) := by decide +kernel
theorem dL_law_3023 : decode cL_law 3023 = .ok (.aload_n 0, 1) := by decide +kernel
theorem dL_law_3024 : decode cL_law 3024 = .ok (.iload 5, 2) := by decide +kernel
theorem dL_law_3026 : decode cL_law 3026 = .ok (.iconst 2, 1) := by decide +kernel
theorem dL_law_3027 : decode cL_law 3027 = .ok (.iadd, 1) := by decide +kernel
theorem dL_law_3028 : decode cL_law 3028 = .ok (.iaload, 1) := by decide +kernel
theorem dL_law_3029 : decode cL_law 3029 = .ok (.aload_n 3, 1) := by decide +kernel
theorem dL_law_3030 : decode cL_law 3030 = .ok (.invokestatic 327, 3) := by decide +kernel
theorem dL_law_3033 : decode cL_law 3033 = .ok (.istore 6, 2) := by decide +kernel
theorem dL_law_3035 : decode cL_law 3035 = .ok (.aload_n 2, 1) := by decide +kernel
theorem dL_law_3036 : decode cL_law 3036 = .ok (.aload_n 0, 1) := by decide +kernel
theorem dL_law_3037 : decode cL_law 3037 = .ok (.iload 5, 2) := by decide +kernel
theorem dL_law_3039 : decode cL_law 3039 = .ok (.iconst 1, 1) := by decide +kernel
theorem dL_law_3040 : decode cL_law 3040 = .ok (.iadd, 1) := by decide +kernel
theorem dL_law_3041 : decode cL_law 3041 = .ok (.iaload, 1) := by decide +kernel
theorem dL_law_3042 : decode cL_law 3042 = .ok (.aload_n 0, 1) := by decide +kernel
theorem dL_law_3043 : decode cL_law 3043 = .ok (.iload 5, 2) := by decide +kernel
theorem dL_law_3045 : decode cL_law 3045 = .ok (.iconst 2, 1) := by decide +kernel
theorem dL_law_3046 : decode cL_law 3046 = .ok (.iadd, 1) := by decide +kernel
theorem dL_law_3047 : decode cL_law 3047 = .ok (.iaload, 1) := by decide +kernel
theorem dL_law_3048 : decode cL_law 3048 = .ok (.invokevirtual 329, 3) := by decide +kernel
theorem dL_law_3051 : decode cL_law 3051 = .ok (.istore 7, 2) := by decide +kernel
theorem dL_law_3053 : decode cL_law 3053 = .ok (.aload_n 2, 1) := by decide +kernel
theorem dL_law_3054 : decode cL_law 3054 = .ok (.invokevirtual 212, 3) := by decide +kernel
theorem dL_law_3057 : decode cL_law 3057 = .ok (.iload 6, 2) := by decide +kernel
theorem dL_law_3059 : decode cL_law 3059 = .ok (.if_icmp .eq 5, 3) := by decide +kernel
theorem dL_law_3062 : decode cL_law 3062 = .ok (.iconst 0, 1) := by decide +kernel
theorem dL_law_3063 : decode cL_law 3063 = .ok (.ireturn, 1) := by decide +kernel
theorem dL_law_3064 : decode cL_law 3064 = .ok (.iload 6, 2) := by decide +kernel
theorem dL_law_3066 : decode cL_law 3066 = .ok (.ifCond .ne 15, 3) := by decide +kernel
theorem dL_law_3069 : decode cL_law 3069 = .ok (.aload_n 3, 1) := by decide +kernel
theorem dL_law_3070 : decode cL_law 3070 = .ok (.iconst 0, 1) := by decide +kernel
theorem dL_law_3071 : decode cL_law 3071 = .ok (.laload, 1) := by decide +kernel
theorem dL_law_3072 : decode cL_law 3072 = .ok (.iload 7, 2) := by decide +kernel
theorem dL_law_3074 : decode cL_law 3074 = .ok (.i2l, 1) := by decide +kernel
theorem dL_law_3075 : decode cL_law 3075 = .ok (.lcmp, 1) := by decide +kernel
theorem dL_law_3076 : decode cL_law 3076 = .ok (.ifCond .eq 5, 3) := by decide +kernel
theorem dL_law_3079 : decode cL_law 3079 = .ok (.iconst 0, 1) := by decide +kernel
theorem dL_law_3080 : decode cL_law 3080 = .ok (.ireturn, 1) := by decide +kernel
theorem dL_law_3081 : decode cL_law 3081 = .ok (.goto 1145, 3) := by decide +kernel
theorem dL_law_3084 : decode cL_law 3084 = .ok (.aload_n 1, 1) := by decide +kernel
theorem dL_law_3085 : decode cL_law 3085 = .ok (.aload_n 0, 1) := by decide +kernel
theorem dL_law_3086 : decode cL_law 3086 = .ok (.iload 5, 2) := by decide +kernel
theorem dL_law_3088 : decode cL_law 3088 = .ok (.iconst 1, 1) := by decide +kernel
theorem dL_law_3089 : decode cL_law 3089 = .ok (.iadd, 1) := by decide +kernel
theorem dL_law_3090 : decode cL_law 3090 = .ok (.iaload, 1) := by decide +kernel
theorem dL_law_3091 : decode cL_law 3091 = .ok (.aload_n 0, 1) := by decide +kernel
theorem dL_law_3092 : decode cL_law 3092 = .ok (.iload 5, 2) := by decide +kernel
theorem dL_law_3094 : decode cL_law 3094 = .ok (.iconst 2, 1) := by decide +kernel
theorem dL_law_3095 : decode cL_law 3095 = .ok (.iadd, 1) := by decide +kernel
theorem dL_law_3096 : decode cL_law 3096 = .ok (.iaload, 1) := by decide +kernel
theorem dL_law_3097 : decode cL_law 3097 = .ok (.aload_n 3, 1) := by decide +kernel
theorem dL_law_3098 : decode cL_law 3098 = .ok (.invokestatic 330, 3) := by decide +kernel
theorem dL_law_3101 : decode cL_law 3101 = .ok (.istore 6, 2) := by decide +kernel
theorem dL_law_3103 : decode cL_law 3103 = .ok (.aload_n 2, 1) := by decide +kernel
theorem dL_law_3104 : decode cL_law 3104 = .ok (.aload_n 0, 1) := by decide +kernel
theorem dL_law_3105 : decode cL_law 3105 = .ok (.iload 5, 2) := by decide +kernel
theorem dL_law_3107 : decode cL_law 3107 = .ok (.iconst 1, 1) := by decide +kernel
theorem dL_law_3108 : decode cL_law 3108 = .ok (.iadd, 1) := by decide +kernel
theorem dL_law_3109 : decode cL_law 3109 = .ok (.iaload, 1) := by decide +kernel
theorem dL_law_3110 : decode cL_law 3110 = .ok (.aload_n 0, 1) := by decide +kernel
theorem dL_law_3111 : decode cL_law 3111 = .ok (.iload 5, 2) := by decide +kernel
theorem dL_law_3113 : decode cL_law 3113 = .ok (.iconst 2, 1) := by decide +kernel
theorem dL_law_3114 : decode cL_law 3114 = .ok (.iadd, 1) := by decide +kernel
theorem dL_law_3115 : decode cL_law 3115 = .ok (.iaload, 1) := by decide +kernel
theorem dL_law_3116 : decode cL_law 3116 = .ok (.invokevirtual 332, 3) := by decide +kernel
theorem dL_law_3119 : decode cL_law 3119 = .ok (.istore 7, 2) := by decide +kernel
theorem dL_law_3121 : decode cL_law 3121 = .ok (.aload_n 2, 1) := by decide +kernel
theorem dL_law_3122 : decode cL_law 3122 = .ok (.invokevirtual 212, 3) := by decide +kernel
theorem dL_law_3125 : decode cL_law 3125 = .ok (.iload 6, 2) := by decide +kernel
theorem dL_law_3127 : decode cL_law 3127 = .ok (.if_icmp .eq 5, 3) := by decide +kernel
theorem dL_law_3130 : decode cL_law 3130 = .ok (.iconst 0, 1) := by decide +kernel
theorem dL_law_3131 : decode cL_law 3131 = .ok (.ireturn, 1) := by decide +kernel
theorem dL_law_3132 : decode cL_law 3132 = .ok (.iload 6, 2) := by decide +kernel
theorem dL_law_3134 : decode cL_law 3134 = .ok (.ifCond .ne 15, 3) := by decide +kernel
theorem dL_law_3137 : decode cL_law 3137 = .ok (.aload_n 3, 1) := by decide +kernel
theorem dL_law_3138 : decode cL_law 3138 = .ok (.iconst 0, 1) := by decide +kernel
theorem dL_law_3139 : decode cL_law 3139 = .ok (.laload, 1) := by decide +kernel
theorem dL_law_3140 : decode cL_law 3140 = .ok (.iload 7, 2) := by decide +kernel
theorem dL_law_3142 : decode cL_law 3142 = .ok (.i2l, 1) := by decide +kernel
theorem dL_law_3143 : decode cL_law 3143 = .ok (.lcmp, 1) := by decide +kernel
theorem dL_law_3144 : decode cL_law 3144 = .ok (.ifCond .eq 5, 3) := by decide +kernel
theorem dL_law_3147 : decode cL_law 3147 = .ok (.iconst 0, 1) := by decide +kernel
theorem dL_law_3148 : decode cL_law 3148 = .ok (.ireturn, 1) := by decide +kernel
theorem dL_law_3149 : decode cL_law 3149 = .ok (.goto 1077, 3) := by decide +kernel
theorem dL_law_3152 : decode cL_law 3152 = .ok (.aload_n 1, 1) := by decide +kernel
theorem dL_law_3153 : decode cL_law 3153 = .ok (.aload_n 0, 1) := by decide +kernel
theorem dL_law_3154 : decode cL_law 3154 = .ok (.iload 5, 2) := by decide +kernel
theorem dL_law_3156 : decode cL_law 3156 = .ok (.iconst 1, 1) := by decide +kernel
theorem dL_law_3157 : decode cL_law 3157 = .ok (.iadd, 1) := by decide +kernel
theorem dL_law_3158 : decode cL_law 3158 = .ok (.iaload, 1) := by decide +kernel
theorem dL_law_3159 : decode cL_law 3159 = .ok (.aload_n 0, 1) := by decide +kernel
theorem dL_law_3160 : decode cL_law 3160 = .ok (.iload 5, 2) := by decide +kernel
theorem dL_law_3162 : decode cL_law 3162 = .ok (.iconst 2, 1) := by decide +kernel
theorem dL_law_3163 : decode cL_law 3163 = .ok (.iadd, 1) := by decide +kernel
theorem dL_law_3164 : decode cL_law 3164 = .ok (.iaload, 1) := by decide +kernel
theorem dL_law_3165 : decode cL_law 3165 = .ok (.aload_n 0, 1) := by decide +kernel
theorem dL_law_3166 : decode cL_law 3166 = .ok (.iload 5, 2) := by decide +kernel
theorem dL_law_3168 : decode cL_law 3168 = .ok (.iconst 3, 1) := by decide +kernel
theorem dL_law_3169 : decode cL_law 3169 = .ok (.iadd, 1) := by decide +kernel
theorem dL_law_3170 : decode cL_law 3170 = .ok (.iaload, 1) := by decide +kernel
theorem dL_law_3171 : decode cL_law 3171 = .ok (.aload_n 0, 1) := by decide +kernel
theorem dL_law_3172 : decode cL_law 3172 = .ok (.iload 5, 2) := by decide +kernel
theorem dL_law_3174 : decode cL_law 3174 = .ok (.iconst 4, 1) := by decide +kernel
theorem dL_law_3175 : decode cL_law 3175 = .ok (.iadd, 1) := by decide +kernel
theorem dL_law_3176 : decode cL_law 3176 = .ok (.iaload, 1) := by decide +kernel
theorem dL_law_3177 : decode cL_law 3177 = .ok (.aload_n 3, 1) := by decide +kernel
theorem dL_law_3178 : decode cL_law 3178 = .ok (.invokestatic 333, 3) := by decide +kernel
theorem dL_law_3181 : decode cL_law 3181 = .ok (.istore 6, 2) := by decide +kernel
theorem dL_law_3183 : decode cL_law 3183 = .ok (.aload_n 2, 1) := by decide +kernel
theorem dL_law_3184 : decode cL_law 3184 = .ok (.aload_n 0, 1) := by decide +kernel
theorem dL_law_3185 : decode cL_law 3185 = .ok (.iload 5, 2) := by decide +kernel
theorem dL_law_3187 : decode cL_law 3187 = .ok (.iconst 1, 1) := by decide +kernel
theorem dL_law_3188 : decode cL_law 3188 = .ok (.iadd, 1) := by decide +kernel
theorem dL_law_3189 : decode cL_law 3189 = .ok (.iaload, 1) := by decide +kernel
theorem dL_law_3190 : decode cL_law 3190 = .ok (.aload_n 0, 1) := by decide +kernel
theorem dL_law_3191 : decode cL_law 3191 = .ok (.iload 5, 2) := by decide +kernel
theorem dL_law_3193 : decode cL_law 3193 = .ok (.iconst 2, 1) := by decide +kernel
theorem dL_law_3194 : decode cL_law 3194 = .ok (.iadd, 1) := by decide +kernel
theorem dL_law_3195 : decode cL_law 3195 = .ok (.iaload, 1) := by decide +kernel
theorem dL_law_3196 : decode cL_law 3196 = .ok (.aload_n 0, 1) := by decide +kernel
theorem dL_law_3197 : decode cL_law 3197 = .ok (.iload 5, 2) := by decide +kernel
theorem dL_law_3199 : decode cL_law 3199 = .ok (.iconst 3, 1) := by decide +kernel
theorem dL_law_3200 : decode cL_law 3200 = .ok (.iadd, 1) := by decide +kernel
theorem dL_law_3201 : decode cL_law 3201 = .ok (.iaload, 1) := by decide +kernel
theorem dL_law_3202 : decode cL_law 3202 = .ok (.aload_n 0, 1) := by decide +kernel
theorem dL_law_3203 : decode cL_law 3203 = .ok (.iload 5, 2) := by decide +kernel
theorem dL_law_3205 : decode cL_law 3205 = .ok (.iconst 4, 1) := by decide +kernel
theorem dL_law_3206 : decode cL_law 3206 = .ok (.iadd, 1) := by decide +kernel
theorem dL_law_3207 : decode cL_law 3207 = .ok (.iaload, 1) := by decide +kernel
theorem dL_law_3208 : decode cL_law 3208 = .ok (.invokevirtual 335, 3) := by decide +kernel
theorem dL_law_3211 : decode cL_law 3211 = .ok (.istore 7, 2) := by decide +kernel
theorem dL_law_3213 : decode cL_law 3213 = .ok (.aload_n 2, 1) := by decide +kernel
theorem dL_law_3214 : decode cL_law 3214 = .ok (.invokevirtual 212, 3) := by decide +kernel
theorem dL_law_3217 : decode cL_law 3217 = .ok (.iload 6, 2) := by decide +kernel
theorem dL_law_3219 : decode cL_law 3219 = .ok (.if_icmp .eq 5, 3) := by decide +kernel
theorem dL_law_3222 : decode cL_law 3222 = .ok (.iconst 0, 1) := by decide +kernel
theorem dL_law_3223 : decode cL_law 3223 = .ok (.ireturn, 1) := by decide +kernel
theorem dL_law_3224 : decode cL_law 3224 = .ok (.iload 6, 2) := by decide +kernel
theorem dL_law_3226 : decode cL_law 3226 = .ok (.ifCond .ne 15, 3) := by decide +kernel
theorem dL_law_3229 : decode cL_law 3229 = .ok (.aload_n 3, 1) := by decide +kernel
theorem dL_law_3230 : decode cL_law 3230 = .ok (.iconst 0, 1) := by decide +kernel
theorem dL_law_3231 : decode cL_law 3231 = .ok (.laload, 1) := by decide +kernel
theorem dL_law_3232 : decode cL_law 3232 = .ok (.iload 7, 2) := by decide +kernel
theorem dL_law_3234 : decode cL_law 3234 = .ok (.i2l, 1) := by decide +kernel
theorem dL_law_3235 : decode cL_law 3235 = .ok (.lcmp, 1) := by decide +kernel
theorem dL_law_3236 : decode cL_law 3236 = .ok (.ifCond .eq 5, 3) := by decide +kernel
theorem dL_law_3239 : decode cL_law 3239 = .ok (.iconst 0, 1) := by decide +kernel
theorem dL_law_3240 : decode cL_law 3240 = .ok (.ireturn, 1) := by decide +kernel
theorem dL_law_3241 : decode cL_law 3241 = .ok (.goto 985, 3) := by decide +kernel
theorem dL_law_3244 : decode cL_law 3244 = .ok (.aload_n 1, 1) := by decide +kernel
theorem dL_law_3245 : decode cL_law 3245 = .ok (.aload_n 0, 1) := by decide +kernel
theorem dL_law_3246 : decode cL_law 3246 = .ok (.iload 5, 2) := by decide +kernel
theorem dL_law_3248 : decode cL_law 3248 = .ok (.iconst 1, 1) := by decide +kernel
theorem dL_law_3249 : decode cL_law 3249 = .ok (.iadd, 1) := by decide +kernel
theorem dL_law_3250 : decode cL_law 3250 = .ok (.iaload, 1) := by decide +kernel
theorem dL_law_3251 : decode cL_law 3251 = .ok (.aload_n 0, 1) := by decide +kernel
theorem dL_law_3252 : decode cL_law 3252 = .ok (.iload 5, 2) := by decide +kernel
theorem dL_law_3254 : decode cL_law 3254 = .ok (.iconst 2, 1) := by decide +kernel
theorem dL_law_3255 : decode cL_law 3255 = .ok (.iadd, 1) := by decide +kernel
theorem dL_law_3256 : decode cL_law 3256 = .ok (.iaload, 1) := by decide +kernel
theorem dL_law_3257 : decode cL_law 3257 = .ok (.aload_n 0, 1) := by decide +kernel
theorem dL_law_3258 : decode cL_law 3258 = .ok (.iload 5, 2) := by decide +kernel
theorem dL_law_3260 : decode cL_law 3260 = .ok (.iconst 3, 1) := by decide +kernel
theorem dL_law_3261 : decode cL_law 3261 = .ok (.iadd, 1) := by decide +kernel
theorem dL_law_3262 : decode cL_law 3262 = .ok (.iaload, 1) := by decide +kernel
theorem dL_law_3263 : decode cL_law 3263 = .ok (.aload_n 0, 1) := by decide +kernel
theorem dL_law_3264 : decode cL_law 3264 = .ok (.iload 5, 2) := by decide +kernel
theorem dL_law_3266 : decode cL_law 3266 = .ok (.iconst 4, 1) := by decide +kernel
theorem dL_law_3267 : decode cL_law 3267 = .ok (.iadd, 1) := by decide +kernel
theorem dL_law_3268 : decode cL_law 3268 = .ok (.iaload, 1) := by decide +kernel
theorem dL_law_3269 : decode cL_law 3269 = .ok (.ifCond .eq 7, 3) := by decide +kernel
theorem dL_law_3272 : decode cL_law 3272 = .ok (.iconst 1, 1) := by decide +kernel
theorem dL_law_3273 : decode cL_law 3273 = .ok (.goto 4, 3) := by decide +kernel
theorem dL_law_3276 : decode cL_law 3276 = .ok (.iconst 0, 1) := by decide +kernel
theorem dL_law_3277 : decode cL_law 3277 = .ok (.aload_n 3, 1) := by decide +kernel
theorem dL_law_3278 : decode cL_law 3278 = .ok (.invokestatic 336, 3) := by decide +kernel
theorem dL_law_3281 : decode cL_law 3281 = .ok (.istore 6, 2) := by decide +kernel
theorem dL_law_3283 : decode cL_law 3283 = .ok (.aload_n 2, 1) := by decide +kernel
theorem dL_law_3284 : decode cL_law 3284 = .ok (.aload_n 0, 1) := by decide +kernel
theorem dL_law_3285 : decode cL_law 3285 = .ok (.iload 5, 2) := by decide +kernel
theorem dL_law_3287 : decode cL_law 3287 = .ok (.iconst 1, 1) := by decide +kernel
theorem dL_law_3288 : decode cL_law 3288 = .ok (.iadd, 1) := by decide +kernel
theorem dL_law_3289 : decode cL_law 3289 = .ok (.iaload, 1) := by decide +kernel
theorem dL_law_3290 : decode cL_law 3290 = .ok (.aload_n 0, 1) := by decide +kernel
theorem dL_law_3291 : decode cL_law 3291 = .ok (.iload 5, 2) := by decide +kernel
theorem dL_law_3293 : decode cL_law 3293 = .ok (.iconst 2, 1) := by decide +kernel
theorem dL_law_3294 : decode cL_law 3294 = .ok (.iadd, 1) := by decide +kernel
theorem dL_law_3295 : decode cL_law 3295 = .ok (.iaload, 1) := by decide +kernel
theorem dL_law_3296 : decode cL_law 3296 = .ok (.aload_n 0, 1) := by decide +kernel
theorem dL_law_3297 : decode cL_law 3297 = .ok (.iload 5, 2) := by decide +kernel
theorem dL_law_3299 : decode cL_law 3299 = .ok (.iconst 3, 1) := by decide +kernel
theorem dL_law_3300 : decode cL_law 3300 = .ok (.iadd, 1) := by decide +kernel
theorem dL_law_3301 : decode cL_law 3301 = .ok (.iaload, 1) := by decide +kernel
theorem dL_law_3302 : decode cL_law 3302 = .ok (.aload_n 0, 1) := by decide +kernel
theorem dL_law_3303 : decode cL_law 3303 = .ok (.iload 5, 2) := by decide +kernel
theorem dL_law_3305 : decode cL_law 3305 = .ok (.iconst 4, 1) := by decide +kernel
theorem dL_law_3306 : decode cL_law 3306 = .ok (.iadd, 1) := by decide +kernel
theorem dL_law_3307 : decode cL_law 3307 = .ok (.iaload, 1) := by decide +kernel
theorem dL_law_3308 : decode cL_law 3308 = .ok (.ifCond .eq 7, 3) := by decide +kernel
theorem dL_law_3311 : decode cL_law 3311 = .ok (.iconst 1, 1) := by decide +kernel
theorem dL_law_3312 : decode cL_law 3312 = .ok (.goto 4, 3) := by decide +kernel
theorem dL_law_3315 : decode cL_law 3315 = .ok (.iconst 0, 1) := by decide +kernel
theorem dL_law_3316 : decode cL_law 3316 = .ok (.invokevirtual 338, 3) := by decide +kernel
theorem dL_law_3319 : decode cL_law 3319 = .ok (.istore 7, 2) := by decide +kernel
theorem dL_law_3321 : decode cL_law 3321 = .ok (.aload_n 2, 1) := by decide +kernel
theorem dL_law_3322 : decode cL_law 3322 = .ok (.invokevirtual 212, 3) := by decide +kernel
theorem dL_law_3325 : decode cL_law 3325 = .ok (.iload 6, 2) := by decide +kernel
theorem dL_law_3327 : decode cL_law 3327 = .ok (.if_icmp .eq 5, 3) := by decide +kernel
theorem dL_law_3330 : decode cL_law 3330 = .ok (.iconst 0, 1) := by decide +kernel
theorem dL_law_3331 : decode cL_law 3331 = .ok (.ireturn, 1) := by decide +kernel
theorem dL_law_3332 : decode cL_law 3332 = .ok (.iload 6, 2) := by decide +kernel
theorem dL_law_3334 : decode cL_law 3334 = .ok (.ifCond .ne 15, 3) := by decide +kernel
theorem dL_law_3337 : decode cL_law 3337 = .ok (.aload_n 3, 1) := by decide +kernel
theorem dL_law_3338 : decode cL_law 3338 = .ok (.iconst 0, 1) := by decide +kernel
theorem dL_law_3339 : decode cL_law 3339 = .ok (.laload, 1) := by decide +kernel
theorem dL_law_3340 : decode cL_law 3340 = .ok (.iload 7, 2) := by decide +kernel
theorem dL_law_3342 : decode cL_law 3342 = .ok (.i2l, 1) := by decide +kernel
theorem dL_law_3343 : decode cL_law 3343 = .ok (.lcmp, 1) := by decide +kernel
theorem dL_law_3344 : decode cL_law 3344 = .ok (.ifCond .eq 5, 3) := by decide +kernel
theorem dL_law_3347 : decode cL_law 3347 = .ok (.iconst 0, 1) := by decide +kernel
theorem dL_law_3348 : decode cL_law 3348 = .ok (.ireturn, 1) := by decide +kernel
theorem dL_law_3349 : decode cL_law 3349 = .ok (.goto 877, 3) := by decide +kernel
theorem dL_law_3352 : decode cL_law 3352 = .ok (.aload_n 1, 1) := by decide +kernel
theorem dL_law_3353 : decode cL_law 3353 = .ok (.aload_n 0, 1) := by decide +kernel
theorem dL_law_3354 : decode cL_law 3354 = .ok (.iload 5, 2) := by decide +kernel
theorem dL_law_3356 : decode cL_law 3356 = .ok (.iconst 1, 1) := by decide +kernel
theorem dL_law_3357 : decode cL_law 3357 = .ok (.iadd, 1) := by decide +kernel
theorem dL_law_3358 : decode cL_law 3358 = .ok (.iaload, 1) := by decide +kernel
theorem dL_law_3359 : decode cL_law 3359 = .ok (.aload_n 0, 1) := by decide +kernel
theorem dL_law_3360 : decode cL_law 3360 = .ok (.iload 5, 2) := by decide +kernel
theorem dL_law_3362 : decode cL_law 3362 = .ok (.iconst 2, 1) := by decide +kernel
theorem dL_law_3363 : decode cL_law 3363 = .ok (.iadd, 1) := by decide +kernel
theorem dL_law_3364 : decode cL_law 3364 = .ok (.iaload, 1) := by decide +kernel
theorem dL_law_3365 : decode cL_law 3365 = .ok (.aload_n 0, 1) := by decide +kernel
theorem dL_law_3366 : decode cL_law 3366 = .ok (.iload 5, 2) := by decide +kernel
theorem dL_law_3368 : decode cL_law 3368 = .ok (.iconst 3, 1) := by decide +kernel
theorem dL_law_3369 : decode cL_law 3369 = .ok (.iadd, 1) := by decide +kernel
theorem dL_law_3370 : decode cL_law 3370 = .ok (.iaload, 1) := by decide +kernel
theorem dL_law_3371 : decode cL_law 3371 = .ok (.aload_n 0, 1) := by decide +kernel
theorem dL_law_3372 : decode cL_law 3372 = .ok (.iload 5, 2) := by decide +kernel
theorem dL_law_3374 : decode cL_law 3374 = .ok (.iconst 4, 1) := by decide +kernel
theorem dL_law_3375 : decode cL_law 3375 = .ok (.iadd, 1) := by decide +kernel
theorem dL_law_3376 : decode cL_law 3376 = .ok (.iaload, 1) := by decide +kernel
theorem dL_law_3377 : decode cL_law 3377 = .ok (.ifCond .eq 7, 3) := by decide +kernel
theorem dL_law_3380 : decode cL_law 3380 = .ok (.iconst 1, 1) := by decide +kernel
theorem dL_law_3381 : decode cL_law 3381 = .ok (.goto 4, 3) := by decide +kernel
theorem dL_law_3384 : decode cL_law 3384 = .ok (.iconst 0, 1) := by decide +kernel
theorem dL_law_3385 : decode cL_law 3385 = .ok (.aload_n 3, 1) := by decide +kernel
theorem dL_law_3386 : decode cL_law 3386 = .ok (.invokestatic 339, 3) := by decide +kernel
theorem dL_law_3389 : decode cL_law 3389 = .ok (.istore 6, 2) := by decide +kernel
theorem dL_law_3391 : decode cL_law 3391 = .ok (.aload_n 2, 1) := by decide +kernel
theorem dL_law_3392 : decode cL_law 3392 = .ok (.aload_n 0, 1) := by decide +kernel
theorem dL_law_3393 : decode cL_law 3393 = .ok (.iload 5, 2) := by decide +kernel
theorem dL_law_3395 : decode cL_law 3395 = .ok (.iconst 1, 1) := by decide +kernel
theorem dL_law_3396 : decode cL_law 3396 = .ok (.iadd, 1) := by decide +kernel
theorem dL_law_3397 : decode cL_law 3397 = .ok (.iaload, 1) := by decide +kernel
theorem dL_law_3398 : decode cL_law 3398 = .ok (.aload_n 0, 1) := by decide +kernel
theorem dL_law_3399 : decode cL_law 3399 = .ok (.iload 5, 2) := by decide +kernel
theorem dL_law_3401 : decode cL_law 3401 = .ok (.iconst 2, 1) := by decide +kernel
theorem dL_law_3402 : decode cL_law 3402 = .ok (.iadd, 1) := by decide +kernel
theorem dL_law_3403 : decode cL_law 3403 = .ok (.iaload, 1) := by decide +kernel
theorem dL_law_3404 : decode cL_law 3404 = .ok (.aload_n 0, 1) := by decide +kernel
theorem dL_law_3405 : decode cL_law 3405 = .ok (.iload 5, 2) := by decide +kernel
theorem dL_law_3407 : decode cL_law 3407 = .ok (.iconst 3, 1) := by decide +kernel
theorem dL_law_3408 : decode cL_law 3408 = .ok (.iadd, 1) := by decide +kernel
theorem dL_law_3409 : decode cL_law 3409 = .ok (.iaload, 1) := by decide +kernel
