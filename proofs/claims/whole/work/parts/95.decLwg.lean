/-! decode rows of the law -/
theorem dL_law_2420 : decode cL_law 2420 = .ok (.ifCond .eq 25, 3) := by decide +kernel
theorem dL_law_2423 : decode cL_law 2423 = .ok (.aload 4, 2) := by decide +kernel
theorem dL_law_2425 : decode cL_law 2425 = .ok (.iconst 0, 1) := by decide +kernel
theorem dL_law_2426 : decode cL_law 2426 = .ok (.daload, 1) := by decide +kernel
theorem dL_law_2427 : decode cL_law 2427 = .ok (.aload 4, 2) := by decide +kernel
theorem dL_law_2429 : decode cL_law 2429 = .ok (.iconst 0, 1) := by decide +kernel
theorem dL_law_2430 : decode cL_law 2430 = .ok (.daload, 1) := by decide +kernel
theorem dL_law_2431 : decode cL_law 2431 = .ok (.dcmp .l, 1) := by decide +kernel
theorem dL_law_2432 : decode cL_law 2432 = .ok (.ifCond .eq 11, 3) := by decide +kernel
theorem dL_law_2435 : decode cL_law 2435 = .ok (.dload 7, 2) := by decide +kernel
theorem dL_law_2437 : decode cL_law 2437 = .ok (.dload 7, 2) := by decide +kernel
theorem dL_law_2439 : decode cL_law 2439 = .ok (.dcmp .l, 1) := by decide +kernel
theorem dL_law_2440 : decode cL_law 2440 = .ok (.ifCond .ne 5, 3) := by decide +kernel
theorem dL_law_2443 : decode cL_law 2443 = .ok (.iconst 0, 1) := by decide +kernel
theorem dL_law_2444 : decode cL_law 2444 = .ok (.ireturn, 1) := by decide +kernel
theorem dL_law_2445 : decode cL_law 2445 = .ok (.goto 374, 3) := by decide +kernel
theorem dL_law_2448 : decode cL_law 2448 = .ok (.aload_n 1, 1) := by decide +kernel
theorem dL_law_2449 : decode cL_law 2449 = .ok (.aload_n 0, 1) := by decide +kernel
theorem dL_law_2450 : decode cL_law 2450 = .ok (.iload 5, 2) := by decide +kernel
theorem dL_law_2452 : decode cL_law 2452 = .ok (.iconst 1, 1) := by decide +kernel
theorem dL_law_2453 : decode cL_law 2453 = .ok (.iadd, 1) := by decide +kernel
theorem dL_law_2454 : decode cL_law 2454 = .ok (.iaload, 1) := by decide +kernel
theorem dL_law_2455 : decode cL_law 2455 = .ok (.aload_n 0, 1) := by decide +kernel
theorem dL_law_2456 : decode cL_law 2456 = .ok (.iload 5, 2) := by decide +kernel
theorem dL_law_2458 : decode cL_law 2458 = .ok (.iconst 2, 1) := by decide +kernel
theorem dL_law_2459 : decode cL_law 2459 = .ok (.iadd, 1) := by decide +kernel
theorem dL_law_2460 : decode cL_law 2460 = .ok (.iaload, 1) := by decide +kernel
theorem dL_law_2461 : decode cL_law 2461 = .ok (.aload_n 3, 1) := by decide +kernel
theorem dL_law_2462 : decode cL_law 2462 = .ok (.invokestatic 254, 3) := by decide +kernel
theorem dL_law_2465 : decode cL_law 2465 = .ok (.istore 6, 2) := by decide +kernel
theorem dL_law_2467 : decode cL_law 2467 = .ok (.aload_n 2, 1) := by decide +kernel
theorem dL_law_2468 : decode cL_law 2468 = .ok (.aload_n 0, 1) := by decide +kernel
theorem dL_law_2469 : decode cL_law 2469 = .ok (.iload 5, 2) := by decide +kernel
theorem dL_law_2471 : decode cL_law 2471 = .ok (.iconst 1, 1) := by decide +kernel
theorem dL_law_2472 : decode cL_law 2472 = .ok (.iadd, 1) := by decide +kernel
theorem dL_law_2473 : decode cL_law 2473 = .ok (.iaload, 1) := by decide +kernel
theorem dL_law_2474 : decode cL_law 2474 = .ok (.aload_n 0, 1) := by decide +kernel
theorem dL_law_2475 : decode cL_law 2475 = .ok (.iload 5, 2) := by decide +kernel
theorem dL_law_2477 : decode cL_law 2477 = .ok (.iconst 2, 1) := by decide +kernel
theorem dL_law_2478 : decode cL_law 2478 = .ok (.iadd, 1) := by decide +kernel
theorem dL_law_2479 : decode cL_law 2479 = .ok (.iaload, 1) := by decide +kernel
theorem dL_law_2480 : decode cL_law 2480 = .ok (.invokevirtual 256, 3) := by decide +kernel
theorem dL_law_2483 : decode cL_law 2483 = .ok (.istore 7, 2) := by decide +kernel
theorem dL_law_2485 : decode cL_law 2485 = .ok (.aload_n 2, 1) := by decide +kernel
theorem dL_law_2486 : decode cL_law 2486 = .ok (.invokevirtual 155, 3) := by decide +kernel
theorem dL_law_2489 : decode cL_law 2489 = .ok (.iload 6, 2) := by decide +kernel
theorem dL_law_2491 : decode cL_law 2491 = .ok (.if_icmp .eq 5, 3) := by decide +kernel
theorem dL_law_2494 : decode cL_law 2494 = .ok (.iconst 0, 1) := by decide +kernel
theorem dL_law_2495 : decode cL_law 2495 = .ok (.ireturn, 1) := by decide +kernel
theorem dL_law_2496 : decode cL_law 2496 = .ok (.iload 6, 2) := by decide +kernel
theorem dL_law_2498 : decode cL_law 2498 = .ok (.ifCond .ne 15, 3) := by decide +kernel
theorem dL_law_2501 : decode cL_law 2501 = .ok (.aload_n 3, 1) := by decide +kernel
theorem dL_law_2502 : decode cL_law 2502 = .ok (.iconst 0, 1) := by decide +kernel
theorem dL_law_2503 : decode cL_law 2503 = .ok (.laload, 1) := by decide +kernel
theorem dL_law_2504 : decode cL_law 2504 = .ok (.iload 7, 2) := by decide +kernel
theorem dL_law_2506 : decode cL_law 2506 = .ok (.i2l, 1) := by decide +kernel
theorem dL_law_2507 : decode cL_law 2507 = .ok (.lcmp, 1) := by decide +kernel
theorem dL_law_2508 : decode cL_law 2508 = .ok (.ifCond .eq 5, 3) := by decide +kernel
theorem dL_law_2511 : decode cL_law 2511 = .ok (.iconst 0, 1) := by decide +kernel
theorem dL_law_2512 : decode cL_law 2512 = .ok (.ireturn, 1) := by decide +kernel
theorem dL_law_2513 : decode cL_law 2513 = .ok (.goto 306, 3) := by decide +kernel
theorem dL_law_2516 : decode cL_law 2516 = .ok (.aload_n 1, 1) := by decide +kernel
theorem dL_law_2517 : decode cL_law 2517 = .ok (.aload_n 0, 1) := by decide +kernel
theorem dL_law_2518 : decode cL_law 2518 = .ok (.iload 5, 2) := by decide +kernel
theorem dL_law_2520 : decode cL_law 2520 = .ok (.iconst 1, 1) := by decide +kernel
theorem dL_law_2521 : decode cL_law 2521 = .ok (.iadd, 1) := by decide +kernel
theorem dL_law_2522 : decode cL_law 2522 = .ok (.iaload, 1) := by decide +kernel
theorem dL_law_2523 : decode cL_law 2523 = .ok (.aload_n 3, 1) := by decide +kernel
theorem dL_law_2524 : decode cL_law 2524 = .ok (.invokestatic 257, 3) := by decide +kernel
theorem dL_law_2527 : decode cL_law 2527 = .ok (.istore 6, 2) := by decide +kernel
theorem dL_law_2529 : decode cL_law 2529 = .ok (.aload_n 2, 1) := by decide +kernel
theorem dL_law_2530 : decode cL_law 2530 = .ok (.aload_n 0, 1) := by decide +kernel
theorem dL_law_2531 : decode cL_law 2531 = .ok (.iload 5, 2) := by decide +kernel
theorem dL_law_2533 : decode cL_law 2533 = .ok (.iconst 1, 1) := by decide +kernel
theorem dL_law_2534 : decode cL_law 2534 = .ok (.iadd, 1) := by decide +kernel
theorem dL_law_2535 : decode cL_law 2535 = .ok (.iaload, 1) := by decide +kernel
theorem dL_law_2536 : decode cL_law 2536 = .ok (.invokevirtual 259, 3) := by decide +kernel
theorem dL_law_2539 : decode cL_law 2539 = .ok (.istore 7, 2) := by decide +kernel
theorem dL_law_2541 : decode cL_law 2541 = .ok (.aload_n 2, 1) := by decide +kernel
theorem dL_law_2542 : decode cL_law 2542 = .ok (.invokevirtual 155, 3) := by decide +kernel
theorem dL_law_2545 : decode cL_law 2545 = .ok (.iload 6, 2) := by decide +kernel
theorem dL_law_2547 : decode cL_law 2547 = .ok (.if_icmp .eq 5, 3) := by decide +kernel
theorem dL_law_2550 : decode cL_law 2550 = .ok (.iconst 0, 1) := by decide +kernel
theorem dL_law_2551 : decode cL_law 2551 = .ok (.ireturn, 1) := by decide +kernel
theorem dL_law_2552 : decode cL_law 2552 = .ok (.iload 6, 2) := by decide +kernel
theorem dL_law_2554 : decode cL_law 2554 = .ok (.ifCond .ne 15, 3) := by decide +kernel
theorem dL_law_2557 : decode cL_law 2557 = .ok (.aload_n 3, 1) := by decide +kernel
theorem dL_law_2558 : decode cL_law 2558 = .ok (.iconst 0, 1) := by decide +kernel
theorem dL_law_2559 : decode cL_law 2559 = .ok (.laload, 1) := by decide +kernel
theorem dL_law_2560 : decode cL_law 2560 = .ok (.iload 7, 2) := by decide +kernel
theorem dL_law_2562 : decode cL_law 2562 = .ok (.i2l, 1) := by decide +kernel
theorem dL_law_2563 : decode cL_law 2563 = .ok (.lcmp, 1) := by decide +kernel
theorem dL_law_2564 : decode cL_law 2564 = .ok (.ifCond .eq 5, 3) := by decide +kernel
theorem dL_law_2567 : decode cL_law 2567 = .ok (.iconst 0, 1) := by decide +kernel
theorem dL_law_2568 : decode cL_law 2568 = .ok (.ireturn, 1) := by decide +kernel
theorem dL_law_2569 : decode cL_law 2569 = .ok (.goto 250, 3) := by decide +kernel
theorem dL_law_2572 : decode cL_law 2572 = .ok (.aload_n 1, 1) := by decide +kernel
theorem dL_law_2573 : decode cL_law 2573 = .ok (.aload_n 0, 1) := by decide +kernel
theorem dL_law_2574 : decode cL_law 2574 = .ok (.iload 5, 2) := by decide +kernel
theorem dL_law_2576 : decode cL_law 2576 = .ok (.iconst 1, 1) := by decide +kernel
theorem dL_law_2577 : decode cL_law 2577 = .ok (.iadd, 1) := by decide +kernel
theorem dL_law_2578 : decode cL_law 2578 = .ok (.iaload, 1) := by decide +kernel
theorem dL_law_2579 : decode cL_law 2579 = .ok (.i2c, 1) := by decide +kernel
theorem dL_law_2580 : decode cL_law 2580 = .ok (.aload_n 3, 1) := by decide +kernel
theorem dL_law_2581 : decode cL_law 2581 = .ok (.invokestatic 260, 3) := by decide +kernel
theorem dL_law_2584 : decode cL_law 2584 = .ok (.istore 6, 2) := by decide +kernel
theorem dL_law_2586 : decode cL_law 2586 = .ok (.aload_n 2, 1) := by decide +kernel
theorem dL_law_2587 : decode cL_law 2587 = .ok (.aload_n 0, 1) := by decide +kernel
theorem dL_law_2588 : decode cL_law 2588 = .ok (.iload 5, 2) := by decide +kernel
theorem dL_law_2590 : decode cL_law 2590 = .ok (.iconst 1, 1) := by decide +kernel
theorem dL_law_2591 : decode cL_law 2591 = .ok (.iadd, 1) := by decide +kernel
theorem dL_law_2592 : decode cL_law 2592 = .ok (.iaload, 1) := by decide +kernel
theorem dL_law_2593 : decode cL_law 2593 = .ok (.i2c, 1) := by decide +kernel
theorem dL_law_2594 : decode cL_law 2594 = .ok (.invokevirtual 263, 3) := by decide +kernel
theorem dL_law_2597 : decode cL_law 2597 = .ok (.istore 7, 2) := by decide +kernel
theorem dL_law_2599 : decode cL_law 2599 = .ok (.aload_n 2, 1) := by decide +kernel
theorem dL_law_2600 : decode cL_law 2600 = .ok (.invokevirtual 155, 3) := by decide +kernel
theorem dL_law_2603 : decode cL_law 2603 = .ok (.iload 6, 2) := by decide +kernel
theorem dL_law_2605 : decode cL_law 2605 = .ok (.if_icmp .eq 5, 3) := by decide +kernel
theorem dL_law_2608 : decode cL_law 2608 = .ok (.iconst 0, 1) := by decide +kernel
theorem dL_law_2609 : decode cL_law 2609 = .ok (.ireturn, 1) := by decide +kernel
theorem dL_law_2610 : decode cL_law 2610 = .ok (.iload 6, 2) := by decide +kernel
theorem dL_law_2612 : decode cL_law 2612 = .ok (.ifCond .ne 15, 3) := by decide +kernel
theorem dL_law_2615 : decode cL_law 2615 = .ok (.aload_n 3, 1) := by decide +kernel
theorem dL_law_2616 : decode cL_law 2616 = .ok (.iconst 0, 1) := by decide +kernel
theorem dL_law_2617 : decode cL_law 2617 = .ok (.laload, 1) := by decide +kernel
theorem dL_law_2618 : decode cL_law 2618 = .ok (.iload 7, 2) := by decide +kernel
theorem dL_law_2620 : decode cL_law 2620 = .ok (.i2l, 1) := by decide +kernel
theorem dL_law_2621 : decode cL_law 2621 = .ok (.lcmp, 1) := by decide +kernel
theorem dL_law_2622 : decode cL_law 2622 = .ok (.ifCond .eq 5, 3) := by decide +kernel
theorem dL_law_2625 : decode cL_law 2625 = .ok (.iconst 0, 1) := by decide +kernel
theorem dL_law_2626 : decode cL_law 2626 = .ok (.ireturn, 1) := by decide +kernel
theorem dL_law_2627 : decode cL_law 2627 = .ok (.goto 192, 3) := by decide +kernel
theorem dL_law_2630 : decode cL_law 2630 = .ok (.aload_n 1, 1) := by decide +kernel
theorem dL_law_2631 : decode cL_law 2631 = .ok (.aload_n 3, 1) := by decide +kernel
theorem dL_law_2632 : decode cL_law 2632 = .ok (.invokestatic 264, 3) := by decide +kernel
theorem dL_law_2635 : decode cL_law 2635 = .ok (.istore 6, 2) := by decide +kernel
theorem dL_law_2637 : decode cL_law 2637 = .ok (.aload_n 2, 1) := by decide +kernel
theorem dL_law_2638 : decode cL_law 2638 = .ok (.invokevirtual 266, 3) := by decide +kernel
theorem dL_law_2641 : decode cL_law 2641 = .ok (.istore 7, 2) := by decide +kernel
theorem dL_law_2643 : decode cL_law 2643 = .ok (.aload_n 2, 1) := by decide +kernel
theorem dL_law_2644 : decode cL_law 2644 = .ok (.invokevirtual 155, 3) := by decide +kernel
theorem dL_law_2647 : decode cL_law 2647 = .ok (.iload 6, 2) := by decide +kernel
theorem dL_law_2649 : decode cL_law 2649 = .ok (.if_icmp .eq 5, 3) := by decide +kernel
theorem dL_law_2652 : decode cL_law 2652 = .ok (.iconst 0, 1) := by decide +kernel
theorem dL_law_2653 : decode cL_law 2653 = .ok (.ireturn, 1) := by decide +kernel
theorem dL_law_2654 : decode cL_law 2654 = .ok (.iload 6, 2) := by decide +kernel
theorem dL_law_2656 : decode cL_law 2656 = .ok (.ifCond .ne 15, 3) := by decide +kernel
theorem dL_law_2659 : decode cL_law 2659 = .ok (.aload_n 3, 1) := by decide +kernel
theorem dL_law_2660 : decode cL_law 2660 = .ok (.iconst 0, 1) := by decide +kernel
theorem dL_law_2661 : decode cL_law 2661 = .ok (.laload, 1) := by decide +kernel
theorem dL_law_2662 : decode cL_law 2662 = .ok (.iload 7, 2) := by decide +kernel
theorem dL_law_2664 : decode cL_law 2664 = .ok (.i2l, 1) := by decide +kernel
theorem dL_law_2665 : decode cL_law 2665 = .ok (.lcmp, 1) := by decide +kernel
theorem dL_law_2666 : decode cL_law 2666 = .ok (.ifCond .eq 5, 3) := by decide +kernel
theorem dL_law_2669 : decode cL_law 2669 = .ok (.iconst 0, 1) := by decide +kernel
theorem dL_law_2670 : decode cL_law 2670 = .ok (.ireturn, 1) := by decide +kernel
theorem dL_law_2671 : decode cL_law 2671 = .ok (.goto 148, 3) := by decide +kernel
theorem dL_law_2674 : decode cL_law 2674 = .ok (.aload_n 1, 1) := by decide +kernel
theorem dL_law_2675 : decode cL_law 2675 = .ok (.aload_n 3, 1) := by decide +kernel
theorem dL_law_2676 : decode cL_law 2676 = .ok (.invokestatic 267, 3) := by decide +kernel
theorem dL_law_2679 : decode cL_law 2679 = .ok (.istore 6, 2) := by decide +kernel
theorem dL_law_2681 : decode cL_law 2681 = .ok (.aload_n 2, 1) := by decide +kernel
theorem dL_law_2682 : decode cL_law 2682 = .ok (.invokevirtual 269, 3) := by decide +kernel
theorem dL_law_2685 : decode cL_law 2685 = .ok (.istore 7, 2) := by decide +kernel
theorem dL_law_2687 : decode cL_law 2687 = .ok (.aload_n 2, 1) := by decide +kernel
theorem dL_law_2688 : decode cL_law 2688 = .ok (.invokevirtual 155, 3) := by decide +kernel
theorem dL_law_2691 : decode cL_law 2691 = .ok (.iload 6, 2) := by decide +kernel
theorem dL_law_2693 : decode cL_law 2693 = .ok (.if_icmp .eq 5, 3) := by decide +kernel
theorem dL_law_2696 : decode cL_law 2696 = .ok (.iconst 0, 1) := by decide +kernel
theorem dL_law_2697 : decode cL_law 2697 = .ok (.ireturn, 1) := by decide +kernel
theorem dL_law_2698 : decode cL_law 2698 = .ok (.iload 6, 2) := by decide +kernel
theorem dL_law_2700 : decode cL_law 2700 = .ok (.ifCond .ne 15, 3) := by decide +kernel
theorem dL_law_2703 : decode cL_law 2703 = .ok (.aload_n 3, 1) := by decide +kernel
theorem dL_law_2704 : decode cL_law 2704 = .ok (.iconst 0, 1) := by decide +kernel
theorem dL_law_2705 : decode cL_law 2705 = .ok (.laload, 1) := by decide +kernel
theorem dL_law_2706 : decode cL_law 2706 = .ok (.iload 7, 2) := by decide +kernel
theorem dL_law_2708 : decode cL_law 2708 = .ok (.i2l, 1) := by decide +kernel
theorem dL_law_2709 : decode cL_law 2709 = .ok (.lcmp, 1) := by decide +kernel
theorem dL_law_2710 : decode cL_law 2710 = .ok (.ifCond .eq 5, 3) := by decide +kernel
theorem dL_law_2713 : decode cL_law 2713 = .ok (.iconst 0, 1) := by decide +kernel
theorem dL_law_2714 : decode cL_law 2714 = .ok (.ireturn, 1) := by decide +kernel
theorem dL_law_2715 : decode cL_law 2715 = .ok (.goto 104, 3) := by decide +kernel
theorem dL_law_2718 : decode cL_law 2718 = .ok (.aload_n 1, 1) := by decide +kernel
theorem dL_law_2719 : decode cL_law 2719 = .ok (.aload_n 3, 1) := by decide +kernel
theorem dL_law_2720 : decode cL_law 2720 = .ok (.invokestatic 270, 3) := by decide +kernel
theorem dL_law_2723 : decode cL_law 2723 = .ok (.istore 6, 2) := by decide +kernel
theorem dL_law_2725 : decode cL_law 2725 = .ok (.aload_n 2, 1) := by decide +kernel
theorem dL_law_2726 : decode cL_law 2726 = .ok (.invokevirtual 272, 3) := by decide +kernel
theorem dL_law_2729 : decode cL_law 2729 = .ok (.istore 7, 2) := by decide +kernel
theorem dL_law_2731 : decode cL_law 2731 = .ok (.aload_n 2, 1) := by decide +kernel
theorem dL_law_2732 : decode cL_law 2732 = .ok (.invokevirtual 155, 3) := by decide +kernel
theorem dL_law_2735 : decode cL_law 2735 = .ok (.iload 6, 2) := by decide +kernel
theorem dL_law_2737 : decode cL_law 2737 = .ok (.if_icmp .eq 5, 3) := by decide +kernel
theorem dL_law_2740 : decode cL_law 2740 = .ok (.iconst 0, 1) := by decide +kernel
theorem dL_law_2741 : decode cL_law 2741 = .ok (.ireturn, 1) := by decide +kernel
theorem dL_law_2742 : decode cL_law 2742 = .ok (.iload 6, 2) := by decide +kernel
theorem dL_law_2744 : decode cL_law 2744 = .ok (.ifCond .ne 15, 3) := by decide +kernel
theorem dL_law_2747 : decode cL_law 2747 = .ok (.aload_n 3, 1) := by decide +kernel
theorem dL_law_2748 : decode cL_law 2748 = .ok (.iconst 0, 1) := by decide +kernel
theorem dL_law_2749 : decode cL_law 2749 = .ok (.laload, 1) := by decide +kernel
theorem dL_law_2750 : decode cL_law 2750 = .ok (.iload 7, 2) := by decide +kernel
theorem dL_law_2752 : decode cL_law 2752 = .ok (.i2l, 1) := by decide +kernel
theorem dL_law_2753 : decode cL_law 2753 = .ok (.lcmp, 1) := by decide +kernel
theorem dL_law_2754 : decode cL_law 2754 = .ok (.ifCond .eq 5, 3) := by decide +kernel
theorem dL_law_2757 : decode cL_law 2757 = .ok (.iconst 0, 1) := by decide +kernel
theorem dL_law_2758 : decode cL_law 2758 = .ok (.ireturn, 1) := by decide +kernel
theorem dL_law_2759 : decode cL_law 2759 = .ok (.goto 60, 3) := by decide +kernel
theorem dL_law_2762 : decode cL_law 2762 = .ok (.aload_n 1, 1) := by decide +kernel
theorem dL_law_2763 : decode cL_law 2763 = .ok (.invokevirtual 273, 3) := by decide +kernel
theorem dL_law_2766 : decode cL_law 2766 = .ok (.aload_n 2, 1) := by decide +kernel
theorem dL_law_2767 : decode cL_law 2767 = .ok (.invokevirtual 276, 3) := by decide +kernel
theorem dL_law_2770 : decode cL_law 2770 = .ok (.if_icmp .eq 49, 3) := by decide +kernel
theorem dL_law_2773 : decode cL_law 2773 = .ok (.iconst 0, 1) := by decide +kernel
theorem dL_law_2774 : decode cL_law 2774 = .ok (.ireturn, 1) := by decide +kernel
theorem dL_law_2775 : decode cL_law 2775 = .ok (.aload_n 1, 1) := by decide +kernel
theorem dL_law_2776 : decode cL_law 2776 = .ok (.aload_n 3, 1) := by decide +kernel
theorem dL_law_2777 : decode cL_law 2777 = .ok (.invokestatic 277, 3) := by decide +kernel
theorem dL_law_2780 : decode cL_law 2780 = .ok (.istore 6, 2) := by decide +kernel
theorem dL_law_2782 : decode cL_law 2782 = .ok (.aload_n 2, 1) := by decide +kernel
theorem dL_law_2783 : decode cL_law 2783 = .ok (.invokevirtual 279, 3) := by decide +kernel
theorem dL_law_2786 : decode cL_law 2786 = .ok (.istore 7, 2) := by decide +kernel
theorem dL_law_2788 : decode cL_law 2788 = .ok (.aload_n 2, 1) := by decide +kernel
theorem dL_law_2789 : decode cL_law 2789 = .ok (.invokevirtual 155, 3) := by decide +kernel
theorem dL_law_2792 : decode cL_law 2792 = .ok (.iload 6, 2) := by decide +kernel
theorem dL_law_2794 : decode cL_law 2794 = .ok (.if_icmp .eq 5, 3) := by decide +kernel
theorem dL_law_2797 : decode cL_law 2797 = .ok (.iconst 0, 1) := by decide +kernel
theorem dL_law_2798 : decode cL_law 2798 = .ok (.ireturn, 1) := by decide +kernel
theorem dL_law_2799 : decode cL_law 2799 = .ok (.iload 6, 2) := by decide +kernel
theorem dL_law_2801 : decode cL_law 2801 = .ok (.ifCond .ne 15, 3) := by decide +kernel
theorem dL_law_2804 : decode cL_law 2804 = .ok (.aload_n 3, 1) := by decide +kernel
theorem dL_law_2805 : decode cL_law 2805 = .ok (.iconst 0, 1) := by decide +kernel
theorem dL_law_2806 : decode cL_law 2806 = .ok (.laload, 1) := by decide +kernel
theorem dL_law_2807 : decode cL_law 2807 = .ok (.iload 7, 2) := by decide +kernel
theorem dL_law_2809 : decode cL_law 2809 = .ok (.i2l, 1) := by decide +kernel
theorem dL_law_2810 : decode cL_law 2810 = .ok (.lcmp, 1) := by decide +kernel
theorem dL_law_2811 : decode cL_law 2811 = .ok (.ifCond .eq 5, 3) := by decide +kernel
theorem dL_law_2814 : decode cL_law 2814 = .ok (.iconst 0, 1) := by decide +kernel
theorem dL_law_2815 : decode cL_law 2815 = .ok (.ireturn, 1) := by decide +kernel
theorem dL_law_2816 : decode cL_law 2816 = .ok (.goto 3, 3) := by decide +kernel
theorem dL_law_2819 : decode cL_law 2819 = .ok (.iinc 5 6, 3) := by decide +kernel
theorem dL_law_2822 : decode cL_law 2822 = .ok (.goto (-2794), 3) := by decide +kernel
theorem dL_law_2825 : decode cL_law 2825 = .ok (.iconst 1, 1) := by decide +kernel
theorem dL_law_2826 : decode cL_law 2826 = .ok (.ireturn, 1) := by decide +kernel
