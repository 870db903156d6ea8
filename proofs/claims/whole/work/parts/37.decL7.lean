theorem dL_law_2433 : decode cL_law 2433 = .ok (.iconst 0, 1) := by decide +kernel
theorem dL_law_2434 : decode cL_law 2434 = .ok (.ireturn, 1) := by decide +kernel
theorem dL_law_2435 : decode cL_law 2435 = .ok (.goto 982, 3) := by decide +kernel
theorem dL_law_2438 : decode cL_law 2438 = .ok (.aload_n 1, 1) := by decide +kernel
theorem dL_law_2439 : decode cL_law 2439 = .ok (.aload_n 0, 1) := by decide +kernel
theorem dL_law_2440 : decode cL_law 2440 = .ok (.iload 5, 2) := by decide +kernel
theorem dL_law_2442 : decode cL_law 2442 = .ok (.iconst 1, 1) := by decide +kernel
theorem dL_law_2443 : decode cL_law 2443 = .ok (.iadd, 1) := by decide +kernel
theorem dL_law_2444 : decode cL_law 2444 = .ok (.iaload, 1) := by decide +kernel
theorem dL_law_2445 : decode cL_law 2445 = .ok (.aload_n 3, 1) := by decide +kernel
theorem dL_law_2446 : decode cL_law 2446 = .ok (.invokestatic 316, 3) := by decide +kernel
theorem dL_law_2449 : decode cL_law 2449 = .ok (.istore 6, 2) := by decide +kernel
theorem dL_law_2451 : decode cL_law 2451 = .ok (.aload_n 2, 1) := by decide +kernel
theorem dL_law_2452 : decode cL_law 2452 = .ok (.aload_n 0, 1) := by decide +kernel
theorem dL_law_2453 : decode cL_law 2453 = .ok (.iload 5, 2) := by decide +kernel
theorem dL_law_2455 : decode cL_law 2455 = .ok (.iconst 1, 1) := by decide +kernel
theorem dL_law_2456 : decode cL_law 2456 = .ok (.iadd, 1) := by decide +kernel
theorem dL_law_2457 : decode cL_law 2457 = .ok (.iaload, 1) := by decide +kernel
theorem dL_law_2458 : decode cL_law 2458 = .ok (.invokevirtual 318, 3) := by decide +kernel
theorem dL_law_2461 : decode cL_law 2461 = .ok (.istore 7, 2) := by decide +kernel
theorem dL_law_2463 : decode cL_law 2463 = .ok (.aload_n 2, 1) := by decide +kernel
theorem dL_law_2464 : decode cL_law 2464 = .ok (.invokevirtual 193, 3) := by decide +kernel
theorem dL_law_2467 : decode cL_law 2467 = .ok (.iload 6, 2) := by decide +kernel
theorem dL_law_2469 : decode cL_law 2469 = .ok (.if_icmp .eq 5, 3) := by decide +kernel
theorem dL_law_2472 : decode cL_law 2472 = .ok (.iconst 0, 1) := by decide +kernel
theorem dL_law_2473 : decode cL_law 2473 = .ok (.ireturn, 1) := by decide +kernel
theorem dL_law_2474 : decode cL_law 2474 = .ok (.iload 6, 2) := by decide +kernel
theorem dL_law_2476 : decode cL_law 2476 = .ok (.ifCond .ne 22, 3) := by decide +kernel
theorem dL_law_2479 : decode cL_law 2479 = .ok (.aload_n 3, 1) := by decide +kernel
theorem dL_law_2480 : decode cL_law 2480 = .ok (.iconst 0, 1) := by decide +kernel
theorem dL_law_2481 : decode cL_law 2481 = .ok (.laload, 1) := by decide +kernel
theorem dL_law_2482 : decode cL_law 2482 = .ok (.iload 7, 2) := by decide +kernel
theorem dL_law_2484 : decode cL_law 2484 = .ok (.ifCond .eq 7, 3) := by decide +kernel
theorem dL_law_2487 : decode cL_law 2487 = .ok (.lconst 1, 1) := by decide +kernel
theorem dL_law_2488 : decode cL_law 2488 = .ok (.goto 4, 3) := by decide +kernel
theorem dL_law_2491 : decode cL_law 2491 = .ok (.lconst 0, 1) := by decide +kernel
theorem dL_law_2492 : decode cL_law 2492 = .ok (.lcmp, 1) := by decide +kernel
theorem dL_law_2493 : decode cL_law 2493 = .ok (.ifCond .eq 5, 3) := by decide +kernel
theorem dL_law_2496 : decode cL_law 2496 = .ok (.iconst 0, 1) := by decide +kernel
theorem dL_law_2497 : decode cL_law 2497 = .ok (.ireturn, 1) := by decide +kernel
theorem dL_law_2498 : decode cL_law 2498 = .ok (.goto 919, 3) := by decide +kernel
theorem dL_law_2501 : decode cL_law 2501 = .ok (.aload_n 1, 1) := by decide +kernel
theorem dL_law_2502 : decode cL_law 2502 = .ok (.aload_n 0, 1) := by decide +kernel
theorem dL_law_2503 : decode cL_law 2503 = .ok (.iload 5, 2) := by decide +kernel
theorem dL_law_2505 : decode cL_law 2505 = .ok (.iconst 1, 1) := by decide +kernel
theorem dL_law_2506 : decode cL_law 2506 = .ok (.iadd, 1) := by decide +kernel
theorem dL_law_2507 : decode cL_law 2507 = .ok (.iaload, 1) := by decide +kernel
theorem dL_law_2508 : decode cL_law 2508 = .ok (.aload_n 3, 1) := by decide +kernel
theorem dL_law_2509 : decode cL_law 2509 = .ok (.invokestatic 319, 3) := by decide +kernel
theorem dL_law_2512 : decode cL_law 2512 = .ok (.istore 6, 2) := by decide +kernel
theorem dL_law_2514 : decode cL_law 2514 = .ok (.aload_n 2, 1) := by decide +kernel
theorem dL_law_2515 : decode cL_law 2515 = .ok (.aload_n 0, 1) := by decide +kernel
theorem dL_law_2516 : decode cL_law 2516 = .ok (.iload 5, 2) := by decide +kernel
theorem dL_law_2518 : decode cL_law 2518 = .ok (.iconst 1, 1) := by decide +kernel
theorem dL_law_2519 : decode cL_law 2519 = .ok (.iadd, 1) := by decide +kernel
theorem dL_law_2520 : decode cL_law 2520 = .ok (.iaload, 1) := by decide +kernel
theorem dL_law_2521 : decode cL_law 2521 = .ok (.invokevirtual 321, 3) := by decide +kernel
theorem dL_law_2524 : decode cL_law 2524 = .ok (.istore 7, 2) := by decide +kernel
theorem dL_law_2526 : decode cL_law 2526 = .ok (.aload_n 2, 1) := by decide +kernel
theorem dL_law_2527 : decode cL_law 2527 = .ok (.invokevirtual 193, 3) := by decide +kernel
theorem dL_law_2530 : decode cL_law 2530 = .ok (.iload 6, 2) := by decide +kernel
theorem dL_law_2532 : decode cL_law 2532 = .ok (.if_icmp .eq 5, 3) := by decide +kernel
theorem dL_law_2535 : decode cL_law 2535 = .ok (.iconst 0, 1) := by decide +kernel
theorem dL_law_2536 : decode cL_law 2536 = .ok (.ireturn, 1) := by decide +kernel
theorem dL_law_2537 : decode cL_law 2537 = .ok (.iload 6, 2) := by decide +kernel
theorem dL_law_2539 : decode cL_law 2539 = .ok (.ifCond .ne 15, 3) := by decide +kernel
theorem dL_law_2542 : decode cL_law 2542 = .ok (.aload_n 3, 1) := by decide +kernel
theorem dL_law_2543 : decode cL_law 2543 = .ok (.iconst 0, 1) := by decide +kernel
theorem dL_law_2544 : decode cL_law 2544 = .ok (.laload, 1) := by decide +kernel
theorem dL_law_2545 : decode cL_law 2545 = .ok (.iload 7, 2) := by decide +kernel
theorem dL_law_2547 : decode cL_law 2547 = .ok (.i2l, 1) := by decide +kernel
theorem dL_law_2548 : decode cL_law 2548 = .ok (.lcmp, 1) := by decide +kernel
theorem dL_law_2549 : decode cL_law 2549 = .ok (.ifCond .eq 5, 3) := by decide +kernel
theorem dL_law_2552 : decode cL_law 2552 = .ok (.iconst 0, 1) := by decide +kernel
theorem dL_law_2553 : decode cL_law 2553 = .ok (.ireturn, 1) := by decide +kernel
theorem dL_law_2554 : decode cL_law 2554 = .ok (.goto 863, 3) := by decide +kernel
theorem dL_law_2557 : decode cL_law 2557 = .ok (.aload_n 1, 1) := by decide +kernel
theorem dL_law_2558 : decode cL_law 2558 = .ok (.aload_n 0, 1) := by decide +kernel
theorem dL_law_2559 : decode cL_law 2559 = .ok (.iload 5, 2) := by decide +kernel
theorem dL_law_2561 : decode cL_law 2561 = .ok (.iconst 1, 1) := by decide +kernel
theorem dL_law_2562 : decode cL_law 2562 = .ok (.iadd, 1) := by decide +kernel
theorem dL_law_2563 : decode cL_law 2563 = .ok (.iaload, 1) := by decide +kernel
theorem dL_law_2564 : decode cL_law 2564 = .ok (.aload_n 3, 1) := by decide +kernel
theorem dL_law_2565 : decode cL_law 2565 = .ok (.invokestatic 322, 3) := by decide +kernel
theorem dL_law_2568 : decode cL_law 2568 = .ok (.istore 6, 2) := by decide +kernel
theorem dL_law_2570 : decode cL_law 2570 = .ok (.aload_n 2, 1) := by decide +kernel
theorem dL_law_2571 : decode cL_law 2571 = .ok (.aload_n 0, 1) := by decide +kernel
theorem dL_law_2572 : decode cL_law 2572 = .ok (.iload 5, 2) := by decide +kernel
theorem dL_law_2574 : decode cL_law 2574 = .ok (.iconst 1, 1) := by decide +kernel
theorem dL_law_2575 : decode cL_law 2575 = .ok (.iadd, 1) := by decide +kernel
theorem dL_law_2576 : decode cL_law 2576 = .ok (.iaload, 1) := by decide +kernel
theorem dL_law_2577 : decode cL_law 2577 = .ok (.invokevirtual 324, 3) := by decide +kernel
theorem dL_law_2580 : decode cL_law 2580 = .ok (.istore 7, 2) := by decide +kernel
theorem dL_law_2582 : decode cL_law 2582 = .ok (.aload_n 2, 1) := by decide +kernel
theorem dL_law_2583 : decode cL_law 2583 = .ok (.invokevirtual 193, 3) := by decide +kernel
theorem dL_law_2586 : decode cL_law 2586 = .ok (.iload 6, 2) := by decide +kernel
theorem dL_law_2588 : decode cL_law 2588 = .ok (.if_icmp .eq 5, 3) := by decide +kernel
theorem dL_law_2591 : decode cL_law 2591 = .ok (.iconst 0, 1) := by decide +kernel
theorem dL_law_2592 : decode cL_law 2592 = .ok (.ireturn, 1) := by decide +kernel
theorem dL_law_2593 : decode cL_law 2593 = .ok (.iload 6, 2) := by decide +kernel
theorem dL_law_2595 : decode cL_law 2595 = .ok (.ifCond .ne 15, 3) := by decide +kernel
theorem dL_law_2598 : decode cL_law 2598 = .ok (.aload_n 3, 1) := by decide +kernel
theorem dL_law_2599 : decode cL_law 2599 = .ok (.iconst 0, 1) := by decide +kernel
theorem dL_law_2600 : decode cL_law 2600 = .ok (.laload, 1) := by decide +kernel
theorem dL_law_2601 : decode cL_law 2601 = .ok (.iload 7, 2) := by decide +kernel
theorem dL_law_2603 : decode cL_law 2603 = .ok (.i2l, 1) := by decide +kernel
theorem dL_law_2604 : decode cL_law 2604 = .ok (.lcmp, 1) := by decide +kernel
theorem dL_law_2605 : decode cL_law 2605 = .ok (.ifCond .eq 5, 3) := by decide +kernel
theorem dL_law_2608 : decode cL_law 2608 = .ok (.iconst 0, 1) := by decide +kernel
theorem dL_law_2609 : decode cL_law 2609 = .ok (.ireturn, 1) := by decide +kernel
theorem dL_law_2610 : decode cL_law 2610 = .ok (.goto 807, 3) := by decide +kernel
theorem dL_law_2613 : decode cL_law 2613 = .ok (.aload_n 1, 1) := by decide +kernel
theorem dL_law_2614 : decode cL_law 2614 = .ok (.aload_n 0, 1) := by decide +kernel
theorem dL_law_2615 : decode cL_law 2615 = .ok (.iload 5, 2) := by decide +kernel
theorem dL_law_2617 : decode cL_law 2617 = .ok (.iconst 1, 1) := by decide +kernel
theorem dL_law_2618 : decode cL_law 2618 = .ok (.iadd, 1) := by decide +kernel
theorem dL_law_2619 : decode cL_law 2619 = .ok (.iaload, 1) := by decide +kernel
theorem dL_law_2620 : decode cL_law 2620 = .ok (.aload_n 0, 1) := by decide +kernel
theorem dL_law_2621 : decode cL_law 2621 = .ok (.iload 5, 2) := by decide +kernel
theorem dL_law_2623 : decode cL_law 2623 = .ok (.iconst 2, 1) := by decide +kernel
theorem dL_law_2624 : decode cL_law 2624 = .ok (.iadd, 1) := by decide +kernel
theorem dL_law_2625 : decode cL_law 2625 = .ok (.iaload, 1) := by decide +kernel
theorem dL_law_2626 : decode cL_law 2626 = .ok (.aload_n 3, 1) := by decide +kernel
theorem dL_law_2627 : decode cL_law 2627 = .ok (.invokestatic 325, 3) := by decide +kernel
theorem dL_law_2630 : decode cL_law 2630 = .ok (.istore 6, 2) := by decide +kernel
theorem dL_law_2632 : decode cL_law 2632 = .ok (.aload_n 2, 1) := by decide +kernel
theorem dL_law_2633 : decode cL_law 2633 = .ok (.aload_n 0, 1) := by decide +kernel
theorem dL_law_2634 : decode cL_law 2634 = .ok (.iload 5, 2) := by decide +kernel
theorem dL_law_2636 : decode cL_law 2636 = .ok (.iconst 1, 1) := by decide +kernel
theorem dL_law_2637 : decode cL_law 2637 = .ok (.iadd, 1) := by decide +kernel
theorem dL_law_2638 : decode cL_law 2638 = .ok (.iaload, 1) := by decide +kernel
theorem dL_law_2639 : decode cL_law 2639 = .ok (.aload_n 0, 1) := by decide +kernel
theorem dL_law_2640 : decode cL_law 2640 = .ok (.iload 5, 2) := by decide +kernel
theorem dL_law_2642 : decode cL_law 2642 = .ok (.iconst 2, 1) := by decide +kernel
theorem dL_law_2643 : decode cL_law 2643 = .ok (.iadd, 1) := by decide +kernel
theorem dL_law_2644 : decode cL_law 2644 = .ok (.iaload, 1) := by decide +kernel
theorem dL_law_2645 : decode cL_law 2645 = .ok (.invokevirtual 327, 3) := by decide +kernel
theorem dL_law_2648 : decode cL_law 2648 = .ok (.istore 7, 2) := by decide +kernel
theorem dL_law_2650 : decode cL_law 2650 = .ok (.aload_n 2, 1) := by decide +kernel
theorem dL_law_2651 : decode cL_law 2651 = .ok (.invokevirtual 193, 3) := by decide +kernel
theorem dL_law_2654 : decode cL_law 2654 = .ok (.iload 6, 2) := by decide +kernel
theorem dL_law_2656 : decode cL_law 2656 = .ok (.if_icmp .eq 5, 3) := by decide +kernel
theorem dL_law_2659 : decode cL_law 2659 = .ok (.iconst 0, 1) := by decide +kernel
theorem dL_law_2660 : decode cL_law 2660 = .ok (.ireturn, 1) := by decide +kernel
theorem dL_law_2661 : decode cL_law 2661 = .ok (.iload 6, 2) := by decide +kernel
theorem dL_law_2663 : decode cL_law 2663 = .ok (.ifCond .ne 15, 3) := by decide +kernel
theorem dL_law_2666 : decode cL_law 2666 = .ok (.aload_n 3, 1) := by decide +kernel
theorem dL_law_2667 : decode cL_law 2667 = .ok (.iconst 0, 1) := by decide +kernel
theorem dL_law_2668 : decode cL_law 2668 = .ok (.laload, 1) := by decide +kernel
theorem dL_law_2669 : decode cL_law 2669 = .ok (.iload 7, 2) := by decide +kernel
theorem dL_law_2671 : decode cL_law 2671 = .ok (.i2l, 1) := by decide +kernel
theorem dL_law_2672 : decode cL_law 2672 = .ok (.lcmp, 1) := by decide +kernel
theorem dL_law_2673 : decode cL_law 2673 = .ok (.ifCond .eq 5, 3) := by decide +kernel
theorem dL_law_2676 : decode cL_law 2676 = .ok (.iconst 0, 1) := by decide +kernel
theorem dL_law_2677 : decode cL_law 2677 = .ok (.ireturn, 1) := by decide +kernel
theorem dL_law_2678 : decode cL_law 2678 = .ok (.goto 739, 3) := by decide +kernel
theorem dL_law_2681 : decode cL_law 2681 = .ok (.aload_n 1, 1) := by decide +kernel
theorem dL_law_2682 : decode cL_law 2682 = .ok (.aload_n 0, 1) := by decide +kernel
theorem dL_law_2683 : decode cL_law 2683 = .ok (.iload 5, 2) := by decide +kernel
theorem dL_law_2685 : decode cL_law 2685 = .ok (.iconst 1, 1) := by decide +kernel
theorem dL_law_2686 : decode cL_law 2686 = .ok (.iadd, 1) := by decide +kernel
theorem dL_law_2687 : decode cL_law 2687 = .ok (.iaload, 1) := by decide +kernel
theorem dL_law_2688 : decode cL_law 2688 = .ok (.aload_n 0, 1) := by decide +kernel
theorem dL_law_2689 : decode cL_law 2689 = .ok (.iload 5, 2) := by decide +kernel
theorem dL_law_2691 : decode cL_law 2691 = .ok (.iconst 2, 1) := by decide +kernel
theorem dL_law_2692 : decode cL_law 2692 = .ok (.iadd, 1) := by decide +kernel
theorem dL_law_2693 : decode cL_law 2693 = .ok (.iaload, 1) := by decide +kernel
theorem dL_law_2694 : decode cL_law 2694 = .ok (.aload_n 3, 1) := by decide +kernel
theorem dL_law_2695 : decode cL_law 2695 = .ok (.invokestatic 328, 3) := by decide +kernel
theorem dL_law_2698 : decode cL_law 2698 = .ok (.istore 6, 2) := by decide +kernel
theorem dL_law_2700 : decode cL_law 2700 = .ok (.aload_n 2, 1) := by decide +kernel
theorem dL_law_2701 : decode cL_law 2701 = .ok (.aload_n 0, 1) := by decide +kernel
theorem dL_law_2702 : decode cL_law 2702 = .ok (.iload 5, 2) := by decide +kernel
theorem dL_law_2704 : decode cL_law 2704 = .ok (.iconst 1, 1) := by decide +kernel
theorem dL_law_2705 : decode cL_law 2705 = .ok (.iadd, 1) := by decide +kernel
theorem dL_law_2706 : decode cL_law 2706 = .ok (.iaload, 1) := by decide +kernel
theorem dL_law_2707 : decode cL_law 2707 = .ok (.aload_n 0, 1) := by decide +kernel
theorem dL_law_2708 : decode cL_law 2708 = .ok (.iload 5, 2) := by decide +kernel
theorem dL_law_2710 : decode cL_law 2710 = .ok (.iconst 2, 1) := by decide +kernel
theorem dL_law_2711 : decode cL_law 2711 = .ok (.iadd, 1) := by decide +kernel
theorem dL_law_2712 : decode cL_law 2712 = .ok (.iaload, 1) := by decide +kernel
theorem dL_law_2713 : decode cL_law 2713 = .ok (.invokevirtual 330, 3) := by decide +kernel
theorem dL_law_2716 : decode cL_law 2716 = .ok (.istore 7, 2) := by decide +kernel
theorem dL_law_2718 : decode cL_law 2718 = .ok (.aload_n 2, 1) := by decide +kernel
theorem dL_law_2719 : decode cL_law 2719 = .ok (.invokevirtual 193, 3) := by decide +kernel
theorem dL_law_2722 : decode cL_law 2722 = .ok (.iload 6, 2) := by decide +kernel
theorem dL_law_2724 : decode cL_law 2724 = .ok (.if_icmp .eq 5, 3) := by decide +kernel
theorem dL_law_2727 : decode cL_law 2727 = .ok (.iconst 0, 1) := by decide +kernel
theorem dL_law_2728 : decode cL_law 2728 = .ok (.ireturn, 1) := by decide +kernel
theorem dL_law_2729 : decode cL_law 2729 = .ok (.iload 6, 2) := by decide +kernel
theorem dL_law_2731 : decode cL_law 2731 = .ok (.ifCond .ne 22, 3) := by decide +kernel
theorem dL_law_2734 : decode cL_law 2734 = .ok (.aload_n 3, 1) := by decide +kernel
theorem dL_law_2735 : decode cL_law 2735 = .ok (.iconst 0, 1) := by decide +kernel
theorem dL_law_2736 : decode cL_law 2736 = .ok (.laload, 1) := by decide +kernel
theorem dL_law_2737 : decode cL_law 2737 = .ok (.iload 7, 2) := by decide +kernel
theorem dL_law_2739 : decode cL_law 2739 = .ok (.ifCond .eq 7, 3) := by decide +kernel
theorem dL_law_2742 : decode cL_law 2742 = .ok (.lconst 1, 1) := by decide +kernel
theorem dL_law_2743 : decode cL_law 2743 = .ok (.goto 4, 3) := by decide +kernel
theorem dL_law_2746 : decode cL_law 2746 = .ok (.lconst 0, 1) := by decide +kernel
theorem dL_law_2747 : decode cL_law 2747 = .ok (.lcmp, 1) := by decide +kernel
