/-! the law's own instructions, 6 -/
theorem dL_law__2491 : decode cL_law_ 2491 = .ok (.iaload, 1) := by decide +kernel
theorem dL_law__2492 : decode cL_law_ 2492 = .ok (.aload_n 3, 1) := by decide +kernel
theorem dL_law__2493 : decode cL_law_ 2493 = .ok (.invokestatic 262, 3) := by decide +kernel
theorem dL_law__2496 : decode cL_law_ 2496 = .ok (.istore 5, 2) := by decide +kernel
theorem dL_law__2498 : decode cL_law_ 2498 = .ok (.aload_n 2, 1) := by decide +kernel
theorem dL_law__2499 : decode cL_law_ 2499 = .ok (.aload_n 0, 1) := by decide +kernel
theorem dL_law__2500 : decode cL_law_ 2500 = .ok (.iload 4, 2) := by decide +kernel
theorem dL_law__2502 : decode cL_law_ 2502 = .ok (.iconst 1, 1) := by decide +kernel
theorem dL_law__2503 : decode cL_law_ 2503 = .ok (.iadd, 1) := by decide +kernel
theorem dL_law__2504 : decode cL_law_ 2504 = .ok (.iaload, 1) := by decide +kernel
theorem dL_law__2505 : decode cL_law_ 2505 = .ok (.invokevirtual 264, 3) := by decide +kernel
theorem dL_law__2508 : decode cL_law_ 2508 = .ok (.istore 6, 2) := by decide +kernel
theorem dL_law__2510 : decode cL_law_ 2510 = .ok (.aload_n 2, 1) := by decide +kernel
theorem dL_law__2511 : decode cL_law_ 2511 = .ok (.invokevirtual 149, 3) := by decide +kernel
theorem dL_law__2514 : decode cL_law_ 2514 = .ok (.iload 5, 2) := by decide +kernel
theorem dL_law__2516 : decode cL_law_ 2516 = .ok (.if_icmp .eq 5, 3) := by decide +kernel
theorem dL_law__2519 : decode cL_law_ 2519 = .ok (.iconst 0, 1) := by decide +kernel
theorem dL_law__2520 : decode cL_law_ 2520 = .ok (.ireturn, 1) := by decide +kernel
theorem dL_law__2521 : decode cL_law_ 2521 = .ok (.iload 5, 2) := by decide +kernel
theorem dL_law__2523 : decode cL_law_ 2523 = .ok (.ifCond .ne 15, 3) := by decide +kernel
theorem dL_law__2526 : decode cL_law_ 2526 = .ok (.aload_n 3, 1) := by decide +kernel
theorem dL_law__2527 : decode cL_law_ 2527 = .ok (.iconst 0, 1) := by decide +kernel
theorem dL_law__2528 : decode cL_law_ 2528 = .ok (.laload, 1) := by decide +kernel
theorem dL_law__2529 : decode cL_law_ 2529 = .ok (.iload 6, 2) := by decide +kernel
theorem dL_law__2531 : decode cL_law_ 2531 = .ok (.i2l, 1) := by decide +kernel
theorem dL_law__2532 : decode cL_law_ 2532 = .ok (.lcmp, 1) := by decide +kernel
theorem dL_law__2533 : decode cL_law_ 2533 = .ok (.ifCond .eq 5, 3) := by decide +kernel
theorem dL_law__2536 : decode cL_law_ 2536 = .ok (.iconst 0, 1) := by decide +kernel
theorem dL_law__2537 : decode cL_law_ 2537 = .ok (.ireturn, 1) := by decide +kernel
theorem dL_law__2538 : decode cL_law_ 2538 = .ok (.goto 407, 3) := by decide +kernel
theorem dL_law__2541 : decode cL_law_ 2541 = .ok (.aload_n 1, 1) := by decide +kernel
theorem dL_law__2542 : decode cL_law_ 2542 = .ok (.invokevirtual 265, 3) := by decide +kernel
theorem dL_law__2545 : decode cL_law_ 2545 = .ok (.aload_n 2, 1) := by decide +kernel
theorem dL_law__2546 : decode cL_law_ 2546 = .ok (.invokevirtual 268, 3) := by decide +kernel
theorem dL_law__2549 : decode cL_law_ 2549 = .ok (.if_icmp .eq 396, 3) := by decide +kernel
theorem dL_law__2552 : decode cL_law_ 2552 = .ok (.iconst 0, 1) := by decide +kernel
theorem dL_law__2553 : decode cL_law_ 2553 = .ok (.ireturn, 1) := by decide +kernel
theorem dL_law__2554 : decode cL_law_ 2554 = .ok (.aload_n 1, 1) := by decide +kernel
theorem dL_law__2555 : decode cL_law_ 2555 = .ok (.aload_n 0, 1) := by decide +kernel
theorem dL_law__2556 : decode cL_law_ 2556 = .ok (.iload 4, 2) := by decide +kernel
theorem dL_law__2558 : decode cL_law_ 2558 = .ok (.iconst 1, 1) := by decide +kernel
theorem dL_law__2559 : decode cL_law_ 2559 = .ok (.iadd, 1) := by decide +kernel
theorem dL_law__2560 : decode cL_law_ 2560 = .ok (.iaload, 1) := by decide +kernel
theorem dL_law__2561 : decode cL_law_ 2561 = .ok (.aload_n 0, 1) := by decide +kernel
theorem dL_law__2562 : decode cL_law_ 2562 = .ok (.iload 4, 2) := by decide +kernel
theorem dL_law__2564 : decode cL_law_ 2564 = .ok (.iconst 2, 1) := by decide +kernel
theorem dL_law__2565 : decode cL_law_ 2565 = .ok (.iadd, 1) := by decide +kernel
theorem dL_law__2566 : decode cL_law_ 2566 = .ok (.iaload, 1) := by decide +kernel
theorem dL_law__2567 : decode cL_law_ 2567 = .ok (.aload_n 3, 1) := by decide +kernel
theorem dL_law__2568 : decode cL_law_ 2568 = .ok (.invokestatic 269, 3) := by decide +kernel
theorem dL_law__2571 : decode cL_law_ 2571 = .ok (.istore 5, 2) := by decide +kernel
theorem dL_law__2573 : decode cL_law_ 2573 = .ok (.aload_n 2, 1) := by decide +kernel
theorem dL_law__2574 : decode cL_law_ 2574 = .ok (.aload_n 0, 1) := by decide +kernel
theorem dL_law__2575 : decode cL_law_ 2575 = .ok (.iload 4, 2) := by decide +kernel
theorem dL_law__2577 : decode cL_law_ 2577 = .ok (.iconst 1, 1) := by decide +kernel
theorem dL_law__2578 : decode cL_law_ 2578 = .ok (.iadd, 1) := by decide +kernel
theorem dL_law__2579 : decode cL_law_ 2579 = .ok (.iaload, 1) := by decide +kernel
theorem dL_law__2580 : decode cL_law_ 2580 = .ok (.aload_n 0, 1) := by decide +kernel
theorem dL_law__2581 : decode cL_law_ 2581 = .ok (.iload 4, 2) := by decide +kernel
theorem dL_law__2583 : decode cL_law_ 2583 = .ok (.iconst 2, 1) := by decide +kernel
theorem dL_law__2584 : decode cL_law_ 2584 = .ok (.iadd, 1) := by decide +kernel
theorem dL_law__2585 : decode cL_law_ 2585 = .ok (.iaload, 1) := by decide +kernel
theorem dL_law__2586 : decode cL_law_ 2586 = .ok (.invokevirtual 271, 3) := by decide +kernel
theorem dL_law__2589 : decode cL_law_ 2589 = .ok (.istore 6, 2) := by decide +kernel
theorem dL_law__2591 : decode cL_law_ 2591 = .ok (.aload_n 2, 1) := by decide +kernel
theorem dL_law__2592 : decode cL_law_ 2592 = .ok (.invokevirtual 149, 3) := by decide +kernel
theorem dL_law__2595 : decode cL_law_ 2595 = .ok (.iload 5, 2) := by decide +kernel
theorem dL_law__2597 : decode cL_law_ 2597 = .ok (.if_icmp .eq 5, 3) := by decide +kernel
theorem dL_law__2600 : decode cL_law_ 2600 = .ok (.iconst 0, 1) := by decide +kernel
theorem dL_law__2601 : decode cL_law_ 2601 = .ok (.ireturn, 1) := by decide +kernel
theorem dL_law__2602 : decode cL_law_ 2602 = .ok (.iload 5, 2) := by decide +kernel
theorem dL_law__2604 : decode cL_law_ 2604 = .ok (.ifCond .ne 15, 3) := by decide +kernel
theorem dL_law__2607 : decode cL_law_ 2607 = .ok (.aload_n 3, 1) := by decide +kernel
theorem dL_law__2608 : decode cL_law_ 2608 = .ok (.iconst 0, 1) := by decide +kernel
theorem dL_law__2609 : decode cL_law_ 2609 = .ok (.laload, 1) := by decide +kernel
theorem dL_law__2610 : decode cL_law_ 2610 = .ok (.iload 6, 2) := by decide +kernel
theorem dL_law__2612 : decode cL_law_ 2612 = .ok (.i2l, 1) := by decide +kernel
theorem dL_law__2613 : decode cL_law_ 2613 = .ok (.lcmp, 1) := by decide +kernel
theorem dL_law__2614 : decode cL_law_ 2614 = .ok (.ifCond .eq 5, 3) := by decide +kernel
theorem dL_law__2617 : decode cL_law_ 2617 = .ok (.iconst 0, 1) := by decide +kernel
theorem dL_law__2618 : decode cL_law_ 2618 = .ok (.ireturn, 1) := by decide +kernel
theorem dL_law__2619 : decode cL_law_ 2619 = .ok (.goto 326, 3) := by decide +kernel
theorem dL_law__2622 : decode cL_law_ 2622 = .ok (.aload_n 1, 1) := by decide +kernel
theorem dL_law__2623 : decode cL_law_ 2623 = .ok (.aload_n 0, 1) := by decide +kernel
theorem dL_law__2624 : decode cL_law_ 2624 = .ok (.iload 4, 2) := by decide +kernel
theorem dL_law__2626 : decode cL_law_ 2626 = .ok (.iconst 1, 1) := by decide +kernel
theorem dL_law__2627 : decode cL_law_ 2627 = .ok (.iadd, 1) := by decide +kernel
theorem dL_law__2628 : decode cL_law_ 2628 = .ok (.iaload, 1) := by decide +kernel
theorem dL_law__2629 : decode cL_law_ 2629 = .ok (.aload_n 0, 1) := by decide +kernel
theorem dL_law__2630 : decode cL_law_ 2630 = .ok (.iload 4, 2) := by decide +kernel
theorem dL_law__2632 : decode cL_law_ 2632 = .ok (.iconst 2, 1) := by decide +kernel
theorem dL_law__2633 : decode cL_law_ 2633 = .ok (.iadd, 1) := by decide +kernel
theorem dL_law__2634 : decode cL_law_ 2634 = .ok (.iaload, 1) := by decide +kernel
theorem dL_law__2635 : decode cL_law_ 2635 = .ok (.ifCond .eq 7, 3) := by decide +kernel
theorem dL_law__2638 : decode cL_law_ 2638 = .ok (.iconst 1, 1) := by decide +kernel
theorem dL_law__2639 : decode cL_law_ 2639 = .ok (.goto 4, 3) := by decide +kernel
theorem dL_law__2642 : decode cL_law_ 2642 = .ok (.iconst 0, 1) := by decide +kernel
theorem dL_law__2643 : decode cL_law_ 2643 = .ok (.aload_n 3, 1) := by decide +kernel
theorem dL_law__2644 : decode cL_law_ 2644 = .ok (.invokestatic 272, 3) := by decide +kernel
theorem dL_law__2647 : decode cL_law_ 2647 = .ok (.istore 5, 2) := by decide +kernel
theorem dL_law__2649 : decode cL_law_ 2649 = .ok (.aload_n 2, 1) := by decide +kernel
theorem dL_law__2650 : decode cL_law_ 2650 = .ok (.aload_n 0, 1) := by decide +kernel
theorem dL_law__2651 : decode cL_law_ 2651 = .ok (.iload 4, 2) := by decide +kernel
theorem dL_law__2653 : decode cL_law_ 2653 = .ok (.iconst 1, 1) := by decide +kernel
theorem dL_law__2654 : decode cL_law_ 2654 = .ok (.iadd, 1) := by decide +kernel
theorem dL_law__2655 : decode cL_law_ 2655 = .ok (.iaload, 1) := by decide +kernel
theorem dL_law__2656 : decode cL_law_ 2656 = .ok (.aload_n 0, 1) := by decide +kernel
theorem dL_law__2657 : decode cL_law_ 2657 = .ok (.iload 4, 2) := by decide +kernel
theorem dL_law__2659 : decode cL_law_ 2659 = .ok (.iconst 2, 1) := by decide +kernel
theorem dL_law__2660 : decode cL_law_ 2660 = .ok (.iadd, 1) := by decide +kernel
theorem dL_law__2661 : decode cL_law_ 2661 = .ok (.iaload, 1) := by decide +kernel
theorem dL_law__2662 : decode cL_law_ 2662 = .ok (.ifCond .eq 7, 3) := by decide +kernel
theorem dL_law__2665 : decode cL_law_ 2665 = .ok (.iconst 1, 1) := by decide +kernel
theorem dL_law__2666 : decode cL_law_ 2666 = .ok (.goto 4, 3) := by decide +kernel
theorem dL_law__2669 : decode cL_law_ 2669 = .ok (.iconst 0, 1) := by decide +kernel
theorem dL_law__2670 : decode cL_law_ 2670 = .ok (.invokevirtual 274, 3) := by decide +kernel
theorem dL_law__2673 : decode cL_law_ 2673 = .ok (.istore 6, 2) := by decide +kernel
theorem dL_law__2675 : decode cL_law_ 2675 = .ok (.aload_n 2, 1) := by decide +kernel
theorem dL_law__2676 : decode cL_law_ 2676 = .ok (.invokevirtual 149, 3) := by decide +kernel
theorem dL_law__2679 : decode cL_law_ 2679 = .ok (.iload 5, 2) := by decide +kernel
theorem dL_law__2681 : decode cL_law_ 2681 = .ok (.if_icmp .eq 5, 3) := by decide +kernel
theorem dL_law__2684 : decode cL_law_ 2684 = .ok (.iconst 0, 1) := by decide +kernel
theorem dL_law__2685 : decode cL_law_ 2685 = .ok (.ireturn, 1) := by decide +kernel
theorem dL_law__2686 : decode cL_law_ 2686 = .ok (.iload 5, 2) := by decide +kernel
theorem dL_law__2688 : decode cL_law_ 2688 = .ok (.ifCond .ne 15, 3) := by decide +kernel
theorem dL_law__2691 : decode cL_law_ 2691 = .ok (.aload_n 3, 1) := by decide +kernel
theorem dL_law__2692 : decode cL_law_ 2692 = .ok (.iconst 0, 1) := by decide +kernel
theorem dL_law__2693 : decode cL_law_ 2693 = .ok (.laload, 1) := by decide +kernel
theorem dL_law__2694 : decode cL_law_ 2694 = .ok (.iload 6, 2) := by decide +kernel
theorem dL_law__2696 : decode cL_law_ 2696 = .ok (.i2l, 1) := by decide +kernel
theorem dL_law__2697 : decode cL_law_ 2697 = .ok (.lcmp, 1) := by decide +kernel
theorem dL_law__2698 : decode cL_law_ 2698 = .ok (.ifCond .eq 5, 3) := by decide +kernel
theorem dL_law__2701 : decode cL_law_ 2701 = .ok (.iconst 0, 1) := by decide +kernel
theorem dL_law__2702 : decode cL_law_ 2702 = .ok (.ireturn, 1) := by decide +kernel
theorem dL_law__2703 : decode cL_law_ 2703 = .ok (.goto 242, 3) := by decide +kernel
theorem dL_law__2706 : decode cL_law_ 2706 = .ok (.aload_n 1, 1) := by decide +kernel
theorem dL_law__2707 : decode cL_law_ 2707 = .ok (.aload_n 0, 1) := by decide +kernel
theorem dL_law__2708 : decode cL_law_ 2708 = .ok (.iload 4, 2) := by decide +kernel
theorem dL_law__2710 : decode cL_law_ 2710 = .ok (.iconst 1, 1) := by decide +kernel
theorem dL_law__2711 : decode cL_law_ 2711 = .ok (.iadd, 1) := by decide +kernel
theorem dL_law__2712 : decode cL_law_ 2712 = .ok (.iaload, 1) := by decide +kernel
theorem dL_law__2713 : decode cL_law_ 2713 = .ok (.aload_n 0, 1) := by decide +kernel
theorem dL_law__2714 : decode cL_law_ 2714 = .ok (.iload 4, 2) := by decide +kernel
theorem dL_law__2716 : decode cL_law_ 2716 = .ok (.iconst 2, 1) := by decide +kernel
theorem dL_law__2717 : decode cL_law_ 2717 = .ok (.iadd, 1) := by decide +kernel
theorem dL_law__2718 : decode cL_law_ 2718 = .ok (.iaload, 1) := by decide +kernel
theorem dL_law__2719 : decode cL_law_ 2719 = .ok (.ifCond .eq 7, 3) := by decide +kernel
theorem dL_law__2722 : decode cL_law_ 2722 = .ok (.iconst 1, 1) := by decide +kernel
theorem dL_law__2723 : decode cL_law_ 2723 = .ok (.goto 4, 3) := by decide +kernel
theorem dL_law__2726 : decode cL_law_ 2726 = .ok (.iconst 0, 1) := by decide +kernel
theorem dL_law__2727 : decode cL_law_ 2727 = .ok (.aload_n 3, 1) := by decide +kernel
theorem dL_law__2728 : decode cL_law_ 2728 = .ok (.invokestatic 275, 3) := by decide +kernel
theorem dL_law__2731 : decode cL_law_ 2731 = .ok (.istore 5, 2) := by decide +kernel
theorem dL_law__2733 : decode cL_law_ 2733 = .ok (.aload_n 2, 1) := by decide +kernel
theorem dL_law__2734 : decode cL_law_ 2734 = .ok (.aload_n 0, 1) := by decide +kernel
theorem dL_law__2735 : decode cL_law_ 2735 = .ok (.iload 4, 2) := by decide +kernel
theorem dL_law__2737 : decode cL_law_ 2737 = .ok (.iconst 1, 1) := by decide +kernel
theorem dL_law__2738 : decode cL_law_ 2738 = .ok (.iadd, 1) := by decide +kernel
theorem dL_law__2739 : decode cL_law_ 2739 = .ok (.iaload, 1) := by decide +kernel
theorem dL_law__2740 : decode cL_law_ 2740 = .ok (.aload_n 0, 1) := by decide +kernel
theorem dL_law__2741 : decode cL_law_ 2741 = .ok (.iload 4, 2) := by decide +kernel
theorem dL_law__2743 : decode cL_law_ 2743 = .ok (.iconst 2, 1) := by decide +kernel
theorem dL_law__2744 : decode cL_law_ 2744 = .ok (.iadd, 1) := by decide +kernel
theorem dL_law__2745 : decode cL_law_ 2745 = .ok (.iaload, 1) := by decide +kernel
theorem dL_law__2746 : decode cL_law_ 2746 = .ok (.ifCond .eq 7, 3) := by decide +kernel
theorem dL_law__2749 : decode cL_law_ 2749 = .ok (.iconst 1, 1) := by decide +kernel
theorem dL_law__2750 : decode cL_law_ 2750 = .ok (.goto 4, 3) := by decide +kernel
theorem dL_law__2753 : decode cL_law_ 2753 = .ok (.iconst 0, 1) := by decide +kernel
theorem dL_law__2754 : decode cL_law_ 2754 = .ok (.invokevirtual 277, 3) := by decide +kernel
theorem dL_law__2757 : decode cL_law_ 2757 = .ok (.istore 6, 2) := by decide +kernel
theorem dL_law__2759 : decode cL_law_ 2759 = .ok (.aload_n 2, 1) := by decide +kernel
theorem dL_law__2760 : decode cL_law_ 2760 = .ok (.invokevirtual 149, 3) := by decide +kernel
theorem dL_law__2763 : decode cL_law_ 2763 = .ok (.iload 5, 2) := by decide +kernel
theorem dL_law__2765 : decode cL_law_ 2765 = .ok (.if_icmp .eq 5, 3) := by decide +kernel
theorem dL_law__2768 : decode cL_law_ 2768 = .ok (.iconst 0, 1) := by decide +kernel
theorem dL_law__2769 : decode cL_law_ 2769 = .ok (.ireturn, 1) := by decide +kernel
theorem dL_law__2770 : decode cL_law_ 2770 = .ok (.iload 5, 2) := by decide +kernel
theorem dL_law__2772 : decode cL_law_ 2772 = .ok (.ifCond .ne 15, 3) := by decide +kernel
theorem dL_law__2775 : decode cL_law_ 2775 = .ok (.aload_n 3, 1) := by decide +kernel
theorem dL_law__2776 : decode cL_law_ 2776 = .ok (.iconst 0, 1) := by decide +kernel
theorem dL_law__2777 : decode cL_law_ 2777 = .ok (.laload, 1) := by decide +kernel
theorem dL_law__2778 : decode cL_law_ 2778 = .ok (.iload 6, 2) := by decide +kernel
theorem dL_law__2780 : decode cL_law_ 2780 = .ok (.i2l, 1) := by decide +kernel
theorem dL_law__2781 : decode cL_law_ 2781 = .ok (.lcmp, 1) := by decide +kernel
theorem dL_law__2782 : decode cL_law_ 2782 = .ok (.ifCond .eq 5, 3) := by decide +kernel
theorem dL_law__2785 : decode cL_law_ 2785 = .ok (.iconst 0, 1) := by decide +kernel
theorem dL_law__2786 : decode cL_law_ 2786 = .ok (.ireturn, 1) := by decide +kernel
theorem dL_law__2787 : decode cL_law_ 2787 = .ok (.goto 158, 3) := by decide +kernel
theorem dL_law__2790 : decode cL_law_ 2790 = .ok (.aload_n 1, 1) := by decide +kernel
theorem dL_law__2791 : decode cL_law_ 2791 = .ok (.aload_n 0, 1) := by decide +kernel
theorem dL_law__2792 : decode cL_law_ 2792 = .ok (.iload 4, 2) := by decide +kernel
theorem dL_law__2794 : decode cL_law_ 2794 = .ok (.iconst 1, 1) := by decide +kernel
theorem dL_law__2795 : decode cL_law_ 2795 = .ok (.iadd, 1) := by decide +kernel
theorem dL_law__2796 : decode cL_law_ 2796 = .ok (.iaload, 1) := by decide +kernel
theorem dL_law__2797 : decode cL_law_ 2797 = .ok (.aload_n 0, 1) := by decide +kernel
theorem dL_law__2798 : decode cL_law_ 2798 = .ok (.iload 4, 2) := by decide +kernel
theorem dL_law__2800 : decode cL_law_ 2800 = .ok (.iconst 2, 1) := by decide +kernel
theorem dL_law__2801 : decode cL_law_ 2801 = .ok (.iadd, 1) := by decide +kernel
theorem dL_law__2802 : decode cL_law_ 2802 = .ok (.iaload, 1) := by decide +kernel
theorem dL_law__2803 : decode cL_law_ 2803 = .ok (.aload_n 3, 1) := by decide +kernel
theorem dL_law__2804 : decode cL_law_ 2804 = .ok (.invokestatic 278, 3) := by decide +kernel
theorem dL_law__2807 : decode cL_law_ 2807 = .ok (.istore 5, 2) := by decide +kernel
theorem dL_law__2809 : decode cL_law_ 2809 = .ok (.aload_n 2, 1) := by decide +kernel
theorem dL_law__2810 : decode cL_law_ 2810 = .ok (.aload_n 0, 1) := by decide +kernel
theorem dL_law__2811 : decode cL_law_ 2811 = .ok (.iload 4, 2) := by decide +kernel
theorem dL_law__2813 : decode cL_law_ 2813 = .ok (.iconst 1, 1) := by decide +kernel
theorem dL_law__2814 : decode cL_law_ 2814 = .ok (.iadd, 1) := by decide +kernel
theorem dL_law__2815 : decode cL_law_ 2815 = .ok (.iaload, 1) := by decide +kernel
theorem dL_law__2816 : decode cL_law_ 2816 = .ok (.aload_n 0, 1) := by decide +kernel
theorem dL_law__2817 : decode cL_law_ 2817 = .ok (.iload 4, 2) := by decide +kernel
theorem dL_law__2819 : decode cL_law_ 2819 = .ok (.iconst 2, 1) := by decide +kernel
theorem dL_law__2820 : decode cL_law_ 2820 = .ok (.iadd, 1) := by decide +kernel
theorem dL_law__2821 : decode cL_law_ 2821 = .ok (.iaload, 1) := by decide +kernel
theorem dL_law__2822 : decode cL_law_ 2822 = .ok (.invokevirtual 280, 3) := by decide +kernel
theorem dL_law__2825 : decode cL_law_ 2825 = .ok (.istore 6, 2) := by decide +kernel
theorem dL_law__2827 : decode cL_law_ 2827 = .ok (.aload_n 2, 1) := by decide +kernel
theorem dL_law__2828 : decode cL_law_ 2828 = .ok (.invokevirtual 149, 3) := by decide +kernel
theorem dL_law__2831 : decode cL_law_ 2831 = .ok (.iload 5, 2) := by decide +kernel
theorem dL_law__2833 : decode cL_law_ 2833 = .ok (.if_icmp .eq 5, 3) := by decide +kernel
theorem dL_law__2836 : decode cL_law_ 2836 = .ok (.iconst 0, 1) := by decide +kernel
theorem dL_law__2837 : decode cL_law_ 2837 = .ok (.ireturn, 1) := by decide +kernel
theorem dL_law__2838 : decode cL_law_ 2838 = .ok (.iload 5, 2) := by decide +kernel
theorem dL_law__2840 : decode cL_law_ 2840 = .ok (.ifCond .ne 15, 3) := by decide +kernel
theorem dL_law__2843 : decode cL_law_ 2843 = .ok (.aload_n 3, 1) := by decide +kernel
theorem dL_law__2844 : decode cL_law_ 2844 = .ok (.iconst 0, 1) := by decide +kernel
theorem dL_law__2845 : decode cL_law_ 2845 = .ok (.laload, 1) := by decide +kernel
theorem dL_law__2846 : decode cL_law_ 2846 = .ok (.iload 6, 2) := by decide +kernel
theorem dL_law__2848 : decode cL_law_ 2848 = .ok (.i2l, 1) := by decide +kernel
theorem dL_law__2849 : decode cL_law_ 2849 = .ok (.lcmp, 1) := by decide +kernel
theorem dL_law__2850 : decode cL_law_ 2850 = .ok (.ifCond .eq 5, 3) := by decide +kernel
theorem dL_law__2853 : decode cL_law_ 2853 = .ok (.iconst 0, 1) := by decide +kernel
theorem dL_law__2854 : decode cL_law_ 2854 = .ok (.ireturn, 1) := by decide +kernel
theorem dL_law__2855 : decode cL_law_ 2855 = .ok (.goto 90, 3) := by decide +kernel
theorem dL_law__2858 : decode cL_law_ 2858 = .ok (.aload_n 1, 1) := by decide +kernel
theorem dL_law__2859 : decode cL_law_ 2859 = .ok (.aload_n 0, 1) := by decide +kernel
theorem dL_law__2860 : decode cL_law_ 2860 = .ok (.iload 4, 2) := by decide +kernel
theorem dL_law__2862 : decode cL_law_ 2862 = .ok (.iconst 1, 1) := by decide +kernel
theorem dL_law__2863 : decode cL_law_ 2863 = .ok (.iadd, 1) := by decide +kernel
theorem dL_law__2864 : decode cL_law_ 2864 = .ok (.iaload, 1) := by decide +kernel
theorem dL_law__2865 : decode cL_law_ 2865 = .ok (.invokevirtual 281, 3) := by decide +kernel
theorem dL_law__2868 : decode cL_law_ 2868 = .ok (.aload_n 2, 1) := by decide +kernel
theorem dL_law__2869 : decode cL_law_ 2869 = .ok (.aload_n 0, 1) := by decide +kernel
theorem dL_law__2870 : decode cL_law_ 2870 = .ok (.iload 4, 2) := by decide +kernel
theorem dL_law__2872 : decode cL_law_ 2872 = .ok (.iconst 1, 1) := by decide +kernel
theorem dL_law__2873 : decode cL_law_ 2873 = .ok (.iadd, 1) := by decide +kernel
theorem dL_law__2874 : decode cL_law_ 2874 = .ok (.iaload, 1) := by decide +kernel
theorem dL_law__2875 : decode cL_law_ 2875 = .ok (.invokevirtual 284, 3) := by decide +kernel
theorem dL_law__2878 : decode cL_law_ 2878 = .ok (.if_icmp .eq 67, 3) := by decide +kernel
theorem dL_law__2881 : decode cL_law_ 2881 = .ok (.iconst 0, 1) := by decide +kernel
theorem dL_law__2882 : decode cL_law_ 2882 = .ok (.ireturn, 1) := by decide +kernel
theorem dL_law__2883 : decode cL_law_ 2883 = .ok (.aload_n 1, 1) := by decide +kernel
theorem dL_law__2884 : decode cL_law_ 2884 = .ok (.invokevirtual 285, 3) := by decide +kernel
theorem dL_law__2887 : decode cL_law_ 2887 = .ok (.aload_n 2, 1) := by decide +kernel
theorem dL_law__2888 : decode cL_law_ 2888 = .ok (.invokevirtual 289, 3) := by decide +kernel
theorem dL_law__2891 : decode cL_law_ 2891 = .ok (.if_icmp .eq 54, 3) := by decide +kernel
theorem dL_law__2894 : decode cL_law_ 2894 = .ok (.iconst 0, 1) := by decide +kernel
theorem dL_law__2895 : decode cL_law_ 2895 = .ok (.ireturn, 1) := by decide +kernel
theorem dL_law__2896 : decode cL_law_ 2896 = .ok (.aload_n 1, 1) := by decide +kernel
theorem dL_law__2897 : decode cL_law_ 2897 = .ok (.invokevirtual 290, 3) := by decide +kernel
theorem dL_law__2900 : decode cL_law_ 2900 = .ok (.aload_n 2, 1) := by decide +kernel
theorem dL_law__2901 : decode cL_law_ 2901 = .ok (.invokevirtual 293, 3) := by decide +kernel
theorem dL_law__2904 : decode cL_law_ 2904 = .ok (.goto 41, 3) := by decide +kernel
theorem dL_law__2907 : decode cL_law_ 2907 = .ok (.aload_n 1, 1) := by decide +kernel
theorem dL_law__2908 : decode cL_law_ 2908 = .ok (.invokevirtual 294, 3) := by decide +kernel
theorem dL_law__2911 : decode cL_law_ 2911 = .ok (.aload_n 2, 1) := by decide +kernel
theorem dL_law__2912 : decode cL_law_ 2912 = .ok (.invokevirtual 297, 3) := by decide +kernel
theorem dL_law__2915 : decode cL_law_ 2915 = .ok (.if_icmp .eq 30, 3) := by decide +kernel
theorem dL_law__2918 : decode cL_law_ 2918 = .ok (.iconst 0, 1) := by decide +kernel
theorem dL_law__2919 : decode cL_law_ 2919 = .ok (.ireturn, 1) := by decide +kernel
theorem dL_law__2920 : decode cL_law_ 2920 = .ok (.aload_n 1, 1) := by decide +kernel
theorem dL_law__2921 : decode cL_law_ 2921 = .ok (.aload_n 0, 1) := by decide +kernel
theorem dL_law__2922 : decode cL_law_ 2922 = .ok (.iload 4, 2) := by decide +kernel
theorem dL_law__2924 : decode cL_law_ 2924 = .ok (.iconst 1, 1) := by decide +kernel
theorem dL_law__2925 : decode cL_law_ 2925 = .ok (.iadd, 1) := by decide +kernel
theorem dL_law__2926 : decode cL_law_ 2926 = .ok (.iaload, 1) := by decide +kernel
theorem dL_law__2927 : decode cL_law_ 2927 = .ok (.invokevirtual 298, 3) := by decide +kernel
theorem dL_law__2930 : decode cL_law_ 2930 = .ok (.aload_n 2, 1) := by decide +kernel
theorem dL_law__2931 : decode cL_law_ 2931 = .ok (.aload_n 0, 1) := by decide +kernel
theorem dL_law__2932 : decode cL_law_ 2932 = .ok (.iload 4, 2) := by decide +kernel
theorem dL_law__2934 : decode cL_law_ 2934 = .ok (.iconst 1, 1) := by decide +kernel
theorem dL_law__2935 : decode cL_law_ 2935 = .ok (.iadd, 1) := by decide +kernel
theorem dL_law__2936 : decode cL_law_ 2936 = .ok (.iaload, 1) := by decide +kernel
theorem dL_law__2937 : decode cL_law_ 2937 = .ok (.invokevirtual 301, 3) := by decide +kernel
theorem dL_law__2940 : decode cL_law_ 2940 = .ok (.if_icmp .eq 5, 3) := by decide +kernel
theorem dL_law__2943 : decode cL_law_ 2943 = .ok (.iconst 0, 1) := by decide +kernel
theorem dL_law__2944 : decode cL_law_ 2944 = .ok (.ireturn, 1) := by decide +kernel
theorem dL_law__2945 : decode cL_law_ 2945 = .ok (.iinc 4 6, 3) := by decide +kernel
theorem dL_law__2948 : decode cL_law_ 2948 = .ok (.goto (-2925), 3) := by decide +kernel
theorem dL_law__2951 : decode cL_law_ 2951 = .ok (.iconst 1, 1) := by decide +kernel
theorem dL_law__2952 : decode cL_law_ 2952 = .ok (.ireturn, 1) := by decide +kernel
