theorem dL_law_2616 : decode cL_law 2616 = .ok (.invokevirtual 299, 3) := by decide +kernel
theorem dL_law_2619 : decode cL_law 2619 = .ok (.istore 6, 2) := by decide +kernel
theorem dL_law_2621 : decode cL_law 2621 = .ok (.aload_n 2, 1) := by decide +kernel
theorem dL_law_2622 : decode cL_law 2622 = .ok (.invokevirtual 132, 3) := by decide +kernel
theorem dL_law_2625 : decode cL_law 2625 = .ok (.iload 5, 2) := by decide +kernel
theorem dL_law_2627 : decode cL_law 2627 = .ok (.if_icmp .eq 5, 3) := by decide +kernel
theorem dL_law_2632 : decode cL_law 2632 = .ok (.iload 5, 2) := by decide +kernel
theorem dL_law_2634 : decode cL_law 2634 = .ok (.ifCond .ne 15, 3) := by decide +kernel
theorem dL_law_2637 : decode cL_law 2637 = .ok (.aload_n 3, 1) := by decide +kernel
theorem dL_law_2638 : decode cL_law 2638 = .ok (.iconst 0, 1) := by decide +kernel
theorem dL_law_2639 : decode cL_law 2639 = .ok (.laload, 1) := by decide +kernel
theorem dL_law_2640 : decode cL_law 2640 = .ok (.iload 6, 2) := by decide +kernel
theorem dL_law_2642 : decode cL_law 2642 = .ok (.i2l, 1) := by decide +kernel
theorem dL_law_2643 : decode cL_law 2643 = .ok (.lcmp, 1) := by decide +kernel
theorem dL_law_2644 : decode cL_law 2644 = .ok (.ifCond .eq 5, 3) := by decide +kernel
theorem dL_law_2649 : decode cL_law 2649 = .ok (.goto 3, 3) := by decide +kernel
theorem dL_law_2652 : decode cL_law 2652 = .ok (.iinc 4 6, 3) := by decide +kernel
theorem dL_law_2655 : decode cL_law 2655 = .ok (.goto (-2632), 3) := by decide +kernel
theorem dL_law_2658 : decode cL_law 2658 = .ok (.iconst 1, 1) := by decide +kernel
theorem dL_law_2659 : decode cL_law 2659 = .ok (.ireturn, 1) := by decide +kernel
