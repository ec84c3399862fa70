/-! the law: decode rows 28 -/
theorem dL_law_2736 : decode cL_law 2736 = .ok (.invokevirtual 305, 3) := by decide +kernel
theorem dL_law_2739 : decode cL_law 2739 = .ok (.istore 7, 2) := by decide +kernel
theorem dL_law_2741 : decode cL_law 2741 = .ok (.aload_n 2, 1) := by decide +kernel
theorem dL_law_2742 : decode cL_law 2742 = .ok (.invokevirtual 165, 3) := by decide +kernel
theorem dL_law_2745 : decode cL_law 2745 = .ok (.iload 6, 2) := by decide +kernel
theorem dL_law_2747 : decode cL_law 2747 = .ok (.if_icmp .eq 5, 3) := by decide +kernel
theorem dL_law_2750 : decode cL_law 2750 = .ok (.iconst 0, 1) := by decide +kernel
theorem dL_law_2751 : decode cL_law 2751 = .ok (.ireturn, 1) := by decide +kernel
theorem dL_law_2752 : decode cL_law 2752 = .ok (.iload 6, 2) := by decide +kernel
theorem dL_law_2754 : decode cL_law 2754 = .ok (.ifCond .ne 15, 3) := by decide +kernel
theorem dL_law_2757 : decode cL_law 2757 = .ok (.aload_n 3, 1) := by decide +kernel
theorem dL_law_2758 : decode cL_law 2758 = .ok (.iconst 0, 1) := by decide +kernel
theorem dL_law_2759 : decode cL_law 2759 = .ok (.laload, 1) := by decide +kernel
theorem dL_law_2760 : decode cL_law 2760 = .ok (.iload 7, 2) := by decide +kernel
theorem dL_law_2762 : decode cL_law 2762 = .ok (.i2l, 1) := by decide +kernel
theorem dL_law_2763 : decode cL_law 2763 = .ok (.lcmp, 1) := by decide +kernel
theorem dL_law_2764 : decode cL_law 2764 = .ok (.ifCond .eq 5, 3) := by decide +kernel
theorem dL_law_2767 : decode cL_law 2767 = .ok (.iconst 0, 1) := by decide +kernel
theorem dL_law_2768 : decode cL_law 2768 = .ok (.ireturn, 1) := by decide +kernel
theorem dL_law_2769 : decode cL_law 2769 = .ok (.goto 134, 3) := by decide +kernel
theorem dL_law_2772 : decode cL_law 2772 = .ok (.aload_n 1, 1) := by decide +kernel
theorem dL_law_2773 : decode cL_law 2773 = .ok (.aload 4, 2) := by decide +kernel
theorem dL_law_2775 : decode cL_law 2775 = .ok (.invokestatic 306, 3) := by decide +kernel
theorem dL_law_2778 : decode cL_law 2778 = .ok (.istore 6, 2) := by decide +kernel
theorem dL_law_2780 : decode cL_law 2780 = .ok (.aload_n 2, 1) := by decide +kernel
theorem dL_law_2781 : decode cL_law 2781 = .ok (.invokevirtual 309, 3) := by decide +kernel
theorem dL_law_2784 : decode cL_law 2784 = .ok (.fstore 7, 2) := by decide +kernel
theorem dL_law_2786 : decode cL_law 2786 = .ok (.aload_n 2, 1) := by decide +kernel
theorem dL_law_2787 : decode cL_law 2787 = .ok (.invokevirtual 165, 3) := by decide +kernel
theorem dL_law_2790 : decode cL_law 2790 = .ok (.iload 6, 2) := by decide +kernel
theorem dL_law_2792 : decode cL_law 2792 = .ok (.if_icmp .eq 5, 3) := by decide +kernel
theorem dL_law_2795 : decode cL_law 2795 = .ok (.iconst 0, 1) := by decide +kernel
theorem dL_law_2796 : decode cL_law 2796 = .ok (.ireturn, 1) := by decide +kernel
theorem dL_law_2797 : decode cL_law 2797 = .ok (.iload 6, 2) := by decide +kernel
theorem dL_law_2799 : decode cL_law 2799 = .ok (.ifCond .ne 36, 3) := by decide +kernel
theorem dL_law_2802 : decode cL_law 2802 = .ok (.aload 4, 2) := by decide +kernel
theorem dL_law_2804 : decode cL_law 2804 = .ok (.iconst 0, 1) := by decide +kernel
theorem dL_law_2805 : decode cL_law 2805 = .ok (.daload, 1) := by decide +kernel
theorem dL_law_2806 : decode cL_law 2806 = .ok (.fload 7, 2) := by decide +kernel
theorem dL_law_2808 : decode cL_law 2808 = .ok (.f2d, 1) := by decide +kernel
theorem dL_law_2809 : decode cL_law 2809 = .ok (.dcmp .l, 1) := by decide +kernel
theorem dL_law_2810 : decode cL_law 2810 = .ok (.ifCond .eq 25, 3) := by decide +kernel
theorem dL_law_2813 : decode cL_law 2813 = .ok (.aload 4, 2) := by decide +kernel
theorem dL_law_2815 : decode cL_law 2815 = .ok (.iconst 0, 1) := by decide +kernel
theorem dL_law_2816 : decode cL_law 2816 = .ok (.daload, 1) := by decide +kernel
theorem dL_law_2817 : decode cL_law 2817 = .ok (.aload 4, 2) := by decide +kernel
theorem dL_law_2819 : decode cL_law 2819 = .ok (.iconst 0, 1) := by decide +kernel
theorem dL_law_2820 : decode cL_law 2820 = .ok (.daload, 1) := by decide +kernel
theorem dL_law_2821 : decode cL_law 2821 = .ok (.dcmp .l, 1) := by decide +kernel
theorem dL_law_2822 : decode cL_law 2822 = .ok (.ifCond .eq 11, 3) := by decide +kernel
theorem dL_law_2825 : decode cL_law 2825 = .ok (.fload 7, 2) := by decide +kernel
theorem dL_law_2827 : decode cL_law 2827 = .ok (.fload 7, 2) := by decide +kernel
theorem dL_law_2829 : decode cL_law 2829 = .ok (.fcmp .l, 1) := by decide +kernel
theorem dL_law_2830 : decode cL_law 2830 = .ok (.ifCond .ne 5, 3) := by decide +kernel
theorem dL_law_2833 : decode cL_law 2833 = .ok (.iconst 0, 1) := by decide +kernel
theorem dL_law_2834 : decode cL_law 2834 = .ok (.ireturn, 1) := by decide +kernel
theorem dL_law_2835 : decode cL_law 2835 = .ok (.goto 68, 3) := by decide +kernel
theorem dL_law_2838 : decode cL_law 2838 = .ok (.aload_n 1, 1) := by decide +kernel
theorem dL_law_2839 : decode cL_law 2839 = .ok (.aload 4, 2) := by decide +kernel
theorem dL_law_2841 : decode cL_law 2841 = .ok (.invokestatic 310, 3) := by decide +kernel
