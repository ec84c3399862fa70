/-! the law: decode rows 29 -/
theorem dL_law_2844 : decode cL_law 2844 = .ok (.istore 6, 2) := by decide +kernel
theorem dL_law_2846 : decode cL_law 2846 = .ok (.aload_n 2, 1) := by decide +kernel
theorem dL_law_2847 : decode cL_law 2847 = .ok (.invokevirtual 312, 3) := by decide +kernel
theorem dL_law_2850 : decode cL_law 2850 = .ok (.dstore 7, 2) := by decide +kernel
theorem dL_law_2852 : decode cL_law 2852 = .ok (.aload_n 2, 1) := by decide +kernel
theorem dL_law_2853 : decode cL_law 2853 = .ok (.invokevirtual 165, 3) := by decide +kernel
theorem dL_law_2856 : decode cL_law 2856 = .ok (.iload 6, 2) := by decide +kernel
theorem dL_law_2858 : decode cL_law 2858 = .ok (.if_icmp .eq 5, 3) := by decide +kernel
theorem dL_law_2861 : decode cL_law 2861 = .ok (.iconst 0, 1) := by decide +kernel
theorem dL_law_2862 : decode cL_law 2862 = .ok (.ireturn, 1) := by decide +kernel
theorem dL_law_2863 : decode cL_law 2863 = .ok (.iload 6, 2) := by decide +kernel
theorem dL_law_2865 : decode cL_law 2865 = .ok (.ifCond .ne 35, 3) := by decide +kernel
theorem dL_law_2868 : decode cL_law 2868 = .ok (.aload 4, 2) := by decide +kernel
theorem dL_law_2870 : decode cL_law 2870 = .ok (.iconst 0, 1) := by decide +kernel
theorem dL_law_2871 : decode cL_law 2871 = .ok (.daload, 1) := by decide +kernel
theorem dL_law_2872 : decode cL_law 2872 = .ok (.dload 7, 2) := by decide +kernel
theorem dL_law_2874 : decode cL_law 2874 = .ok (.dcmp .l, 1) := by decide +kernel
theorem dL_law_2875 : decode cL_law 2875 = .ok (.ifCond .eq 25, 3) := by decide +kernel
theorem dL_law_2878 : decode cL_law 2878 = .ok (.aload 4, 2) := by decide +kernel
theorem dL_law_2880 : decode cL_law 2880 = .ok (.iconst 0, 1) := by decide +kernel
theorem dL_law_2881 : decode cL_law 2881 = .ok (.daload, 1) := by decide +kernel
theorem dL_law_2882 : decode cL_law 2882 = .ok (.aload 4, 2) := by decide +kernel
theorem dL_law_2884 : decode cL_law 2884 = .ok (.iconst 0, 1) := by decide +kernel
theorem dL_law_2885 : decode cL_law 2885 = .ok (.daload, 1) := by decide +kernel
theorem dL_law_2886 : decode cL_law 2886 = .ok (.dcmp .l, 1) := by decide +kernel
theorem dL_law_2887 : decode cL_law 2887 = .ok (.ifCond .eq 11, 3) := by decide +kernel
theorem dL_law_2890 : decode cL_law 2890 = .ok (.dload 7, 2) := by decide +kernel
theorem dL_law_2892 : decode cL_law 2892 = .ok (.dload 7, 2) := by decide +kernel
theorem dL_law_2894 : decode cL_law 2894 = .ok (.dcmp .l, 1) := by decide +kernel
theorem dL_law_2895 : decode cL_law 2895 = .ok (.ifCond .ne 5, 3) := by decide +kernel
theorem dL_law_2898 : decode cL_law 2898 = .ok (.iconst 0, 1) := by decide +kernel
theorem dL_law_2899 : decode cL_law 2899 = .ok (.ireturn, 1) := by decide +kernel
theorem dL_law_2900 : decode cL_law 2900 = .ok (.goto 3, 3) := by decide +kernel
theorem dL_law_2903 : decode cL_law 2903 = .ok (.iinc 5 7, 3) := by decide +kernel
theorem dL_law_2906 : decode cL_law 2906 = .ok (.goto (-2878), 3) := by decide +kernel
theorem dL_law_2909 : decode cL_law 2909 = .ok (.iconst 1, 1) := by decide +kernel
theorem dL_law_2910 : decode cL_law 2910 = .ok (.ireturn, 1) := by decide +kernel
