theorem dX6_still_136 : decode cX6_still 136 = .ok (.ifCond .ge 5, 3) := by decide +kernel
theorem dX6_still_139 : decode cX6_still 139 = .ok (.lconst 0, 1) := by decide +kernel
theorem dX6_still_140 : decode cX6_still 140 = .ok (.lreturn, 1) := by decide +kernel
theorem dX6_still_141 : decode cX6_still 141 = .ok (.iload 4, 2) := by decide +kernel
theorem dX6_still_143 : decode cX6_still 143 = .ok (.ifCond .ne 11, 3) := by decide +kernel
theorem dX6_still_146 : decode cX6_still 146 = .ok (.lload 5, 2) := by decide +kernel
theorem dX6_still_148 : decode cX6_still 148 = .ok (.lload 9, 2) := by decide +kernel
theorem dX6_still_150 : decode cX6_still 150 = .ok (.ldiv, 1) := by decide +kernel
theorem dX6_still_151 : decode cX6_still 151 = .ok (.goto 8, 3) := by decide +kernel
theorem dX6_still_154 : decode cX6_still 154 = .ok (.lload 7, 2) := by decide +kernel
theorem dX6_still_156 : decode cX6_still 156 = .ok (.lload 9, 2) := by decide +kernel
theorem dX6_still_158 : decode cX6_still 158 = .ok (.ldiv, 1) := by decide +kernel
theorem dX6_still_159 : decode cX6_still 159 = .ok (.lreturn, 1) := by decide +kernel
theorem dX6_coldest_0 : decode cX6_coldest 0 = .ok (.iload_n 1, 1) := by decide +kernel
theorem dX6_coldest_1 : decode cX6_coldest 1 = .ok (.iconst (-1), 1) := by decide +kernel
theorem dX6_coldest_2 : decode cX6_coldest 2 = .ok (.if_icmp .ne 8, 3) := by decide +kernel
theorem dX6_coldest_5 : decode cX6_coldest 5 = .ok (.aload_n 0, 1) := by decide +kernel
theorem dX6_coldest_6 : decode cX6_coldest 6 = .ok (.invokevirtual 252, 3) := by decide +kernel
theorem dX6_coldest_9 : decode cX6_coldest 9 = .ok (.ireturn, 1) := by decide +kernel
theorem dX6_coldest_10 : decode cX6_coldest 10 = .ok (.iload_n 1, 1) := by decide +kernel
theorem dX6_coldest_11 : decode cX6_coldest 11 = .ok (.invokestatic 125, 3) := by decide +kernel
theorem dX6_coldest_14 : decode cX6_coldest 14 = .ok (.ifCond .ne 9, 3) := by decide +kernel
theorem dX6_coldest_17 : decode cX6_coldest 17 = .ok (.aload_n 0, 1) := by decide +kernel
theorem dX6_coldest_18 : decode cX6_coldest 18 = .ok (.iconst (-1), 1) := by decide +kernel
theorem dX6_coldest_19 : decode cX6_coldest 19 = .ok (.invokevirtual 56, 3) := by decide +kernel
theorem dX6_coldest_22 : decode cX6_coldest 22 = .ok (.ireturn, 1) := by decide +kernel
theorem dX6_coldest_23 : decode cX6_coldest 23 = .ok (.iconst 0, 1) := by decide +kernel
theorem dX6_coldest_24 : decode cX6_coldest 24 = .ok (.istore_n 2, 1) := by decide +kernel
theorem dX6_coldest_25 : decode cX6_coldest 25 = .ok (.iconst 0, 1) := by decide +kernel
theorem dX6_coldest_26 : decode cX6_coldest 26 = .ok (.istore_n 3, 1) := by decide +kernel
theorem dX6_coldest_27 : decode cX6_coldest 27 = .ok (.iload_n 3, 1) := by decide +kernel
theorem dX6_coldest_28 : decode cX6_coldest 28 = .ok (.bipush 36, 2) := by decide +kernel
theorem dX6_coldest_30 : decode cX6_coldest 30 = .ok (.if_icmp .ge 34, 3) := by decide +kernel
theorem dX6_coldest_33 : decode cX6_coldest 33 = .ok (.aload_n 0, 1) := by decide +kernel
theorem dX6_coldest_34 : decode cX6_coldest 34 = .ok (.getfield 10, 3) := by decide +kernel
theorem dX6_coldest_37 : decode cX6_coldest 37 = .ok (.getfield 140, 3) := by decide +kernel
theorem dX6_coldest_40 : decode cX6_coldest 40 = .ok (.iload_n 3, 1) := by decide +kernel
theorem dX6_coldest_41 : decode cX6_coldest 41 = .ok (.faload, 1) := by decide +kernel
theorem dX6_coldest_42 : decode cX6_coldest 42 = .ok (.aload_n 0, 1) := by decide +kernel
theorem dX6_coldest_43 : decode cX6_coldest 43 = .ok (.getfield 10, 3) := by decide +kernel
theorem dX6_coldest_46 : decode cX6_coldest 46 = .ok (.getfield 140, 3) := by decide +kernel
theorem dX6_coldest_49 : decode cX6_coldest 49 = .ok (.iload_n 1, 1) := by decide +kernel
theorem dX6_coldest_50 : decode cX6_coldest 50 = .ok (.faload, 1) := by decide +kernel
theorem dX6_coldest_51 : decode cX6_coldest 51 = .ok (.fcmp .g, 1) := by decide +kernel
theorem dX6_coldest_52 : decode cX6_coldest 52 = .ok (.ifCond .gt 6, 3) := by decide +kernel
theorem dX6_coldest_55 : decode cX6_coldest 55 = .ok (.iinc 2 1, 3) := by decide +kernel
theorem dX6_coldest_58 : decode cX6_coldest 58 = .ok (.iinc 3 1, 3) := by decide +kernel
theorem dX6_coldest_61 : decode cX6_coldest 61 = .ok (.goto (-34), 3) := by decide +kernel
theorem dX6_coldest_64 : decode cX6_coldest 64 = .ok (.iload_n 2, 1) := by decide +kernel
theorem dX6_coldest_65 : decode cX6_coldest 65 = .ok (.ireturn, 1) := by decide +kernel
theorem dX6_sum_0 : decode cX6_sum 0 = .ok (.iload_n 1, 1) := by decide +kernel
theorem dX6_sum_1 : decode cX6_sum 1 = .ok (.ifCond .lt 8, 3) := by decide +kernel
theorem dX6_sum_4 : decode cX6_sum 4 = .ok (.iload_n 1, 1) := by decide +kernel
theorem dX6_sum_5 : decode cX6_sum 5 = .ok (.iconst 1, 1) := by decide +kernel
theorem dX6_sum_6 : decode cX6_sum 6 = .ok (.if_icmp .le 10, 3) := by decide +kernel
theorem dX6_sum_9 : decode cX6_sum 9 = .ok (.aload_n 0, 1) := by decide +kernel
theorem dX6_sum_10 : decode cX6_sum 10 = .ok (.bipush (-2), 2) := by decide +kernel
theorem dX6_sum_12 : decode cX6_sum 12 = .ok (.invokevirtual 56, 3) := by decide +kernel
theorem dX6_sum_15 : decode cX6_sum 15 = .ok (.ireturn, 1) := by decide +kernel
theorem dX6_sum_16 : decode cX6_sum 16 = .ok (.fconst 0, 1) := by decide +kernel
theorem dX6_sum_17 : decode cX6_sum 17 = .ok (.fstore_n 2, 1) := by decide +kernel
theorem dX6_sum_18 : decode cX6_sum 18 = .ok (.iconst 0, 1) := by decide +kernel
theorem dX6_sum_19 : decode cX6_sum 19 = .ok (.istore_n 3, 1) := by decide +kernel
theorem dX6_sum_20 : decode cX6_sum 20 = .ok (.iload_n 3, 1) := by decide +kernel
theorem dX6_sum_21 : decode cX6_sum 21 = .ok (.bipush 36, 2) := by decide +kernel
theorem dX6_sum_23 : decode cX6_sum 23 = .ok (.if_icmp .ge 21, 3) := by decide +kernel
theorem dX6_sum_26 : decode cX6_sum 26 = .ok (.fload_n 2, 1) := by decide +kernel
theorem dX6_sum_27 : decode cX6_sum 27 = .ok (.aload_n 0, 1) := by decide +kernel
theorem dX6_sum_28 : decode cX6_sum 28 = .ok (.getfield 10, 3) := by decide +kernel
theorem dX6_sum_31 : decode cX6_sum 31 = .ok (.getfield 140, 3) := by decide +kernel
theorem dX6_sum_34 : decode cX6_sum 34 = .ok (.iload_n 3, 1) := by decide +kernel
theorem dX6_sum_35 : decode cX6_sum 35 = .ok (.faload, 1) := by decide +kernel
theorem dX6_sum_36 : decode cX6_sum 36 = .ok (.fadd, 1) := by decide +kernel
theorem dX6_sum_37 : decode cX6_sum 37 = .ok (.fstore_n 2, 1) := by decide +kernel
theorem dX6_sum_38 : decode cX6_sum 38 = .ok (.iinc 3 1, 3) := by decide +kernel
theorem dX6_sum_41 : decode cX6_sum 41 = .ok (.goto (-21), 3) := by decide +kernel
theorem dX6_sum_44 : decode cX6_sum 44 = .ok (.iload_n 1, 1) := by decide +kernel
theorem dX6_sum_45 : decode cX6_sum 45 = .ok (.ifCond .ne 10, 3) := by decide +kernel
theorem dX6_sum_48 : decode cX6_sum 48 = .ok (.fload_n 2, 1) := by decide +kernel
theorem dX6_sum_49 : decode cX6_sum 49 = .ok (.invokestatic 144, 3) := by decide +kernel
theorem dX6_sum_52 : decode cX6_sum 52 = .ok (.goto 12, 3) := by decide +kernel
theorem dX6_sum_55 : decode cX6_sum 55 = .ok (.fload_n 2, 1) := by decide +kernel
theorem dX6_sum_56 : decode cX6_sum 56 = .ok (.ldc 255, 2) := by decide +kernel
theorem dX6_sum_58 : decode cX6_sum 58 = .ok (.fdiv, 1) := by decide +kernel
theorem dX6_sum_59 : decode cX6_sum 59 = .ok (.ldc_w 256, 3) := by decide +kernel
theorem dX6_sum_62 : decode cX6_sum 62 = .ok (.fmul, 1) := by decide +kernel
theorem dX6_sum_63 : decode cX6_sum 63 = .ok (.f2i, 1) := by decide +kernel
theorem dX6_sum_64 : decode cX6_sum 64 = .ok (.ireturn, 1) := by decide +kernel
theorem dX6_nearest_0 : decode cX6_nearest 0 = .ok (.aload_n 0, 1) := by decide +kernel
theorem dX6_nearest_1 : decode cX6_nearest 1 = .ok (.iload_n 1, 1) := by decide +kernel
theorem dX6_nearest_2 : decode cX6_nearest 2 = .ok (.invokevirtual 113, 3) := by decide +kernel
theorem dX6_nearest_5 : decode cX6_nearest 5 = .ok (.ifCond .ne 9, 3) := by decide +kernel
theorem dX6_nearest_8 : decode cX6_nearest 8 = .ok (.aload_n 0, 1) := by decide +kernel
theorem dX6_nearest_9 : decode cX6_nearest 9 = .ok (.iconst (-1), 1) := by decide +kernel
theorem dX6_nearest_10 : decode cX6_nearest 10 = .ok (.invokevirtual 56, 3) := by decide +kernel
theorem dX6_nearest_13 : decode cX6_nearest 13 = .ok (.ireturn, 1) := by decide +kernel
theorem dX6_nearest_14 : decode cX6_nearest 14 = .ok (.iload_n 2, 1) := by decide +kernel
theorem dX6_nearest_15 : decode cX6_nearest 15 = .ok (.ifCond .lt 8, 3) := by decide +kernel
theorem dX6_nearest_18 : decode cX6_nearest 18 = .ok (.iload_n 2, 1) := by decide +kernel
theorem dX6_nearest_19 : decode cX6_nearest 19 = .ok (.iconst 1, 1) := by decide +kernel
theorem dX6_nearest_20 : decode cX6_nearest 20 = .ok (.if_icmp .le 10, 3) := by decide +kernel
theorem dX6_nearest_23 : decode cX6_nearest 23 = .ok (.aload_n 0, 1) := by decide +kernel
theorem dX6_nearest_24 : decode cX6_nearest 24 = .ok (.bipush (-2), 2) := by decide +kernel
theorem dX6_nearest_26 : decode cX6_nearest 26 = .ok (.invokevirtual 56, 3) := by decide +kernel
theorem dX6_nearest_29 : decode cX6_nearest 29 = .ok (.ireturn, 1) := by decide +kernel
theorem dX6_nearest_30 : decode cX6_nearest 30 = .ok (.bipush (-9), 2) := by decide +kernel
theorem dX6_nearest_32 : decode cX6_nearest 32 = .ok (.istore_n 3, 1) := by decide +kernel
theorem dX6_nearest_33 : decode cX6_nearest 33 = .ok (.bipush (-9), 2) := by decide +kernel
theorem dX6_nearest_35 : decode cX6_nearest 35 = .ok (.istore 4, 2) := by decide +kernel
theorem dX6_nearest_37 : decode cX6_nearest 37 = .ok (.iconst 0, 1) := by decide +kernel
theorem dX6_nearest_38 : decode cX6_nearest 38 = .ok (.istore 5, 2) := by decide +kernel
theorem dX6_nearest_40 : decode cX6_nearest 40 = .ok (.iload 5, 2) := by decide +kernel
theorem dX6_nearest_42 : decode cX6_nearest 42 = .ok (.aload_n 0, 1) := by decide +kernel
theorem dX6_nearest_43 : decode cX6_nearest 43 = .ok (.getfield 10, 3) := by decide +kernel
theorem dX6_nearest_46 : decode cX6_nearest 46 = .ok (.getfield 148, 3) := by decide +kernel
theorem dX6_nearest_49 : decode cX6_nearest 49 = .ok (.if_icmp .ge 53, 3) := by decide +kernel
theorem dX6_nearest_52 : decode cX6_nearest 52 = .ok (.aload_n 0, 1) := by decide +kernel
theorem dX6_nearest_53 : decode cX6_nearest 53 = .ok (.getfield 10, 3) := by decide +kernel
theorem dX6_nearest_56 : decode cX6_nearest 56 = .ok (.getfield 116, 3) := by decide +kernel
theorem dX6_nearest_59 : decode cX6_nearest 59 = .ok (.iload_n 1, 1) := by decide +kernel
theorem dX6_nearest_60 : decode cX6_nearest 60 = .ok (.iaload, 1) := by decide +kernel
theorem dX6_nearest_61 : decode cX6_nearest 61 = .ok (.aload_n 0, 1) := by decide +kernel
theorem dX6_nearest_62 : decode cX6_nearest 62 = .ok (.getfield 10, 3) := by decide +kernel
theorem dX6_nearest_65 : decode cX6_nearest 65 = .ok (.getfield 98, 3) := by decide +kernel
theorem dX6_nearest_68 : decode cX6_nearest 68 = .ok (.iload 5, 2) := by decide +kernel
theorem dX6_nearest_70 : decode cX6_nearest 70 = .ok (.iaload, 1) := by decide +kernel
theorem dX6_nearest_71 : decode cX6_nearest 71 = .ok (.invokestatic 257, 3) := by decide +kernel
theorem dX6_nearest_74 : decode cX6_nearest 74 = .ok (.istore 6, 2) := by decide +kernel
theorem dX6_nearest_76 : decode cX6_nearest 76 = .ok (.iload_n 3, 1) := by decide +kernel
theorem dX6_nearest_77 : decode cX6_nearest 77 = .ok (.bipush (-9), 2) := by decide +kernel
theorem dX6_nearest_79 : decode cX6_nearest 79 = .ok (.if_icmp .eq 10, 3) := by decide +kernel
theorem dX6_nearest_82 : decode cX6_nearest 82 = .ok (.iload 6, 2) := by decide +kernel
theorem dX6_nearest_84 : decode cX6_nearest 84 = .ok (.iload 4, 2) := by decide +kernel
theorem dX6_nearest_86 : decode cX6_nearest 86 = .ok (.if_icmp .ge 10, 3) := by decide +kernel
theorem dX6_nearest_89 : decode cX6_nearest 89 = .ok (.iload 5, 2) := by decide +kernel
theorem dX6_nearest_91 : decode cX6_nearest 91 = .ok (.istore_n 3, 1) := by decide +kernel
theorem dX6_nearest_92 : decode cX6_nearest 92 = .ok (.iload 6, 2) := by decide +kernel
theorem dX6_nearest_94 : decode cX6_nearest 94 = .ok (.istore 4, 2) := by decide +kernel
theorem dX6_nearest_96 : decode cX6_nearest 96 = .ok (.iinc 5 1, 3) := by decide +kernel
theorem dX6_nearest_99 : decode cX6_nearest 99 = .ok (.goto (-59), 3) := by decide +kernel
theorem dX6_nearest_102 : decode cX6_nearest 102 = .ok (.iload_n 2, 1) := by decide +kernel
theorem dX6_nearest_103 : decode cX6_nearest 103 = .ok (.ifCond .ne 7, 3) := by decide +kernel
theorem dX6_nearest_106 : decode cX6_nearest 106 = .ok (.iload_n 3, 1) := by decide +kernel
theorem dX6_nearest_107 : decode cX6_nearest 107 = .ok (.goto 5, 3) := by decide +kernel
theorem dX6_nearest_110 : decode cX6_nearest 110 = .ok (.iload 4, 2) := by decide +kernel
theorem dX6_nearest_112 : decode cX6_nearest 112 = .ok (.ireturn, 1) := by decide +kernel
theorem dX6_kinds_0 : decode cX6_kinds 0 = .ok (.iload_n 1, 1) := by decide +kernel
theorem dX6_kinds_1 : decode cX6_kinds 1 = .ok (.ifCond .lt 9, 3) := by decide +kernel
theorem dX6_kinds_4 : decode cX6_kinds 4 = .ok (.iload_n 1, 1) := by decide +kernel
theorem dX6_kinds_5 : decode cX6_kinds 5 = .ok (.bipush 8, 2) := by decide +kernel
theorem dX6_kinds_7 : decode cX6_kinds 7 = .ok (.if_icmp .lt 10, 3) := by decide +kernel
theorem dX6_kinds_10 : decode cX6_kinds 10 = .ok (.aload_n 0, 1) := by decide +kernel
theorem dX6_kinds_11 : decode cX6_kinds 11 = .ok (.bipush (-2), 2) := by decide +kernel
theorem dX6_kinds_13 : decode cX6_kinds 13 = .ok (.invokevirtual 56, 3) := by decide +kernel
theorem dX6_kinds_16 : decode cX6_kinds 16 = .ok (.ireturn, 1) := by decide +kernel
theorem dX6_kinds_17 : decode cX6_kinds 17 = .ok (.iconst 0, 1) := by decide +kernel
theorem dX6_kinds_18 : decode cX6_kinds 18 = .ok (.istore_n 2, 1) := by decide +kernel
theorem dX6_kinds_19 : decode cX6_kinds 19 = .ok (.iconst 0, 1) := by decide +kernel
theorem dX6_kinds_20 : decode cX6_kinds 20 = .ok (.istore_n 3, 1) := by decide +kernel
theorem dX6_kinds_21 : decode cX6_kinds 21 = .ok (.iload_n 3, 1) := by decide +kernel
theorem dX6_kinds_22 : decode cX6_kinds 22 = .ok (.aload_n 0, 1) := by decide +kernel
theorem dX6_kinds_23 : decode cX6_kinds 23 = .ok (.getfield 10, 3) := by decide +kernel
theorem dX6_kinds_26 : decode cX6_kinds 26 = .ok (.getfield 148, 3) := by decide +kernel
theorem dX6_kinds_29 : decode cX6_kinds 29 = .ok (.if_icmp .ge 25, 3) := by decide +kernel
theorem dX6_kinds_32 : decode cX6_kinds 32 = .ok (.aload_n 0, 1) := by decide +kernel
theorem dX6_kinds_33 : decode cX6_kinds 33 = .ok (.getfield 10, 3) := by decide +kernel
theorem dX6_kinds_36 : decode cX6_kinds 36 = .ok (.getfield 92, 3) := by decide +kernel
theorem dX6_kinds_39 : decode cX6_kinds 39 = .ok (.iload_n 3, 1) := by decide +kernel
theorem dX6_kinds_40 : decode cX6_kinds 40 = .ok (.iaload, 1) := by decide +kernel
theorem dX6_kinds_41 : decode cX6_kinds 41 = .ok (.iload_n 1, 1) := by decide +kernel
theorem dX6_kinds_42 : decode cX6_kinds 42 = .ok (.if_icmp .ne 6, 3) := by decide +kernel
theorem dX6_kinds_45 : decode cX6_kinds 45 = .ok (.iinc 2 1, 3) := by decide +kernel
theorem dX6_kinds_48 : decode cX6_kinds 48 = .ok (.iinc 3 1, 3) := by decide +kernel
theorem dX6_kinds_51 : decode cX6_kinds 51 = .ok (.goto (-30), 3) := by decide +kernel
theorem dX6_kinds_54 : decode cX6_kinds 54 = .ok (.iload_n 2, 1) := by decide +kernel
theorem dX6_kinds_55 : decode cX6_kinds 55 = .ok (.ireturn, 1) := by decide +kernel
theorem dX6_pegs_0 : decode cX6_pegs 0 = .ok (.iload_n 1, 1) := by decide +kernel
theorem dX6_pegs_1 : decode cX6_pegs 1 = .ok (.invokestatic 260, 3) := by decide +kernel
theorem dX6_pegs_4 : decode cX6_pegs 4 = .ok (.ifCond .ne 9, 3) := by decide +kernel
theorem dX6_pegs_7 : decode cX6_pegs 7 = .ok (.aload_n 0, 1) := by decide +kernel
theorem dX6_pegs_8 : decode cX6_pegs 8 = .ok (.iconst (-1), 1) := by decide +kernel
theorem dX6_pegs_9 : decode cX6_pegs 9 = .ok (.invokevirtual 56, 3) := by decide +kernel
theorem dX6_pegs_12 : decode cX6_pegs 12 = .ok (.ireturn, 1) := by decide +kernel
theorem dX6_pegs_13 : decode cX6_pegs 13 = .ok (.iload_n 2, 1) := by decide +kernel
theorem dX6_pegs_14 : decode cX6_pegs 14 = .ok (.ifCond .lt 8, 3) := by decide +kernel
theorem dX6_pegs_17 : decode cX6_pegs 17 = .ok (.iload_n 2, 1) := by decide +kernel
theorem dX6_pegs_18 : decode cX6_pegs 18 = .ok (.iconst 2, 1) := by decide +kernel
theorem dX6_pegs_19 : decode cX6_pegs 19 = .ok (.if_icmp .le 10, 3) := by decide +kernel
theorem dX6_pegs_22 : decode cX6_pegs 22 = .ok (.aload_n 0, 1) := by decide +kernel
theorem dX6_pegs_23 : decode cX6_pegs 23 = .ok (.bipush (-2), 2) := by decide +kernel
theorem dX6_pegs_25 : decode cX6_pegs 25 = .ok (.invokevirtual 56, 3) := by decide +kernel
theorem dX6_pegs_28 : decode cX6_pegs 28 = .ok (.ireturn, 1) := by decide +kernel
theorem dX6_pegs_29 : decode cX6_pegs 29 = .ok (.iload_n 3, 1) := by decide +kernel
theorem dX6_pegs_30 : decode cX6_pegs 30 = .ok (.bipush 12, 2) := by decide +kernel
theorem dX6_pegs_32 : decode cX6_pegs 32 = .ok (.if_icmp .le 10, 3) := by decide +kernel
theorem dX6_pegs_35 : decode cX6_pegs 35 = .ok (.aload_n 0, 1) := by decide +kernel
theorem dX6_pegs_36 : decode cX6_pegs 36 = .ok (.bipush (-6), 2) := by decide +kernel
theorem dX6_pegs_38 : decode cX6_pegs 38 = .ok (.invokevirtual 56, 3) := by decide +kernel
theorem dX6_pegs_41 : decode cX6_pegs 41 = .ok (.ireturn, 1) := by decide +kernel
theorem dX6_pegs_42 : decode cX6_pegs 42 = .ok (.iload_n 3, 1) := by decide +kernel
theorem dX6_pegs_43 : decode cX6_pegs 43 = .ok (.ifCond .ge 6, 3) := by decide +kernel
theorem dX6_pegs_46 : decode cX6_pegs 46 = .ok (.bipush (-14), 2) := by decide +kernel
theorem dX6_pegs_48 : decode cX6_pegs 48 = .ok (.ireturn, 1) := by decide +kernel
theorem dX6_pegs_49 : decode cX6_pegs 49 = .ok (.aload_n 0, 1) := by decide +kernel
theorem dX6_pegs_50 : decode cX6_pegs 50 = .ok (.getfield 39, 3) := by decide +kernel
theorem dX6_pegs_53 : decode cX6_pegs 53 = .ok (.iload_n 1, 1) := by decide +kernel
theorem dX6_pegs_54 : decode cX6_pegs 54 = .ok (.iload_n 2, 1) := by decide +kernel
theorem dX6_pegs_55 : decode cX6_pegs 55 = .ok (.iload_n 3, 1) := by decide +kernel
theorem dX6_pegs_56 : decode cX6_pegs 56 = .ok (.invokevirtual 263, 3) := by decide +kernel
theorem dX6_pegs_59 : decode cX6_pegs 59 = .ok (.iconst 1, 1) := by decide +kernel
theorem dX6_pegs_60 : decode cX6_pegs 60 = .ok (.ireturn, 1) := by decide +kernel
theorem dX6_hangs_0 : decode cX6_hangs 0 = .ok (.iload_n 1, 1) := by decide +kernel
theorem dX6_hangs_1 : decode cX6_hangs 1 = .ok (.invokestatic 260, 3) := by decide +kernel
theorem dX6_hangs_4 : decode cX6_hangs 4 = .ok (.ifCond .ne 9, 3) := by decide +kernel
theorem dX6_hangs_7 : decode cX6_hangs 7 = .ok (.aload_n 0, 1) := by decide +kernel
theorem dX6_hangs_8 : decode cX6_hangs 8 = .ok (.iconst (-1), 1) := by decide +kernel
theorem dX6_hangs_9 : decode cX6_hangs 9 = .ok (.invokevirtual 56, 3) := by decide +kernel
theorem dX6_hangs_12 : decode cX6_hangs 12 = .ok (.ireturn, 1) := by decide +kernel
theorem dX6_hangs_13 : decode cX6_hangs 13 = .ok (.iload_n 3, 1) := by decide +kernel
theorem dX6_hangs_14 : decode cX6_hangs 14 = .ok (.iconst 1, 1) := by decide +kernel
theorem dX6_hangs_15 : decode cX6_hangs 15 = .ok (.if_icmp .eq 15, 3) := by decide +kernel
theorem dX6_hangs_18 : decode cX6_hangs 18 = .ok (.iload_n 3, 1) := by decide +kernel
theorem dX6_hangs_19 : decode cX6_hangs 19 = .ok (.iconst 2, 1) := by decide +kernel
theorem dX6_hangs_20 : decode cX6_hangs 20 = .ok (.if_icmp .eq 10, 3) := by decide +kernel
theorem dX6_hangs_23 : decode cX6_hangs 23 = .ok (.aload_n 0, 1) := by decide +kernel
theorem dX6_hangs_24 : decode cX6_hangs 24 = .ok (.bipush (-2), 2) := by decide +kernel
theorem dX6_hangs_26 : decode cX6_hangs 26 = .ok (.invokevirtual 56, 3) := by decide +kernel
theorem dX6_hangs_29 : decode cX6_hangs 29 = .ok (.ireturn, 1) := by decide +kernel
theorem dX6_hangs_30 : decode cX6_hangs 30 = .ok (.iload 4, 2) := by decide +kernel
theorem dX6_hangs_32 : decode cX6_hangs 32 = .ok (.ifCond .ge 10, 3) := by decide +kernel
theorem dX6_hangs_35 : decode cX6_hangs 35 = .ok (.aload_n 0, 1) := by decide +kernel
theorem dX6_hangs_36 : decode cX6_hangs 36 = .ok (.bipush (-4), 2) := by decide +kernel
theorem dX6_hangs_38 : decode cX6_hangs 38 = .ok (.invokevirtual 56, 3) := by decide +kernel
theorem dX6_hangs_41 : decode cX6_hangs 41 = .ok (.ireturn, 1) := by decide +kernel
theorem dX6_hangs_42 : decode cX6_hangs 42 = .ok (.iload 4, 2) := by decide +kernel
theorem dX6_hangs_44 : decode cX6_hangs 44 = .ok (.bipush 9, 2) := by decide +kernel
theorem dX6_hangs_46 : decode cX6_hangs 46 = .ok (.if_icmp .le 10, 3) := by decide +kernel
theorem dX6_hangs_49 : decode cX6_hangs 49 = .ok (.aload_n 0, 1) := by decide +kernel
theorem dX6_hangs_50 : decode cX6_hangs 50 = .ok (.bipush (-6), 2) := by decide +kernel
theorem dX6_hangs_52 : decode cX6_hangs 52 = .ok (.invokevirtual 56, 3) := by decide +kernel
theorem dX6_hangs_55 : decode cX6_hangs 55 = .ok (.ireturn, 1) := by decide +kernel
theorem dX6_hangs_56 : decode cX6_hangs 56 = .ok (.aload_n 0, 1) := by decide +kernel
theorem dX6_hangs_57 : decode cX6_hangs 57 = .ok (.getfield 39, 3) := by decide +kernel
theorem dX6_hangs_60 : decode cX6_hangs 60 = .ok (.iload_n 1, 1) := by decide +kernel
theorem dX6_hangs_61 : decode cX6_hangs 61 = .ok (.iload_n 2, 1) := by decide +kernel
theorem dX6_hangs_62 : decode cX6_hangs 62 = .ok (.invokevirtual 267, 3) := by decide +kernel
theorem dX6_hangs_65 : decode cX6_hangs 65 = .ok (.istore 5, 2) := by decide +kernel
theorem dX6_hangs_67 : decode cX6_hangs 67 = .ok (.iload 5, 2) := by decide +kernel
theorem dX6_hangs_69 : decode cX6_hangs 69 = .ok (.ifCond .eq 6, 3) := by decide +kernel
theorem dX6_hangs_72 : decode cX6_hangs 72 = .ok (.iload 5, 2) := by decide +kernel
theorem dX6_hangs_74 : decode cX6_hangs 74 = .ok (.ireturn, 1) := by decide +kernel
theorem dX6_hangs_75 : decode cX6_hangs 75 = .ok (.aload_n 0, 1) := by decide +kernel
theorem dX6_hangs_76 : decode cX6_hangs 76 = .ok (.getfield 39, 3) := by decide +kernel
theorem dX6_hangs_79 : decode cX6_hangs 79 = .ok (.iload_n 1, 1) := by decide +kernel
theorem dX6_hangs_80 : decode cX6_hangs 80 = .ok (.iload_n 2, 1) := by decide +kernel
theorem dX6_hangs_81 : decode cX6_hangs 81 = .ok (.bipush 10, 2) := by decide +kernel
theorem dX6_hangs_83 : decode cX6_hangs 83 = .ok (.iload_n 3, 1) := by decide +kernel
theorem dX6_hangs_84 : decode cX6_hangs 84 = .ok (.imul, 1) := by decide +kernel
theorem dX6_hangs_85 : decode cX6_hangs 85 = .ok (.iload 4, 2) := by decide +kernel
theorem dX6_hangs_87 : decode cX6_hangs 87 = .ok (.iadd, 1) := by decide +kernel
theorem dX6_hangs_88 : decode cX6_hangs 88 = .ok (.invokevirtual 270, 3) := by decide +kernel
theorem dX6_hangs_91 : decode cX6_hangs 91 = .ok (.ifCond .eq 7, 3) := by decide +kernel
theorem dX6_hangs_94 : decode cX6_hangs 94 = .ok (.iconst 1, 1) := by decide +kernel
theorem dX6_hangs_95 : decode cX6_hangs 95 = .ok (.goto 5, 3) := by decide +kernel
theorem dX6_hangs_98 : decode cX6_hangs 98 = .ok (.bipush (-12), 2) := by decide +kernel
theorem dX6_hangs_100 : decode cX6_hangs 100 = .ok (.ireturn, 1) := by decide +kernel
theorem dX6_coat_0 : decode cX6_coat 0 = .ok (.iload_n 1, 1) := by decide +kernel
theorem dX6_coat_1 : decode cX6_coat 1 = .ok (.invokestatic 260, 3) := by decide +kernel
theorem dX6_coat_4 : decode cX6_coat 4 = .ok (.ifCond .ne 9, 3) := by decide +kernel
theorem dX6_coat_7 : decode cX6_coat 7 = .ok (.aload_n 0, 1) := by decide +kernel
theorem dX6_coat_8 : decode cX6_coat 8 = .ok (.iconst (-1), 1) := by decide +kernel
theorem dX6_coat_9 : decode cX6_coat 9 = .ok (.invokevirtual 56, 3) := by decide +kernel
theorem dX6_coat_12 : decode cX6_coat 12 = .ok (.ireturn, 1) := by decide +kernel
theorem dX6_coat_13 : decode cX6_coat 13 = .ok (.aload_n 0, 1) := by decide +kernel
theorem dX6_coat_14 : decode cX6_coat 14 = .ok (.getfield 39, 3) := by decide +kernel
theorem dX6_coat_17 : decode cX6_coat 17 = .ok (.iload_n 1, 1) := by decide +kernel
theorem dX6_coat_18 : decode cX6_coat 18 = .ok (.iload_n 2, 1) := by decide +kernel
theorem dX6_coat_19 : decode cX6_coat 19 = .ok (.invokevirtual 273, 3) := by decide +kernel
theorem dX6_coat_22 : decode cX6_coat 22 = .ok (.istore_n 3, 1) := by decide +kernel
theorem dX6_coat_23 : decode cX6_coat 23 = .ok (.iload_n 3, 1) := by decide +kernel
theorem dX6_coat_24 : decode cX6_coat 24 = .ok (.ifCond .eq 7, 3) := by decide +kernel
theorem dX6_coat_27 : decode cX6_coat 27 = .ok (.iload_n 3, 1) := by decide +kernel
theorem dX6_coat_28 : decode cX6_coat 28 = .ok (.goto 14, 3) := by decide +kernel
theorem dX6_coat_31 : decode cX6_coat 31 = .ok (.aload_n 0, 1) := by decide +kernel
theorem dX6_coat_32 : decode cX6_coat 32 = .ok (.getfield 39, 3) := by decide +kernel
theorem dX6_coat_35 : decode cX6_coat 35 = .ok (.getfield 276, 3) := by decide +kernel
theorem dX6_coat_38 : decode cX6_coat 38 = .ok (.iload_n 1, 1) := by decide +kernel
theorem dX6_coat_39 : decode cX6_coat 39 = .ok (.aaload, 1) := by decide +kernel
theorem dX6_coat_40 : decode cX6_coat 40 = .ok (.iload_n 2, 1) := by decide +kernel
theorem dX6_coat_41 : decode cX6_coat 41 = .ok (.iaload, 1) := by decide +kernel
theorem dX6_coat_42 : decode cX6_coat 42 = .ok (.ireturn, 1) := by decide +kernel
theorem dX6_wears_0 : decode cX6_wears 0 = .ok (.aload_n 0, 1) := by decide +kernel
theorem dX6_wears_1 : decode cX6_wears 1 = .ok (.iload_n 1, 1) := by decide +kernel
theorem dX6_wears_2 : decode cX6_wears 2 = .ok (.invokevirtual 113, 3) := by decide +kernel
theorem dX6_wears_5 : decode cX6_wears 5 = .ok (.ifCond .eq 10, 3) := by decide +kernel
theorem dX6_wears_8 : decode cX6_wears 8 = .ok (.iload_n 2, 1) := by decide +kernel
theorem dX6_wears_9 : decode cX6_wears 9 = .ok (.invokestatic 260, 3) := by decide +kernel
theorem dX6_wears_12 : decode cX6_wears 12 = .ok (.ifCond .ne 9, 3) := by decide +kernel
theorem dX6_wears_15 : decode cX6_wears 15 = .ok (.aload_n 0, 1) := by decide +kernel
theorem dX6_wears_16 : decode cX6_wears 16 = .ok (.iconst (-1), 1) := by decide +kernel
theorem dX6_wears_17 : decode cX6_wears 17 = .ok (.invokevirtual 56, 3) := by decide +kernel
theorem dX6_wears_20 : decode cX6_wears 20 = .ok (.ireturn, 1) := by decide +kernel
theorem dX6_wears_21 : decode cX6_wears 21 = .ok (.aload_n 0, 1) := by decide +kernel
theorem dX6_wears_22 : decode cX6_wears 22 = .ok (.getfield 39, 3) := by decide +kernel
theorem dX6_wears_25 : decode cX6_wears 25 = .ok (.iload_n 2, 1) := by decide +kernel
theorem dX6_wears_26 : decode cX6_wears 26 = .ok (.iload_n 3, 1) := by decide +kernel
theorem dX6_wears_27 : decode cX6_wears 27 = .ok (.invokevirtual 273, 3) := by decide +kernel
theorem dX6_wears_30 : decode cX6_wears 30 = .ok (.istore 4, 2) := by decide +kernel
theorem dX6_wears_32 : decode cX6_wears 32 = .ok (.iload 4, 2) := by decide +kernel
theorem dX6_wears_34 : decode cX6_wears 34 = .ok (.ifCond .eq 6, 3) := by decide +kernel
theorem dX6_wears_37 : decode cX6_wears 37 = .ok (.iload 4, 2) := by decide +kernel
theorem dX6_wears_39 : decode cX6_wears 39 = .ok (.ireturn, 1) := by decide +kernel
theorem dX6_wears_40 : decode cX6_wears 40 = .ok (.aload_n 0, 1) := by decide +kernel
theorem dX6_wears_41 : decode cX6_wears 41 = .ok (.getfield 25, 3) := by decide +kernel
theorem dX6_wears_44 : decode cX6_wears 44 = .ok (.aload_n 0, 1) := by decide +kernel
theorem dX6_wears_45 : decode cX6_wears 45 = .ok (.getfield 10, 3) := by decide +kernel
theorem dX6_wears_48 : decode cX6_wears 48 = .ok (.invokevirtual 165, 3) := by decide +kernel
theorem dX6_wears_51 : decode cX6_wears 51 = .ok (.aload_n 0, 1) := by decide +kernel
theorem dX6_wears_52 : decode cX6_wears 52 = .ok (.getfield 39, 3) := by decide +kernel
theorem dX6_wears_55 : decode cX6_wears 55 = .ok (.getfield 276, 3) := by decide +kernel
theorem dX6_wears_58 : decode cX6_wears 58 = .ok (.iload_n 2, 1) := by decide +kernel
theorem dX6_wears_59 : decode cX6_wears 59 = .ok (.aaload, 1) := by decide +kernel
theorem dX6_wears_60 : decode cX6_wears 60 = .ok (.iload_n 3, 1) := by decide +kernel
theorem dX6_wears_61 : decode cX6_wears 61 = .ok (.iaload, 1) := by decide +kernel
theorem dX6_wears_62 : decode cX6_wears 62 = .ok (.istore 5, 2) := by decide +kernel
theorem dX6_wears_64 : decode cX6_wears 64 = .ok (.aload_n 0, 1) := by decide +kernel
theorem dX6_wears_65 : decode cX6_wears 65 = .ok (.getfield 39, 3) := by decide +kernel
theorem dX6_wears_68 : decode cX6_wears 68 = .ok (.getfield 276, 3) := by decide +kernel
theorem dX6_wears_71 : decode cX6_wears 71 = .ok (.iload_n 2, 1) := by decide +kernel
theorem dX6_wears_72 : decode cX6_wears 72 = .ok (.aaload, 1) := by decide +kernel
theorem dX6_wears_73 : decode cX6_wears 73 = .ok (.iload_n 3, 1) := by decide +kernel
theorem dX6_wears_74 : decode cX6_wears 74 = .ok (.iconst 0, 1) := by decide +kernel
theorem dX6_wears_75 : decode cX6_wears 75 = .ok (.iastore, 1) := by decide +kernel
theorem dX6_wears_76 : decode cX6_wears 76 = .ok (.iload 5, 2) := by decide +kernel
theorem dX6_wears_78 : decode cX6_wears 78 = .ok (.bipush 10, 2) := by decide +kernel
theorem dX6_wears_80 : decode cX6_wears 80 = .ok (.idiv, 1) := by decide +kernel
theorem dX6_wears_81 : decode cX6_wears 81 = .ok (.iconst 2, 1) := by decide +kernel
theorem dX6_wears_82 : decode cX6_wears 82 = .ok (.if_icmp .ne 13, 3) := by decide +kernel
theorem dX6_wears_85 : decode cX6_wears 85 = .ok (.iconst 2, 1) := by decide +kernel
theorem dX6_wears_86 : decode cX6_wears 86 = .ok (.iload 5, 2) := by decide +kernel
theorem dX6_wears_88 : decode cX6_wears 88 = .ok (.bipush 10, 2) := by decide +kernel
theorem dX6_wears_90 : decode cX6_wears 90 = .ok (.irem, 1) := by decide +kernel
theorem dX6_wears_91 : decode cX6_wears 91 = .ok (.imul, 1) := by decide +kernel
theorem dX6_wears_92 : decode cX6_wears 92 = .ok (.goto 8, 3) := by decide +kernel
theorem dX6_wears_95 : decode cX6_wears 95 = .ok (.iload 5, 2) := by decide +kernel
theorem dX6_wears_97 : decode cX6_wears 97 = .ok (.bipush 10, 2) := by decide +kernel
theorem dX6_wears_99 : decode cX6_wears 99 = .ok (.irem, 1) := by decide +kernel
theorem dX6_wears_100 : decode cX6_wears 100 = .ok (.istore 6, 2) := by decide +kernel
theorem dX6_wears_102 : decode cX6_wears 102 = .ok (.aload_n 0, 1) := by decide +kernel
theorem dX6_wears_103 : decode cX6_wears 103 = .ok (.getfield 10, 3) := by decide +kernel
theorem dX6_wears_106 : decode cX6_wears 106 = .ok (.getfield 119, 3) := by decide +kernel
theorem dX6_wears_109 : decode cX6_wears 109 = .ok (.iload_n 1, 1) := by decide +kernel
theorem dX6_wears_110 : decode cX6_wears 110 = .ok (.aload_n 0, 1) := by decide +kernel
theorem dX6_wears_111 : decode cX6_wears 111 = .ok (.getfield 10, 3) := by decide +kernel
theorem dX6_wears_114 : decode cX6_wears 114 = .ok (.getfield 119, 3) := by decide +kernel
theorem dX6_wears_117 : decode cX6_wears 117 = .ok (.iload_n 1, 1) := by decide +kernel
theorem dX6_wears_118 : decode cX6_wears 118 = .ok (.iaload, 1) := by decide +kernel
theorem dX6_wears_119 : decode cX6_wears 119 = .ok (.iload 6, 2) := by decide +kernel
theorem dX6_wears_121 : decode cX6_wears 121 = .ok (.iadd, 1) := by decide +kernel
theorem dX6_wears_122 : decode cX6_wears 122 = .ok (.bipush 9, 2) := by decide +kernel
theorem dX6_wears_124 : decode cX6_wears 124 = .ok (.invokestatic 280, 3) := by decide +kernel
theorem dX6_wears_127 : decode cX6_wears 127 = .ok (.iastore, 1) := by decide +kernel
theorem dX6_wears_128 : decode cX6_wears 128 = .ok (.aload_n 0, 1) := by decide +kernel
theorem dX6_wears_129 : decode cX6_wears 129 = .ok (.getfield 10, 3) := by decide +kernel
theorem dX6_wears_132 : decode cX6_wears 132 = .ok (.getfield 119, 3) := by decide +kernel
theorem dX6_wears_135 : decode cX6_wears 135 = .ok (.iload_n 1, 1) := by decide +kernel
theorem dX6_wears_136 : decode cX6_wears 136 = .ok (.iaload, 1) := by decide +kernel
theorem dX6_wears_137 : decode cX6_wears 137 = .ok (.ireturn, 1) := by decide +kernel
theorem dX6_moves_0 : decode cX6_moves 0 = .ok (.iload_n 1, 1) := by decide +kernel
theorem dX6_moves_1 : decode cX6_moves 1 = .ok (.invokestatic 260, 3) := by decide +kernel
theorem dX6_moves_4 : decode cX6_moves 4 = .ok (.ifCond .eq 10, 3) := by decide +kernel
theorem dX6_moves_7 : decode cX6_moves 7 = .ok (.iload_n 3, 1) := by decide +kernel
theorem dX6_moves_8 : decode cX6_moves 8 = .ok (.invokestatic 260, 3) := by decide +kernel
theorem dX6_moves_11 : decode cX6_moves 11 = .ok (.ifCond .ne 9, 3) := by decide +kernel
theorem dX6_moves_14 : decode cX6_moves 14 = .ok (.aload_n 0, 1) := by decide +kernel
theorem dX6_moves_15 : decode cX6_moves 15 = .ok (.iconst (-1), 1) := by decide +kernel
theorem dX6_moves_16 : decode cX6_moves 16 = .ok (.invokevirtual 56, 3) := by decide +kernel
theorem dX6_moves_19 : decode cX6_moves 19 = .ok (.ireturn, 1) := by decide +kernel
theorem dX6_moves_20 : decode cX6_moves 20 = .ok (.aload_n 0, 1) := by decide +kernel
theorem dX6_moves_21 : decode cX6_moves 21 = .ok (.getfield 39, 3) := by decide +kernel
theorem dX6_moves_24 : decode cX6_moves 24 = .ok (.iload_n 1, 1) := by decide +kernel
theorem dX6_moves_25 : decode cX6_moves 25 = .ok (.invokevirtual 285, 3) := by decide +kernel
theorem dX6_moves_28 : decode cX6_moves 28 = .ok (.ifCond .eq 14, 3) := by decide +kernel
theorem dX6_moves_31 : decode cX6_moves 31 = .ok (.aload_n 0, 1) := by decide +kernel
theorem dX6_moves_32 : decode cX6_moves 32 = .ok (.getfield 39, 3) := by decide +kernel
theorem dX6_moves_35 : decode cX6_moves 35 = .ok (.iload_n 3, 1) := by decide +kernel
theorem dX6_moves_36 : decode cX6_moves 36 = .ok (.invokevirtual 285, 3) := by decide +kernel
theorem dX6_moves_39 : decode cX6_moves 39 = .ok (.ifCond .ne 6, 3) := by decide +kernel
theorem dX6_moves_42 : decode cX6_moves 42 = .ok (.bipush (-11), 2) := by decide +kernel
theorem dX6_moves_44 : decode cX6_moves 44 = .ok (.ireturn, 1) := by decide +kernel
theorem dX6_moves_45 : decode cX6_moves 45 = .ok (.aload_n 0, 1) := by decide +kernel
theorem dX6_moves_46 : decode cX6_moves 46 = .ok (.getfield 39, 3) := by decide +kernel
theorem dX6_moves_49 : decode cX6_moves 49 = .ok (.iload_n 1, 1) := by decide +kernel
theorem dX6_moves_50 : decode cX6_moves 50 = .ok (.iload_n 2, 1) := by decide +kernel
theorem dX6_moves_51 : decode cX6_moves 51 = .ok (.iload 5, 2) := by decide +kernel
theorem dX6_moves_53 : decode cX6_moves 53 = .ok (.invokevirtual 288, 3) := by decide +kernel
theorem dX6_moves_56 : decode cX6_moves 56 = .ok (.ifCond .eq 18, 3) := by decide +kernel
theorem dX6_moves_59 : decode cX6_moves 59 = .ok (.aload_n 0, 1) := by decide +kernel
theorem dX6_moves_60 : decode cX6_moves 60 = .ok (.getfield 39, 3) := by decide +kernel
theorem dX6_moves_63 : decode cX6_moves 63 = .ok (.iload_n 3, 1) := by decide +kernel
theorem dX6_moves_64 : decode cX6_moves 64 = .ok (.iload 4, 2) := by decide +kernel
theorem dX6_moves_66 : decode cX6_moves 66 = .ok (.iload 5, 2) := by decide +kernel
theorem dX6_moves_68 : decode cX6_moves 68 = .ok (.invokevirtual 288, 3) := by decide +kernel
theorem dX6_moves_71 : decode cX6_moves 71 = .ok (.ifCond .ne 6, 3) := by decide +kernel
theorem dX6_moves_74 : decode cX6_moves 74 = .ok (.bipush (-13), 2) := by decide +kernel
theorem dX6_moves_76 : decode cX6_moves 76 = .ok (.ireturn, 1) := by decide +kernel
theorem dX6_moves_77 : decode cX6_moves 77 = .ok (.aload_n 0, 1) := by decide +kernel
theorem dX6_moves_78 : decode cX6_moves 78 = .ok (.getfield 39, 3) := by decide +kernel
theorem dX6_moves_81 : decode cX6_moves 81 = .ok (.iload_n 1, 1) := by decide +kernel
theorem dX6_moves_82 : decode cX6_moves 82 = .ok (.iload_n 2, 1) := by decide +kernel
theorem dX6_moves_83 : decode cX6_moves 83 = .ok (.iload_n 3, 1) := by decide +kernel
theorem dX6_moves_84 : decode cX6_moves 84 = .ok (.iload 4, 2) := by decide +kernel
theorem dX6_moves_86 : decode cX6_moves 86 = .ok (.iload 5, 2) := by decide +kernel
theorem dX6_moves_88 : decode cX6_moves 88 = .ok (.invokevirtual 291, 3) := by decide +kernel
theorem dX6_moves_91 : decode cX6_moves 91 = .ok (.ifCond .eq 8, 3) := by decide +kernel
theorem dX6_moves_94 : decode cX6_moves 94 = .ok (.iload 5, 2) := by decide +kernel
theorem dX6_moves_96 : decode cX6_moves 96 = .ok (.goto 5, 3) := by decide +kernel
theorem dX6_moves_99 : decode cX6_moves 99 = .ok (.bipush (-12), 2) := by decide +kernel
theorem dX6_moves_101 : decode cX6_moves 101 = .ok (.ireturn, 1) := by decide +kernel
theorem dX6_row_0 : decode cX6_row 0 = .ok (.iload_n 1, 1) := by decide +kernel
theorem dX6_row_1 : decode cX6_row 1 = .ok (.ifCond .ge 10, 3) := by decide +kernel
theorem dX6_row_4 : decode cX6_row 4 = .ok (.aload_n 0, 1) := by decide +kernel
theorem dX6_row_5 : decode cX6_row 5 = .ok (.bipush (-4), 2) := by decide +kernel
theorem dX6_row_7 : decode cX6_row 7 = .ok (.invokevirtual 56, 3) := by decide +kernel
theorem dX6_row_10 : decode cX6_row 10 = .ok (.ireturn, 1) := by decide +kernel
theorem dX6_row_11 : decode cX6_row 11 = .ok (.iload_n 1, 1) := by decide +kernel
theorem dX6_row_12 : decode cX6_row 12 = .ok (.bipush 99, 2) := by decide +kernel
theorem dX6_row_14 : decode cX6_row 14 = .ok (.if_icmp .gt 12, 3) := by decide +kernel
theorem dX6_row_17 : decode cX6_row 17 = .ok (.aload_n 0, 1) := by decide +kernel
theorem dX6_row_18 : decode cX6_row 18 = .ok (.getfield 295, 3) := by decide +kernel
theorem dX6_row_21 : decode cX6_row 21 = .ok (.bipush 12, 2) := by decide +kernel
theorem dX6_row_23 : decode cX6_row 23 = .ok (.if_icmp .lt 10, 3) := by decide +kernel
theorem dX6_row_26 : decode cX6_row 26 = .ok (.aload_n 0, 1) := by decide +kernel
theorem dX6_row_27 : decode cX6_row 27 = .ok (.bipush (-6), 2) := by decide +kernel
theorem dX6_row_29 : decode cX6_row 29 = .ok (.invokevirtual 56, 3) := by decide +kernel
theorem dX6_row_32 : decode cX6_row 32 = .ok (.ireturn, 1) := by decide +kernel
theorem dX6_row_33 : decode cX6_row 33 = .ok (.aload_n 0, 1) := by decide +kernel
theorem dX6_row_34 : decode cX6_row 34 = .ok (.getfield 43, 3) := by decide +kernel
theorem dX6_row_37 : decode cX6_row 37 = .ok (.aload_n 0, 1) := by decide +kernel
theorem dX6_row_38 : decode cX6_row 38 = .ok (.getfield 295, 3) := by decide +kernel
theorem dX6_row_41 : decode cX6_row 41 = .ok (.iload_n 1, 1) := by decide +kernel
theorem dX6_row_42 : decode cX6_row 42 = .ok (.iastore, 1) := by decide +kernel
theorem dX6_row_43 : decode cX6_row 43 = .ok (.aload_n 0, 1) := by decide +kernel
theorem dX6_row_44 : decode cX6_row 44 = .ok (.dup, 1) := by decide +kernel
theorem dX6_row_45 : decode cX6_row 45 = .ok (.getfield 295, 3) := by decide +kernel
theorem dX6_row_48 : decode cX6_row 48 = .ok (.iconst 1, 1) := by decide +kernel
theorem dX6_row_49 : decode cX6_row 49 = .ok (.iadd, 1) := by decide +kernel
theorem dX6_row_50 : decode cX6_row 50 = .ok (.putfield 295, 3) := by decide +kernel
theorem dX6_row_53 : decode cX6_row 53 = .ok (.aload_n 0, 1) := by decide +kernel
theorem dX6_row_54 : decode cX6_row 54 = .ok (.getfield 295, 3) := by decide +kernel
theorem dX6_row_57 : decode cX6_row 57 = .ok (.ireturn, 1) := by decide +kernel
theorem dX6_judge_0 : decode cX6_judge 0 = .ok (.bipush (-9), 2) := by decide +kernel
theorem dX6_judge_2 : decode cX6_judge 2 = .ok (.istore_n 1, 1) := by decide +kernel
theorem dX6_judge_3 : decode cX6_judge 3 = .ok (.iconst 0, 1) := by decide +kernel
theorem dX6_judge_4 : decode cX6_judge 4 = .ok (.istore_n 2, 1) := by decide +kernel
theorem dX6_judge_5 : decode cX6_judge 5 = .ok (.iload_n 2, 1) := by decide +kernel
theorem dX6_judge_6 : decode cX6_judge 6 = .ok (.aload_n 0, 1) := by decide +kernel
theorem dX6_judge_7 : decode cX6_judge 7 = .ok (.getfield 295, 3) := by decide +kernel
theorem dX6_judge_10 : decode cX6_judge 10 = .ok (.if_icmp .ge 62, 3) := by decide +kernel
theorem dX6_judge_13 : decode cX6_judge 13 = .ok (.iload_n 1, 1) := by decide +kernel
theorem dX6_judge_14 : decode cX6_judge 14 = .ok (.bipush (-9), 2) := by decide +kernel
theorem dX6_judge_16 : decode cX6_judge 16 = .ok (.if_icmp .ne 56, 3) := by decide +kernel
theorem dX6_judge_19 : decode cX6_judge 19 = .ok (.iload_n 2, 1) := by decide +kernel
theorem dX6_judge_20 : decode cX6_judge 20 = .ok (.aload_n 0, 1) := by decide +kernel
theorem dX6_judge_21 : decode cX6_judge 21 = .ok (.getfield 10, 3) := by decide +kernel
theorem dX6_judge_24 : decode cX6_judge 24 = .ok (.getfield 155, 3) := by decide +kernel
theorem dX6_judge_27 : decode cX6_judge 27 = .ok (.if_icmp .ge 37, 3) := by decide +kernel
theorem dX6_judge_30 : decode cX6_judge 30 = .ok (.aload_n 0, 1) := by decide +kernel
theorem dX6_judge_31 : decode cX6_judge 31 = .ok (.getfield 43, 3) := by decide +kernel
theorem dX6_judge_34 : decode cX6_judge 34 = .ok (.iload_n 2, 1) := by decide +kernel
theorem dX6_judge_35 : decode cX6_judge 35 = .ok (.iaload, 1) := by decide +kernel
theorem dX6_judge_36 : decode cX6_judge 36 = .ok (.aload_n 0, 1) := by decide +kernel
theorem dX6_judge_37 : decode cX6_judge 37 = .ok (.getfield 10, 3) := by decide +kernel
theorem dX6_judge_40 : decode cX6_judge 40 = .ok (.iload_n 2, 1) := by decide +kernel
theorem dX6_judge_41 : decode cX6_judge 41 = .ok (.invokevirtual 122, 3) := by decide +kernel
theorem dX6_judge_44 : decode cX6_judge 44 = .ok (.ifCond .eq 15, 3) := by decide +kernel
theorem dX6_judge_47 : decode cX6_judge 47 = .ok (.aload_n 0, 1) := by decide +kernel
theorem dX6_judge_48 : decode cX6_judge 48 = .ok (.getfield 10, 3) := by decide +kernel
theorem dX6_judge_51 : decode cX6_judge 51 = .ok (.getfield 116, 3) := by decide +kernel
theorem dX6_judge_54 : decode cX6_judge 54 = .ok (.iload_n 2, 1) := by decide +kernel
theorem dX6_judge_55 : decode cX6_judge 55 = .ok (.iaload, 1) := by decide +kernel
theorem dX6_judge_56 : decode cX6_judge 56 = .ok (.goto 5, 3) := by decide +kernel
theorem dX6_judge_59 : decode cX6_judge 59 = .ok (.bipush 36, 2) := by decide +kernel
theorem dX6_judge_61 : decode cX6_judge 61 = .ok (.if_icmp .eq 5, 3) := by decide +kernel
theorem dX6_judge_64 : decode cX6_judge 64 = .ok (.iload_n 2, 1) := by decide +kernel
theorem dX6_judge_65 : decode cX6_judge 65 = .ok (.istore_n 1, 1) := by decide +kernel
theorem dX6_judge_66 : decode cX6_judge 66 = .ok (.iinc 2 1, 3) := by decide +kernel
theorem dX6_judge_69 : decode cX6_judge 69 = .ok (.goto (-64), 3) := by decide +kernel
theorem dX6_judge_72 : decode cX6_judge 72 = .ok (.aload_n 0, 1) := by decide +kernel
theorem dX6_judge_73 : decode cX6_judge 73 = .ok (.iconst 0, 1) := by decide +kernel
theorem dX6_judge_74 : decode cX6_judge 74 = .ok (.putfield 295, 3) := by decide +kernel
theorem dX6_judge_77 : decode cX6_judge 77 = .ok (.iload_n 1, 1) := by decide +kernel
theorem dX6_judge_78 : decode cX6_judge 78 = .ok (.ireturn, 1) := by decide +kernel
theorem dX6_clear_0 : decode cX6_clear 0 = .ok (.aload_n 0, 1) := by decide +kernel
theorem dX6_clear_1 : decode cX6_clear 1 = .ok (.getfield 295, 3) := by decide +kernel
theorem dX6_clear_4 : decode cX6_clear 4 = .ok (.istore_n 1, 1) := by decide +kernel
theorem dX6_clear_5 : decode cX6_clear 5 = .ok (.aload_n 0, 1) := by decide +kernel
theorem dX6_clear_6 : decode cX6_clear 6 = .ok (.iconst 0, 1) := by decide +kernel
theorem dX6_clear_7 : decode cX6_clear 7 = .ok (.putfield 295, 3) := by decide +kernel
theorem dX6_clear_10 : decode cX6_clear 10 = .ok (.iload_n 1, 1) := by decide +kernel
theorem dX6_clear_11 : decode cX6_clear 11 = .ok (.ireturn, 1) := by decide +kernel
theorem dX6_lots_0 : decode cX6_lots 0 = .ok (.iload_n 1, 1) := by decide +kernel
theorem dX6_lots_1 : decode cX6_lots 1 = .ok (.iconst 1, 1) := by decide +kernel
theorem dX6_lots_2 : decode cX6_lots 2 = .ok (.bipush 20, 2) := by decide +kernel
theorem dX6_lots_4 : decode cX6_lots 4 = .ok (.invokestatic 172, 3) := by decide +kernel
theorem dX6_lots_7 : decode cX6_lots 7 = .ok (.istore 4, 2) := by decide +kernel
theorem dX6_lots_9 : decode cX6_lots 9 = .ok (.iload 4, 2) := by decide +kernel
theorem dX6_lots_11 : decode cX6_lots 11 = .ok (.ifCond .eq 10, 3) := by decide +kernel
theorem dX6_lots_14 : decode cX6_lots 14 = .ok (.aload_n 0, 1) := by decide +kernel
theorem dX6_lots_15 : decode cX6_lots 15 = .ok (.iload 4, 2) := by decide +kernel
theorem dX6_lots_17 : decode cX6_lots 17 = .ok (.invokevirtual 56, 3) := by decide +kernel
theorem dX6_lots_20 : decode cX6_lots 20 = .ok (.ireturn, 1) := by decide +kernel
theorem dX6_lots_21 : decode cX6_lots 21 = .ok (.iload_n 3, 1) := by decide +kernel
theorem dX6_lots_22 : decode cX6_lots 22 = .ok (.ifCond .lt 8, 3) := by decide +kernel
theorem dX6_lots_25 : decode cX6_lots 25 = .ok (.iload_n 3, 1) := by decide +kernel
theorem dX6_lots_26 : decode cX6_lots 26 = .ok (.iconst 1, 1) := by decide +kernel
theorem dX6_lots_27 : decode cX6_lots 27 = .ok (.if_icmp .le 10, 3) := by decide +kernel
theorem dX6_lots_30 : decode cX6_lots 30 = .ok (.aload_n 0, 1) := by decide +kernel
theorem dX6_lots_31 : decode cX6_lots 31 = .ok (.bipush (-2), 2) := by decide +kernel
theorem dX6_lots_33 : decode cX6_lots 33 = .ok (.invokevirtual 56, 3) := by decide +kernel
theorem dX6_lots_36 : decode cX6_lots 36 = .ok (.ireturn, 1) := by decide +kernel
theorem dX6_lots_37 : decode cX6_lots 37 = .ok (.iload_n 2, 1) := by decide +kernel
theorem dX6_lots_38 : decode cX6_lots 38 = .ok (.istore 5, 2) := by decide +kernel
theorem dX6_lots_40 : decode cX6_lots 40 = .ok (.iconst 0, 1) := by decide +kernel
theorem dX6_lots_41 : decode cX6_lots 41 = .ok (.istore 6, 2) := by decide +kernel
theorem dX6_lots_43 : decode cX6_lots 43 = .ok (.iconst 0, 1) := by decide +kernel
theorem dX6_lots_44 : decode cX6_lots 44 = .ok (.istore 7, 2) := by decide +kernel
theorem dX6_lots_46 : decode cX6_lots 46 = .ok (.iconst 0, 1) := by decide +kernel
theorem dX6_lots_47 : decode cX6_lots 47 = .ok (.istore 8, 2) := by decide +kernel
theorem dX6_lots_49 : decode cX6_lots 49 = .ok (.iload 8, 2) := by decide +kernel
theorem dX6_lots_51 : decode cX6_lots 51 = .ok (.iload_n 1, 1) := by decide +kernel
theorem dX6_lots_52 : decode cX6_lots 52 = .ok (.if_icmp .ge 119, 3) := by decide +kernel
theorem dX6_lots_55 : decode cX6_lots 55 = .ok (.aload_n 0, 1) := by decide +kernel
theorem dX6_lots_56 : decode cX6_lots 56 = .ok (.getfield 16, 3) := by decide +kernel
theorem dX6_lots_59 : decode cX6_lots 59 = .ok (.aload_n 0, 1) := by decide +kernel
theorem dX6_lots_60 : decode cX6_lots 60 = .ok (.getfield 10, 3) := by decide +kernel
theorem dX6_lots_63 : decode cX6_lots 63 = .ok (.invokevirtual 74, 3) := by decide +kernel
theorem dX6_lots_66 : decode cX6_lots 66 = .ok (.iconst 0, 1) := by decide +kernel
theorem dX6_lots_67 : decode cX6_lots 67 = .ok (.istore 9, 2) := by decide +kernel
theorem dX6_lots_69 : decode cX6_lots 69 = .ok (.iload 9, 2) := by decide +kernel
theorem dX6_lots_71 : decode cX6_lots 71 = .ok (.aload_n 0, 1) := by decide +kernel
theorem dX6_lots_72 : decode cX6_lots 72 = .ok (.getfield 16, 3) := by decide +kernel
theorem dX6_lots_75 : decode cX6_lots 75 = .ok (.getfield 148, 3) := by decide +kernel
theorem dX6_lots_78 : decode cX6_lots 78 = .ok (.if_icmp .ge 43, 3) := by decide +kernel
theorem dX6_lots_81 : decode cX6_lots 81 = .ok (.iload 5, 2) := by decide +kernel
theorem dX6_lots_83 : decode cX6_lots 83 = .ok (.ldc_w 298, 3) := by decide +kernel
theorem dX6_lots_86 : decode cX6_lots 86 = .ok (.imul, 1) := by decide +kernel
theorem dX6_lots_87 : decode cX6_lots 87 = .ok (.sipush 12345, 3) := by decide +kernel
theorem dX6_lots_90 : decode cX6_lots 90 = .ok (.iadd, 1) := by decide +kernel
theorem dX6_lots_91 : decode cX6_lots 91 = .ok (.istore 5, 2) := by decide +kernel
theorem dX6_lots_93 : decode cX6_lots 93 = .ok (.aload_n 0, 1) := by decide +kernel
theorem dX6_lots_94 : decode cX6_lots 94 = .ok (.getfield 16, 3) := by decide +kernel
theorem dX6_lots_97 : decode cX6_lots 97 = .ok (.getfield 101, 3) := by decide +kernel
theorem dX6_lots_100 : decode cX6_lots 100 = .ok (.iload 9, 2) := by decide +kernel
theorem dX6_lots_102 : decode cX6_lots 102 = .ok (.iload 5, 2) := by decide +kernel
theorem dX6_lots_104 : decode cX6_lots 104 = .ok (.ldc_w 299, 3) := by decide +kernel
theorem dX6_lots_107 : decode cX6_lots 107 = .ok (.iand, 1) := by decide +kernel
theorem dX6_lots_108 : decode cX6_lots 108 = .ok (.ldc_w 300, 3) := by decide +kernel
theorem dX6_lots_111 : decode cX6_lots 111 = .ok (.idiv, 1) := by decide +kernel
theorem dX6_lots_112 : decode cX6_lots 112 = .ok (.iconst 4, 1) := by decide +kernel
theorem dX6_lots_113 : decode cX6_lots 113 = .ok (.irem, 1) := by decide +kernel
theorem dX6_lots_114 : decode cX6_lots 114 = .ok (.iastore, 1) := by decide +kernel
theorem dX6_lots_115 : decode cX6_lots 115 = .ok (.iinc 9 1, 3) := by decide +kernel
theorem dX6_lots_118 : decode cX6_lots 118 = .ok (.goto (-49), 3) := by decide +kernel
theorem dX6_lots_121 : decode cX6_lots 121 = .ok (.aload_n 0, 1) := by decide +kernel
theorem dX6_lots_122 : decode cX6_lots 122 = .ok (.getfield 16, 3) := by decide +kernel
theorem dX6_lots_125 : decode cX6_lots 125 = .ok (.bipush 10, 2) := by decide +kernel
theorem dX6_lots_127 : decode cX6_lots 127 = .ok (.invokevirtual 195, 3) := by decide +kernel
theorem dX6_lots_130 : decode cX6_lots 130 = .ok (.iload 6, 2) := by decide +kernel
theorem dX6_lots_132 : decode cX6_lots 132 = .ok (.aload_n 0, 1) := by decide +kernel
theorem dX6_lots_133 : decode cX6_lots 133 = .ok (.getfield 16, 3) := by decide +kernel
theorem dX6_lots_136 : decode cX6_lots 136 = .ok (.getfield 198, 3) := by decide +kernel
theorem dX6_lots_139 : decode cX6_lots 139 = .ok (.aload_n 0, 1) := by decide +kernel
theorem dX6_lots_140 : decode cX6_lots 140 = .ok (.getfield 10, 3) := by decide +kernel
theorem dX6_lots_143 : decode cX6_lots 143 = .ok (.getfield 198, 3) := by decide +kernel
theorem dX6_lots_146 : decode cX6_lots 146 = .ok (.isub, 1) := by decide +kernel
theorem dX6_lots_147 : decode cX6_lots 147 = .ok (.iadd, 1) := by decide +kernel
theorem dX6_lots_148 : decode cX6_lots 148 = .ok (.istore 6, 2) := by decide +kernel
theorem dX6_lots_150 : decode cX6_lots 150 = .ok (.iload 7, 2) := by decide +kernel
theorem dX6_lots_152 : decode cX6_lots 152 = .ok (.aload_n 0, 1) := by decide +kernel
theorem dX6_lots_153 : decode cX6_lots 153 = .ok (.getfield 16, 3) := by decide +kernel
theorem dX6_lots_156 : decode cX6_lots 156 = .ok (.getfield 176, 3) := by decide +kernel
theorem dX6_lots_159 : decode cX6_lots 159 = .ok (.invokestatic 211, 3) := by decide +kernel
theorem dX6_lots_162 : decode cX6_lots 162 = .ok (.iadd, 1) := by decide +kernel
theorem dX6_lots_163 : decode cX6_lots 163 = .ok (.istore 7, 2) := by decide +kernel
theorem dX6_lots_165 : decode cX6_lots 165 = .ok (.iinc 8 1, 3) := by decide +kernel
theorem dX6_lots_168 : decode cX6_lots 168 = .ok (.goto (-119), 3) := by decide +kernel
theorem dX6_lots_171 : decode cX6_lots 171 = .ok (.iload_n 3, 1) := by decide +kernel
theorem dX6_lots_172 : decode cX6_lots 172 = .ok (.ifCond .ne 8, 3) := by decide +kernel
theorem dX6_lots_175 : decode cX6_lots 175 = .ok (.iload 6, 2) := by decide +kernel
theorem dX6_lots_177 : decode cX6_lots 177 = .ok (.goto 5, 3) := by decide +kernel
theorem dX6_lots_180 : decode cX6_lots 180 = .ok (.iload 7, 2) := by decide +kernel
theorem dX6_lots_182 : decode cX6_lots 182 = .ok (.ireturn, 1) := by decide +kernel
theorem dX6_image_0 : decode cX6_image 0 = .ok (.aload_n 0, 1) := by decide +kernel
theorem dX6_image_1 : decode cX6_image 1 = .ok (.getfield 19, 3) := by decide +kernel
theorem dX6_image_4 : decode cX6_image 4 = .ok (.aload_n 0, 1) := by decide +kernel
theorem dX6_image_5 : decode cX6_image 5 = .ok (.getfield 10, 3) := by decide +kernel
theorem dX6_image_8 : decode cX6_image 8 = .ok (.invokevirtual 74, 3) := by decide +kernel
theorem dX6_image_11 : decode cX6_image 11 = .ok (.aload_n 0, 1) := by decide +kernel
theorem dX6_image_12 : decode cX6_image 12 = .ok (.iconst 1, 1) := by decide +kernel
theorem dX6_image_13 : decode cX6_image 13 = .ok (.putfield 301, 3) := by decide +kernel
theorem dX6_image_16 : decode cX6_image 16 = .ok (.aload_n 0, 1) := by decide +kernel
theorem dX6_image_17 : decode cX6_image 17 = .ok (.getfield 10, 3) := by decide +kernel
theorem dX6_image_20 : decode cX6_image 20 = .ok (.getfield 192, 3) := by decide +kernel
theorem dX6_image_23 : decode cX6_image 23 = .ok (.ireturn, 1) := by decide +kernel
theorem dX6_restore_0 : decode cX6_restore 0 = .ok (.aload_n 0, 1) := by decide +kernel
theorem dX6_restore_1 : decode cX6_restore 1 = .ok (.getfield 301, 3) := by decide +kernel
theorem dX6_restore_4 : decode cX6_restore 4 = .ok (.ifCond .ne 10, 3) := by decide +kernel
theorem dX6_restore_7 : decode cX6_restore 7 = .ok (.aload_n 0, 1) := by decide +kernel
theorem dX6_restore_8 : decode cX6_restore 8 = .ok (.bipush (-3), 2) := by decide +kernel
theorem dX6_restore_10 : decode cX6_restore 10 = .ok (.invokevirtual 56, 3) := by decide +kernel
theorem dX6_restore_13 : decode cX6_restore 13 = .ok (.ireturn, 1) := by decide +kernel
theorem dX6_restore_14 : decode cX6_restore 14 = .ok (.aload_n 0, 1) := by decide +kernel
theorem dX6_restore_15 : decode cX6_restore 15 = .ok (.getfield 10, 3) := by decide +kernel
theorem dX6_restore_18 : decode cX6_restore 18 = .ok (.aload_n 0, 1) := by decide +kernel
theorem dX6_restore_19 : decode cX6_restore 19 = .ok (.getfield 19, 3) := by decide +kernel
theorem dX6_restore_22 : decode cX6_restore 22 = .ok (.invokevirtual 74, 3) := by decide +kernel
theorem dX6_restore_25 : decode cX6_restore 25 = .ok (.aload_n 0, 1) := by decide +kernel
theorem dX6_restore_26 : decode cX6_restore 26 = .ok (.getfield 25, 3) := by decide +kernel
theorem dX6_restore_29 : decode cX6_restore 29 = .ok (.invokevirtual 85, 3) := by decide +kernel
theorem dX6_restore_32 : decode cX6_restore 32 = .ok (.aload_n 0, 1) := by decide +kernel
theorem dX6_restore_33 : decode cX6_restore 33 = .ok (.getfield 10, 3) := by decide +kernel
theorem dX6_restore_36 : decode cX6_restore 36 = .ok (.getfield 192, 3) := by decide +kernel
theorem dX6_restore_39 : decode cX6_restore 39 = .ok (.ireturn, 1) := by decide +kernel
theorem dX6_count_0 : decode cX6_count 0 = .ok (.iload_n 1, 1) := by decide +kernel
theorem dX6_count_1 : decode cX6_count 1 = .ok (.bipush 11, 2) := by decide +kernel
theorem dX6_count_3 : decode cX6_count 3 = .ok (.if_icmp .lt 19, 3) := by decide +kernel
theorem dX6_count_6 : decode cX6_count 6 = .ok (.iload_n 1, 1) := by decide +kernel
theorem dX6_count_7 : decode cX6_count 7 = .ok (.bipush 16, 2) := by decide +kernel
theorem dX6_count_9 : decode cX6_count 9 = .ok (.if_icmp .gt 13, 3) := by decide +kernel
theorem dX6_count_12 : decode cX6_count 12 = .ok (.aload_n 0, 1) := by decide +kernel
theorem dX6_count_13 : decode cX6_count 13 = .ok (.getfield 47, 3) := by decide +kernel
theorem dX6_count_16 : decode cX6_count 16 = .ok (.iload_n 1, 1) := by decide +kernel
theorem dX6_count_17 : decode cX6_count 17 = .ok (.bipush 10, 2) := by decide +kernel
theorem dX6_count_19 : decode cX6_count 19 = .ok (.isub, 1) := by decide +kernel
theorem dX6_count_20 : decode cX6_count 20 = .ok (.iaload, 1) := by decide +kernel
theorem dX6_count_21 : decode cX6_count 21 = .ok (.ireturn, 1) := by decide +kernel
theorem dX6_count_22 : decode cX6_count 22 = .ok (.iload_n 1, 1) := by decide +kernel
theorem dX6_count_23 : decode cX6_count 23 = .ok (.tableswitch 136 0 9 #[53, 61, 69, 77, 85, 93, 104, 115, 123, 128], 53) := by decide +kernel
theorem dX6_count_76 : decode cX6_count 76 = .ok (.aload_n 0, 1) := by decide +kernel
theorem dX6_count_77 : decode cX6_count 77 = .ok (.getfield 10, 3) := by decide +kernel
theorem dX6_count_80 : decode cX6_count 80 = .ok (.getfield 148, 3) := by decide +kernel
theorem dX6_count_83 : decode cX6_count 83 = .ok (.ireturn, 1) := by decide +kernel
theorem dX6_count_84 : decode cX6_count 84 = .ok (.aload_n 0, 1) := by decide +kernel
theorem dX6_count_85 : decode cX6_count 85 = .ok (.getfield 10, 3) := by decide +kernel
theorem dX6_count_88 : decode cX6_count 88 = .ok (.getfield 155, 3) := by decide +kernel
theorem dX6_count_91 : decode cX6_count 91 = .ok (.ireturn, 1) := by decide +kernel
theorem dX6_count_92 : decode cX6_count 92 = .ok (.aload_n 0, 1) := by decide +kernel
theorem dX6_count_93 : decode cX6_count 93 = .ok (.getfield 10, 3) := by decide +kernel
theorem dX6_count_96 : decode cX6_count 96 = .ok (.getfield 192, 3) := by decide +kernel
theorem dX6_count_99 : decode cX6_count 99 = .ok (.ireturn, 1) := by decide +kernel
theorem dX6_count_100 : decode cX6_count 100 = .ok (.aload_n 0, 1) := by decide +kernel
theorem dX6_count_101 : decode cX6_count 101 = .ok (.getfield 10, 3) := by decide +kernel
theorem dX6_count_104 : decode cX6_count 104 = .ok (.getfield 198, 3) := by decide +kernel
theorem dX6_count_107 : decode cX6_count 107 = .ok (.ireturn, 1) := by decide +kernel
theorem dX6_count_108 : decode cX6_count 108 = .ok (.aload_n 0, 1) := by decide +kernel
theorem dX6_count_109 : decode cX6_count 109 = .ok (.getfield 10, 3) := by decide +kernel
theorem dX6_count_112 : decode cX6_count 112 = .ok (.getfield 176, 3) := by decide +kernel
theorem dX6_count_115 : decode cX6_count 115 = .ok (.ireturn, 1) := by decide +kernel
theorem dX6_count_116 : decode cX6_count 116 = .ok (.aload_n 0, 1) := by decide +kernel
theorem dX6_count_117 : decode cX6_count 117 = .ok (.getfield 10, 3) := by decide +kernel
theorem dX6_count_120 : decode cX6_count 120 = .ok (.getfield 179, 3) := by decide +kernel
theorem dX6_count_123 : decode cX6_count 123 = .ok (.getfield 183, 3) := by decide +kernel
theorem dX6_count_126 : decode cX6_count 126 = .ok (.ireturn, 1) := by decide +kernel
theorem dX6_count_127 : decode cX6_count 127 = .ok (.aload_n 0, 1) := by decide +kernel
theorem dX6_count_128 : decode cX6_count 128 = .ok (.getfield 10, 3) := by decide +kernel
theorem dX6_count_131 : decode cX6_count 131 = .ok (.getfield 305, 3) := by decide +kernel
theorem dX6_count_134 : decode cX6_count 134 = .ok (.invokestatic 309, 3) := by decide +kernel
theorem dX6_count_137 : decode cX6_count 137 = .ok (.ireturn, 1) := by decide +kernel
theorem dX6_count_138 : decode cX6_count 138 = .ok (.aload_n 0, 1) := by decide +kernel
theorem dX6_count_139 : decode cX6_count 139 = .ok (.getfield 32, 3) := by decide +kernel
theorem dX6_count_142 : decode cX6_count 142 = .ok (.getfield 60, 3) := by decide +kernel
theorem dX6_count_145 : decode cX6_count 145 = .ok (.ireturn, 1) := by decide +kernel
theorem dX6_count_146 : decode cX6_count 146 = .ok (.aload_n 0, 1) := by decide +kernel
theorem dX6_count_147 : decode cX6_count 147 = .ok (.getfield 295, 3) := by decide +kernel
theorem dX6_count_150 : decode cX6_count 150 = .ok (.ireturn, 1) := by decide +kernel
theorem dX6_count_151 : decode cX6_count 151 = .ok (.aload_n 0, 1) := by decide +kernel
theorem dX6_count_152 : decode cX6_count 152 = .ok (.getfield 25, 3) := by decide +kernel
theorem dX6_count_155 : decode cX6_count 155 = .ok (.getfield 201, 3) := by decide +kernel
theorem dX6_count_158 : decode cX6_count 158 = .ok (.ireturn, 1) := by decide +kernel
theorem dX6_count_159 : decode cX6_count 159 = .ok (.bipush (-9), 2) := by decide +kernel
theorem dX6_count_161 : decode cX6_count 161 = .ok (.ireturn, 1) := by decide +kernel
theorem dX6_refuse_0 : decode cX6_refuse 0 = .ok (.iload_n 1, 1) := by decide +kernel
theorem dX6_refuse_1 : decode cX6_refuse 1 = .ok (.iconst (-1), 1) := by decide +kernel
theorem dX6_refuse_2 : decode cX6_refuse 2 = .ok (.if_icmp .gt 20, 3) := by decide +kernel
theorem dX6_refuse_5 : decode cX6_refuse 5 = .ok (.iload_n 1, 1) := by decide +kernel
theorem dX6_refuse_6 : decode cX6_refuse 6 = .ok (.bipush (-6), 2) := by decide +kernel
theorem dX6_refuse_8 : decode cX6_refuse 8 = .ok (.if_icmp .lt 14, 3) := by decide +kernel
theorem dX6_refuse_11 : decode cX6_refuse 11 = .ok (.aload_n 0, 1) := by decide +kernel
theorem dX6_refuse_12 : decode cX6_refuse 12 = .ok (.getfield 47, 3) := by decide +kernel
theorem dX6_refuse_15 : decode cX6_refuse 15 = .ok (.iload_n 1, 1) := by decide +kernel
theorem dX6_refuse_16 : decode cX6_refuse 16 = .ok (.ineg, 1) := by decide +kernel
theorem dX6_refuse_17 : decode cX6_refuse 17 = .ok (.dup2, 1) := by decide +kernel
theorem dX6_refuse_18 : decode cX6_refuse 18 = .ok (.iaload, 1) := by decide +kernel
theorem dX6_refuse_19 : decode cX6_refuse 19 = .ok (.iconst 1, 1) := by decide +kernel
theorem dX6_refuse_20 : decode cX6_refuse 20 = .ok (.iadd, 1) := by decide +kernel
theorem dX6_refuse_21 : decode cX6_refuse 21 = .ok (.iastore, 1) := by decide +kernel
theorem dX6_refuse_22 : decode cX6_refuse 22 = .ok (.iload_n 1, 1) := by decide +kernel
theorem dX6_refuse_23 : decode cX6_refuse 23 = .ok (.ireturn, 1) := by decide +kernel
theorem dX6_refuseLong_0 : decode cX6_refuseLong 0 = .ok (.ldc2_w 314, 3) := by decide +kernel
theorem dX6_refuseLong_3 : decode cX6_refuseLong 3 = .ok (.aload_n 0, 1) := by decide +kernel
theorem dX6_refuseLong_4 : decode cX6_refuseLong 4 = .ok (.iload_n 1, 1) := by decide +kernel
theorem dX6_refuseLong_5 : decode cX6_refuseLong 5 = .ok (.invokevirtual 56, 3) := by decide +kernel
theorem dX6_refuseLong_8 : decode cX6_refuseLong 8 = .ok (.i2l, 1) := by decide +kernel
theorem dX6_refuseLong_9 : decode cX6_refuseLong 9 = .ok (.lsub, 1) := by decide +kernel
theorem dX6_refuseLong_10 : decode cX6_refuseLong 10 = .ok (.lreturn, 1) := by decide +kernel
theorem dX6_refusalOf_0 : decode cX6_refusalOf 0 = .ok (.iload_n 0, 1) := by decide +kernel
theorem dX6_refusalOf_1 : decode cX6_refusalOf 1 = .ok (.iload_n 1, 1) := by decide +kernel
theorem dX6_refusalOf_2 : decode cX6_refusalOf 2 = .ok (.if_icmp .ge 6, 3) := by decide +kernel
theorem dX6_refusalOf_5 : decode cX6_refusalOf 5 = .ok (.bipush (-4), 2) := by decide +kernel
theorem dX6_refusalOf_7 : decode cX6_refusalOf 7 = .ok (.ireturn, 1) := by decide +kernel
theorem dX6_refusalOf_8 : decode cX6_refusalOf 8 = .ok (.iload_n 0, 1) := by decide +kernel
theorem dX6_refusalOf_9 : decode cX6_refusalOf 9 = .ok (.iload_n 2, 1) := by decide +kernel
theorem dX6_refusalOf_10 : decode cX6_refusalOf 10 = .ok (.if_icmp .le 8, 3) := by decide +kernel
theorem dX6_refusalOf_13 : decode cX6_refusalOf 13 = .ok (.bipush (-6), 2) := by decide +kernel
theorem dX6_refusalOf_15 : decode cX6_refusalOf 15 = .ok (.goto 4, 3) := by decide +kernel
theorem dX6_refusalOf_18 : decode cX6_refusalOf 18 = .ok (.iconst 0, 1) := by decide +kernel
theorem dX6_refusalOf_19 : decode cX6_refusalOf 19 = .ok (.ireturn, 1) := by decide +kernel
theorem dX6_isAir_0 : decode cX6_isAir 0 = .ok (.iload_n 1, 1) := by decide +kernel
theorem dX6_isAir_1 : decode cX6_isAir 1 = .ok (.ifCond .lt 18, 3) := by decide +kernel
theorem dX6_isAir_4 : decode cX6_isAir 4 = .ok (.iload_n 1, 1) := by decide +kernel
theorem dX6_isAir_5 : decode cX6_isAir 5 = .ok (.aload_n 0, 1) := by decide +kernel
theorem dX6_isAir_6 : decode cX6_isAir 6 = .ok (.getfield 10, 3) := by decide +kernel
theorem dX6_isAir_9 : decode cX6_isAir 9 = .ok (.getfield 148, 3) := by decide +kernel
theorem dX6_isAir_12 : decode cX6_isAir 12 = .ok (.if_icmp .ge 7, 3) := by decide +kernel
theorem dX6_isAir_15 : decode cX6_isAir 15 = .ok (.iconst 1, 1) := by decide +kernel
theorem dX6_isAir_16 : decode cX6_isAir 16 = .ok (.goto 4, 3) := by decide +kernel
theorem dX6_isAir_19 : decode cX6_isAir 19 = .ok (.iconst 0, 1) := by decide +kernel
theorem dX6_isAir_20 : decode cX6_isAir 20 = .ok (.ireturn, 1) := by decide +kernel
theorem dX6_isSitter_0 : decode cX6_isSitter 0 = .ok (.iload_n 1, 1) := by decide +kernel
theorem dX6_isSitter_1 : decode cX6_isSitter 1 = .ok (.ifCond .lt 18, 3) := by decide +kernel
theorem dX6_isSitter_4 : decode cX6_isSitter 4 = .ok (.iload_n 1, 1) := by decide +kernel
theorem dX6_isSitter_5 : decode cX6_isSitter 5 = .ok (.aload_n 0, 1) := by decide +kernel
theorem dX6_isSitter_6 : decode cX6_isSitter 6 = .ok (.getfield 10, 3) := by decide +kernel
theorem dX6_isSitter_9 : decode cX6_isSitter 9 = .ok (.getfield 155, 3) := by decide +kernel
theorem dX6_isSitter_12 : decode cX6_isSitter 12 = .ok (.if_icmp .ge 7, 3) := by decide +kernel
theorem dX6_isSitter_15 : decode cX6_isSitter 15 = .ok (.iconst 1, 1) := by decide +kernel
theorem dX6_isSitter_16 : decode cX6_isSitter 16 = .ok (.goto 4, 3) := by decide +kernel
theorem dX6_isSitter_19 : decode cX6_isSitter 19 = .ok (.iconst 0, 1) := by decide +kernel
theorem dX6_isSitter_20 : decode cX6_isSitter 20 = .ok (.ireturn, 1) := by decide +kernel
theorem dX6_isCell_0 : decode cX6_isCell 0 = .ok (.iload_n 0, 1) := by decide +kernel
theorem dX6_isCell_1 : decode cX6_isCell 1 = .ok (.ifCond .lt 13, 3) := by decide +kernel
theorem dX6_isCell_4 : decode cX6_isCell 4 = .ok (.iload_n 0, 1) := by decide +kernel
theorem dX6_isCell_5 : decode cX6_isCell 5 = .ok (.bipush 36, 2) := by decide +kernel
theorem dX6_isCell_7 : decode cX6_isCell 7 = .ok (.if_icmp .ge 7, 3) := by decide +kernel
theorem dX6_isCell_10 : decode cX6_isCell 10 = .ok (.iconst 1, 1) := by decide +kernel
theorem dX6_isCell_11 : decode cX6_isCell 11 = .ok (.goto 4, 3) := by decide +kernel
theorem dX6_isCell_14 : decode cX6_isCell 14 = .ok (.iconst 0, 1) := by decide +kernel
theorem dX6_isCell_15 : decode cX6_isCell 15 = .ok (.ireturn, 1) := by decide +kernel
theorem dX6_isPeg_0 : decode cX6_isPeg 0 = .ok (.iload_n 0, 1) := by decide +kernel
theorem dX6_isPeg_1 : decode cX6_isPeg 1 = .ok (.ifCond .lt 12, 3) := by decide +kernel
theorem dX6_isPeg_4 : decode cX6_isPeg 4 = .ok (.iload_n 0, 1) := by decide +kernel
theorem dX6_isPeg_5 : decode cX6_isPeg 5 = .ok (.iconst 3, 1) := by decide +kernel
theorem dX6_isPeg_6 : decode cX6_isPeg 6 = .ok (.if_icmp .ge 7, 3) := by decide +kernel
theorem dX6_isPeg_9 : decode cX6_isPeg 9 = .ok (.iconst 1, 1) := by decide +kernel
theorem dX6_isPeg_10 : decode cX6_isPeg 10 = .ok (.goto 4, 3) := by decide +kernel
theorem dX6_isPeg_13 : decode cX6_isPeg 13 = .ok (.iconst 0, 1) := by decide +kernel
theorem dX6_isPeg_14 : decode cX6_isPeg 14 = .ok (.ireturn, 1) := by decide +kernel
theorem dX6_thinkOf_0 : decode cX6_thinkOf 0 = .ok (.aload_n 0, 1) := by decide +kernel
theorem dX6_thinkOf_1 : decode cX6_thinkOf 1 = .ok (.getfield 16, 3) := by decide +kernel
theorem dX6_thinkOf_4 : decode cX6_thinkOf 4 = .ok (.aload_n 0, 1) := by decide +kernel
theorem dX6_thinkOf_5 : decode cX6_thinkOf 5 = .ok (.getfield 10, 3) := by decide +kernel
theorem dX6_thinkOf_8 : decode cX6_thinkOf 8 = .ok (.invokevirtual 74, 3) := by decide +kernel
theorem dX6_thinkOf_11 : decode cX6_thinkOf 11 = .ok (.aload_n 0, 1) := by decide +kernel
theorem dX6_thinkOf_12 : decode cX6_thinkOf 12 = .ok (.getfield 16, 3) := by decide +kernel
theorem dX6_thinkOf_15 : decode cX6_thinkOf 15 = .ok (.iload_n 1, 1) := by decide +kernel
theorem dX6_thinkOf_16 : decode cX6_thinkOf 16 = .ok (.invokevirtual 195, 3) := by decide +kernel
theorem dX6_thinkOf_19 : decode cX6_thinkOf 19 = .ok (.return_, 1) := by decide +kernel
theorem dX6_thinkOfShut_0 : decode cX6_thinkOfShut 0 = .ok (.aload_n 0, 1) := by decide +kernel
theorem dX6_thinkOfShut_1 : decode cX6_thinkOfShut 1 = .ok (.getfield 16, 3) := by decide +kernel
theorem dX6_thinkOfShut_4 : decode cX6_thinkOfShut 4 = .ok (.aload_n 0, 1) := by decide +kernel
theorem dX6_thinkOfShut_5 : decode cX6_thinkOfShut 5 = .ok (.getfield 10, 3) := by decide +kernel
theorem dX6_thinkOfShut_8 : decode cX6_thinkOfShut 8 = .ok (.invokevirtual 74, 3) := by decide +kernel
theorem dX6_thinkOfShut_11 : decode cX6_thinkOfShut 11 = .ok (.aload_n 0, 1) := by decide +kernel
theorem dX6_thinkOfShut_12 : decode cX6_thinkOfShut 12 = .ok (.getfield 16, 3) := by decide +kernel
theorem dX6_thinkOfShut_15 : decode cX6_thinkOfShut 15 = .ok (.iload_n 1, 1) := by decide +kernel
theorem dX6_thinkOfShut_16 : decode cX6_thinkOfShut 16 = .ok (.invokevirtual 168, 3) := by decide +kernel
theorem dX6_thinkOfShut_19 : decode cX6_thinkOfShut 19 = .ok (.aload_n 0, 1) := by decide +kernel
theorem dX6_thinkOfShut_20 : decode cX6_thinkOfShut 20 = .ok (.getfield 16, 3) := by decide +kernel
theorem dX6_thinkOfShut_23 : decode cX6_thinkOfShut 23 = .ok (.iload_n 2, 1) := by decide +kernel
theorem dX6_thinkOfShut_24 : decode cX6_thinkOfShut 24 = .ok (.invokevirtual 195, 3) := by decide +kernel
theorem dX6_thinkOfShut_27 : decode cX6_thinkOfShut 27 = .ok (.return_, 1) := by decide +kernel
theorem dX6_firstOff_0 : decode cX6_firstOff 0 = .ok (.aload_n 0, 1) := by decide +kernel
theorem dX6_firstOff_1 : decode cX6_firstOff 1 = .ok (.getfield 16, 3) := by decide +kernel
theorem dX6_firstOff_4 : decode cX6_firstOff 4 = .ok (.aload_n 0, 1) := by decide +kernel
theorem dX6_firstOff_5 : decode cX6_firstOff 5 = .ok (.getfield 10, 3) := by decide +kernel
theorem dX6_firstOff_8 : decode cX6_firstOff 8 = .ok (.invokevirtual 74, 3) := by decide +kernel
theorem dX6_firstOff_11 : decode cX6_firstOff 11 = .ok (.iconst 1, 1) := by decide +kernel
theorem dX6_firstOff_12 : decode cX6_firstOff 12 = .ok (.istore_n 1, 1) := by decide +kernel
theorem dX6_firstOff_13 : decode cX6_firstOff 13 = .ok (.iload_n 1, 1) := by decide +kernel
theorem dX6_firstOff_14 : decode cX6_firstOff 14 = .ok (.bipush 60, 2) := by decide +kernel
theorem dX6_firstOff_16 : decode cX6_firstOff 16 = .ok (.if_icmp .gt 70, 3) := by decide +kernel
theorem dX6_firstOff_19 : decode cX6_firstOff 19 = .ok (.aload_n 0, 1) := by decide +kernel
theorem dX6_firstOff_20 : decode cX6_firstOff 20 = .ok (.getfield 16, 3) := by decide +kernel
theorem dX6_firstOff_23 : decode cX6_firstOff 23 = .ok (.getfield 176, 3) := by decide +kernel
theorem dX6_firstOff_26 : decode cX6_firstOff 26 = .ok (.ifCond .eq 60, 3) := by decide +kernel
theorem dX6_firstOff_29 : decode cX6_firstOff 29 = .ok (.aload_n 0, 1) := by decide +kernel
theorem dX6_firstOff_30 : decode cX6_firstOff 30 = .ok (.getfield 16, 3) := by decide +kernel
theorem dX6_firstOff_33 : decode cX6_firstOff 33 = .ok (.iconst 1, 1) := by decide +kernel
theorem dX6_firstOff_34 : decode cX6_firstOff 34 = .ok (.invokevirtual 195, 3) := by decide +kernel
theorem dX6_firstOff_37 : decode cX6_firstOff 37 = .ok (.iconst 0, 1) := by decide +kernel
theorem dX6_firstOff_38 : decode cX6_firstOff 38 = .ok (.istore_n 2, 1) := by decide +kernel
theorem dX6_firstOff_39 : decode cX6_firstOff 39 = .ok (.iload_n 2, 1) := by decide +kernel
theorem dX6_firstOff_40 : decode cX6_firstOff 40 = .ok (.aload_n 0, 1) := by decide +kernel
theorem dX6_firstOff_41 : decode cX6_firstOff 41 = .ok (.getfield 10, 3) := by decide +kernel
theorem dX6_firstOff_44 : decode cX6_firstOff 44 = .ok (.getfield 155, 3) := by decide +kernel
theorem dX6_firstOff_47 : decode cX6_firstOff 47 = .ok (.if_icmp .ge 33, 3) := by decide +kernel
theorem dX6_firstOff_50 : decode cX6_firstOff 50 = .ok (.aload_n 0, 1) := by decide +kernel
theorem dX6_firstOff_51 : decode cX6_firstOff 51 = .ok (.getfield 10, 3) := by decide +kernel
theorem dX6_firstOff_54 : decode cX6_firstOff 54 = .ok (.iload_n 2, 1) := by decide +kernel
theorem dX6_firstOff_55 : decode cX6_firstOff 55 = .ok (.invokevirtual 122, 3) := by decide +kernel
theorem dX6_firstOff_58 : decode cX6_firstOff 58 = .ok (.ifCond .eq 16, 3) := by decide +kernel
theorem dX6_firstOff_61 : decode cX6_firstOff 61 = .ok (.aload_n 0, 1) := by decide +kernel
theorem dX6_firstOff_62 : decode cX6_firstOff 62 = .ok (.getfield 16, 3) := by decide +kernel
theorem dX6_firstOff_65 : decode cX6_firstOff 65 = .ok (.iload_n 2, 1) := by decide +kernel
theorem dX6_firstOff_66 : decode cX6_firstOff 66 = .ok (.invokevirtual 122, 3) := by decide +kernel
theorem dX6_firstOff_69 : decode cX6_firstOff 69 = .ok (.ifCond .ne 5, 3) := by decide +kernel
theorem dX6_firstOff_72 : decode cX6_firstOff 72 = .ok (.iload_n 2, 1) := by decide +kernel
theorem dX6_firstOff_73 : decode cX6_firstOff 73 = .ok (.ireturn, 1) := by decide +kernel
theorem dX6_firstOff_74 : decode cX6_firstOff 74 = .ok (.iinc 2 1, 3) := by decide +kernel
theorem dX6_firstOff_77 : decode cX6_firstOff 77 = .ok (.goto (-38), 3) := by decide +kernel
theorem dX6_firstOff_80 : decode cX6_firstOff 80 = .ok (.iinc 1 1, 3) := by decide +kernel
theorem dX6_firstOff_83 : decode cX6_firstOff 83 = .ok (.goto (-70), 3) := by decide +kernel
theorem dX6_firstOff_86 : decode cX6_firstOff 86 = .ok (.bipush (-9), 2) := by decide +kernel
theorem dX6_firstOff_88 : decode cX6_firstOff 88 = .ok (.ireturn, 1) := by decide +kernel
theorem dX6_goesAsTold_0 : decode cX6_goesAsTold 0 = .ok (.iconst 0, 1) := by decide +kernel
theorem dX6_goesAsTold_1 : decode cX6_goesAsTold 1 = .ok (.istore_n 2, 1) := by decide +kernel
theorem dX6_goesAsTold_2 : decode cX6_goesAsTold 2 = .ok (.iload_n 2, 1) := by decide +kernel
theorem dX6_goesAsTold_3 : decode cX6_goesAsTold 3 = .ok (.aload_n 0, 1) := by decide +kernel
theorem dX6_goesAsTold_4 : decode cX6_goesAsTold 4 = .ok (.getfield 295, 3) := by decide +kernel
theorem dX6_goesAsTold_7 : decode cX6_goesAsTold 7 = .ok (.if_icmp .ge 47, 3) := by decide +kernel
theorem dX6_goesAsTold_10 : decode cX6_goesAsTold 10 = .ok (.aload_n 0, 1) := by decide +kernel
theorem dX6_goesAsTold_11 : decode cX6_goesAsTold 11 = .ok (.getfield 16, 3) := by decide +kernel
theorem dX6_goesAsTold_14 : decode cX6_goesAsTold 14 = .ok (.getfield 98, 3) := by decide +kernel
theorem dX6_goesAsTold_17 : decode cX6_goesAsTold 17 = .ok (.iload_n 1, 1) := by decide +kernel
theorem dX6_goesAsTold_18 : decode cX6_goesAsTold 18 = .ok (.iaload, 1) := by decide +kernel
theorem dX6_goesAsTold_19 : decode cX6_goesAsTold 19 = .ok (.aload_n 0, 1) := by decide +kernel
theorem dX6_goesAsTold_20 : decode cX6_goesAsTold 20 = .ok (.getfield 43, 3) := by decide +kernel
theorem dX6_goesAsTold_23 : decode cX6_goesAsTold 23 = .ok (.iload_n 2, 1) := by decide +kernel
theorem dX6_goesAsTold_24 : decode cX6_goesAsTold 24 = .ok (.iaload, 1) := by decide +kernel
theorem dX6_goesAsTold_25 : decode cX6_goesAsTold 25 = .ok (.if_icmp .eq 5, 3) := by decide +kernel
theorem dX6_goesAsTold_28 : decode cX6_goesAsTold 28 = .ok (.iconst 0, 1) := by decide +kernel
theorem dX6_goesAsTold_29 : decode cX6_goesAsTold 29 = .ok (.ireturn, 1) := by decide +kernel
theorem dX6_goesAsTold_30 : decode cX6_goesAsTold 30 = .ok (.iload_n 2, 1) := by decide +kernel
theorem dX6_goesAsTold_31 : decode cX6_goesAsTold 31 = .ok (.iconst 1, 1) := by decide +kernel
theorem dX6_goesAsTold_32 : decode cX6_goesAsTold 32 = .ok (.iadd, 1) := by decide +kernel
theorem dX6_goesAsTold_33 : decode cX6_goesAsTold 33 = .ok (.aload_n 0, 1) := by decide +kernel
theorem dX6_goesAsTold_34 : decode cX6_goesAsTold 34 = .ok (.getfield 295, 3) := by decide +kernel
theorem dX6_goesAsTold_37 : decode cX6_goesAsTold 37 = .ok (.if_icmp .ge 11, 3) := by decide +kernel
theorem dX6_goesAsTold_40 : decode cX6_goesAsTold 40 = .ok (.aload_n 0, 1) := by decide +kernel
theorem dX6_goesAsTold_41 : decode cX6_goesAsTold 41 = .ok (.getfield 16, 3) := by decide +kernel
theorem dX6_goesAsTold_44 : decode cX6_goesAsTold 44 = .ok (.iconst 1, 1) := by decide +kernel
theorem dX6_goesAsTold_45 : decode cX6_goesAsTold 45 = .ok (.invokevirtual 195, 3) := by decide +kernel
theorem dX6_goesAsTold_48 : decode cX6_goesAsTold 48 = .ok (.iinc 2 1, 3) := by decide +kernel
theorem dX6_goesAsTold_51 : decode cX6_goesAsTold 51 = .ok (.goto (-49), 3) := by decide +kernel
theorem dX6_goesAsTold_54 : decode cX6_goesAsTold 54 = .ok (.iconst 1, 1) := by decide +kernel
theorem dX6_goesAsTold_55 : decode cX6_goesAsTold 55 = .ok (.ireturn, 1) := by decide +kernel
theorem dX6_play_0 : decode cX6_play 0 = .ok (.iload 4, 2) := by decide +kernel
theorem dX6_play_2 : decode cX6_play 2 = .ok (.iconst 1, 1) := by decide +kernel
theorem dX6_play_3 : decode cX6_play 3 = .ok (.ishr, 1) := by decide +kernel
theorem dX6_play_4 : decode cX6_play 4 = .ok (.iconst 1, 1) := by decide +kernel
theorem dX6_play_5 : decode cX6_play 5 = .ok (.if_icmp .ne 7, 3) := by decide +kernel
theorem dX6_play_8 : decode cX6_play 8 = .ok (.iconst 1, 1) := by decide +kernel
theorem dX6_play_9 : decode cX6_play 9 = .ok (.goto 4, 3) := by decide +kernel
theorem dX6_play_12 : decode cX6_play 12 = .ok (.iconst 0, 1) := by decide +kernel
theorem dX6_play_13 : decode cX6_play 13 = .ok (.istore 5, 2) := by decide +kernel
theorem dX6_play_15 : decode cX6_play 15 = .ok (.iload 4, 2) := by decide +kernel
theorem dX6_play_17 : decode cX6_play 17 = .ok (.iconst 1, 1) := by decide +kernel
theorem dX6_play_18 : decode cX6_play 18 = .ok (.iand, 1) := by decide +kernel
theorem dX6_play_19 : decode cX6_play 19 = .ok (.iconst 1, 1) := by decide +kernel
theorem dX6_play_20 : decode cX6_play 20 = .ok (.if_icmp .ne 7, 3) := by decide +kernel
theorem dX6_play_23 : decode cX6_play 23 = .ok (.iconst 1, 1) := by decide +kernel
theorem dX6_play_24 : decode cX6_play 24 = .ok (.goto 4, 3) := by decide +kernel
theorem dX6_play_27 : decode cX6_play 27 = .ok (.iconst 0, 1) := by decide +kernel
theorem dX6_play_28 : decode cX6_play 28 = .ok (.istore 6, 2) := by decide +kernel
theorem dX6_play_30 : decode cX6_play 30 = .ok (.aload_n 0, 1) := by decide +kernel
theorem dX6_play_31 : decode cX6_play 31 = .ok (.getfield 10, 3) := by decide +kernel
theorem dX6_play_34 : decode cX6_play 34 = .ok (.getfield 119, 3) := by decide +kernel
theorem dX6_play_37 : decode cX6_play 37 = .ok (.iload_n 1, 1) := by decide +kernel
theorem dX6_play_38 : decode cX6_play 38 = .ok (.iaload, 1) := by decide +kernel
theorem dX6_play_39 : decode cX6_play 39 = .ok (.istore 7, 2) := by decide +kernel
theorem dX6_play_41 : decode cX6_play 41 = .ok (.aload_n 0, 1) := by decide +kernel
theorem dX6_play_42 : decode cX6_play 42 = .ok (.getfield 10, 3) := by decide +kernel
theorem dX6_play_45 : decode cX6_play 45 = .ok (.getfield 119, 3) := by decide +kernel
theorem dX6_play_48 : decode cX6_play 48 = .ok (.iload_n 2, 1) := by decide +kernel
theorem dX6_play_49 : decode cX6_play 49 = .ok (.iaload, 1) := by decide +kernel
theorem dX6_play_50 : decode cX6_play 50 = .ok (.istore 8, 2) := by decide +kernel
theorem dX6_play_52 : decode cX6_play 52 = .ok (.aload_n 0, 1) := by decide +kernel
theorem dX6_play_53 : decode cX6_play 53 = .ok (.getfield 16, 3) := by decide +kernel
theorem dX6_play_56 : decode cX6_play 56 = .ok (.aload_n 0, 1) := by decide +kernel
theorem dX6_play_57 : decode cX6_play 57 = .ok (.getfield 10, 3) := by decide +kernel
theorem dX6_play_60 : decode cX6_play 60 = .ok (.invokevirtual 74, 3) := by decide +kernel
theorem dX6_play_63 : decode cX6_play 63 = .ok (.aload_n 0, 1) := by decide +kernel
theorem dX6_play_64 : decode cX6_play 64 = .ok (.getfield 16, 3) := by decide +kernel
theorem dX6_play_67 : decode cX6_play 67 = .ok (.getfield 119, 3) := by decide +kernel
theorem dX6_play_70 : decode cX6_play 70 = .ok (.iload_n 1, 1) := by decide +kernel
theorem dX6_play_71 : decode cX6_play 71 = .ok (.iload 5, 2) := by decide +kernel
theorem dX6_play_73 : decode cX6_play 73 = .ok (.ifCond .eq 7, 3) := by decide +kernel
theorem dX6_play_76 : decode cX6_play 76 = .ok (.iconst 0, 1) := by decide +kernel
theorem dX6_play_77 : decode cX6_play 77 = .ok (.goto 5, 3) := by decide +kernel
theorem dX6_play_80 : decode cX6_play 80 = .ok (.iload 7, 2) := by decide +kernel
theorem dX6_play_82 : decode cX6_play 82 = .ok (.iload 6, 2) := by decide +kernel
theorem dX6_play_84 : decode cX6_play 84 = .ok (.ifCond .eq 8, 3) := by decide +kernel
theorem dX6_play_87 : decode cX6_play 87 = .ok (.iload 8, 2) := by decide +kernel
theorem dX6_play_89 : decode cX6_play 89 = .ok (.goto 4, 3) := by decide +kernel
theorem dX6_play_92 : decode cX6_play 92 = .ok (.iconst 0, 1) := by decide +kernel
theorem dX6_play_93 : decode cX6_play 93 = .ok (.iadd, 1) := by decide +kernel
theorem dX6_play_94 : decode cX6_play 94 = .ok (.bipush 9, 2) := by decide +kernel
theorem dX6_play_96 : decode cX6_play 96 = .ok (.invokestatic 280, 3) := by decide +kernel
theorem dX6_play_99 : decode cX6_play 99 = .ok (.iastore, 1) := by decide +kernel
theorem dX6_play_100 : decode cX6_play 100 = .ok (.aload_n 0, 1) := by decide +kernel
theorem dX6_play_101 : decode cX6_play 101 = .ok (.getfield 16, 3) := by decide +kernel
theorem dX6_play_104 : decode cX6_play 104 = .ok (.getfield 119, 3) := by decide +kernel
theorem dX6_play_107 : decode cX6_play 107 = .ok (.iload_n 2, 1) := by decide +kernel
theorem dX6_play_108 : decode cX6_play 108 = .ok (.iload 6, 2) := by decide +kernel
theorem dX6_play_110 : decode cX6_play 110 = .ok (.ifCond .eq 7, 3) := by decide +kernel
theorem dX6_play_113 : decode cX6_play 113 = .ok (.iconst 0, 1) := by decide +kernel
theorem dX6_play_114 : decode cX6_play 114 = .ok (.goto 5, 3) := by decide +kernel
theorem dX6_play_117 : decode cX6_play 117 = .ok (.iload 8, 2) := by decide +kernel
theorem dX6_play_119 : decode cX6_play 119 = .ok (.iload 5, 2) := by decide +kernel
theorem dX6_play_121 : decode cX6_play 121 = .ok (.ifCond .eq 8, 3) := by decide +kernel
theorem dX6_play_124 : decode cX6_play 124 = .ok (.iload 7, 2) := by decide +kernel
theorem dX6_play_126 : decode cX6_play 126 = .ok (.goto 4, 3) := by decide +kernel
theorem dX6_play_129 : decode cX6_play 129 = .ok (.iconst 0, 1) := by decide +kernel
theorem dX6_play_130 : decode cX6_play 130 = .ok (.iadd, 1) := by decide +kernel
theorem dX6_play_131 : decode cX6_play 131 = .ok (.bipush 9, 2) := by decide +kernel
theorem dX6_play_133 : decode cX6_play 133 = .ok (.invokestatic 280, 3) := by decide +kernel
theorem dX6_play_136 : decode cX6_play 136 = .ok (.iastore, 1) := by decide +kernel
theorem dX6_play_137 : decode cX6_play 137 = .ok (.aload_n 0, 1) := by decide +kernel
theorem dX6_play_138 : decode cX6_play 138 = .ok (.getfield 50, 3) := by decide +kernel
theorem dX6_play_141 : decode cX6_play 141 = .ok (.iload 4, 2) := by decide +kernel
theorem dX6_play_143 : decode cX6_play 143 = .ok (.iload 5, 2) := by decide +kernel
theorem dX6_play_145 : decode cX6_play 145 = .ok (.ifCond .eq 7, 3) := by decide +kernel
theorem dX6_play_148 : decode cX6_play 148 = .ok (.iconst 2, 1) := by decide +kernel
theorem dX6_play_149 : decode cX6_play 149 = .ok (.goto 4, 3) := by decide +kernel
theorem dX6_play_152 : decode cX6_play 152 = .ok (.iconst 0, 1) := by decide +kernel
theorem dX6_play_153 : decode cX6_play 153 = .ok (.iastore, 1) := by decide +kernel
theorem dX6_play_154 : decode cX6_play 154 = .ok (.aload_n 0, 1) := by decide +kernel
theorem dX6_play_155 : decode cX6_play 155 = .ok (.getfield 53, 3) := by decide +kernel
theorem dX6_play_158 : decode cX6_play 158 = .ok (.iload 4, 2) := by decide +kernel
theorem dX6_play_160 : decode cX6_play 160 = .ok (.iload 6, 2) := by decide +kernel
theorem dX6_play_162 : decode cX6_play 162 = .ok (.ifCond .eq 7, 3) := by decide +kernel
theorem dX6_play_165 : decode cX6_play 165 = .ok (.iconst 2, 1) := by decide +kernel
theorem dX6_play_166 : decode cX6_play 166 = .ok (.goto 4, 3) := by decide +kernel
theorem dX6_play_169 : decode cX6_play 169 = .ok (.iconst 0, 1) := by decide +kernel
theorem dX6_play_170 : decode cX6_play 170 = .ok (.iastore, 1) := by decide +kernel
theorem dX6_play_171 : decode cX6_play 171 = .ok (.iconst 0, 1) := by decide +kernel
theorem dX6_play_172 : decode cX6_play 172 = .ok (.istore 9, 2) := by decide +kernel
theorem dX6_play_174 : decode cX6_play 174 = .ok (.iload 9, 2) := by decide +kernel
theorem dX6_play_176 : decode cX6_play 176 = .ok (.iload_n 3, 1) := by decide +kernel
theorem dX6_play_177 : decode cX6_play 177 = .ok (.if_icmp .ge 69, 3) := by decide +kernel
theorem dX6_play_180 : decode cX6_play 180 = .ok (.aload_n 0, 1) := by decide +kernel
theorem dX6_play_181 : decode cX6_play 181 = .ok (.getfield 16, 3) := by decide +kernel
theorem dX6_play_184 : decode cX6_play 184 = .ok (.iconst 1, 1) := by decide +kernel
theorem dX6_play_185 : decode cX6_play 185 = .ok (.invokevirtual 195, 3) := by decide +kernel
theorem dX6_play_188 : decode cX6_play 188 = .ok (.aload_n 0, 1) := by decide +kernel
theorem dX6_play_189 : decode cX6_play 189 = .ok (.getfield 50, 3) := by decide +kernel
theorem dX6_play_192 : decode cX6_play 192 = .ok (.iload 4, 2) := by decide +kernel
theorem dX6_play_194 : decode cX6_play 194 = .ok (.dup2, 1) := by decide +kernel
theorem dX6_play_195 : decode cX6_play 195 = .ok (.iaload, 1) := by decide +kernel
theorem dX6_play_196 : decode cX6_play 196 = .ok (.aload_n 0, 1) := by decide +kernel
theorem dX6_play_197 : decode cX6_play 197 = .ok (.getfield 16, 3) := by decide +kernel
theorem dX6_play_200 : decode cX6_play 200 = .ok (.iload_n 1, 1) := by decide +kernel
theorem dX6_play_201 : decode cX6_play 201 = .ok (.invokevirtual 122, 3) := by decide +kernel
theorem dX6_play_204 : decode cX6_play 204 = .ok (.ifCond .eq 7, 3) := by decide +kernel
theorem dX6_play_207 : decode cX6_play 207 = .ok (.iconst 1, 1) := by decide +kernel
theorem dX6_play_208 : decode cX6_play 208 = .ok (.goto 4, 3) := by decide +kernel
theorem dX6_play_211 : decode cX6_play 211 = .ok (.iconst 0, 1) := by decide +kernel
theorem dX6_play_212 : decode cX6_play 212 = .ok (.iadd, 1) := by decide +kernel
theorem dX6_play_213 : decode cX6_play 213 = .ok (.iastore, 1) := by decide +kernel
theorem dX6_play_214 : decode cX6_play 214 = .ok (.aload_n 0, 1) := by decide +kernel
theorem dX6_play_215 : decode cX6_play 215 = .ok (.getfield 53, 3) := by decide +kernel
theorem dX6_play_218 : decode cX6_play 218 = .ok (.iload 4, 2) := by decide +kernel
theorem dX6_play_220 : decode cX6_play 220 = .ok (.dup2, 1) := by decide +kernel
theorem dX6_play_221 : decode cX6_play 221 = .ok (.iaload, 1) := by decide +kernel
theorem dX6_play_222 : decode cX6_play 222 = .ok (.aload_n 0, 1) := by decide +kernel
theorem dX6_play_223 : decode cX6_play 223 = .ok (.getfield 16, 3) := by decide +kernel
theorem dX6_play_226 : decode cX6_play 226 = .ok (.iload_n 2, 1) := by decide +kernel
theorem dX6_play_227 : decode cX6_play 227 = .ok (.invokevirtual 122, 3) := by decide +kernel
theorem dX6_play_230 : decode cX6_play 230 = .ok (.ifCond .eq 7, 3) := by decide +kernel
theorem dX6_play_233 : decode cX6_play 233 = .ok (.iconst 1, 1) := by decide +kernel
theorem dX6_play_234 : decode cX6_play 234 = .ok (.goto 4, 3) := by decide +kernel
theorem dX6_play_237 : decode cX6_play 237 = .ok (.iconst 0, 1) := by decide +kernel
theorem dX6_play_238 : decode cX6_play 238 = .ok (.iadd, 1) := by decide +kernel
theorem dX6_play_239 : decode cX6_play 239 = .ok (.iastore, 1) := by decide +kernel
theorem dX6_play_240 : decode cX6_play 240 = .ok (.iinc 9 1, 3) := by decide +kernel
theorem dX6_play_243 : decode cX6_play 243 = .ok (.goto (-69), 3) := by decide +kernel
theorem dX6_play_246 : decode cX6_play 246 = .ok (.return_, 1) := by decide +kernel
theorem dX6_isOnBehind_0 : decode cX6_isOnBehind 0 = .ok (.aload_n 0, 1) := by decide +kernel
theorem dX6_isOnBehind_1 : decode cX6_isOnBehind 1 = .ok (.getfield 16, 3) := by decide +kernel
theorem dX6_isOnBehind_4 : decode cX6_isOnBehind 4 = .ok (.aload_n 0, 1) := by decide +kernel
theorem dX6_isOnBehind_5 : decode cX6_isOnBehind 5 = .ok (.getfield 10, 3) := by decide +kernel
theorem dX6_isOnBehind_8 : decode cX6_isOnBehind 8 = .ok (.invokevirtual 74, 3) := by decide +kernel
theorem dX6_isOnBehind_11 : decode cX6_isOnBehind 11 = .ok (.iconst 0, 1) := by decide +kernel
theorem dX6_isOnBehind_12 : decode cX6_isOnBehind 12 = .ok (.istore 4, 2) := by decide +kernel
theorem dX6_isOnBehind_14 : decode cX6_isOnBehind 14 = .ok (.iload 4, 2) := by decide +kernel
theorem dX6_isOnBehind_16 : decode cX6_isOnBehind 16 = .ok (.iload_n 2, 1) := by decide +kernel
theorem dX6_isOnBehind_17 : decode cX6_isOnBehind 17 = .ok (.if_icmp .ge 48, 3) := by decide +kernel
theorem dX6_isOnBehind_20 : decode cX6_isOnBehind 20 = .ok (.aload_n 0, 1) := by decide +kernel
theorem dX6_isOnBehind_21 : decode cX6_isOnBehind 21 = .ok (.getfield 16, 3) := by decide +kernel
theorem dX6_isOnBehind_24 : decode cX6_isOnBehind 24 = .ok (.iload_n 1, 1) := by decide +kernel
theorem dX6_isOnBehind_25 : decode cX6_isOnBehind 25 = .ok (.invokevirtual 122, 3) := by decide +kernel
theorem dX6_isOnBehind_28 : decode cX6_isOnBehind 28 = .ok (.ifCond .eq 37, 3) := by decide +kernel
theorem dX6_isOnBehind_31 : decode cX6_isOnBehind 31 = .ok (.iload_n 3, 1) := by decide +kernel
theorem dX6_isOnBehind_32 : decode cX6_isOnBehind 32 = .ok (.iload 4, 2) := by decide +kernel
theorem dX6_isOnBehind_34 : decode cX6_isOnBehind 34 = .ok (.ishr, 1) := by decide +kernel
theorem dX6_isOnBehind_35 : decode cX6_isOnBehind 35 = .ok (.iconst 1, 1) := by decide +kernel
theorem dX6_isOnBehind_36 : decode cX6_isOnBehind 36 = .ok (.iand, 1) := by decide +kernel
theorem dX6_isOnBehind_37 : decode cX6_isOnBehind 37 = .ok (.iconst 1, 1) := by decide +kernel
theorem dX6_isOnBehind_38 : decode cX6_isOnBehind 38 = .ok (.if_icmp .ne 13, 3) := by decide +kernel
theorem dX6_isOnBehind_41 : decode cX6_isOnBehind 41 = .ok (.aload_n 0, 1) := by decide +kernel
theorem dX6_isOnBehind_42 : decode cX6_isOnBehind 42 = .ok (.getfield 16, 3) := by decide +kernel
theorem dX6_isOnBehind_45 : decode cX6_isOnBehind 45 = .ok (.invokevirtual 316, 3) := by decide +kernel
theorem dX6_isOnBehind_48 : decode cX6_isOnBehind 48 = .ok (.goto 11, 3) := by decide +kernel
theorem dX6_isOnBehind_51 : decode cX6_isOnBehind 51 = .ok (.aload_n 0, 1) := by decide +kernel
theorem dX6_isOnBehind_52 : decode cX6_isOnBehind 52 = .ok (.getfield 16, 3) := by decide +kernel
theorem dX6_isOnBehind_55 : decode cX6_isOnBehind 55 = .ok (.iconst 1, 1) := by decide +kernel
theorem dX6_isOnBehind_56 : decode cX6_isOnBehind 56 = .ok (.invokevirtual 195, 3) := by decide +kernel
theorem dX6_isOnBehind_59 : decode cX6_isOnBehind 59 = .ok (.iinc 4 1, 3) := by decide +kernel
theorem dX6_isOnBehind_62 : decode cX6_isOnBehind 62 = .ok (.goto (-48), 3) := by decide +kernel
theorem dX6_isOnBehind_65 : decode cX6_isOnBehind 65 = .ok (.aload_n 0, 1) := by decide +kernel
theorem dX6_isOnBehind_66 : decode cX6_isOnBehind 66 = .ok (.getfield 16, 3) := by decide +kernel
theorem dX6_isOnBehind_69 : decode cX6_isOnBehind 69 = .ok (.iload_n 1, 1) := by decide +kernel
theorem dX6_isOnBehind_70 : decode cX6_isOnBehind 70 = .ok (.invokevirtual 122, 3) := by decide +kernel
theorem dX6_isOnBehind_73 : decode cX6_isOnBehind 73 = .ok (.ireturn, 1) := by decide +kernel
theorem dX6_coldestCell_0 : decode cX6_coldestCell 0 = .ok (.iconst 0, 1) := by decide +kernel
theorem dX6_coldestCell_1 : decode cX6_coldestCell 1 = .ok (.istore_n 1, 1) := by decide +kernel
theorem dX6_coldestCell_2 : decode cX6_coldestCell 2 = .ok (.iconst 1, 1) := by decide +kernel
theorem dX6_coldestCell_3 : decode cX6_coldestCell 3 = .ok (.istore_n 2, 1) := by decide +kernel
theorem dX6_coldestCell_4 : decode cX6_coldestCell 4 = .ok (.iload_n 2, 1) := by decide +kernel
theorem dX6_coldestCell_5 : decode cX6_coldestCell 5 = .ok (.bipush 36, 2) := by decide +kernel
theorem dX6_coldestCell_7 : decode cX6_coldestCell 7 = .ok (.if_icmp .ge 33, 3) := by decide +kernel
theorem dX6_coldestCell_10 : decode cX6_coldestCell 10 = .ok (.aload_n 0, 1) := by decide +kernel
theorem dX6_coldestCell_11 : decode cX6_coldestCell 11 = .ok (.getfield 10, 3) := by decide +kernel
theorem dX6_coldestCell_14 : decode cX6_coldestCell 14 = .ok (.getfield 140, 3) := by decide +kernel
theorem dX6_coldestCell_17 : decode cX6_coldestCell 17 = .ok (.iload_n 2, 1) := by decide +kernel
theorem dX6_coldestCell_18 : decode cX6_coldestCell 18 = .ok (.faload, 1) := by decide +kernel
theorem dX6_coldestCell_19 : decode cX6_coldestCell 19 = .ok (.aload_n 0, 1) := by decide +kernel
theorem dX6_coldestCell_20 : decode cX6_coldestCell 20 = .ok (.getfield 10, 3) := by decide +kernel
theorem dX6_coldestCell_23 : decode cX6_coldestCell 23 = .ok (.getfield 140, 3) := by decide +kernel
theorem dX6_coldestCell_26 : decode cX6_coldestCell 26 = .ok (.iload_n 1, 1) := by decide +kernel
theorem dX6_coldestCell_27 : decode cX6_coldestCell 27 = .ok (.faload, 1) := by decide +kernel
theorem dX6_coldestCell_28 : decode cX6_coldestCell 28 = .ok (.fcmp .g, 1) := by decide +kernel
theorem dX6_coldestCell_29 : decode cX6_coldestCell 29 = .ok (.ifCond .ge 5, 3) := by decide +kernel
theorem dX6_coldestCell_32 : decode cX6_coldestCell 32 = .ok (.iload_n 2, 1) := by decide +kernel
theorem dX6_coldestCell_33 : decode cX6_coldestCell 33 = .ok (.istore_n 1, 1) := by decide +kernel
theorem dX6_coldestCell_34 : decode cX6_coldestCell 34 = .ok (.iinc 2 1, 3) := by decide +kernel
theorem dX6_coldestCell_37 : decode cX6_coldestCell 37 = .ok (.goto (-33), 3) := by decide +kernel
theorem dX6_coldestCell_40 : decode cX6_coldestCell 40 = .ok (.iload_n 1, 1) := by decide +kernel
theorem dX6_coldestCell_41 : decode cX6_coldestCell 41 = .ok (.ireturn, 1) := by decide +kernel
theorem dX6_distance_0 : decode cX6_distance 0 = .ok (.iload_n 0, 1) := by decide +kernel
theorem dX6_distance_1 : decode cX6_distance 1 = .ok (.bipush 6, 2) := by decide +kernel
theorem dX6_distance_3 : decode cX6_distance 3 = .ok (.idiv, 1) := by decide +kernel
theorem dX6_distance_4 : decode cX6_distance 4 = .ok (.iload_n 1, 1) := by decide +kernel
theorem dX6_distance_5 : decode cX6_distance 5 = .ok (.bipush 6, 2) := by decide +kernel
theorem dX6_distance_7 : decode cX6_distance 7 = .ok (.idiv, 1) := by decide +kernel
theorem dX6_distance_8 : decode cX6_distance 8 = .ok (.isub, 1) := by decide +kernel
theorem dX6_distance_9 : decode cX6_distance 9 = .ok (.invokestatic 319, 3) := by decide +kernel
theorem dX6_distance_12 : decode cX6_distance 12 = .ok (.iload_n 0, 1) := by decide +kernel
theorem dX6_distance_13 : decode cX6_distance 13 = .ok (.bipush 6, 2) := by decide +kernel
theorem dX6_distance_15 : decode cX6_distance 15 = .ok (.irem, 1) := by decide +kernel
theorem dX6_distance_16 : decode cX6_distance 16 = .ok (.iload_n 1, 1) := by decide +kernel
theorem dX6_distance_17 : decode cX6_distance 17 = .ok (.bipush 6, 2) := by decide +kernel
theorem dX6_distance_19 : decode cX6_distance 19 = .ok (.irem, 1) := by decide +kernel
theorem dX6_distance_20 : decode cX6_distance 20 = .ok (.isub, 1) := by decide +kernel
theorem dX6_distance_21 : decode cX6_distance 21 = .ok (.invokestatic 319, 3) := by decide +kernel
theorem dX6_distance_24 : decode cX6_distance 24 = .ok (.iadd, 1) := by decide +kernel
theorem dX6_distance_25 : decode cX6_distance 25 = .ok (.ireturn, 1) := by decide +kernel
theorem dX6_power_0 : decode cX6_power 0 = .ok (.lconst 1, 1) := by decide +kernel
theorem dX6_power_1 : decode cX6_power 1 = .ok (.lstore_n 2, 1) := by decide +kernel
theorem dX6_power_2 : decode cX6_power 2 = .ok (.iconst 0, 1) := by decide +kernel
theorem dX6_power_3 : decode cX6_power 3 = .ok (.istore 4, 2) := by decide +kernel
theorem dX6_power_5 : decode cX6_power 5 = .ok (.iload 4, 2) := by decide +kernel
theorem dX6_power_7 : decode cX6_power 7 = .ok (.iload_n 1, 1) := by decide +kernel
theorem dX6_power_8 : decode cX6_power 8 = .ok (.if_icmp .ge 14, 3) := by decide +kernel
theorem dX6_power_11 : decode cX6_power 11 = .ok (.lload_n 2, 1) := by decide +kernel
theorem dX6_power_12 : decode cX6_power 12 = .ok (.iload_n 0, 1) := by decide +kernel
theorem dX6_power_13 : decode cX6_power 13 = .ok (.i2l, 1) := by decide +kernel
theorem dX6_power_14 : decode cX6_power 14 = .ok (.lmul, 1) := by decide +kernel
theorem dX6_power_15 : decode cX6_power 15 = .ok (.lstore_n 2, 1) := by decide +kernel
theorem dX6_power_16 : decode cX6_power 16 = .ok (.iinc 4 1, 3) := by decide +kernel
theorem dX6_power_19 : decode cX6_power 19 = .ok (.goto (-14), 3) := by decide +kernel
theorem dX6_power_22 : decode cX6_power 22 = .ok (.lload_n 2, 1) := by decide +kernel
theorem dX6_power_23 : decode cX6_power 23 = .ok (.lreturn, 1) := by decide +kernel
theorem dX6_commonDivisor_0 : decode cX6_commonDivisor 0 = .ok (.lload_n 0, 1) := by decide +kernel
theorem dX6_commonDivisor_1 : decode cX6_commonDivisor 1 = .ok (.lstore 4, 2) := by decide +kernel
theorem dX6_commonDivisor_3 : decode cX6_commonDivisor 3 = .ok (.lload_n 2, 1) := by decide +kernel
theorem dX6_commonDivisor_4 : decode cX6_commonDivisor 4 = .ok (.lstore 6, 2) := by decide +kernel
theorem dX6_commonDivisor_6 : decode cX6_commonDivisor 6 = .ok (.iconst 0, 1) := by decide +kernel
theorem dX6_commonDivisor_7 : decode cX6_commonDivisor 7 = .ok (.istore 8, 2) := by decide +kernel
theorem dX6_commonDivisor_9 : decode cX6_commonDivisor 9 = .ok (.iload 8, 2) := by decide +kernel
theorem dX6_commonDivisor_11 : decode cX6_commonDivisor 11 = .ok (.bipush 100, 2) := by decide +kernel
theorem dX6_commonDivisor_13 : decode cX6_commonDivisor 13 = .ok (.if_icmp .ge 31, 3) := by decide +kernel
theorem dX6_commonDivisor_16 : decode cX6_commonDivisor 16 = .ok (.lload 6, 2) := by decide +kernel
theorem dX6_commonDivisor_18 : decode cX6_commonDivisor 18 = .ok (.lconst 0, 1) := by decide +kernel
theorem dX6_commonDivisor_19 : decode cX6_commonDivisor 19 = .ok (.lcmp, 1) := by decide +kernel
theorem dX6_commonDivisor_20 : decode cX6_commonDivisor 20 = .ok (.ifCond .eq 24, 3) := by decide +kernel
theorem dX6_commonDivisor_23 : decode cX6_commonDivisor 23 = .ok (.lload 4, 2) := by decide +kernel
theorem dX6_commonDivisor_25 : decode cX6_commonDivisor 25 = .ok (.lload 6, 2) := by decide +kernel
theorem dX6_commonDivisor_27 : decode cX6_commonDivisor 27 = .ok (.lrem, 1) := by decide +kernel
theorem dX6_commonDivisor_28 : decode cX6_commonDivisor 28 = .ok (.lstore 9, 2) := by decide +kernel
theorem dX6_commonDivisor_30 : decode cX6_commonDivisor 30 = .ok (.lload 6, 2) := by decide +kernel
theorem dX6_commonDivisor_32 : decode cX6_commonDivisor 32 = .ok (.lstore 4, 2) := by decide +kernel
theorem dX6_commonDivisor_34 : decode cX6_commonDivisor 34 = .ok (.lload 9, 2) := by decide +kernel
theorem dX6_commonDivisor_36 : decode cX6_commonDivisor 36 = .ok (.lstore 6, 2) := by decide +kernel
theorem dX6_commonDivisor_38 : decode cX6_commonDivisor 38 = .ok (.iinc 8 1, 3) := by decide +kernel
theorem dX6_commonDivisor_41 : decode cX6_commonDivisor 41 = .ok (.goto (-32), 3) := by decide +kernel
theorem dX6_commonDivisor_44 : decode cX6_commonDivisor 44 = .ok (.lload 4, 2) := by decide +kernel
theorem dX6_commonDivisor_46 : decode cX6_commonDivisor 46 = .ok (.lreturn, 1) := by decide +kernel
theorem dX6_bitsOf_0 : decode cX6_bitsOf 0 = .ok (.fload_n 0, 1) := by decide +kernel
theorem dX6_bitsOf_1 : decode cX6_bitsOf 1 = .ok (.fconst 0, 1) := by decide +kernel
theorem dX6_bitsOf_2 : decode cX6_bitsOf 2 = .ok (.fcmp .l, 1) := by decide +kernel
theorem dX6_bitsOf_3 : decode cX6_bitsOf 3 = .ok (.ifCond .ne 19, 3) := by decide +kernel
theorem dX6_bitsOf_6 : decode cX6_bitsOf 6 = .ok (.fconst 1, 1) := by decide +kernel
theorem dX6_bitsOf_7 : decode cX6_bitsOf 7 = .ok (.fload_n 0, 1) := by decide +kernel
theorem dX6_bitsOf_8 : decode cX6_bitsOf 8 = .ok (.fdiv, 1) := by decide +kernel
theorem dX6_bitsOf_9 : decode cX6_bitsOf 9 = .ok (.fconst 0, 1) := by decide +kernel
theorem dX6_bitsOf_10 : decode cX6_bitsOf 10 = .ok (.fcmp .g, 1) := by decide +kernel
theorem dX6_bitsOf_11 : decode cX6_bitsOf 11 = .ok (.ifCond .ge 9, 3) := by decide +kernel
theorem dX6_bitsOf_14 : decode cX6_bitsOf 14 = .ok (.ldc_w 322, 3) := by decide +kernel
theorem dX6_bitsOf_17 : decode cX6_bitsOf 17 = .ok (.goto 4, 3) := by decide +kernel
theorem dX6_bitsOf_20 : decode cX6_bitsOf 20 = .ok (.iconst 0, 1) := by decide +kernel
theorem dX6_bitsOf_21 : decode cX6_bitsOf 21 = .ok (.ireturn, 1) := by decide +kernel
theorem dX6_bitsOf_22 : decode cX6_bitsOf 22 = .ok (.fload_n 0, 1) := by decide +kernel
theorem dX6_bitsOf_23 : decode cX6_bitsOf 23 = .ok (.fconst 0, 1) := by decide +kernel
theorem dX6_bitsOf_24 : decode cX6_bitsOf 24 = .ok (.fcmp .g, 1) := by decide +kernel
theorem dX6_bitsOf_25 : decode cX6_bitsOf 25 = .ok (.ifCond .ge 9, 3) := by decide +kernel
theorem dX6_bitsOf_28 : decode cX6_bitsOf 28 = .ok (.ldc_w 322, 3) := by decide +kernel
theorem dX6_bitsOf_31 : decode cX6_bitsOf 31 = .ok (.goto 4, 3) := by decide +kernel
theorem dX6_bitsOf_34 : decode cX6_bitsOf 34 = .ok (.iconst 0, 1) := by decide +kernel
theorem dX6_bitsOf_35 : decode cX6_bitsOf 35 = .ok (.istore_n 1, 1) := by decide +kernel
theorem dX6_bitsOf_36 : decode cX6_bitsOf 36 = .ok (.fload_n 0, 1) := by decide +kernel
theorem dX6_bitsOf_37 : decode cX6_bitsOf 37 = .ok (.fconst 0, 1) := by decide +kernel
theorem dX6_bitsOf_38 : decode cX6_bitsOf 38 = .ok (.fcmp .g, 1) := by decide +kernel
theorem dX6_bitsOf_39 : decode cX6_bitsOf 39 = .ok (.ifCond .ge 8, 3) := by decide +kernel
theorem dX6_bitsOf_42 : decode cX6_bitsOf 42 = .ok (.fload_n 0, 1) := by decide +kernel
theorem dX6_bitsOf_43 : decode cX6_bitsOf 43 = .ok (.fneg, 1) := by decide +kernel
theorem dX6_bitsOf_44 : decode cX6_bitsOf 44 = .ok (.goto 4, 3) := by decide +kernel
theorem dX6_bitsOf_47 : decode cX6_bitsOf 47 = .ok (.fload_n 0, 1) := by decide +kernel
theorem dX6_bitsOf_48 : decode cX6_bitsOf 48 = .ok (.fstore_n 2, 1) := by decide +kernel
theorem dX6_bitsOf_49 : decode cX6_bitsOf 49 = .ok (.bipush 127, 2) := by decide +kernel
theorem dX6_bitsOf_51 : decode cX6_bitsOf 51 = .ok (.istore_n 3, 1) := by decide +kernel
theorem dX6_bitsOf_52 : decode cX6_bitsOf 52 = .ok (.iconst 0, 1) := by decide +kernel
theorem dX6_bitsOf_53 : decode cX6_bitsOf 53 = .ok (.istore 4, 2) := by decide +kernel
theorem dX6_bitsOf_55 : decode cX6_bitsOf 55 = .ok (.iload 4, 2) := by decide +kernel
theorem dX6_bitsOf_57 : decode cX6_bitsOf 57 = .ok (.bipush 127, 2) := by decide +kernel
theorem dX6_bitsOf_59 : decode cX6_bitsOf 59 = .ok (.if_icmp .ge 24, 3) := by decide +kernel
theorem dX6_bitsOf_62 : decode cX6_bitsOf 62 = .ok (.fload_n 2, 1) := by decide +kernel
theorem dX6_bitsOf_63 : decode cX6_bitsOf 63 = .ok (.fconst 2, 1) := by decide +kernel
theorem dX6_bitsOf_64 : decode cX6_bitsOf 64 = .ok (.fcmp .l, 1) := by decide +kernel
theorem dX6_bitsOf_65 : decode cX6_bitsOf 65 = .ok (.ifCond .lt 18, 3) := by decide +kernel
theorem dX6_bitsOf_68 : decode cX6_bitsOf 68 = .ok (.fload_n 2, 1) := by decide +kernel
theorem dX6_bitsOf_69 : decode cX6_bitsOf 69 = .ok (.ldc_w 323, 3) := by decide +kernel
theorem dX6_bitsOf_72 : decode cX6_bitsOf 72 = .ok (.fmul, 1) := by decide +kernel
theorem dX6_bitsOf_73 : decode cX6_bitsOf 73 = .ok (.fstore_n 2, 1) := by decide +kernel
theorem dX6_bitsOf_74 : decode cX6_bitsOf 74 = .ok (.iinc 3 1, 3) := by decide +kernel
theorem dX6_bitsOf_77 : decode cX6_bitsOf 77 = .ok (.iinc 4 1, 3) := by decide +kernel
theorem dX6_bitsOf_80 : decode cX6_bitsOf 80 = .ok (.goto (-25), 3) := by decide +kernel
theorem dX6_bitsOf_83 : decode cX6_bitsOf 83 = .ok (.iconst 0, 1) := by decide +kernel
theorem dX6_bitsOf_84 : decode cX6_bitsOf 84 = .ok (.istore 4, 2) := by decide +kernel
theorem dX6_bitsOf_86 : decode cX6_bitsOf 86 = .ok (.iload 4, 2) := by decide +kernel
theorem dX6_bitsOf_88 : decode cX6_bitsOf 88 = .ok (.bipush 126, 2) := by decide +kernel
theorem dX6_bitsOf_90 : decode cX6_bitsOf 90 = .ok (.if_icmp .ge 22, 3) := by decide +kernel
theorem dX6_bitsOf_93 : decode cX6_bitsOf 93 = .ok (.fload_n 2, 1) := by decide +kernel
theorem dX6_bitsOf_94 : decode cX6_bitsOf 94 = .ok (.fconst 1, 1) := by decide +kernel
theorem dX6_bitsOf_95 : decode cX6_bitsOf 95 = .ok (.fcmp .g, 1) := by decide +kernel
theorem dX6_bitsOf_96 : decode cX6_bitsOf 96 = .ok (.ifCond .ge 16, 3) := by decide +kernel
theorem dX6_bitsOf_99 : decode cX6_bitsOf 99 = .ok (.fload_n 2, 1) := by decide +kernel
theorem dX6_bitsOf_100 : decode cX6_bitsOf 100 = .ok (.fconst 2, 1) := by decide +kernel
theorem dX6_bitsOf_101 : decode cX6_bitsOf 101 = .ok (.fmul, 1) := by decide +kernel
theorem dX6_bitsOf_102 : decode cX6_bitsOf 102 = .ok (.fstore_n 2, 1) := by decide +kernel
theorem dX6_bitsOf_103 : decode cX6_bitsOf 103 = .ok (.iinc 3 (-1), 3) := by decide +kernel
theorem dX6_bitsOf_106 : decode cX6_bitsOf 106 = .ok (.iinc 4 1, 3) := by decide +kernel
theorem dX6_bitsOf_109 : decode cX6_bitsOf 109 = .ok (.goto (-23), 3) := by decide +kernel
theorem dX6_bitsOf_112 : decode cX6_bitsOf 112 = .ok (.fload_n 2, 1) := by decide +kernel
theorem dX6_bitsOf_113 : decode cX6_bitsOf 113 = .ok (.fconst 1, 1) := by decide +kernel
theorem dX6_bitsOf_114 : decode cX6_bitsOf 114 = .ok (.fcmp .g, 1) := by decide +kernel
theorem dX6_bitsOf_115 : decode cX6_bitsOf 115 = .ok (.ifCond .ge 12, 3) := by decide +kernel
theorem dX6_bitsOf_118 : decode cX6_bitsOf 118 = .ok (.iload_n 1, 1) := by decide +kernel
theorem dX6_bitsOf_119 : decode cX6_bitsOf 119 = .ok (.fload_n 2, 1) := by decide +kernel
theorem dX6_bitsOf_120 : decode cX6_bitsOf 120 = .ok (.ldc_w 324, 3) := by decide +kernel
theorem dX6_bitsOf_123 : decode cX6_bitsOf 123 = .ok (.fmul, 1) := by decide +kernel
theorem dX6_bitsOf_124 : decode cX6_bitsOf 124 = .ok (.f2i, 1) := by decide +kernel
theorem dX6_bitsOf_125 : decode cX6_bitsOf 125 = .ok (.ior, 1) := by decide +kernel
theorem dX6_bitsOf_126 : decode cX6_bitsOf 126 = .ok (.ireturn, 1) := by decide +kernel
theorem dX6_bitsOf_127 : decode cX6_bitsOf 127 = .ok (.iload_n 1, 1) := by decide +kernel
theorem dX6_bitsOf_128 : decode cX6_bitsOf 128 = .ok (.iload_n 3, 1) := by decide +kernel
theorem dX6_bitsOf_129 : decode cX6_bitsOf 129 = .ok (.bipush 23, 2) := by decide +kernel
theorem dX6_bitsOf_131 : decode cX6_bitsOf 131 = .ok (.ishl, 1) := by decide +kernel
theorem dX6_bitsOf_132 : decode cX6_bitsOf 132 = .ok (.ior, 1) := by decide +kernel
theorem dX6_bitsOf_133 : decode cX6_bitsOf 133 = .ok (.fload_n 2, 1) := by decide +kernel
theorem dX6_bitsOf_134 : decode cX6_bitsOf 134 = .ok (.fconst 1, 1) := by decide +kernel
theorem dX6_bitsOf_135 : decode cX6_bitsOf 135 = .ok (.fsub, 1) := by decide +kernel
theorem dX6_bitsOf_136 : decode cX6_bitsOf 136 = .ok (.ldc_w 324, 3) := by decide +kernel
theorem dX6_bitsOf_139 : decode cX6_bitsOf 139 = .ok (.fmul, 1) := by decide +kernel
theorem dX6_bitsOf_140 : decode cX6_bitsOf 140 = .ok (.f2i, 1) := by decide +kernel
theorem dX6_bitsOf_141 : decode cX6_bitsOf 141 = .ok (.ior, 1) := by decide +kernel
theorem dX6_bitsOf_142 : decode cX6_bitsOf 142 = .ok (.ireturn, 1) := by decide +kernel
