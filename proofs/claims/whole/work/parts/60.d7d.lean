theorem dX7_shut_95 : decode cX7_shut 95 = .ok (.iconst 1, 1) := by decide +kernel
theorem dX7_shut_96 : decode cX7_shut 96 = .ok (.iastore, 1) := by decide +kernel
theorem dX7_shut_97 : decode cX7_shut 97 = .ok (.aload_n 0, 1) := by decide +kernel
theorem dX7_shut_98 : decode cX7_shut 98 = .ok (.iload_n 2, 1) := by decide +kernel
theorem dX7_shut_99 : decode cX7_shut 99 = .ok (.invokevirtual 263, 3) := by decide +kernel
theorem dX7_shut_102 : decode cX7_shut 102 = .ok (.aload_n 0, 1) := by decide +kernel
theorem dX7_shut_103 : decode cX7_shut 103 = .ok (.getfield 38, 3) := by decide +kernel
theorem dX7_shut_106 : decode cX7_shut 106 = .ok (.iload_n 1, 1) := by decide +kernel
theorem dX7_shut_107 : decode cX7_shut 107 = .ok (.iaload, 1) := by decide +kernel
theorem dX7_shut_108 : decode cX7_shut 108 = .ok (.iconst 1, 1) := by decide +kernel
theorem dX7_shut_109 : decode cX7_shut 109 = .ok (.if_icmp .ne 8, 3) := by decide +kernel
theorem dX7_shut_112 : decode cX7_shut 112 = .ok (.iload 5, 2) := by decide +kernel
theorem dX7_shut_114 : decode cX7_shut 114 = .ok (.goto 5, 3) := by decide +kernel
theorem dX7_shut_117 : decode cX7_shut 117 = .ok (.bipush (-9), 2) := by decide +kernel
theorem dX7_shut_119 : decode cX7_shut 119 = .ok (.istore 4, 2) := by decide +kernel
theorem dX7_shut_121 : decode cX7_shut 121 = .ok (.aload_n 0, 1) := by decide +kernel
theorem dX7_shut_122 : decode cX7_shut 122 = .ok (.invokevirtual 295, 3) := by decide +kernel
theorem dX7_shut_125 : decode cX7_shut 125 = .ok (.iinc 5 1, 3) := by decide +kernel
theorem dX7_shut_128 : decode cX7_shut 128 = .ok (.goto (-60), 3) := by decide +kernel
theorem dX7_shut_131 : decode cX7_shut 131 = .ok (.iload 4, 2) := by decide +kernel
theorem dX7_shut_133 : decode cX7_shut 133 = .ok (.ireturn, 1) := by decide +kernel
theorem dX7_most_0 : decode cX7_most 0 = .ok (.aload_n 0, 1) := by decide +kernel
theorem dX7_most_1 : decode cX7_most 1 = .ok (.iconst 0, 1) := by decide +kernel
theorem dX7_most_2 : decode cX7_most 2 = .ok (.putfield 114, 3) := by decide +kernel
theorem dX7_most_5 : decode cX7_most 5 = .ok (.iload_n 1, 1) := by decide +kernel
theorem dX7_most_6 : decode cX7_most 6 = .ok (.iconst 0, 1) := by decide +kernel
theorem dX7_most_7 : decode cX7_most 7 = .ok (.bipush 30, 2) := by decide +kernel
theorem dX7_most_9 : decode cX7_most 9 = .ok (.invokestatic 347, 3) := by decide +kernel
theorem dX7_most_12 : decode cX7_most 12 = .ok (.ifCond .ge 15, 3) := by decide +kernel
theorem dX7_most_15 : decode cX7_most 15 = .ok (.aload_n 0, 1) := by decide +kernel
theorem dX7_most_16 : decode cX7_most 16 = .ok (.iload_n 1, 1) := by decide +kernel
theorem dX7_most_17 : decode cX7_most 17 = .ok (.iconst 0, 1) := by decide +kernel
theorem dX7_most_18 : decode cX7_most 18 = .ok (.bipush 30, 2) := by decide +kernel
theorem dX7_most_20 : decode cX7_most 20 = .ok (.invokestatic 347, 3) := by decide +kernel
theorem dX7_most_23 : decode cX7_most 23 = .ok (.invokevirtual 219, 3) := by decide +kernel
theorem dX7_most_26 : decode cX7_most 26 = .ok (.ireturn, 1) := by decide +kernel
theorem dX7_most_27 : decode cX7_most 27 = .ok (.aload_n 0, 1) := by decide +kernel
theorem dX7_most_28 : decode cX7_most 28 = .ok (.invokevirtual 289, 3) := by decide +kernel
theorem dX7_most_31 : decode cX7_most 31 = .ok (.aload_n 0, 1) := by decide +kernel
theorem dX7_most_32 : decode cX7_most 32 = .ok (.iload_n 1, 1) := by decide +kernel
theorem dX7_most_33 : decode cX7_most 33 = .ok (.invokevirtual 263, 3) := by decide +kernel
theorem dX7_most_36 : decode cX7_most 36 = .ok (.aload_n 0, 1) := by decide +kernel
theorem dX7_most_37 : decode cX7_most 37 = .ok (.invokevirtual 352, 3) := by decide +kernel
theorem dX7_most_40 : decode cX7_most 40 = .ok (.invokestatic 363, 3) := by decide +kernel
theorem dX7_most_43 : decode cX7_most 43 = .ok (.istore_n 2, 1) := by decide +kernel
theorem dX7_most_44 : decode cX7_most 44 = .ok (.aload_n 0, 1) := by decide +kernel
theorem dX7_most_45 : decode cX7_most 45 = .ok (.invokevirtual 295, 3) := by decide +kernel
theorem dX7_most_48 : decode cX7_most 48 = .ok (.bipush (-9), 2) := by decide +kernel
theorem dX7_most_50 : decode cX7_most 50 = .ok (.istore_n 3, 1) := by decide +kernel
theorem dX7_most_51 : decode cX7_most 51 = .ok (.iconst 0, 1) := by decide +kernel
theorem dX7_most_52 : decode cX7_most 52 = .ok (.istore 4, 2) := by decide +kernel
theorem dX7_most_54 : decode cX7_most 54 = .ok (.iload 4, 2) := by decide +kernel
theorem dX7_most_56 : decode cX7_most 56 = .ok (.bipush 36, 2) := by decide +kernel
theorem dX7_most_58 : decode cX7_most 58 = .ok (.if_icmp .ge 70, 3) := by decide +kernel
theorem dX7_most_61 : decode cX7_most 61 = .ok (.aload_n 0, 1) := by decide +kernel
theorem dX7_most_62 : decode cX7_most 62 = .ok (.iload 4, 2) := by decide +kernel
theorem dX7_most_64 : decode cX7_most 64 = .ok (.invokevirtual 179, 3) := by decide +kernel
theorem dX7_most_67 : decode cX7_most 67 = .ok (.ifCond .eq 55, 3) := by decide +kernel
theorem dX7_most_70 : decode cX7_most 70 = .ok (.aload_n 0, 1) := by decide +kernel
theorem dX7_most_71 : decode cX7_most 71 = .ok (.getfield 13, 3) := by decide +kernel
theorem dX7_most_74 : decode cX7_most 74 = .ok (.iload 4, 2) := by decide +kernel
theorem dX7_most_76 : decode cX7_most 76 = .ok (.iconst 1, 1) := by decide +kernel
theorem dX7_most_77 : decode cX7_most 77 = .ok (.iastore, 1) := by decide +kernel
theorem dX7_most_78 : decode cX7_most 78 = .ok (.aload_n 0, 1) := by decide +kernel
theorem dX7_most_79 : decode cX7_most 79 = .ok (.iload_n 1, 1) := by decide +kernel
theorem dX7_most_80 : decode cX7_most 80 = .ok (.invokevirtual 263, 3) := by decide +kernel
theorem dX7_most_83 : decode cX7_most 83 = .ok (.aload_n 0, 1) := by decide +kernel
theorem dX7_most_84 : decode cX7_most 84 = .ok (.invokevirtual 352, 3) := by decide +kernel
theorem dX7_most_87 : decode cX7_most 87 = .ok (.invokestatic 363, 3) := by decide +kernel
theorem dX7_most_90 : decode cX7_most 90 = .ok (.istore 5, 2) := by decide +kernel
theorem dX7_most_92 : decode cX7_most 92 = .ok (.aload_n 0, 1) := by decide +kernel
theorem dX7_most_93 : decode cX7_most 93 = .ok (.invokevirtual 295, 3) := by decide +kernel
theorem dX7_most_96 : decode cX7_most 96 = .ok (.iload 5, 2) := by decide +kernel
theorem dX7_most_98 : decode cX7_most 98 = .ok (.iload_n 2, 1) := by decide +kernel
theorem dX7_most_99 : decode cX7_most 99 = .ok (.if_icmp .le 8, 3) := by decide +kernel
theorem dX7_most_102 : decode cX7_most 102 = .ok (.iload 4, 2) := by decide +kernel
theorem dX7_most_104 : decode cX7_most 104 = .ok (.goto 4, 3) := by decide +kernel
theorem dX7_most_107 : decode cX7_most 107 = .ok (.iload_n 3, 1) := by decide +kernel
theorem dX7_most_108 : decode cX7_most 108 = .ok (.istore_n 3, 1) := by decide +kernel
theorem dX7_most_109 : decode cX7_most 109 = .ok (.iload 5, 2) := by decide +kernel
theorem dX7_most_111 : decode cX7_most 111 = .ok (.iload_n 2, 1) := by decide +kernel
theorem dX7_most_112 : decode cX7_most 112 = .ok (.if_icmp .le 8, 3) := by decide +kernel
theorem dX7_most_115 : decode cX7_most 115 = .ok (.iload 5, 2) := by decide +kernel
theorem dX7_most_117 : decode cX7_most 117 = .ok (.goto 4, 3) := by decide +kernel
theorem dX7_most_120 : decode cX7_most 120 = .ok (.iload_n 2, 1) := by decide +kernel
theorem dX7_most_121 : decode cX7_most 121 = .ok (.istore_n 2, 1) := by decide +kernel
theorem dX7_most_122 : decode cX7_most 122 = .ok (.iinc 4 1, 3) := by decide +kernel
theorem dX7_most_125 : decode cX7_most 125 = .ok (.goto (-71), 3) := by decide +kernel
theorem dX7_most_128 : decode cX7_most 128 = .ok (.iload_n 3, 1) := by decide +kernel
theorem dX7_most_129 : decode cX7_most 129 = .ok (.ireturn, 1) := by decide +kernel
theorem dX7_leapt_0 : decode cX7_leapt 0 = .ok (.aload_n 0, 1) := by decide +kernel
theorem dX7_leapt_1 : decode cX7_leapt 1 = .ok (.iconst 0, 1) := by decide +kernel
theorem dX7_leapt_2 : decode cX7_leapt 2 = .ok (.putfield 114, 3) := by decide +kernel
theorem dX7_leapt_5 : decode cX7_leapt 5 = .ok (.iload_n 1, 1) := by decide +kernel
theorem dX7_leapt_6 : decode cX7_leapt 6 = .ok (.iconst 1, 1) := by decide +kernel
theorem dX7_leapt_7 : decode cX7_leapt 7 = .ok (.bipush 60, 2) := by decide +kernel
theorem dX7_leapt_9 : decode cX7_leapt 9 = .ok (.invokestatic 347, 3) := by decide +kernel
theorem dX7_leapt_12 : decode cX7_leapt 12 = .ok (.ifCond .lt 13, 3) := by decide +kernel
theorem dX7_leapt_15 : decode cX7_leapt 15 = .ok (.iload_n 2, 1) := by decide +kernel
theorem dX7_leapt_16 : decode cX7_leapt 16 = .ok (.i2l, 1) := by decide +kernel
theorem dX7_leapt_17 : decode cX7_leapt 17 = .ok (.lconst 0, 1) := by decide +kernel
theorem dX7_leapt_18 : decode cX7_leapt 18 = .ok (.lconst 1, 1) := by decide +kernel
theorem dX7_leapt_19 : decode cX7_leapt 19 = .ok (.invokestatic 122, 3) := by decide +kernel
theorem dX7_leapt_22 : decode cX7_leapt 22 = .ok (.ifCond .ne 30, 3) := by decide +kernel
theorem dX7_leapt_25 : decode cX7_leapt 25 = .ok (.aload_n 0, 1) := by decide +kernel
theorem dX7_leapt_26 : decode cX7_leapt 26 = .ok (.iload_n 1, 1) := by decide +kernel
theorem dX7_leapt_27 : decode cX7_leapt 27 = .ok (.iconst 1, 1) := by decide +kernel
theorem dX7_leapt_28 : decode cX7_leapt 28 = .ok (.bipush 60, 2) := by decide +kernel
theorem dX7_leapt_30 : decode cX7_leapt 30 = .ok (.invokestatic 347, 3) := by decide +kernel
theorem dX7_leapt_33 : decode cX7_leapt 33 = .ok (.ifCond .ge 13, 3) := by decide +kernel
theorem dX7_leapt_36 : decode cX7_leapt 36 = .ok (.iload_n 1, 1) := by decide +kernel
theorem dX7_leapt_37 : decode cX7_leapt 37 = .ok (.iconst 1, 1) := by decide +kernel
theorem dX7_leapt_38 : decode cX7_leapt 38 = .ok (.bipush 60, 2) := by decide +kernel
theorem dX7_leapt_40 : decode cX7_leapt 40 = .ok (.invokestatic 347, 3) := by decide +kernel
theorem dX7_leapt_43 : decode cX7_leapt 43 = .ok (.goto 5, 3) := by decide +kernel
theorem dX7_leapt_46 : decode cX7_leapt 46 = .ok (.bipush (-2), 2) := by decide +kernel
theorem dX7_leapt_48 : decode cX7_leapt 48 = .ok (.invokevirtual 219, 3) := by decide +kernel
theorem dX7_leapt_51 : decode cX7_leapt 51 = .ok (.ireturn, 1) := by decide +kernel
theorem dX7_leapt_52 : decode cX7_leapt 52 = .ok (.iconst 0, 1) := by decide +kernel
theorem dX7_leapt_53 : decode cX7_leapt 53 = .ok (.istore_n 3, 1) := by decide +kernel
theorem dX7_leapt_54 : decode cX7_leapt 54 = .ok (.iconst 0, 1) := by decide +kernel
theorem dX7_leapt_55 : decode cX7_leapt 55 = .ok (.istore 4, 2) := by decide +kernel
theorem dX7_leapt_57 : decode cX7_leapt 57 = .ok (.aload_n 0, 1) := by decide +kernel
theorem dX7_leapt_58 : decode cX7_leapt 58 = .ok (.invokevirtual 289, 3) := by decide +kernel
theorem dX7_leapt_61 : decode cX7_leapt 61 = .ok (.iconst 1, 1) := by decide +kernel
theorem dX7_leapt_62 : decode cX7_leapt 62 = .ok (.istore 5, 2) := by decide +kernel
theorem dX7_leapt_64 : decode cX7_leapt 64 = .ok (.iload 5, 2) := by decide +kernel
theorem dX7_leapt_66 : decode cX7_leapt 66 = .ok (.iload_n 1, 1) := by decide +kernel
theorem dX7_leapt_67 : decode cX7_leapt 67 = .ok (.if_icmp .gt 62, 3) := by decide +kernel
theorem dX7_leapt_70 : decode cX7_leapt 70 = .ok (.aload_n 0, 1) := by decide +kernel
theorem dX7_leapt_71 : decode cX7_leapt 71 = .ok (.getfield 182, 3) := by decide +kernel
theorem dX7_leapt_74 : decode cX7_leapt 74 = .ok (.istore 6, 2) := by decide +kernel
theorem dX7_leapt_76 : decode cX7_leapt 76 = .ok (.aload_n 0, 1) := by decide +kernel
theorem dX7_leapt_77 : decode cX7_leapt 77 = .ok (.invokevirtual 213, 3) := by decide +kernel
theorem dX7_leapt_80 : decode cX7_leapt 80 = .ok (.aload_n 0, 1) := by decide +kernel
theorem dX7_leapt_81 : decode cX7_leapt 81 = .ok (.getfield 182, 3) := by decide +kernel
theorem dX7_leapt_84 : decode cX7_leapt 84 = .ok (.iload 6, 2) := by decide +kernel
theorem dX7_leapt_86 : decode cX7_leapt 86 = .ok (.isub, 1) := by decide +kernel
theorem dX7_leapt_87 : decode cX7_leapt 87 = .ok (.iload_n 3, 1) := by decide +kernel
theorem dX7_leapt_88 : decode cX7_leapt 88 = .ok (.if_icmp .le 8, 3) := by decide +kernel
theorem dX7_leapt_91 : decode cX7_leapt 91 = .ok (.iload 5, 2) := by decide +kernel
theorem dX7_leapt_93 : decode cX7_leapt 93 = .ok (.goto 5, 3) := by decide +kernel
theorem dX7_leapt_96 : decode cX7_leapt 96 = .ok (.iload 4, 2) := by decide +kernel
theorem dX7_leapt_98 : decode cX7_leapt 98 = .ok (.istore 4, 2) := by decide +kernel
theorem dX7_leapt_100 : decode cX7_leapt 100 = .ok (.aload_n 0, 1) := by decide +kernel
theorem dX7_leapt_101 : decode cX7_leapt 101 = .ok (.getfield 182, 3) := by decide +kernel
theorem dX7_leapt_104 : decode cX7_leapt 104 = .ok (.iload 6, 2) := by decide +kernel
theorem dX7_leapt_106 : decode cX7_leapt 106 = .ok (.isub, 1) := by decide +kernel
theorem dX7_leapt_107 : decode cX7_leapt 107 = .ok (.iload_n 3, 1) := by decide +kernel
theorem dX7_leapt_108 : decode cX7_leapt 108 = .ok (.if_icmp .le 13, 3) := by decide +kernel
theorem dX7_leapt_111 : decode cX7_leapt 111 = .ok (.aload_n 0, 1) := by decide +kernel
theorem dX7_leapt_112 : decode cX7_leapt 112 = .ok (.getfield 182, 3) := by decide +kernel
theorem dX7_leapt_115 : decode cX7_leapt 115 = .ok (.iload 6, 2) := by decide +kernel
theorem dX7_leapt_117 : decode cX7_leapt 117 = .ok (.isub, 1) := by decide +kernel
theorem dX7_leapt_118 : decode cX7_leapt 118 = .ok (.goto 4, 3) := by decide +kernel
theorem dX7_leapt_121 : decode cX7_leapt 121 = .ok (.iload_n 3, 1) := by decide +kernel
theorem dX7_leapt_122 : decode cX7_leapt 122 = .ok (.istore_n 3, 1) := by decide +kernel
theorem dX7_leapt_123 : decode cX7_leapt 123 = .ok (.iinc 5 1, 3) := by decide +kernel
theorem dX7_leapt_126 : decode cX7_leapt 126 = .ok (.goto (-62), 3) := by decide +kernel
theorem dX7_leapt_129 : decode cX7_leapt 129 = .ok (.aload_n 0, 1) := by decide +kernel
theorem dX7_leapt_130 : decode cX7_leapt 130 = .ok (.invokevirtual 295, 3) := by decide +kernel
theorem dX7_leapt_133 : decode cX7_leapt 133 = .ok (.iload_n 2, 1) := by decide +kernel
theorem dX7_leapt_134 : decode cX7_leapt 134 = .ok (.ifCond .ne 7, 3) := by decide +kernel
theorem dX7_leapt_137 : decode cX7_leapt 137 = .ok (.iload_n 3, 1) := by decide +kernel
theorem dX7_leapt_138 : decode cX7_leapt 138 = .ok (.goto 5, 3) := by decide +kernel
theorem dX7_leapt_141 : decode cX7_leapt 141 = .ok (.iload 4, 2) := by decide +kernel
theorem dX7_leapt_143 : decode cX7_leapt 143 = .ok (.ireturn, 1) := by decide +kernel
theorem dX7_isCellRow_0 : decode cX7_isCellRow 0 = .ok (.iconst 1, 1) := by decide +kernel
theorem dX7_isCellRow_1 : decode cX7_isCellRow 1 = .ok (.istore_n 2, 1) := by decide +kernel
theorem dX7_isCellRow_2 : decode cX7_isCellRow 2 = .ok (.iconst 0, 1) := by decide +kernel
theorem dX7_isCellRow_3 : decode cX7_isCellRow 3 = .ok (.istore_n 3, 1) := by decide +kernel
theorem dX7_isCellRow_4 : decode cX7_isCellRow 4 = .ok (.iload_n 3, 1) := by decide +kernel
theorem dX7_isCellRow_5 : decode cX7_isCellRow 5 = .ok (.aload_n 0, 1) := by decide +kernel
theorem dX7_isCellRow_6 : decode cX7_isCellRow 6 = .ok (.getfield 366, 3) := by decide +kernel
theorem dX7_isCellRow_9 : decode cX7_isCellRow 9 = .ok (.if_icmp .ge 38, 3) := by decide +kernel
theorem dX7_isCellRow_12 : decode cX7_isCellRow 12 = .ok (.iload_n 2, 1) := by decide +kernel
theorem dX7_isCellRow_13 : decode cX7_isCellRow 13 = .ok (.ifCond .eq 34, 3) := by decide +kernel
theorem dX7_isCellRow_16 : decode cX7_isCellRow 16 = .ok (.aload_n 0, 1) := by decide +kernel
theorem dX7_isCellRow_17 : decode cX7_isCellRow 17 = .ok (.getfield 92, 3) := by decide +kernel
theorem dX7_isCellRow_20 : decode cX7_isCellRow 20 = .ok (.iload_n 3, 1) := by decide +kernel
theorem dX7_isCellRow_21 : decode cX7_isCellRow 21 = .ok (.iaload, 1) := by decide +kernel
theorem dX7_isCellRow_22 : decode cX7_isCellRow 22 = .ok (.aload_n 0, 1) := by decide +kernel
theorem dX7_isCellRow_23 : decode cX7_isCellRow 23 = .ok (.getfield 23, 3) := by decide +kernel
theorem dX7_isCellRow_26 : decode cX7_isCellRow 26 = .ok (.iload_n 1, 1) := by decide +kernel
theorem dX7_isCellRow_27 : decode cX7_isCellRow 27 = .ok (.iaload, 1) := by decide +kernel
theorem dX7_isCellRow_28 : decode cX7_isCellRow 28 = .ok (.if_icmp .ne 7, 3) := by decide +kernel
theorem dX7_isCellRow_31 : decode cX7_isCellRow 31 = .ok (.iconst 1, 1) := by decide +kernel
theorem dX7_isCellRow_32 : decode cX7_isCellRow 32 = .ok (.goto 4, 3) := by decide +kernel
theorem dX7_isCellRow_35 : decode cX7_isCellRow 35 = .ok (.iconst 0, 1) := by decide +kernel
theorem dX7_isCellRow_36 : decode cX7_isCellRow 36 = .ok (.istore_n 2, 1) := by decide +kernel
theorem dX7_isCellRow_37 : decode cX7_isCellRow 37 = .ok (.aload_n 0, 1) := by decide +kernel
theorem dX7_isCellRow_38 : decode cX7_isCellRow 38 = .ok (.invokevirtual 213, 3) := by decide +kernel
theorem dX7_isCellRow_41 : decode cX7_isCellRow 41 = .ok (.iinc 3 1, 3) := by decide +kernel
theorem dX7_isCellRow_44 : decode cX7_isCellRow 44 = .ok (.goto (-40), 3) := by decide +kernel
theorem dX7_isCellRow_47 : decode cX7_isCellRow 47 = .ok (.aload_n 0, 1) := by decide +kernel
theorem dX7_isCellRow_48 : decode cX7_isCellRow 48 = .ok (.invokevirtual 295, 3) := by decide +kernel
theorem dX7_isCellRow_51 : decode cX7_isCellRow 51 = .ok (.iload_n 2, 1) := by decide +kernel
theorem dX7_isCellRow_52 : decode cX7_isCellRow 52 = .ok (.ireturn, 1) := by decide +kernel
theorem dX7_whatKind_0 : decode cX7_whatKind 0 = .ok (.aload_n 0, 1) := by decide +kernel
theorem dX7_whatKind_1 : decode cX7_whatKind 1 = .ok (.iconst 0, 1) := by decide +kernel
theorem dX7_whatKind_2 : decode cX7_whatKind 2 = .ok (.putfield 114, 3) := by decide +kernel
theorem dX7_whatKind_5 : decode cX7_whatKind 5 = .ok (.aload_n 0, 1) := by decide +kernel
theorem dX7_whatKind_6 : decode cX7_whatKind 6 = .ok (.iload_n 1, 1) := by decide +kernel
theorem dX7_whatKind_7 : decode cX7_whatKind 7 = .ok (.invokevirtual 320, 3) := by decide +kernel
theorem dX7_whatKind_10 : decode cX7_whatKind 10 = .ok (.ifCond .eq 13, 3) := by decide +kernel
theorem dX7_whatKind_13 : decode cX7_whatKind 13 = .ok (.iload_n 2, 1) := by decide +kernel
theorem dX7_whatKind_14 : decode cX7_whatKind 14 = .ok (.i2l, 1) := by decide +kernel
theorem dX7_whatKind_15 : decode cX7_whatKind 15 = .ok (.lconst 0, 1) := by decide +kernel
theorem dX7_whatKind_16 : decode cX7_whatKind 16 = .ok (.lconst 1, 1) := by decide +kernel
theorem dX7_whatKind_17 : decode cX7_whatKind 17 = .ok (.invokestatic 122, 3) := by decide +kernel
theorem dX7_whatKind_20 : decode cX7_whatKind 20 = .ok (.ifCond .ne 22, 3) := by decide +kernel
theorem dX7_whatKind_23 : decode cX7_whatKind 23 = .ok (.aload_n 0, 1) := by decide +kernel
theorem dX7_whatKind_24 : decode cX7_whatKind 24 = .ok (.aload_n 0, 1) := by decide +kernel
theorem dX7_whatKind_25 : decode cX7_whatKind 25 = .ok (.iload_n 1, 1) := by decide +kernel
theorem dX7_whatKind_26 : decode cX7_whatKind 26 = .ok (.invokevirtual 320, 3) := by decide +kernel
theorem dX7_whatKind_29 : decode cX7_whatKind 29 = .ok (.ifCond .eq 8, 3) := by decide +kernel
theorem dX7_whatKind_32 : decode cX7_whatKind 32 = .ok (.bipush (-2), 2) := by decide +kernel
theorem dX7_whatKind_34 : decode cX7_whatKind 34 = .ok (.goto 4, 3) := by decide +kernel
theorem dX7_whatKind_37 : decode cX7_whatKind 37 = .ok (.iconst (-1), 1) := by decide +kernel
theorem dX7_whatKind_38 : decode cX7_whatKind 38 = .ok (.invokevirtual 219, 3) := by decide +kernel
theorem dX7_whatKind_41 : decode cX7_whatKind 41 = .ok (.ireturn, 1) := by decide +kernel
theorem dX7_whatKind_42 : decode cX7_whatKind 42 = .ok (.iconst 0, 1) := by decide +kernel
theorem dX7_whatKind_43 : decode cX7_whatKind 43 = .ok (.istore_n 3, 1) := by decide +kernel
theorem dX7_whatKind_44 : decode cX7_whatKind 44 = .ok (.aload_n 0, 1) := by decide +kernel
theorem dX7_whatKind_45 : decode cX7_whatKind 45 = .ok (.invokevirtual 289, 3) := by decide +kernel
theorem dX7_whatKind_48 : decode cX7_whatKind 48 = .ok (.iconst 0, 1) := by decide +kernel
theorem dX7_whatKind_49 : decode cX7_whatKind 49 = .ok (.istore 4, 2) := by decide +kernel
theorem dX7_whatKind_51 : decode cX7_whatKind 51 = .ok (.iload 4, 2) := by decide +kernel
theorem dX7_whatKind_53 : decode cX7_whatKind 53 = .ok (.iload_n 2, 1) := by decide +kernel
theorem dX7_whatKind_54 : decode cX7_whatKind 54 = .ok (.ifCond .ne 8, 3) := by decide +kernel
theorem dX7_whatKind_57 : decode cX7_whatKind 57 = .ok (.bipush 8, 2) := by decide +kernel
theorem dX7_whatKind_59 : decode cX7_whatKind 59 = .ok (.goto 5, 3) := by decide +kernel
theorem dX7_whatKind_62 : decode cX7_whatKind 62 = .ok (.bipush 10, 2) := by decide +kernel
theorem dX7_whatKind_64 : decode cX7_whatKind 64 = .ok (.if_icmp .ge 71, 3) := by decide +kernel
theorem dX7_whatKind_67 : decode cX7_whatKind 67 = .ok (.aload_n 0, 1) := by decide +kernel
theorem dX7_whatKind_68 : decode cX7_whatKind 68 = .ok (.getfield 17, 3) := by decide +kernel
theorem dX7_whatKind_71 : decode cX7_whatKind 71 = .ok (.iload_n 1, 1) := by decide +kernel
theorem dX7_whatKind_72 : decode cX7_whatKind 72 = .ok (.iload_n 2, 1) := by decide +kernel
theorem dX7_whatKind_73 : decode cX7_whatKind 73 = .ok (.ifCond .ne 8, 3) := by decide +kernel
theorem dX7_whatKind_76 : decode cX7_whatKind 76 = .ok (.iload 4, 2) := by decide +kernel
theorem dX7_whatKind_78 : decode cX7_whatKind 78 = .ok (.goto 9, 3) := by decide +kernel
theorem dX7_whatKind_81 : decode cX7_whatKind 81 = .ok (.aload_n 0, 1) := by decide +kernel
theorem dX7_whatKind_82 : decode cX7_whatKind 82 = .ok (.getfield 17, 3) := by decide +kernel
theorem dX7_whatKind_85 : decode cX7_whatKind 85 = .ok (.iload_n 1, 1) := by decide +kernel
theorem dX7_whatKind_86 : decode cX7_whatKind 86 = .ok (.iaload, 1) := by decide +kernel
theorem dX7_whatKind_87 : decode cX7_whatKind 87 = .ok (.iastore, 1) := by decide +kernel
theorem dX7_whatKind_88 : decode cX7_whatKind 88 = .ok (.aload_n 0, 1) := by decide +kernel
theorem dX7_whatKind_89 : decode cX7_whatKind 89 = .ok (.getfield 20, 3) := by decide +kernel
theorem dX7_whatKind_92 : decode cX7_whatKind 92 = .ok (.iload_n 1, 1) := by decide +kernel
theorem dX7_whatKind_93 : decode cX7_whatKind 93 = .ok (.iload_n 2, 1) := by decide +kernel
theorem dX7_whatKind_94 : decode cX7_whatKind 94 = .ok (.iconst 1, 1) := by decide +kernel
theorem dX7_whatKind_95 : decode cX7_whatKind 95 = .ok (.if_icmp .ne 8, 3) := by decide +kernel
theorem dX7_whatKind_98 : decode cX7_whatKind 98 = .ok (.iload 4, 2) := by decide +kernel
theorem dX7_whatKind_100 : decode cX7_whatKind 100 = .ok (.goto 9, 3) := by decide +kernel
theorem dX7_whatKind_103 : decode cX7_whatKind 103 = .ok (.aload_n 0, 1) := by decide +kernel
theorem dX7_whatKind_104 : decode cX7_whatKind 104 = .ok (.getfield 20, 3) := by decide +kernel
theorem dX7_whatKind_107 : decode cX7_whatKind 107 = .ok (.iload_n 1, 1) := by decide +kernel
theorem dX7_whatKind_108 : decode cX7_whatKind 108 = .ok (.iaload, 1) := by decide +kernel
theorem dX7_whatKind_109 : decode cX7_whatKind 109 = .ok (.iastore, 1) := by decide +kernel
theorem dX7_whatKind_110 : decode cX7_whatKind 110 = .ok (.iload_n 3, 1) := by decide +kernel
theorem dX7_whatKind_111 : decode cX7_whatKind 111 = .ok (.aload_n 0, 1) := by decide +kernel
theorem dX7_whatKind_112 : decode cX7_whatKind 112 = .ok (.iload_n 1, 1) := by decide +kernel
theorem dX7_whatKind_113 : decode cX7_whatKind 113 = .ok (.invokevirtual 369, 3) := by decide +kernel
theorem dX7_whatKind_116 : decode cX7_whatKind 116 = .ok (.ifCond .eq 10, 3) := by decide +kernel
theorem dX7_whatKind_119 : decode cX7_whatKind 119 = .ok (.iconst 1, 1) := by decide +kernel
theorem dX7_whatKind_120 : decode cX7_whatKind 120 = .ok (.iload 4, 2) := by decide +kernel
theorem dX7_whatKind_122 : decode cX7_whatKind 122 = .ok (.ishl, 1) := by decide +kernel
theorem dX7_whatKind_123 : decode cX7_whatKind 123 = .ok (.goto 4, 3) := by decide +kernel
theorem dX7_whatKind_126 : decode cX7_whatKind 126 = .ok (.iconst 0, 1) := by decide +kernel
theorem dX7_whatKind_127 : decode cX7_whatKind 127 = .ok (.ior, 1) := by decide +kernel
theorem dX7_whatKind_128 : decode cX7_whatKind 128 = .ok (.istore_n 3, 1) := by decide +kernel
theorem dX7_whatKind_129 : decode cX7_whatKind 129 = .ok (.iinc 4 1, 3) := by decide +kernel
theorem dX7_whatKind_132 : decode cX7_whatKind 132 = .ok (.goto (-81), 3) := by decide +kernel
theorem dX7_whatKind_135 : decode cX7_whatKind 135 = .ok (.iload_n 3, 1) := by decide +kernel
theorem dX7_whatKind_136 : decode cX7_whatKind 136 = .ok (.ireturn, 1) := by decide +kernel
theorem dX7_howCold_0 : decode cX7_howCold 0 = .ok (.aload_n 0, 1) := by decide +kernel
theorem dX7_howCold_1 : decode cX7_howCold 1 = .ok (.iconst 0, 1) := by decide +kernel
theorem dX7_howCold_2 : decode cX7_howCold 2 = .ok (.putfield 114, 3) := by decide +kernel
theorem dX7_howCold_5 : decode cX7_howCold 5 = .ok (.aload_n 0, 1) := by decide +kernel
theorem dX7_howCold_6 : decode cX7_howCold 6 = .ok (.iload_n 1, 1) := by decide +kernel
theorem dX7_howCold_7 : decode cX7_howCold 7 = .ok (.invokevirtual 320, 3) := by decide +kernel
theorem dX7_howCold_10 : decode cX7_howCold 10 = .ok (.ifCond .ne 9, 3) := by decide +kernel
theorem dX7_howCold_13 : decode cX7_howCold 13 = .ok (.aload_n 0, 1) := by decide +kernel
theorem dX7_howCold_14 : decode cX7_howCold 14 = .ok (.iconst (-1), 1) := by decide +kernel
theorem dX7_howCold_15 : decode cX7_howCold 15 = .ok (.invokevirtual 219, 3) := by decide +kernel
theorem dX7_howCold_18 : decode cX7_howCold 18 = .ok (.ireturn, 1) := by decide +kernel
theorem dX7_howCold_19 : decode cX7_howCold 19 = .ok (.iload_n 2, 1) := by decide +kernel
theorem dX7_howCold_20 : decode cX7_howCold 20 = .ok (.ifCond .lt 9, 3) := by decide +kernel
theorem dX7_howCold_23 : decode cX7_howCold 23 = .ok (.iload_n 3, 1) := by decide +kernel
theorem dX7_howCold_24 : decode cX7_howCold 24 = .ok (.bipush (-100), 2) := by decide +kernel
theorem dX7_howCold_26 : decode cX7_howCold 26 = .ok (.if_icmp .ge 10, 3) := by decide +kernel
theorem dX7_howCold_29 : decode cX7_howCold 29 = .ok (.aload_n 0, 1) := by decide +kernel
theorem dX7_howCold_30 : decode cX7_howCold 30 = .ok (.bipush (-4), 2) := by decide +kernel
theorem dX7_howCold_32 : decode cX7_howCold 32 = .ok (.invokevirtual 219, 3) := by decide +kernel
theorem dX7_howCold_35 : decode cX7_howCold 35 = .ok (.ireturn, 1) := by decide +kernel
theorem dX7_howCold_36 : decode cX7_howCold 36 = .ok (.iload_n 2, 1) := by decide +kernel
theorem dX7_howCold_37 : decode cX7_howCold 37 = .ok (.bipush 99, 2) := by decide +kernel
theorem dX7_howCold_39 : decode cX7_howCold 39 = .ok (.if_icmp .gt 9, 3) := by decide +kernel
theorem dX7_howCold_42 : decode cX7_howCold 42 = .ok (.iload_n 3, 1) := by decide +kernel
theorem dX7_howCold_43 : decode cX7_howCold 43 = .ok (.bipush 100, 2) := by decide +kernel
theorem dX7_howCold_45 : decode cX7_howCold 45 = .ok (.if_icmp .le 10, 3) := by decide +kernel
theorem dX7_howCold_48 : decode cX7_howCold 48 = .ok (.aload_n 0, 1) := by decide +kernel
theorem dX7_howCold_49 : decode cX7_howCold 49 = .ok (.bipush (-6), 2) := by decide +kernel
theorem dX7_howCold_51 : decode cX7_howCold 51 = .ok (.invokevirtual 219, 3) := by decide +kernel
theorem dX7_howCold_54 : decode cX7_howCold 54 = .ok (.ireturn, 1) := by decide +kernel
theorem dX7_howCold_55 : decode cX7_howCold 55 = .ok (.iconst 0, 1) := by decide +kernel
theorem dX7_howCold_56 : decode cX7_howCold 56 = .ok (.istore 4, 2) := by decide +kernel
theorem dX7_howCold_58 : decode cX7_howCold 58 = .ok (.iconst 0, 1) := by decide +kernel
theorem dX7_howCold_59 : decode cX7_howCold 59 = .ok (.istore 5, 2) := by decide +kernel
theorem dX7_howCold_61 : decode cX7_howCold 61 = .ok (.iload 5, 2) := by decide +kernel
theorem dX7_howCold_63 : decode cX7_howCold 63 = .ok (.bipush 8, 2) := by decide +kernel
theorem dX7_howCold_65 : decode cX7_howCold 65 = .ok (.if_icmp .ge 41, 3) := by decide +kernel
theorem dX7_howCold_68 : decode cX7_howCold 68 = .ok (.iload 4, 2) := by decide +kernel
theorem dX7_howCold_70 : decode cX7_howCold 70 = .ok (.aload_n 0, 1) := by decide +kernel
theorem dX7_howCold_71 : decode cX7_howCold 71 = .ok (.iload 5, 2) := by decide +kernel
theorem dX7_howCold_73 : decode cX7_howCold 73 = .ok (.aload_n 0, 1) := by decide +kernel
theorem dX7_howCold_74 : decode cX7_howCold 74 = .ok (.getfield 20, 3) := by decide +kernel
theorem dX7_howCold_77 : decode cX7_howCold 77 = .ok (.iload_n 1, 1) := by decide +kernel
theorem dX7_howCold_78 : decode cX7_howCold 78 = .ok (.iaload, 1) := by decide +kernel
theorem dX7_howCold_79 : decode cX7_howCold 79 = .ok (.iload_n 2, 1) := by decide +kernel
theorem dX7_howCold_80 : decode cX7_howCold 80 = .ok (.i2f, 1) := by decide +kernel
theorem dX7_howCold_81 : decode cX7_howCold 81 = .ok (.invokevirtual 165, 3) := by decide +kernel
theorem dX7_howCold_84 : decode cX7_howCold 84 = .ok (.f2i, 1) := by decide +kernel
theorem dX7_howCold_85 : decode cX7_howCold 85 = .ok (.iload_n 3, 1) := by decide +kernel
theorem dX7_howCold_86 : decode cX7_howCold 86 = .ok (.if_icmp .ne 10, 3) := by decide +kernel
theorem dX7_howCold_89 : decode cX7_howCold 89 = .ok (.iconst 1, 1) := by decide +kernel
theorem dX7_howCold_90 : decode cX7_howCold 90 = .ok (.iload 5, 2) := by decide +kernel
theorem dX7_howCold_92 : decode cX7_howCold 92 = .ok (.ishl, 1) := by decide +kernel
theorem dX7_howCold_93 : decode cX7_howCold 93 = .ok (.goto 4, 3) := by decide +kernel
theorem dX7_howCold_96 : decode cX7_howCold 96 = .ok (.iconst 0, 1) := by decide +kernel
theorem dX7_howCold_97 : decode cX7_howCold 97 = .ok (.ior, 1) := by decide +kernel
theorem dX7_howCold_98 : decode cX7_howCold 98 = .ok (.istore 4, 2) := by decide +kernel
theorem dX7_howCold_100 : decode cX7_howCold 100 = .ok (.iinc 5 1, 3) := by decide +kernel
theorem dX7_howCold_103 : decode cX7_howCold 103 = .ok (.goto (-42), 3) := by decide +kernel
theorem dX7_howCold_106 : decode cX7_howCold 106 = .ok (.iload 4, 2) := by decide +kernel
theorem dX7_howCold_108 : decode cX7_howCold 108 = .ok (.ireturn, 1) := by decide +kernel
theorem dX7_two_0 : decode cX7_two 0 = .ok (.aload_n 0, 1) := by decide +kernel
theorem dX7_two_1 : decode cX7_two 1 = .ok (.iconst 0, 1) := by decide +kernel
theorem dX7_two_2 : decode cX7_two 2 = .ok (.putfield 114, 3) := by decide +kernel
theorem dX7_two_5 : decode cX7_two 5 = .ok (.aload_n 0, 1) := by decide +kernel
theorem dX7_two_6 : decode cX7_two 6 = .ok (.iload_n 1, 1) := by decide +kernel
theorem dX7_two_7 : decode cX7_two 7 = .ok (.invokevirtual 323, 3) := by decide +kernel
theorem dX7_two_10 : decode cX7_two 10 = .ok (.ifCond .eq 16, 3) := by decide +kernel
theorem dX7_two_13 : decode cX7_two 13 = .ok (.aload_n 0, 1) := by decide +kernel
theorem dX7_two_14 : decode cX7_two 14 = .ok (.iload_n 2, 1) := by decide +kernel
theorem dX7_two_15 : decode cX7_two 15 = .ok (.invokevirtual 323, 3) := by decide +kernel
theorem dX7_two_18 : decode cX7_two 18 = .ok (.ifCond .eq 8, 3) := by decide +kernel
theorem dX7_two_21 : decode cX7_two 21 = .ok (.iload_n 1, 1) := by decide +kernel
theorem dX7_two_22 : decode cX7_two 22 = .ok (.iload_n 2, 1) := by decide +kernel
theorem dX7_two_23 : decode cX7_two 23 = .ok (.if_icmp .ne 9, 3) := by decide +kernel
theorem dX7_two_26 : decode cX7_two 26 = .ok (.aload_n 0, 1) := by decide +kernel
theorem dX7_two_27 : decode cX7_two 27 = .ok (.iconst (-1), 1) := by decide +kernel
theorem dX7_two_28 : decode cX7_two 28 = .ok (.invokevirtual 219, 3) := by decide +kernel
theorem dX7_two_31 : decode cX7_two 31 = .ok (.ireturn, 1) := by decide +kernel
theorem dX7_two_32 : decode cX7_two 32 = .ok (.iload_n 3, 1) := by decide +kernel
theorem dX7_two_33 : decode cX7_two 33 = .ok (.iconst 1, 1) := by decide +kernel
theorem dX7_two_34 : decode cX7_two 34 = .ok (.bipush 30, 2) := by decide +kernel
theorem dX7_two_36 : decode cX7_two 36 = .ok (.invokestatic 347, 3) := by decide +kernel
theorem dX7_two_39 : decode cX7_two 39 = .ok (.istore 4, 2) := by decide +kernel
theorem dX7_two_41 : decode cX7_two 41 = .ok (.iload 4, 2) := by decide +kernel
theorem dX7_two_43 : decode cX7_two 43 = .ok (.ifCond .ne 25, 3) := by decide +kernel
theorem dX7_two_46 : decode cX7_two 46 = .ok (.aload_n 0, 1) := by decide +kernel
theorem dX7_two_47 : decode cX7_two 47 = .ok (.getfield 38, 3) := by decide +kernel
theorem dX7_two_50 : decode cX7_two 50 = .ok (.iload_n 1, 1) := by decide +kernel
theorem dX7_two_51 : decode cX7_two 51 = .ok (.iaload, 1) := by decide +kernel
theorem dX7_two_52 : decode cX7_two 52 = .ok (.aload_n 0, 1) := by decide +kernel
theorem dX7_two_53 : decode cX7_two 53 = .ok (.getfield 38, 3) := by decide +kernel
theorem dX7_two_56 : decode cX7_two 56 = .ok (.iload_n 2, 1) := by decide +kernel
theorem dX7_two_57 : decode cX7_two 57 = .ok (.iaload, 1) := by decide +kernel
theorem dX7_two_58 : decode cX7_two 58 = .ok (.iadd, 1) := by decide +kernel
theorem dX7_two_59 : decode cX7_two 59 = .ok (.iconst 2, 1) := by decide +kernel
theorem dX7_two_60 : decode cX7_two 60 = .ok (.if_icmp .ge 8, 3) := by decide +kernel
theorem dX7_two_63 : decode cX7_two 63 = .ok (.bipush (-3), 2) := by decide +kernel
theorem dX7_two_65 : decode cX7_two 65 = .ok (.goto 5, 3) := by decide +kernel
theorem dX7_two_68 : decode cX7_two 68 = .ok (.iload 4, 2) := by decide +kernel
theorem dX7_two_70 : decode cX7_two 70 = .ok (.istore 4, 2) := by decide +kernel
theorem dX7_two_72 : decode cX7_two 72 = .ok (.iload 4, 2) := by decide +kernel
theorem dX7_two_74 : decode cX7_two 74 = .ok (.ifCond .ge 10, 3) := by decide +kernel
theorem dX7_two_77 : decode cX7_two 77 = .ok (.aload_n 0, 1) := by decide +kernel
theorem dX7_two_78 : decode cX7_two 78 = .ok (.iload 4, 2) := by decide +kernel
theorem dX7_two_80 : decode cX7_two 80 = .ok (.invokevirtual 219, 3) := by decide +kernel
theorem dX7_two_83 : decode cX7_two 83 = .ok (.ireturn, 1) := by decide +kernel
theorem dX7_two_84 : decode cX7_two 84 = .ok (.aload_n 0, 1) := by decide +kernel
theorem dX7_two_85 : decode cX7_two 85 = .ok (.invokevirtual 289, 3) := by decide +kernel
theorem dX7_two_88 : decode cX7_two 88 = .ok (.iconst 0, 1) := by decide +kernel
theorem dX7_two_89 : decode cX7_two 89 = .ok (.istore 5, 2) := by decide +kernel
theorem dX7_two_91 : decode cX7_two 91 = .ok (.iload 5, 2) := by decide +kernel
theorem dX7_two_93 : decode cX7_two 93 = .ok (.iconst 4, 1) := by decide +kernel
theorem dX7_two_94 : decode cX7_two 94 = .ok (.if_icmp .ge 224, 3) := by decide +kernel
theorem dX7_two_97 : decode cX7_two 97 = .ok (.aload_n 0, 1) := by decide +kernel
theorem dX7_two_98 : decode cX7_two 98 = .ok (.getfield 35, 3) := by decide +kernel
theorem dX7_two_101 : decode cX7_two 101 = .ok (.iload_n 1, 1) := by decide +kernel
theorem dX7_two_102 : decode cX7_two 102 = .ok (.iaload, 1) := by decide +kernel
theorem dX7_two_103 : decode cX7_two 103 = .ok (.istore 6, 2) := by decide +kernel
theorem dX7_two_105 : decode cX7_two 105 = .ok (.aload_n 0, 1) := by decide +kernel
theorem dX7_two_106 : decode cX7_two 106 = .ok (.getfield 35, 3) := by decide +kernel
theorem dX7_two_109 : decode cX7_two 109 = .ok (.iload_n 2, 1) := by decide +kernel
theorem dX7_two_110 : decode cX7_two 110 = .ok (.iaload, 1) := by decide +kernel
theorem dX7_two_111 : decode cX7_two 111 = .ok (.istore 7, 2) := by decide +kernel
theorem dX7_two_113 : decode cX7_two 113 = .ok (.iload 5, 2) := by decide +kernel
theorem dX7_two_115 : decode cX7_two 115 = .ok (.iconst 2, 1) := by decide +kernel
theorem dX7_two_116 : decode cX7_two 116 = .ok (.idiv, 1) := by decide +kernel
theorem dX7_two_117 : decode cX7_two 117 = .ok (.iconst 1, 1) := by decide +kernel
theorem dX7_two_118 : decode cX7_two 118 = .ok (.if_icmp .ne 7, 3) := by decide +kernel
theorem dX7_two_121 : decode cX7_two 121 = .ok (.iconst 1, 1) := by decide +kernel
theorem dX7_two_122 : decode cX7_two 122 = .ok (.goto 4, 3) := by decide +kernel
theorem dX7_two_125 : decode cX7_two 125 = .ok (.iconst 0, 1) := by decide +kernel
theorem dX7_two_126 : decode cX7_two 126 = .ok (.istore 8, 2) := by decide +kernel
theorem dX7_two_128 : decode cX7_two 128 = .ok (.iload 5, 2) := by decide +kernel
theorem dX7_two_130 : decode cX7_two 130 = .ok (.iconst 2, 1) := by decide +kernel
theorem dX7_two_131 : decode cX7_two 131 = .ok (.irem, 1) := by decide +kernel
theorem dX7_two_132 : decode cX7_two 132 = .ok (.iconst 1, 1) := by decide +kernel
theorem dX7_two_133 : decode cX7_two 133 = .ok (.if_icmp .ne 7, 3) := by decide +kernel
theorem dX7_two_136 : decode cX7_two 136 = .ok (.iconst 1, 1) := by decide +kernel
theorem dX7_two_137 : decode cX7_two 137 = .ok (.goto 4, 3) := by decide +kernel
theorem dX7_two_140 : decode cX7_two 140 = .ok (.iconst 0, 1) := by decide +kernel
theorem dX7_two_141 : decode cX7_two 141 = .ok (.istore 9, 2) := by decide +kernel
theorem dX7_two_143 : decode cX7_two 143 = .ok (.aload_n 0, 1) := by decide +kernel
theorem dX7_two_144 : decode cX7_two 144 = .ok (.getfield 35, 3) := by decide +kernel
theorem dX7_two_147 : decode cX7_two 147 = .ok (.iload_n 1, 1) := by decide +kernel
theorem dX7_two_148 : decode cX7_two 148 = .ok (.iload 8, 2) := by decide +kernel
theorem dX7_two_150 : decode cX7_two 150 = .ok (.ifCond .eq 7, 3) := by decide +kernel
theorem dX7_two_153 : decode cX7_two 153 = .ok (.iconst 0, 1) := by decide +kernel
theorem dX7_two_154 : decode cX7_two 154 = .ok (.goto 5, 3) := by decide +kernel
theorem dX7_two_157 : decode cX7_two 157 = .ok (.iload 6, 2) := by decide +kernel
theorem dX7_two_159 : decode cX7_two 159 = .ok (.iload 9, 2) := by decide +kernel
theorem dX7_two_161 : decode cX7_two 161 = .ok (.ifCond .eq 8, 3) := by decide +kernel
theorem dX7_two_164 : decode cX7_two 164 = .ok (.iload 7, 2) := by decide +kernel
theorem dX7_two_166 : decode cX7_two 166 = .ok (.goto 4, 3) := by decide +kernel
theorem dX7_two_169 : decode cX7_two 169 = .ok (.iconst 0, 1) := by decide +kernel
theorem dX7_two_170 : decode cX7_two 170 = .ok (.iadd, 1) := by decide +kernel
theorem dX7_two_171 : decode cX7_two 171 = .ok (.bipush 9, 2) := by decide +kernel
theorem dX7_two_173 : decode cX7_two 173 = .ok (.invokestatic 133, 3) := by decide +kernel
theorem dX7_two_176 : decode cX7_two 176 = .ok (.iastore, 1) := by decide +kernel
theorem dX7_two_177 : decode cX7_two 177 = .ok (.aload_n 0, 1) := by decide +kernel
theorem dX7_two_178 : decode cX7_two 178 = .ok (.getfield 35, 3) := by decide +kernel
theorem dX7_two_181 : decode cX7_two 181 = .ok (.iload_n 2, 1) := by decide +kernel
theorem dX7_two_182 : decode cX7_two 182 = .ok (.iload 9, 2) := by decide +kernel
theorem dX7_two_184 : decode cX7_two 184 = .ok (.ifCond .eq 7, 3) := by decide +kernel
theorem dX7_two_187 : decode cX7_two 187 = .ok (.iconst 0, 1) := by decide +kernel
theorem dX7_two_188 : decode cX7_two 188 = .ok (.goto 5, 3) := by decide +kernel
theorem dX7_two_191 : decode cX7_two 191 = .ok (.iload 7, 2) := by decide +kernel
theorem dX7_two_193 : decode cX7_two 193 = .ok (.iload 8, 2) := by decide +kernel
theorem dX7_two_195 : decode cX7_two 195 = .ok (.ifCond .eq 8, 3) := by decide +kernel
theorem dX7_two_198 : decode cX7_two 198 = .ok (.iload 6, 2) := by decide +kernel
theorem dX7_two_200 : decode cX7_two 200 = .ok (.goto 4, 3) := by decide +kernel
theorem dX7_two_203 : decode cX7_two 203 = .ok (.iconst 0, 1) := by decide +kernel
theorem dX7_two_204 : decode cX7_two 204 = .ok (.iadd, 1) := by decide +kernel
theorem dX7_two_205 : decode cX7_two 205 = .ok (.bipush 9, 2) := by decide +kernel
theorem dX7_two_207 : decode cX7_two 207 = .ok (.invokestatic 133, 3) := by decide +kernel
theorem dX7_two_210 : decode cX7_two 210 = .ok (.iastore, 1) := by decide +kernel
theorem dX7_two_211 : decode cX7_two 211 = .ok (.aload_n 0, 1) := by decide +kernel
theorem dX7_two_212 : decode cX7_two 212 = .ok (.getfield 95, 3) := by decide +kernel
theorem dX7_two_215 : decode cX7_two 215 = .ok (.iconst 2, 1) := by decide +kernel
theorem dX7_two_216 : decode cX7_two 216 = .ok (.iload 5, 2) := by decide +kernel
theorem dX7_two_218 : decode cX7_two 218 = .ok (.imul, 1) := by decide +kernel
theorem dX7_two_219 : decode cX7_two 219 = .ok (.iload 8, 2) := by decide +kernel
theorem dX7_two_221 : decode cX7_two 221 = .ok (.ifCond .eq 7, 3) := by decide +kernel
theorem dX7_two_224 : decode cX7_two 224 = .ok (.iconst 2, 1) := by decide +kernel
theorem dX7_two_225 : decode cX7_two 225 = .ok (.goto 4, 3) := by decide +kernel
theorem dX7_two_228 : decode cX7_two 228 = .ok (.iconst 0, 1) := by decide +kernel
theorem dX7_two_229 : decode cX7_two 229 = .ok (.iastore, 1) := by decide +kernel
theorem dX7_two_230 : decode cX7_two 230 = .ok (.aload_n 0, 1) := by decide +kernel
theorem dX7_two_231 : decode cX7_two 231 = .ok (.getfield 95, 3) := by decide +kernel
theorem dX7_two_234 : decode cX7_two 234 = .ok (.iconst 2, 1) := by decide +kernel
theorem dX7_two_235 : decode cX7_two 235 = .ok (.iload 5, 2) := by decide +kernel
theorem dX7_two_237 : decode cX7_two 237 = .ok (.imul, 1) := by decide +kernel
theorem dX7_two_238 : decode cX7_two 238 = .ok (.iconst 1, 1) := by decide +kernel
theorem dX7_two_239 : decode cX7_two 239 = .ok (.iadd, 1) := by decide +kernel
theorem dX7_two_240 : decode cX7_two 240 = .ok (.iload 9, 2) := by decide +kernel
theorem dX7_two_242 : decode cX7_two 242 = .ok (.ifCond .eq 7, 3) := by decide +kernel
theorem dX7_two_245 : decode cX7_two 245 = .ok (.iconst 2, 1) := by decide +kernel
theorem dX7_two_246 : decode cX7_two 246 = .ok (.goto 4, 3) := by decide +kernel
theorem dX7_two_249 : decode cX7_two 249 = .ok (.iconst 0, 1) := by decide +kernel
theorem dX7_two_250 : decode cX7_two 250 = .ok (.iastore, 1) := by decide +kernel
theorem dX7_two_251 : decode cX7_two 251 = .ok (.iconst 0, 1) := by decide +kernel
theorem dX7_two_252 : decode cX7_two 252 = .ok (.istore 10, 2) := by decide +kernel
theorem dX7_two_254 : decode cX7_two 254 = .ok (.iload 10, 2) := by decide +kernel
theorem dX7_two_256 : decode cX7_two 256 = .ok (.iload_n 3, 1) := by decide +kernel
theorem dX7_two_257 : decode cX7_two 257 = .ok (.if_icmp .ge 51, 3) := by decide +kernel
theorem dX7_two_260 : decode cX7_two 260 = .ok (.aload_n 0, 1) := by decide +kernel
theorem dX7_two_261 : decode cX7_two 261 = .ok (.invokevirtual 213, 3) := by decide +kernel
theorem dX7_two_264 : decode cX7_two 264 = .ok (.aload_n 0, 1) := by decide +kernel
theorem dX7_two_265 : decode cX7_two 265 = .ok (.getfield 95, 3) := by decide +kernel
theorem dX7_two_268 : decode cX7_two 268 = .ok (.iconst 2, 1) := by decide +kernel
theorem dX7_two_269 : decode cX7_two 269 = .ok (.iload 5, 2) := by decide +kernel
theorem dX7_two_271 : decode cX7_two 271 = .ok (.imul, 1) := by decide +kernel
theorem dX7_two_272 : decode cX7_two 272 = .ok (.dup2, 1) := by decide +kernel
theorem dX7_two_273 : decode cX7_two 273 = .ok (.iaload, 1) := by decide +kernel
theorem dX7_two_274 : decode cX7_two 274 = .ok (.aload_n 0, 1) := by decide +kernel
theorem dX7_two_275 : decode cX7_two 275 = .ok (.getfield 38, 3) := by decide +kernel
theorem dX7_two_278 : decode cX7_two 278 = .ok (.iload_n 1, 1) := by decide +kernel
theorem dX7_two_279 : decode cX7_two 279 = .ok (.iaload, 1) := by decide +kernel
theorem dX7_two_280 : decode cX7_two 280 = .ok (.iadd, 1) := by decide +kernel
theorem dX7_two_281 : decode cX7_two 281 = .ok (.iastore, 1) := by decide +kernel
theorem dX7_two_282 : decode cX7_two 282 = .ok (.aload_n 0, 1) := by decide +kernel
theorem dX7_two_283 : decode cX7_two 283 = .ok (.getfield 95, 3) := by decide +kernel
theorem dX7_two_286 : decode cX7_two 286 = .ok (.iconst 2, 1) := by decide +kernel
theorem dX7_two_287 : decode cX7_two 287 = .ok (.iload 5, 2) := by decide +kernel
theorem dX7_two_289 : decode cX7_two 289 = .ok (.imul, 1) := by decide +kernel
theorem dX7_two_290 : decode cX7_two 290 = .ok (.iconst 1, 1) := by decide +kernel
theorem dX7_two_291 : decode cX7_two 291 = .ok (.iadd, 1) := by decide +kernel
theorem dX7_two_292 : decode cX7_two 292 = .ok (.dup2, 1) := by decide +kernel
theorem dX7_two_293 : decode cX7_two 293 = .ok (.iaload, 1) := by decide +kernel
theorem dX7_two_294 : decode cX7_two 294 = .ok (.aload_n 0, 1) := by decide +kernel
theorem dX7_two_295 : decode cX7_two 295 = .ok (.getfield 38, 3) := by decide +kernel
theorem dX7_two_298 : decode cX7_two 298 = .ok (.iload_n 2, 1) := by decide +kernel
theorem dX7_two_299 : decode cX7_two 299 = .ok (.iaload, 1) := by decide +kernel
theorem dX7_two_300 : decode cX7_two 300 = .ok (.iadd, 1) := by decide +kernel
theorem dX7_two_301 : decode cX7_two 301 = .ok (.iastore, 1) := by decide +kernel
theorem dX7_two_302 : decode cX7_two 302 = .ok (.iinc 10 1, 3) := by decide +kernel
theorem dX7_two_305 : decode cX7_two 305 = .ok (.goto (-51), 3) := by decide +kernel
theorem dX7_two_308 : decode cX7_two 308 = .ok (.aload_n 0, 1) := by decide +kernel
theorem dX7_two_309 : decode cX7_two 309 = .ok (.invokevirtual 295, 3) := by decide +kernel
theorem dX7_two_312 : decode cX7_two 312 = .ok (.iinc 5 1, 3) := by decide +kernel
theorem dX7_two_315 : decode cX7_two 315 = .ok (.goto (-224), 3) := by decide +kernel
theorem dX7_two_318 : decode cX7_two 318 = .ok (.iconst 0, 1) := by decide +kernel
theorem dX7_two_319 : decode cX7_two 319 = .ok (.istore 5, 2) := by decide +kernel
theorem dX7_two_321 : decode cX7_two 321 = .ok (.iload 5, 2) := by decide +kernel
theorem dX7_two_323 : decode cX7_two 323 = .ok (.iconst 4, 1) := by decide +kernel
theorem dX7_two_324 : decode cX7_two 324 = .ok (.if_icmp .ge 98, 3) := by decide +kernel
theorem dX7_two_327 : decode cX7_two 327 = .ok (.iconst 2, 1) := by decide +kernel
theorem dX7_two_328 : decode cX7_two 328 = .ok (.iconst 1, 1) := by decide +kernel
theorem dX7_two_329 : decode cX7_two 329 = .ok (.iload 5, 2) := by decide +kernel
theorem dX7_two_331 : decode cX7_two 331 = .ok (.iconst 2, 1) := by decide +kernel
theorem dX7_two_332 : decode cX7_two 332 = .ok (.idiv, 1) := by decide +kernel
theorem dX7_two_333 : decode cX7_two 333 = .ok (.isub, 1) := by decide +kernel
theorem dX7_two_334 : decode cX7_two 334 = .ok (.imul, 1) := by decide +kernel
theorem dX7_two_335 : decode cX7_two 335 = .ok (.iload 5, 2) := by decide +kernel
theorem dX7_two_337 : decode cX7_two 337 = .ok (.iconst 2, 1) := by decide +kernel
theorem dX7_two_338 : decode cX7_two 338 = .ok (.irem, 1) := by decide +kernel
theorem dX7_two_339 : decode cX7_two 339 = .ok (.iadd, 1) := by decide +kernel
theorem dX7_two_340 : decode cX7_two 340 = .ok (.istore 6, 2) := by decide +kernel
theorem dX7_two_342 : decode cX7_two 342 = .ok (.iconst 2, 1) := by decide +kernel
theorem dX7_two_343 : decode cX7_two 343 = .ok (.iload 5, 2) := by decide +kernel
theorem dX7_two_345 : decode cX7_two 345 = .ok (.iconst 2, 1) := by decide +kernel
theorem dX7_two_346 : decode cX7_two 346 = .ok (.idiv, 1) := by decide +kernel
theorem dX7_two_347 : decode cX7_two 347 = .ok (.imul, 1) := by decide +kernel
theorem dX7_two_348 : decode cX7_two 348 = .ok (.iconst 1, 1) := by decide +kernel
theorem dX7_two_349 : decode cX7_two 349 = .ok (.iadd, 1) := by decide +kernel
theorem dX7_two_350 : decode cX7_two 350 = .ok (.iload 5, 2) := by decide +kernel
theorem dX7_two_352 : decode cX7_two 352 = .ok (.iconst 2, 1) := by decide +kernel
theorem dX7_two_353 : decode cX7_two 353 = .ok (.irem, 1) := by decide +kernel
theorem dX7_two_354 : decode cX7_two 354 = .ok (.isub, 1) := by decide +kernel
theorem dX7_two_355 : decode cX7_two 355 = .ok (.istore 7, 2) := by decide +kernel
theorem dX7_two_357 : decode cX7_two 357 = .ok (.aload_n 0, 1) := by decide +kernel
theorem dX7_two_358 : decode cX7_two 358 = .ok (.getfield 95, 3) := by decide +kernel
theorem dX7_two_361 : decode cX7_two 361 = .ok (.iconst 2, 1) := by decide +kernel
theorem dX7_two_362 : decode cX7_two 362 = .ok (.iload 5, 2) := by decide +kernel
theorem dX7_two_364 : decode cX7_two 364 = .ok (.imul, 1) := by decide +kernel
theorem dX7_two_365 : decode cX7_two 365 = .ok (.iaload, 1) := by decide +kernel
theorem dX7_two_366 : decode cX7_two 366 = .ok (.aload_n 0, 1) := by decide +kernel
theorem dX7_two_367 : decode cX7_two 367 = .ok (.getfield 95, 3) := by decide +kernel
theorem dX7_two_370 : decode cX7_two 370 = .ok (.iconst 2, 1) := by decide +kernel
theorem dX7_two_371 : decode cX7_two 371 = .ok (.iload 6, 2) := by decide +kernel
theorem dX7_two_373 : decode cX7_two 373 = .ok (.imul, 1) := by decide +kernel
theorem dX7_two_374 : decode cX7_two 374 = .ok (.iaload, 1) := by decide +kernel
theorem dX7_two_375 : decode cX7_two 375 = .ok (.if_icmp .lt 41, 3) := by decide +kernel
theorem dX7_two_378 : decode cX7_two 378 = .ok (.aload_n 0, 1) := by decide +kernel
theorem dX7_two_379 : decode cX7_two 379 = .ok (.getfield 95, 3) := by decide +kernel
theorem dX7_two_382 : decode cX7_two 382 = .ok (.iconst 2, 1) := by decide +kernel
theorem dX7_two_383 : decode cX7_two 383 = .ok (.iload 5, 2) := by decide +kernel
theorem dX7_two_385 : decode cX7_two 385 = .ok (.imul, 1) := by decide +kernel
theorem dX7_two_386 : decode cX7_two 386 = .ok (.iconst 1, 1) := by decide +kernel
theorem dX7_two_387 : decode cX7_two 387 = .ok (.iadd, 1) := by decide +kernel
theorem dX7_two_388 : decode cX7_two 388 = .ok (.iaload, 1) := by decide +kernel
theorem dX7_two_389 : decode cX7_two 389 = .ok (.aload_n 0, 1) := by decide +kernel
theorem dX7_two_390 : decode cX7_two 390 = .ok (.getfield 95, 3) := by decide +kernel
theorem dX7_two_393 : decode cX7_two 393 = .ok (.iconst 2, 1) := by decide +kernel
theorem dX7_two_394 : decode cX7_two 394 = .ok (.iload 7, 2) := by decide +kernel
theorem dX7_two_396 : decode cX7_two 396 = .ok (.imul, 1) := by decide +kernel
theorem dX7_two_397 : decode cX7_two 397 = .ok (.iconst 1, 1) := by decide +kernel
theorem dX7_two_398 : decode cX7_two 398 = .ok (.iadd, 1) := by decide +kernel
theorem dX7_two_399 : decode cX7_two 399 = .ok (.iaload, 1) := by decide +kernel
theorem dX7_two_400 : decode cX7_two 400 = .ok (.if_icmp .lt 16, 3) := by decide +kernel
theorem dX7_two_403 : decode cX7_two 403 = .ok (.bipush 10, 2) := by decide +kernel
theorem dX7_two_405 : decode cX7_two 405 = .ok (.iload 5, 2) := by decide +kernel
theorem dX7_two_407 : decode cX7_two 407 = .ok (.iconst 2, 1) := by decide +kernel
theorem dX7_two_408 : decode cX7_two 408 = .ok (.idiv, 1) := by decide +kernel
theorem dX7_two_409 : decode cX7_two 409 = .ok (.imul, 1) := by decide +kernel
theorem dX7_two_410 : decode cX7_two 410 = .ok (.iload 5, 2) := by decide +kernel
theorem dX7_two_412 : decode cX7_two 412 = .ok (.iconst 2, 1) := by decide +kernel
theorem dX7_two_413 : decode cX7_two 413 = .ok (.irem, 1) := by decide +kernel
theorem dX7_two_414 : decode cX7_two 414 = .ok (.iadd, 1) := by decide +kernel
theorem dX7_two_415 : decode cX7_two 415 = .ok (.ireturn, 1) := by decide +kernel
theorem dX7_two_416 : decode cX7_two 416 = .ok (.iinc 5 1, 3) := by decide +kernel
theorem dX7_two_419 : decode cX7_two 419 = .ok (.goto (-98), 3) := by decide +kernel
theorem dX7_two_422 : decode cX7_two 422 = .ok (.bipush (-9), 2) := by decide +kernel
theorem dX7_two_424 : decode cX7_two 424 = .ok (.ireturn, 1) := by decide +kernel
theorem dX7_divisor_0 : decode cX7_divisor 0 = .ok (.lload_n 0, 1) := by decide +kernel
theorem dX7_divisor_1 : decode cX7_divisor 1 = .ok (.lstore 4, 2) := by decide +kernel
theorem dX7_divisor_3 : decode cX7_divisor 3 = .ok (.lload_n 2, 1) := by decide +kernel
theorem dX7_divisor_4 : decode cX7_divisor 4 = .ok (.lstore 6, 2) := by decide +kernel
theorem dX7_divisor_6 : decode cX7_divisor 6 = .ok (.lload 6, 2) := by decide +kernel
theorem dX7_divisor_8 : decode cX7_divisor 8 = .ok (.lconst 0, 1) := by decide +kernel
theorem dX7_divisor_9 : decode cX7_divisor 9 = .ok (.lcmp, 1) := by decide +kernel
theorem dX7_divisor_10 : decode cX7_divisor 10 = .ok (.ifCond .eq 21, 3) := by decide +kernel
theorem dX7_divisor_13 : decode cX7_divisor 13 = .ok (.lload 4, 2) := by decide +kernel
theorem dX7_divisor_15 : decode cX7_divisor 15 = .ok (.lload 6, 2) := by decide +kernel
theorem dX7_divisor_17 : decode cX7_divisor 17 = .ok (.lrem, 1) := by decide +kernel
theorem dX7_divisor_18 : decode cX7_divisor 18 = .ok (.lstore 8, 2) := by decide +kernel
theorem dX7_divisor_20 : decode cX7_divisor 20 = .ok (.lload 6, 2) := by decide +kernel
theorem dX7_divisor_22 : decode cX7_divisor 22 = .ok (.lstore 4, 2) := by decide +kernel
theorem dX7_divisor_24 : decode cX7_divisor 24 = .ok (.lload 8, 2) := by decide +kernel
theorem dX7_divisor_26 : decode cX7_divisor 26 = .ok (.lstore 6, 2) := by decide +kernel
theorem dX7_divisor_28 : decode cX7_divisor 28 = .ok (.goto (-22), 3) := by decide +kernel
theorem dX7_divisor_31 : decode cX7_divisor 31 = .ok (.lload 4, 2) := by decide +kernel
theorem dX7_divisor_33 : decode cX7_divisor 33 = .ok (.lreturn, 1) := by decide +kernel
theorem dX7_partOf_0 : decode cX7_partOf 0 = .ok (.lload_n 0, 1) := by decide +kernel
theorem dX7_partOf_1 : decode cX7_partOf 1 = .ok (.lconst 0, 1) := by decide +kernel
theorem dX7_partOf_2 : decode cX7_partOf 2 = .ok (.lcmp, 1) := by decide +kernel
theorem dX7_partOf_3 : decode cX7_partOf 3 = .ok (.ifCond .ne 7, 3) := by decide +kernel
theorem dX7_partOf_6 : decode cX7_partOf 6 = .ok (.iload 4, 2) := by decide +kernel
theorem dX7_partOf_8 : decode cX7_partOf 8 = .ok (.i2l, 1) := by decide +kernel
theorem dX7_partOf_9 : decode cX7_partOf 9 = .ok (.lreturn, 1) := by decide +kernel
theorem dX7_partOf_10 : decode cX7_partOf 10 = .ok (.lload_n 0, 1) := by decide +kernel
theorem dX7_partOf_11 : decode cX7_partOf 11 = .ok (.lload_n 2, 1) := by decide +kernel
theorem dX7_partOf_12 : decode cX7_partOf 12 = .ok (.invokestatic 372, 3) := by decide +kernel
theorem dX7_partOf_15 : decode cX7_partOf 15 = .ok (.lstore 5, 2) := by decide +kernel
theorem dX7_partOf_17 : decode cX7_partOf 17 = .ok (.iload 4, 2) := by decide +kernel
theorem dX7_partOf_19 : decode cX7_partOf 19 = .ok (.ifCond .ne 10, 3) := by decide +kernel
theorem dX7_partOf_22 : decode cX7_partOf 22 = .ok (.lload_n 0, 1) := by decide +kernel
theorem dX7_partOf_23 : decode cX7_partOf 23 = .ok (.lload 5, 2) := by decide +kernel
theorem dX7_partOf_25 : decode cX7_partOf 25 = .ok (.ldiv, 1) := by decide +kernel
theorem dX7_partOf_26 : decode cX7_partOf 26 = .ok (.goto 7, 3) := by decide +kernel
theorem dX7_partOf_29 : decode cX7_partOf 29 = .ok (.lload_n 2, 1) := by decide +kernel
theorem dX7_partOf_30 : decode cX7_partOf 30 = .ok (.lload 5, 2) := by decide +kernel
theorem dX7_partOf_32 : decode cX7_partOf 32 = .ok (.ldiv, 1) := by decide +kernel
theorem dX7_partOf_33 : decode cX7_partOf 33 = .ok (.lreturn, 1) := by decide +kernel
theorem dX7_still_0 : decode cX7_still 0 = .ok (.aload_n 0, 1) := by decide +kernel
theorem dX7_still_1 : decode cX7_still 1 = .ok (.iconst 0, 1) := by decide +kernel
theorem dX7_still_2 : decode cX7_still 2 = .ok (.putfield 114, 3) := by decide +kernel
theorem dX7_still_5 : decode cX7_still 5 = .ok (.aload_n 0, 1) := by decide +kernel
theorem dX7_still_6 : decode cX7_still 6 = .ok (.iload_n 1, 1) := by decide +kernel
theorem dX7_still_7 : decode cX7_still 7 = .ok (.invokevirtual 323, 3) := by decide +kernel
theorem dX7_still_10 : decode cX7_still 10 = .ok (.ifCond .ne 14, 3) := by decide +kernel
theorem dX7_still_13 : decode cX7_still 13 = .ok (.ldc2_w 376, 3) := by decide +kernel
theorem dX7_still_16 : decode cX7_still 16 = .ok (.aload_n 0, 1) := by decide +kernel
theorem dX7_still_17 : decode cX7_still 17 = .ok (.iconst (-1), 1) := by decide +kernel
theorem dX7_still_18 : decode cX7_still 18 = .ok (.invokevirtual 219, 3) := by decide +kernel
theorem dX7_still_21 : decode cX7_still 21 = .ok (.i2l, 1) := by decide +kernel
theorem dX7_still_22 : decode cX7_still 22 = .ok (.lsub, 1) := by decide +kernel
theorem dX7_still_23 : decode cX7_still 23 = .ok (.lreturn, 1) := by decide +kernel
theorem dX7_still_24 : decode cX7_still 24 = .ok (.iload_n 2, 1) := by decide +kernel
theorem dX7_still_25 : decode cX7_still 25 = .ok (.ifCond .lt 8, 3) := by decide +kernel
theorem dX7_still_28 : decode cX7_still 28 = .ok (.iload_n 3, 1) := by decide +kernel
theorem dX7_still_29 : decode cX7_still 29 = .ok (.iconst 2, 1) := by decide +kernel
theorem dX7_still_30 : decode cX7_still 30 = .ok (.if_icmp .ge 15, 3) := by decide +kernel
theorem dX7_still_33 : decode cX7_still 33 = .ok (.ldc2_w 376, 3) := by decide +kernel
theorem dX7_still_36 : decode cX7_still 36 = .ok (.aload_n 0, 1) := by decide +kernel
theorem dX7_still_37 : decode cX7_still 37 = .ok (.bipush (-4), 2) := by decide +kernel
theorem dX7_still_39 : decode cX7_still 39 = .ok (.invokevirtual 219, 3) := by decide +kernel
theorem dX7_still_42 : decode cX7_still 42 = .ok (.i2l, 1) := by decide +kernel
theorem dX7_still_43 : decode cX7_still 43 = .ok (.lsub, 1) := by decide +kernel
theorem dX7_still_44 : decode cX7_still 44 = .ok (.lreturn, 1) := by decide +kernel
theorem dX7_still_45 : decode cX7_still 45 = .ok (.iload_n 2, 1) := by decide +kernel
theorem dX7_still_46 : decode cX7_still 46 = .ok (.bipush 7, 2) := by decide +kernel
theorem dX7_still_48 : decode cX7_still 48 = .ok (.if_icmp .gt 9, 3) := by decide +kernel
theorem dX7_still_51 : decode cX7_still 51 = .ok (.iload_n 3, 1) := by decide +kernel
theorem dX7_still_52 : decode cX7_still 52 = .ok (.bipush 20, 2) := by decide +kernel
theorem dX7_still_54 : decode cX7_still 54 = .ok (.if_icmp .le 15, 3) := by decide +kernel
theorem dX7_still_57 : decode cX7_still 57 = .ok (.ldc2_w 376, 3) := by decide +kernel
theorem dX7_still_60 : decode cX7_still 60 = .ok (.aload_n 0, 1) := by decide +kernel
theorem dX7_still_61 : decode cX7_still 61 = .ok (.bipush (-6), 2) := by decide +kernel
theorem dX7_still_63 : decode cX7_still 63 = .ok (.invokevirtual 219, 3) := by decide +kernel
theorem dX7_still_66 : decode cX7_still 66 = .ok (.i2l, 1) := by decide +kernel
theorem dX7_still_67 : decode cX7_still 67 = .ok (.lsub, 1) := by decide +kernel
theorem dX7_still_68 : decode cX7_still 68 = .ok (.lreturn, 1) := by decide +kernel
theorem dX7_still_69 : decode cX7_still 69 = .ok (.iload 4, 2) := by decide +kernel
theorem dX7_still_71 : decode cX7_still 71 = .ok (.i2l, 1) := by decide +kernel
theorem dX7_still_72 : decode cX7_still 72 = .ok (.lconst 0, 1) := by decide +kernel
theorem dX7_still_73 : decode cX7_still 73 = .ok (.lconst 1, 1) := by decide +kernel
theorem dX7_still_74 : decode cX7_still 74 = .ok (.invokestatic 122, 3) := by decide +kernel
theorem dX7_still_77 : decode cX7_still 77 = .ok (.ifCond .ne 15, 3) := by decide +kernel
theorem dX7_still_80 : decode cX7_still 80 = .ok (.ldc2_w 376, 3) := by decide +kernel
theorem dX7_still_83 : decode cX7_still 83 = .ok (.aload_n 0, 1) := by decide +kernel
theorem dX7_still_84 : decode cX7_still 84 = .ok (.bipush (-2), 2) := by decide +kernel
theorem dX7_still_86 : decode cX7_still 86 = .ok (.invokevirtual 219, 3) := by decide +kernel
theorem dX7_still_89 : decode cX7_still 89 = .ok (.i2l, 1) := by decide +kernel
theorem dX7_still_90 : decode cX7_still 90 = .ok (.lsub, 1) := by decide +kernel
theorem dX7_still_91 : decode cX7_still 91 = .ok (.lreturn, 1) := by decide +kernel
theorem dX7_still_92 : decode cX7_still 92 = .ok (.lconst 0, 1) := by decide +kernel
theorem dX7_still_93 : decode cX7_still 93 = .ok (.lstore 5, 2) := by decide +kernel
theorem dX7_still_95 : decode cX7_still 95 = .ok (.lconst 1, 1) := by decide +kernel
theorem dX7_still_96 : decode cX7_still 96 = .ok (.lstore 7, 2) := by decide +kernel
theorem dX7_still_98 : decode cX7_still 98 = .ok (.iconst 0, 1) := by decide +kernel
theorem dX7_still_99 : decode cX7_still 99 = .ok (.istore 9, 2) := by decide +kernel
theorem dX7_still_101 : decode cX7_still 101 = .ok (.iload 9, 2) := by decide +kernel
theorem dX7_still_103 : decode cX7_still 103 = .ok (.iload_n 2, 1) := by decide +kernel
theorem dX7_still_104 : decode cX7_still 104 = .ok (.if_icmp .ge 16, 3) := by decide +kernel
theorem dX7_still_107 : decode cX7_still 107 = .ok (.lload 7, 2) := by decide +kernel
theorem dX7_still_109 : decode cX7_still 109 = .ok (.iload_n 3, 1) := by decide +kernel
theorem dX7_still_110 : decode cX7_still 110 = .ok (.i2l, 1) := by decide +kernel
theorem dX7_still_111 : decode cX7_still 111 = .ok (.lmul, 1) := by decide +kernel
theorem dX7_still_112 : decode cX7_still 112 = .ok (.lstore 7, 2) := by decide +kernel
theorem dX7_still_114 : decode cX7_still 114 = .ok (.iinc 9 1, 3) := by decide +kernel
theorem dX7_still_117 : decode cX7_still 117 = .ok (.goto (-16), 3) := by decide +kernel
theorem dX7_still_120 : decode cX7_still 120 = .ok (.aload_n 0, 1) := by decide +kernel
theorem dX7_still_121 : decode cX7_still 121 = .ok (.invokevirtual 289, 3) := by decide +kernel
theorem dX7_still_124 : decode cX7_still 124 = .ok (.iconst 0, 1) := by decide +kernel
theorem dX7_still_125 : decode cX7_still 125 = .ok (.istore 9, 2) := by decide +kernel
theorem dX7_still_127 : decode cX7_still 127 = .ok (.iload 9, 2) := by decide +kernel
theorem dX7_still_129 : decode cX7_still 129 = .ok (.iconst 1, 1) := by decide +kernel
theorem dX7_still_130 : decode cX7_still 130 = .ok (.iload_n 2, 1) := by decide +kernel
theorem dX7_still_131 : decode cX7_still 131 = .ok (.ishl, 1) := by decide +kernel
theorem dX7_still_132 : decode cX7_still 132 = .ok (.if_icmp .ge 95, 3) := by decide +kernel
theorem dX7_still_135 : decode cX7_still 135 = .ok (.lconst 1, 1) := by decide +kernel
theorem dX7_still_136 : decode cX7_still 136 = .ok (.lstore 10, 2) := by decide +kernel
theorem dX7_still_138 : decode cX7_still 138 = .ok (.iconst 0, 1) := by decide +kernel
theorem dX7_still_139 : decode cX7_still 139 = .ok (.istore 12, 2) := by decide +kernel
theorem dX7_still_141 : decode cX7_still 141 = .ok (.iload 12, 2) := by decide +kernel
theorem dX7_still_143 : decode cX7_still 143 = .ok (.iload_n 2, 1) := by decide +kernel
theorem dX7_still_144 : decode cX7_still 144 = .ok (.if_icmp .ge 47, 3) := by decide +kernel
theorem dX7_still_147 : decode cX7_still 147 = .ok (.lload 10, 2) := by decide +kernel
theorem dX7_still_149 : decode cX7_still 149 = .ok (.iload 9, 2) := by decide +kernel
theorem dX7_still_151 : decode cX7_still 151 = .ok (.iload 12, 2) := by decide +kernel
theorem dX7_still_153 : decode cX7_still 153 = .ok (.invokestatic 378, 3) := by decide +kernel
theorem dX7_still_156 : decode cX7_still 156 = .ok (.ifCond .eq 7, 3) := by decide +kernel
theorem dX7_still_159 : decode cX7_still 159 = .ok (.lconst 1, 1) := by decide +kernel
theorem dX7_still_160 : decode cX7_still 160 = .ok (.goto 7, 3) := by decide +kernel
theorem dX7_still_163 : decode cX7_still 163 = .ok (.iload_n 3, 1) := by decide +kernel
theorem dX7_still_164 : decode cX7_still 164 = .ok (.iconst 1, 1) := by decide +kernel
theorem dX7_still_165 : decode cX7_still 165 = .ok (.isub, 1) := by decide +kernel
theorem dX7_still_166 : decode cX7_still 166 = .ok (.i2l, 1) := by decide +kernel
theorem dX7_still_167 : decode cX7_still 167 = .ok (.lmul, 1) := by decide +kernel
theorem dX7_still_168 : decode cX7_still 168 = .ok (.lstore 10, 2) := by decide +kernel
theorem dX7_still_170 : decode cX7_still 170 = .ok (.aload_n 0, 1) := by decide +kernel
theorem dX7_still_171 : decode cX7_still 171 = .ok (.iload 9, 2) := by decide +kernel
theorem dX7_still_173 : decode cX7_still 173 = .ok (.iload 12, 2) := by decide +kernel
theorem dX7_still_175 : decode cX7_still 175 = .ok (.invokestatic 378, 3) := by decide +kernel
theorem dX7_still_178 : decode cX7_still 178 = .ok (.putfield 206, 3) := by decide +kernel
theorem dX7_still_181 : decode cX7_still 181 = .ok (.aload_n 0, 1) := by decide +kernel
theorem dX7_still_182 : decode cX7_still 182 = .ok (.invokevirtual 213, 3) := by decide +kernel
theorem dX7_still_185 : decode cX7_still 185 = .ok (.iinc 12 1, 3) := by decide +kernel
theorem dX7_still_188 : decode cX7_still 188 = .ok (.goto (-47), 3) := by decide +kernel
theorem dX7_still_191 : decode cX7_still 191 = .ok (.aload_n 0, 1) := by decide +kernel
theorem dX7_still_192 : decode cX7_still 192 = .ok (.iconst 0, 1) := by decide +kernel
theorem dX7_still_193 : decode cX7_still 193 = .ok (.putfield 206, 3) := by decide +kernel
theorem dX7_still_196 : decode cX7_still 196 = .ok (.lload 5, 2) := by decide +kernel
theorem dX7_still_198 : decode cX7_still 198 = .ok (.aload_n 0, 1) := by decide +kernel
theorem dX7_still_199 : decode cX7_still 199 = .ok (.getfield 38, 3) := by decide +kernel
theorem dX7_still_202 : decode cX7_still 202 = .ok (.iload_n 1, 1) := by decide +kernel
theorem dX7_still_203 : decode cX7_still 203 = .ok (.iaload, 1) := by decide +kernel
theorem dX7_still_204 : decode cX7_still 204 = .ok (.iconst 1, 1) := by decide +kernel
theorem dX7_still_205 : decode cX7_still 205 = .ok (.if_icmp .ne 8, 3) := by decide +kernel
theorem dX7_still_208 : decode cX7_still 208 = .ok (.lload 10, 2) := by decide +kernel
theorem dX7_still_210 : decode cX7_still 210 = .ok (.goto 4, 3) := by decide +kernel
theorem dX7_still_213 : decode cX7_still 213 = .ok (.lconst 0, 1) := by decide +kernel
theorem dX7_still_214 : decode cX7_still 214 = .ok (.ladd, 1) := by decide +kernel
theorem dX7_still_215 : decode cX7_still 215 = .ok (.lstore 5, 2) := by decide +kernel
theorem dX7_still_217 : decode cX7_still 217 = .ok (.aload_n 0, 1) := by decide +kernel
theorem dX7_still_218 : decode cX7_still 218 = .ok (.invokevirtual 295, 3) := by decide +kernel
theorem dX7_still_221 : decode cX7_still 221 = .ok (.iinc 9 1, 3) := by decide +kernel
theorem dX7_still_224 : decode cX7_still 224 = .ok (.goto (-97), 3) := by decide +kernel
theorem dX7_still_227 : decode cX7_still 227 = .ok (.lload 5, 2) := by decide +kernel
theorem dX7_still_229 : decode cX7_still 229 = .ok (.lload 7, 2) := by decide +kernel
theorem dX7_still_231 : decode cX7_still 231 = .ok (.iload 4, 2) := by decide +kernel
theorem dX7_still_233 : decode cX7_still 233 = .ok (.invokestatic 381, 3) := by decide +kernel
theorem dX7_still_236 : decode cX7_still 236 = .ok (.lreturn, 1) := by decide +kernel
theorem dX7_coldest_0 : decode cX7_coldest 0 = .ok (.aload_n 0, 1) := by decide +kernel
theorem dX7_coldest_1 : decode cX7_coldest 1 = .ok (.iconst 0, 1) := by decide +kernel
theorem dX7_coldest_2 : decode cX7_coldest 2 = .ok (.putfield 114, 3) := by decide +kernel
theorem dX7_coldest_5 : decode cX7_coldest 5 = .ok (.iload_n 1, 1) := by decide +kernel
theorem dX7_coldest_6 : decode cX7_coldest 6 = .ok (.i2l, 1) := by decide +kernel
theorem dX7_coldest_7 : decode cX7_coldest 7 = .ok (.ldc2_w 358, 3) := by decide +kernel
theorem dX7_coldest_10 : decode cX7_coldest 10 = .ok (.ldc2_w 129, 3) := by decide +kernel
theorem dX7_coldest_13 : decode cX7_coldest 13 = .ok (.invokestatic 122, 3) := by decide +kernel
theorem dX7_coldest_16 : decode cX7_coldest 16 = .ok (.ifCond .ne 9, 3) := by decide +kernel
theorem dX7_coldest_19 : decode cX7_coldest 19 = .ok (.aload_n 0, 1) := by decide +kernel
theorem dX7_coldest_20 : decode cX7_coldest 20 = .ok (.iconst (-1), 1) := by decide +kernel
theorem dX7_coldest_21 : decode cX7_coldest 21 = .ok (.invokevirtual 219, 3) := by decide +kernel
theorem dX7_coldest_24 : decode cX7_coldest 24 = .ok (.ireturn, 1) := by decide +kernel
theorem dX7_coldest_25 : decode cX7_coldest 25 = .ok (.iconst 0, 1) := by decide +kernel
theorem dX7_coldest_26 : decode cX7_coldest 26 = .ok (.istore_n 2, 1) := by decide +kernel
theorem dX7_coldest_27 : decode cX7_coldest 27 = .ok (.iconst 0, 1) := by decide +kernel
theorem dX7_coldest_28 : decode cX7_coldest 28 = .ok (.istore_n 3, 1) := by decide +kernel
theorem dX7_coldest_29 : decode cX7_coldest 29 = .ok (.iconst 0, 1) := by decide +kernel
theorem dX7_coldest_30 : decode cX7_coldest 30 = .ok (.istore 4, 2) := by decide +kernel
theorem dX7_coldest_32 : decode cX7_coldest 32 = .ok (.iload 4, 2) := by decide +kernel
theorem dX7_coldest_34 : decode cX7_coldest 34 = .ok (.bipush 36, 2) := by decide +kernel
theorem dX7_coldest_36 : decode cX7_coldest 36 = .ok (.if_icmp .ge 70, 3) := by decide +kernel
theorem dX7_coldest_39 : decode cX7_coldest 39 = .ok (.aload_n 0, 1) := by decide +kernel
theorem dX7_coldest_40 : decode cX7_coldest 40 = .ok (.getfield 7, 3) := by decide +kernel
theorem dX7_coldest_43 : decode cX7_coldest 43 = .ok (.iload 4, 2) := by decide +kernel
theorem dX7_coldest_45 : decode cX7_coldest 45 = .ok (.faload, 1) := by decide +kernel
theorem dX7_coldest_46 : decode cX7_coldest 46 = .ok (.aload_n 0, 1) := by decide +kernel
theorem dX7_coldest_47 : decode cX7_coldest 47 = .ok (.getfield 7, 3) := by decide +kernel
theorem dX7_coldest_50 : decode cX7_coldest 50 = .ok (.iload_n 2, 1) := by decide +kernel
theorem dX7_coldest_51 : decode cX7_coldest 51 = .ok (.faload, 1) := by decide +kernel
theorem dX7_coldest_52 : decode cX7_coldest 52 = .ok (.fcmp .g, 1) := by decide +kernel
theorem dX7_coldest_53 : decode cX7_coldest 53 = .ok (.ifCond .ge 8, 3) := by decide +kernel
theorem dX7_coldest_56 : decode cX7_coldest 56 = .ok (.iload 4, 2) := by decide +kernel
theorem dX7_coldest_58 : decode cX7_coldest 58 = .ok (.goto 4, 3) := by decide +kernel
theorem dX7_coldest_61 : decode cX7_coldest 61 = .ok (.iload_n 2, 1) := by decide +kernel
theorem dX7_coldest_62 : decode cX7_coldest 62 = .ok (.istore_n 2, 1) := by decide +kernel
theorem dX7_coldest_63 : decode cX7_coldest 63 = .ok (.iload_n 3, 1) := by decide +kernel
theorem dX7_coldest_64 : decode cX7_coldest 64 = .ok (.iload_n 1, 1) := by decide +kernel
theorem dX7_coldest_65 : decode cX7_coldest 65 = .ok (.ifCond .lt 32, 3) := by decide +kernel
theorem dX7_coldest_68 : decode cX7_coldest 68 = .ok (.aload_n 0, 1) := by decide +kernel
theorem dX7_coldest_69 : decode cX7_coldest 69 = .ok (.getfield 7, 3) := by decide +kernel
theorem dX7_coldest_72 : decode cX7_coldest 72 = .ok (.iload 4, 2) := by decide +kernel
theorem dX7_coldest_74 : decode cX7_coldest 74 = .ok (.faload, 1) := by decide +kernel
theorem dX7_coldest_75 : decode cX7_coldest 75 = .ok (.aload_n 0, 1) := by decide +kernel
theorem dX7_coldest_76 : decode cX7_coldest 76 = .ok (.getfield 7, 3) := by decide +kernel
theorem dX7_coldest_79 : decode cX7_coldest 79 = .ok (.iload_n 1, 1) := by decide +kernel
theorem dX7_coldest_80 : decode cX7_coldest 80 = .ok (.ifCond .ge 7, 3) := by decide +kernel
theorem dX7_coldest_83 : decode cX7_coldest 83 = .ok (.iconst 0, 1) := by decide +kernel
theorem dX7_coldest_84 : decode cX7_coldest 84 = .ok (.goto 4, 3) := by decide +kernel
theorem dX7_coldest_87 : decode cX7_coldest 87 = .ok (.iload_n 1, 1) := by decide +kernel
theorem dX7_coldest_88 : decode cX7_coldest 88 = .ok (.faload, 1) := by decide +kernel
theorem dX7_coldest_89 : decode cX7_coldest 89 = .ok (.fcmp .l, 1) := by decide +kernel
theorem dX7_coldest_90 : decode cX7_coldest 90 = .ok (.ifCond .gt 7, 3) := by decide +kernel
theorem dX7_coldest_93 : decode cX7_coldest 93 = .ok (.iconst 1, 1) := by decide +kernel
theorem dX7_coldest_94 : decode cX7_coldest 94 = .ok (.goto 4, 3) := by decide +kernel
theorem dX7_coldest_97 : decode cX7_coldest 97 = .ok (.iconst 0, 1) := by decide +kernel
theorem dX7_coldest_98 : decode cX7_coldest 98 = .ok (.iadd, 1) := by decide +kernel
theorem dX7_coldest_99 : decode cX7_coldest 99 = .ok (.istore_n 3, 1) := by decide +kernel
theorem dX7_coldest_100 : decode cX7_coldest 100 = .ok (.iinc 4 1, 3) := by decide +kernel
theorem dX7_coldest_103 : decode cX7_coldest 103 = .ok (.goto (-71), 3) := by decide +kernel
theorem dX7_coldest_106 : decode cX7_coldest 106 = .ok (.iload_n 1, 1) := by decide +kernel
theorem dX7_coldest_107 : decode cX7_coldest 107 = .ok (.ifCond .ge 7, 3) := by decide +kernel
theorem dX7_coldest_110 : decode cX7_coldest 110 = .ok (.iload_n 2, 1) := by decide +kernel
theorem dX7_coldest_111 : decode cX7_coldest 111 = .ok (.goto 4, 3) := by decide +kernel
theorem dX7_coldest_114 : decode cX7_coldest 114 = .ok (.iload_n 3, 1) := by decide +kernel
theorem dX7_coldest_115 : decode cX7_coldest 115 = .ok (.ireturn, 1) := by decide +kernel
theorem dX7_sum_0 : decode cX7_sum 0 = .ok (.aload_n 0, 1) := by decide +kernel
theorem dX7_sum_1 : decode cX7_sum 1 = .ok (.iconst 0, 1) := by decide +kernel
theorem dX7_sum_2 : decode cX7_sum 2 = .ok (.putfield 114, 3) := by decide +kernel
theorem dX7_sum_5 : decode cX7_sum 5 = .ok (.iload_n 1, 1) := by decide +kernel
theorem dX7_sum_6 : decode cX7_sum 6 = .ok (.i2l, 1) := by decide +kernel
theorem dX7_sum_7 : decode cX7_sum 7 = .ok (.lconst 0, 1) := by decide +kernel
theorem dX7_sum_8 : decode cX7_sum 8 = .ok (.lconst 1, 1) := by decide +kernel
theorem dX7_sum_9 : decode cX7_sum 9 = .ok (.invokestatic 122, 3) := by decide +kernel
theorem dX7_sum_12 : decode cX7_sum 12 = .ok (.ifCond .ne 10, 3) := by decide +kernel
theorem dX7_sum_15 : decode cX7_sum 15 = .ok (.aload_n 0, 1) := by decide +kernel
theorem dX7_sum_16 : decode cX7_sum 16 = .ok (.bipush (-2), 2) := by decide +kernel
theorem dX7_sum_18 : decode cX7_sum 18 = .ok (.invokevirtual 219, 3) := by decide +kernel
theorem dX7_sum_21 : decode cX7_sum 21 = .ok (.ireturn, 1) := by decide +kernel
theorem dX7_sum_22 : decode cX7_sum 22 = .ok (.fconst 0, 1) := by decide +kernel
theorem dX7_sum_23 : decode cX7_sum 23 = .ok (.fstore_n 2, 1) := by decide +kernel
theorem dX7_sum_24 : decode cX7_sum 24 = .ok (.iconst 0, 1) := by decide +kernel
theorem dX7_sum_25 : decode cX7_sum 25 = .ok (.istore_n 3, 1) := by decide +kernel
theorem dX7_sum_26 : decode cX7_sum 26 = .ok (.iload_n 3, 1) := by decide +kernel
theorem dX7_sum_27 : decode cX7_sum 27 = .ok (.bipush 36, 2) := by decide +kernel
theorem dX7_sum_29 : decode cX7_sum 29 = .ok (.if_icmp .ge 18, 3) := by decide +kernel
theorem dX7_sum_32 : decode cX7_sum 32 = .ok (.fload_n 2, 1) := by decide +kernel
theorem dX7_sum_33 : decode cX7_sum 33 = .ok (.aload_n 0, 1) := by decide +kernel
theorem dX7_sum_34 : decode cX7_sum 34 = .ok (.getfield 7, 3) := by decide +kernel
theorem dX7_sum_37 : decode cX7_sum 37 = .ok (.iload_n 3, 1) := by decide +kernel
theorem dX7_sum_38 : decode cX7_sum 38 = .ok (.faload, 1) := by decide +kernel
theorem dX7_sum_39 : decode cX7_sum 39 = .ok (.fadd, 1) := by decide +kernel
theorem dX7_sum_40 : decode cX7_sum 40 = .ok (.fstore_n 2, 1) := by decide +kernel
theorem dX7_sum_41 : decode cX7_sum 41 = .ok (.iinc 3 1, 3) := by decide +kernel
theorem dX7_sum_44 : decode cX7_sum 44 = .ok (.goto (-18), 3) := by decide +kernel
theorem dX7_sum_47 : decode cX7_sum 47 = .ok (.fload_n 2, 1) := by decide +kernel
theorem dX7_sum_48 : decode cX7_sum 48 = .ok (.ldc_w 385, 3) := by decide +kernel
theorem dX7_sum_51 : decode cX7_sum 51 = .ok (.fdiv, 1) := by decide +kernel
theorem dX7_sum_52 : decode cX7_sum 52 = .ok (.fstore_n 3, 1) := by decide +kernel
theorem dX7_sum_53 : decode cX7_sum 53 = .ok (.iload_n 1, 1) := by decide +kernel
theorem dX7_sum_54 : decode cX7_sum 54 = .ok (.ifCond .ne 10, 3) := by decide +kernel
theorem dX7_sum_57 : decode cX7_sum 57 = .ok (.fload_n 2, 1) := by decide +kernel
theorem dX7_sum_58 : decode cX7_sum 58 = .ok (.invokestatic 330, 3) := by decide +kernel
theorem dX7_sum_61 : decode cX7_sum 61 = .ok (.goto 8, 3) := by decide +kernel
theorem dX7_sum_64 : decode cX7_sum 64 = .ok (.fload_n 3, 1) := by decide +kernel
theorem dX7_sum_65 : decode cX7_sum 65 = .ok (.ldc 131, 2) := by decide +kernel
theorem dX7_sum_67 : decode cX7_sum 67 = .ok (.fmul, 1) := by decide +kernel
theorem dX7_sum_68 : decode cX7_sum 68 = .ok (.f2i, 1) := by decide +kernel
theorem dX7_sum_69 : decode cX7_sum 69 = .ok (.ireturn, 1) := by decide +kernel
theorem dX7_far_0 : decode cX7_far 0 = .ok (.iload_n 0, 1) := by decide +kernel
theorem dX7_far_1 : decode cX7_far 1 = .ok (.iload_n 1, 1) := by decide +kernel
theorem dX7_far_2 : decode cX7_far 2 = .ok (.if_icmp .ge 9, 3) := by decide +kernel
theorem dX7_far_5 : decode cX7_far 5 = .ok (.iload_n 1, 1) := by decide +kernel
theorem dX7_far_6 : decode cX7_far 6 = .ok (.iload_n 0, 1) := by decide +kernel
theorem dX7_far_7 : decode cX7_far 7 = .ok (.isub, 1) := by decide +kernel
theorem dX7_far_8 : decode cX7_far 8 = .ok (.goto 6, 3) := by decide +kernel
theorem dX7_far_11 : decode cX7_far 11 = .ok (.iload_n 0, 1) := by decide +kernel
theorem dX7_far_12 : decode cX7_far 12 = .ok (.iload_n 1, 1) := by decide +kernel
theorem dX7_far_13 : decode cX7_far 13 = .ok (.isub, 1) := by decide +kernel
theorem dX7_far_14 : decode cX7_far 14 = .ok (.ireturn, 1) := by decide +kernel
theorem dX7_nearest_0 : decode cX7_nearest 0 = .ok (.aload_n 0, 1) := by decide +kernel
theorem dX7_nearest_1 : decode cX7_nearest 1 = .ok (.iconst 0, 1) := by decide +kernel
theorem dX7_nearest_2 : decode cX7_nearest 2 = .ok (.putfield 114, 3) := by decide +kernel
theorem dX7_nearest_5 : decode cX7_nearest 5 = .ok (.aload_n 0, 1) := by decide +kernel
theorem dX7_nearest_6 : decode cX7_nearest 6 = .ok (.iload_n 1, 1) := by decide +kernel
theorem dX7_nearest_7 : decode cX7_nearest 7 = .ok (.invokevirtual 323, 3) := by decide +kernel
theorem dX7_nearest_10 : decode cX7_nearest 10 = .ok (.ifCond .eq 13, 3) := by decide +kernel
theorem dX7_nearest_13 : decode cX7_nearest 13 = .ok (.iload_n 2, 1) := by decide +kernel
theorem dX7_nearest_14 : decode cX7_nearest 14 = .ok (.i2l, 1) := by decide +kernel
theorem dX7_nearest_15 : decode cX7_nearest 15 = .ok (.lconst 0, 1) := by decide +kernel
theorem dX7_nearest_16 : decode cX7_nearest 16 = .ok (.lconst 1, 1) := by decide +kernel
theorem dX7_nearest_17 : decode cX7_nearest 17 = .ok (.invokestatic 122, 3) := by decide +kernel
theorem dX7_nearest_20 : decode cX7_nearest 20 = .ok (.ifCond .ne 22, 3) := by decide +kernel
theorem dX7_nearest_23 : decode cX7_nearest 23 = .ok (.aload_n 0, 1) := by decide +kernel
theorem dX7_nearest_24 : decode cX7_nearest 24 = .ok (.aload_n 0, 1) := by decide +kernel
theorem dX7_nearest_25 : decode cX7_nearest 25 = .ok (.iload_n 1, 1) := by decide +kernel
theorem dX7_nearest_26 : decode cX7_nearest 26 = .ok (.invokevirtual 323, 3) := by decide +kernel
theorem dX7_nearest_29 : decode cX7_nearest 29 = .ok (.ifCond .eq 8, 3) := by decide +kernel
theorem dX7_nearest_32 : decode cX7_nearest 32 = .ok (.bipush (-2), 2) := by decide +kernel
theorem dX7_nearest_34 : decode cX7_nearest 34 = .ok (.goto 4, 3) := by decide +kernel
theorem dX7_nearest_37 : decode cX7_nearest 37 = .ok (.iconst (-1), 1) := by decide +kernel
theorem dX7_nearest_38 : decode cX7_nearest 38 = .ok (.invokevirtual 219, 3) := by decide +kernel
theorem dX7_nearest_41 : decode cX7_nearest 41 = .ok (.ireturn, 1) := by decide +kernel
theorem dX7_nearest_42 : decode cX7_nearest 42 = .ok (.bipush (-9), 2) := by decide +kernel
theorem dX7_nearest_44 : decode cX7_nearest 44 = .ok (.istore_n 3, 1) := by decide +kernel
theorem dX7_nearest_45 : decode cX7_nearest 45 = .ok (.bipush (-9), 2) := by decide +kernel
theorem dX7_nearest_47 : decode cX7_nearest 47 = .ok (.istore 4, 2) := by decide +kernel
theorem dX7_nearest_49 : decode cX7_nearest 49 = .ok (.iconst 0, 1) := by decide +kernel
theorem dX7_nearest_50 : decode cX7_nearest 50 = .ok (.istore 5, 2) := by decide +kernel
theorem dX7_nearest_52 : decode cX7_nearest 52 = .ok (.iload 5, 2) := by decide +kernel
theorem dX7_nearest_54 : decode cX7_nearest 54 = .ok (.aload_n 0, 1) := by decide +kernel
theorem dX7_nearest_55 : decode cX7_nearest 55 = .ok (.getfield 119, 3) := by decide +kernel
theorem dX7_nearest_58 : decode cX7_nearest 58 = .ok (.if_icmp .ge 96, 3) := by decide +kernel
theorem dX7_nearest_61 : decode cX7_nearest 61 = .ok (.aload_n 0, 1) := by decide +kernel
theorem dX7_nearest_62 : decode cX7_nearest 62 = .ok (.getfield 23, 3) := by decide +kernel
theorem dX7_nearest_65 : decode cX7_nearest 65 = .ok (.iload 5, 2) := by decide +kernel
theorem dX7_nearest_67 : decode cX7_nearest 67 = .ok (.iaload, 1) := by decide +kernel
theorem dX7_nearest_68 : decode cX7_nearest 68 = .ok (.bipush 6, 2) := by decide +kernel
theorem dX7_nearest_70 : decode cX7_nearest 70 = .ok (.idiv, 1) := by decide +kernel
theorem dX7_nearest_71 : decode cX7_nearest 71 = .ok (.aload_n 0, 1) := by decide +kernel
theorem dX7_nearest_72 : decode cX7_nearest 72 = .ok (.getfield 32, 3) := by decide +kernel
theorem dX7_nearest_75 : decode cX7_nearest 75 = .ok (.iload_n 1, 1) := by decide +kernel
theorem dX7_nearest_76 : decode cX7_nearest 76 = .ok (.iaload, 1) := by decide +kernel
theorem dX7_nearest_77 : decode cX7_nearest 77 = .ok (.bipush 6, 2) := by decide +kernel
theorem dX7_nearest_79 : decode cX7_nearest 79 = .ok (.idiv, 1) := by decide +kernel
theorem dX7_nearest_80 : decode cX7_nearest 80 = .ok (.invokestatic 386, 3) := by decide +kernel
theorem dX7_nearest_83 : decode cX7_nearest 83 = .ok (.aload_n 0, 1) := by decide +kernel
theorem dX7_nearest_84 : decode cX7_nearest 84 = .ok (.getfield 23, 3) := by decide +kernel
theorem dX7_nearest_87 : decode cX7_nearest 87 = .ok (.iload 5, 2) := by decide +kernel
theorem dX7_nearest_89 : decode cX7_nearest 89 = .ok (.iaload, 1) := by decide +kernel
theorem dX7_nearest_90 : decode cX7_nearest 90 = .ok (.bipush 6, 2) := by decide +kernel
theorem dX7_nearest_92 : decode cX7_nearest 92 = .ok (.irem, 1) := by decide +kernel
theorem dX7_nearest_93 : decode cX7_nearest 93 = .ok (.aload_n 0, 1) := by decide +kernel
theorem dX7_nearest_94 : decode cX7_nearest 94 = .ok (.getfield 32, 3) := by decide +kernel
theorem dX7_nearest_97 : decode cX7_nearest 97 = .ok (.iload_n 1, 1) := by decide +kernel
theorem dX7_nearest_98 : decode cX7_nearest 98 = .ok (.iaload, 1) := by decide +kernel
theorem dX7_nearest_99 : decode cX7_nearest 99 = .ok (.bipush 6, 2) := by decide +kernel
theorem dX7_nearest_101 : decode cX7_nearest 101 = .ok (.irem, 1) := by decide +kernel
theorem dX7_nearest_102 : decode cX7_nearest 102 = .ok (.invokestatic 386, 3) := by decide +kernel
theorem dX7_nearest_105 : decode cX7_nearest 105 = .ok (.iadd, 1) := by decide +kernel
theorem dX7_nearest_106 : decode cX7_nearest 106 = .ok (.istore 6, 2) := by decide +kernel
theorem dX7_nearest_108 : decode cX7_nearest 108 = .ok (.iload 4, 2) := by decide +kernel
theorem dX7_nearest_110 : decode cX7_nearest 110 = .ok (.ifCond .lt 10, 3) := by decide +kernel
theorem dX7_nearest_113 : decode cX7_nearest 113 = .ok (.iload 6, 2) := by decide +kernel
theorem dX7_nearest_115 : decode cX7_nearest 115 = .ok (.iload 4, 2) := by decide +kernel
theorem dX7_nearest_117 : decode cX7_nearest 117 = .ok (.if_icmp .ge 8, 3) := by decide +kernel
theorem dX7_nearest_120 : decode cX7_nearest 120 = .ok (.iload 5, 2) := by decide +kernel
theorem dX7_nearest_122 : decode cX7_nearest 122 = .ok (.goto 4, 3) := by decide +kernel
theorem dX7_nearest_125 : decode cX7_nearest 125 = .ok (.iload_n 3, 1) := by decide +kernel
theorem dX7_nearest_126 : decode cX7_nearest 126 = .ok (.istore_n 3, 1) := by decide +kernel
theorem dX7_nearest_127 : decode cX7_nearest 127 = .ok (.iload 4, 2) := by decide +kernel
theorem dX7_nearest_129 : decode cX7_nearest 129 = .ok (.ifCond .lt 10, 3) := by decide +kernel
theorem dX7_nearest_132 : decode cX7_nearest 132 = .ok (.iload 6, 2) := by decide +kernel
theorem dX7_nearest_134 : decode cX7_nearest 134 = .ok (.iload 4, 2) := by decide +kernel
theorem dX7_nearest_136 : decode cX7_nearest 136 = .ok (.if_icmp .ge 8, 3) := by decide +kernel
theorem dX7_nearest_139 : decode cX7_nearest 139 = .ok (.iload 6, 2) := by decide +kernel
theorem dX7_nearest_141 : decode cX7_nearest 141 = .ok (.goto 5, 3) := by decide +kernel
theorem dX7_nearest_144 : decode cX7_nearest 144 = .ok (.iload 4, 2) := by decide +kernel
theorem dX7_nearest_146 : decode cX7_nearest 146 = .ok (.istore 4, 2) := by decide +kernel
theorem dX7_nearest_148 : decode cX7_nearest 148 = .ok (.iinc 5 1, 3) := by decide +kernel
theorem dX7_nearest_151 : decode cX7_nearest 151 = .ok (.goto (-99), 3) := by decide +kernel
theorem dX7_nearest_154 : decode cX7_nearest 154 = .ok (.iload_n 2, 1) := by decide +kernel
theorem dX7_nearest_155 : decode cX7_nearest 155 = .ok (.ifCond .ne 7, 3) := by decide +kernel
theorem dX7_nearest_158 : decode cX7_nearest 158 = .ok (.iload_n 3, 1) := by decide +kernel
theorem dX7_nearest_159 : decode cX7_nearest 159 = .ok (.goto 5, 3) := by decide +kernel
theorem dX7_nearest_162 : decode cX7_nearest 162 = .ok (.iload 4, 2) := by decide +kernel
theorem dX7_nearest_164 : decode cX7_nearest 164 = .ok (.ireturn, 1) := by decide +kernel
theorem dX7_kinds_0 : decode cX7_kinds 0 = .ok (.aload_n 0, 1) := by decide +kernel
theorem dX7_kinds_1 : decode cX7_kinds 1 = .ok (.iconst 0, 1) := by decide +kernel
theorem dX7_kinds_2 : decode cX7_kinds 2 = .ok (.putfield 114, 3) := by decide +kernel
theorem dX7_kinds_5 : decode cX7_kinds 5 = .ok (.iload_n 1, 1) := by decide +kernel
theorem dX7_kinds_6 : decode cX7_kinds 6 = .ok (.i2l, 1) := by decide +kernel
theorem dX7_kinds_7 : decode cX7_kinds 7 = .ok (.lconst 0, 1) := by decide +kernel
theorem dX7_kinds_8 : decode cX7_kinds 8 = .ok (.ldc2_w 336, 3) := by decide +kernel
theorem dX7_kinds_11 : decode cX7_kinds 11 = .ok (.invokestatic 122, 3) := by decide +kernel
theorem dX7_kinds_14 : decode cX7_kinds 14 = .ok (.ifCond .ne 10, 3) := by decide +kernel
theorem dX7_kinds_17 : decode cX7_kinds 17 = .ok (.aload_n 0, 1) := by decide +kernel
theorem dX7_kinds_18 : decode cX7_kinds 18 = .ok (.bipush (-2), 2) := by decide +kernel
theorem dX7_kinds_20 : decode cX7_kinds 20 = .ok (.invokevirtual 219, 3) := by decide +kernel
theorem dX7_kinds_23 : decode cX7_kinds 23 = .ok (.ireturn, 1) := by decide +kernel
theorem dX7_kinds_24 : decode cX7_kinds 24 = .ok (.iconst 0, 1) := by decide +kernel
theorem dX7_kinds_25 : decode cX7_kinds 25 = .ok (.istore_n 2, 1) := by decide +kernel
theorem dX7_kinds_26 : decode cX7_kinds 26 = .ok (.iconst 0, 1) := by decide +kernel
theorem dX7_kinds_27 : decode cX7_kinds 27 = .ok (.istore_n 3, 1) := by decide +kernel
theorem dX7_kinds_28 : decode cX7_kinds 28 = .ok (.iload_n 3, 1) := by decide +kernel
theorem dX7_kinds_29 : decode cX7_kinds 29 = .ok (.aload_n 0, 1) := by decide +kernel
theorem dX7_kinds_30 : decode cX7_kinds 30 = .ok (.getfield 119, 3) := by decide +kernel
theorem dX7_kinds_33 : decode cX7_kinds 33 = .ok (.if_icmp .ge 27, 3) := by decide +kernel
theorem dX7_kinds_36 : decode cX7_kinds 36 = .ok (.iload_n 2, 1) := by decide +kernel
theorem dX7_kinds_37 : decode cX7_kinds 37 = .ok (.aload_n 0, 1) := by decide +kernel
theorem dX7_kinds_38 : decode cX7_kinds 38 = .ok (.getfield 17, 3) := by decide +kernel
theorem dX7_kinds_41 : decode cX7_kinds 41 = .ok (.iload_n 3, 1) := by decide +kernel
theorem dX7_kinds_42 : decode cX7_kinds 42 = .ok (.iaload, 1) := by decide +kernel
theorem dX7_kinds_43 : decode cX7_kinds 43 = .ok (.iload_n 1, 1) := by decide +kernel
theorem dX7_kinds_44 : decode cX7_kinds 44 = .ok (.if_icmp .ne 7, 3) := by decide +kernel
theorem dX7_kinds_47 : decode cX7_kinds 47 = .ok (.iconst 1, 1) := by decide +kernel
theorem dX7_kinds_48 : decode cX7_kinds 48 = .ok (.goto 4, 3) := by decide +kernel
theorem dX7_kinds_51 : decode cX7_kinds 51 = .ok (.iconst 0, 1) := by decide +kernel
theorem dX7_kinds_52 : decode cX7_kinds 52 = .ok (.iadd, 1) := by decide +kernel
