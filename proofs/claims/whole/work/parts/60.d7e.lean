theorem dX7_kinds_53 : decode cX7_kinds 53 = .ok (.istore_n 2, 1) := by decide +kernel
theorem dX7_kinds_54 : decode cX7_kinds 54 = .ok (.iinc 3 1, 3) := by decide +kernel
theorem dX7_kinds_57 : decode cX7_kinds 57 = .ok (.goto (-29), 3) := by decide +kernel
theorem dX7_kinds_60 : decode cX7_kinds 60 = .ok (.iload_n 2, 1) := by decide +kernel
theorem dX7_kinds_61 : decode cX7_kinds 61 = .ok (.ireturn, 1) := by decide +kernel
theorem dX7_isPeg_0 : decode cX7_isPeg 0 = .ok (.iload_n 0, 1) := by decide +kernel
theorem dX7_isPeg_1 : decode cX7_isPeg 1 = .ok (.i2l, 1) := by decide +kernel
theorem dX7_isPeg_2 : decode cX7_isPeg 2 = .ok (.lconst 0, 1) := by decide +kernel
theorem dX7_isPeg_3 : decode cX7_isPeg 3 = .ok (.ldc2_w 326, 3) := by decide +kernel
theorem dX7_isPeg_6 : decode cX7_isPeg 6 = .ok (.invokestatic 122, 3) := by decide +kernel
theorem dX7_isPeg_9 : decode cX7_isPeg 9 = .ok (.ireturn, 1) := by decide +kernel
theorem dX7_pegs_0 : decode cX7_pegs 0 = .ok (.aload_n 0, 1) := by decide +kernel
theorem dX7_pegs_1 : decode cX7_pegs 1 = .ok (.iconst 0, 1) := by decide +kernel
theorem dX7_pegs_2 : decode cX7_pegs 2 = .ok (.putfield 114, 3) := by decide +kernel
theorem dX7_pegs_5 : decode cX7_pegs 5 = .ok (.iload_n 1, 1) := by decide +kernel
theorem dX7_pegs_6 : decode cX7_pegs 6 = .ok (.invokestatic 389, 3) := by decide +kernel
theorem dX7_pegs_9 : decode cX7_pegs 9 = .ok (.ifCond .ne 9, 3) := by decide +kernel
theorem dX7_pegs_12 : decode cX7_pegs 12 = .ok (.aload_n 0, 1) := by decide +kernel
theorem dX7_pegs_13 : decode cX7_pegs 13 = .ok (.iconst (-1), 1) := by decide +kernel
theorem dX7_pegs_14 : decode cX7_pegs 14 = .ok (.invokevirtual 219, 3) := by decide +kernel
theorem dX7_pegs_17 : decode cX7_pegs 17 = .ok (.ireturn, 1) := by decide +kernel
theorem dX7_pegs_18 : decode cX7_pegs 18 = .ok (.iload_n 2, 1) := by decide +kernel
theorem dX7_pegs_19 : decode cX7_pegs 19 = .ok (.i2l, 1) := by decide +kernel
theorem dX7_pegs_20 : decode cX7_pegs 20 = .ok (.lconst 0, 1) := by decide +kernel
theorem dX7_pegs_21 : decode cX7_pegs 21 = .ok (.ldc2_w 326, 3) := by decide +kernel
theorem dX7_pegs_24 : decode cX7_pegs 24 = .ok (.invokestatic 122, 3) := by decide +kernel
theorem dX7_pegs_27 : decode cX7_pegs 27 = .ok (.ifCond .ne 10, 3) := by decide +kernel
theorem dX7_pegs_30 : decode cX7_pegs 30 = .ok (.aload_n 0, 1) := by decide +kernel
theorem dX7_pegs_31 : decode cX7_pegs 31 = .ok (.bipush (-2), 2) := by decide +kernel
theorem dX7_pegs_33 : decode cX7_pegs 33 = .ok (.invokevirtual 219, 3) := by decide +kernel
theorem dX7_pegs_36 : decode cX7_pegs 36 = .ok (.ireturn, 1) := by decide +kernel
theorem dX7_pegs_37 : decode cX7_pegs 37 = .ok (.iload_n 3, 1) := by decide +kernel
theorem dX7_pegs_38 : decode cX7_pegs 38 = .ok (.bipush 12, 2) := by decide +kernel
theorem dX7_pegs_40 : decode cX7_pegs 40 = .ok (.if_icmp .le 10, 3) := by decide +kernel
theorem dX7_pegs_43 : decode cX7_pegs 43 = .ok (.aload_n 0, 1) := by decide +kernel
theorem dX7_pegs_44 : decode cX7_pegs 44 = .ok (.bipush (-6), 2) := by decide +kernel
theorem dX7_pegs_46 : decode cX7_pegs 46 = .ok (.invokevirtual 219, 3) := by decide +kernel
theorem dX7_pegs_49 : decode cX7_pegs 49 = .ok (.ireturn, 1) := by decide +kernel
theorem dX7_pegs_50 : decode cX7_pegs 50 = .ok (.iload_n 3, 1) := by decide +kernel
theorem dX7_pegs_51 : decode cX7_pegs 51 = .ok (.ifCond .ge 6, 3) := by decide +kernel
theorem dX7_pegs_54 : decode cX7_pegs 54 = .ok (.bipush (-14), 2) := by decide +kernel
theorem dX7_pegs_56 : decode cX7_pegs 56 = .ok (.ireturn, 1) := by decide +kernel
theorem dX7_pegs_57 : decode cX7_pegs 57 = .ok (.aload_n 0, 1) := by decide +kernel
theorem dX7_pegs_58 : decode cX7_pegs 58 = .ok (.getfield 104, 3) := by decide +kernel
theorem dX7_pegs_61 : decode cX7_pegs 61 = .ok (.iload_n 1, 1) := by decide +kernel
theorem dX7_pegs_62 : decode cX7_pegs 62 = .ok (.iconst 1, 1) := by decide +kernel
theorem dX7_pegs_63 : decode cX7_pegs 63 = .ok (.bastore, 1) := by decide +kernel
theorem dX7_pegs_64 : decode cX7_pegs 64 = .ok (.aload_n 0, 1) := by decide +kernel
theorem dX7_pegs_65 : decode cX7_pegs 65 = .ok (.getfield 98, 3) := by decide +kernel
theorem dX7_pegs_68 : decode cX7_pegs 68 = .ok (.iload_n 1, 1) := by decide +kernel
theorem dX7_pegs_69 : decode cX7_pegs 69 = .ok (.iload_n 2, 1) := by decide +kernel
theorem dX7_pegs_70 : decode cX7_pegs 70 = .ok (.iastore, 1) := by decide +kernel
theorem dX7_pegs_71 : decode cX7_pegs 71 = .ok (.aload_n 0, 1) := by decide +kernel
theorem dX7_pegs_72 : decode cX7_pegs 72 = .ok (.getfield 101, 3) := by decide +kernel
theorem dX7_pegs_75 : decode cX7_pegs 75 = .ok (.iload_n 1, 1) := by decide +kernel
theorem dX7_pegs_76 : decode cX7_pegs 76 = .ok (.iload_n 3, 1) := by decide +kernel
theorem dX7_pegs_77 : decode cX7_pegs 77 = .ok (.iastore, 1) := by decide +kernel
theorem dX7_pegs_78 : decode cX7_pegs 78 = .ok (.iconst 0, 1) := by decide +kernel
theorem dX7_pegs_79 : decode cX7_pegs 79 = .ok (.istore 4, 2) := by decide +kernel
theorem dX7_pegs_81 : decode cX7_pegs 81 = .ok (.iload 4, 2) := by decide +kernel
theorem dX7_pegs_83 : decode cX7_pegs 83 = .ok (.bipush 12, 2) := by decide +kernel
theorem dX7_pegs_85 : decode cX7_pegs 85 = .ok (.if_icmp .ge 22, 3) := by decide +kernel
theorem dX7_pegs_88 : decode cX7_pegs 88 = .ok (.aload_n 0, 1) := by decide +kernel
theorem dX7_pegs_89 : decode cX7_pegs 89 = .ok (.getfield 108, 3) := by decide +kernel
theorem dX7_pegs_92 : decode cX7_pegs 92 = .ok (.bipush 12, 2) := by decide +kernel
theorem dX7_pegs_94 : decode cX7_pegs 94 = .ok (.iload_n 1, 1) := by decide +kernel
theorem dX7_pegs_95 : decode cX7_pegs 95 = .ok (.imul, 1) := by decide +kernel
theorem dX7_pegs_96 : decode cX7_pegs 96 = .ok (.iload 4, 2) := by decide +kernel
theorem dX7_pegs_98 : decode cX7_pegs 98 = .ok (.iadd, 1) := by decide +kernel
theorem dX7_pegs_99 : decode cX7_pegs 99 = .ok (.iconst (-1), 1) := by decide +kernel
theorem dX7_pegs_100 : decode cX7_pegs 100 = .ok (.iastore, 1) := by decide +kernel
theorem dX7_pegs_101 : decode cX7_pegs 101 = .ok (.iinc 4 1, 3) := by decide +kernel
theorem dX7_pegs_104 : decode cX7_pegs 104 = .ok (.goto (-23), 3) := by decide +kernel
theorem dX7_pegs_107 : decode cX7_pegs 107 = .ok (.iconst 1, 1) := by decide +kernel
theorem dX7_pegs_108 : decode cX7_pegs 108 = .ok (.ireturn, 1) := by decide +kernel
theorem dX7_wrongPlace_0 : decode cX7_wrongPlace 0 = .ok (.aload_n 0, 1) := by decide +kernel
theorem dX7_wrongPlace_1 : decode cX7_wrongPlace 1 = .ok (.getfield 104, 3) := by decide +kernel
theorem dX7_wrongPlace_4 : decode cX7_wrongPlace 4 = .ok (.iload_n 1, 1) := by decide +kernel
theorem dX7_wrongPlace_5 : decode cX7_wrongPlace 5 = .ok (.baload, 1) := by decide +kernel
theorem dX7_wrongPlace_6 : decode cX7_wrongPlace 6 = .ok (.ifCond .ne 8, 3) := by decide +kernel
theorem dX7_wrongPlace_9 : decode cX7_wrongPlace 9 = .ok (.bipush (-11), 2) := by decide +kernel
theorem dX7_wrongPlace_11 : decode cX7_wrongPlace 11 = .ok (.goto 27, 3) := by decide +kernel
theorem dX7_wrongPlace_14 : decode cX7_wrongPlace 14 = .ok (.iload_n 2, 1) := by decide +kernel
theorem dX7_wrongPlace_15 : decode cX7_wrongPlace 15 = .ok (.i2l, 1) := by decide +kernel
theorem dX7_wrongPlace_16 : decode cX7_wrongPlace 16 = .ok (.lconst 0, 1) := by decide +kernel
theorem dX7_wrongPlace_17 : decode cX7_wrongPlace 17 = .ok (.aload_n 0, 1) := by decide +kernel
theorem dX7_wrongPlace_18 : decode cX7_wrongPlace 18 = .ok (.getfield 101, 3) := by decide +kernel
theorem dX7_wrongPlace_21 : decode cX7_wrongPlace 21 = .ok (.iload_n 1, 1) := by decide +kernel
theorem dX7_wrongPlace_22 : decode cX7_wrongPlace 22 = .ok (.iaload, 1) := by decide +kernel
theorem dX7_wrongPlace_23 : decode cX7_wrongPlace 23 = .ok (.iconst 1, 1) := by decide +kernel
theorem dX7_wrongPlace_24 : decode cX7_wrongPlace 24 = .ok (.isub, 1) := by decide +kernel
theorem dX7_wrongPlace_25 : decode cX7_wrongPlace 25 = .ok (.i2l, 1) := by decide +kernel
theorem dX7_wrongPlace_26 : decode cX7_wrongPlace 26 = .ok (.invokestatic 122, 3) := by decide +kernel
theorem dX7_wrongPlace_29 : decode cX7_wrongPlace 29 = .ok (.ifCond .ne 8, 3) := by decide +kernel
theorem dX7_wrongPlace_32 : decode cX7_wrongPlace 32 = .ok (.bipush (-13), 2) := by decide +kernel
theorem dX7_wrongPlace_34 : decode cX7_wrongPlace 34 = .ok (.goto 4, 3) := by decide +kernel
theorem dX7_wrongPlace_37 : decode cX7_wrongPlace 37 = .ok (.iconst 0, 1) := by decide +kernel
theorem dX7_wrongPlace_38 : decode cX7_wrongPlace 38 = .ok (.ireturn, 1) := by decide +kernel
theorem dX7_takes_0 : decode cX7_takes 0 = .ok (.iload_n 2, 1) := by decide +kernel
theorem dX7_takes_1 : decode cX7_takes 1 = .ok (.ifCond .lt 25, 3) := by decide +kernel
theorem dX7_takes_4 : decode cX7_takes 4 = .ok (.aload_n 0, 1) := by decide +kernel
theorem dX7_takes_5 : decode cX7_takes 5 = .ok (.getfield 98, 3) := by decide +kernel
theorem dX7_takes_8 : decode cX7_takes 8 = .ok (.iload_n 1, 1) := by decide +kernel
theorem dX7_takes_9 : decode cX7_takes 9 = .ok (.iaload, 1) := by decide +kernel
theorem dX7_takes_10 : decode cX7_takes 10 = .ok (.ifCond .eq 16, 3) := by decide +kernel
theorem dX7_takes_13 : decode cX7_takes 13 = .ok (.iload_n 2, 1) := by decide +kernel
theorem dX7_takes_14 : decode cX7_takes 14 = .ok (.bipush 10, 2) := by decide +kernel
theorem dX7_takes_16 : decode cX7_takes 16 = .ok (.idiv, 1) := by decide +kernel
theorem dX7_takes_17 : decode cX7_takes 17 = .ok (.aload_n 0, 1) := by decide +kernel
theorem dX7_takes_18 : decode cX7_takes 18 = .ok (.getfield 98, 3) := by decide +kernel
theorem dX7_takes_21 : decode cX7_takes 21 = .ok (.iload_n 1, 1) := by decide +kernel
theorem dX7_takes_22 : decode cX7_takes 22 = .ok (.iaload, 1) := by decide +kernel
theorem dX7_takes_23 : decode cX7_takes 23 = .ok (.if_icmp .ne 7, 3) := by decide +kernel
theorem dX7_takes_26 : decode cX7_takes 26 = .ok (.iconst 1, 1) := by decide +kernel
theorem dX7_takes_27 : decode cX7_takes 27 = .ok (.goto 4, 3) := by decide +kernel
theorem dX7_takes_30 : decode cX7_takes 30 = .ok (.iconst 0, 1) := by decide +kernel
theorem dX7_takes_31 : decode cX7_takes 31 = .ok (.ireturn, 1) := by decide +kernel
theorem dX7_hangs_0 : decode cX7_hangs 0 = .ok (.aload_n 0, 1) := by decide +kernel
theorem dX7_hangs_1 : decode cX7_hangs 1 = .ok (.iconst 0, 1) := by decide +kernel
theorem dX7_hangs_2 : decode cX7_hangs 2 = .ok (.putfield 114, 3) := by decide +kernel
theorem dX7_hangs_5 : decode cX7_hangs 5 = .ok (.iload_n 1, 1) := by decide +kernel
theorem dX7_hangs_6 : decode cX7_hangs 6 = .ok (.invokestatic 389, 3) := by decide +kernel
theorem dX7_hangs_9 : decode cX7_hangs 9 = .ok (.ifCond .ne 9, 3) := by decide +kernel
theorem dX7_hangs_12 : decode cX7_hangs 12 = .ok (.aload_n 0, 1) := by decide +kernel
theorem dX7_hangs_13 : decode cX7_hangs 13 = .ok (.iconst (-1), 1) := by decide +kernel
theorem dX7_hangs_14 : decode cX7_hangs 14 = .ok (.invokevirtual 219, 3) := by decide +kernel
theorem dX7_hangs_17 : decode cX7_hangs 17 = .ok (.ireturn, 1) := by decide +kernel
theorem dX7_hangs_18 : decode cX7_hangs 18 = .ok (.iload_n 3, 1) := by decide +kernel
theorem dX7_hangs_19 : decode cX7_hangs 19 = .ok (.i2l, 1) := by decide +kernel
theorem dX7_hangs_20 : decode cX7_hangs 20 = .ok (.lconst 1, 1) := by decide +kernel
theorem dX7_hangs_21 : decode cX7_hangs 21 = .ok (.ldc2_w 326, 3) := by decide +kernel
theorem dX7_hangs_24 : decode cX7_hangs 24 = .ok (.invokestatic 122, 3) := by decide +kernel
theorem dX7_hangs_27 : decode cX7_hangs 27 = .ok (.ifCond .eq 14, 3) := by decide +kernel
theorem dX7_hangs_30 : decode cX7_hangs 30 = .ok (.iload 4, 2) := by decide +kernel
theorem dX7_hangs_32 : decode cX7_hangs 32 = .ok (.iconst 0, 1) := by decide +kernel
theorem dX7_hangs_33 : decode cX7_hangs 33 = .ok (.bipush 9, 2) := by decide +kernel
theorem dX7_hangs_35 : decode cX7_hangs 35 = .ok (.invokestatic 347, 3) := by decide +kernel
theorem dX7_hangs_38 : decode cX7_hangs 38 = .ok (.goto 5, 3) := by decide +kernel
theorem dX7_hangs_41 : decode cX7_hangs 41 = .ok (.bipush (-2), 2) := by decide +kernel
theorem dX7_hangs_43 : decode cX7_hangs 43 = .ok (.istore 5, 2) := by decide +kernel
theorem dX7_hangs_45 : decode cX7_hangs 45 = .ok (.iload 5, 2) := by decide +kernel
theorem dX7_hangs_47 : decode cX7_hangs 47 = .ok (.ifCond .ge 10, 3) := by decide +kernel
theorem dX7_hangs_50 : decode cX7_hangs 50 = .ok (.aload_n 0, 1) := by decide +kernel
theorem dX7_hangs_51 : decode cX7_hangs 51 = .ok (.iload 5, 2) := by decide +kernel
theorem dX7_hangs_53 : decode cX7_hangs 53 = .ok (.invokevirtual 219, 3) := by decide +kernel
theorem dX7_hangs_56 : decode cX7_hangs 56 = .ok (.ireturn, 1) := by decide +kernel
theorem dX7_hangs_57 : decode cX7_hangs 57 = .ok (.aload_n 0, 1) := by decide +kernel
theorem dX7_hangs_58 : decode cX7_hangs 58 = .ok (.iload_n 1, 1) := by decide +kernel
theorem dX7_hangs_59 : decode cX7_hangs 59 = .ok (.iload_n 2, 1) := by decide +kernel
theorem dX7_hangs_60 : decode cX7_hangs 60 = .ok (.invokevirtual 392, 3) := by decide +kernel
theorem dX7_hangs_63 : decode cX7_hangs 63 = .ok (.ifCond .ge 10, 3) := by decide +kernel
theorem dX7_hangs_66 : decode cX7_hangs 66 = .ok (.aload_n 0, 1) := by decide +kernel
theorem dX7_hangs_67 : decode cX7_hangs 67 = .ok (.iload_n 1, 1) := by decide +kernel
theorem dX7_hangs_68 : decode cX7_hangs 68 = .ok (.iload_n 2, 1) := by decide +kernel
theorem dX7_hangs_69 : decode cX7_hangs 69 = .ok (.invokevirtual 392, 3) := by decide +kernel
theorem dX7_hangs_72 : decode cX7_hangs 72 = .ok (.ireturn, 1) := by decide +kernel
theorem dX7_hangs_73 : decode cX7_hangs 73 = .ok (.aload_n 0, 1) := by decide +kernel
theorem dX7_hangs_74 : decode cX7_hangs 74 = .ok (.iload_n 1, 1) := by decide +kernel
theorem dX7_hangs_75 : decode cX7_hangs 75 = .ok (.bipush 10, 2) := by decide +kernel
theorem dX7_hangs_77 : decode cX7_hangs 77 = .ok (.iload_n 3, 1) := by decide +kernel
theorem dX7_hangs_78 : decode cX7_hangs 78 = .ok (.imul, 1) := by decide +kernel
theorem dX7_hangs_79 : decode cX7_hangs 79 = .ok (.invokevirtual 395, 3) := by decide +kernel
theorem dX7_hangs_82 : decode cX7_hangs 82 = .ok (.ifCond .ne 6, 3) := by decide +kernel
theorem dX7_hangs_85 : decode cX7_hangs 85 = .ok (.bipush (-12), 2) := by decide +kernel
theorem dX7_hangs_87 : decode cX7_hangs 87 = .ok (.ireturn, 1) := by decide +kernel
theorem dX7_hangs_88 : decode cX7_hangs 88 = .ok (.aload_n 0, 1) := by decide +kernel
theorem dX7_hangs_89 : decode cX7_hangs 89 = .ok (.getfield 108, 3) := by decide +kernel
theorem dX7_hangs_92 : decode cX7_hangs 92 = .ok (.bipush 12, 2) := by decide +kernel
theorem dX7_hangs_94 : decode cX7_hangs 94 = .ok (.iload_n 1, 1) := by decide +kernel
theorem dX7_hangs_95 : decode cX7_hangs 95 = .ok (.imul, 1) := by decide +kernel
theorem dX7_hangs_96 : decode cX7_hangs 96 = .ok (.iload_n 2, 1) := by decide +kernel
theorem dX7_hangs_97 : decode cX7_hangs 97 = .ok (.iadd, 1) := by decide +kernel
theorem dX7_hangs_98 : decode cX7_hangs 98 = .ok (.bipush 10, 2) := by decide +kernel
theorem dX7_hangs_100 : decode cX7_hangs 100 = .ok (.iload_n 3, 1) := by decide +kernel
theorem dX7_hangs_101 : decode cX7_hangs 101 = .ok (.imul, 1) := by decide +kernel
theorem dX7_hangs_102 : decode cX7_hangs 102 = .ok (.iload 4, 2) := by decide +kernel
theorem dX7_hangs_104 : decode cX7_hangs 104 = .ok (.iadd, 1) := by decide +kernel
theorem dX7_hangs_105 : decode cX7_hangs 105 = .ok (.iastore, 1) := by decide +kernel
theorem dX7_hangs_106 : decode cX7_hangs 106 = .ok (.iconst 1, 1) := by decide +kernel
theorem dX7_hangs_107 : decode cX7_hangs 107 = .ok (.ireturn, 1) := by decide +kernel
theorem dX7_coat_0 : decode cX7_coat 0 = .ok (.aload_n 0, 1) := by decide +kernel
theorem dX7_coat_1 : decode cX7_coat 1 = .ok (.iconst 0, 1) := by decide +kernel
theorem dX7_coat_2 : decode cX7_coat 2 = .ok (.putfield 114, 3) := by decide +kernel
theorem dX7_coat_5 : decode cX7_coat 5 = .ok (.iload_n 1, 1) := by decide +kernel
theorem dX7_coat_6 : decode cX7_coat 6 = .ok (.invokestatic 389, 3) := by decide +kernel
theorem dX7_coat_9 : decode cX7_coat 9 = .ok (.ifCond .ne 9, 3) := by decide +kernel
theorem dX7_coat_12 : decode cX7_coat 12 = .ok (.aload_n 0, 1) := by decide +kernel
theorem dX7_coat_13 : decode cX7_coat 13 = .ok (.iconst (-1), 1) := by decide +kernel
theorem dX7_coat_14 : decode cX7_coat 14 = .ok (.invokevirtual 219, 3) := by decide +kernel
theorem dX7_coat_17 : decode cX7_coat 17 = .ok (.ireturn, 1) := by decide +kernel
theorem dX7_coat_18 : decode cX7_coat 18 = .ok (.aload_n 0, 1) := by decide +kernel
theorem dX7_coat_19 : decode cX7_coat 19 = .ok (.iload_n 1, 1) := by decide +kernel
theorem dX7_coat_20 : decode cX7_coat 20 = .ok (.iload_n 2, 1) := by decide +kernel
theorem dX7_coat_21 : decode cX7_coat 21 = .ok (.invokevirtual 392, 3) := by decide +kernel
theorem dX7_coat_24 : decode cX7_coat 24 = .ok (.ifCond .ge 10, 3) := by decide +kernel
theorem dX7_coat_27 : decode cX7_coat 27 = .ok (.aload_n 0, 1) := by decide +kernel
theorem dX7_coat_28 : decode cX7_coat 28 = .ok (.iload_n 1, 1) := by decide +kernel
theorem dX7_coat_29 : decode cX7_coat 29 = .ok (.iload_n 2, 1) := by decide +kernel
theorem dX7_coat_30 : decode cX7_coat 30 = .ok (.invokevirtual 392, 3) := by decide +kernel
theorem dX7_coat_33 : decode cX7_coat 33 = .ok (.ireturn, 1) := by decide +kernel
theorem dX7_coat_34 : decode cX7_coat 34 = .ok (.aload_n 0, 1) := by decide +kernel
theorem dX7_coat_35 : decode cX7_coat 35 = .ok (.getfield 108, 3) := by decide +kernel
theorem dX7_coat_38 : decode cX7_coat 38 = .ok (.bipush 12, 2) := by decide +kernel
theorem dX7_coat_40 : decode cX7_coat 40 = .ok (.iload_n 1, 1) := by decide +kernel
theorem dX7_coat_41 : decode cX7_coat 41 = .ok (.imul, 1) := by decide +kernel
theorem dX7_coat_42 : decode cX7_coat 42 = .ok (.iload_n 2, 1) := by decide +kernel
theorem dX7_coat_43 : decode cX7_coat 43 = .ok (.iadd, 1) := by decide +kernel
theorem dX7_coat_44 : decode cX7_coat 44 = .ok (.iaload, 1) := by decide +kernel
theorem dX7_coat_45 : decode cX7_coat 45 = .ok (.ifCond .ge 8, 3) := by decide +kernel
theorem dX7_coat_48 : decode cX7_coat 48 = .ok (.bipush (-15), 2) := by decide +kernel
theorem dX7_coat_50 : decode cX7_coat 50 = .ok (.goto 14, 3) := by decide +kernel
theorem dX7_coat_53 : decode cX7_coat 53 = .ok (.aload_n 0, 1) := by decide +kernel
theorem dX7_coat_54 : decode cX7_coat 54 = .ok (.getfield 108, 3) := by decide +kernel
theorem dX7_coat_57 : decode cX7_coat 57 = .ok (.bipush 12, 2) := by decide +kernel
theorem dX7_coat_59 : decode cX7_coat 59 = .ok (.iload_n 1, 1) := by decide +kernel
theorem dX7_coat_60 : decode cX7_coat 60 = .ok (.imul, 1) := by decide +kernel
theorem dX7_coat_61 : decode cX7_coat 61 = .ok (.iload_n 2, 1) := by decide +kernel
theorem dX7_coat_62 : decode cX7_coat 62 = .ok (.iadd, 1) := by decide +kernel
theorem dX7_coat_63 : decode cX7_coat 63 = .ok (.iaload, 1) := by decide +kernel
theorem dX7_coat_64 : decode cX7_coat 64 = .ok (.ireturn, 1) := by decide +kernel
theorem dX7_wears_0 : decode cX7_wears 0 = .ok (.aload_n 0, 1) := by decide +kernel
theorem dX7_wears_1 : decode cX7_wears 1 = .ok (.iconst 0, 1) := by decide +kernel
theorem dX7_wears_2 : decode cX7_wears 2 = .ok (.putfield 114, 3) := by decide +kernel
theorem dX7_wears_5 : decode cX7_wears 5 = .ok (.aload_n 0, 1) := by decide +kernel
theorem dX7_wears_6 : decode cX7_wears 6 = .ok (.iload_n 1, 1) := by decide +kernel
theorem dX7_wears_7 : decode cX7_wears 7 = .ok (.invokevirtual 323, 3) := by decide +kernel
theorem dX7_wears_10 : decode cX7_wears 10 = .ok (.ifCond .eq 10, 3) := by decide +kernel
theorem dX7_wears_13 : decode cX7_wears 13 = .ok (.iload_n 2, 1) := by decide +kernel
theorem dX7_wears_14 : decode cX7_wears 14 = .ok (.invokestatic 389, 3) := by decide +kernel
theorem dX7_wears_17 : decode cX7_wears 17 = .ok (.ifCond .ne 9, 3) := by decide +kernel
theorem dX7_wears_20 : decode cX7_wears 20 = .ok (.aload_n 0, 1) := by decide +kernel
theorem dX7_wears_21 : decode cX7_wears 21 = .ok (.iconst (-1), 1) := by decide +kernel
theorem dX7_wears_22 : decode cX7_wears 22 = .ok (.invokevirtual 219, 3) := by decide +kernel
theorem dX7_wears_25 : decode cX7_wears 25 = .ok (.ireturn, 1) := by decide +kernel
theorem dX7_wears_26 : decode cX7_wears 26 = .ok (.aload_n 0, 1) := by decide +kernel
theorem dX7_wears_27 : decode cX7_wears 27 = .ok (.iload_n 2, 1) := by decide +kernel
theorem dX7_wears_28 : decode cX7_wears 28 = .ok (.iload_n 3, 1) := by decide +kernel
theorem dX7_wears_29 : decode cX7_wears 29 = .ok (.invokevirtual 392, 3) := by decide +kernel
theorem dX7_wears_32 : decode cX7_wears 32 = .ok (.ifCond .ge 10, 3) := by decide +kernel
theorem dX7_wears_35 : decode cX7_wears 35 = .ok (.aload_n 0, 1) := by decide +kernel
theorem dX7_wears_36 : decode cX7_wears 36 = .ok (.iload_n 2, 1) := by decide +kernel
theorem dX7_wears_37 : decode cX7_wears 37 = .ok (.iload_n 3, 1) := by decide +kernel
theorem dX7_wears_38 : decode cX7_wears 38 = .ok (.invokevirtual 392, 3) := by decide +kernel
theorem dX7_wears_41 : decode cX7_wears 41 = .ok (.ireturn, 1) := by decide +kernel
theorem dX7_wears_42 : decode cX7_wears 42 = .ok (.aload_n 0, 1) := by decide +kernel
theorem dX7_wears_43 : decode cX7_wears 43 = .ok (.getfield 108, 3) := by decide +kernel
theorem dX7_wears_46 : decode cX7_wears 46 = .ok (.bipush 12, 2) := by decide +kernel
theorem dX7_wears_48 : decode cX7_wears 48 = .ok (.iload_n 2, 1) := by decide +kernel
theorem dX7_wears_49 : decode cX7_wears 49 = .ok (.imul, 1) := by decide +kernel
theorem dX7_wears_50 : decode cX7_wears 50 = .ok (.iload_n 3, 1) := by decide +kernel
theorem dX7_wears_51 : decode cX7_wears 51 = .ok (.iadd, 1) := by decide +kernel
theorem dX7_wears_52 : decode cX7_wears 52 = .ok (.iaload, 1) := by decide +kernel
theorem dX7_wears_53 : decode cX7_wears 53 = .ok (.istore 4, 2) := by decide +kernel
theorem dX7_wears_55 : decode cX7_wears 55 = .ok (.iload 4, 2) := by decide +kernel
theorem dX7_wears_57 : decode cX7_wears 57 = .ok (.ifCond .ge 6, 3) := by decide +kernel
theorem dX7_wears_60 : decode cX7_wears 60 = .ok (.bipush (-15), 2) := by decide +kernel
theorem dX7_wears_62 : decode cX7_wears 62 = .ok (.ireturn, 1) := by decide +kernel
theorem dX7_wears_63 : decode cX7_wears 63 = .ok (.aload_n 0, 1) := by decide +kernel
theorem dX7_wears_64 : decode cX7_wears 64 = .ok (.invokevirtual 338, 3) := by decide +kernel
theorem dX7_wears_67 : decode cX7_wears 67 = .ok (.aload_n 0, 1) := by decide +kernel
theorem dX7_wears_68 : decode cX7_wears 68 = .ok (.getfield 35, 3) := by decide +kernel
theorem dX7_wears_71 : decode cX7_wears 71 = .ok (.iload_n 1, 1) := by decide +kernel
theorem dX7_wears_72 : decode cX7_wears 72 = .ok (.aload_n 0, 1) := by decide +kernel
theorem dX7_wears_73 : decode cX7_wears 73 = .ok (.getfield 35, 3) := by decide +kernel
theorem dX7_wears_76 : decode cX7_wears 76 = .ok (.iload_n 1, 1) := by decide +kernel
theorem dX7_wears_77 : decode cX7_wears 77 = .ok (.iaload, 1) := by decide +kernel
theorem dX7_wears_78 : decode cX7_wears 78 = .ok (.iload 4, 2) := by decide +kernel
theorem dX7_wears_80 : decode cX7_wears 80 = .ok (.bipush 10, 2) := by decide +kernel
theorem dX7_wears_82 : decode cX7_wears 82 = .ok (.irem, 1) := by decide +kernel
theorem dX7_wears_83 : decode cX7_wears 83 = .ok (.iload 4, 2) := by decide +kernel
theorem dX7_wears_85 : decode cX7_wears 85 = .ok (.bipush 10, 2) := by decide +kernel
theorem dX7_wears_87 : decode cX7_wears 87 = .ok (.idiv, 1) := by decide +kernel
theorem dX7_wears_88 : decode cX7_wears 88 = .ok (.imul, 1) := by decide +kernel
theorem dX7_wears_89 : decode cX7_wears 89 = .ok (.iadd, 1) := by decide +kernel
theorem dX7_wears_90 : decode cX7_wears 90 = .ok (.bipush 9, 2) := by decide +kernel
theorem dX7_wears_92 : decode cX7_wears 92 = .ok (.invokestatic 133, 3) := by decide +kernel
theorem dX7_wears_95 : decode cX7_wears 95 = .ok (.iastore, 1) := by decide +kernel
theorem dX7_wears_96 : decode cX7_wears 96 = .ok (.aload_n 0, 1) := by decide +kernel
theorem dX7_wears_97 : decode cX7_wears 97 = .ok (.getfield 108, 3) := by decide +kernel
theorem dX7_wears_100 : decode cX7_wears 100 = .ok (.bipush 12, 2) := by decide +kernel
theorem dX7_wears_102 : decode cX7_wears 102 = .ok (.iload_n 2, 1) := by decide +kernel
theorem dX7_wears_103 : decode cX7_wears 103 = .ok (.imul, 1) := by decide +kernel
theorem dX7_wears_104 : decode cX7_wears 104 = .ok (.iload_n 3, 1) := by decide +kernel
theorem dX7_wears_105 : decode cX7_wears 105 = .ok (.iadd, 1) := by decide +kernel
theorem dX7_wears_106 : decode cX7_wears 106 = .ok (.iconst (-1), 1) := by decide +kernel
theorem dX7_wears_107 : decode cX7_wears 107 = .ok (.iastore, 1) := by decide +kernel
theorem dX7_wears_108 : decode cX7_wears 108 = .ok (.aload_n 0, 1) := by decide +kernel
theorem dX7_wears_109 : decode cX7_wears 109 = .ok (.getfield 35, 3) := by decide +kernel
theorem dX7_wears_112 : decode cX7_wears 112 = .ok (.iload_n 1, 1) := by decide +kernel
theorem dX7_wears_113 : decode cX7_wears 113 = .ok (.iaload, 1) := by decide +kernel
theorem dX7_wears_114 : decode cX7_wears 114 = .ok (.ireturn, 1) := by decide +kernel
theorem dX7_moves_0 : decode cX7_moves 0 = .ok (.aload_n 0, 1) := by decide +kernel
theorem dX7_moves_1 : decode cX7_moves 1 = .ok (.iconst 0, 1) := by decide +kernel
theorem dX7_moves_2 : decode cX7_moves 2 = .ok (.putfield 114, 3) := by decide +kernel
theorem dX7_moves_5 : decode cX7_moves 5 = .ok (.iload_n 1, 1) := by decide +kernel
theorem dX7_moves_6 : decode cX7_moves 6 = .ok (.invokestatic 389, 3) := by decide +kernel
theorem dX7_moves_9 : decode cX7_moves 9 = .ok (.ifCond .eq 10, 3) := by decide +kernel
theorem dX7_moves_12 : decode cX7_moves 12 = .ok (.iload_n 3, 1) := by decide +kernel
theorem dX7_moves_13 : decode cX7_moves 13 = .ok (.invokestatic 389, 3) := by decide +kernel
theorem dX7_moves_16 : decode cX7_moves 16 = .ok (.ifCond .ne 9, 3) := by decide +kernel
theorem dX7_moves_19 : decode cX7_moves 19 = .ok (.aload_n 0, 1) := by decide +kernel
theorem dX7_moves_20 : decode cX7_moves 20 = .ok (.iconst (-1), 1) := by decide +kernel
theorem dX7_moves_21 : decode cX7_moves 21 = .ok (.invokevirtual 219, 3) := by decide +kernel
theorem dX7_moves_24 : decode cX7_moves 24 = .ok (.ireturn, 1) := by decide +kernel
theorem dX7_moves_25 : decode cX7_moves 25 = .ok (.aload_n 0, 1) := by decide +kernel
theorem dX7_moves_26 : decode cX7_moves 26 = .ok (.getfield 104, 3) := by decide +kernel
theorem dX7_moves_29 : decode cX7_moves 29 = .ok (.iload_n 1, 1) := by decide +kernel
theorem dX7_moves_30 : decode cX7_moves 30 = .ok (.baload, 1) := by decide +kernel
theorem dX7_moves_31 : decode cX7_moves 31 = .ok (.ifCond .eq 12, 3) := by decide +kernel
theorem dX7_moves_34 : decode cX7_moves 34 = .ok (.aload_n 0, 1) := by decide +kernel
theorem dX7_moves_35 : decode cX7_moves 35 = .ok (.getfield 104, 3) := by decide +kernel
theorem dX7_moves_38 : decode cX7_moves 38 = .ok (.iload_n 3, 1) := by decide +kernel
theorem dX7_moves_39 : decode cX7_moves 39 = .ok (.baload, 1) := by decide +kernel
theorem dX7_moves_40 : decode cX7_moves 40 = .ok (.ifCond .ne 6, 3) := by decide +kernel
theorem dX7_moves_43 : decode cX7_moves 43 = .ok (.bipush (-11), 2) := by decide +kernel
theorem dX7_moves_45 : decode cX7_moves 45 = .ok (.ireturn, 1) := by decide +kernel
theorem dX7_moves_46 : decode cX7_moves 46 = .ok (.iload 5, 2) := by decide +kernel
theorem dX7_moves_48 : decode cX7_moves 48 = .ok (.ifCond .lt 47, 3) := by decide +kernel
theorem dX7_moves_51 : decode cX7_moves 51 = .ok (.iload_n 2, 1) := by decide +kernel
theorem dX7_moves_52 : decode cX7_moves 52 = .ok (.ifCond .lt 43, 3) := by decide +kernel
theorem dX7_moves_55 : decode cX7_moves 55 = .ok (.iload 4, 2) := by decide +kernel
theorem dX7_moves_57 : decode cX7_moves 57 = .ok (.ifCond .lt 38, 3) := by decide +kernel
theorem dX7_moves_60 : decode cX7_moves 60 = .ok (.iload_n 2, 1) := by decide +kernel
theorem dX7_moves_61 : decode cX7_moves 61 = .ok (.i2l, 1) := by decide +kernel
theorem dX7_moves_62 : decode cX7_moves 62 = .ok (.iload 5, 2) := by decide +kernel
theorem dX7_moves_64 : decode cX7_moves 64 = .ok (.i2l, 1) := by decide +kernel
theorem dX7_moves_65 : decode cX7_moves 65 = .ok (.ladd, 1) := by decide +kernel
theorem dX7_moves_66 : decode cX7_moves 66 = .ok (.aload_n 0, 1) := by decide +kernel
theorem dX7_moves_67 : decode cX7_moves 67 = .ok (.getfield 101, 3) := by decide +kernel
theorem dX7_moves_70 : decode cX7_moves 70 = .ok (.iload_n 1, 1) := by decide +kernel
theorem dX7_moves_71 : decode cX7_moves 71 = .ok (.iaload, 1) := by decide +kernel
theorem dX7_moves_72 : decode cX7_moves 72 = .ok (.i2l, 1) := by decide +kernel
theorem dX7_moves_73 : decode cX7_moves 73 = .ok (.lcmp, 1) := by decide +kernel
theorem dX7_moves_74 : decode cX7_moves 74 = .ok (.ifCond .gt 21, 3) := by decide +kernel
theorem dX7_moves_77 : decode cX7_moves 77 = .ok (.iload 4, 2) := by decide +kernel
theorem dX7_moves_79 : decode cX7_moves 79 = .ok (.i2l, 1) := by decide +kernel
theorem dX7_moves_80 : decode cX7_moves 80 = .ok (.iload 5, 2) := by decide +kernel
theorem dX7_moves_82 : decode cX7_moves 82 = .ok (.i2l, 1) := by decide +kernel
theorem dX7_moves_83 : decode cX7_moves 83 = .ok (.ladd, 1) := by decide +kernel
theorem dX7_moves_84 : decode cX7_moves 84 = .ok (.aload_n 0, 1) := by decide +kernel
theorem dX7_moves_85 : decode cX7_moves 85 = .ok (.getfield 101, 3) := by decide +kernel
theorem dX7_moves_88 : decode cX7_moves 88 = .ok (.iload_n 3, 1) := by decide +kernel
theorem dX7_moves_89 : decode cX7_moves 89 = .ok (.iaload, 1) := by decide +kernel
theorem dX7_moves_90 : decode cX7_moves 90 = .ok (.i2l, 1) := by decide +kernel
theorem dX7_moves_91 : decode cX7_moves 91 = .ok (.lcmp, 1) := by decide +kernel
theorem dX7_moves_92 : decode cX7_moves 92 = .ok (.ifCond .le 6, 3) := by decide +kernel
theorem dX7_moves_95 : decode cX7_moves 95 = .ok (.bipush (-13), 2) := by decide +kernel
theorem dX7_moves_97 : decode cX7_moves 97 = .ok (.ireturn, 1) := by decide +kernel
theorem dX7_moves_98 : decode cX7_moves 98 = .ok (.iconst 0, 1) := by decide +kernel
theorem dX7_moves_99 : decode cX7_moves 99 = .ok (.istore 6, 2) := by decide +kernel
theorem dX7_moves_101 : decode cX7_moves 101 = .ok (.iload 6, 2) := by decide +kernel
theorem dX7_moves_103 : decode cX7_moves 103 = .ok (.iload 5, 2) := by decide +kernel
theorem dX7_moves_105 : decode cX7_moves 105 = .ok (.if_icmp .ge 30, 3) := by decide +kernel
theorem dX7_moves_108 : decode cX7_moves 108 = .ok (.aload_n 0, 1) := by decide +kernel
theorem dX7_moves_109 : decode cX7_moves 109 = .ok (.getfield 111, 3) := by decide +kernel
theorem dX7_moves_112 : decode cX7_moves 112 = .ok (.iload 6, 2) := by decide +kernel
theorem dX7_moves_114 : decode cX7_moves 114 = .ok (.aload_n 0, 1) := by decide +kernel
theorem dX7_moves_115 : decode cX7_moves 115 = .ok (.getfield 108, 3) := by decide +kernel
theorem dX7_moves_118 : decode cX7_moves 118 = .ok (.bipush 12, 2) := by decide +kernel
theorem dX7_moves_120 : decode cX7_moves 120 = .ok (.iload_n 1, 1) := by decide +kernel
theorem dX7_moves_121 : decode cX7_moves 121 = .ok (.imul, 1) := by decide +kernel
theorem dX7_moves_122 : decode cX7_moves 122 = .ok (.iload_n 2, 1) := by decide +kernel
theorem dX7_moves_123 : decode cX7_moves 123 = .ok (.iadd, 1) := by decide +kernel
theorem dX7_moves_124 : decode cX7_moves 124 = .ok (.iload 6, 2) := by decide +kernel
theorem dX7_moves_126 : decode cX7_moves 126 = .ok (.iadd, 1) := by decide +kernel
theorem dX7_moves_127 : decode cX7_moves 127 = .ok (.iaload, 1) := by decide +kernel
theorem dX7_moves_128 : decode cX7_moves 128 = .ok (.iastore, 1) := by decide +kernel
theorem dX7_moves_129 : decode cX7_moves 129 = .ok (.iinc 6 1, 3) := by decide +kernel
theorem dX7_moves_132 : decode cX7_moves 132 = .ok (.goto (-31), 3) := by decide +kernel
theorem dX7_moves_135 : decode cX7_moves 135 = .ok (.iconst 0, 1) := by decide +kernel
theorem dX7_moves_136 : decode cX7_moves 136 = .ok (.istore 6, 2) := by decide +kernel
theorem dX7_moves_138 : decode cX7_moves 138 = .ok (.iload 6, 2) := by decide +kernel
theorem dX7_moves_140 : decode cX7_moves 140 = .ok (.iload 5, 2) := by decide +kernel
theorem dX7_moves_142 : decode cX7_moves 142 = .ok (.if_icmp .ge 49, 3) := by decide +kernel
theorem dX7_moves_145 : decode cX7_moves 145 = .ok (.aload_n 0, 1) := by decide +kernel
theorem dX7_moves_146 : decode cX7_moves 146 = .ok (.iload_n 3, 1) := by decide +kernel
theorem dX7_moves_147 : decode cX7_moves 147 = .ok (.aload_n 0, 1) := by decide +kernel
theorem dX7_moves_148 : decode cX7_moves 148 = .ok (.getfield 111, 3) := by decide +kernel
theorem dX7_moves_151 : decode cX7_moves 151 = .ok (.iload 6, 2) := by decide +kernel
theorem dX7_moves_153 : decode cX7_moves 153 = .ok (.iaload, 1) := by decide +kernel
theorem dX7_moves_154 : decode cX7_moves 154 = .ok (.invokevirtual 395, 3) := by decide +kernel
theorem dX7_moves_157 : decode cX7_moves 157 = .ok (.ifCond .ne 6, 3) := by decide +kernel
theorem dX7_moves_160 : decode cX7_moves 160 = .ok (.bipush (-12), 2) := by decide +kernel
theorem dX7_moves_162 : decode cX7_moves 162 = .ok (.ireturn, 1) := by decide +kernel
theorem dX7_moves_163 : decode cX7_moves 163 = .ok (.aload_n 0, 1) := by decide +kernel
theorem dX7_moves_164 : decode cX7_moves 164 = .ok (.getfield 108, 3) := by decide +kernel
theorem dX7_moves_167 : decode cX7_moves 167 = .ok (.bipush 12, 2) := by decide +kernel
theorem dX7_moves_169 : decode cX7_moves 169 = .ok (.iload_n 3, 1) := by decide +kernel
theorem dX7_moves_170 : decode cX7_moves 170 = .ok (.imul, 1) := by decide +kernel
theorem dX7_moves_171 : decode cX7_moves 171 = .ok (.iload 4, 2) := by decide +kernel
theorem dX7_moves_173 : decode cX7_moves 173 = .ok (.iadd, 1) := by decide +kernel
theorem dX7_moves_174 : decode cX7_moves 174 = .ok (.iload 6, 2) := by decide +kernel
theorem dX7_moves_176 : decode cX7_moves 176 = .ok (.iadd, 1) := by decide +kernel
theorem dX7_moves_177 : decode cX7_moves 177 = .ok (.aload_n 0, 1) := by decide +kernel
theorem dX7_moves_178 : decode cX7_moves 178 = .ok (.getfield 111, 3) := by decide +kernel
theorem dX7_moves_181 : decode cX7_moves 181 = .ok (.iload 6, 2) := by decide +kernel
theorem dX7_moves_183 : decode cX7_moves 183 = .ok (.iaload, 1) := by decide +kernel
theorem dX7_moves_184 : decode cX7_moves 184 = .ok (.iastore, 1) := by decide +kernel
theorem dX7_moves_185 : decode cX7_moves 185 = .ok (.iinc 6 1, 3) := by decide +kernel
theorem dX7_moves_188 : decode cX7_moves 188 = .ok (.goto (-50), 3) := by decide +kernel
theorem dX7_moves_191 : decode cX7_moves 191 = .ok (.iload 5, 2) := by decide +kernel
theorem dX7_moves_193 : decode cX7_moves 193 = .ok (.ireturn, 1) := by decide +kernel
theorem dX7_row_0 : decode cX7_row 0 = .ok (.aload_n 0, 1) := by decide +kernel
theorem dX7_row_1 : decode cX7_row 1 = .ok (.iconst 0, 1) := by decide +kernel
theorem dX7_row_2 : decode cX7_row 2 = .ok (.putfield 114, 3) := by decide +kernel
theorem dX7_row_5 : decode cX7_row 5 = .ok (.iload_n 1, 1) := by decide +kernel
theorem dX7_row_6 : decode cX7_row 6 = .ok (.iconst 0, 1) := by decide +kernel
theorem dX7_row_7 : decode cX7_row 7 = .ok (.bipush 99, 2) := by decide +kernel
theorem dX7_row_9 : decode cX7_row 9 = .ok (.invokestatic 347, 3) := by decide +kernel
theorem dX7_row_12 : decode cX7_row 12 = .ok (.istore_n 2, 1) := by decide +kernel
theorem dX7_row_13 : decode cX7_row 13 = .ok (.iload_n 2, 1) := by decide +kernel
theorem dX7_row_14 : decode cX7_row 14 = .ok (.ifCond .ne 17, 3) := by decide +kernel
theorem dX7_row_17 : decode cX7_row 17 = .ok (.aload_n 0, 1) := by decide +kernel
theorem dX7_row_18 : decode cX7_row 18 = .ok (.getfield 366, 3) := by decide +kernel
theorem dX7_row_21 : decode cX7_row 21 = .ok (.bipush 12, 2) := by decide +kernel
theorem dX7_row_23 : decode cX7_row 23 = .ok (.if_icmp .ne 8, 3) := by decide +kernel
theorem dX7_row_26 : decode cX7_row 26 = .ok (.bipush (-6), 2) := by decide +kernel
theorem dX7_row_28 : decode cX7_row 28 = .ok (.goto 4, 3) := by decide +kernel
theorem dX7_row_31 : decode cX7_row 31 = .ok (.iload_n 2, 1) := by decide +kernel
theorem dX7_row_32 : decode cX7_row 32 = .ok (.istore_n 2, 1) := by decide +kernel
theorem dX7_row_33 : decode cX7_row 33 = .ok (.iload_n 2, 1) := by decide +kernel
theorem dX7_row_34 : decode cX7_row 34 = .ok (.ifCond .ge 9, 3) := by decide +kernel
theorem dX7_row_37 : decode cX7_row 37 = .ok (.aload_n 0, 1) := by decide +kernel
theorem dX7_row_38 : decode cX7_row 38 = .ok (.iload_n 2, 1) := by decide +kernel
theorem dX7_row_39 : decode cX7_row 39 = .ok (.invokevirtual 219, 3) := by decide +kernel
theorem dX7_row_42 : decode cX7_row 42 = .ok (.ireturn, 1) := by decide +kernel
theorem dX7_row_43 : decode cX7_row 43 = .ok (.aload_n 0, 1) := by decide +kernel
theorem dX7_row_44 : decode cX7_row 44 = .ok (.getfield 92, 3) := by decide +kernel
theorem dX7_row_47 : decode cX7_row 47 = .ok (.aload_n 0, 1) := by decide +kernel
theorem dX7_row_48 : decode cX7_row 48 = .ok (.getfield 366, 3) := by decide +kernel
theorem dX7_row_51 : decode cX7_row 51 = .ok (.iload_n 1, 1) := by decide +kernel
theorem dX7_row_52 : decode cX7_row 52 = .ok (.iastore, 1) := by decide +kernel
theorem dX7_row_53 : decode cX7_row 53 = .ok (.aload_n 0, 1) := by decide +kernel
theorem dX7_row_54 : decode cX7_row 54 = .ok (.dup, 1) := by decide +kernel
theorem dX7_row_55 : decode cX7_row 55 = .ok (.getfield 366, 3) := by decide +kernel
theorem dX7_row_58 : decode cX7_row 58 = .ok (.iconst 1, 1) := by decide +kernel
theorem dX7_row_59 : decode cX7_row 59 = .ok (.iadd, 1) := by decide +kernel
theorem dX7_row_60 : decode cX7_row 60 = .ok (.putfield 366, 3) := by decide +kernel
theorem dX7_row_63 : decode cX7_row 63 = .ok (.aload_n 0, 1) := by decide +kernel
theorem dX7_row_64 : decode cX7_row 64 = .ok (.getfield 366, 3) := by decide +kernel
theorem dX7_row_67 : decode cX7_row 67 = .ok (.ireturn, 1) := by decide +kernel
theorem dX7_judge_0 : decode cX7_judge 0 = .ok (.aload_n 0, 1) := by decide +kernel
theorem dX7_judge_1 : decode cX7_judge 1 = .ok (.iconst 0, 1) := by decide +kernel
theorem dX7_judge_2 : decode cX7_judge 2 = .ok (.putfield 114, 3) := by decide +kernel
theorem dX7_judge_5 : decode cX7_judge 5 = .ok (.bipush (-9), 2) := by decide +kernel
theorem dX7_judge_7 : decode cX7_judge 7 = .ok (.istore_n 1, 1) := by decide +kernel
theorem dX7_judge_8 : decode cX7_judge 8 = .ok (.aload_n 0, 1) := by decide +kernel
theorem dX7_judge_9 : decode cX7_judge 9 = .ok (.getfield 366, 3) := by decide +kernel
theorem dX7_judge_12 : decode cX7_judge 12 = .ok (.iconst 1, 1) := by decide +kernel
theorem dX7_judge_13 : decode cX7_judge 13 = .ok (.isub, 1) := by decide +kernel
theorem dX7_judge_14 : decode cX7_judge 14 = .ok (.istore_n 2, 1) := by decide +kernel
theorem dX7_judge_15 : decode cX7_judge 15 = .ok (.iload_n 2, 1) := by decide +kernel
theorem dX7_judge_16 : decode cX7_judge 16 = .ok (.ifCond .lt 59, 3) := by decide +kernel
theorem dX7_judge_19 : decode cX7_judge 19 = .ok (.iload_n 2, 1) := by decide +kernel
theorem dX7_judge_20 : decode cX7_judge 20 = .ok (.aload_n 0, 1) := by decide +kernel
theorem dX7_judge_21 : decode cX7_judge 21 = .ok (.getfield 126, 3) := by decide +kernel
theorem dX7_judge_24 : decode cX7_judge 24 = .ok (.if_icmp .lt 7, 3) := by decide +kernel
theorem dX7_judge_27 : decode cX7_judge 27 = .ok (.iconst (-1), 1) := by decide +kernel
theorem dX7_judge_28 : decode cX7_judge 28 = .ok (.goto 24, 3) := by decide +kernel
theorem dX7_judge_31 : decode cX7_judge 31 = .ok (.aload_n 0, 1) := by decide +kernel
theorem dX7_judge_32 : decode cX7_judge 32 = .ok (.getfield 38, 3) := by decide +kernel
theorem dX7_judge_35 : decode cX7_judge 35 = .ok (.iload_n 2, 1) := by decide +kernel
theorem dX7_judge_36 : decode cX7_judge 36 = .ok (.iaload, 1) := by decide +kernel
theorem dX7_judge_37 : decode cX7_judge 37 = .ok (.iconst 1, 1) := by decide +kernel
theorem dX7_judge_38 : decode cX7_judge 38 = .ok (.if_icmp .ne 12, 3) := by decide +kernel
theorem dX7_judge_41 : decode cX7_judge 41 = .ok (.aload_n 0, 1) := by decide +kernel
theorem dX7_judge_42 : decode cX7_judge 42 = .ok (.getfield 32, 3) := by decide +kernel
theorem dX7_judge_45 : decode cX7_judge 45 = .ok (.iload_n 2, 1) := by decide +kernel
theorem dX7_judge_46 : decode cX7_judge 46 = .ok (.iaload, 1) := by decide +kernel
theorem dX7_judge_47 : decode cX7_judge 47 = .ok (.goto 5, 3) := by decide +kernel
theorem dX7_judge_50 : decode cX7_judge 50 = .ok (.bipush 36, 2) := by decide +kernel
theorem dX7_judge_52 : decode cX7_judge 52 = .ok (.istore_n 3, 1) := by decide +kernel
theorem dX7_judge_53 : decode cX7_judge 53 = .ok (.aload_n 0, 1) := by decide +kernel
theorem dX7_judge_54 : decode cX7_judge 54 = .ok (.getfield 92, 3) := by decide +kernel
theorem dX7_judge_57 : decode cX7_judge 57 = .ok (.iload_n 2, 1) := by decide +kernel
theorem dX7_judge_58 : decode cX7_judge 58 = .ok (.iaload, 1) := by decide +kernel
theorem dX7_judge_59 : decode cX7_judge 59 = .ok (.iload_n 3, 1) := by decide +kernel
theorem dX7_judge_60 : decode cX7_judge 60 = .ok (.if_icmp .eq 7, 3) := by decide +kernel
theorem dX7_judge_63 : decode cX7_judge 63 = .ok (.iload_n 2, 1) := by decide +kernel
theorem dX7_judge_64 : decode cX7_judge 64 = .ok (.goto 4, 3) := by decide +kernel
theorem dX7_judge_67 : decode cX7_judge 67 = .ok (.iload_n 1, 1) := by decide +kernel
theorem dX7_judge_68 : decode cX7_judge 68 = .ok (.istore_n 1, 1) := by decide +kernel
theorem dX7_judge_69 : decode cX7_judge 69 = .ok (.iinc 2 (-1), 3) := by decide +kernel
theorem dX7_judge_72 : decode cX7_judge 72 = .ok (.goto (-57), 3) := by decide +kernel
theorem dX7_judge_75 : decode cX7_judge 75 = .ok (.aload_n 0, 1) := by decide +kernel
theorem dX7_judge_76 : decode cX7_judge 76 = .ok (.iconst 0, 1) := by decide +kernel
theorem dX7_judge_77 : decode cX7_judge 77 = .ok (.putfield 366, 3) := by decide +kernel
theorem dX7_judge_80 : decode cX7_judge 80 = .ok (.iload_n 1, 1) := by decide +kernel
theorem dX7_judge_81 : decode cX7_judge 81 = .ok (.ireturn, 1) := by decide +kernel
theorem dX7_clear_0 : decode cX7_clear 0 = .ok (.aload_n 0, 1) := by decide +kernel
theorem dX7_clear_1 : decode cX7_clear 1 = .ok (.iconst 0, 1) := by decide +kernel
theorem dX7_clear_2 : decode cX7_clear 2 = .ok (.putfield 114, 3) := by decide +kernel
theorem dX7_clear_5 : decode cX7_clear 5 = .ok (.aload_n 0, 1) := by decide +kernel
theorem dX7_clear_6 : decode cX7_clear 6 = .ok (.getfield 366, 3) := by decide +kernel
theorem dX7_clear_9 : decode cX7_clear 9 = .ok (.istore_n 1, 1) := by decide +kernel
theorem dX7_clear_10 : decode cX7_clear 10 = .ok (.aload_n 0, 1) := by decide +kernel
theorem dX7_clear_11 : decode cX7_clear 11 = .ok (.iconst 0, 1) := by decide +kernel
theorem dX7_clear_12 : decode cX7_clear 12 = .ok (.putfield 366, 3) := by decide +kernel
theorem dX7_clear_15 : decode cX7_clear 15 = .ok (.iload_n 1, 1) := by decide +kernel
theorem dX7_clear_16 : decode cX7_clear 16 = .ok (.ireturn, 1) := by decide +kernel
theorem dX7_drawBelow_0 : decode cX7_drawBelow 0 = .ok (.aload_n 0, 1) := by decide +kernel
theorem dX7_drawBelow_1 : decode cX7_drawBelow 1 = .ok (.aload_n 0, 1) := by decide +kernel
theorem dX7_drawBelow_2 : decode cX7_drawBelow 2 = .ok (.getfield 398, 3) := by decide +kernel
theorem dX7_drawBelow_5 : decode cX7_drawBelow 5 = .ok (.ldc_w 401, 3) := by decide +kernel
theorem dX7_drawBelow_8 : decode cX7_drawBelow 8 = .ok (.imul, 1) := by decide +kernel
theorem dX7_drawBelow_9 : decode cX7_drawBelow 9 = .ok (.sipush 12345, 3) := by decide +kernel
theorem dX7_drawBelow_12 : decode cX7_drawBelow 12 = .ok (.iadd, 1) := by decide +kernel
theorem dX7_drawBelow_13 : decode cX7_drawBelow 13 = .ok (.putfield 398, 3) := by decide +kernel
theorem dX7_drawBelow_16 : decode cX7_drawBelow 16 = .ok (.aload_n 0, 1) := by decide +kernel
theorem dX7_drawBelow_17 : decode cX7_drawBelow 17 = .ok (.getfield 398, 3) := by decide +kernel
theorem dX7_drawBelow_20 : decode cX7_drawBelow 20 = .ok (.ldc_w 402, 3) := by decide +kernel
theorem dX7_drawBelow_23 : decode cX7_drawBelow 23 = .ok (.iand, 1) := by decide +kernel
theorem dX7_drawBelow_24 : decode cX7_drawBelow 24 = .ok (.ldc_w 403, 3) := by decide +kernel
theorem dX7_drawBelow_27 : decode cX7_drawBelow 27 = .ok (.idiv, 1) := by decide +kernel
theorem dX7_drawBelow_28 : decode cX7_drawBelow 28 = .ok (.iload_n 1, 1) := by decide +kernel
theorem dX7_drawBelow_29 : decode cX7_drawBelow 29 = .ok (.irem, 1) := by decide +kernel
theorem dX7_drawBelow_30 : decode cX7_drawBelow 30 = .ok (.ireturn, 1) := by decide +kernel
theorem dX7_lots_0 : decode cX7_lots 0 = .ok (.aload_n 0, 1) := by decide +kernel
theorem dX7_lots_1 : decode cX7_lots 1 = .ok (.iconst 0, 1) := by decide +kernel
theorem dX7_lots_2 : decode cX7_lots 2 = .ok (.putfield 114, 3) := by decide +kernel
theorem dX7_lots_5 : decode cX7_lots 5 = .ok (.iload_n 1, 1) := by decide +kernel
theorem dX7_lots_6 : decode cX7_lots 6 = .ok (.iconst 1, 1) := by decide +kernel
theorem dX7_lots_7 : decode cX7_lots 7 = .ok (.bipush 20, 2) := by decide +kernel
theorem dX7_lots_9 : decode cX7_lots 9 = .ok (.invokestatic 347, 3) := by decide +kernel
theorem dX7_lots_12 : decode cX7_lots 12 = .ok (.istore 4, 2) := by decide +kernel
theorem dX7_lots_14 : decode cX7_lots 14 = .ok (.iload 4, 2) := by decide +kernel
theorem dX7_lots_16 : decode cX7_lots 16 = .ok (.ifCond .ne 18, 3) := by decide +kernel
theorem dX7_lots_19 : decode cX7_lots 19 = .ok (.iload_n 3, 1) := by decide +kernel
theorem dX7_lots_20 : decode cX7_lots 20 = .ok (.i2l, 1) := by decide +kernel
theorem dX7_lots_21 : decode cX7_lots 21 = .ok (.lconst 0, 1) := by decide +kernel
theorem dX7_lots_22 : decode cX7_lots 22 = .ok (.lconst 1, 1) := by decide +kernel
theorem dX7_lots_23 : decode cX7_lots 23 = .ok (.invokestatic 122, 3) := by decide +kernel
theorem dX7_lots_26 : decode cX7_lots 26 = .ok (.ifCond .ne 8, 3) := by decide +kernel
theorem dX7_lots_29 : decode cX7_lots 29 = .ok (.bipush (-2), 2) := by decide +kernel
theorem dX7_lots_31 : decode cX7_lots 31 = .ok (.goto 5, 3) := by decide +kernel
theorem dX7_lots_34 : decode cX7_lots 34 = .ok (.iload 4, 2) := by decide +kernel
theorem dX7_lots_36 : decode cX7_lots 36 = .ok (.istore 4, 2) := by decide +kernel
theorem dX7_lots_38 : decode cX7_lots 38 = .ok (.iload 4, 2) := by decide +kernel
theorem dX7_lots_40 : decode cX7_lots 40 = .ok (.ifCond .ge 10, 3) := by decide +kernel
theorem dX7_lots_43 : decode cX7_lots 43 = .ok (.aload_n 0, 1) := by decide +kernel
theorem dX7_lots_44 : decode cX7_lots 44 = .ok (.iload 4, 2) := by decide +kernel
theorem dX7_lots_46 : decode cX7_lots 46 = .ok (.invokevirtual 219, 3) := by decide +kernel
theorem dX7_lots_49 : decode cX7_lots 49 = .ok (.ireturn, 1) := by decide +kernel
theorem dX7_lots_50 : decode cX7_lots 50 = .ok (.aload_n 0, 1) := by decide +kernel
theorem dX7_lots_51 : decode cX7_lots 51 = .ok (.iload_n 2, 1) := by decide +kernel
theorem dX7_lots_52 : decode cX7_lots 52 = .ok (.putfield 398, 3) := by decide +kernel
theorem dX7_lots_55 : decode cX7_lots 55 = .ok (.iconst 0, 1) := by decide +kernel
theorem dX7_lots_56 : decode cX7_lots 56 = .ok (.istore 5, 2) := by decide +kernel
theorem dX7_lots_58 : decode cX7_lots 58 = .ok (.aload_n 0, 1) := by decide +kernel
theorem dX7_lots_59 : decode cX7_lots 59 = .ok (.getfield 182, 3) := by decide +kernel
theorem dX7_lots_62 : decode cX7_lots 62 = .ok (.istore 6, 2) := by decide +kernel
theorem dX7_lots_64 : decode cX7_lots 64 = .ok (.aload_n 0, 1) := by decide +kernel
theorem dX7_lots_65 : decode cX7_lots 65 = .ok (.invokevirtual 289, 3) := by decide +kernel
theorem dX7_lots_68 : decode cX7_lots 68 = .ok (.iconst 0, 1) := by decide +kernel
theorem dX7_lots_69 : decode cX7_lots 69 = .ok (.istore 7, 2) := by decide +kernel
theorem dX7_lots_71 : decode cX7_lots 71 = .ok (.iload 7, 2) := by decide +kernel
theorem dX7_lots_73 : decode cX7_lots 73 = .ok (.iload_n 1, 1) := by decide +kernel
theorem dX7_lots_74 : decode cX7_lots 74 = .ok (.if_icmp .ge 75, 3) := by decide +kernel
theorem dX7_lots_77 : decode cX7_lots 77 = .ok (.iconst 0, 1) := by decide +kernel
theorem dX7_lots_78 : decode cX7_lots 78 = .ok (.istore 8, 2) := by decide +kernel
theorem dX7_lots_80 : decode cX7_lots 80 = .ok (.iload 8, 2) := by decide +kernel
theorem dX7_lots_82 : decode cX7_lots 82 = .ok (.aload_n 0, 1) := by decide +kernel
theorem dX7_lots_83 : decode cX7_lots 83 = .ok (.getfield 119, 3) := by decide +kernel
theorem dX7_lots_86 : decode cX7_lots 86 = .ok (.if_icmp .ge 21, 3) := by decide +kernel
theorem dX7_lots_89 : decode cX7_lots 89 = .ok (.aload_n 0, 1) := by decide +kernel
theorem dX7_lots_90 : decode cX7_lots 90 = .ok (.getfield 26, 3) := by decide +kernel
theorem dX7_lots_93 : decode cX7_lots 93 = .ok (.iload 8, 2) := by decide +kernel
theorem dX7_lots_95 : decode cX7_lots 95 = .ok (.aload_n 0, 1) := by decide +kernel
theorem dX7_lots_96 : decode cX7_lots 96 = .ok (.iconst 4, 1) := by decide +kernel
theorem dX7_lots_97 : decode cX7_lots 97 = .ok (.invokevirtual 404, 3) := by decide +kernel
theorem dX7_lots_100 : decode cX7_lots 100 = .ok (.iastore, 1) := by decide +kernel
theorem dX7_lots_101 : decode cX7_lots 101 = .ok (.iinc 8 1, 3) := by decide +kernel
theorem dX7_lots_104 : decode cX7_lots 104 = .ok (.goto (-24), 3) := by decide +kernel
theorem dX7_lots_107 : decode cX7_lots 107 = .ok (.aload_n 0, 1) := by decide +kernel
theorem dX7_lots_108 : decode cX7_lots 108 = .ok (.bipush 10, 2) := by decide +kernel
theorem dX7_lots_110 : decode cX7_lots 110 = .ok (.invokevirtual 263, 3) := by decide +kernel
theorem dX7_lots_113 : decode cX7_lots 113 = .ok (.iload 5, 2) := by decide +kernel
theorem dX7_lots_115 : decode cX7_lots 115 = .ok (.iload_n 3, 1) := by decide +kernel
theorem dX7_lots_116 : decode cX7_lots 116 = .ok (.ifCond .ne 13, 3) := by decide +kernel
theorem dX7_lots_119 : decode cX7_lots 119 = .ok (.aload_n 0, 1) := by decide +kernel
theorem dX7_lots_120 : decode cX7_lots 120 = .ok (.getfield 182, 3) := by decide +kernel
theorem dX7_lots_123 : decode cX7_lots 123 = .ok (.iload 6, 2) := by decide +kernel
theorem dX7_lots_125 : decode cX7_lots 125 = .ok (.isub, 1) := by decide +kernel
theorem dX7_lots_126 : decode cX7_lots 126 = .ok (.goto 10, 3) := by decide +kernel
theorem dX7_lots_129 : decode cX7_lots 129 = .ok (.aload_n 0, 1) := by decide +kernel
theorem dX7_lots_130 : decode cX7_lots 130 = .ok (.invokevirtual 352, 3) := by decide +kernel
theorem dX7_lots_133 : decode cX7_lots 133 = .ok (.invokestatic 363, 3) := by decide +kernel
theorem dX7_lots_136 : decode cX7_lots 136 = .ok (.iadd, 1) := by decide +kernel
theorem dX7_lots_137 : decode cX7_lots 137 = .ok (.istore 5, 2) := by decide +kernel
theorem dX7_lots_139 : decode cX7_lots 139 = .ok (.aload_n 0, 1) := by decide +kernel
theorem dX7_lots_140 : decode cX7_lots 140 = .ok (.invokevirtual 295, 3) := by decide +kernel
theorem dX7_lots_143 : decode cX7_lots 143 = .ok (.iinc 7 1, 3) := by decide +kernel
theorem dX7_lots_146 : decode cX7_lots 146 = .ok (.goto (-75), 3) := by decide +kernel
theorem dX7_lots_149 : decode cX7_lots 149 = .ok (.iload 5, 2) := by decide +kernel
theorem dX7_lots_151 : decode cX7_lots 151 = .ok (.ireturn, 1) := by decide +kernel
theorem dX7_shutMany_0 : decode cX7_shutMany 0 = .ok (.iconst 0, 1) := by decide +kernel
theorem dX7_shutMany_1 : decode cX7_shutMany 1 = .ok (.istore_n 1, 1) := by decide +kernel
theorem dX7_shutMany_2 : decode cX7_shutMany 2 = .ok (.iconst 0, 1) := by decide +kernel
theorem dX7_shutMany_3 : decode cX7_shutMany 3 = .ok (.istore_n 2, 1) := by decide +kernel
theorem dX7_shutMany_4 : decode cX7_shutMany 4 = .ok (.iload_n 2, 1) := by decide +kernel
theorem dX7_shutMany_5 : decode cX7_shutMany 5 = .ok (.bipush 36, 2) := by decide +kernel
theorem dX7_shutMany_7 : decode cX7_shutMany 7 = .ok (.if_icmp .ge 18, 3) := by decide +kernel
theorem dX7_shutMany_10 : decode cX7_shutMany 10 = .ok (.iload_n 1, 1) := by decide +kernel
theorem dX7_shutMany_11 : decode cX7_shutMany 11 = .ok (.aload_n 0, 1) := by decide +kernel
theorem dX7_shutMany_12 : decode cX7_shutMany 12 = .ok (.getfield 13, 3) := by decide +kernel
theorem dX7_shutMany_15 : decode cX7_shutMany 15 = .ok (.iload_n 2, 1) := by decide +kernel
theorem dX7_shutMany_16 : decode cX7_shutMany 16 = .ok (.iaload, 1) := by decide +kernel
theorem dX7_shutMany_17 : decode cX7_shutMany 17 = .ok (.iadd, 1) := by decide +kernel
theorem dX7_shutMany_18 : decode cX7_shutMany 18 = .ok (.istore_n 1, 1) := by decide +kernel
theorem dX7_shutMany_19 : decode cX7_shutMany 19 = .ok (.iinc 2 1, 3) := by decide +kernel
theorem dX7_shutMany_22 : decode cX7_shutMany 22 = .ok (.goto (-18), 3) := by decide +kernel
theorem dX7_shutMany_25 : decode cX7_shutMany 25 = .ok (.iload_n 1, 1) := by decide +kernel
theorem dX7_shutMany_26 : decode cX7_shutMany 26 = .ok (.ireturn, 1) := by decide +kernel
theorem dX7_count_0 : decode cX7_count 0 = .ok (.aload_n 0, 1) := by decide +kernel
theorem dX7_count_1 : decode cX7_count 1 = .ok (.iconst 0, 1) := by decide +kernel
theorem dX7_count_2 : decode cX7_count 2 = .ok (.putfield 114, 3) := by decide +kernel
theorem dX7_count_5 : decode cX7_count 5 = .ok (.iload_n 1, 1) := by decide +kernel
theorem dX7_count_6 : decode cX7_count 6 = .ok (.tableswitch 104 0 9 #[54, 59, 64, 69, 74, 79, 84, 89, 94, 99], 54) := by decide +kernel
theorem dX7_count_60 : decode cX7_count 60 = .ok (.aload_n 0, 1) := by decide +kernel
theorem dX7_count_61 : decode cX7_count 61 = .ok (.getfield 119, 3) := by decide +kernel
theorem dX7_count_64 : decode cX7_count 64 = .ok (.ireturn, 1) := by decide +kernel
theorem dX7_count_65 : decode cX7_count 65 = .ok (.aload_n 0, 1) := by decide +kernel
theorem dX7_count_66 : decode cX7_count 66 = .ok (.getfield 126, 3) := by decide +kernel
theorem dX7_count_69 : decode cX7_count 69 = .ok (.ireturn, 1) := by decide +kernel
theorem dX7_count_70 : decode cX7_count 70 = .ok (.aload_n 0, 1) := by decide +kernel
theorem dX7_count_71 : decode cX7_count 71 = .ok (.getfield 148, 3) := by decide +kernel
theorem dX7_count_74 : decode cX7_count 74 = .ok (.ireturn, 1) := by decide +kernel
theorem dX7_count_75 : decode cX7_count 75 = .ok (.aload_n 0, 1) := by decide +kernel
theorem dX7_count_76 : decode cX7_count 76 = .ok (.getfield 182, 3) := by decide +kernel
theorem dX7_count_79 : decode cX7_count 79 = .ok (.ireturn, 1) := by decide +kernel
theorem dX7_count_80 : decode cX7_count 80 = .ok (.aload_n 0, 1) := by decide +kernel
theorem dX7_count_81 : decode cX7_count 81 = .ok (.invokevirtual 352, 3) := by decide +kernel
theorem dX7_count_84 : decode cX7_count 84 = .ok (.ireturn, 1) := by decide +kernel
theorem dX7_count_85 : decode cX7_count 85 = .ok (.aload_n 0, 1) := by decide +kernel
theorem dX7_count_86 : decode cX7_count 86 = .ok (.getfield 199, 3) := by decide +kernel
theorem dX7_count_89 : decode cX7_count 89 = .ok (.ireturn, 1) := by decide +kernel
theorem dX7_count_90 : decode cX7_count 90 = .ok (.aload_n 0, 1) := by decide +kernel
theorem dX7_count_91 : decode cX7_count 91 = .ok (.invokevirtual 407, 3) := by decide +kernel
theorem dX7_count_94 : decode cX7_count 94 = .ok (.ireturn, 1) := by decide +kernel
theorem dX7_count_95 : decode cX7_count 95 = .ok (.aload_n 0, 1) := by decide +kernel
theorem dX7_count_96 : decode cX7_count 96 = .ok (.getfield 222, 3) := by decide +kernel
theorem dX7_count_99 : decode cX7_count 99 = .ok (.ireturn, 1) := by decide +kernel
theorem dX7_count_100 : decode cX7_count 100 = .ok (.aload_n 0, 1) := by decide +kernel
theorem dX7_count_101 : decode cX7_count 101 = .ok (.getfield 366, 3) := by decide +kernel
theorem dX7_count_104 : decode cX7_count 104 = .ok (.ireturn, 1) := by decide +kernel
theorem dX7_count_105 : decode cX7_count 105 = .ok (.aload_n 0, 1) := by decide +kernel
theorem dX7_count_106 : decode cX7_count 106 = .ok (.getfield 298, 3) := by decide +kernel
theorem dX7_count_109 : decode cX7_count 109 = .ok (.ireturn, 1) := by decide +kernel
theorem dX7_count_110 : decode cX7_count 110 = .ok (.iload_n 1, 1) := by decide +kernel
theorem dX7_count_111 : decode cX7_count 111 = .ok (.i2l, 1) := by decide +kernel
theorem dX7_count_112 : decode cX7_count 112 = .ok (.ldc2_w 410, 3) := by decide +kernel
theorem dX7_count_115 : decode cX7_count 115 = .ok (.ldc2_w 412, 3) := by decide +kernel
theorem dX7_count_118 : decode cX7_count 118 = .ok (.invokestatic 122, 3) := by decide +kernel
theorem dX7_count_121 : decode cX7_count 121 = .ok (.ifCond .eq 15, 3) := by decide +kernel
theorem dX7_count_124 : decode cX7_count 124 = .ok (.aload_n 0, 1) := by decide +kernel
theorem dX7_count_125 : decode cX7_count 125 = .ok (.getfield 47, 3) := by decide +kernel
theorem dX7_count_128 : decode cX7_count 128 = .ok (.iload_n 1, 1) := by decide +kernel
theorem dX7_count_129 : decode cX7_count 129 = .ok (.bipush 10, 2) := by decide +kernel
theorem dX7_count_131 : decode cX7_count 131 = .ok (.isub, 1) := by decide +kernel
theorem dX7_count_132 : decode cX7_count 132 = .ok (.iaload, 1) := by decide +kernel
theorem dX7_count_133 : decode cX7_count 133 = .ok (.goto 5, 3) := by decide +kernel
theorem dX7_count_136 : decode cX7_count 136 = .ok (.bipush (-9), 2) := by decide +kernel
theorem dX7_count_138 : decode cX7_count 138 = .ok (.ireturn, 1) := by decide +kernel
