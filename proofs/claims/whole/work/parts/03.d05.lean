theorem dX0_leaps_0 : decode cX0_leaps 0 = .ok (.iload_n 0, 1) := by decide +kernel
theorem dX0_leaps_1 : decode cX0_leaps 1 = .ok (.tableswitch 86 0 7 #[47, 49, 54, 56, 86, 63, 67, 76], 47) := by decide +kernel
theorem dX0_leaps_48 : decode cX0_leaps 48 = .ok (.iconst 1, 1) := by decide +kernel
theorem dX0_leaps_49 : decode cX0_leaps 49 = .ok (.ireturn, 1) := by decide +kernel
theorem dX0_leaps_50 : decode cX0_leaps 50 = .ok (.iload_n 1, 1) := by decide +kernel
theorem dX0_leaps_51 : decode cX0_leaps 51 = .ok (.invokestatic 9, 3) := by decide +kernel
theorem dX0_leaps_54 : decode cX0_leaps 54 = .ok (.ireturn, 1) := by decide +kernel
theorem dX0_leaps_55 : decode cX0_leaps 55 = .ok (.iconst 1, 1) := by decide +kernel
theorem dX0_leaps_56 : decode cX0_leaps 56 = .ok (.ireturn, 1) := by decide +kernel
theorem dX0_leaps_57 : decode cX0_leaps 57 = .ok (.iconst 2, 1) := by decide +kernel
theorem dX0_leaps_58 : decode cX0_leaps 58 = .ok (.iload_n 1, 1) := by decide +kernel
theorem dX0_leaps_59 : decode cX0_leaps 59 = .ok (.invokestatic 9, 3) := by decide +kernel
theorem dX0_leaps_62 : decode cX0_leaps 62 = .ok (.imul, 1) := by decide +kernel
theorem dX0_leaps_63 : decode cX0_leaps 63 = .ok (.ireturn, 1) := by decide +kernel
theorem dX0_leaps_64 : decode cX0_leaps 64 = .ok (.iload_n 1, 1) := by decide +kernel
theorem dX0_leaps_65 : decode cX0_leaps 65 = .ok (.iconst 2, 1) := by decide +kernel
theorem dX0_leaps_66 : decode cX0_leaps 66 = .ok (.idiv, 1) := by decide +kernel
theorem dX0_leaps_67 : decode cX0_leaps 67 = .ok (.ireturn, 1) := by decide +kernel
theorem dX0_leaps_68 : decode cX0_leaps 68 = .ok (.iconst 2, 1) := by decide +kernel
theorem dX0_leaps_69 : decode cX0_leaps 69 = .ok (.iload_n 1, 1) := by decide +kernel
theorem dX0_leaps_70 : decode cX0_leaps 70 = .ok (.invokestatic 9, 3) := by decide +kernel
theorem dX0_leaps_73 : decode cX0_leaps 73 = .ok (.imul, 1) := by decide +kernel
theorem dX0_leaps_74 : decode cX0_leaps 74 = .ok (.iconst 1, 1) := by decide +kernel
theorem dX0_leaps_75 : decode cX0_leaps 75 = .ok (.iadd, 1) := by decide +kernel
theorem dX0_leaps_76 : decode cX0_leaps 76 = .ok (.ireturn, 1) := by decide +kernel
theorem dX0_leaps_77 : decode cX0_leaps 77 = .ok (.iload_n 1, 1) := by decide +kernel
theorem dX0_leaps_78 : decode cX0_leaps 78 = .ok (.iconst 2, 1) := by decide +kernel
theorem dX0_leaps_79 : decode cX0_leaps 79 = .ok (.idiv, 1) := by decide +kernel
theorem dX0_leaps_80 : decode cX0_leaps 80 = .ok (.iconst 1, 1) := by decide +kernel
theorem dX0_leaps_81 : decode cX0_leaps 81 = .ok (.isub, 1) := by decide +kernel
theorem dX0_leaps_82 : decode cX0_leaps 82 = .ok (.iconst 0, 1) := by decide +kernel
theorem dX0_leaps_83 : decode cX0_leaps 83 = .ok (.invokestatic 15, 3) := by decide +kernel
theorem dX0_leaps_86 : decode cX0_leaps 86 = .ok (.ireturn, 1) := by decide +kernel
theorem dX0_leaps_87 : decode cX0_leaps 87 = .ok (.iconst 0, 1) := by decide +kernel
theorem dX0_leaps_88 : decode cX0_leaps 88 = .ok (.ireturn, 1) := by decide +kernel
theorem dX0_chills_0 : decode cX0_chills 0 = .ok (.iload_n 0, 1) := by decide +kernel
theorem dX0_chills_1 : decode cX0_chills 1 = .ok (.tableswitch 116 1 7 #[43, 48, 54, 62, 70, 76, 102], 43) := by decide +kernel
theorem dX0_chills_44 : decode cX0_chills 44 = .ok (.fload_n 3, 1) := by decide +kernel
theorem dX0_chills_45 : decode cX0_chills 45 = .ok (.invokestatic 21, 3) := by decide +kernel
theorem dX0_chills_48 : decode cX0_chills 48 = .ok (.freturn, 1) := by decide +kernel
theorem dX0_chills_49 : decode cX0_chills 49 = .ok (.iload_n 1, 1) := by decide +kernel
theorem dX0_chills_50 : decode cX0_chills 50 = .ok (.fload_n 3, 1) := by decide +kernel
theorem dX0_chills_51 : decode cX0_chills 51 = .ok (.invokestatic 25, 3) := by decide +kernel
theorem dX0_chills_54 : decode cX0_chills 54 = .ok (.freturn, 1) := by decide +kernel
theorem dX0_chills_55 : decode cX0_chills 55 = .ok (.fload_n 3, 1) := by decide +kernel
theorem dX0_chills_56 : decode cX0_chills 56 = .ok (.invokestatic 21, 3) := by decide +kernel
theorem dX0_chills_59 : decode cX0_chills 59 = .ok (.invokestatic 21, 3) := by decide +kernel
theorem dX0_chills_62 : decode cX0_chills 62 = .ok (.freturn, 1) := by decide +kernel
theorem dX0_chills_63 : decode cX0_chills 63 = .ok (.iload_n 1, 1) := by decide +kernel
theorem dX0_chills_64 : decode cX0_chills 64 = .ok (.fload_n 3, 1) := by decide +kernel
theorem dX0_chills_65 : decode cX0_chills 65 = .ok (.invokestatic 25, 3) := by decide +kernel
theorem dX0_chills_68 : decode cX0_chills 68 = .ok (.f2i, 1) := by decide +kernel
theorem dX0_chills_69 : decode cX0_chills 69 = .ok (.i2f, 1) := by decide +kernel
theorem dX0_chills_70 : decode cX0_chills 70 = .ok (.freturn, 1) := by decide +kernel
theorem dX0_chills_71 : decode cX0_chills 71 = .ok (.iload_n 1, 1) := by decide +kernel
theorem dX0_chills_72 : decode cX0_chills 72 = .ok (.fload_n 3, 1) := by decide +kernel
theorem dX0_chills_73 : decode cX0_chills 73 = .ok (.invokestatic 29, 3) := by decide +kernel
theorem dX0_chills_76 : decode cX0_chills 76 = .ok (.freturn, 1) := by decide +kernel
theorem dX0_chills_77 : decode cX0_chills 77 = .ok (.iload_n 2, 1) := by decide +kernel
theorem dX0_chills_78 : decode cX0_chills 78 = .ok (.iconst 2, 1) := by decide +kernel
theorem dX0_chills_79 : decode cX0_chills 79 = .ok (.irem, 1) := by decide +kernel
theorem dX0_chills_80 : decode cX0_chills 80 = .ok (.ifCond .ne 13, 3) := by decide +kernel
theorem dX0_chills_83 : decode cX0_chills 83 = .ok (.fload_n 3, 1) := by decide +kernel
theorem dX0_chills_84 : decode cX0_chills 84 = .ok (.invokestatic 21, 3) := by decide +kernel
theorem dX0_chills_87 : decode cX0_chills 87 = .ok (.invokestatic 21, 3) := by decide +kernel
theorem dX0_chills_90 : decode cX0_chills 90 = .ok (.goto 12, 3) := by decide +kernel
theorem dX0_chills_93 : decode cX0_chills 93 = .ok (.fload_n 3, 1) := by decide +kernel
theorem dX0_chills_94 : decode cX0_chills 94 = .ok (.invokestatic 21, 3) := by decide +kernel
theorem dX0_chills_97 : decode cX0_chills 97 = .ok (.invokestatic 21, 3) := by decide +kernel
theorem dX0_chills_100 : decode cX0_chills 100 = .ok (.fconst 1, 1) := by decide +kernel
theorem dX0_chills_101 : decode cX0_chills 101 = .ok (.fsub, 1) := by decide +kernel
theorem dX0_chills_102 : decode cX0_chills 102 = .ok (.freturn, 1) := by decide +kernel
theorem dX0_chills_103 : decode cX0_chills 103 = .ok (.fload_n 3, 1) := by decide +kernel
theorem dX0_chills_104 : decode cX0_chills 104 = .ok (.ldc 32, 2) := by decide +kernel
theorem dX0_chills_106 : decode cX0_chills 106 = .ok (.fmul, 1) := by decide +kernel
theorem dX0_chills_107 : decode cX0_chills 107 = .ok (.iload_n 1, 1) := by decide +kernel
theorem dX0_chills_108 : decode cX0_chills 108 = .ok (.fload_n 3, 1) := by decide +kernel
theorem dX0_chills_109 : decode cX0_chills 109 = .ok (.invokestatic 29, 3) := by decide +kernel
theorem dX0_chills_112 : decode cX0_chills 112 = .ok (.ldc 32, 2) := by decide +kernel
theorem dX0_chills_114 : decode cX0_chills 114 = .ok (.fmul, 1) := by decide +kernel
theorem dX0_chills_115 : decode cX0_chills 115 = .ok (.fadd, 1) := by decide +kernel
theorem dX0_chills_116 : decode cX0_chills 116 = .ok (.freturn, 1) := by decide +kernel
theorem dX0_chills_117 : decode cX0_chills 117 = .ok (.fload_n 3, 1) := by decide +kernel
theorem dX0_chills_118 : decode cX0_chills 118 = .ok (.ldc 33, 2) := by decide +kernel
theorem dX0_chills_120 : decode cX0_chills 120 = .ok (.fmul, 1) := by decide +kernel
theorem dX0_chills_121 : decode cX0_chills 121 = .ok (.freturn, 1) := by decide +kernel
theorem dX0_gustLeaps_0 : decode cX0_gustLeaps 0 = .ok (.iconst 1, 1) := by decide +kernel
theorem dX0_gustLeaps_1 : decode cX0_gustLeaps 1 = .ok (.iload_n 0, 1) := by decide +kernel
theorem dX0_gustLeaps_2 : decode cX0_gustLeaps 2 = .ok (.iconst 3, 1) := by decide +kernel
theorem dX0_gustLeaps_3 : decode cX0_gustLeaps 3 = .ok (.idiv, 1) := by decide +kernel
theorem dX0_gustLeaps_4 : decode cX0_gustLeaps 4 = .ok (.iadd, 1) := by decide +kernel
theorem dX0_gustLeaps_5 : decode cX0_gustLeaps 5 = .ok (.ireturn, 1) := by decide +kernel
theorem dX0_gust_0 : decode cX0_gust 0 = .ok (.fload_n 0, 1) := by decide +kernel
theorem dX0_gust_1 : decode cX0_gust 1 = .ok (.ldc 33, 2) := by decide +kernel
theorem dX0_gust_3 : decode cX0_gust 3 = .ok (.fmul, 1) := by decide +kernel
theorem dX0_gust_4 : decode cX0_gust 4 = .ok (.ldc 32, 2) := by decide +kernel
theorem dX0_gust_6 : decode cX0_gust 6 = .ok (.fsub, 1) := by decide +kernel
theorem dX0_gust_7 : decode cX0_gust 7 = .ok (.freturn, 1) := by decide +kernel
theorem dX0_sigh_0 : decode cX0_sigh 0 = .ok (.fload_n 1, 1) := by decide +kernel
theorem dX0_sigh_1 : decode cX0_sigh 1 = .ok (.iload_n 0, 1) := by decide +kernel
theorem dX0_sigh_2 : decode cX0_sigh 2 = .ok (.i2f, 1) := by decide +kernel
theorem dX0_sigh_3 : decode cX0_sigh 3 = .ok (.ldc 34, 2) := by decide +kernel
theorem dX0_sigh_5 : decode cX0_sigh 5 = .ok (.fmul, 1) := by decide +kernel
theorem dX0_sigh_6 : decode cX0_sigh 6 = .ok (.fsub, 1) := by decide +kernel
theorem dX0_sigh_7 : decode cX0_sigh 7 = .ok (.freturn, 1) := by decide +kernel
theorem dX0_flue_0 : decode cX0_flue 0 = .ok (.fload_n 1, 1) := by decide +kernel
theorem dX0_flue_1 : decode cX0_flue 1 = .ok (.iload_n 0, 1) := by decide +kernel
theorem dX0_flue_2 : decode cX0_flue 2 = .ok (.iconst 1, 1) := by decide +kernel
theorem dX0_flue_3 : decode cX0_flue 3 = .ok (.iadd, 1) := by decide +kernel
theorem dX0_flue_4 : decode cX0_flue 4 = .ok (.i2f, 1) := by decide +kernel
theorem dX0_flue_5 : decode cX0_flue 5 = .ok (.fdiv, 1) := by decide +kernel
theorem dX0_flue_6 : decode cX0_flue 6 = .ok (.freturn, 1) := by decide +kernel
theorem dX1_init_0 : decode cX1_init 0 = .ok (.aload_n 0, 1) := by decide +kernel
theorem dX1_init_1 : decode cX1_init 1 = .ok (.invokespecial 3, 3) := by decide +kernel
theorem dX1_init_4 : decode cX1_init 4 = .ok (.aload_n 0, 1) := by decide +kernel
theorem dX1_init_5 : decode cX1_init 5 = .ok (.bipush 6, 2) := by decide +kernel
theorem dX1_init_7 : decode cX1_init 7 = .ok (.newarray .int, 2) := by decide +kernel
theorem dX1_init_9 : decode cX1_init 9 = .ok (.putfield 9, 3) := by decide +kernel
theorem dX1_init_12 : decode cX1_init 12 = .ok (.aload_n 0, 1) := by decide +kernel
theorem dX1_init_13 : decode cX1_init 13 = .ok (.bipush 6, 2) := by decide +kernel
theorem dX1_init_15 : decode cX1_init 15 = .ok (.newarray .int, 2) := by decide +kernel
theorem dX1_init_17 : decode cX1_init 17 = .ok (.putfield 15, 3) := by decide +kernel
theorem dX1_init_20 : decode cX1_init 20 = .ok (.return_, 1) := by decide +kernel
theorem dX1_add_0 : decode cX1_add 0 = .ok (.aload_n 0, 1) := by decide +kernel
theorem dX1_add_1 : decode cX1_add 1 = .ok (.getfield 18, 3) := by decide +kernel
theorem dX1_add_4 : decode cX1_add 4 = .ok (.bipush 6, 2) := by decide +kernel
theorem dX1_add_6 : decode cX1_add 6 = .ok (.if_icmp .ge 33, 3) := by decide +kernel
theorem dX1_add_9 : decode cX1_add 9 = .ok (.aload_n 0, 1) := by decide +kernel
theorem dX1_add_10 : decode cX1_add 10 = .ok (.getfield 9, 3) := by decide +kernel
theorem dX1_add_13 : decode cX1_add 13 = .ok (.aload_n 0, 1) := by decide +kernel
theorem dX1_add_14 : decode cX1_add 14 = .ok (.getfield 18, 3) := by decide +kernel
theorem dX1_add_17 : decode cX1_add 17 = .ok (.iload_n 1, 1) := by decide +kernel
theorem dX1_add_18 : decode cX1_add 18 = .ok (.iastore, 1) := by decide +kernel
theorem dX1_add_19 : decode cX1_add 19 = .ok (.aload_n 0, 1) := by decide +kernel
theorem dX1_add_20 : decode cX1_add 20 = .ok (.getfield 15, 3) := by decide +kernel
theorem dX1_add_23 : decode cX1_add 23 = .ok (.aload_n 0, 1) := by decide +kernel
theorem dX1_add_24 : decode cX1_add 24 = .ok (.getfield 18, 3) := by decide +kernel
theorem dX1_add_27 : decode cX1_add 27 = .ok (.iload_n 2, 1) := by decide +kernel
theorem dX1_add_28 : decode cX1_add 28 = .ok (.iastore, 1) := by decide +kernel
theorem dX1_add_29 : decode cX1_add 29 = .ok (.aload_n 0, 1) := by decide +kernel
theorem dX1_add_30 : decode cX1_add 30 = .ok (.dup, 1) := by decide +kernel
theorem dX1_add_31 : decode cX1_add 31 = .ok (.getfield 18, 3) := by decide +kernel
theorem dX1_add_34 : decode cX1_add 34 = .ok (.iconst 1, 1) := by decide +kernel
theorem dX1_add_35 : decode cX1_add 35 = .ok (.iadd, 1) := by decide +kernel
theorem dX1_add_36 : decode cX1_add 36 = .ok (.putfield 18, 3) := by decide +kernel
theorem dX1_add_39 : decode cX1_add 39 = .ok (.return_, 1) := by decide +kernel
theorem dX1_take_0 : decode cX1_take 0 = .ok (.aload_n 1, 1) := by decide +kernel
theorem dX1_take_1 : decode cX1_take 1 = .ok (.getfield 9, 3) := by decide +kernel
theorem dX1_take_4 : decode cX1_take 4 = .ok (.iconst 0, 1) := by decide +kernel
theorem dX1_take_5 : decode cX1_take 5 = .ok (.aload_n 0, 1) := by decide +kernel
theorem dX1_take_6 : decode cX1_take 6 = .ok (.getfield 9, 3) := by decide +kernel
theorem dX1_take_9 : decode cX1_take 9 = .ok (.iconst 0, 1) := by decide +kernel
theorem dX1_take_10 : decode cX1_take 10 = .ok (.bipush 6, 2) := by decide +kernel
theorem dX1_take_12 : decode cX1_take 12 = .ok (.invokestatic 22, 3) := by decide +kernel
theorem dX1_take_15 : decode cX1_take 15 = .ok (.aload_n 1, 1) := by decide +kernel
theorem dX1_take_16 : decode cX1_take 16 = .ok (.getfield 15, 3) := by decide +kernel
theorem dX1_take_19 : decode cX1_take 19 = .ok (.iconst 0, 1) := by decide +kernel
theorem dX1_take_20 : decode cX1_take 20 = .ok (.aload_n 0, 1) := by decide +kernel
theorem dX1_take_21 : decode cX1_take 21 = .ok (.getfield 15, 3) := by decide +kernel
theorem dX1_take_24 : decode cX1_take 24 = .ok (.iconst 0, 1) := by decide +kernel
theorem dX1_take_25 : decode cX1_take 25 = .ok (.bipush 6, 2) := by decide +kernel
theorem dX1_take_27 : decode cX1_take 27 = .ok (.invokestatic 22, 3) := by decide +kernel
theorem dX1_take_30 : decode cX1_take 30 = .ok (.aload_n 0, 1) := by decide +kernel
theorem dX1_take_31 : decode cX1_take 31 = .ok (.aload_n 1, 1) := by decide +kernel
theorem dX1_take_32 : decode cX1_take 32 = .ok (.getfield 18, 3) := by decide +kernel
theorem dX1_take_35 : decode cX1_take 35 = .ok (.putfield 18, 3) := by decide +kernel
theorem dX1_take_38 : decode cX1_take 38 = .ok (.return_, 1) := by decide +kernel
theorem dX1_warmed_0 : decode cX1_warmed 0 = .ok (.fload_n 1, 1) := by decide +kernel
theorem dX1_warmed_1 : decode cX1_warmed 1 = .ok (.fstore_n 2, 1) := by decide +kernel
theorem dX1_warmed_2 : decode cX1_warmed 2 = .ok (.iconst 0, 1) := by decide +kernel
theorem dX1_warmed_3 : decode cX1_warmed 3 = .ok (.istore_n 3, 1) := by decide +kernel
theorem dX1_warmed_4 : decode cX1_warmed 4 = .ok (.iload_n 3, 1) := by decide +kernel
theorem dX1_warmed_5 : decode cX1_warmed 5 = .ok (.aload_n 0, 1) := by decide +kernel
theorem dX1_warmed_6 : decode cX1_warmed 6 = .ok (.getfield 18, 3) := by decide +kernel
theorem dX1_warmed_9 : decode cX1_warmed 9 = .ok (.if_icmp .ge 27, 3) := by decide +kernel
theorem dX1_warmed_12 : decode cX1_warmed 12 = .ok (.aload_n 0, 1) := by decide +kernel
theorem dX1_warmed_13 : decode cX1_warmed 13 = .ok (.getfield 9, 3) := by decide +kernel
theorem dX1_warmed_16 : decode cX1_warmed 16 = .ok (.iload_n 3, 1) := by decide +kernel
theorem dX1_warmed_17 : decode cX1_warmed 17 = .ok (.iaload, 1) := by decide +kernel
theorem dX1_warmed_18 : decode cX1_warmed 18 = .ok (.aload_n 0, 1) := by decide +kernel
theorem dX1_warmed_19 : decode cX1_warmed 19 = .ok (.getfield 15, 3) := by decide +kernel
theorem dX1_warmed_22 : decode cX1_warmed 22 = .ok (.iload_n 3, 1) := by decide +kernel
theorem dX1_warmed_23 : decode cX1_warmed 23 = .ok (.iaload, 1) := by decide +kernel
theorem dX1_warmed_24 : decode cX1_warmed 24 = .ok (.i2f, 1) := by decide +kernel
theorem dX1_warmed_25 : decode cX1_warmed 25 = .ok (.fload_n 2, 1) := by decide +kernel
theorem dX1_warmed_26 : decode cX1_warmed 26 = .ok (.invokestatic 28, 3) := by decide +kernel
theorem dX1_warmed_29 : decode cX1_warmed 29 = .ok (.fstore_n 2, 1) := by decide +kernel
theorem dX1_warmed_30 : decode cX1_warmed 30 = .ok (.iinc 3 1, 3) := by decide +kernel
theorem dX1_warmed_33 : decode cX1_warmed 33 = .ok (.goto (-29), 3) := by decide +kernel
theorem dX1_warmed_36 : decode cX1_warmed 36 = .ok (.fload_n 2, 1) := by decide +kernel
theorem dX1_warmed_37 : decode cX1_warmed 37 = .ok (.invokestatic 32, 3) := by decide +kernel
theorem dX1_warmed_40 : decode cX1_warmed 40 = .ok (.freturn, 1) := by decide +kernel
theorem dX1_held_0 : decode cX1_held 0 = .ok (.fload_n 0, 1) := by decide +kernel
theorem dX1_held_1 : decode cX1_held 1 = .ok (.ldc 36, 2) := by decide +kernel
theorem dX1_held_3 : decode cX1_held 3 = .ok (.fcmp .l, 1) := by decide +kernel
theorem dX1_held_4 : decode cX1_held 4 = .ok (.ifCond .le 6, 3) := by decide +kernel
theorem dX1_held_7 : decode cX1_held 7 = .ok (.ldc 36, 2) := by decide +kernel
theorem dX1_held_9 : decode cX1_held 9 = .ok (.freturn, 1) := by decide +kernel
theorem dX1_held_10 : decode cX1_held 10 = .ok (.fload_n 0, 1) := by decide +kernel
theorem dX1_held_11 : decode cX1_held 11 = .ok (.ldc 37, 2) := by decide +kernel
theorem dX1_held_13 : decode cX1_held 13 = .ok (.fcmp .g, 1) := by decide +kernel
theorem dX1_held_14 : decode cX1_held 14 = .ok (.ifCond .ge 8, 3) := by decide +kernel
theorem dX1_held_17 : decode cX1_held 17 = .ok (.ldc 37, 2) := by decide +kernel
theorem dX1_held_19 : decode cX1_held 19 = .ok (.goto 4, 3) := by decide +kernel
theorem dX1_held_22 : decode cX1_held 22 = .ok (.fload_n 0, 1) := by decide +kernel
theorem dX1_held_23 : decode cX1_held 23 = .ok (.freturn, 1) := by decide +kernel
theorem dX1_stepped_0 : decode cX1_stepped 0 = .ok (.iload_n 0, 1) := by decide +kernel
theorem dX1_stepped_1 : decode cX1_stepped 1 = .ok (.tableswitch 93 0 5 #[39, 48, 55, 62, 69, 81], 39) := by decide +kernel
theorem dX1_stepped_40 : decode cX1_stepped 40 = .ok (.fload_n 2, 1) := by decide +kernel
theorem dX1_stepped_41 : decode cX1_stepped 41 = .ok (.fload_n 1, 1) := by decide +kernel
theorem dX1_stepped_42 : decode cX1_stepped 42 = .ok (.fload_n 2, 1) := by decide +kernel
theorem dX1_stepped_43 : decode cX1_stepped 43 = .ok (.fsub, 1) := by decide +kernel
theorem dX1_stepped_44 : decode cX1_stepped 44 = .ok (.ldc 38, 2) := by decide +kernel
theorem dX1_stepped_46 : decode cX1_stepped 46 = .ok (.fmul, 1) := by decide +kernel
theorem dX1_stepped_47 : decode cX1_stepped 47 = .ok (.fadd, 1) := by decide +kernel
theorem dX1_stepped_48 : decode cX1_stepped 48 = .ok (.freturn, 1) := by decide +kernel
theorem dX1_stepped_49 : decode cX1_stepped 49 = .ok (.fload_n 2, 1) := by decide +kernel
theorem dX1_stepped_50 : decode cX1_stepped 50 = .ok (.fload_n 1, 1) := by decide +kernel
theorem dX1_stepped_51 : decode cX1_stepped 51 = .ok (.ldc 39, 2) := by decide +kernel
theorem dX1_stepped_53 : decode cX1_stepped 53 = .ok (.fdiv, 1) := by decide +kernel
theorem dX1_stepped_54 : decode cX1_stepped 54 = .ok (.fmul, 1) := by decide +kernel
theorem dX1_stepped_55 : decode cX1_stepped 55 = .ok (.freturn, 1) := by decide +kernel
theorem dX1_stepped_56 : decode cX1_stepped 56 = .ok (.fload_n 2, 1) := by decide +kernel
theorem dX1_stepped_57 : decode cX1_stepped 57 = .ok (.fload_n 1, 1) := by decide +kernel
theorem dX1_stepped_58 : decode cX1_stepped 58 = .ok (.ldc 40, 2) := by decide +kernel
theorem dX1_stepped_60 : decode cX1_stepped 60 = .ok (.fdiv, 1) := by decide +kernel
theorem dX1_stepped_61 : decode cX1_stepped 61 = .ok (.fadd, 1) := by decide +kernel
theorem dX1_stepped_62 : decode cX1_stepped 62 = .ok (.freturn, 1) := by decide +kernel
theorem dX1_stepped_63 : decode cX1_stepped 63 = .ok (.fload_n 2, 1) := by decide +kernel
theorem dX1_stepped_64 : decode cX1_stepped 64 = .ok (.fload_n 1, 1) := by decide +kernel
theorem dX1_stepped_65 : decode cX1_stepped 65 = .ok (.ldc 40, 2) := by decide +kernel
theorem dX1_stepped_67 : decode cX1_stepped 67 = .ok (.fdiv, 1) := by decide +kernel
theorem dX1_stepped_68 : decode cX1_stepped 68 = .ok (.fsub, 1) := by decide +kernel
theorem dX1_stepped_69 : decode cX1_stepped 69 = .ok (.freturn, 1) := by decide +kernel
theorem dX1_stepped_70 : decode cX1_stepped 70 = .ok (.fload_n 2, 1) := by decide +kernel
theorem dX1_stepped_71 : decode cX1_stepped 71 = .ok (.fload_n 1, 1) := by decide +kernel
theorem dX1_stepped_72 : decode cX1_stepped 72 = .ok (.fcmp .g, 1) := by decide +kernel
theorem dX1_stepped_73 : decode cX1_stepped 73 = .ok (.ifCond .ge 7, 3) := by decide +kernel
theorem dX1_stepped_76 : decode cX1_stepped 76 = .ok (.fload_n 1, 1) := by decide +kernel
theorem dX1_stepped_77 : decode cX1_stepped 77 = .ok (.goto 4, 3) := by decide +kernel
theorem dX1_stepped_80 : decode cX1_stepped 80 = .ok (.fload_n 2, 1) := by decide +kernel
theorem dX1_stepped_81 : decode cX1_stepped 81 = .ok (.freturn, 1) := by decide +kernel
theorem dX1_stepped_82 : decode cX1_stepped 82 = .ok (.fload_n 2, 1) := by decide +kernel
theorem dX1_stepped_83 : decode cX1_stepped 83 = .ok (.fload_n 1, 1) := by decide +kernel
theorem dX1_stepped_84 : decode cX1_stepped 84 = .ok (.fcmp .l, 1) := by decide +kernel
theorem dX1_stepped_85 : decode cX1_stepped 85 = .ok (.ifCond .le 7, 3) := by decide +kernel
theorem dX1_stepped_88 : decode cX1_stepped 88 = .ok (.fload_n 1, 1) := by decide +kernel
theorem dX1_stepped_89 : decode cX1_stepped 89 = .ok (.goto 4, 3) := by decide +kernel
theorem dX1_stepped_92 : decode cX1_stepped 92 = .ok (.fload_n 2, 1) := by decide +kernel
theorem dX1_stepped_93 : decode cX1_stepped 93 = .ok (.freturn, 1) := by decide +kernel
theorem dX1_stepped_94 : decode cX1_stepped 94 = .ok (.fload_n 2, 1) := by decide +kernel
theorem dX1_stepped_95 : decode cX1_stepped 95 = .ok (.f2i, 1) := by decide +kernel
theorem dX1_stepped_96 : decode cX1_stepped 96 = .ok (.i2f, 1) := by decide +kernel
theorem dX1_stepped_97 : decode cX1_stepped 97 = .ok (.freturn, 1) := by decide +kernel
theorem dX2_init_0 : decode cX2_init 0 = .ok (.aload_n 0, 1) := by decide +kernel
theorem dX2_init_1 : decode cX2_init 1 = .ok (.invokespecial 3, 3) := by decide +kernel
theorem dX2_init_4 : decode cX2_init 4 = .ok (.aload_n 0, 1) := by decide +kernel
theorem dX2_init_5 : decode cX2_init 5 = .ok (.bipush 36, 2) := by decide +kernel
theorem dX2_init_7 : decode cX2_init 7 = .ok (.newarray .float, 2) := by decide +kernel
theorem dX2_init_9 : decode cX2_init 9 = .ok (.putfield 9, 3) := by decide +kernel
theorem dX2_init_12 : decode cX2_init 12 = .ok (.aload_n 0, 1) := by decide +kernel
theorem dX2_init_13 : decode cX2_init 13 = .ok (.iconst 5, 1) := by decide +kernel
theorem dX2_init_14 : decode cX2_init 14 = .ok (.newarray .int, 2) := by decide +kernel
theorem dX2_init_16 : decode cX2_init 16 = .ok (.putfield 15, 3) := by decide +kernel
theorem dX2_init_19 : decode cX2_init 19 = .ok (.aload_n 0, 1) := by decide +kernel
theorem dX2_init_20 : decode cX2_init 20 = .ok (.iconst 5, 1) := by decide +kernel
theorem dX2_init_21 : decode cX2_init 21 = .ok (.newarray .int, 2) := by decide +kernel
theorem dX2_init_23 : decode cX2_init 23 = .ok (.putfield 19, 3) := by decide +kernel
theorem dX2_init_26 : decode cX2_init 26 = .ok (.aload_n 0, 1) := by decide +kernel
theorem dX2_init_27 : decode cX2_init 27 = .ok (.iconst 5, 1) := by decide +kernel
theorem dX2_init_28 : decode cX2_init 28 = .ok (.newarray .int, 2) := by decide +kernel
theorem dX2_init_30 : decode cX2_init 30 = .ok (.putfield 22, 3) := by decide +kernel
theorem dX2_init_33 : decode cX2_init 33 = .ok (.aload_n 0, 1) := by decide +kernel
theorem dX2_init_34 : decode cX2_init 34 = .ok (.iconst 5, 1) := by decide +kernel
theorem dX2_init_35 : decode cX2_init 35 = .ok (.newarray .int, 2) := by decide +kernel
theorem dX2_init_37 : decode cX2_init 37 = .ok (.putfield 25, 3) := by decide +kernel
theorem dX2_init_40 : decode cX2_init 40 = .ok (.aload_n 0, 1) := by decide +kernel
theorem dX2_init_41 : decode cX2_init 41 = .ok (.bipush 6, 2) := by decide +kernel
theorem dX2_init_43 : decode cX2_init 43 = .ok (.newarray .int, 2) := by decide +kernel
theorem dX2_init_45 : decode cX2_init 45 = .ok (.putfield 28, 3) := by decide +kernel
theorem dX2_init_48 : decode cX2_init 48 = .ok (.aload_n 0, 1) := by decide +kernel
theorem dX2_init_49 : decode cX2_init 49 = .ok (.bipush 6, 2) := by decide +kernel
theorem dX2_init_51 : decode cX2_init 51 = .ok (.newarray .int, 2) := by decide +kernel
theorem dX2_init_53 : decode cX2_init 53 = .ok (.putfield 31, 3) := by decide +kernel
theorem dX2_init_56 : decode cX2_init 56 = .ok (.aload_n 0, 1) := by decide +kernel
theorem dX2_init_57 : decode cX2_init 57 = .ok (.new 34, 3) := by decide +kernel
theorem dX2_init_60 : decode cX2_init 60 = .ok (.dup, 1) := by decide +kernel
theorem dX2_init_61 : decode cX2_init 61 = .ok (.invokespecial 36, 3) := by decide +kernel
theorem dX2_init_64 : decode cX2_init 64 = .ok (.putfield 37, 3) := by decide +kernel
theorem dX2_init_67 : decode cX2_init 67 = .ok (.iconst 0, 1) := by decide +kernel
theorem dX2_init_68 : decode cX2_init 68 = .ok (.istore_n 1, 1) := by decide +kernel
theorem dX2_init_69 : decode cX2_init 69 = .ok (.iload_n 1, 1) := by decide +kernel
theorem dX2_init_70 : decode cX2_init 70 = .ok (.bipush 36, 2) := by decide +kernel
theorem dX2_init_72 : decode cX2_init 72 = .ok (.if_icmp .ge 17, 3) := by decide +kernel
theorem dX2_init_75 : decode cX2_init 75 = .ok (.aload_n 0, 1) := by decide +kernel
theorem dX2_init_76 : decode cX2_init 76 = .ok (.getfield 9, 3) := by decide +kernel
theorem dX2_init_79 : decode cX2_init 79 = .ok (.iload_n 1, 1) := by decide +kernel
theorem dX2_init_80 : decode cX2_init 80 = .ok (.ldc 41, 2) := by decide +kernel
theorem dX2_init_82 : decode cX2_init 82 = .ok (.fastore, 1) := by decide +kernel
theorem dX2_init_83 : decode cX2_init 83 = .ok (.iinc 1 1, 3) := by decide +kernel
theorem dX2_init_86 : decode cX2_init 86 = .ok (.goto (-17), 3) := by decide +kernel
theorem dX2_init_89 : decode cX2_init 89 = .ok (.return_, 1) := by decide +kernel
theorem dX2_take_0 : decode cX2_take 0 = .ok (.aload_n 1, 1) := by decide +kernel
theorem dX2_take_1 : decode cX2_take 1 = .ok (.getfield 9, 3) := by decide +kernel
theorem dX2_take_4 : decode cX2_take 4 = .ok (.iconst 0, 1) := by decide +kernel
theorem dX2_take_5 : decode cX2_take 5 = .ok (.aload_n 0, 1) := by decide +kernel
theorem dX2_take_6 : decode cX2_take 6 = .ok (.getfield 9, 3) := by decide +kernel
theorem dX2_take_9 : decode cX2_take 9 = .ok (.iconst 0, 1) := by decide +kernel
theorem dX2_take_10 : decode cX2_take 10 = .ok (.bipush 36, 2) := by decide +kernel
theorem dX2_take_12 : decode cX2_take 12 = .ok (.invokestatic 42, 3) := by decide +kernel
theorem dX2_take_15 : decode cX2_take 15 = .ok (.aload_n 0, 1) := by decide +kernel
theorem dX2_take_16 : decode cX2_take 16 = .ok (.aload_n 1, 1) := by decide +kernel
theorem dX2_take_17 : decode cX2_take 17 = .ok (.getfield 48, 3) := by decide +kernel
theorem dX2_take_20 : decode cX2_take 20 = .ok (.putfield 48, 3) := by decide +kernel
theorem dX2_take_23 : decode cX2_take 23 = .ok (.aload_n 0, 1) := by decide +kernel
theorem dX2_take_24 : decode cX2_take 24 = .ok (.aload_n 1, 1) := by decide +kernel
theorem dX2_take_25 : decode cX2_take 25 = .ok (.getfield 52, 3) := by decide +kernel
theorem dX2_take_28 : decode cX2_take 28 = .ok (.putfield 52, 3) := by decide +kernel
theorem dX2_take_31 : decode cX2_take 31 = .ok (.aload_n 1, 1) := by decide +kernel
theorem dX2_take_32 : decode cX2_take 32 = .ok (.getfield 15, 3) := by decide +kernel
theorem dX2_take_35 : decode cX2_take 35 = .ok (.iconst 0, 1) := by decide +kernel
theorem dX2_take_36 : decode cX2_take 36 = .ok (.aload_n 0, 1) := by decide +kernel
theorem dX2_take_37 : decode cX2_take 37 = .ok (.getfield 15, 3) := by decide +kernel
theorem dX2_take_40 : decode cX2_take 40 = .ok (.iconst 0, 1) := by decide +kernel
theorem dX2_take_41 : decode cX2_take 41 = .ok (.iconst 5, 1) := by decide +kernel
theorem dX2_take_42 : decode cX2_take 42 = .ok (.invokestatic 42, 3) := by decide +kernel
theorem dX2_take_45 : decode cX2_take 45 = .ok (.aload_n 1, 1) := by decide +kernel
theorem dX2_take_46 : decode cX2_take 46 = .ok (.getfield 19, 3) := by decide +kernel
theorem dX2_take_49 : decode cX2_take 49 = .ok (.iconst 0, 1) := by decide +kernel
theorem dX2_take_50 : decode cX2_take 50 = .ok (.aload_n 0, 1) := by decide +kernel
theorem dX2_take_51 : decode cX2_take 51 = .ok (.getfield 19, 3) := by decide +kernel
theorem dX2_take_54 : decode cX2_take 54 = .ok (.iconst 0, 1) := by decide +kernel
theorem dX2_take_55 : decode cX2_take 55 = .ok (.iconst 5, 1) := by decide +kernel
theorem dX2_take_56 : decode cX2_take 56 = .ok (.invokestatic 42, 3) := by decide +kernel
theorem dX2_take_59 : decode cX2_take 59 = .ok (.aload_n 1, 1) := by decide +kernel
theorem dX2_take_60 : decode cX2_take 60 = .ok (.getfield 22, 3) := by decide +kernel
theorem dX2_take_63 : decode cX2_take 63 = .ok (.iconst 0, 1) := by decide +kernel
theorem dX2_take_64 : decode cX2_take 64 = .ok (.aload_n 0, 1) := by decide +kernel
theorem dX2_take_65 : decode cX2_take 65 = .ok (.getfield 22, 3) := by decide +kernel
theorem dX2_take_68 : decode cX2_take 68 = .ok (.iconst 0, 1) := by decide +kernel
theorem dX2_take_69 : decode cX2_take 69 = .ok (.iconst 5, 1) := by decide +kernel
theorem dX2_take_70 : decode cX2_take 70 = .ok (.invokestatic 42, 3) := by decide +kernel
theorem dX2_take_73 : decode cX2_take 73 = .ok (.aload_n 1, 1) := by decide +kernel
theorem dX2_take_74 : decode cX2_take 74 = .ok (.getfield 25, 3) := by decide +kernel
theorem dX2_take_77 : decode cX2_take 77 = .ok (.iconst 0, 1) := by decide +kernel
theorem dX2_take_78 : decode cX2_take 78 = .ok (.aload_n 0, 1) := by decide +kernel
theorem dX2_take_79 : decode cX2_take 79 = .ok (.getfield 25, 3) := by decide +kernel
theorem dX2_take_82 : decode cX2_take 82 = .ok (.iconst 0, 1) := by decide +kernel
theorem dX2_take_83 : decode cX2_take 83 = .ok (.iconst 5, 1) := by decide +kernel
theorem dX2_take_84 : decode cX2_take 84 = .ok (.invokestatic 42, 3) := by decide +kernel
theorem dX2_take_87 : decode cX2_take 87 = .ok (.aload_n 0, 1) := by decide +kernel
theorem dX2_take_88 : decode cX2_take 88 = .ok (.aload_n 1, 1) := by decide +kernel
theorem dX2_take_89 : decode cX2_take 89 = .ok (.getfield 56, 3) := by decide +kernel
theorem dX2_take_92 : decode cX2_take 92 = .ok (.putfield 56, 3) := by decide +kernel
theorem dX2_take_95 : decode cX2_take 95 = .ok (.aload_n 0, 1) := by decide +kernel
theorem dX2_take_96 : decode cX2_take 96 = .ok (.aload_n 1, 1) := by decide +kernel
theorem dX2_take_97 : decode cX2_take 97 = .ok (.getfield 59, 3) := by decide +kernel
theorem dX2_take_100 : decode cX2_take 100 = .ok (.putfield 59, 3) := by decide +kernel
theorem dX2_take_103 : decode cX2_take 103 = .ok (.aload_n 1, 1) := by decide +kernel
theorem dX2_take_104 : decode cX2_take 104 = .ok (.getfield 28, 3) := by decide +kernel
theorem dX2_take_107 : decode cX2_take 107 = .ok (.iconst 0, 1) := by decide +kernel
theorem dX2_take_108 : decode cX2_take 108 = .ok (.aload_n 0, 1) := by decide +kernel
theorem dX2_take_109 : decode cX2_take 109 = .ok (.getfield 28, 3) := by decide +kernel
theorem dX2_take_112 : decode cX2_take 112 = .ok (.iconst 0, 1) := by decide +kernel
theorem dX2_take_113 : decode cX2_take 113 = .ok (.bipush 6, 2) := by decide +kernel
theorem dX2_take_115 : decode cX2_take 115 = .ok (.invokestatic 42, 3) := by decide +kernel
theorem dX2_take_118 : decode cX2_take 118 = .ok (.aload_n 1, 1) := by decide +kernel
theorem dX2_take_119 : decode cX2_take 119 = .ok (.getfield 31, 3) := by decide +kernel
theorem dX2_take_122 : decode cX2_take 122 = .ok (.iconst 0, 1) := by decide +kernel
theorem dX2_take_123 : decode cX2_take 123 = .ok (.aload_n 0, 1) := by decide +kernel
theorem dX2_take_124 : decode cX2_take 124 = .ok (.getfield 31, 3) := by decide +kernel
theorem dX2_take_127 : decode cX2_take 127 = .ok (.iconst 0, 1) := by decide +kernel
theorem dX2_take_128 : decode cX2_take 128 = .ok (.bipush 6, 2) := by decide +kernel
theorem dX2_take_130 : decode cX2_take 130 = .ok (.invokestatic 42, 3) := by decide +kernel
theorem dX2_take_133 : decode cX2_take 133 = .ok (.aload_n 0, 1) := by decide +kernel
theorem dX2_take_134 : decode cX2_take 134 = .ok (.aload_n 1, 1) := by decide +kernel
theorem dX2_take_135 : decode cX2_take 135 = .ok (.getfield 62, 3) := by decide +kernel
theorem dX2_take_138 : decode cX2_take 138 = .ok (.putfield 62, 3) := by decide +kernel
theorem dX2_take_141 : decode cX2_take 141 = .ok (.aload_n 0, 1) := by decide +kernel
theorem dX2_take_142 : decode cX2_take 142 = .ok (.aload_n 1, 1) := by decide +kernel
theorem dX2_take_143 : decode cX2_take 143 = .ok (.getfield 65, 3) := by decide +kernel
theorem dX2_take_146 : decode cX2_take 146 = .ok (.putfield 65, 3) := by decide +kernel
theorem dX2_take_149 : decode cX2_take 149 = .ok (.aload_n 0, 1) := by decide +kernel
theorem dX2_take_150 : decode cX2_take 150 = .ok (.aload_n 1, 1) := by decide +kernel
theorem dX2_take_151 : decode cX2_take 151 = .ok (.getfield 68, 3) := by decide +kernel
theorem dX2_take_154 : decode cX2_take 154 = .ok (.putfield 68, 3) := by decide +kernel
theorem dX2_take_157 : decode cX2_take 157 = .ok (.aload_n 0, 1) := by decide +kernel
theorem dX2_take_158 : decode cX2_take 158 = .ok (.getfield 37, 3) := by decide +kernel
theorem dX2_take_161 : decode cX2_take 161 = .ok (.aload_n 1, 1) := by decide +kernel
theorem dX2_take_162 : decode cX2_take 162 = .ok (.getfield 37, 3) := by decide +kernel
theorem dX2_take_165 : decode cX2_take 165 = .ok (.invokevirtual 71, 3) := by decide +kernel
theorem dX2_take_168 : decode cX2_take 168 = .ok (.return_, 1) := by decide +kernel
theorem dX2_isShut_0 : decode cX2_isShut 0 = .ok (.aload_n 0, 1) := by decide +kernel
theorem dX2_isShut_1 : decode cX2_isShut 1 = .ok (.getfield 48, 3) := by decide +kernel
theorem dX2_isShut_4 : decode cX2_isShut 4 = .ok (.iload_n 1, 1) := by decide +kernel
theorem dX2_isShut_5 : decode cX2_isShut 5 = .ok (.lshr, 1) := by decide +kernel
theorem dX2_isShut_6 : decode cX2_isShut 6 = .ok (.lconst 1, 1) := by decide +kernel
theorem dX2_isShut_7 : decode cX2_isShut 7 = .ok (.land, 1) := by decide +kernel
theorem dX2_isShut_8 : decode cX2_isShut 8 = .ok (.lconst 1, 1) := by decide +kernel
theorem dX2_isShut_9 : decode cX2_isShut 9 = .ok (.lcmp, 1) := by decide +kernel
theorem dX2_isShut_10 : decode cX2_isShut 10 = .ok (.ifCond .ne 7, 3) := by decide +kernel
theorem dX2_isShut_13 : decode cX2_isShut 13 = .ok (.iconst 1, 1) := by decide +kernel
theorem dX2_isShut_14 : decode cX2_isShut 14 = .ok (.goto 4, 3) := by decide +kernel
theorem dX2_isShut_17 : decode cX2_isShut 17 = .ok (.iconst 0, 1) := by decide +kernel
theorem dX2_isShut_18 : decode cX2_isShut 18 = .ok (.ireturn, 1) := by decide +kernel
theorem dX2_toggleShut_0 : decode cX2_toggleShut 0 = .ok (.aload_n 0, 1) := by decide +kernel
theorem dX2_toggleShut_1 : decode cX2_toggleShut 1 = .ok (.dup, 1) := by decide +kernel
theorem dX2_toggleShut_2 : decode cX2_toggleShut 2 = .ok (.getfield 48, 3) := by decide +kernel
theorem dX2_toggleShut_5 : decode cX2_toggleShut 5 = .ok (.lconst 1, 1) := by decide +kernel
theorem dX2_toggleShut_6 : decode cX2_toggleShut 6 = .ok (.iload_n 1, 1) := by decide +kernel
theorem dX2_toggleShut_7 : decode cX2_toggleShut 7 = .ok (.lshl, 1) := by decide +kernel
theorem dX2_toggleShut_8 : decode cX2_toggleShut 8 = .ok (.lxor, 1) := by decide +kernel
theorem dX2_toggleShut_9 : decode cX2_toggleShut 9 = .ok (.putfield 48, 3) := by decide +kernel
theorem dX2_toggleShut_12 : decode cX2_toggleShut 12 = .ok (.return_, 1) := by decide +kernel
theorem dX2_isOn_0 : decode cX2_isOn 0 = .ok (.aload_n 0, 1) := by decide +kernel
theorem dX2_isOn_1 : decode cX2_isOn 1 = .ok (.getfield 62, 3) := by decide +kernel
theorem dX2_isOn_4 : decode cX2_isOn 4 = .ok (.iload_n 1, 1) := by decide +kernel
theorem dX2_isOn_5 : decode cX2_isOn 5 = .ok (.ishr, 1) := by decide +kernel
theorem dX2_isOn_6 : decode cX2_isOn 6 = .ok (.iconst 1, 1) := by decide +kernel
theorem dX2_isOn_7 : decode cX2_isOn 7 = .ok (.iand, 1) := by decide +kernel
theorem dX2_isOn_8 : decode cX2_isOn 8 = .ok (.iconst 1, 1) := by decide +kernel
theorem dX2_isOn_9 : decode cX2_isOn 9 = .ok (.if_icmp .ne 7, 3) := by decide +kernel
theorem dX2_isOn_12 : decode cX2_isOn 12 = .ok (.iconst 1, 1) := by decide +kernel
theorem dX2_isOn_13 : decode cX2_isOn 13 = .ok (.goto 4, 3) := by decide +kernel
theorem dX2_isOn_16 : decode cX2_isOn 16 = .ok (.iconst 0, 1) := by decide +kernel
theorem dX2_isOn_17 : decode cX2_isOn 17 = .ok (.ireturn, 1) := by decide +kernel
theorem dX2_isCrowned_0 : decode cX2_isCrowned 0 = .ok (.aload_n 0, 1) := by decide +kernel
theorem dX2_isCrowned_1 : decode cX2_isCrowned 1 = .ok (.getfield 56, 3) := by decide +kernel
theorem dX2_isCrowned_4 : decode cX2_isCrowned 4 = .ok (.iload_n 1, 1) := by decide +kernel
theorem dX2_isCrowned_5 : decode cX2_isCrowned 5 = .ok (.ishr, 1) := by decide +kernel
theorem dX2_isCrowned_6 : decode cX2_isCrowned 6 = .ok (.iconst 1, 1) := by decide +kernel
theorem dX2_isCrowned_7 : decode cX2_isCrowned 7 = .ok (.iand, 1) := by decide +kernel
theorem dX2_isCrowned_8 : decode cX2_isCrowned 8 = .ok (.iconst 1, 1) := by decide +kernel
theorem dX2_isCrowned_9 : decode cX2_isCrowned 9 = .ok (.if_icmp .ne 7, 3) := by decide +kernel
theorem dX2_isCrowned_12 : decode cX2_isCrowned 12 = .ok (.iconst 1, 1) := by decide +kernel
theorem dX2_isCrowned_13 : decode cX2_isCrowned 13 = .ok (.goto 4, 3) := by decide +kernel
theorem dX2_isCrowned_16 : decode cX2_isCrowned 16 = .ok (.iconst 0, 1) := by decide +kernel
theorem dX2_isCrowned_17 : decode cX2_isCrowned 17 = .ok (.ireturn, 1) := by decide +kernel
theorem dX2_airOn_0 : decode cX2_airOn 0 = .ok (.iconst 0, 1) := by decide +kernel
theorem dX2_airOn_1 : decode cX2_airOn 1 = .ok (.istore_n 2, 1) := by decide +kernel
theorem dX2_airOn_2 : decode cX2_airOn 2 = .ok (.iload_n 2, 1) := by decide +kernel
theorem dX2_airOn_3 : decode cX2_airOn 3 = .ok (.aload_n 0, 1) := by decide +kernel
theorem dX2_airOn_4 : decode cX2_airOn 4 = .ok (.getfield 52, 3) := by decide +kernel
theorem dX2_airOn_7 : decode cX2_airOn 7 = .ok (.if_icmp .ge 21, 3) := by decide +kernel
theorem dX2_airOn_10 : decode cX2_airOn 10 = .ok (.aload_n 0, 1) := by decide +kernel
theorem dX2_airOn_11 : decode cX2_airOn 11 = .ok (.getfield 22, 3) := by decide +kernel
theorem dX2_airOn_14 : decode cX2_airOn 14 = .ok (.iload_n 2, 1) := by decide +kernel
theorem dX2_airOn_15 : decode cX2_airOn 15 = .ok (.iaload, 1) := by decide +kernel
theorem dX2_airOn_16 : decode cX2_airOn 16 = .ok (.iload_n 1, 1) := by decide +kernel
theorem dX2_airOn_17 : decode cX2_airOn 17 = .ok (.if_icmp .ne 5, 3) := by decide +kernel
theorem dX2_airOn_20 : decode cX2_airOn 20 = .ok (.iload_n 2, 1) := by decide +kernel
theorem dX2_airOn_21 : decode cX2_airOn 21 = .ok (.ireturn, 1) := by decide +kernel
theorem dX2_airOn_22 : decode cX2_airOn 22 = .ok (.iinc 2 1, 3) := by decide +kernel
theorem dX2_airOn_25 : decode cX2_airOn 25 = .ok (.goto (-23), 3) := by decide +kernel
theorem dX2_airOn_28 : decode cX2_airOn 28 = .ok (.bipush (-9), 2) := by decide +kernel
theorem dX2_airOn_30 : decode cX2_airOn 30 = .ok (.ireturn, 1) := by decide +kernel
theorem dX2_sitterOn_0 : decode cX2_sitterOn 0 = .ok (.iconst 0, 1) := by decide +kernel
theorem dX2_sitterOn_1 : decode cX2_sitterOn 1 = .ok (.istore_n 2, 1) := by decide +kernel
theorem dX2_sitterOn_2 : decode cX2_sitterOn 2 = .ok (.iload_n 2, 1) := by decide +kernel
theorem dX2_sitterOn_3 : decode cX2_sitterOn 3 = .ok (.aload_n 0, 1) := by decide +kernel
theorem dX2_sitterOn_4 : decode cX2_sitterOn 4 = .ok (.getfield 59, 3) := by decide +kernel
theorem dX2_sitterOn_7 : decode cX2_sitterOn 7 = .ok (.if_icmp .ge 33, 3) := by decide +kernel
theorem dX2_sitterOn_10 : decode cX2_sitterOn 10 = .ok (.aload_n 0, 1) := by decide +kernel
theorem dX2_sitterOn_11 : decode cX2_sitterOn 11 = .ok (.getfield 28, 3) := by decide +kernel
theorem dX2_sitterOn_14 : decode cX2_sitterOn 14 = .ok (.iload_n 2, 1) := by decide +kernel
theorem dX2_sitterOn_15 : decode cX2_sitterOn 15 = .ok (.iaload, 1) := by decide +kernel
theorem dX2_sitterOn_16 : decode cX2_sitterOn 16 = .ok (.iload_n 1, 1) := by decide +kernel
theorem dX2_sitterOn_17 : decode cX2_sitterOn 17 = .ok (.if_icmp .ne 17, 3) := by decide +kernel
theorem dX2_sitterOn_20 : decode cX2_sitterOn 20 = .ok (.aload_n 0, 1) := by decide +kernel
theorem dX2_sitterOn_21 : decode cX2_sitterOn 21 = .ok (.getfield 62, 3) := by decide +kernel
theorem dX2_sitterOn_24 : decode cX2_sitterOn 24 = .ok (.iload_n 2, 1) := by decide +kernel
theorem dX2_sitterOn_25 : decode cX2_sitterOn 25 = .ok (.ishr, 1) := by decide +kernel
theorem dX2_sitterOn_26 : decode cX2_sitterOn 26 = .ok (.iconst 1, 1) := by decide +kernel
theorem dX2_sitterOn_27 : decode cX2_sitterOn 27 = .ok (.iand, 1) := by decide +kernel
theorem dX2_sitterOn_28 : decode cX2_sitterOn 28 = .ok (.iconst 1, 1) := by decide +kernel
theorem dX2_sitterOn_29 : decode cX2_sitterOn 29 = .ok (.if_icmp .ne 5, 3) := by decide +kernel
theorem dX2_sitterOn_32 : decode cX2_sitterOn 32 = .ok (.iload_n 2, 1) := by decide +kernel
theorem dX2_sitterOn_33 : decode cX2_sitterOn 33 = .ok (.ireturn, 1) := by decide +kernel
theorem dX2_sitterOn_34 : decode cX2_sitterOn 34 = .ok (.iinc 2 1, 3) := by decide +kernel
theorem dX2_sitterOn_37 : decode cX2_sitterOn 37 = .ok (.goto (-35), 3) := by decide +kernel
theorem dX2_sitterOn_40 : decode cX2_sitterOn 40 = .ok (.bipush (-9), 2) := by decide +kernel
theorem dX2_sitterOn_42 : decode cX2_sitterOn 42 = .ok (.ireturn, 1) := by decide +kernel
theorem dX2_isTaken_0 : decode cX2_isTaken 0 = .ok (.aload_n 0, 1) := by decide +kernel
theorem dX2_isTaken_1 : decode cX2_isTaken 1 = .ok (.iload_n 1, 1) := by decide +kernel
theorem dX2_isTaken_2 : decode cX2_isTaken 2 = .ok (.invokevirtual 75, 3) := by decide +kernel
theorem dX2_isTaken_5 : decode cX2_isTaken 5 = .ok (.bipush (-9), 2) := by decide +kernel
theorem dX2_isTaken_7 : decode cX2_isTaken 7 = .ok (.if_icmp .ne 13, 3) := by decide +kernel
theorem dX2_isTaken_10 : decode cX2_isTaken 10 = .ok (.aload_n 0, 1) := by decide +kernel
theorem dX2_isTaken_11 : decode cX2_isTaken 11 = .ok (.iload_n 1, 1) := by decide +kernel
theorem dX2_isTaken_12 : decode cX2_isTaken 12 = .ok (.invokevirtual 79, 3) := by decide +kernel
theorem dX2_isTaken_15 : decode cX2_isTaken 15 = .ok (.bipush (-9), 2) := by decide +kernel
theorem dX2_isTaken_17 : decode cX2_isTaken 17 = .ok (.if_icmp .eq 7, 3) := by decide +kernel
theorem dX2_isTaken_20 : decode cX2_isTaken 20 = .ok (.iconst 1, 1) := by decide +kernel
theorem dX2_isTaken_21 : decode cX2_isTaken 21 = .ok (.goto 4, 3) := by decide +kernel
theorem dX2_isTaken_24 : decode cX2_isTaken 24 = .ok (.iconst 0, 1) := by decide +kernel
theorem dX2_isTaken_25 : decode cX2_isTaken 25 = .ok (.ireturn, 1) := by decide +kernel
theorem dX2_isFree_0 : decode cX2_isFree 0 = .ok (.aload_n 0, 1) := by decide +kernel
theorem dX2_isFree_1 : decode cX2_isFree 1 = .ok (.iload_n 1, 1) := by decide +kernel
theorem dX2_isFree_2 : decode cX2_isFree 2 = .ok (.invokevirtual 82, 3) := by decide +kernel
theorem dX2_isFree_5 : decode cX2_isFree 5 = .ok (.ifCond .ne 27, 3) := by decide +kernel
theorem dX2_isFree_8 : decode cX2_isFree 8 = .ok (.aload_n 0, 1) := by decide +kernel
theorem dX2_isFree_9 : decode cX2_isFree 9 = .ok (.iload_n 1, 1) := by decide +kernel
theorem dX2_isFree_10 : decode cX2_isFree 10 = .ok (.invokevirtual 75, 3) := by decide +kernel
theorem dX2_isFree_13 : decode cX2_isFree 13 = .ok (.bipush (-9), 2) := by decide +kernel
theorem dX2_isFree_15 : decode cX2_isFree 15 = .ok (.if_icmp .ne 17, 3) := by decide +kernel
theorem dX2_isFree_18 : decode cX2_isFree 18 = .ok (.aload_n 0, 1) := by decide +kernel
theorem dX2_isFree_19 : decode cX2_isFree 19 = .ok (.iload_n 1, 1) := by decide +kernel
theorem dX2_isFree_20 : decode cX2_isFree 20 = .ok (.invokevirtual 79, 3) := by decide +kernel
theorem dX2_isFree_23 : decode cX2_isFree 23 = .ok (.bipush (-9), 2) := by decide +kernel
theorem dX2_isFree_25 : decode cX2_isFree 25 = .ok (.if_icmp .ne 7, 3) := by decide +kernel
theorem dX2_isFree_28 : decode cX2_isFree 28 = .ok (.iconst 1, 1) := by decide +kernel
theorem dX2_isFree_29 : decode cX2_isFree 29 = .ok (.goto 4, 3) := by decide +kernel
theorem dX2_isFree_32 : decode cX2_isFree 32 = .ok (.iconst 0, 1) := by decide +kernel
theorem dX2_isFree_33 : decode cX2_isFree 33 = .ok (.ireturn, 1) := by decide +kernel
theorem dX2_addAir_0 : decode cX2_addAir 0 = .ok (.aload_n 0, 1) := by decide +kernel
theorem dX2_addAir_1 : decode cX2_addAir 1 = .ok (.getfield 52, 3) := by decide +kernel
theorem dX2_addAir_4 : decode cX2_addAir 4 = .ok (.iconst 5, 1) := by decide +kernel
theorem dX2_addAir_5 : decode cX2_addAir 5 = .ok (.if_icmp .ge 11, 3) := by decide +kernel
theorem dX2_addAir_8 : decode cX2_addAir 8 = .ok (.aload_n 0, 1) := by decide +kernel
theorem dX2_addAir_9 : decode cX2_addAir 9 = .ok (.iload_n 3, 1) := by decide +kernel
theorem dX2_addAir_10 : decode cX2_addAir 10 = .ok (.invokevirtual 86, 3) := by decide +kernel
theorem dX2_addAir_13 : decode cX2_addAir 13 = .ok (.ifCond .ne 5, 3) := by decide +kernel
theorem dX2_addAir_16 : decode cX2_addAir 16 = .ok (.iconst 0, 1) := by decide +kernel
theorem dX2_addAir_17 : decode cX2_addAir 17 = .ok (.ireturn, 1) := by decide +kernel
theorem dX2_addAir_18 : decode cX2_addAir 18 = .ok (.aload_n 0, 1) := by decide +kernel
theorem dX2_addAir_19 : decode cX2_addAir 19 = .ok (.getfield 15, 3) := by decide +kernel
theorem dX2_addAir_22 : decode cX2_addAir 22 = .ok (.aload_n 0, 1) := by decide +kernel
theorem dX2_addAir_23 : decode cX2_addAir 23 = .ok (.getfield 52, 3) := by decide +kernel
theorem dX2_addAir_26 : decode cX2_addAir 26 = .ok (.iload_n 1, 1) := by decide +kernel
theorem dX2_addAir_27 : decode cX2_addAir 27 = .ok (.iastore, 1) := by decide +kernel
theorem dX2_addAir_28 : decode cX2_addAir 28 = .ok (.aload_n 0, 1) := by decide +kernel
theorem dX2_addAir_29 : decode cX2_addAir 29 = .ok (.getfield 19, 3) := by decide +kernel
theorem dX2_addAir_32 : decode cX2_addAir 32 = .ok (.aload_n 0, 1) := by decide +kernel
theorem dX2_addAir_33 : decode cX2_addAir 33 = .ok (.getfield 52, 3) := by decide +kernel
theorem dX2_addAir_36 : decode cX2_addAir 36 = .ok (.iload_n 2, 1) := by decide +kernel
theorem dX2_addAir_37 : decode cX2_addAir 37 = .ok (.iastore, 1) := by decide +kernel
theorem dX2_addAir_38 : decode cX2_addAir 38 = .ok (.aload_n 0, 1) := by decide +kernel
theorem dX2_addAir_39 : decode cX2_addAir 39 = .ok (.getfield 22, 3) := by decide +kernel
theorem dX2_addAir_42 : decode cX2_addAir 42 = .ok (.aload_n 0, 1) := by decide +kernel
theorem dX2_addAir_43 : decode cX2_addAir 43 = .ok (.getfield 52, 3) := by decide +kernel
theorem dX2_addAir_46 : decode cX2_addAir 46 = .ok (.iload_n 3, 1) := by decide +kernel
theorem dX2_addAir_47 : decode cX2_addAir 47 = .ok (.iastore, 1) := by decide +kernel
theorem dX2_addAir_48 : decode cX2_addAir 48 = .ok (.aload_n 0, 1) := by decide +kernel
theorem dX2_addAir_49 : decode cX2_addAir 49 = .ok (.getfield 25, 3) := by decide +kernel
theorem dX2_addAir_52 : decode cX2_addAir 52 = .ok (.aload_n 0, 1) := by decide +kernel
theorem dX2_addAir_53 : decode cX2_addAir 53 = .ok (.getfield 52, 3) := by decide +kernel
theorem dX2_addAir_56 : decode cX2_addAir 56 = .ok (.iload 4, 2) := by decide +kernel
theorem dX2_addAir_58 : decode cX2_addAir 58 = .ok (.iastore, 1) := by decide +kernel
theorem dX2_addAir_59 : decode cX2_addAir 59 = .ok (.aload_n 0, 1) := by decide +kernel
theorem dX2_addAir_60 : decode cX2_addAir 60 = .ok (.dup, 1) := by decide +kernel
theorem dX2_addAir_61 : decode cX2_addAir 61 = .ok (.getfield 52, 3) := by decide +kernel
theorem dX2_addAir_64 : decode cX2_addAir 64 = .ok (.iconst 1, 1) := by decide +kernel
theorem dX2_addAir_65 : decode cX2_addAir 65 = .ok (.iadd, 1) := by decide +kernel
theorem dX2_addAir_66 : decode cX2_addAir 66 = .ok (.putfield 52, 3) := by decide +kernel
theorem dX2_addAir_69 : decode cX2_addAir 69 = .ok (.iconst 1, 1) := by decide +kernel
theorem dX2_addAir_70 : decode cX2_addAir 70 = .ok (.ireturn, 1) := by decide +kernel
theorem dX2_addSitter_0 : decode cX2_addSitter 0 = .ok (.aload_n 0, 1) := by decide +kernel
theorem dX2_addSitter_1 : decode cX2_addSitter 1 = .ok (.getfield 59, 3) := by decide +kernel
theorem dX2_addSitter_4 : decode cX2_addSitter 4 = .ok (.bipush 6, 2) := by decide +kernel
theorem dX2_addSitter_6 : decode cX2_addSitter 6 = .ok (.if_icmp .ge 11, 3) := by decide +kernel
theorem dX2_addSitter_9 : decode cX2_addSitter 9 = .ok (.aload_n 0, 1) := by decide +kernel
theorem dX2_addSitter_10 : decode cX2_addSitter 10 = .ok (.iload_n 1, 1) := by decide +kernel
theorem dX2_addSitter_11 : decode cX2_addSitter 11 = .ok (.invokevirtual 86, 3) := by decide +kernel
theorem dX2_addSitter_14 : decode cX2_addSitter 14 = .ok (.ifCond .ne 5, 3) := by decide +kernel
theorem dX2_addSitter_17 : decode cX2_addSitter 17 = .ok (.iconst 0, 1) := by decide +kernel
theorem dX2_addSitter_18 : decode cX2_addSitter 18 = .ok (.ireturn, 1) := by decide +kernel
theorem dX2_addSitter_19 : decode cX2_addSitter 19 = .ok (.aload_n 0, 1) := by decide +kernel
theorem dX2_addSitter_20 : decode cX2_addSitter 20 = .ok (.getfield 28, 3) := by decide +kernel
theorem dX2_addSitter_23 : decode cX2_addSitter 23 = .ok (.aload_n 0, 1) := by decide +kernel
theorem dX2_addSitter_24 : decode cX2_addSitter 24 = .ok (.getfield 59, 3) := by decide +kernel
theorem dX2_addSitter_27 : decode cX2_addSitter 27 = .ok (.iload_n 1, 1) := by decide +kernel
theorem dX2_addSitter_28 : decode cX2_addSitter 28 = .ok (.iastore, 1) := by decide +kernel
theorem dX2_addSitter_29 : decode cX2_addSitter 29 = .ok (.aload_n 0, 1) := by decide +kernel
theorem dX2_addSitter_30 : decode cX2_addSitter 30 = .ok (.getfield 31, 3) := by decide +kernel
theorem dX2_addSitter_33 : decode cX2_addSitter 33 = .ok (.aload_n 0, 1) := by decide +kernel
theorem dX2_addSitter_34 : decode cX2_addSitter 34 = .ok (.getfield 59, 3) := by decide +kernel
theorem dX2_addSitter_37 : decode cX2_addSitter 37 = .ok (.iload_n 2, 1) := by decide +kernel
theorem dX2_addSitter_38 : decode cX2_addSitter 38 = .ok (.iastore, 1) := by decide +kernel
theorem dX2_addSitter_39 : decode cX2_addSitter 39 = .ok (.aload_n 0, 1) := by decide +kernel
theorem dX2_addSitter_40 : decode cX2_addSitter 40 = .ok (.dup, 1) := by decide +kernel
theorem dX2_addSitter_41 : decode cX2_addSitter 41 = .ok (.getfield 62, 3) := by decide +kernel
theorem dX2_addSitter_44 : decode cX2_addSitter 44 = .ok (.iconst 1, 1) := by decide +kernel
theorem dX2_addSitter_45 : decode cX2_addSitter 45 = .ok (.aload_n 0, 1) := by decide +kernel
theorem dX2_addSitter_46 : decode cX2_addSitter 46 = .ok (.getfield 59, 3) := by decide +kernel
theorem dX2_addSitter_49 : decode cX2_addSitter 49 = .ok (.ishl, 1) := by decide +kernel
theorem dX2_addSitter_50 : decode cX2_addSitter 50 = .ok (.ior, 1) := by decide +kernel
theorem dX2_addSitter_51 : decode cX2_addSitter 51 = .ok (.putfield 62, 3) := by decide +kernel
theorem dX2_addSitter_54 : decode cX2_addSitter 54 = .ok (.aload_n 0, 1) := by decide +kernel
theorem dX2_addSitter_55 : decode cX2_addSitter 55 = .ok (.dup, 1) := by decide +kernel
theorem dX2_addSitter_56 : decode cX2_addSitter 56 = .ok (.getfield 59, 3) := by decide +kernel
theorem dX2_addSitter_59 : decode cX2_addSitter 59 = .ok (.iconst 1, 1) := by decide +kernel
theorem dX2_addSitter_60 : decode cX2_addSitter 60 = .ok (.iadd, 1) := by decide +kernel
theorem dX2_addSitter_61 : decode cX2_addSitter 61 = .ok (.putfield 59, 3) := by decide +kernel
theorem dX2_addSitter_64 : decode cX2_addSitter 64 = .ok (.iconst 1, 1) := by decide +kernel
theorem dX2_addSitter_65 : decode cX2_addSitter 65 = .ok (.ireturn, 1) := by decide +kernel
theorem dX2_goOn_0 : decode cX2_goOn 0 = .ok (.iconst 0, 1) := by decide +kernel
theorem dX2_goOn_1 : decode cX2_goOn 1 = .ok (.istore_n 2, 1) := by decide +kernel
theorem dX2_goOn_2 : decode cX2_goOn 2 = .ok (.iload_n 2, 1) := by decide +kernel
theorem dX2_goOn_3 : decode cX2_goOn 3 = .ok (.iload_n 1, 1) := by decide +kernel
theorem dX2_goOn_4 : decode cX2_goOn 4 = .ok (.if_icmp .ge 38, 3) := by decide +kernel
theorem dX2_goOn_7 : decode cX2_goOn 7 = .ok (.aload_n 0, 1) := by decide +kernel
theorem dX2_goOn_8 : decode cX2_goOn 8 = .ok (.invokevirtual 89, 3) := by decide +kernel
theorem dX2_goOn_11 : decode cX2_goOn 11 = .ok (.iconst 0, 1) := by decide +kernel
theorem dX2_goOn_12 : decode cX2_goOn 12 = .ok (.istore_n 3, 1) := by decide +kernel
theorem dX2_goOn_13 : decode cX2_goOn 13 = .ok (.iload_n 3, 1) := by decide +kernel
theorem dX2_goOn_14 : decode cX2_goOn 14 = .ok (.aload_n 0, 1) := by decide +kernel
theorem dX2_goOn_15 : decode cX2_goOn 15 = .ok (.getfield 52, 3) := by decide +kernel
theorem dX2_goOn_18 : decode cX2_goOn 18 = .ok (.if_icmp .ge 14, 3) := by decide +kernel
theorem dX2_goOn_21 : decode cX2_goOn 21 = .ok (.aload_n 0, 1) := by decide +kernel
theorem dX2_goOn_22 : decode cX2_goOn 22 = .ok (.iload_n 3, 1) := by decide +kernel
theorem dX2_goOn_23 : decode cX2_goOn 23 = .ok (.invokevirtual 92, 3) := by decide +kernel
theorem dX2_goOn_26 : decode cX2_goOn 26 = .ok (.iinc 3 1, 3) := by decide +kernel
theorem dX2_goOn_29 : decode cX2_goOn 29 = .ok (.goto (-16), 3) := by decide +kernel
theorem dX2_goOn_32 : decode cX2_goOn 32 = .ok (.aload_n 0, 1) := by decide +kernel
theorem dX2_goOn_33 : decode cX2_goOn 33 = .ok (.invokevirtual 96, 3) := by decide +kernel
theorem dX2_goOn_36 : decode cX2_goOn 36 = .ok (.iinc 2 1, 3) := by decide +kernel
theorem dX2_goOn_39 : decode cX2_goOn 39 = .ok (.goto (-37), 3) := by decide +kernel
theorem dX2_goOn_42 : decode cX2_goOn 42 = .ok (.return_, 1) := by decide +kernel
theorem dX2_goOnStill_0 : decode cX2_goOnStill 0 = .ok (.aload_n 0, 1) := by decide +kernel
theorem dX2_goOnStill_1 : decode cX2_goOnStill 1 = .ok (.invokevirtual 89, 3) := by decide +kernel
theorem dX2_goOnStill_4 : decode cX2_goOnStill 4 = .ok (.aload_n 0, 1) := by decide +kernel
theorem dX2_goOnStill_5 : decode cX2_goOnStill 5 = .ok (.invokevirtual 96, 3) := by decide +kernel
theorem dX2_goOnStill_8 : decode cX2_goOnStill 8 = .ok (.return_, 1) := by decide +kernel
theorem dX2_goOnTillOff_0 : decode cX2_goOnTillOff 0 = .ok (.iconst 0, 1) := by decide +kernel
theorem dX2_goOnTillOff_1 : decode cX2_goOnTillOff 1 = .ok (.istore_n 2, 1) := by decide +kernel
theorem dX2_goOnTillOff_2 : decode cX2_goOnTillOff 2 = .ok (.iload_n 2, 1) := by decide +kernel
theorem dX2_goOnTillOff_3 : decode cX2_goOnTillOff 3 = .ok (.bipush 60, 2) := by decide +kernel
theorem dX2_goOnTillOff_5 : decode cX2_goOnTillOff 5 = .ok (.if_icmp .ge 24, 3) := by decide +kernel
theorem dX2_goOnTillOff_8 : decode cX2_goOnTillOff 8 = .ok (.aload_n 0, 1) := by decide +kernel
theorem dX2_goOnTillOff_9 : decode cX2_goOnTillOff 9 = .ok (.iload_n 1, 1) := by decide +kernel
theorem dX2_goOnTillOff_10 : decode cX2_goOnTillOff 10 = .ok (.invokevirtual 99, 3) := by decide +kernel
theorem dX2_goOnTillOff_13 : decode cX2_goOnTillOff 13 = .ok (.ifCond .ne 5, 3) := by decide +kernel
theorem dX2_goOnTillOff_16 : decode cX2_goOnTillOff 16 = .ok (.iload_n 2, 1) := by decide +kernel
theorem dX2_goOnTillOff_17 : decode cX2_goOnTillOff 17 = .ok (.ireturn, 1) := by decide +kernel
theorem dX2_goOnTillOff_18 : decode cX2_goOnTillOff 18 = .ok (.aload_n 0, 1) := by decide +kernel
theorem dX2_goOnTillOff_19 : decode cX2_goOnTillOff 19 = .ok (.iconst 1, 1) := by decide +kernel
theorem dX2_goOnTillOff_20 : decode cX2_goOnTillOff 20 = .ok (.invokevirtual 102, 3) := by decide +kernel
theorem dX2_goOnTillOff_23 : decode cX2_goOnTillOff 23 = .ok (.iinc 2 1, 3) := by decide +kernel
theorem dX2_goOnTillOff_26 : decode cX2_goOnTillOff 26 = .ok (.goto (-24), 3) := by decide +kernel
theorem dX2_goOnTillOff_29 : decode cX2_goOnTillOff 29 = .ok (.aload_n 0, 1) := by decide +kernel
theorem dX2_goOnTillOff_30 : decode cX2_goOnTillOff 30 = .ok (.iload_n 1, 1) := by decide +kernel
theorem dX2_goOnTillOff_31 : decode cX2_goOnTillOff 31 = .ok (.invokevirtual 99, 3) := by decide +kernel
theorem dX2_goOnTillOff_34 : decode cX2_goOnTillOff 34 = .ok (.ifCond .eq 8, 3) := by decide +kernel
theorem dX2_goOnTillOff_37 : decode cX2_goOnTillOff 37 = .ok (.bipush 61, 2) := by decide +kernel
theorem dX2_goOnTillOff_39 : decode cX2_goOnTillOff 39 = .ok (.goto 5, 3) := by decide +kernel
theorem dX2_goOnTillOff_42 : decode cX2_goOnTillOff 42 = .ok (.bipush 60, 2) := by decide +kernel
theorem dX2_goOnTillOff_44 : decode cX2_goOnTillOff 44 = .ok (.ireturn, 1) := by decide +kernel
theorem dX2_begin_0 : decode cX2_begin 0 = .ok (.aload_n 0, 1) := by decide +kernel
theorem dX2_begin_1 : decode cX2_begin 1 = .ok (.dup, 1) := by decide +kernel
theorem dX2_begin_2 : decode cX2_begin 2 = .ok (.getfield 65, 3) := by decide +kernel
theorem dX2_begin_5 : decode cX2_begin 5 = .ok (.iconst 1, 1) := by decide +kernel
theorem dX2_begin_6 : decode cX2_begin 6 = .ok (.iadd, 1) := by decide +kernel
theorem dX2_begin_7 : decode cX2_begin 7 = .ok (.putfield 65, 3) := by decide +kernel
theorem dX2_begin_10 : decode cX2_begin 10 = .ok (.aload_n 0, 1) := by decide +kernel
theorem dX2_begin_11 : decode cX2_begin 11 = .ok (.getfield 37, 3) := by decide +kernel
theorem dX2_begin_14 : decode cX2_begin 14 = .ok (.getfield 105, 3) := by decide +kernel
theorem dX2_begin_17 : decode cX2_begin 17 = .ok (.ifCond .le 36, 3) := by decide +kernel
theorem dX2_begin_20 : decode cX2_begin 20 = .ok (.iconst 0, 1) := by decide +kernel
theorem dX2_begin_21 : decode cX2_begin 21 = .ok (.istore_n 1, 1) := by decide +kernel
theorem dX2_begin_22 : decode cX2_begin 22 = .ok (.iload_n 1, 1) := by decide +kernel
theorem dX2_begin_23 : decode cX2_begin 23 = .ok (.bipush 36, 2) := by decide +kernel
theorem dX2_begin_25 : decode cX2_begin 25 = .ok (.if_icmp .ge 28, 3) := by decide +kernel
theorem dX2_begin_28 : decode cX2_begin 28 = .ok (.aload_n 0, 1) := by decide +kernel
theorem dX2_begin_29 : decode cX2_begin 29 = .ok (.getfield 9, 3) := by decide +kernel
theorem dX2_begin_32 : decode cX2_begin 32 = .ok (.iload_n 1, 1) := by decide +kernel
theorem dX2_begin_33 : decode cX2_begin 33 = .ok (.aload_n 0, 1) := by decide +kernel
theorem dX2_begin_34 : decode cX2_begin 34 = .ok (.getfield 37, 3) := by decide +kernel
theorem dX2_begin_37 : decode cX2_begin 37 = .ok (.aload_n 0, 1) := by decide +kernel
theorem dX2_begin_38 : decode cX2_begin 38 = .ok (.getfield 9, 3) := by decide +kernel
theorem dX2_begin_41 : decode cX2_begin 41 = .ok (.iload_n 1, 1) := by decide +kernel
theorem dX2_begin_42 : decode cX2_begin 42 = .ok (.faload, 1) := by decide +kernel
theorem dX2_begin_43 : decode cX2_begin 43 = .ok (.invokevirtual 108, 3) := by decide +kernel
theorem dX2_begin_46 : decode cX2_begin 46 = .ok (.fastore, 1) := by decide +kernel
theorem dX2_begin_47 : decode cX2_begin 47 = .ok (.iinc 1 1, 3) := by decide +kernel
theorem dX2_begin_50 : decode cX2_begin 50 = .ok (.goto (-28), 3) := by decide +kernel
theorem dX2_begin_53 : decode cX2_begin 53 = .ok (.return_, 1) := by decide +kernel
theorem dX2_freeze_0 : decode cX2_freeze 0 = .ok (.iconst 0, 1) := by decide +kernel
theorem dX2_freeze_1 : decode cX2_freeze 1 = .ok (.istore_n 1, 1) := by decide +kernel
theorem dX2_freeze_2 : decode cX2_freeze 2 = .ok (.iload_n 1, 1) := by decide +kernel
theorem dX2_freeze_3 : decode cX2_freeze 3 = .ok (.aload_n 0, 1) := by decide +kernel
theorem dX2_freeze_4 : decode cX2_freeze 4 = .ok (.getfield 59, 3) := by decide +kernel
theorem dX2_freeze_7 : decode cX2_freeze 7 = .ok (.if_icmp .ge 56, 3) := by decide +kernel
theorem dX2_freeze_10 : decode cX2_freeze 10 = .ok (.aload_n 0, 1) := by decide +kernel
theorem dX2_freeze_11 : decode cX2_freeze 11 = .ok (.iload_n 1, 1) := by decide +kernel
theorem dX2_freeze_12 : decode cX2_freeze 12 = .ok (.invokevirtual 99, 3) := by decide +kernel
theorem dX2_freeze_15 : decode cX2_freeze 15 = .ok (.ifCond .eq 42, 3) := by decide +kernel
theorem dX2_freeze_18 : decode cX2_freeze 18 = .ok (.aload_n 0, 1) := by decide +kernel
theorem dX2_freeze_19 : decode cX2_freeze 19 = .ok (.getfield 9, 3) := by decide +kernel
theorem dX2_freeze_22 : decode cX2_freeze 22 = .ok (.aload_n 0, 1) := by decide +kernel
theorem dX2_freeze_23 : decode cX2_freeze 23 = .ok (.getfield 28, 3) := by decide +kernel
theorem dX2_freeze_26 : decode cX2_freeze 26 = .ok (.iload_n 1, 1) := by decide +kernel
theorem dX2_freeze_27 : decode cX2_freeze 27 = .ok (.iaload, 1) := by decide +kernel
theorem dX2_freeze_28 : decode cX2_freeze 28 = .ok (.faload, 1) := by decide +kernel
theorem dX2_freeze_29 : decode cX2_freeze 29 = .ok (.bipush 8, 2) := by decide +kernel
theorem dX2_freeze_31 : decode cX2_freeze 31 = .ok (.aload_n 0, 1) := by decide +kernel
theorem dX2_freeze_32 : decode cX2_freeze 32 = .ok (.getfield 31, 3) := by decide +kernel
theorem dX2_freeze_35 : decode cX2_freeze 35 = .ok (.iload_n 1, 1) := by decide +kernel
theorem dX2_freeze_36 : decode cX2_freeze 36 = .ok (.iaload, 1) := by decide +kernel
theorem dX2_freeze_37 : decode cX2_freeze 37 = .ok (.isub, 1) := by decide +kernel
theorem dX2_freeze_38 : decode cX2_freeze 38 = .ok (.i2f, 1) := by decide +kernel
theorem dX2_freeze_39 : decode cX2_freeze 39 = .ok (.fcmp .g, 1) := by decide +kernel
theorem dX2_freeze_40 : decode cX2_freeze 40 = .ok (.ifCond .ge 17, 3) := by decide +kernel
theorem dX2_freeze_43 : decode cX2_freeze 43 = .ok (.aload_n 0, 1) := by decide +kernel
theorem dX2_freeze_44 : decode cX2_freeze 44 = .ok (.dup, 1) := by decide +kernel
theorem dX2_freeze_45 : decode cX2_freeze 45 = .ok (.getfield 62, 3) := by decide +kernel
theorem dX2_freeze_48 : decode cX2_freeze 48 = .ok (.iconst 1, 1) := by decide +kernel
theorem dX2_freeze_49 : decode cX2_freeze 49 = .ok (.iload_n 1, 1) := by decide +kernel
theorem dX2_freeze_50 : decode cX2_freeze 50 = .ok (.ishl, 1) := by decide +kernel
theorem dX2_freeze_51 : decode cX2_freeze 51 = .ok (.iconst (-1), 1) := by decide +kernel
theorem dX2_freeze_52 : decode cX2_freeze 52 = .ok (.ixor, 1) := by decide +kernel
theorem dX2_freeze_53 : decode cX2_freeze 53 = .ok (.iand, 1) := by decide +kernel
theorem dX2_freeze_54 : decode cX2_freeze 54 = .ok (.putfield 62, 3) := by decide +kernel
theorem dX2_freeze_57 : decode cX2_freeze 57 = .ok (.iinc 1 1, 3) := by decide +kernel
theorem dX2_freeze_60 : decode cX2_freeze 60 = .ok (.goto (-58), 3) := by decide +kernel
theorem dX2_freeze_63 : decode cX2_freeze 63 = .ok (.return_, 1) := by decide +kernel
theorem dX2_blow_0 : decode cX2_blow 0 = .ok (.aload_n 0, 1) := by decide +kernel
theorem dX2_blow_1 : decode cX2_blow 1 = .ok (.getfield 15, 3) := by decide +kernel
theorem dX2_blow_4 : decode cX2_blow 4 = .ok (.iload_n 1, 1) := by decide +kernel
theorem dX2_blow_5 : decode cX2_blow 5 = .ok (.iaload, 1) := by decide +kernel
theorem dX2_blow_6 : decode cX2_blow 6 = .ok (.aload_n 0, 1) := by decide +kernel
theorem dX2_blow_7 : decode cX2_blow 7 = .ok (.getfield 19, 3) := by decide +kernel
theorem dX2_blow_10 : decode cX2_blow 10 = .ok (.iload_n 1, 1) := by decide +kernel
theorem dX2_blow_11 : decode cX2_blow 11 = .ok (.iaload, 1) := by decide +kernel
theorem dX2_blow_12 : decode cX2_blow 12 = .ok (.invokestatic 112, 3) := by decide +kernel
theorem dX2_blow_15 : decode cX2_blow 15 = .ok (.istore_n 2, 1) := by decide +kernel
theorem dX2_blow_16 : decode cX2_blow 16 = .ok (.iconst 0, 1) := by decide +kernel
theorem dX2_blow_17 : decode cX2_blow 17 = .ok (.istore_n 3, 1) := by decide +kernel
theorem dX2_blow_18 : decode cX2_blow 18 = .ok (.iconst 0, 1) := by decide +kernel
theorem dX2_blow_19 : decode cX2_blow 19 = .ok (.istore 4, 2) := by decide +kernel
theorem dX2_blow_21 : decode cX2_blow 21 = .ok (.iload 4, 2) := by decide +kernel
theorem dX2_blow_23 : decode cX2_blow 23 = .ok (.iload_n 2, 1) := by decide +kernel
theorem dX2_blow_24 : decode cX2_blow 24 = .ok (.if_icmp .ge 64, 3) := by decide +kernel
theorem dX2_blow_27 : decode cX2_blow 27 = .ok (.aload_n 0, 1) := by decide +kernel
theorem dX2_blow_28 : decode cX2_blow 28 = .ok (.iload_n 1, 1) := by decide +kernel
theorem dX2_blow_29 : decode cX2_blow 29 = .ok (.invokevirtual 118, 3) := by decide +kernel
theorem dX2_blow_32 : decode cX2_blow 32 = .ok (.istore 5, 2) := by decide +kernel
theorem dX2_blow_34 : decode cX2_blow 34 = .ok (.iload 5, 2) := by decide +kernel
theorem dX2_blow_36 : decode cX2_blow 36 = .ok (.ifCond .ge 6, 3) := by decide +kernel
theorem dX2_blow_39 : decode cX2_blow 39 = .ok (.goto 49, 3) := by decide +kernel
theorem dX2_blow_42 : decode cX2_blow 42 = .ok (.aload_n 0, 1) := by decide +kernel
theorem dX2_blow_43 : decode cX2_blow 43 = .ok (.getfield 22, 3) := by decide +kernel
theorem dX2_blow_46 : decode cX2_blow 46 = .ok (.iload_n 1, 1) := by decide +kernel
theorem dX2_blow_47 : decode cX2_blow 47 = .ok (.iaload, 1) := by decide +kernel
theorem dX2_blow_48 : decode cX2_blow 48 = .ok (.iload 5, 2) := by decide +kernel
theorem dX2_blow_50 : decode cX2_blow 50 = .ok (.invokestatic 121, 3) := by decide +kernel
theorem dX2_blow_53 : decode cX2_blow 53 = .ok (.istore 6, 2) := by decide +kernel
theorem dX2_blow_55 : decode cX2_blow 55 = .ok (.aload_n 0, 1) := by decide +kernel
theorem dX2_blow_56 : decode cX2_blow 56 = .ok (.aload_n 0, 1) := by decide +kernel
theorem dX2_blow_57 : decode cX2_blow 57 = .ok (.iload 6, 2) := by decide +kernel
theorem dX2_blow_59 : decode cX2_blow 59 = .ok (.invokevirtual 79, 3) := by decide +kernel
theorem dX2_blow_62 : decode cX2_blow 62 = .ok (.invokevirtual 124, 3) := by decide +kernel
theorem dX2_blow_65 : decode cX2_blow 65 = .ok (.aload_n 0, 1) := by decide +kernel
theorem dX2_blow_66 : decode cX2_blow 66 = .ok (.iload_n 1, 1) := by decide +kernel
theorem dX2_blow_67 : decode cX2_blow 67 = .ok (.iload 6, 2) := by decide +kernel
theorem dX2_blow_69 : decode cX2_blow 69 = .ok (.iload 5, 2) := by decide +kernel
theorem dX2_blow_71 : decode cX2_blow 71 = .ok (.invokestatic 121, 3) := by decide +kernel
theorem dX2_blow_74 : decode cX2_blow 74 = .ok (.iload 5, 2) := by decide +kernel
theorem dX2_blow_76 : decode cX2_blow 76 = .ok (.invokevirtual 127, 3) := by decide +kernel
theorem dX2_blow_79 : decode cX2_blow 79 = .ok (.iinc 3 1, 3) := by decide +kernel
theorem dX2_blow_82 : decode cX2_blow 82 = .ok (.iinc 4 1, 3) := by decide +kernel
theorem dX2_blow_85 : decode cX2_blow 85 = .ok (.goto (-64), 3) := by decide +kernel
theorem dX2_blow_88 : decode cX2_blow 88 = .ok (.iload_n 3, 1) := by decide +kernel
theorem dX2_blow_89 : decode cX2_blow 89 = .ok (.ifCond .ne 52, 3) := by decide +kernel
theorem dX2_blow_92 : decode cX2_blow 92 = .ok (.aload_n 0, 1) := by decide +kernel
theorem dX2_blow_93 : decode cX2_blow 93 = .ok (.iload_n 1, 1) := by decide +kernel
theorem dX2_blow_94 : decode cX2_blow 94 = .ok (.invokevirtual 131, 3) := by decide +kernel
theorem dX2_blow_97 : decode cX2_blow 97 = .ok (.istore 4, 2) := by decide +kernel
theorem dX2_blow_99 : decode cX2_blow 99 = .ok (.iload 4, 2) := by decide +kernel
theorem dX2_blow_101 : decode cX2_blow 101 = .ok (.ifCond .ge 22, 3) := by decide +kernel
theorem dX2_blow_104 : decode cX2_blow 104 = .ok (.aload_n 0, 1) := by decide +kernel
theorem dX2_blow_105 : decode cX2_blow 105 = .ok (.getfield 25, 3) := by decide +kernel
theorem dX2_blow_108 : decode cX2_blow 108 = .ok (.iload_n 1, 1) := by decide +kernel
theorem dX2_blow_109 : decode cX2_blow 109 = .ok (.aload_n 0, 1) := by decide +kernel
theorem dX2_blow_110 : decode cX2_blow 110 = .ok (.getfield 25, 3) := by decide +kernel
theorem dX2_blow_113 : decode cX2_blow 113 = .ok (.iload_n 1, 1) := by decide +kernel
theorem dX2_blow_114 : decode cX2_blow 114 = .ok (.iaload, 1) := by decide +kernel
theorem dX2_blow_115 : decode cX2_blow 115 = .ok (.iconst 2, 1) := by decide +kernel
theorem dX2_blow_116 : decode cX2_blow 116 = .ok (.iadd, 1) := by decide +kernel
theorem dX2_blow_117 : decode cX2_blow 117 = .ok (.iconst 4, 1) := by decide +kernel
theorem dX2_blow_118 : decode cX2_blow 118 = .ok (.irem, 1) := by decide +kernel
theorem dX2_blow_119 : decode cX2_blow 119 = .ok (.iastore, 1) := by decide +kernel
theorem dX2_blow_120 : decode cX2_blow 120 = .ok (.goto 21, 3) := by decide +kernel
theorem dX2_blow_123 : decode cX2_blow 123 = .ok (.aload_n 0, 1) := by decide +kernel
theorem dX2_blow_124 : decode cX2_blow 124 = .ok (.iload_n 1, 1) := by decide +kernel
theorem dX2_blow_125 : decode cX2_blow 125 = .ok (.aload_n 0, 1) := by decide +kernel
theorem dX2_blow_126 : decode cX2_blow 126 = .ok (.getfield 22, 3) := by decide +kernel
theorem dX2_blow_129 : decode cX2_blow 129 = .ok (.iload_n 1, 1) := by decide +kernel
theorem dX2_blow_130 : decode cX2_blow 130 = .ok (.iaload, 1) := by decide +kernel
theorem dX2_blow_131 : decode cX2_blow 131 = .ok (.iload 4, 2) := by decide +kernel
theorem dX2_blow_133 : decode cX2_blow 133 = .ok (.invokestatic 121, 3) := by decide +kernel
theorem dX2_blow_136 : decode cX2_blow 136 = .ok (.iload 4, 2) := by decide +kernel
theorem dX2_blow_138 : decode cX2_blow 138 = .ok (.invokevirtual 127, 3) := by decide +kernel
theorem dX2_blow_141 : decode cX2_blow 141 = .ok (.aload_n 0, 1) := by decide +kernel
theorem dX2_blow_142 : decode cX2_blow 142 = .ok (.getfield 22, 3) := by decide +kernel
theorem dX2_blow_145 : decode cX2_blow 145 = .ok (.iload_n 1, 1) := by decide +kernel
theorem dX2_blow_146 : decode cX2_blow 146 = .ok (.iaload, 1) := by decide +kernel
theorem dX2_blow_147 : decode cX2_blow 147 = .ok (.bipush 6, 2) := by decide +kernel
theorem dX2_blow_149 : decode cX2_blow 149 = .ok (.idiv, 1) := by decide +kernel
theorem dX2_blow_150 : decode cX2_blow 150 = .ok (.istore 4, 2) := by decide +kernel
theorem dX2_blow_152 : decode cX2_blow 152 = .ok (.iload 4, 2) := by decide +kernel
theorem dX2_blow_154 : decode cX2_blow 154 = .ok (.ifCond .eq 9, 3) := by decide +kernel
theorem dX2_blow_157 : decode cX2_blow 157 = .ok (.iload 4, 2) := by decide +kernel
theorem dX2_blow_159 : decode cX2_blow 159 = .ok (.iconst 5, 1) := by decide +kernel
theorem dX2_blow_160 : decode cX2_blow 160 = .ok (.if_icmp .ne 15, 3) := by decide +kernel
theorem dX2_blow_163 : decode cX2_blow 163 = .ok (.aload_n 0, 1) := by decide +kernel
theorem dX2_blow_164 : decode cX2_blow 164 = .ok (.dup, 1) := by decide +kernel
theorem dX2_blow_165 : decode cX2_blow 165 = .ok (.getfield 56, 3) := by decide +kernel
theorem dX2_blow_168 : decode cX2_blow 168 = .ok (.iconst 1, 1) := by decide +kernel
theorem dX2_blow_169 : decode cX2_blow 169 = .ok (.iload_n 1, 1) := by decide +kernel
theorem dX2_blow_170 : decode cX2_blow 170 = .ok (.ishl, 1) := by decide +kernel
theorem dX2_blow_171 : decode cX2_blow 171 = .ok (.ior, 1) := by decide +kernel
theorem dX2_blow_172 : decode cX2_blow 172 = .ok (.putfield 56, 3) := by decide +kernel
theorem dX2_blow_175 : decode cX2_blow 175 = .ok (.return_, 1) := by decide +kernel
theorem dX2_wayToLeap_0 : decode cX2_wayToLeap 0 = .ok (.aload_n 0, 1) := by decide +kernel
theorem dX2_wayToLeap_1 : decode cX2_wayToLeap 1 = .ok (.iload_n 1, 1) := by decide +kernel
theorem dX2_wayToLeap_2 : decode cX2_wayToLeap 2 = .ok (.invokevirtual 134, 3) := by decide +kernel
theorem dX2_wayToLeap_5 : decode cX2_wayToLeap 5 = .ok (.ifCond .eq 7, 3) := by decide +kernel
theorem dX2_wayToLeap_8 : decode cX2_wayToLeap 8 = .ok (.iconst 4, 1) := by decide +kernel
theorem dX2_wayToLeap_9 : decode cX2_wayToLeap 9 = .ok (.goto 4, 3) := by decide +kernel
theorem dX2_wayToLeap_12 : decode cX2_wayToLeap 12 = .ok (.iconst 2, 1) := by decide +kernel
theorem dX2_wayToLeap_13 : decode cX2_wayToLeap 13 = .ok (.istore_n 2, 1) := by decide +kernel
theorem dX2_wayToLeap_14 : decode cX2_wayToLeap 14 = .ok (.iconst 0, 1) := by decide +kernel
theorem dX2_wayToLeap_15 : decode cX2_wayToLeap 15 = .ok (.istore_n 3, 1) := by decide +kernel
theorem dX2_wayToLeap_16 : decode cX2_wayToLeap 16 = .ok (.iload_n 3, 1) := by decide +kernel
theorem dX2_wayToLeap_17 : decode cX2_wayToLeap 17 = .ok (.iload_n 2, 1) := by decide +kernel
theorem dX2_wayToLeap_18 : decode cX2_wayToLeap 18 = .ok (.if_icmp .ge 80, 3) := by decide +kernel
theorem dX2_wayToLeap_21 : decode cX2_wayToLeap 21 = .ok (.aload_n 0, 1) := by decide +kernel
theorem dX2_wayToLeap_22 : decode cX2_wayToLeap 22 = .ok (.getfield 25, 3) := by decide +kernel
theorem dX2_wayToLeap_25 : decode cX2_wayToLeap 25 = .ok (.iload_n 1, 1) := by decide +kernel
theorem dX2_wayToLeap_26 : decode cX2_wayToLeap 26 = .ok (.iaload, 1) := by decide +kernel
theorem dX2_wayToLeap_27 : decode cX2_wayToLeap 27 = .ok (.iload_n 3, 1) := by decide +kernel
theorem dX2_wayToLeap_28 : decode cX2_wayToLeap 28 = .ok (.iadd, 1) := by decide +kernel
theorem dX2_wayToLeap_29 : decode cX2_wayToLeap 29 = .ok (.iconst 4, 1) := by decide +kernel
theorem dX2_wayToLeap_30 : decode cX2_wayToLeap 30 = .ok (.irem, 1) := by decide +kernel
theorem dX2_wayToLeap_31 : decode cX2_wayToLeap 31 = .ok (.istore 4, 2) := by decide +kernel
theorem dX2_wayToLeap_33 : decode cX2_wayToLeap 33 = .ok (.aload_n 0, 1) := by decide +kernel
theorem dX2_wayToLeap_34 : decode cX2_wayToLeap 34 = .ok (.getfield 22, 3) := by decide +kernel
theorem dX2_wayToLeap_37 : decode cX2_wayToLeap 37 = .ok (.iload_n 1, 1) := by decide +kernel
theorem dX2_wayToLeap_38 : decode cX2_wayToLeap 38 = .ok (.iaload, 1) := by decide +kernel
theorem dX2_wayToLeap_39 : decode cX2_wayToLeap 39 = .ok (.iload 4, 2) := by decide +kernel
theorem dX2_wayToLeap_41 : decode cX2_wayToLeap 41 = .ok (.invokestatic 121, 3) := by decide +kernel
theorem dX2_wayToLeap_44 : decode cX2_wayToLeap 44 = .ok (.istore 5, 2) := by decide +kernel
theorem dX2_wayToLeap_46 : decode cX2_wayToLeap 46 = .ok (.iload 5, 2) := by decide +kernel
theorem dX2_wayToLeap_48 : decode cX2_wayToLeap 48 = .ok (.ifCond .ge 7, 3) := by decide +kernel
theorem dX2_wayToLeap_51 : decode cX2_wayToLeap 51 = .ok (.iconst (-1), 1) := by decide +kernel
theorem dX2_wayToLeap_52 : decode cX2_wayToLeap 52 = .ok (.goto 10, 3) := by decide +kernel
theorem dX2_wayToLeap_55 : decode cX2_wayToLeap 55 = .ok (.iload 5, 2) := by decide +kernel
theorem dX2_wayToLeap_57 : decode cX2_wayToLeap 57 = .ok (.iload 4, 2) := by decide +kernel
theorem dX2_wayToLeap_59 : decode cX2_wayToLeap 59 = .ok (.invokestatic 121, 3) := by decide +kernel
theorem dX2_wayToLeap_62 : decode cX2_wayToLeap 62 = .ok (.istore 6, 2) := by decide +kernel
theorem dX2_wayToLeap_64 : decode cX2_wayToLeap 64 = .ok (.iload 6, 2) := by decide +kernel
theorem dX2_wayToLeap_66 : decode cX2_wayToLeap 66 = .ok (.ifCond .lt 26, 3) := by decide +kernel
theorem dX2_wayToLeap_69 : decode cX2_wayToLeap 69 = .ok (.aload_n 0, 1) := by decide +kernel
theorem dX2_wayToLeap_70 : decode cX2_wayToLeap 70 = .ok (.iload 5, 2) := by decide +kernel
theorem dX2_wayToLeap_72 : decode cX2_wayToLeap 72 = .ok (.invokevirtual 79, 3) := by decide +kernel
theorem dX2_wayToLeap_75 : decode cX2_wayToLeap 75 = .ok (.bipush (-9), 2) := by decide +kernel
theorem dX2_wayToLeap_77 : decode cX2_wayToLeap 77 = .ok (.if_icmp .eq 15, 3) := by decide +kernel
theorem dX2_wayToLeap_80 : decode cX2_wayToLeap 80 = .ok (.aload_n 0, 1) := by decide +kernel
theorem dX2_wayToLeap_81 : decode cX2_wayToLeap 81 = .ok (.iload 6, 2) := by decide +kernel
theorem dX2_wayToLeap_83 : decode cX2_wayToLeap 83 = .ok (.invokevirtual 86, 3) := by decide +kernel
theorem dX2_wayToLeap_86 : decode cX2_wayToLeap 86 = .ok (.ifCond .eq 6, 3) := by decide +kernel
theorem dX2_wayToLeap_89 : decode cX2_wayToLeap 89 = .ok (.iload 4, 2) := by decide +kernel
theorem dX2_wayToLeap_91 : decode cX2_wayToLeap 91 = .ok (.ireturn, 1) := by decide +kernel
theorem dX2_wayToLeap_92 : decode cX2_wayToLeap 92 = .ok (.iinc 3 1, 3) := by decide +kernel
theorem dX2_wayToLeap_95 : decode cX2_wayToLeap 95 = .ok (.goto (-79), 3) := by decide +kernel
theorem dX2_wayToLeap_98 : decode cX2_wayToLeap 98 = .ok (.iconst (-1), 1) := by decide +kernel
theorem dX2_wayToLeap_99 : decode cX2_wayToLeap 99 = .ok (.ireturn, 1) := by decide +kernel
theorem dX2_wayToWalk_0 : decode cX2_wayToWalk 0 = .ok (.aload_n 0, 1) := by decide +kernel
theorem dX2_wayToWalk_1 : decode cX2_wayToWalk 1 = .ok (.iload_n 1, 1) := by decide +kernel
theorem dX2_wayToWalk_2 : decode cX2_wayToWalk 2 = .ok (.invokevirtual 134, 3) := by decide +kernel
theorem dX2_wayToWalk_5 : decode cX2_wayToWalk 5 = .ok (.ifCond .eq 7, 3) := by decide +kernel
theorem dX2_wayToWalk_8 : decode cX2_wayToWalk 8 = .ok (.iconst 4, 1) := by decide +kernel
theorem dX2_wayToWalk_9 : decode cX2_wayToWalk 9 = .ok (.goto 4, 3) := by decide +kernel
theorem dX2_wayToWalk_12 : decode cX2_wayToWalk 12 = .ok (.iconst 2, 1) := by decide +kernel
theorem dX2_wayToWalk_13 : decode cX2_wayToWalk 13 = .ok (.istore_n 2, 1) := by decide +kernel
theorem dX2_wayToWalk_14 : decode cX2_wayToWalk 14 = .ok (.iconst 0, 1) := by decide +kernel
theorem dX2_wayToWalk_15 : decode cX2_wayToWalk 15 = .ok (.istore_n 3, 1) := by decide +kernel
theorem dX2_wayToWalk_16 : decode cX2_wayToWalk 16 = .ok (.iload_n 3, 1) := by decide +kernel
theorem dX2_wayToWalk_17 : decode cX2_wayToWalk 17 = .ok (.iload_n 2, 1) := by decide +kernel
theorem dX2_wayToWalk_18 : decode cX2_wayToWalk 18 = .ok (.if_icmp .ge 51, 3) := by decide +kernel
theorem dX2_wayToWalk_21 : decode cX2_wayToWalk 21 = .ok (.aload_n 0, 1) := by decide +kernel
theorem dX2_wayToWalk_22 : decode cX2_wayToWalk 22 = .ok (.getfield 25, 3) := by decide +kernel
theorem dX2_wayToWalk_25 : decode cX2_wayToWalk 25 = .ok (.iload_n 1, 1) := by decide +kernel
theorem dX2_wayToWalk_26 : decode cX2_wayToWalk 26 = .ok (.iaload, 1) := by decide +kernel
theorem dX2_wayToWalk_27 : decode cX2_wayToWalk 27 = .ok (.iload_n 3, 1) := by decide +kernel
theorem dX2_wayToWalk_28 : decode cX2_wayToWalk 28 = .ok (.iadd, 1) := by decide +kernel
theorem dX2_wayToWalk_29 : decode cX2_wayToWalk 29 = .ok (.iconst 4, 1) := by decide +kernel
theorem dX2_wayToWalk_30 : decode cX2_wayToWalk 30 = .ok (.irem, 1) := by decide +kernel
theorem dX2_wayToWalk_31 : decode cX2_wayToWalk 31 = .ok (.istore 4, 2) := by decide +kernel
theorem dX2_wayToWalk_33 : decode cX2_wayToWalk 33 = .ok (.aload_n 0, 1) := by decide +kernel
theorem dX2_wayToWalk_34 : decode cX2_wayToWalk 34 = .ok (.getfield 22, 3) := by decide +kernel
theorem dX2_wayToWalk_37 : decode cX2_wayToWalk 37 = .ok (.iload_n 1, 1) := by decide +kernel
theorem dX2_wayToWalk_38 : decode cX2_wayToWalk 38 = .ok (.iaload, 1) := by decide +kernel
theorem dX2_wayToWalk_39 : decode cX2_wayToWalk 39 = .ok (.iload 4, 2) := by decide +kernel
theorem dX2_wayToWalk_41 : decode cX2_wayToWalk 41 = .ok (.invokestatic 121, 3) := by decide +kernel
theorem dX2_wayToWalk_44 : decode cX2_wayToWalk 44 = .ok (.istore 5, 2) := by decide +kernel
theorem dX2_wayToWalk_46 : decode cX2_wayToWalk 46 = .ok (.iload 5, 2) := by decide +kernel
theorem dX2_wayToWalk_48 : decode cX2_wayToWalk 48 = .ok (.ifCond .lt 15, 3) := by decide +kernel
theorem dX2_wayToWalk_51 : decode cX2_wayToWalk 51 = .ok (.aload_n 0, 1) := by decide +kernel
theorem dX2_wayToWalk_52 : decode cX2_wayToWalk 52 = .ok (.iload 5, 2) := by decide +kernel
theorem dX2_wayToWalk_54 : decode cX2_wayToWalk 54 = .ok (.invokevirtual 86, 3) := by decide +kernel
theorem dX2_wayToWalk_57 : decode cX2_wayToWalk 57 = .ok (.ifCond .eq 6, 3) := by decide +kernel
theorem dX2_wayToWalk_60 : decode cX2_wayToWalk 60 = .ok (.iload 4, 2) := by decide +kernel
theorem dX2_wayToWalk_62 : decode cX2_wayToWalk 62 = .ok (.ireturn, 1) := by decide +kernel
theorem dX2_wayToWalk_63 : decode cX2_wayToWalk 63 = .ok (.iinc 3 1, 3) := by decide +kernel
theorem dX2_wayToWalk_66 : decode cX2_wayToWalk 66 = .ok (.goto (-50), 3) := by decide +kernel
theorem dX2_wayToWalk_69 : decode cX2_wayToWalk 69 = .ok (.iconst (-1), 1) := by decide +kernel
theorem dX2_wayToWalk_70 : decode cX2_wayToWalk 70 = .ok (.ireturn, 1) := by decide +kernel
theorem dX2_leapOver_0 : decode cX2_leapOver 0 = .ok (.iload_n 1, 1) := by decide +kernel
theorem dX2_leapOver_1 : decode cX2_leapOver 1 = .ok (.ifCond .lt 11, 3) := by decide +kernel
theorem dX2_leapOver_4 : decode cX2_leapOver 4 = .ok (.iload_n 1, 1) := by decide +kernel
theorem dX2_leapOver_5 : decode cX2_leapOver 5 = .ok (.aload_n 0, 1) := by decide +kernel
theorem dX2_leapOver_6 : decode cX2_leapOver 6 = .ok (.getfield 59, 3) := by decide +kernel
theorem dX2_leapOver_9 : decode cX2_leapOver 9 = .ok (.if_icmp .lt 4, 3) := by decide +kernel
theorem dX2_leapOver_12 : decode cX2_leapOver 12 = .ok (.return_, 1) := by decide +kernel
theorem dX2_leapOver_13 : decode cX2_leapOver 13 = .ok (.aload_n 0, 1) := by decide +kernel
theorem dX2_leapOver_14 : decode cX2_leapOver 14 = .ok (.aload_n 0, 1) := by decide +kernel
theorem dX2_leapOver_15 : decode cX2_leapOver 15 = .ok (.getfield 68, 3) := by decide +kernel
theorem dX2_leapOver_18 : decode cX2_leapOver 18 = .ok (.iconst 1, 1) := by decide +kernel
theorem dX2_leapOver_19 : decode cX2_leapOver 19 = .ok (.iadd, 1) := by decide +kernel
theorem dX2_leapOver_20 : decode cX2_leapOver 20 = .ok (.sipush 9999, 3) := by decide +kernel
theorem dX2_leapOver_23 : decode cX2_leapOver 23 = .ok (.invokestatic 137, 3) := by decide +kernel
theorem dX2_leapOver_26 : decode cX2_leapOver 26 = .ok (.putfield 68, 3) := by decide +kernel
theorem dX2_leapOver_29 : decode cX2_leapOver 29 = .ok (.aload_n 0, 1) := by decide +kernel
theorem dX2_leapOver_30 : decode cX2_leapOver 30 = .ok (.getfield 31, 3) := by decide +kernel
theorem dX2_leapOver_33 : decode cX2_leapOver 33 = .ok (.iload_n 1, 1) := by decide +kernel
theorem dX2_leapOver_34 : decode cX2_leapOver 34 = .ok (.iaload, 1) := by decide +kernel
theorem dX2_leapOver_35 : decode cX2_leapOver 35 = .ok (.ifCond .le 16, 3) := by decide +kernel
theorem dX2_leapOver_38 : decode cX2_leapOver 38 = .ok (.aload_n 0, 1) := by decide +kernel
theorem dX2_leapOver_39 : decode cX2_leapOver 39 = .ok (.getfield 31, 3) := by decide +kernel
theorem dX2_leapOver_42 : decode cX2_leapOver 42 = .ok (.iload_n 1, 1) := by decide +kernel
theorem dX2_leapOver_43 : decode cX2_leapOver 43 = .ok (.dup2, 1) := by decide +kernel
theorem dX2_leapOver_44 : decode cX2_leapOver 44 = .ok (.iaload, 1) := by decide +kernel
theorem dX2_leapOver_45 : decode cX2_leapOver 45 = .ok (.iconst 1, 1) := by decide +kernel
theorem dX2_leapOver_46 : decode cX2_leapOver 46 = .ok (.isub, 1) := by decide +kernel
theorem dX2_leapOver_47 : decode cX2_leapOver 47 = .ok (.iastore, 1) := by decide +kernel
theorem dX2_leapOver_48 : decode cX2_leapOver 48 = .ok (.goto 17, 3) := by decide +kernel
theorem dX2_leapOver_51 : decode cX2_leapOver 51 = .ok (.aload_n 0, 1) := by decide +kernel
theorem dX2_leapOver_52 : decode cX2_leapOver 52 = .ok (.dup, 1) := by decide +kernel
theorem dX2_leapOver_53 : decode cX2_leapOver 53 = .ok (.getfield 62, 3) := by decide +kernel
theorem dX2_leapOver_56 : decode cX2_leapOver 56 = .ok (.iconst 1, 1) := by decide +kernel
theorem dX2_leapOver_57 : decode cX2_leapOver 57 = .ok (.iload_n 1, 1) := by decide +kernel
theorem dX2_leapOver_58 : decode cX2_leapOver 58 = .ok (.ishl, 1) := by decide +kernel
theorem dX2_leapOver_59 : decode cX2_leapOver 59 = .ok (.iconst (-1), 1) := by decide +kernel
theorem dX2_leapOver_60 : decode cX2_leapOver 60 = .ok (.ixor, 1) := by decide +kernel
theorem dX2_leapOver_61 : decode cX2_leapOver 61 = .ok (.iand, 1) := by decide +kernel
theorem dX2_leapOver_62 : decode cX2_leapOver 62 = .ok (.putfield 62, 3) := by decide +kernel
theorem dX2_leapOver_65 : decode cX2_leapOver 65 = .ok (.return_, 1) := by decide +kernel
theorem dX2_arrive_0 : decode cX2_arrive 0 = .ok (.iload_n 2, 1) := by decide +kernel
theorem dX2_arrive_1 : decode cX2_arrive 1 = .ok (.ifCond .lt 9, 3) := by decide +kernel
theorem dX2_arrive_4 : decode cX2_arrive 4 = .ok (.iload_n 2, 1) := by decide +kernel
theorem dX2_arrive_5 : decode cX2_arrive 5 = .ok (.bipush 36, 2) := by decide +kernel
theorem dX2_arrive_7 : decode cX2_arrive 7 = .ok (.if_icmp .lt 4, 3) := by decide +kernel
theorem dX2_arrive_10 : decode cX2_arrive 10 = .ok (.return_, 1) := by decide +kernel
theorem dX2_arrive_11 : decode cX2_arrive 11 = .ok (.aload_n 0, 1) := by decide +kernel
theorem dX2_arrive_12 : decode cX2_arrive 12 = .ok (.getfield 22, 3) := by decide +kernel
theorem dX2_arrive_15 : decode cX2_arrive 15 = .ok (.iload_n 1, 1) := by decide +kernel
theorem dX2_arrive_16 : decode cX2_arrive 16 = .ok (.iload_n 2, 1) := by decide +kernel
theorem dX2_arrive_17 : decode cX2_arrive 17 = .ok (.iastore, 1) := by decide +kernel
theorem dX2_arrive_18 : decode cX2_arrive 18 = .ok (.aload_n 0, 1) := by decide +kernel
theorem dX2_arrive_19 : decode cX2_arrive 19 = .ok (.getfield 25, 3) := by decide +kernel
theorem dX2_arrive_22 : decode cX2_arrive 22 = .ok (.iload_n 1, 1) := by decide +kernel
theorem dX2_arrive_23 : decode cX2_arrive 23 = .ok (.iload_n 3, 1) := by decide +kernel
theorem dX2_arrive_24 : decode cX2_arrive 24 = .ok (.iastore, 1) := by decide +kernel
theorem dX2_arrive_25 : decode cX2_arrive 25 = .ok (.aload_n 0, 1) := by decide +kernel
theorem dX2_arrive_26 : decode cX2_arrive 26 = .ok (.getfield 9, 3) := by decide +kernel
theorem dX2_arrive_29 : decode cX2_arrive 29 = .ok (.iload_n 2, 1) := by decide +kernel
theorem dX2_arrive_30 : decode cX2_arrive 30 = .ok (.aload_n 0, 1) := by decide +kernel
theorem dX2_arrive_31 : decode cX2_arrive 31 = .ok (.getfield 15, 3) := by decide +kernel
theorem dX2_arrive_34 : decode cX2_arrive 34 = .ok (.iload_n 1, 1) := by decide +kernel
theorem dX2_arrive_35 : decode cX2_arrive 35 = .ok (.iaload, 1) := by decide +kernel
theorem dX2_arrive_36 : decode cX2_arrive 36 = .ok (.aload_n 0, 1) := by decide +kernel
theorem dX2_arrive_37 : decode cX2_arrive 37 = .ok (.getfield 19, 3) := by decide +kernel
theorem dX2_arrive_40 : decode cX2_arrive 40 = .ok (.iload_n 1, 1) := by decide +kernel
theorem dX2_arrive_41 : decode cX2_arrive 41 = .ok (.iaload, 1) := by decide +kernel
theorem dX2_arrive_42 : decode cX2_arrive 42 = .ok (.aload_n 0, 1) := by decide +kernel
theorem dX2_arrive_43 : decode cX2_arrive 43 = .ok (.getfield 65, 3) := by decide +kernel
theorem dX2_arrive_46 : decode cX2_arrive 46 = .ok (.aload_n 0, 1) := by decide +kernel
theorem dX2_arrive_47 : decode cX2_arrive 47 = .ok (.getfield 9, 3) := by decide +kernel
theorem dX2_arrive_50 : decode cX2_arrive 50 = .ok (.iload_n 2, 1) := by decide +kernel
theorem dX2_arrive_51 : decode cX2_arrive 51 = .ok (.faload, 1) := by decide +kernel
theorem dX2_arrive_52 : decode cX2_arrive 52 = .ok (.invokestatic 142, 3) := by decide +kernel
theorem dX2_arrive_55 : decode cX2_arrive 55 = .ok (.invokestatic 146, 3) := by decide +kernel
theorem dX2_arrive_58 : decode cX2_arrive 58 = .ok (.fastore, 1) := by decide +kernel
theorem dX2_arrive_59 : decode cX2_arrive 59 = .ok (.return_, 1) := by decide +kernel
theorem dX2_nextCell_0 : decode cX2_nextCell 0 = .ok (.iload_n 0, 1) := by decide +kernel
theorem dX2_nextCell_1 : decode cX2_nextCell 1 = .ok (.bipush 6, 2) := by decide +kernel
theorem dX2_nextCell_3 : decode cX2_nextCell 3 = .ok (.idiv, 1) := by decide +kernel
theorem dX2_nextCell_4 : decode cX2_nextCell 4 = .ok (.iload_n 1, 1) := by decide +kernel
theorem dX2_nextCell_5 : decode cX2_nextCell 5 = .ok (.iconst 1, 1) := by decide +kernel
theorem dX2_nextCell_6 : decode cX2_nextCell 6 = .ok (.if_icmp .eq 8, 3) := by decide +kernel
theorem dX2_nextCell_9 : decode cX2_nextCell 9 = .ok (.iload_n 1, 1) := by decide +kernel
theorem dX2_nextCell_10 : decode cX2_nextCell 10 = .ok (.iconst 2, 1) := by decide +kernel
theorem dX2_nextCell_11 : decode cX2_nextCell 11 = .ok (.if_icmp .ne 7, 3) := by decide +kernel
theorem dX2_nextCell_14 : decode cX2_nextCell 14 = .ok (.iconst 1, 1) := by decide +kernel
theorem dX2_nextCell_15 : decode cX2_nextCell 15 = .ok (.goto 4, 3) := by decide +kernel
theorem dX2_nextCell_18 : decode cX2_nextCell 18 = .ok (.iconst (-1), 1) := by decide +kernel
theorem dX2_nextCell_19 : decode cX2_nextCell 19 = .ok (.iadd, 1) := by decide +kernel
theorem dX2_nextCell_20 : decode cX2_nextCell 20 = .ok (.istore_n 2, 1) := by decide +kernel
theorem dX2_nextCell_21 : decode cX2_nextCell 21 = .ok (.iload_n 0, 1) := by decide +kernel
theorem dX2_nextCell_22 : decode cX2_nextCell 22 = .ok (.bipush 6, 2) := by decide +kernel
theorem dX2_nextCell_24 : decode cX2_nextCell 24 = .ok (.irem, 1) := by decide +kernel
theorem dX2_nextCell_25 : decode cX2_nextCell 25 = .ok (.iload_n 1, 1) := by decide +kernel
theorem dX2_nextCell_26 : decode cX2_nextCell 26 = .ok (.iconst 2, 1) := by decide +kernel
theorem dX2_nextCell_27 : decode cX2_nextCell 27 = .ok (.if_icmp .ge 7, 3) := by decide +kernel
theorem dX2_nextCell_30 : decode cX2_nextCell 30 = .ok (.iconst 1, 1) := by decide +kernel
theorem dX2_nextCell_31 : decode cX2_nextCell 31 = .ok (.goto 4, 3) := by decide +kernel
theorem dX2_nextCell_34 : decode cX2_nextCell 34 = .ok (.iconst (-1), 1) := by decide +kernel
theorem dX2_nextCell_35 : decode cX2_nextCell 35 = .ok (.iadd, 1) := by decide +kernel
theorem dX2_nextCell_36 : decode cX2_nextCell 36 = .ok (.istore_n 3, 1) := by decide +kernel
theorem dX2_nextCell_37 : decode cX2_nextCell 37 = .ok (.iload_n 2, 1) := by decide +kernel
theorem dX2_nextCell_38 : decode cX2_nextCell 38 = .ok (.ifCond .lt 19, 3) := by decide +kernel
theorem dX2_nextCell_41 : decode cX2_nextCell 41 = .ok (.iload_n 2, 1) := by decide +kernel
theorem dX2_nextCell_42 : decode cX2_nextCell 42 = .ok (.bipush 6, 2) := by decide +kernel
theorem dX2_nextCell_44 : decode cX2_nextCell 44 = .ok (.if_icmp .ge 13, 3) := by decide +kernel
theorem dX2_nextCell_47 : decode cX2_nextCell 47 = .ok (.iload_n 3, 1) := by decide +kernel
theorem dX2_nextCell_48 : decode cX2_nextCell 48 = .ok (.ifCond .lt 9, 3) := by decide +kernel
theorem dX2_nextCell_51 : decode cX2_nextCell 51 = .ok (.iload_n 3, 1) := by decide +kernel
theorem dX2_nextCell_52 : decode cX2_nextCell 52 = .ok (.bipush 6, 2) := by decide +kernel
theorem dX2_nextCell_54 : decode cX2_nextCell 54 = .ok (.if_icmp .lt 5, 3) := by decide +kernel
theorem dX2_nextCell_57 : decode cX2_nextCell 57 = .ok (.iconst (-1), 1) := by decide +kernel
theorem dX2_nextCell_58 : decode cX2_nextCell 58 = .ok (.ireturn, 1) := by decide +kernel
theorem dX2_nextCell_59 : decode cX2_nextCell 59 = .ok (.bipush 6, 2) := by decide +kernel
theorem dX2_nextCell_61 : decode cX2_nextCell 61 = .ok (.iload_n 2, 1) := by decide +kernel
theorem dX2_nextCell_62 : decode cX2_nextCell 62 = .ok (.imul, 1) := by decide +kernel
theorem dX2_nextCell_63 : decode cX2_nextCell 63 = .ok (.iload_n 3, 1) := by decide +kernel
theorem dX2_nextCell_64 : decode cX2_nextCell 64 = .ok (.iadd, 1) := by decide +kernel
theorem dX2_nextCell_65 : decode cX2_nextCell 65 = .ok (.ireturn, 1) := by decide +kernel
theorem dX3_init_0 : decode cX3_init 0 = .ok (.aload_n 0, 1) := by decide +kernel
theorem dX3_init_1 : decode cX3_init 1 = .ok (.invokespecial 3, 3) := by decide +kernel
theorem dX3_init_4 : decode cX3_init 4 = .ok (.aload_n 0, 1) := by decide +kernel
theorem dX3_init_5 : decode cX3_init 5 = .ok (.bipush 8, 2) := by decide +kernel
theorem dX3_init_7 : decode cX3_init 7 = .ok (.anewarray 9, 3) := by decide +kernel
theorem dX3_init_10 : decode cX3_init 10 = .ok (.putfield 11, 3) := by decide +kernel
theorem dX3_init_13 : decode cX3_init 13 = .ok (.iconst 0, 1) := by decide +kernel
theorem dX3_init_14 : decode cX3_init 14 = .ok (.istore_n 1, 1) := by decide +kernel
theorem dX3_init_15 : decode cX3_init 15 = .ok (.iload_n 1, 1) := by decide +kernel
theorem dX3_init_16 : decode cX3_init 16 = .ok (.bipush 8, 2) := by decide +kernel
theorem dX3_init_18 : decode cX3_init 18 = .ok (.if_icmp .ge 22, 3) := by decide +kernel
theorem dX3_init_21 : decode cX3_init 21 = .ok (.aload_n 0, 1) := by decide +kernel
theorem dX3_init_22 : decode cX3_init 22 = .ok (.getfield 11, 3) := by decide +kernel
theorem dX3_init_25 : decode cX3_init 25 = .ok (.iload_n 1, 1) := by decide +kernel
theorem dX3_init_26 : decode cX3_init 26 = .ok (.new 9, 3) := by decide +kernel
theorem dX3_init_29 : decode cX3_init 29 = .ok (.dup, 1) := by decide +kernel
theorem dX3_init_30 : decode cX3_init 30 = .ok (.invokespecial 17, 3) := by decide +kernel
theorem dX3_init_33 : decode cX3_init 33 = .ok (.aastore, 1) := by decide +kernel
theorem dX3_init_34 : decode cX3_init 34 = .ok (.iinc 1 1, 3) := by decide +kernel
theorem dX3_init_37 : decode cX3_init 37 = .ok (.goto (-22), 3) := by decide +kernel
theorem dX3_init_40 : decode cX3_init 40 = .ok (.return_, 1) := by decide +kernel
theorem dX3_keep_0 : decode cX3_keep 0 = .ok (.aload_n 0, 1) := by decide +kernel
theorem dX3_keep_1 : decode cX3_keep 1 = .ok (.getfield 11, 3) := by decide +kernel
theorem dX3_keep_4 : decode cX3_keep 4 = .ok (.aload_n 0, 1) := by decide +kernel
theorem dX3_keep_5 : decode cX3_keep 5 = .ok (.getfield 18, 3) := by decide +kernel
theorem dX3_keep_8 : decode cX3_keep 8 = .ok (.aaload, 1) := by decide +kernel
theorem dX3_keep_9 : decode cX3_keep 9 = .ok (.aload_n 1, 1) := by decide +kernel
theorem dX3_keep_10 : decode cX3_keep 10 = .ok (.invokevirtual 22, 3) := by decide +kernel
theorem dX3_keep_13 : decode cX3_keep 13 = .ok (.aload_n 0, 1) := by decide +kernel
theorem dX3_keep_14 : decode cX3_keep 14 = .ok (.aload_n 0, 1) := by decide +kernel
theorem dX3_keep_15 : decode cX3_keep 15 = .ok (.getfield 18, 3) := by decide +kernel
theorem dX3_keep_18 : decode cX3_keep 18 = .ok (.iconst 1, 1) := by decide +kernel
theorem dX3_keep_19 : decode cX3_keep 19 = .ok (.iadd, 1) := by decide +kernel
theorem dX3_keep_20 : decode cX3_keep 20 = .ok (.bipush 8, 2) := by decide +kernel
theorem dX3_keep_22 : decode cX3_keep 22 = .ok (.irem, 1) := by decide +kernel
theorem dX3_keep_23 : decode cX3_keep 23 = .ok (.putfield 18, 3) := by decide +kernel
theorem dX3_keep_26 : decode cX3_keep 26 = .ok (.aload_n 0, 1) := by decide +kernel
theorem dX3_keep_27 : decode cX3_keep 27 = .ok (.aload_n 0, 1) := by decide +kernel
theorem dX3_keep_28 : decode cX3_keep 28 = .ok (.getfield 26, 3) := by decide +kernel
theorem dX3_keep_31 : decode cX3_keep 31 = .ok (.iconst 1, 1) := by decide +kernel
theorem dX3_keep_32 : decode cX3_keep 32 = .ok (.iadd, 1) := by decide +kernel
theorem dX3_keep_33 : decode cX3_keep 33 = .ok (.bipush 8, 2) := by decide +kernel
theorem dX3_keep_35 : decode cX3_keep 35 = .ok (.invokestatic 29, 3) := by decide +kernel
theorem dX3_keep_38 : decode cX3_keep 38 = .ok (.putfield 26, 3) := by decide +kernel
theorem dX3_keep_41 : decode cX3_keep 41 = .ok (.return_, 1) := by decide +kernel
theorem dX3_giveBack_0 : decode cX3_giveBack 0 = .ok (.aload_n 0, 1) := by decide +kernel
theorem dX3_giveBack_1 : decode cX3_giveBack 1 = .ok (.aload_n 0, 1) := by decide +kernel
theorem dX3_giveBack_2 : decode cX3_giveBack 2 = .ok (.getfield 18, 3) := by decide +kernel
theorem dX3_giveBack_5 : decode cX3_giveBack 5 = .ok (.bipush 8, 2) := by decide +kernel
theorem dX3_giveBack_7 : decode cX3_giveBack 7 = .ok (.iadd, 1) := by decide +kernel
theorem dX3_giveBack_8 : decode cX3_giveBack 8 = .ok (.iconst 1, 1) := by decide +kernel
theorem dX3_giveBack_9 : decode cX3_giveBack 9 = .ok (.isub, 1) := by decide +kernel
theorem dX3_giveBack_10 : decode cX3_giveBack 10 = .ok (.bipush 8, 2) := by decide +kernel
theorem dX3_giveBack_12 : decode cX3_giveBack 12 = .ok (.irem, 1) := by decide +kernel
theorem dX3_giveBack_13 : decode cX3_giveBack 13 = .ok (.putfield 18, 3) := by decide +kernel
theorem dX3_giveBack_16 : decode cX3_giveBack 16 = .ok (.aload_n 0, 1) := by decide +kernel
theorem dX3_giveBack_17 : decode cX3_giveBack 17 = .ok (.dup, 1) := by decide +kernel
theorem dX3_giveBack_18 : decode cX3_giveBack 18 = .ok (.getfield 26, 3) := by decide +kernel
theorem dX3_giveBack_21 : decode cX3_giveBack 21 = .ok (.iconst 1, 1) := by decide +kernel
theorem dX3_giveBack_22 : decode cX3_giveBack 22 = .ok (.isub, 1) := by decide +kernel
theorem dX3_giveBack_23 : decode cX3_giveBack 23 = .ok (.putfield 26, 3) := by decide +kernel
theorem dX3_giveBack_26 : decode cX3_giveBack 26 = .ok (.aload_n 1, 1) := by decide +kernel
theorem dX3_giveBack_27 : decode cX3_giveBack 27 = .ok (.aload_n 0, 1) := by decide +kernel
theorem dX3_giveBack_28 : decode cX3_giveBack 28 = .ok (.getfield 11, 3) := by decide +kernel
theorem dX3_giveBack_31 : decode cX3_giveBack 31 = .ok (.aload_n 0, 1) := by decide +kernel
theorem dX3_giveBack_32 : decode cX3_giveBack 32 = .ok (.getfield 18, 3) := by decide +kernel
theorem dX3_giveBack_35 : decode cX3_giveBack 35 = .ok (.aaload, 1) := by decide +kernel
theorem dX3_giveBack_36 : decode cX3_giveBack 36 = .ok (.invokevirtual 22, 3) := by decide +kernel
theorem dX3_giveBack_39 : decode cX3_giveBack 39 = .ok (.return_, 1) := by decide +kernel
theorem dX3_forget_0 : decode cX3_forget 0 = .ok (.aload_n 0, 1) := by decide +kernel
theorem dX3_forget_1 : decode cX3_forget 1 = .ok (.iconst 0, 1) := by decide +kernel
theorem dX3_forget_2 : decode cX3_forget 2 = .ok (.putfield 26, 3) := by decide +kernel
theorem dX3_forget_5 : decode cX3_forget 5 = .ok (.return_, 1) := by decide +kernel
theorem dX4_init_0 : decode cX4_init 0 = .ok (.aload_n 0, 1) := by decide +kernel
theorem dX4_init_1 : decode cX4_init 1 = .ok (.invokespecial 3, 3) := by decide +kernel
theorem dX4_init_4 : decode cX4_init 4 = .ok (.aload_n 0, 1) := by decide +kernel
theorem dX4_init_5 : decode cX4_init 5 = .ok (.iconst 3, 1) := by decide +kernel
theorem dX4_init_6 : decode cX4_init 6 = .ok (.newarray .int, 2) := by decide +kernel
theorem dX4_init_8 : decode cX4_init 8 = .ok (.putfield 9, 3) := by decide +kernel
theorem dX4_init_11 : decode cX4_init 11 = .ok (.aload_n 0, 1) := by decide +kernel
theorem dX4_init_12 : decode cX4_init 12 = .ok (.iconst 3, 1) := by decide +kernel
theorem dX4_init_13 : decode cX4_init 13 = .ok (.newarray .int, 2) := by decide +kernel
theorem dX4_init_15 : decode cX4_init 15 = .ok (.putfield 15, 3) := by decide +kernel
theorem dX4_init_18 : decode cX4_init 18 = .ok (.aload_n 0, 1) := by decide +kernel
theorem dX4_init_19 : decode cX4_init 19 = .ok (.iconst 3, 1) := by decide +kernel
theorem dX4_init_20 : decode cX4_init 20 = .ok (.bipush 12, 2) := by decide +kernel
theorem dX4_init_22 : decode cX4_init 22 = .ok (.multianewarray 18 2, 4) := by decide +kernel
theorem dX4_init_26 : decode cX4_init 26 = .ok (.putfield 20, 3) := by decide +kernel
theorem dX4_init_29 : decode cX4_init 29 = .ok (.aload_n 0, 1) := by decide +kernel
theorem dX4_init_30 : decode cX4_init 30 = .ok (.bipush 12, 2) := by decide +kernel
theorem dX4_init_32 : decode cX4_init 32 = .ok (.newarray .int, 2) := by decide +kernel
theorem dX4_init_34 : decode cX4_init 34 = .ok (.putfield 23, 3) := by decide +kernel
theorem dX4_init_37 : decode cX4_init 37 = .ok (.iconst 0, 1) := by decide +kernel
theorem dX4_init_38 : decode cX4_init 38 = .ok (.istore_n 1, 1) := by decide +kernel
theorem dX4_init_39 : decode cX4_init 39 = .ok (.iload_n 1, 1) := by decide +kernel
theorem dX4_init_40 : decode cX4_init 40 = .ok (.iconst 3, 1) := by decide +kernel
theorem dX4_init_41 : decode cX4_init 41 = .ok (.if_icmp .ge 16, 3) := by decide +kernel
theorem dX4_init_44 : decode cX4_init 44 = .ok (.aload_n 0, 1) := by decide +kernel
theorem dX4_init_45 : decode cX4_init 45 = .ok (.getfield 15, 3) := by decide +kernel
theorem dX4_init_48 : decode cX4_init 48 = .ok (.iload_n 1, 1) := by decide +kernel
theorem dX4_init_49 : decode cX4_init 49 = .ok (.iconst (-1), 1) := by decide +kernel
theorem dX4_init_50 : decode cX4_init 50 = .ok (.iastore, 1) := by decide +kernel
theorem dX4_init_51 : decode cX4_init 51 = .ok (.iinc 1 1, 3) := by decide +kernel
theorem dX4_init_54 : decode cX4_init 54 = .ok (.goto (-15), 3) := by decide +kernel
theorem dX4_init_57 : decode cX4_init 57 = .ok (.return_, 1) := by decide +kernel
theorem dX4_holdRow_0 : decode cX4_holdRow 0 = .ok (.aload_n 0, 1) := by decide +kernel
theorem dX4_holdRow_1 : decode cX4_holdRow 1 = .ok (.getfield 9, 3) := by decide +kernel
theorem dX4_holdRow_4 : decode cX4_holdRow 4 = .ok (.iload_n 1, 1) := by decide +kernel
theorem dX4_holdRow_5 : decode cX4_holdRow 5 = .ok (.iload_n 2, 1) := by decide +kernel
theorem dX4_holdRow_6 : decode cX4_holdRow 6 = .ok (.iastore, 1) := by decide +kernel
theorem dX4_holdRow_7 : decode cX4_holdRow 7 = .ok (.aload_n 0, 1) := by decide +kernel
theorem dX4_holdRow_8 : decode cX4_holdRow 8 = .ok (.getfield 15, 3) := by decide +kernel
theorem dX4_holdRow_11 : decode cX4_holdRow 11 = .ok (.iload_n 1, 1) := by decide +kernel
theorem dX4_holdRow_12 : decode cX4_holdRow 12 = .ok (.iload_n 3, 1) := by decide +kernel
theorem dX4_holdRow_13 : decode cX4_holdRow 13 = .ok (.iastore, 1) := by decide +kernel
theorem dX4_holdRow_14 : decode cX4_holdRow 14 = .ok (.iconst 0, 1) := by decide +kernel
theorem dX4_holdRow_15 : decode cX4_holdRow 15 = .ok (.istore 4, 2) := by decide +kernel
theorem dX4_holdRow_17 : decode cX4_holdRow 17 = .ok (.iload 4, 2) := by decide +kernel
theorem dX4_holdRow_19 : decode cX4_holdRow 19 = .ok (.bipush 12, 2) := by decide +kernel
theorem dX4_holdRow_21 : decode cX4_holdRow 21 = .ok (.if_icmp .ge 19, 3) := by decide +kernel
theorem dX4_holdRow_24 : decode cX4_holdRow 24 = .ok (.aload_n 0, 1) := by decide +kernel
theorem dX4_holdRow_25 : decode cX4_holdRow 25 = .ok (.getfield 20, 3) := by decide +kernel
theorem dX4_holdRow_28 : decode cX4_holdRow 28 = .ok (.iload_n 1, 1) := by decide +kernel
theorem dX4_holdRow_29 : decode cX4_holdRow 29 = .ok (.aaload, 1) := by decide +kernel
theorem dX4_holdRow_30 : decode cX4_holdRow 30 = .ok (.iload 4, 2) := by decide +kernel
theorem dX4_holdRow_32 : decode cX4_holdRow 32 = .ok (.iconst 0, 1) := by decide +kernel
theorem dX4_holdRow_33 : decode cX4_holdRow 33 = .ok (.iastore, 1) := by decide +kernel
theorem dX4_holdRow_34 : decode cX4_holdRow 34 = .ok (.iinc 4 1, 3) := by decide +kernel
theorem dX4_holdRow_37 : decode cX4_holdRow 37 = .ok (.goto (-20), 3) := by decide +kernel
theorem dX4_holdRow_40 : decode cX4_holdRow 40 = .ok (.return_, 1) := by decide +kernel
theorem dX4_holdsRow_0 : decode cX4_holdsRow 0 = .ok (.aload_n 0, 1) := by decide +kernel
theorem dX4_holdsRow_1 : decode cX4_holdsRow 1 = .ok (.getfield 15, 3) := by decide +kernel
theorem dX4_holdsRow_4 : decode cX4_holdsRow 4 = .ok (.iload_n 1, 1) := by decide +kernel
theorem dX4_holdsRow_5 : decode cX4_holdsRow 5 = .ok (.iaload, 1) := by decide +kernel
theorem dX4_holdsRow_6 : decode cX4_holdsRow 6 = .ok (.ifCond .lt 7, 3) := by decide +kernel
theorem dX4_holdsRow_9 : decode cX4_holdsRow 9 = .ok (.iconst 1, 1) := by decide +kernel
theorem dX4_holdsRow_10 : decode cX4_holdsRow 10 = .ok (.goto 4, 3) := by decide +kernel
theorem dX4_holdsRow_13 : decode cX4_holdsRow 13 = .ok (.iconst 0, 1) := by decide +kernel
theorem dX4_holdsRow_14 : decode cX4_holdsRow 14 = .ok (.ireturn, 1) := by decide +kernel
theorem dX4_hasPlaces_0 : decode cX4_hasPlaces 0 = .ok (.iload_n 2, 1) := by decide +kernel
theorem dX4_hasPlaces_1 : decode cX4_hasPlaces 1 = .ok (.ifCond .lt 33, 3) := by decide +kernel
theorem dX4_hasPlaces_4 : decode cX4_hasPlaces 4 = .ok (.iload_n 3, 1) := by decide +kernel
theorem dX4_hasPlaces_5 : decode cX4_hasPlaces 5 = .ok (.ifCond .lt 29, 3) := by decide +kernel
theorem dX4_hasPlaces_8 : decode cX4_hasPlaces 8 = .ok (.iload_n 3, 1) := by decide +kernel
theorem dX4_hasPlaces_9 : decode cX4_hasPlaces 9 = .ok (.aload_n 0, 1) := by decide +kernel
theorem dX4_hasPlaces_10 : decode cX4_hasPlaces 10 = .ok (.getfield 15, 3) := by decide +kernel
theorem dX4_hasPlaces_13 : decode cX4_hasPlaces 13 = .ok (.iload_n 1, 1) := by decide +kernel
theorem dX4_hasPlaces_14 : decode cX4_hasPlaces 14 = .ok (.iaload, 1) := by decide +kernel
theorem dX4_hasPlaces_15 : decode cX4_hasPlaces 15 = .ok (.if_icmp .gt 19, 3) := by decide +kernel
theorem dX4_hasPlaces_18 : decode cX4_hasPlaces 18 = .ok (.iload_n 2, 1) := by decide +kernel
theorem dX4_hasPlaces_19 : decode cX4_hasPlaces 19 = .ok (.aload_n 0, 1) := by decide +kernel
theorem dX4_hasPlaces_20 : decode cX4_hasPlaces 20 = .ok (.getfield 15, 3) := by decide +kernel
theorem dX4_hasPlaces_23 : decode cX4_hasPlaces 23 = .ok (.iload_n 1, 1) := by decide +kernel
theorem dX4_hasPlaces_24 : decode cX4_hasPlaces 24 = .ok (.iaload, 1) := by decide +kernel
theorem dX4_hasPlaces_25 : decode cX4_hasPlaces 25 = .ok (.iload_n 3, 1) := by decide +kernel
theorem dX4_hasPlaces_26 : decode cX4_hasPlaces 26 = .ok (.isub, 1) := by decide +kernel
theorem dX4_hasPlaces_27 : decode cX4_hasPlaces 27 = .ok (.if_icmp .gt 7, 3) := by decide +kernel
theorem dX4_hasPlaces_30 : decode cX4_hasPlaces 30 = .ok (.iconst 1, 1) := by decide +kernel
theorem dX4_hasPlaces_31 : decode cX4_hasPlaces 31 = .ok (.goto 4, 3) := by decide +kernel
theorem dX4_hasPlaces_34 : decode cX4_hasPlaces 34 = .ok (.iconst 0, 1) := by decide +kernel
theorem dX4_hasPlaces_35 : decode cX4_hasPlaces 35 = .ok (.ireturn, 1) := by decide +kernel
theorem dX4_placeFault_0 : decode cX4_placeFault 0 = .ok (.aload_n 0, 1) := by decide +kernel
theorem dX4_placeFault_1 : decode cX4_placeFault 1 = .ok (.iload_n 1, 1) := by decide +kernel
theorem dX4_placeFault_2 : decode cX4_placeFault 2 = .ok (.invokevirtual 26, 3) := by decide +kernel
theorem dX4_placeFault_5 : decode cX4_placeFault 5 = .ok (.ifCond .ne 6, 3) := by decide +kernel
theorem dX4_placeFault_8 : decode cX4_placeFault 8 = .ok (.bipush (-11), 2) := by decide +kernel
theorem dX4_placeFault_10 : decode cX4_placeFault 10 = .ok (.ireturn, 1) := by decide +kernel
theorem dX4_placeFault_11 : decode cX4_placeFault 11 = .ok (.aload_n 0, 1) := by decide +kernel
theorem dX4_placeFault_12 : decode cX4_placeFault 12 = .ok (.iload_n 1, 1) := by decide +kernel
theorem dX4_placeFault_13 : decode cX4_placeFault 13 = .ok (.iload_n 2, 1) := by decide +kernel
theorem dX4_placeFault_14 : decode cX4_placeFault 14 = .ok (.iconst 1, 1) := by decide +kernel
theorem dX4_placeFault_15 : decode cX4_placeFault 15 = .ok (.invokevirtual 30, 3) := by decide +kernel
theorem dX4_placeFault_18 : decode cX4_placeFault 18 = .ok (.ifCond .eq 7, 3) := by decide +kernel
theorem dX4_placeFault_21 : decode cX4_placeFault 21 = .ok (.iconst 0, 1) := by decide +kernel
theorem dX4_placeFault_22 : decode cX4_placeFault 22 = .ok (.goto 5, 3) := by decide +kernel
theorem dX4_placeFault_25 : decode cX4_placeFault 25 = .ok (.bipush (-13), 2) := by decide +kernel
theorem dX4_placeFault_27 : decode cX4_placeFault 27 = .ok (.ireturn, 1) := by decide +kernel
theorem dX4_coatFault_0 : decode cX4_coatFault 0 = .ok (.aload_n 0, 1) := by decide +kernel
theorem dX4_coatFault_1 : decode cX4_coatFault 1 = .ok (.iload_n 1, 1) := by decide +kernel
theorem dX4_coatFault_2 : decode cX4_coatFault 2 = .ok (.iload_n 2, 1) := by decide +kernel
theorem dX4_coatFault_3 : decode cX4_coatFault 3 = .ok (.invokevirtual 34, 3) := by decide +kernel
theorem dX4_coatFault_6 : decode cX4_coatFault 6 = .ok (.istore_n 3, 1) := by decide +kernel
theorem dX4_coatFault_7 : decode cX4_coatFault 7 = .ok (.iload_n 3, 1) := by decide +kernel
theorem dX4_coatFault_8 : decode cX4_coatFault 8 = .ok (.ifCond .eq 5, 3) := by decide +kernel
theorem dX4_coatFault_11 : decode cX4_coatFault 11 = .ok (.iload_n 3, 1) := by decide +kernel
theorem dX4_coatFault_12 : decode cX4_coatFault 12 = .ok (.ireturn, 1) := by decide +kernel
theorem dX4_coatFault_13 : decode cX4_coatFault 13 = .ok (.aload_n 0, 1) := by decide +kernel
theorem dX4_coatFault_14 : decode cX4_coatFault 14 = .ok (.getfield 20, 3) := by decide +kernel
theorem dX4_coatFault_17 : decode cX4_coatFault 17 = .ok (.iload_n 1, 1) := by decide +kernel
theorem dX4_coatFault_18 : decode cX4_coatFault 18 = .ok (.aaload, 1) := by decide +kernel
theorem dX4_coatFault_19 : decode cX4_coatFault 19 = .ok (.iload_n 2, 1) := by decide +kernel
theorem dX4_coatFault_20 : decode cX4_coatFault 20 = .ok (.iaload, 1) := by decide +kernel
theorem dX4_coatFault_21 : decode cX4_coatFault 21 = .ok (.ifCond .ne 8, 3) := by decide +kernel
theorem dX4_coatFault_24 : decode cX4_coatFault 24 = .ok (.bipush (-15), 2) := by decide +kernel
theorem dX4_coatFault_26 : decode cX4_coatFault 26 = .ok (.goto 4, 3) := by decide +kernel
theorem dX4_coatFault_29 : decode cX4_coatFault 29 = .ok (.iconst 0, 1) := by decide +kernel
theorem dX4_coatFault_30 : decode cX4_coatFault 30 = .ok (.ireturn, 1) := by decide +kernel
theorem dX4_put_0 : decode cX4_put 0 = .ok (.iload_n 3, 1) := by decide +kernel
theorem dX4_put_1 : decode cX4_put 1 = .ok (.ifCond .eq 27, 3) := by decide +kernel
theorem dX4_put_4 : decode cX4_put 4 = .ok (.aload_n 0, 1) := by decide +kernel
theorem dX4_put_5 : decode cX4_put 5 = .ok (.getfield 9, 3) := by decide +kernel
theorem dX4_put_8 : decode cX4_put 8 = .ok (.iload_n 1, 1) := by decide +kernel
theorem dX4_put_9 : decode cX4_put 9 = .ok (.iaload, 1) := by decide +kernel
theorem dX4_put_10 : decode cX4_put 10 = .ok (.ifCond .eq 18, 3) := by decide +kernel
theorem dX4_put_13 : decode cX4_put 13 = .ok (.aload_n 0, 1) := by decide +kernel
theorem dX4_put_14 : decode cX4_put 14 = .ok (.getfield 9, 3) := by decide +kernel
theorem dX4_put_17 : decode cX4_put 17 = .ok (.iload_n 1, 1) := by decide +kernel
theorem dX4_put_18 : decode cX4_put 18 = .ok (.iaload, 1) := by decide +kernel
theorem dX4_put_19 : decode cX4_put 19 = .ok (.iload_n 3, 1) := by decide +kernel
theorem dX4_put_20 : decode cX4_put 20 = .ok (.bipush 10, 2) := by decide +kernel
theorem dX4_put_22 : decode cX4_put 22 = .ok (.idiv, 1) := by decide +kernel
theorem dX4_put_23 : decode cX4_put 23 = .ok (.if_icmp .eq 5, 3) := by decide +kernel
theorem dX4_put_26 : decode cX4_put 26 = .ok (.iconst 0, 1) := by decide +kernel
theorem dX4_put_27 : decode cX4_put 27 = .ok (.ireturn, 1) := by decide +kernel
theorem dX4_put_28 : decode cX4_put 28 = .ok (.aload_n 0, 1) := by decide +kernel
theorem dX4_put_29 : decode cX4_put 29 = .ok (.getfield 20, 3) := by decide +kernel
theorem dX4_put_32 : decode cX4_put 32 = .ok (.iload_n 1, 1) := by decide +kernel
theorem dX4_put_33 : decode cX4_put 33 = .ok (.aaload, 1) := by decide +kernel
theorem dX4_put_34 : decode cX4_put 34 = .ok (.iload_n 2, 1) := by decide +kernel
theorem dX4_put_35 : decode cX4_put 35 = .ok (.iload_n 3, 1) := by decide +kernel
theorem dX4_put_36 : decode cX4_put 36 = .ok (.iastore, 1) := by decide +kernel
theorem dX4_put_37 : decode cX4_put 37 = .ok (.iconst 1, 1) := by decide +kernel
theorem dX4_put_38 : decode cX4_put 38 = .ok (.ireturn, 1) := by decide +kernel
theorem dX4_carry_0 : decode cX4_carry 0 = .ok (.iconst 0, 1) := by decide +kernel
theorem dX4_carry_1 : decode cX4_carry 1 = .ok (.istore 6, 2) := by decide +kernel
theorem dX4_carry_3 : decode cX4_carry 3 = .ok (.iload 6, 2) := by decide +kernel
theorem dX4_carry_5 : decode cX4_carry 5 = .ok (.iload 5, 2) := by decide +kernel
theorem dX4_carry_7 : decode cX4_carry 7 = .ok (.if_icmp .ge 27, 3) := by decide +kernel
theorem dX4_carry_10 : decode cX4_carry 10 = .ok (.aload_n 0, 1) := by decide +kernel
theorem dX4_carry_11 : decode cX4_carry 11 = .ok (.getfield 23, 3) := by decide +kernel
theorem dX4_carry_14 : decode cX4_carry 14 = .ok (.iload 6, 2) := by decide +kernel
theorem dX4_carry_16 : decode cX4_carry 16 = .ok (.aload_n 0, 1) := by decide +kernel
theorem dX4_carry_17 : decode cX4_carry 17 = .ok (.getfield 20, 3) := by decide +kernel
theorem dX4_carry_20 : decode cX4_carry 20 = .ok (.iload_n 1, 1) := by decide +kernel
theorem dX4_carry_21 : decode cX4_carry 21 = .ok (.aaload, 1) := by decide +kernel
theorem dX4_carry_22 : decode cX4_carry 22 = .ok (.iload_n 2, 1) := by decide +kernel
theorem dX4_carry_23 : decode cX4_carry 23 = .ok (.iload 6, 2) := by decide +kernel
theorem dX4_carry_25 : decode cX4_carry 25 = .ok (.iadd, 1) := by decide +kernel
theorem dX4_carry_26 : decode cX4_carry 26 = .ok (.iaload, 1) := by decide +kernel
theorem dX4_carry_27 : decode cX4_carry 27 = .ok (.iastore, 1) := by decide +kernel
theorem dX4_carry_28 : decode cX4_carry 28 = .ok (.iinc 6 1, 3) := by decide +kernel
theorem dX4_carry_31 : decode cX4_carry 31 = .ok (.goto (-28), 3) := by decide +kernel
theorem dX4_carry_34 : decode cX4_carry 34 = .ok (.iconst 0, 1) := by decide +kernel
theorem dX4_carry_35 : decode cX4_carry 35 = .ok (.istore 6, 2) := by decide +kernel
theorem dX4_carry_37 : decode cX4_carry 37 = .ok (.iload 6, 2) := by decide +kernel
theorem dX4_carry_39 : decode cX4_carry 39 = .ok (.iload 5, 2) := by decide +kernel
theorem dX4_carry_41 : decode cX4_carry 41 = .ok (.if_icmp .ge 31, 3) := by decide +kernel
theorem dX4_carry_44 : decode cX4_carry 44 = .ok (.aload_n 0, 1) := by decide +kernel
theorem dX4_carry_45 : decode cX4_carry 45 = .ok (.iload_n 3, 1) := by decide +kernel
theorem dX4_carry_46 : decode cX4_carry 46 = .ok (.iload 4, 2) := by decide +kernel
theorem dX4_carry_48 : decode cX4_carry 48 = .ok (.iload 6, 2) := by decide +kernel
theorem dX4_carry_50 : decode cX4_carry 50 = .ok (.iadd, 1) := by decide +kernel
theorem dX4_carry_51 : decode cX4_carry 51 = .ok (.aload_n 0, 1) := by decide +kernel
theorem dX4_carry_52 : decode cX4_carry 52 = .ok (.getfield 23, 3) := by decide +kernel
theorem dX4_carry_55 : decode cX4_carry 55 = .ok (.iload 6, 2) := by decide +kernel
theorem dX4_carry_57 : decode cX4_carry 57 = .ok (.iaload, 1) := by decide +kernel
theorem dX4_carry_58 : decode cX4_carry 58 = .ok (.invokevirtual 38, 3) := by decide +kernel
theorem dX4_carry_61 : decode cX4_carry 61 = .ok (.ifCond .ne 5, 3) := by decide +kernel
theorem dX4_carry_64 : decode cX4_carry 64 = .ok (.iconst 0, 1) := by decide +kernel
theorem dX4_carry_65 : decode cX4_carry 65 = .ok (.ireturn, 1) := by decide +kernel
theorem dX4_carry_66 : decode cX4_carry 66 = .ok (.iinc 6 1, 3) := by decide +kernel
theorem dX4_carry_69 : decode cX4_carry 69 = .ok (.goto (-32), 3) := by decide +kernel
theorem dX4_carry_72 : decode cX4_carry 72 = .ok (.iconst 1, 1) := by decide +kernel
theorem dX4_carry_73 : decode cX4_carry 73 = .ok (.ireturn, 1) := by decide +kernel
theorem dX5_init_0 : decode cX5_init 0 = .ok (.aload_n 0, 1) := by decide +kernel
theorem dX5_init_1 : decode cX5_init 1 = .ok (.invokespecial 3, 3) := by decide +kernel
theorem dX5_init_4 : decode cX5_init 4 = .ok (.aload_n 0, 1) := by decide +kernel
theorem dX5_init_5 : decode cX5_init 5 = .ok (.bipush 96, 2) := by decide +kernel
theorem dX5_init_7 : decode cX5_init 7 = .ok (.newarray .int, 2) := by decide +kernel
theorem dX5_init_9 : decode cX5_init 9 = .ok (.putfield 9, 3) := by decide +kernel
theorem dX5_init_12 : decode cX5_init 12 = .ok (.return_, 1) := by decide +kernel
theorem dX5_faultAt_0 : decode cX5_faultAt 0 = .ok (.iconst (-1), 1) := by decide +kernel
theorem dX5_faultAt_1 : decode cX5_faultAt 1 = .ok (.iload_n 0, 1) := by decide +kernel
theorem dX5_faultAt_2 : decode cX5_faultAt 2 = .ok (.isub, 1) := by decide +kernel
theorem dX5_faultAt_3 : decode cX5_faultAt 3 = .ok (.ireturn, 1) := by decide +kernel
theorem dX5_placeOf_0 : decode cX5_placeOf 0 = .ok (.iconst (-1), 1) := by decide +kernel
theorem dX5_placeOf_1 : decode cX5_placeOf 1 = .ok (.iload_n 0, 1) := by decide +kernel
theorem dX5_placeOf_2 : decode cX5_placeOf 2 = .ok (.isub, 1) := by decide +kernel
theorem dX5_placeOf_3 : decode cX5_placeOf 3 = .ok (.ireturn, 1) := by decide +kernel
theorem dX5_statements_0 : decode cX5_statements 0 = .ok (.aload_n 0, 1) := by decide +kernel
theorem dX5_statements_1 : decode cX5_statements 1 = .ok (.getfield 15, 3) := by decide +kernel
theorem dX5_statements_4 : decode cX5_statements 4 = .ok (.ifCond .ne 8, 3) := by decide +kernel
theorem dX5_statements_7 : decode cX5_statements 7 = .ok (.iconst 0, 1) := by decide +kernel
theorem dX5_statements_8 : decode cX5_statements 8 = .ok (.invokestatic 19, 3) := by decide +kernel
theorem dX5_statements_11 : decode cX5_statements 11 = .ok (.ireturn, 1) := by decide +kernel
theorem dX5_statements_12 : decode cX5_statements 12 = .ok (.iconst 0, 1) := by decide +kernel
theorem dX5_statements_13 : decode cX5_statements 13 = .ok (.istore_n 1, 1) := by decide +kernel
theorem dX5_statements_14 : decode cX5_statements 14 = .ok (.iconst 0, 1) := by decide +kernel
theorem dX5_statements_15 : decode cX5_statements 15 = .ok (.istore_n 2, 1) := by decide +kernel
theorem dX5_statements_16 : decode cX5_statements 16 = .ok (.iload_n 2, 1) := by decide +kernel
theorem dX5_statements_17 : decode cX5_statements 17 = .ok (.bipush 96, 2) := by decide +kernel
theorem dX5_statements_19 : decode cX5_statements 19 = .ok (.if_icmp .ge 33, 3) := by decide +kernel
theorem dX5_statements_22 : decode cX5_statements 22 = .ok (.iload_n 1, 1) := by decide +kernel
theorem dX5_statements_23 : decode cX5_statements 23 = .ok (.aload_n 0, 1) := by decide +kernel
theorem dX5_statements_24 : decode cX5_statements 24 = .ok (.getfield 15, 3) := by decide +kernel
theorem dX5_statements_27 : decode cX5_statements 27 = .ok (.if_icmp .lt 5, 3) := by decide +kernel
theorem dX5_statements_30 : decode cX5_statements 30 = .ok (.iload_n 2, 1) := by decide +kernel
theorem dX5_statements_31 : decode cX5_statements 31 = .ok (.ireturn, 1) := by decide +kernel
theorem dX5_statements_32 : decode cX5_statements 32 = .ok (.aload_n 0, 1) := by decide +kernel
theorem dX5_statements_33 : decode cX5_statements 33 = .ok (.iload_n 1, 1) := by decide +kernel
theorem dX5_statements_34 : decode cX5_statements 34 = .ok (.invokevirtual 23, 3) := by decide +kernel
theorem dX5_statements_37 : decode cX5_statements 37 = .ok (.istore_n 3, 1) := by decide +kernel
theorem dX5_statements_38 : decode cX5_statements 38 = .ok (.iload_n 3, 1) := by decide +kernel
theorem dX5_statements_39 : decode cX5_statements 39 = .ok (.ifCond .ge 5, 3) := by decide +kernel
theorem dX5_statements_42 : decode cX5_statements 42 = .ok (.iload_n 3, 1) := by decide +kernel
theorem dX5_statements_43 : decode cX5_statements 43 = .ok (.ireturn, 1) := by decide +kernel
theorem dX5_statements_44 : decode cX5_statements 44 = .ok (.iload_n 3, 1) := by decide +kernel
theorem dX5_statements_45 : decode cX5_statements 45 = .ok (.istore_n 1, 1) := by decide +kernel
theorem dX5_statements_46 : decode cX5_statements 46 = .ok (.iinc 2 1, 3) := by decide +kernel
theorem dX5_statements_49 : decode cX5_statements 49 = .ok (.goto (-33), 3) := by decide +kernel
theorem dX5_statements_52 : decode cX5_statements 52 = .ok (.iload_n 1, 1) := by decide +kernel
theorem dX5_statements_53 : decode cX5_statements 53 = .ok (.invokestatic 19, 3) := by decide +kernel
theorem dX5_statements_56 : decode cX5_statements 56 = .ok (.ireturn, 1) := by decide +kernel
theorem dX5_statementEnd_0 : decode cX5_statementEnd 0 = .ok (.aload_n 0, 1) := by decide +kernel
theorem dX5_statementEnd_1 : decode cX5_statementEnd 1 = .ok (.iload_n 1, 1) := by decide +kernel
theorem dX5_statementEnd_2 : decode cX5_statementEnd 2 = .ok (.invokevirtual 26, 3) := by decide +kernel
theorem dX5_statementEnd_5 : decode cX5_statementEnd 5 = .ok (.lookupswitch 130 #[(97, 59), (100, 83), (108, 119), (112, 71), (116, 107), (119, 95)], 59) := by decide +kernel
theorem dX5_statementEnd_64 : decode cX5_statementEnd 64 = .ok (.aload_n 0, 1) := by decide +kernel
theorem dX5_statementEnd_65 : decode cX5_statementEnd 65 = .ok (.iload_n 1, 1) := by decide +kernel
theorem dX5_statementEnd_66 : decode cX5_statementEnd 66 = .ok (.iconst 1, 1) := by decide +kernel
theorem dX5_statementEnd_67 : decode cX5_statementEnd 67 = .ok (.iadd, 1) := by decide +kernel
theorem dX5_statementEnd_68 : decode cX5_statementEnd 68 = .ok (.iconst 5, 1) := by decide +kernel
theorem dX5_statementEnd_69 : decode cX5_statementEnd 69 = .ok (.invokevirtual 29, 3) := by decide +kernel
theorem dX5_statementEnd_72 : decode cX5_statementEnd 72 = .ok (.istore_n 2, 1) := by decide +kernel
theorem dX5_statementEnd_73 : decode cX5_statementEnd 73 = .ok (.goto 67, 3) := by decide +kernel
theorem dX5_statementEnd_76 : decode cX5_statementEnd 76 = .ok (.aload_n 0, 1) := by decide +kernel
theorem dX5_statementEnd_77 : decode cX5_statementEnd 77 = .ok (.iload_n 1, 1) := by decide +kernel
theorem dX5_statementEnd_78 : decode cX5_statementEnd 78 = .ok (.iconst 1, 1) := by decide +kernel
theorem dX5_statementEnd_79 : decode cX5_statementEnd 79 = .ok (.iadd, 1) := by decide +kernel
theorem dX5_statementEnd_80 : decode cX5_statementEnd 80 = .ok (.iconst 3, 1) := by decide +kernel
theorem dX5_statementEnd_81 : decode cX5_statementEnd 81 = .ok (.invokevirtual 29, 3) := by decide +kernel
theorem dX5_statementEnd_84 : decode cX5_statementEnd 84 = .ok (.istore_n 2, 1) := by decide +kernel
theorem dX5_statementEnd_85 : decode cX5_statementEnd 85 = .ok (.goto 55, 3) := by decide +kernel
theorem dX5_statementEnd_88 : decode cX5_statementEnd 88 = .ok (.aload_n 0, 1) := by decide +kernel
theorem dX5_statementEnd_89 : decode cX5_statementEnd 89 = .ok (.iload_n 1, 1) := by decide +kernel
theorem dX5_statementEnd_90 : decode cX5_statementEnd 90 = .ok (.iconst 1, 1) := by decide +kernel
theorem dX5_statementEnd_91 : decode cX5_statementEnd 91 = .ok (.iadd, 1) := by decide +kernel
theorem dX5_statementEnd_92 : decode cX5_statementEnd 92 = .ok (.iconst 2, 1) := by decide +kernel
theorem dX5_statementEnd_93 : decode cX5_statementEnd 93 = .ok (.invokevirtual 29, 3) := by decide +kernel
theorem dX5_statementEnd_96 : decode cX5_statementEnd 96 = .ok (.istore_n 2, 1) := by decide +kernel
theorem dX5_statementEnd_97 : decode cX5_statementEnd 97 = .ok (.goto 43, 3) := by decide +kernel
theorem dX5_statementEnd_100 : decode cX5_statementEnd 100 = .ok (.aload_n 0, 1) := by decide +kernel
theorem dX5_statementEnd_101 : decode cX5_statementEnd 101 = .ok (.iload_n 1, 1) := by decide +kernel
theorem dX5_statementEnd_102 : decode cX5_statementEnd 102 = .ok (.iconst 1, 1) := by decide +kernel
theorem dX5_statementEnd_103 : decode cX5_statementEnd 103 = .ok (.iadd, 1) := by decide +kernel
theorem dX5_statementEnd_104 : decode cX5_statementEnd 104 = .ok (.iconst 4, 1) := by decide +kernel
theorem dX5_statementEnd_105 : decode cX5_statementEnd 105 = .ok (.invokevirtual 29, 3) := by decide +kernel
theorem dX5_statementEnd_108 : decode cX5_statementEnd 108 = .ok (.istore_n 2, 1) := by decide +kernel
theorem dX5_statementEnd_109 : decode cX5_statementEnd 109 = .ok (.goto 31, 3) := by decide +kernel
theorem dX5_statementEnd_112 : decode cX5_statementEnd 112 = .ok (.aload_n 0, 1) := by decide +kernel
theorem dX5_statementEnd_113 : decode cX5_statementEnd 113 = .ok (.iload_n 1, 1) := by decide +kernel
theorem dX5_statementEnd_114 : decode cX5_statementEnd 114 = .ok (.iconst 1, 1) := by decide +kernel
theorem dX5_statementEnd_115 : decode cX5_statementEnd 115 = .ok (.iadd, 1) := by decide +kernel
theorem dX5_statementEnd_116 : decode cX5_statementEnd 116 = .ok (.iconst 2, 1) := by decide +kernel
theorem dX5_statementEnd_117 : decode cX5_statementEnd 117 = .ok (.invokevirtual 29, 3) := by decide +kernel
theorem dX5_statementEnd_120 : decode cX5_statementEnd 120 = .ok (.istore_n 2, 1) := by decide +kernel
theorem dX5_statementEnd_121 : decode cX5_statementEnd 121 = .ok (.goto 19, 3) := by decide +kernel
theorem dX5_statementEnd_124 : decode cX5_statementEnd 124 = .ok (.aload_n 0, 1) := by decide +kernel
theorem dX5_statementEnd_125 : decode cX5_statementEnd 125 = .ok (.iload_n 1, 1) := by decide +kernel
theorem dX5_statementEnd_126 : decode cX5_statementEnd 126 = .ok (.iconst 1, 1) := by decide +kernel
theorem dX5_statementEnd_127 : decode cX5_statementEnd 127 = .ok (.iadd, 1) := by decide +kernel
theorem dX5_statementEnd_128 : decode cX5_statementEnd 128 = .ok (.invokevirtual 33, 3) := by decide +kernel
theorem dX5_statementEnd_131 : decode cX5_statementEnd 131 = .ok (.istore_n 2, 1) := by decide +kernel
theorem dX5_statementEnd_132 : decode cX5_statementEnd 132 = .ok (.goto 8, 3) := by decide +kernel
theorem dX5_statementEnd_135 : decode cX5_statementEnd 135 = .ok (.iload_n 1, 1) := by decide +kernel
theorem dX5_statementEnd_136 : decode cX5_statementEnd 136 = .ok (.invokestatic 19, 3) := by decide +kernel
theorem dX5_statementEnd_139 : decode cX5_statementEnd 139 = .ok (.istore_n 2, 1) := by decide +kernel
theorem dX5_statementEnd_140 : decode cX5_statementEnd 140 = .ok (.iload_n 2, 1) := by decide +kernel
theorem dX5_statementEnd_141 : decode cX5_statementEnd 141 = .ok (.ifCond .lt 24, 3) := by decide +kernel
theorem dX5_statementEnd_144 : decode cX5_statementEnd 144 = .ok (.aload_n 0, 1) := by decide +kernel
theorem dX5_statementEnd_145 : decode cX5_statementEnd 145 = .ok (.iload_n 2, 1) := by decide +kernel
theorem dX5_statementEnd_146 : decode cX5_statementEnd 146 = .ok (.invokevirtual 26, 3) := by decide +kernel
theorem dX5_statementEnd_149 : decode cX5_statementEnd 149 = .ok (.bipush 59, 2) := by decide +kernel
theorem dX5_statementEnd_151 : decode cX5_statementEnd 151 = .ok (.if_icmp .ne 9, 3) := by decide +kernel
theorem dX5_statementEnd_154 : decode cX5_statementEnd 154 = .ok (.iload_n 2, 1) := by decide +kernel
theorem dX5_statementEnd_155 : decode cX5_statementEnd 155 = .ok (.iconst 1, 1) := by decide +kernel
theorem dX5_statementEnd_156 : decode cX5_statementEnd 156 = .ok (.iadd, 1) := by decide +kernel
theorem dX5_statementEnd_157 : decode cX5_statementEnd 157 = .ok (.goto 7, 3) := by decide +kernel
theorem dX5_statementEnd_160 : decode cX5_statementEnd 160 = .ok (.iload_n 2, 1) := by decide +kernel
theorem dX5_statementEnd_161 : decode cX5_statementEnd 161 = .ok (.invokestatic 19, 3) := by decide +kernel
theorem dX5_statementEnd_164 : decode cX5_statementEnd 164 = .ok (.istore_n 2, 1) := by decide +kernel
theorem dX5_statementEnd_165 : decode cX5_statementEnd 165 = .ok (.iload_n 2, 1) := by decide +kernel
theorem dX5_statementEnd_166 : decode cX5_statementEnd 166 = .ok (.ireturn, 1) := by decide +kernel
theorem dX5_tell_0 : decode cX5_tell 0 = .ok (.aload_n 0, 1) := by decide +kernel
theorem dX5_tell_1 : decode cX5_tell 1 = .ok (.iload_n 1, 1) := by decide +kernel
theorem dX5_tell_2 : decode cX5_tell 2 = .ok (.invokevirtual 26, 3) := by decide +kernel
theorem dX5_tell_5 : decode cX5_tell 5 = .ok (.lookupswitch 148 #[(97, 51), (100, 102), (108, 136), (112, 60), (119, 115)], 51) := by decide +kernel
theorem dX5_tell_56 : decode cX5_tell 56 = .ok (.aload_n 0, 1) := by decide +kernel
theorem dX5_tell_57 : decode cX5_tell 57 = .ok (.iload_n 1, 1) := by decide +kernel
theorem dX5_tell_58 : decode cX5_tell 58 = .ok (.iconst 1, 1) := by decide +kernel
theorem dX5_tell_59 : decode cX5_tell 59 = .ok (.iadd, 1) := by decide +kernel
theorem dX5_tell_60 : decode cX5_tell 60 = .ok (.aload_n 2, 1) := by decide +kernel
theorem dX5_tell_61 : decode cX5_tell 61 = .ok (.invokevirtual 36, 3) := by decide +kernel
theorem dX5_tell_64 : decode cX5_tell 64 = .ok (.ireturn, 1) := by decide +kernel
theorem dX5_tell_65 : decode cX5_tell 65 = .ok (.aload_n 0, 1) := by decide +kernel
theorem dX5_tell_66 : decode cX5_tell 66 = .ok (.iload_n 1, 1) := by decide +kernel
theorem dX5_tell_67 : decode cX5_tell 67 = .ok (.iconst 1, 1) := by decide +kernel
theorem dX5_tell_68 : decode cX5_tell 68 = .ok (.iadd, 1) := by decide +kernel
theorem dX5_tell_69 : decode cX5_tell 69 = .ok (.iconst 2, 1) := by decide +kernel
theorem dX5_tell_70 : decode cX5_tell 70 = .ok (.invokevirtual 40, 3) := by decide +kernel
theorem dX5_tell_73 : decode cX5_tell 73 = .ok (.bipush 36, 2) := by decide +kernel
theorem dX5_tell_75 : decode cX5_tell 75 = .ok (.if_icmp .ge 30, 3) := by decide +kernel
theorem dX5_tell_78 : decode cX5_tell 78 = .ok (.aload_n 2, 1) := by decide +kernel
theorem dX5_tell_79 : decode cX5_tell 79 = .ok (.aload_n 0, 1) := by decide +kernel
theorem dX5_tell_80 : decode cX5_tell 80 = .ok (.iload_n 1, 1) := by decide +kernel
theorem dX5_tell_81 : decode cX5_tell 81 = .ok (.iconst 1, 1) := by decide +kernel
theorem dX5_tell_82 : decode cX5_tell 82 = .ok (.iadd, 1) := by decide +kernel
theorem dX5_tell_83 : decode cX5_tell 83 = .ok (.iconst 2, 1) := by decide +kernel
theorem dX5_tell_84 : decode cX5_tell 84 = .ok (.invokevirtual 40, 3) := by decide +kernel
theorem dX5_tell_87 : decode cX5_tell 87 = .ok (.aload_n 0, 1) := by decide +kernel
theorem dX5_tell_88 : decode cX5_tell 88 = .ok (.iload_n 1, 1) := by decide +kernel
theorem dX5_tell_89 : decode cX5_tell 89 = .ok (.iconst 3, 1) := by decide +kernel
theorem dX5_tell_90 : decode cX5_tell 90 = .ok (.iadd, 1) := by decide +kernel
theorem dX5_tell_91 : decode cX5_tell 91 = .ok (.iconst 1, 1) := by decide +kernel
theorem dX5_tell_92 : decode cX5_tell 92 = .ok (.invokevirtual 40, 3) := by decide +kernel
theorem dX5_tell_95 : decode cX5_tell 95 = .ok (.invokevirtual 43, 3) := by decide +kernel
theorem dX5_tell_98 : decode cX5_tell 98 = .ok (.ifCond .eq 7, 3) := by decide +kernel
theorem dX5_tell_101 : decode cX5_tell 101 = .ok (.iconst 1, 1) := by decide +kernel
theorem dX5_tell_102 : decode cX5_tell 102 = .ok (.goto 4, 3) := by decide +kernel
theorem dX5_tell_105 : decode cX5_tell 105 = .ok (.iconst 0, 1) := by decide +kernel
theorem dX5_tell_106 : decode cX5_tell 106 = .ok (.ireturn, 1) := by decide +kernel
theorem dX5_tell_107 : decode cX5_tell 107 = .ok (.aload_n 0, 1) := by decide +kernel
theorem dX5_tell_108 : decode cX5_tell 108 = .ok (.iload_n 1, 1) := by decide +kernel
theorem dX5_tell_109 : decode cX5_tell 109 = .ok (.iconst 1, 1) := by decide +kernel
theorem dX5_tell_110 : decode cX5_tell 110 = .ok (.iadd, 1) := by decide +kernel
theorem dX5_tell_111 : decode cX5_tell 111 = .ok (.iconst 2, 1) := by decide +kernel
theorem dX5_tell_112 : decode cX5_tell 112 = .ok (.invokevirtual 40, 3) := by decide +kernel
theorem dX5_tell_115 : decode cX5_tell 115 = .ok (.aload_n 2, 1) := by decide +kernel
theorem dX5_tell_116 : decode cX5_tell 116 = .ok (.invokestatic 49, 3) := by decide +kernel
theorem dX5_tell_119 : decode cX5_tell 119 = .ok (.ireturn, 1) := by decide +kernel
theorem dX5_tell_120 : decode cX5_tell 120 = .ok (.aload_n 0, 1) := by decide +kernel
theorem dX5_tell_121 : decode cX5_tell 121 = .ok (.iload_n 1, 1) := by decide +kernel
theorem dX5_tell_122 : decode cX5_tell 122 = .ok (.iconst 1, 1) := by decide +kernel
theorem dX5_tell_123 : decode cX5_tell 123 = .ok (.iadd, 1) := by decide +kernel
theorem dX5_tell_124 : decode cX5_tell 124 = .ok (.iconst 2, 1) := by decide +kernel
theorem dX5_tell_125 : decode cX5_tell 125 = .ok (.invokevirtual 40, 3) := by decide +kernel
theorem dX5_tell_128 : decode cX5_tell 128 = .ok (.aload_n 0, 1) := by decide +kernel
theorem dX5_tell_129 : decode cX5_tell 129 = .ok (.iload_n 1, 1) := by decide +kernel
theorem dX5_tell_130 : decode cX5_tell 130 = .ok (.iconst 3, 1) := by decide +kernel
theorem dX5_tell_131 : decode cX5_tell 131 = .ok (.iadd, 1) := by decide +kernel
theorem dX5_tell_132 : decode cX5_tell 132 = .ok (.iconst 2, 1) := by decide +kernel
theorem dX5_tell_133 : decode cX5_tell 133 = .ok (.invokevirtual 40, 3) := by decide +kernel
theorem dX5_tell_136 : decode cX5_tell 136 = .ok (.aload_n 2, 1) := by decide +kernel
theorem dX5_tell_137 : decode cX5_tell 137 = .ok (.invokestatic 52, 3) := by decide +kernel
theorem dX5_tell_140 : decode cX5_tell 140 = .ok (.ireturn, 1) := by decide +kernel
theorem dX5_tell_141 : decode cX5_tell 141 = .ok (.aload_n 0, 1) := by decide +kernel
theorem dX5_tell_142 : decode cX5_tell 142 = .ok (.iload_n 1, 1) := by decide +kernel
theorem dX5_tell_143 : decode cX5_tell 143 = .ok (.iconst 1, 1) := by decide +kernel
theorem dX5_tell_144 : decode cX5_tell 144 = .ok (.iadd, 1) := by decide +kernel
theorem dX5_tell_145 : decode cX5_tell 145 = .ok (.aload_n 2, 1) := by decide +kernel
theorem dX5_tell_146 : decode cX5_tell 146 = .ok (.getfield 56, 3) := by decide +kernel
theorem dX5_tell_149 : decode cX5_tell 149 = .ok (.invokevirtual 60, 3) := by decide +kernel
theorem dX5_tell_152 : decode cX5_tell 152 = .ok (.ireturn, 1) := by decide +kernel
theorem dX5_tell_153 : decode cX5_tell 153 = .ok (.aload_n 0, 1) := by decide +kernel
theorem dX5_tell_154 : decode cX5_tell 154 = .ok (.iload_n 1, 1) := by decide +kernel
theorem dX5_tell_155 : decode cX5_tell 155 = .ok (.iconst 1, 1) := by decide +kernel
theorem dX5_tell_156 : decode cX5_tell 156 = .ok (.iadd, 1) := by decide +kernel
theorem dX5_tell_157 : decode cX5_tell 157 = .ok (.iconst 2, 1) := by decide +kernel
theorem dX5_tell_158 : decode cX5_tell 158 = .ok (.invokevirtual 40, 3) := by decide +kernel
theorem dX5_tell_161 : decode cX5_tell 161 = .ok (.istore_n 3, 1) := by decide +kernel
theorem dX5_tell_162 : decode cX5_tell 162 = .ok (.iload_n 3, 1) := by decide +kernel
theorem dX5_tell_163 : decode cX5_tell 163 = .ok (.iconst 1, 1) := by decide +kernel
theorem dX5_tell_164 : decode cX5_tell 164 = .ok (.if_icmp .lt 21, 3) := by decide +kernel
theorem dX5_tell_167 : decode cX5_tell 167 = .ok (.iload_n 3, 1) := by decide +kernel
theorem dX5_tell_168 : decode cX5_tell 168 = .ok (.bipush 60, 2) := by decide +kernel
theorem dX5_tell_170 : decode cX5_tell 170 = .ok (.if_icmp .gt 15, 3) := by decide +kernel
theorem dX5_tell_173 : decode cX5_tell 173 = .ok (.aload_n 2, 1) := by decide +kernel
theorem dX5_tell_174 : decode cX5_tell 174 = .ok (.getfield 64, 3) := by decide +kernel
theorem dX5_tell_177 : decode cX5_tell 177 = .ok (.iload_n 3, 1) := by decide +kernel
theorem dX5_tell_178 : decode cX5_tell 178 = .ok (.iadd, 1) := by decide +kernel
theorem dX5_tell_179 : decode cX5_tell 179 = .ok (.sipush 999, 3) := by decide +kernel
theorem dX5_tell_182 : decode cX5_tell 182 = .ok (.if_icmp .le 5, 3) := by decide +kernel
theorem dX5_tell_185 : decode cX5_tell 185 = .ok (.iconst 0, 1) := by decide +kernel
theorem dX5_tell_186 : decode cX5_tell 186 = .ok (.ireturn, 1) := by decide +kernel
theorem dX5_tell_187 : decode cX5_tell 187 = .ok (.aload_n 2, 1) := by decide +kernel
theorem dX5_tell_188 : decode cX5_tell 188 = .ok (.iload_n 3, 1) := by decide +kernel
theorem dX5_tell_189 : decode cX5_tell 189 = .ok (.invokevirtual 67, 3) := by decide +kernel
theorem dX5_tell_192 : decode cX5_tell 192 = .ok (.iconst 1, 1) := by decide +kernel
theorem dX5_tell_193 : decode cX5_tell 193 = .ok (.ireturn, 1) := by decide +kernel
theorem dX5_letterAt_0 : decode cX5_letterAt 0 = .ok (.iload_n 1, 1) := by decide +kernel
theorem dX5_letterAt_1 : decode cX5_letterAt 1 = .ok (.ifCond .lt 20, 3) := by decide +kernel
theorem dX5_letterAt_4 : decode cX5_letterAt 4 = .ok (.iload_n 1, 1) := by decide +kernel
theorem dX5_letterAt_5 : decode cX5_letterAt 5 = .ok (.aload_n 0, 1) := by decide +kernel
theorem dX5_letterAt_6 : decode cX5_letterAt 6 = .ok (.getfield 15, 3) := by decide +kernel
theorem dX5_letterAt_9 : decode cX5_letterAt 9 = .ok (.if_icmp .ge 12, 3) := by decide +kernel
theorem dX5_letterAt_12 : decode cX5_letterAt 12 = .ok (.aload_n 0, 1) := by decide +kernel
theorem dX5_letterAt_13 : decode cX5_letterAt 13 = .ok (.getfield 9, 3) := by decide +kernel
theorem dX5_letterAt_16 : decode cX5_letterAt 16 = .ok (.iload_n 1, 1) := by decide +kernel
theorem dX5_letterAt_17 : decode cX5_letterAt 17 = .ok (.iaload, 1) := by decide +kernel
theorem dX5_letterAt_18 : decode cX5_letterAt 18 = .ok (.goto 4, 3) := by decide +kernel
theorem dX5_letterAt_21 : decode cX5_letterAt 21 = .ok (.iconst (-1), 1) := by decide +kernel
theorem dX5_letterAt_22 : decode cX5_letterAt 22 = .ok (.ireturn, 1) := by decide +kernel
theorem dX5_number_0 : decode cX5_number 0 = .ok (.iconst 0, 1) := by decide +kernel
theorem dX5_number_1 : decode cX5_number 1 = .ok (.istore_n 3, 1) := by decide +kernel
theorem dX5_number_2 : decode cX5_number 2 = .ok (.iconst 0, 1) := by decide +kernel
theorem dX5_number_3 : decode cX5_number 3 = .ok (.istore 4, 2) := by decide +kernel
theorem dX5_number_5 : decode cX5_number 5 = .ok (.iload 4, 2) := by decide +kernel
theorem dX5_number_7 : decode cX5_number 7 = .ok (.iload_n 2, 1) := by decide +kernel
theorem dX5_number_8 : decode cX5_number 8 = .ok (.if_icmp .ge 26, 3) := by decide +kernel
theorem dX5_number_11 : decode cX5_number 11 = .ok (.bipush 10, 2) := by decide +kernel
theorem dX5_number_13 : decode cX5_number 13 = .ok (.iload_n 3, 1) := by decide +kernel
theorem dX5_number_14 : decode cX5_number 14 = .ok (.imul, 1) := by decide +kernel
theorem dX5_number_15 : decode cX5_number 15 = .ok (.aload_n 0, 1) := by decide +kernel
theorem dX5_number_16 : decode cX5_number 16 = .ok (.iload_n 1, 1) := by decide +kernel
theorem dX5_number_17 : decode cX5_number 17 = .ok (.iload 4, 2) := by decide +kernel
theorem dX5_number_19 : decode cX5_number 19 = .ok (.iadd, 1) := by decide +kernel
theorem dX5_number_20 : decode cX5_number 20 = .ok (.invokevirtual 26, 3) := by decide +kernel
theorem dX5_number_23 : decode cX5_number 23 = .ok (.iadd, 1) := by decide +kernel
theorem dX5_number_24 : decode cX5_number 24 = .ok (.bipush 48, 2) := by decide +kernel
theorem dX5_number_26 : decode cX5_number 26 = .ok (.isub, 1) := by decide +kernel
theorem dX5_number_27 : decode cX5_number 27 = .ok (.istore_n 3, 1) := by decide +kernel
theorem dX5_number_28 : decode cX5_number 28 = .ok (.iinc 4 1, 3) := by decide +kernel
theorem dX5_number_31 : decode cX5_number 31 = .ok (.goto (-26), 3) := by decide +kernel
theorem dX5_number_34 : decode cX5_number 34 = .ok (.iload_n 3, 1) := by decide +kernel
theorem dX5_number_35 : decode cX5_number 35 = .ok (.ireturn, 1) := by decide +kernel
theorem dX5_digitsEnd_0 : decode cX5_digitsEnd 0 = .ok (.iconst 0, 1) := by decide +kernel
theorem dX5_digitsEnd_1 : decode cX5_digitsEnd 1 = .ok (.istore_n 3, 1) := by decide +kernel
theorem dX5_digitsEnd_2 : decode cX5_digitsEnd 2 = .ok (.iload_n 3, 1) := by decide +kernel
theorem dX5_digitsEnd_3 : decode cX5_digitsEnd 3 = .ok (.iload_n 2, 1) := by decide +kernel
theorem dX5_digitsEnd_4 : decode cX5_digitsEnd 4 = .ok (.if_icmp .ge 39, 3) := by decide +kernel
theorem dX5_digitsEnd_7 : decode cX5_digitsEnd 7 = .ok (.aload_n 0, 1) := by decide +kernel
theorem dX5_digitsEnd_8 : decode cX5_digitsEnd 8 = .ok (.iload_n 1, 1) := by decide +kernel
theorem dX5_digitsEnd_9 : decode cX5_digitsEnd 9 = .ok (.iload_n 3, 1) := by decide +kernel
theorem dX5_digitsEnd_10 : decode cX5_digitsEnd 10 = .ok (.iadd, 1) := by decide +kernel
theorem dX5_digitsEnd_11 : decode cX5_digitsEnd 11 = .ok (.invokevirtual 26, 3) := by decide +kernel
theorem dX5_digitsEnd_14 : decode cX5_digitsEnd 14 = .ok (.istore 4, 2) := by decide +kernel
theorem dX5_digitsEnd_16 : decode cX5_digitsEnd 16 = .ok (.iload 4, 2) := by decide +kernel
theorem dX5_digitsEnd_18 : decode cX5_digitsEnd 18 = .ok (.bipush 48, 2) := by decide +kernel
theorem dX5_digitsEnd_20 : decode cX5_digitsEnd 20 = .ok (.if_icmp .lt 10, 3) := by decide +kernel
theorem dX5_digitsEnd_23 : decode cX5_digitsEnd 23 = .ok (.iload 4, 2) := by decide +kernel
theorem dX5_digitsEnd_25 : decode cX5_digitsEnd 25 = .ok (.bipush 57, 2) := by decide +kernel
theorem dX5_digitsEnd_27 : decode cX5_digitsEnd 27 = .ok (.if_icmp .le 10, 3) := by decide +kernel
theorem dX5_digitsEnd_30 : decode cX5_digitsEnd 30 = .ok (.iload_n 1, 1) := by decide +kernel
theorem dX5_digitsEnd_31 : decode cX5_digitsEnd 31 = .ok (.iload_n 3, 1) := by decide +kernel
theorem dX5_digitsEnd_32 : decode cX5_digitsEnd 32 = .ok (.iadd, 1) := by decide +kernel
theorem dX5_digitsEnd_33 : decode cX5_digitsEnd 33 = .ok (.invokestatic 19, 3) := by decide +kernel
theorem dX5_digitsEnd_36 : decode cX5_digitsEnd 36 = .ok (.ireturn, 1) := by decide +kernel
theorem dX5_digitsEnd_37 : decode cX5_digitsEnd 37 = .ok (.iinc 3 1, 3) := by decide +kernel
theorem dX5_digitsEnd_40 : decode cX5_digitsEnd 40 = .ok (.goto (-38), 3) := by decide +kernel
theorem dX5_digitsEnd_43 : decode cX5_digitsEnd 43 = .ok (.iload_n 1, 1) := by decide +kernel
theorem dX5_digitsEnd_44 : decode cX5_digitsEnd 44 = .ok (.iload_n 2, 1) := by decide +kernel
theorem dX5_digitsEnd_45 : decode cX5_digitsEnd 45 = .ok (.iadd, 1) := by decide +kernel
theorem dX5_digitsEnd_46 : decode cX5_digitsEnd 46 = .ok (.ireturn, 1) := by decide +kernel
theorem dX5_stepsEnd_0 : decode cX5_stepsEnd 0 = .ok (.iload_n 1, 1) := by decide +kernel
theorem dX5_stepsEnd_1 : decode cX5_stepsEnd 1 = .ok (.istore_n 2, 1) := by decide +kernel
theorem dX5_stepsEnd_2 : decode cX5_stepsEnd 2 = .ok (.iconst 0, 1) := by decide +kernel
theorem dX5_stepsEnd_3 : decode cX5_stepsEnd 3 = .ok (.istore_n 3, 1) := by decide +kernel
theorem dX5_stepsEnd_4 : decode cX5_stepsEnd 4 = .ok (.iload_n 3, 1) := by decide +kernel
theorem dX5_stepsEnd_5 : decode cX5_stepsEnd 5 = .ok (.bipush 96, 2) := by decide +kernel
theorem dX5_stepsEnd_7 : decode cX5_stepsEnd 7 = .ok (.if_icmp .ge 29, 3) := by decide +kernel
theorem dX5_stepsEnd_10 : decode cX5_stepsEnd 10 = .ok (.aload_n 0, 1) := by decide +kernel
theorem dX5_stepsEnd_11 : decode cX5_stepsEnd 11 = .ok (.iload_n 2, 1) := by decide +kernel
theorem dX5_stepsEnd_12 : decode cX5_stepsEnd 12 = .ok (.invokevirtual 71, 3) := by decide +kernel
theorem dX5_stepsEnd_15 : decode cX5_stepsEnd 15 = .ok (.ifCond .lt 21, 3) := by decide +kernel
theorem dX5_stepsEnd_18 : decode cX5_stepsEnd 18 = .ok (.aload_n 0, 1) := by decide +kernel
theorem dX5_stepsEnd_19 : decode cX5_stepsEnd 19 = .ok (.iload_n 2, 1) := by decide +kernel
theorem dX5_stepsEnd_20 : decode cX5_stepsEnd 20 = .ok (.invokevirtual 74, 3) := by decide +kernel
theorem dX5_stepsEnd_23 : decode cX5_stepsEnd 23 = .ok (.istore_n 2, 1) := by decide +kernel
theorem dX5_stepsEnd_24 : decode cX5_stepsEnd 24 = .ok (.iload_n 2, 1) := by decide +kernel
theorem dX5_stepsEnd_25 : decode cX5_stepsEnd 25 = .ok (.ifCond .ge 5, 3) := by decide +kernel
theorem dX5_stepsEnd_28 : decode cX5_stepsEnd 28 = .ok (.iload_n 2, 1) := by decide +kernel
theorem dX5_stepsEnd_29 : decode cX5_stepsEnd 29 = .ok (.ireturn, 1) := by decide +kernel
theorem dX5_stepsEnd_30 : decode cX5_stepsEnd 30 = .ok (.iinc 3 1, 3) := by decide +kernel
theorem dX5_stepsEnd_33 : decode cX5_stepsEnd 33 = .ok (.goto (-29), 3) := by decide +kernel
theorem dX5_stepsEnd_36 : decode cX5_stepsEnd 36 = .ok (.iload_n 2, 1) := by decide +kernel
theorem dX5_stepsEnd_37 : decode cX5_stepsEnd 37 = .ok (.ireturn, 1) := by decide +kernel
theorem dX5_stepEnd_0 : decode cX5_stepEnd 0 = .ok (.aload_n 0, 1) := by decide +kernel
theorem dX5_stepEnd_1 : decode cX5_stepEnd 1 = .ok (.iload_n 1, 1) := by decide +kernel
theorem dX5_stepEnd_2 : decode cX5_stepEnd 2 = .ok (.invokevirtual 71, 3) := by decide +kernel
theorem dX5_stepEnd_5 : decode cX5_stepEnd 5 = .ok (.bipush 6, 2) := by decide +kernel
theorem dX5_stepEnd_7 : decode cX5_stepEnd 7 = .ok (.if_icmp .ne 9, 3) := by decide +kernel
theorem dX5_stepEnd_10 : decode cX5_stepEnd 10 = .ok (.iload_n 1, 1) := by decide +kernel
theorem dX5_stepEnd_11 : decode cX5_stepEnd 11 = .ok (.iconst 1, 1) := by decide +kernel
theorem dX5_stepEnd_12 : decode cX5_stepEnd 12 = .ok (.iadd, 1) := by decide +kernel
theorem dX5_stepEnd_13 : decode cX5_stepEnd 13 = .ok (.goto 11, 3) := by decide +kernel
theorem dX5_stepEnd_16 : decode cX5_stepEnd 16 = .ok (.aload_n 0, 1) := by decide +kernel
theorem dX5_stepEnd_17 : decode cX5_stepEnd 17 = .ok (.iload_n 1, 1) := by decide +kernel
theorem dX5_stepEnd_18 : decode cX5_stepEnd 18 = .ok (.iconst 1, 1) := by decide +kernel
theorem dX5_stepEnd_19 : decode cX5_stepEnd 19 = .ok (.iadd, 1) := by decide +kernel
theorem dX5_stepEnd_20 : decode cX5_stepEnd 20 = .ok (.iconst 2, 1) := by decide +kernel
theorem dX5_stepEnd_21 : decode cX5_stepEnd 21 = .ok (.invokevirtual 29, 3) := by decide +kernel
theorem dX5_stepEnd_24 : decode cX5_stepEnd 24 = .ok (.ireturn, 1) := by decide +kernel
theorem dX5_stepAt_0 : decode cX5_stepAt 0 = .ok (.aload_n 0, 1) := by decide +kernel
theorem dX5_stepAt_1 : decode cX5_stepAt 1 = .ok (.iload_n 1, 1) := by decide +kernel
theorem dX5_stepAt_2 : decode cX5_stepAt 2 = .ok (.invokevirtual 26, 3) := by decide +kernel
theorem dX5_stepAt_5 : decode cX5_stepAt 5 = .ok (.tableswitch 110 97 116 #[99, 110, 107, 110, 110, 110, 103, 110, 110, 110, 110, 105, 97, 110, 110, 110, 110, 110, 101, 95], 95) := by decide +kernel
theorem dX5_stepAt_100 : decode cX5_stepAt 100 = .ok (.iconst 0, 1) := by decide +kernel
theorem dX5_stepAt_101 : decode cX5_stepAt 101 = .ok (.ireturn, 1) := by decide +kernel
theorem dX5_stepAt_102 : decode cX5_stepAt 102 = .ok (.iconst 1, 1) := by decide +kernel
theorem dX5_stepAt_103 : decode cX5_stepAt 103 = .ok (.ireturn, 1) := by decide +kernel
theorem dX5_stepAt_104 : decode cX5_stepAt 104 = .ok (.iconst 2, 1) := by decide +kernel
theorem dX5_stepAt_105 : decode cX5_stepAt 105 = .ok (.ireturn, 1) := by decide +kernel
theorem dX5_stepAt_106 : decode cX5_stepAt 106 = .ok (.iconst 3, 1) := by decide +kernel
theorem dX5_stepAt_107 : decode cX5_stepAt 107 = .ok (.ireturn, 1) := by decide +kernel
theorem dX5_stepAt_108 : decode cX5_stepAt 108 = .ok (.iconst 4, 1) := by decide +kernel
theorem dX5_stepAt_109 : decode cX5_stepAt 109 = .ok (.ireturn, 1) := by decide +kernel
theorem dX5_stepAt_110 : decode cX5_stepAt 110 = .ok (.iconst 5, 1) := by decide +kernel
theorem dX5_stepAt_111 : decode cX5_stepAt 111 = .ok (.ireturn, 1) := by decide +kernel
theorem dX5_stepAt_112 : decode cX5_stepAt 112 = .ok (.bipush 6, 2) := by decide +kernel
theorem dX5_stepAt_114 : decode cX5_stepAt 114 = .ok (.ireturn, 1) := by decide +kernel
theorem dX5_stepAt_115 : decode cX5_stepAt 115 = .ok (.iconst (-1), 1) := by decide +kernel
theorem dX5_stepAt_116 : decode cX5_stepAt 116 = .ok (.ireturn, 1) := by decide +kernel
theorem dX5_tellAir_0 : decode cX5_tellAir 0 = .ok (.aload_n 0, 1) := by decide +kernel
theorem dX5_tellAir_1 : decode cX5_tellAir 1 = .ok (.iload_n 1, 1) := by decide +kernel
theorem dX5_tellAir_2 : decode cX5_tellAir 2 = .ok (.iconst 1, 1) := by decide +kernel
theorem dX5_tellAir_3 : decode cX5_tellAir 3 = .ok (.invokevirtual 40, 3) := by decide +kernel
theorem dX5_tellAir_6 : decode cX5_tellAir 6 = .ok (.istore_n 3, 1) := by decide +kernel
theorem dX5_tellAir_7 : decode cX5_tellAir 7 = .ok (.aload_n 0, 1) := by decide +kernel
theorem dX5_tellAir_8 : decode cX5_tellAir 8 = .ok (.iload_n 1, 1) := by decide +kernel
theorem dX5_tellAir_9 : decode cX5_tellAir 9 = .ok (.iconst 2, 1) := by decide +kernel
theorem dX5_tellAir_10 : decode cX5_tellAir 10 = .ok (.iadd, 1) := by decide +kernel
theorem dX5_tellAir_11 : decode cX5_tellAir 11 = .ok (.iconst 2, 1) := by decide +kernel
theorem dX5_tellAir_12 : decode cX5_tellAir 12 = .ok (.invokevirtual 40, 3) := by decide +kernel
theorem dX5_tellAir_15 : decode cX5_tellAir 15 = .ok (.istore 4, 2) := by decide +kernel
theorem dX5_tellAir_17 : decode cX5_tellAir 17 = .ok (.aload_n 0, 1) := by decide +kernel
theorem dX5_tellAir_18 : decode cX5_tellAir 18 = .ok (.iload_n 1, 1) := by decide +kernel
theorem dX5_tellAir_19 : decode cX5_tellAir 19 = .ok (.iconst 4, 1) := by decide +kernel
theorem dX5_tellAir_20 : decode cX5_tellAir 20 = .ok (.iadd, 1) := by decide +kernel
theorem dX5_tellAir_21 : decode cX5_tellAir 21 = .ok (.iconst 1, 1) := by decide +kernel
theorem dX5_tellAir_22 : decode cX5_tellAir 22 = .ok (.invokevirtual 40, 3) := by decide +kernel
theorem dX5_tellAir_25 : decode cX5_tellAir 25 = .ok (.istore 5, 2) := by decide +kernel
theorem dX5_tellAir_27 : decode cX5_tellAir 27 = .ok (.iload_n 3, 1) := by decide +kernel
theorem dX5_tellAir_28 : decode cX5_tellAir 28 = .ok (.bipush 8, 2) := by decide +kernel
theorem dX5_tellAir_30 : decode cX5_tellAir 30 = .ok (.if_icmp .ge 40, 3) := by decide +kernel
theorem dX5_tellAir_33 : decode cX5_tellAir 33 = .ok (.iload 4, 2) := by decide +kernel
theorem dX5_tellAir_35 : decode cX5_tellAir 35 = .ok (.bipush 36, 2) := by decide +kernel
theorem dX5_tellAir_37 : decode cX5_tellAir 37 = .ok (.if_icmp .ge 33, 3) := by decide +kernel
theorem dX5_tellAir_40 : decode cX5_tellAir 40 = .ok (.iload 5, 2) := by decide +kernel
theorem dX5_tellAir_42 : decode cX5_tellAir 42 = .ok (.iconst 4, 1) := by decide +kernel
theorem dX5_tellAir_43 : decode cX5_tellAir 43 = .ok (.if_icmp .ge 27, 3) := by decide +kernel
theorem dX5_tellAir_46 : decode cX5_tellAir 46 = .ok (.aload_n 2, 1) := by decide +kernel
theorem dX5_tellAir_47 : decode cX5_tellAir 47 = .ok (.iload_n 3, 1) := by decide +kernel
theorem dX5_tellAir_48 : decode cX5_tellAir 48 = .ok (.aload_n 0, 1) := by decide +kernel
theorem dX5_tellAir_49 : decode cX5_tellAir 49 = .ok (.iload_n 1, 1) := by decide +kernel
theorem dX5_tellAir_50 : decode cX5_tellAir 50 = .ok (.iconst 1, 1) := by decide +kernel
theorem dX5_tellAir_51 : decode cX5_tellAir 51 = .ok (.iadd, 1) := by decide +kernel
theorem dX5_tellAir_52 : decode cX5_tellAir 52 = .ok (.iconst 1, 1) := by decide +kernel
theorem dX5_tellAir_53 : decode cX5_tellAir 53 = .ok (.invokevirtual 40, 3) := by decide +kernel
theorem dX5_tellAir_56 : decode cX5_tellAir 56 = .ok (.iload 4, 2) := by decide +kernel
theorem dX5_tellAir_58 : decode cX5_tellAir 58 = .ok (.iload 5, 2) := by decide +kernel
theorem dX5_tellAir_60 : decode cX5_tellAir 60 = .ok (.invokevirtual 77, 3) := by decide +kernel
theorem dX5_tellAir_63 : decode cX5_tellAir 63 = .ok (.ifCond .eq 7, 3) := by decide +kernel
theorem dX5_tellAir_66 : decode cX5_tellAir 66 = .ok (.iconst 1, 1) := by decide +kernel
theorem dX5_tellAir_67 : decode cX5_tellAir 67 = .ok (.goto 4, 3) := by decide +kernel
theorem dX5_tellAir_70 : decode cX5_tellAir 70 = .ok (.iconst 0, 1) := by decide +kernel
theorem dX5_tellAir_71 : decode cX5_tellAir 71 = .ok (.ireturn, 1) := by decide +kernel
theorem dX5_tellShut_0 : decode cX5_tellShut 0 = .ok (.iload_n 0, 1) := by decide +kernel
theorem dX5_tellShut_1 : decode cX5_tellShut 1 = .ok (.bipush 36, 2) := by decide +kernel
theorem dX5_tellShut_3 : decode cX5_tellShut 3 = .ok (.if_icmp .ge 11, 3) := by decide +kernel
theorem dX5_tellShut_6 : decode cX5_tellShut 6 = .ok (.aload_n 1, 1) := by decide +kernel
theorem dX5_tellShut_7 : decode cX5_tellShut 7 = .ok (.iload_n 0, 1) := by decide +kernel
theorem dX5_tellShut_8 : decode cX5_tellShut 8 = .ok (.invokevirtual 81, 3) := by decide +kernel
theorem dX5_tellShut_11 : decode cX5_tellShut 11 = .ok (.ifCond .eq 5, 3) := by decide +kernel
theorem dX5_tellShut_14 : decode cX5_tellShut 14 = .ok (.iconst 0, 1) := by decide +kernel
theorem dX5_tellShut_15 : decode cX5_tellShut 15 = .ok (.ireturn, 1) := by decide +kernel
theorem dX5_tellShut_16 : decode cX5_tellShut 16 = .ok (.aload_n 1, 1) := by decide +kernel
theorem dX5_tellShut_17 : decode cX5_tellShut 17 = .ok (.iload_n 0, 1) := by decide +kernel
theorem dX5_tellShut_18 : decode cX5_tellShut 18 = .ok (.invokevirtual 85, 3) := by decide +kernel
theorem dX5_tellShut_21 : decode cX5_tellShut 21 = .ok (.iconst 1, 1) := by decide +kernel
theorem dX5_tellShut_22 : decode cX5_tellShut 22 = .ok (.ireturn, 1) := by decide +kernel
theorem dX5_tellWarm_0 : decode cX5_tellWarm 0 = .ok (.iload_n 0, 1) := by decide +kernel
theorem dX5_tellWarm_1 : decode cX5_tellWarm 1 = .ok (.bipush 36, 2) := by decide +kernel
theorem dX5_tellWarm_3 : decode cX5_tellWarm 3 = .ok (.if_icmp .lt 5, 3) := by decide +kernel
theorem dX5_tellWarm_6 : decode cX5_tellWarm 6 = .ok (.iconst 0, 1) := by decide +kernel
theorem dX5_tellWarm_7 : decode cX5_tellWarm 7 = .ok (.ireturn, 1) := by decide +kernel
theorem dX5_tellWarm_8 : decode cX5_tellWarm 8 = .ok (.aload_n 2, 1) := by decide +kernel
theorem dX5_tellWarm_9 : decode cX5_tellWarm 9 = .ok (.getfield 88, 3) := by decide +kernel
theorem dX5_tellWarm_12 : decode cX5_tellWarm 12 = .ok (.iload_n 0, 1) := by decide +kernel
theorem dX5_tellWarm_13 : decode cX5_tellWarm 13 = .ok (.iload_n 1, 1) := by decide +kernel
theorem dX5_tellWarm_14 : decode cX5_tellWarm 14 = .ok (.i2f, 1) := by decide +kernel
theorem dX5_tellWarm_15 : decode cX5_tellWarm 15 = .ok (.fastore, 1) := by decide +kernel
theorem dX5_tellWarm_16 : decode cX5_tellWarm 16 = .ok (.iconst 1, 1) := by decide +kernel
theorem dX5_tellWarm_17 : decode cX5_tellWarm 17 = .ok (.ireturn, 1) := by decide +kernel
theorem dX5_tellHearth_0 : decode cX5_tellHearth 0 = .ok (.aload_n 2, 1) := by decide +kernel
theorem dX5_tellHearth_1 : decode cX5_tellHearth 1 = .ok (.iconst 0, 1) := by decide +kernel
theorem dX5_tellHearth_2 : decode cX5_tellHearth 2 = .ok (.putfield 92, 3) := by decide +kernel
theorem dX5_tellHearth_5 : decode cX5_tellHearth 5 = .ok (.iload_n 1, 1) := by decide +kernel
theorem dX5_tellHearth_6 : decode cX5_tellHearth 6 = .ok (.istore_n 3, 1) := by decide +kernel
theorem dX5_tellHearth_7 : decode cX5_tellHearth 7 = .ok (.iconst 0, 1) := by decide +kernel
theorem dX5_tellHearth_8 : decode cX5_tellHearth 8 = .ok (.istore 4, 2) := by decide +kernel
theorem dX5_tellHearth_10 : decode cX5_tellHearth 10 = .ok (.iload 4, 2) := by decide +kernel
theorem dX5_tellHearth_12 : decode cX5_tellHearth 12 = .ok (.bipush 6, 2) := by decide +kernel
theorem dX5_tellHearth_14 : decode cX5_tellHearth 14 = .ok (.if_icmp .ge 55, 3) := by decide +kernel
theorem dX5_tellHearth_17 : decode cX5_tellHearth 17 = .ok (.aload_n 0, 1) := by decide +kernel
theorem dX5_tellHearth_18 : decode cX5_tellHearth 18 = .ok (.iload_n 3, 1) := by decide +kernel
theorem dX5_tellHearth_19 : decode cX5_tellHearth 19 = .ok (.invokevirtual 71, 3) := by decide +kernel
theorem dX5_tellHearth_22 : decode cX5_tellHearth 22 = .ok (.ifCond .lt 47, 3) := by decide +kernel
theorem dX5_tellHearth_25 : decode cX5_tellHearth 25 = .ok (.aload_n 0, 1) := by decide +kernel
theorem dX5_tellHearth_26 : decode cX5_tellHearth 26 = .ok (.iload_n 3, 1) := by decide +kernel
theorem dX5_tellHearth_27 : decode cX5_tellHearth 27 = .ok (.invokevirtual 71, 3) := by decide +kernel
theorem dX5_tellHearth_30 : decode cX5_tellHearth 30 = .ok (.istore 5, 2) := by decide +kernel
theorem dX5_tellHearth_32 : decode cX5_tellHearth 32 = .ok (.aload_n 2, 1) := by decide +kernel
theorem dX5_tellHearth_33 : decode cX5_tellHearth 33 = .ok (.iload 5, 2) := by decide +kernel
theorem dX5_tellHearth_35 : decode cX5_tellHearth 35 = .ok (.iload 5, 2) := by decide +kernel
theorem dX5_tellHearth_37 : decode cX5_tellHearth 37 = .ok (.bipush 6, 2) := by decide +kernel
theorem dX5_tellHearth_39 : decode cX5_tellHearth 39 = .ok (.if_icmp .ne 7, 3) := by decide +kernel
theorem dX5_tellHearth_42 : decode cX5_tellHearth 42 = .ok (.iconst 0, 1) := by decide +kernel
theorem dX5_tellHearth_43 : decode cX5_tellHearth 43 = .ok (.goto 11, 3) := by decide +kernel
theorem dX5_tellHearth_46 : decode cX5_tellHearth 46 = .ok (.aload_n 0, 1) := by decide +kernel
theorem dX5_tellHearth_47 : decode cX5_tellHearth 47 = .ok (.iload_n 3, 1) := by decide +kernel
theorem dX5_tellHearth_48 : decode cX5_tellHearth 48 = .ok (.iconst 1, 1) := by decide +kernel
theorem dX5_tellHearth_49 : decode cX5_tellHearth 49 = .ok (.iadd, 1) := by decide +kernel
theorem dX5_tellHearth_50 : decode cX5_tellHearth 50 = .ok (.iconst 2, 1) := by decide +kernel
theorem dX5_tellHearth_51 : decode cX5_tellHearth 51 = .ok (.invokevirtual 40, 3) := by decide +kernel
theorem dX5_tellHearth_54 : decode cX5_tellHearth 54 = .ok (.invokevirtual 97, 3) := by decide +kernel
theorem dX5_tellHearth_57 : decode cX5_tellHearth 57 = .ok (.aload_n 0, 1) := by decide +kernel
theorem dX5_tellHearth_58 : decode cX5_tellHearth 58 = .ok (.iload_n 3, 1) := by decide +kernel
theorem dX5_tellHearth_59 : decode cX5_tellHearth 59 = .ok (.invokevirtual 74, 3) := by decide +kernel
theorem dX5_tellHearth_62 : decode cX5_tellHearth 62 = .ok (.istore_n 3, 1) := by decide +kernel
theorem dX5_tellHearth_63 : decode cX5_tellHearth 63 = .ok (.iinc 4 1, 3) := by decide +kernel
theorem dX5_tellHearth_66 : decode cX5_tellHearth 66 = .ok (.goto (-56), 3) := by decide +kernel
theorem dX5_tellHearth_69 : decode cX5_tellHearth 69 = .ok (.aload_n 0, 1) := by decide +kernel
theorem dX5_tellHearth_70 : decode cX5_tellHearth 70 = .ok (.iload_n 3, 1) := by decide +kernel
theorem dX5_tellHearth_71 : decode cX5_tellHearth 71 = .ok (.invokevirtual 26, 3) := by decide +kernel
theorem dX5_tellHearth_74 : decode cX5_tellHearth 74 = .ok (.bipush 59, 2) := by decide +kernel
theorem dX5_tellHearth_76 : decode cX5_tellHearth 76 = .ok (.if_icmp .ne 7, 3) := by decide +kernel
theorem dX5_tellHearth_79 : decode cX5_tellHearth 79 = .ok (.iconst 1, 1) := by decide +kernel
theorem dX5_tellHearth_80 : decode cX5_tellHearth 80 = .ok (.goto 4, 3) := by decide +kernel
theorem dX5_tellHearth_83 : decode cX5_tellHearth 83 = .ok (.iconst 0, 1) := by decide +kernel
theorem dX5_tellHearth_84 : decode cX5_tellHearth 84 = .ok (.ireturn, 1) := by decide +kernel
theorem dJxf58ca_isNaN_12338_0 : decode cJxf58ca_isNaN_12338 0 = .ok (.fload_n 0, 1) := by decide +kernel
theorem dJxf58ca_isNaN_12338_1 : decode cJxf58ca_isNaN_12338 1 = .ok (.fload_n 0, 1) := by decide +kernel
theorem dJxf58ca_isNaN_12338_2 : decode cJxf58ca_isNaN_12338 2 = .ok (.fcmp .l, 1) := by decide +kernel
theorem dJxf58ca_isNaN_12338_3 : decode cJxf58ca_isNaN_12338 3 = .ok (.ifCond .eq 7, 3) := by decide +kernel
theorem dJxf58ca_isNaN_12338_6 : decode cJxf58ca_isNaN_12338 6 = .ok (.iconst 1, 1) := by decide +kernel
theorem dJxf58ca_isNaN_12338_7 : decode cJxf58ca_isNaN_12338 7 = .ok (.goto 4, 3) := by decide +kernel
theorem dJxf58ca_isNaN_12338_10 : decode cJxf58ca_isNaN_12338 10 = .ok (.iconst 0, 1) := by decide +kernel
theorem dJxf58ca_isNaN_12338_11 : decode cJxf58ca_isNaN_12338 11 = .ok (.ireturn, 1) := by decide +kernel
theorem dJxf58ca_floatToIntBits_5c35a_0 : decode cJxf58ca_floatToIntBits_5c35a 0 = .ok (.fload_n 0, 1) := by decide +kernel
theorem dJxf58ca_floatToIntBits_5c35a_1 : decode cJxf58ca_floatToIntBits_5c35a 1 = .ok (.invokestatic 59, 3) := by decide +kernel
theorem dJxf58ca_floatToIntBits_5c35a_4 : decode cJxf58ca_floatToIntBits_5c35a 4 = .ok (.ifCond .ne 8, 3) := by decide +kernel
theorem dJxf58ca_floatToIntBits_5c35a_7 : decode cJxf58ca_floatToIntBits_5c35a 7 = .ok (.fload_n 0, 1) := by decide +kernel
theorem dJxf58ca_floatToIntBits_5c35a_8 : decode cJxf58ca_floatToIntBits_5c35a 8 = .ok (.invokestatic 74, 3) := by decide +kernel
theorem dJxf58ca_floatToIntBits_5c35a_11 : decode cJxf58ca_floatToIntBits_5c35a 11 = .ok (.ireturn, 1) := by decide +kernel
theorem dJxf58ca_floatToIntBits_5c35a_12 : decode cJxf58ca_floatToIntBits_5c35a 12 = .ok (.ldc 77, 2) := by decide +kernel
theorem dJxf58ca_floatToIntBits_5c35a_14 : decode cJxf58ca_floatToIntBits_5c35a 14 = .ok (.ireturn, 1) := by decide +kernel
theorem dJ6_bitCount_0f7a4_0 : decode cJ6_bitCount_0f7a4 0 = .ok (.iload_n 0, 1) := by decide +kernel
theorem dJ6_bitCount_0f7a4_1 : decode cJ6_bitCount_0f7a4 1 = .ok (.iload_n 0, 1) := by decide +kernel
theorem dJ6_bitCount_0f7a4_2 : decode cJ6_bitCount_0f7a4 2 = .ok (.iconst 1, 1) := by decide +kernel
theorem dJ6_bitCount_0f7a4_3 : decode cJ6_bitCount_0f7a4 3 = .ok (.iushr, 1) := by decide +kernel
theorem dJ6_bitCount_0f7a4_4 : decode cJ6_bitCount_0f7a4 4 = .ok (.ldc_w 265, 3) := by decide +kernel
theorem dJ6_bitCount_0f7a4_7 : decode cJ6_bitCount_0f7a4 7 = .ok (.iand, 1) := by decide +kernel
theorem dJ6_bitCount_0f7a4_8 : decode cJ6_bitCount_0f7a4 8 = .ok (.isub, 1) := by decide +kernel
theorem dJ6_bitCount_0f7a4_9 : decode cJ6_bitCount_0f7a4 9 = .ok (.istore_n 0, 1) := by decide +kernel
theorem dJ6_bitCount_0f7a4_10 : decode cJ6_bitCount_0f7a4 10 = .ok (.iload_n 0, 1) := by decide +kernel
theorem dJ6_bitCount_0f7a4_11 : decode cJ6_bitCount_0f7a4 11 = .ok (.ldc_w 266, 3) := by decide +kernel
theorem dJ6_bitCount_0f7a4_14 : decode cJ6_bitCount_0f7a4 14 = .ok (.iand, 1) := by decide +kernel
theorem dJ6_bitCount_0f7a4_15 : decode cJ6_bitCount_0f7a4 15 = .ok (.iload_n 0, 1) := by decide +kernel
theorem dJ6_bitCount_0f7a4_16 : decode cJ6_bitCount_0f7a4 16 = .ok (.iconst 2, 1) := by decide +kernel
theorem dJ6_bitCount_0f7a4_17 : decode cJ6_bitCount_0f7a4 17 = .ok (.iushr, 1) := by decide +kernel
theorem dJ6_bitCount_0f7a4_18 : decode cJ6_bitCount_0f7a4 18 = .ok (.ldc_w 266, 3) := by decide +kernel
theorem dJ6_bitCount_0f7a4_21 : decode cJ6_bitCount_0f7a4 21 = .ok (.iand, 1) := by decide +kernel
theorem dJ6_bitCount_0f7a4_22 : decode cJ6_bitCount_0f7a4 22 = .ok (.iadd, 1) := by decide +kernel
theorem dJ6_bitCount_0f7a4_23 : decode cJ6_bitCount_0f7a4 23 = .ok (.istore_n 0, 1) := by decide +kernel
theorem dJ6_bitCount_0f7a4_24 : decode cJ6_bitCount_0f7a4 24 = .ok (.iload_n 0, 1) := by decide +kernel
theorem dJ6_bitCount_0f7a4_25 : decode cJ6_bitCount_0f7a4 25 = .ok (.iload_n 0, 1) := by decide +kernel
theorem dJ6_bitCount_0f7a4_26 : decode cJ6_bitCount_0f7a4 26 = .ok (.iconst 4, 1) := by decide +kernel
theorem dJ6_bitCount_0f7a4_27 : decode cJ6_bitCount_0f7a4 27 = .ok (.iushr, 1) := by decide +kernel
theorem dJ6_bitCount_0f7a4_28 : decode cJ6_bitCount_0f7a4 28 = .ok (.iadd, 1) := by decide +kernel
theorem dJ6_bitCount_0f7a4_29 : decode cJ6_bitCount_0f7a4 29 = .ok (.ldc_w 267, 3) := by decide +kernel
theorem dJ6_bitCount_0f7a4_32 : decode cJ6_bitCount_0f7a4 32 = .ok (.iand, 1) := by decide +kernel
theorem dJ6_bitCount_0f7a4_33 : decode cJ6_bitCount_0f7a4 33 = .ok (.istore_n 0, 1) := by decide +kernel
theorem dJ6_bitCount_0f7a4_34 : decode cJ6_bitCount_0f7a4 34 = .ok (.iload_n 0, 1) := by decide +kernel
theorem dJ6_bitCount_0f7a4_35 : decode cJ6_bitCount_0f7a4 35 = .ok (.iload_n 0, 1) := by decide +kernel
theorem dJ6_bitCount_0f7a4_36 : decode cJ6_bitCount_0f7a4 36 = .ok (.bipush 8, 2) := by decide +kernel
theorem dJ6_bitCount_0f7a4_38 : decode cJ6_bitCount_0f7a4 38 = .ok (.iushr, 1) := by decide +kernel
theorem dJ6_bitCount_0f7a4_39 : decode cJ6_bitCount_0f7a4 39 = .ok (.iadd, 1) := by decide +kernel
theorem dJ6_bitCount_0f7a4_40 : decode cJ6_bitCount_0f7a4 40 = .ok (.istore_n 0, 1) := by decide +kernel
theorem dJ6_bitCount_0f7a4_41 : decode cJ6_bitCount_0f7a4 41 = .ok (.iload_n 0, 1) := by decide +kernel
theorem dJ6_bitCount_0f7a4_42 : decode cJ6_bitCount_0f7a4 42 = .ok (.iload_n 0, 1) := by decide +kernel
theorem dJ6_bitCount_0f7a4_43 : decode cJ6_bitCount_0f7a4 43 = .ok (.bipush 16, 2) := by decide +kernel
theorem dJ6_bitCount_0f7a4_45 : decode cJ6_bitCount_0f7a4 45 = .ok (.iushr, 1) := by decide +kernel
theorem dJ6_bitCount_0f7a4_46 : decode cJ6_bitCount_0f7a4 46 = .ok (.iadd, 1) := by decide +kernel
theorem dJ6_bitCount_0f7a4_47 : decode cJ6_bitCount_0f7a4 47 = .ok (.istore_n 0, 1) := by decide +kernel
theorem dJ6_bitCount_0f7a4_48 : decode cJ6_bitCount_0f7a4 48 = .ok (.iload_n 0, 1) := by decide +kernel
theorem dJ6_bitCount_0f7a4_49 : decode cJ6_bitCount_0f7a4 49 = .ok (.bipush 63, 2) := by decide +kernel
theorem dJ6_bitCount_0f7a4_51 : decode cJ6_bitCount_0f7a4 51 = .ok (.iand, 1) := by decide +kernel
theorem dJ6_bitCount_0f7a4_52 : decode cJ6_bitCount_0f7a4 52 = .ok (.ireturn, 1) := by decide +kernel
theorem dJ13_bitCount_95d88_0 : decode cJ13_bitCount_95d88 0 = .ok (.lload_n 0, 1) := by decide +kernel
theorem dJ13_bitCount_95d88_1 : decode cJ13_bitCount_95d88 1 = .ok (.lload_n 0, 1) := by decide +kernel
theorem dJ13_bitCount_95d88_2 : decode cJ13_bitCount_95d88 2 = .ok (.iconst 1, 1) := by decide +kernel
theorem dJ13_bitCount_95d88_3 : decode cJ13_bitCount_95d88 3 = .ok (.lushr, 1) := by decide +kernel
theorem dJ13_bitCount_95d88_4 : decode cJ13_bitCount_95d88 4 = .ok (.ldc2_w 314, 3) := by decide +kernel
theorem dJ13_bitCount_95d88_7 : decode cJ13_bitCount_95d88 7 = .ok (.land, 1) := by decide +kernel
theorem dJ13_bitCount_95d88_8 : decode cJ13_bitCount_95d88 8 = .ok (.lsub, 1) := by decide +kernel
theorem dJ13_bitCount_95d88_9 : decode cJ13_bitCount_95d88 9 = .ok (.lstore_n 0, 1) := by decide +kernel
theorem dJ13_bitCount_95d88_10 : decode cJ13_bitCount_95d88 10 = .ok (.lload_n 0, 1) := by decide +kernel
theorem dJ13_bitCount_95d88_11 : decode cJ13_bitCount_95d88 11 = .ok (.ldc2_w 316, 3) := by decide +kernel
theorem dJ13_bitCount_95d88_14 : decode cJ13_bitCount_95d88 14 = .ok (.land, 1) := by decide +kernel
theorem dJ13_bitCount_95d88_15 : decode cJ13_bitCount_95d88 15 = .ok (.lload_n 0, 1) := by decide +kernel
theorem dJ13_bitCount_95d88_16 : decode cJ13_bitCount_95d88 16 = .ok (.iconst 2, 1) := by decide +kernel
theorem dJ13_bitCount_95d88_17 : decode cJ13_bitCount_95d88 17 = .ok (.lushr, 1) := by decide +kernel
theorem dJ13_bitCount_95d88_18 : decode cJ13_bitCount_95d88 18 = .ok (.ldc2_w 316, 3) := by decide +kernel
theorem dJ13_bitCount_95d88_21 : decode cJ13_bitCount_95d88 21 = .ok (.land, 1) := by decide +kernel
theorem dJ13_bitCount_95d88_22 : decode cJ13_bitCount_95d88 22 = .ok (.ladd, 1) := by decide +kernel
theorem dJ13_bitCount_95d88_23 : decode cJ13_bitCount_95d88 23 = .ok (.lstore_n 0, 1) := by decide +kernel
theorem dJ13_bitCount_95d88_24 : decode cJ13_bitCount_95d88 24 = .ok (.lload_n 0, 1) := by decide +kernel
theorem dJ13_bitCount_95d88_25 : decode cJ13_bitCount_95d88 25 = .ok (.lload_n 0, 1) := by decide +kernel
theorem dJ13_bitCount_95d88_26 : decode cJ13_bitCount_95d88 26 = .ok (.iconst 4, 1) := by decide +kernel
theorem dJ13_bitCount_95d88_27 : decode cJ13_bitCount_95d88 27 = .ok (.lushr, 1) := by decide +kernel
theorem dJ13_bitCount_95d88_28 : decode cJ13_bitCount_95d88 28 = .ok (.ladd, 1) := by decide +kernel
theorem dJ13_bitCount_95d88_29 : decode cJ13_bitCount_95d88 29 = .ok (.ldc2_w 318, 3) := by decide +kernel
theorem dJ13_bitCount_95d88_32 : decode cJ13_bitCount_95d88 32 = .ok (.land, 1) := by decide +kernel
theorem dJ13_bitCount_95d88_33 : decode cJ13_bitCount_95d88 33 = .ok (.lstore_n 0, 1) := by decide +kernel
theorem dJ13_bitCount_95d88_34 : decode cJ13_bitCount_95d88 34 = .ok (.lload_n 0, 1) := by decide +kernel
theorem dJ13_bitCount_95d88_35 : decode cJ13_bitCount_95d88 35 = .ok (.lload_n 0, 1) := by decide +kernel
theorem dJ13_bitCount_95d88_36 : decode cJ13_bitCount_95d88 36 = .ok (.bipush 8, 2) := by decide +kernel
theorem dJ13_bitCount_95d88_38 : decode cJ13_bitCount_95d88 38 = .ok (.lushr, 1) := by decide +kernel
theorem dJ13_bitCount_95d88_39 : decode cJ13_bitCount_95d88 39 = .ok (.ladd, 1) := by decide +kernel
theorem dJ13_bitCount_95d88_40 : decode cJ13_bitCount_95d88 40 = .ok (.lstore_n 0, 1) := by decide +kernel
theorem dJ13_bitCount_95d88_41 : decode cJ13_bitCount_95d88 41 = .ok (.lload_n 0, 1) := by decide +kernel
theorem dJ13_bitCount_95d88_42 : decode cJ13_bitCount_95d88 42 = .ok (.lload_n 0, 1) := by decide +kernel
theorem dJ13_bitCount_95d88_43 : decode cJ13_bitCount_95d88 43 = .ok (.bipush 16, 2) := by decide +kernel
theorem dJ13_bitCount_95d88_45 : decode cJ13_bitCount_95d88 45 = .ok (.lushr, 1) := by decide +kernel
theorem dJ13_bitCount_95d88_46 : decode cJ13_bitCount_95d88 46 = .ok (.ladd, 1) := by decide +kernel
theorem dJ13_bitCount_95d88_47 : decode cJ13_bitCount_95d88 47 = .ok (.lstore_n 0, 1) := by decide +kernel
theorem dJ13_bitCount_95d88_48 : decode cJ13_bitCount_95d88 48 = .ok (.lload_n 0, 1) := by decide +kernel
theorem dJ13_bitCount_95d88_49 : decode cJ13_bitCount_95d88 49 = .ok (.lload_n 0, 1) := by decide +kernel
theorem dJ13_bitCount_95d88_50 : decode cJ13_bitCount_95d88 50 = .ok (.bipush 32, 2) := by decide +kernel
theorem dJ13_bitCount_95d88_52 : decode cJ13_bitCount_95d88 52 = .ok (.lushr, 1) := by decide +kernel
theorem dJ13_bitCount_95d88_53 : decode cJ13_bitCount_95d88 53 = .ok (.ladd, 1) := by decide +kernel
theorem dJ13_bitCount_95d88_54 : decode cJ13_bitCount_95d88 54 = .ok (.lstore_n 0, 1) := by decide +kernel
theorem dJ13_bitCount_95d88_55 : decode cJ13_bitCount_95d88 55 = .ok (.lload_n 0, 1) := by decide +kernel
theorem dJ13_bitCount_95d88_56 : decode cJ13_bitCount_95d88 56 = .ok (.l2i, 1) := by decide +kernel
theorem dJ13_bitCount_95d88_57 : decode cJ13_bitCount_95d88 57 = .ok (.bipush 127, 2) := by decide +kernel
theorem dJ13_bitCount_95d88_59 : decode cJ13_bitCount_95d88 59 = .ok (.iand, 1) := by decide +kernel
theorem dJ13_bitCount_95d88_60 : decode cJ13_bitCount_95d88 60 = .ok (.ireturn, 1) := by decide +kernel
theorem dJ9_abs_0f7a4_0 : decode cJ9_abs_0f7a4 0 = .ok (.iload_n 0, 1) := by decide +kernel
theorem dJ9_abs_0f7a4_1 : decode cJ9_abs_0f7a4 1 = .ok (.ifCond .ge 8, 3) := by decide +kernel
theorem dJ9_abs_0f7a4_4 : decode cJ9_abs_0f7a4 4 = .ok (.iload_n 0, 1) := by decide +kernel
theorem dJ9_abs_0f7a4_5 : decode cJ9_abs_0f7a4 5 = .ok (.ineg, 1) := by decide +kernel
theorem dJ9_abs_0f7a4_6 : decode cJ9_abs_0f7a4 6 = .ok (.goto 4, 3) := by decide +kernel
theorem dJ9_abs_0f7a4_9 : decode cJ9_abs_0f7a4 9 = .ok (.iload_n 0, 1) := by decide +kernel
theorem dJ9_abs_0f7a4_10 : decode cJ9_abs_0f7a4 10 = .ok (.ireturn, 1) := by decide +kernel
theorem dJ9_max_7cf53_0 : decode cJ9_max_7cf53 0 = .ok (.iload_n 0, 1) := by decide +kernel
theorem dJ9_max_7cf53_1 : decode cJ9_max_7cf53 1 = .ok (.iload_n 1, 1) := by decide +kernel
theorem dJ9_max_7cf53_2 : decode cJ9_max_7cf53 2 = .ok (.if_icmp .lt 7, 3) := by decide +kernel
theorem dJ9_max_7cf53_5 : decode cJ9_max_7cf53 5 = .ok (.iload_n 0, 1) := by decide +kernel
theorem dJ9_max_7cf53_6 : decode cJ9_max_7cf53 6 = .ok (.goto 4, 3) := by decide +kernel
theorem dJ9_max_7cf53_9 : decode cJ9_max_7cf53 9 = .ok (.iload_n 1, 1) := by decide +kernel
theorem dJ9_max_7cf53_10 : decode cJ9_max_7cf53 10 = .ok (.ireturn, 1) := by decide +kernel
theorem dJ9_min_7cf53_0 : decode cJ9_min_7cf53 0 = .ok (.iload_n 0, 1) := by decide +kernel
theorem dJ9_min_7cf53_1 : decode cJ9_min_7cf53 1 = .ok (.iload_n 1, 1) := by decide +kernel
theorem dJ9_min_7cf53_2 : decode cJ9_min_7cf53 2 = .ok (.if_icmp .gt 7, 3) := by decide +kernel
theorem dJ9_min_7cf53_5 : decode cJ9_min_7cf53 5 = .ok (.iload_n 0, 1) := by decide +kernel
theorem dJ9_min_7cf53_6 : decode cJ9_min_7cf53 6 = .ok (.goto 4, 3) := by decide +kernel
theorem dJ9_min_7cf53_9 : decode cJ9_min_7cf53 9 = .ok (.iload_n 1, 1) := by decide +kernel
theorem dJ9_min_7cf53_10 : decode cJ9_min_7cf53 10 = .ok (.ireturn, 1) := by decide +kernel
