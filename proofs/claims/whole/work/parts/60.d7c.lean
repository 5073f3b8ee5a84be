theorem dX7_air_28 : decode cX7_air 28 = .ok (.invokevirtual 320, 3) := by decide +kernel
theorem dX7_air_31 : decode cX7_air 31 = .ok (.ifCond .eq 8, 3) := by decide +kernel
theorem dX7_air_34 : decode cX7_air 34 = .ok (.bipush (-2), 2) := by decide +kernel
theorem dX7_air_36 : decode cX7_air 36 = .ok (.goto 4, 3) := by decide +kernel
theorem dX7_air_39 : decode cX7_air 39 = .ok (.iconst (-1), 1) := by decide +kernel
theorem dX7_air_40 : decode cX7_air 40 = .ok (.invokevirtual 219, 3) := by decide +kernel
theorem dX7_air_43 : decode cX7_air 43 = .ok (.ireturn, 1) := by decide +kernel
theorem dX7_air_44 : decode cX7_air 44 = .ok (.iload_n 2, 1) := by decide +kernel
theorem dX7_air_45 : decode cX7_air 45 = .ok (.tableswitch 70 0 4 #[35, 42, 49, 56, 63], 35) := by decide +kernel
theorem dX7_air_80 : decode cX7_air 80 = .ok (.aload_n 0, 1) := by decide +kernel
theorem dX7_air_81 : decode cX7_air 81 = .ok (.getfield 17, 3) := by decide +kernel
theorem dX7_air_84 : decode cX7_air 84 = .ok (.iload_n 1, 1) := by decide +kernel
theorem dX7_air_85 : decode cX7_air 85 = .ok (.iaload, 1) := by decide +kernel
theorem dX7_air_86 : decode cX7_air 86 = .ok (.ireturn, 1) := by decide +kernel
theorem dX7_air_87 : decode cX7_air 87 = .ok (.aload_n 0, 1) := by decide +kernel
theorem dX7_air_88 : decode cX7_air 88 = .ok (.getfield 20, 3) := by decide +kernel
theorem dX7_air_91 : decode cX7_air 91 = .ok (.iload_n 1, 1) := by decide +kernel
theorem dX7_air_92 : decode cX7_air 92 = .ok (.iaload, 1) := by decide +kernel
theorem dX7_air_93 : decode cX7_air 93 = .ok (.ireturn, 1) := by decide +kernel
theorem dX7_air_94 : decode cX7_air 94 = .ok (.aload_n 0, 1) := by decide +kernel
theorem dX7_air_95 : decode cX7_air 95 = .ok (.getfield 23, 3) := by decide +kernel
theorem dX7_air_98 : decode cX7_air 98 = .ok (.iload_n 1, 1) := by decide +kernel
theorem dX7_air_99 : decode cX7_air 99 = .ok (.iaload, 1) := by decide +kernel
theorem dX7_air_100 : decode cX7_air 100 = .ok (.ireturn, 1) := by decide +kernel
theorem dX7_air_101 : decode cX7_air 101 = .ok (.aload_n 0, 1) := by decide +kernel
theorem dX7_air_102 : decode cX7_air 102 = .ok (.getfield 26, 3) := by decide +kernel
theorem dX7_air_105 : decode cX7_air 105 = .ok (.iload_n 1, 1) := by decide +kernel
theorem dX7_air_106 : decode cX7_air 106 = .ok (.iaload, 1) := by decide +kernel
theorem dX7_air_107 : decode cX7_air 107 = .ok (.ireturn, 1) := by decide +kernel
theorem dX7_air_108 : decode cX7_air 108 = .ok (.aload_n 0, 1) := by decide +kernel
theorem dX7_air_109 : decode cX7_air 109 = .ok (.getfield 29, 3) := by decide +kernel
theorem dX7_air_112 : decode cX7_air 112 = .ok (.iload_n 1, 1) := by decide +kernel
theorem dX7_air_113 : decode cX7_air 113 = .ok (.iaload, 1) := by decide +kernel
theorem dX7_air_114 : decode cX7_air 114 = .ok (.ireturn, 1) := by decide +kernel
theorem dX7_air_115 : decode cX7_air 115 = .ok (.aload_n 0, 1) := by decide +kernel
theorem dX7_air_116 : decode cX7_air 116 = .ok (.iload_n 1, 1) := by decide +kernel
theorem dX7_air_117 : decode cX7_air 117 = .ok (.invokevirtual 189, 3) := by decide +kernel
theorem dX7_air_120 : decode cX7_air 120 = .ok (.ireturn, 1) := by decide +kernel
theorem dX7_sitter_0 : decode cX7_sitter 0 = .ok (.aload_n 0, 1) := by decide +kernel
theorem dX7_sitter_1 : decode cX7_sitter 1 = .ok (.iconst 0, 1) := by decide +kernel
theorem dX7_sitter_2 : decode cX7_sitter 2 = .ok (.putfield 114, 3) := by decide +kernel
theorem dX7_sitter_5 : decode cX7_sitter 5 = .ok (.aload_n 0, 1) := by decide +kernel
theorem dX7_sitter_6 : decode cX7_sitter 6 = .ok (.iload_n 1, 1) := by decide +kernel
theorem dX7_sitter_7 : decode cX7_sitter 7 = .ok (.invokevirtual 323, 3) := by decide +kernel
theorem dX7_sitter_10 : decode cX7_sitter 10 = .ok (.ifCond .eq 15, 3) := by decide +kernel
theorem dX7_sitter_13 : decode cX7_sitter 13 = .ok (.iload_n 2, 1) := by decide +kernel
theorem dX7_sitter_14 : decode cX7_sitter 14 = .ok (.i2l, 1) := by decide +kernel
theorem dX7_sitter_15 : decode cX7_sitter 15 = .ok (.lconst 0, 1) := by decide +kernel
theorem dX7_sitter_16 : decode cX7_sitter 16 = .ok (.ldc2_w 326, 3) := by decide +kernel
theorem dX7_sitter_19 : decode cX7_sitter 19 = .ok (.invokestatic 122, 3) := by decide +kernel
theorem dX7_sitter_22 : decode cX7_sitter 22 = .ok (.ifCond .ne 22, 3) := by decide +kernel
theorem dX7_sitter_25 : decode cX7_sitter 25 = .ok (.aload_n 0, 1) := by decide +kernel
theorem dX7_sitter_26 : decode cX7_sitter 26 = .ok (.aload_n 0, 1) := by decide +kernel
theorem dX7_sitter_27 : decode cX7_sitter 27 = .ok (.iload_n 1, 1) := by decide +kernel
theorem dX7_sitter_28 : decode cX7_sitter 28 = .ok (.invokevirtual 323, 3) := by decide +kernel
theorem dX7_sitter_31 : decode cX7_sitter 31 = .ok (.ifCond .eq 8, 3) := by decide +kernel
theorem dX7_sitter_34 : decode cX7_sitter 34 = .ok (.bipush (-2), 2) := by decide +kernel
theorem dX7_sitter_36 : decode cX7_sitter 36 = .ok (.goto 4, 3) := by decide +kernel
theorem dX7_sitter_39 : decode cX7_sitter 39 = .ok (.iconst (-1), 1) := by decide +kernel
theorem dX7_sitter_40 : decode cX7_sitter 40 = .ok (.invokevirtual 219, 3) := by decide +kernel
theorem dX7_sitter_43 : decode cX7_sitter 43 = .ok (.ireturn, 1) := by decide +kernel
theorem dX7_sitter_44 : decode cX7_sitter 44 = .ok (.iload_n 2, 1) := by decide +kernel
theorem dX7_sitter_45 : decode cX7_sitter 45 = .ok (.ifCond .ne 12, 3) := by decide +kernel
theorem dX7_sitter_48 : decode cX7_sitter 48 = .ok (.aload_n 0, 1) := by decide +kernel
theorem dX7_sitter_49 : decode cX7_sitter 49 = .ok (.getfield 32, 3) := by decide +kernel
theorem dX7_sitter_52 : decode cX7_sitter 52 = .ok (.iload_n 1, 1) := by decide +kernel
theorem dX7_sitter_53 : decode cX7_sitter 53 = .ok (.iaload, 1) := by decide +kernel
theorem dX7_sitter_54 : decode cX7_sitter 54 = .ok (.goto 23, 3) := by decide +kernel
theorem dX7_sitter_57 : decode cX7_sitter 57 = .ok (.iload_n 2, 1) := by decide +kernel
theorem dX7_sitter_58 : decode cX7_sitter 58 = .ok (.iconst 1, 1) := by decide +kernel
theorem dX7_sitter_59 : decode cX7_sitter 59 = .ok (.if_icmp .ne 12, 3) := by decide +kernel
theorem dX7_sitter_62 : decode cX7_sitter 62 = .ok (.aload_n 0, 1) := by decide +kernel
theorem dX7_sitter_63 : decode cX7_sitter 63 = .ok (.getfield 35, 3) := by decide +kernel
theorem dX7_sitter_66 : decode cX7_sitter 66 = .ok (.iload_n 1, 1) := by decide +kernel
theorem dX7_sitter_67 : decode cX7_sitter 67 = .ok (.iaload, 1) := by decide +kernel
theorem dX7_sitter_68 : decode cX7_sitter 68 = .ok (.goto 9, 3) := by decide +kernel
theorem dX7_sitter_71 : decode cX7_sitter 71 = .ok (.aload_n 0, 1) := by decide +kernel
theorem dX7_sitter_72 : decode cX7_sitter 72 = .ok (.getfield 38, 3) := by decide +kernel
theorem dX7_sitter_75 : decode cX7_sitter 75 = .ok (.iload_n 1, 1) := by decide +kernel
theorem dX7_sitter_76 : decode cX7_sitter 76 = .ok (.iaload, 1) := by decide +kernel
theorem dX7_sitter_77 : decode cX7_sitter 77 = .ok (.ireturn, 1) := by decide +kernel
theorem dX7_cell_0 : decode cX7_cell 0 = .ok (.aload_n 0, 1) := by decide +kernel
theorem dX7_cell_1 : decode cX7_cell 1 = .ok (.iconst 0, 1) := by decide +kernel
theorem dX7_cell_2 : decode cX7_cell 2 = .ok (.putfield 114, 3) := by decide +kernel
theorem dX7_cell_5 : decode cX7_cell 5 = .ok (.iload_n 1, 1) := by decide +kernel
theorem dX7_cell_6 : decode cX7_cell 6 = .ok (.invokestatic 216, 3) := by decide +kernel
theorem dX7_cell_9 : decode cX7_cell 9 = .ok (.ifCond .eq 15, 3) := by decide +kernel
theorem dX7_cell_12 : decode cX7_cell 12 = .ok (.iload_n 2, 1) := by decide +kernel
theorem dX7_cell_13 : decode cX7_cell 13 = .ok (.i2l, 1) := by decide +kernel
theorem dX7_cell_14 : decode cX7_cell 14 = .ok (.lconst 0, 1) := by decide +kernel
theorem dX7_cell_15 : decode cX7_cell 15 = .ok (.ldc2_w 328, 3) := by decide +kernel
theorem dX7_cell_18 : decode cX7_cell 18 = .ok (.invokestatic 122, 3) := by decide +kernel
theorem dX7_cell_21 : decode cX7_cell 21 = .ok (.ifCond .ne 21, 3) := by decide +kernel
theorem dX7_cell_24 : decode cX7_cell 24 = .ok (.aload_n 0, 1) := by decide +kernel
theorem dX7_cell_25 : decode cX7_cell 25 = .ok (.iload_n 1, 1) := by decide +kernel
theorem dX7_cell_26 : decode cX7_cell 26 = .ok (.invokestatic 216, 3) := by decide +kernel
theorem dX7_cell_29 : decode cX7_cell 29 = .ok (.ifCond .eq 8, 3) := by decide +kernel
theorem dX7_cell_32 : decode cX7_cell 32 = .ok (.bipush (-2), 2) := by decide +kernel
theorem dX7_cell_34 : decode cX7_cell 34 = .ok (.goto 4, 3) := by decide +kernel
theorem dX7_cell_37 : decode cX7_cell 37 = .ok (.iconst (-1), 1) := by decide +kernel
theorem dX7_cell_38 : decode cX7_cell 38 = .ok (.invokevirtual 219, 3) := by decide +kernel
theorem dX7_cell_41 : decode cX7_cell 41 = .ok (.ireturn, 1) := by decide +kernel
theorem dX7_cell_42 : decode cX7_cell 42 = .ok (.iload_n 2, 1) := by decide +kernel
theorem dX7_cell_43 : decode cX7_cell 43 = .ok (.tableswitch 62 0 3 #[29, 36, 50, 56], 29) := by decide +kernel
theorem dX7_cell_72 : decode cX7_cell 72 = .ok (.aload_n 0, 1) := by decide +kernel
theorem dX7_cell_73 : decode cX7_cell 73 = .ok (.getfield 13, 3) := by decide +kernel
theorem dX7_cell_76 : decode cX7_cell 76 = .ok (.iload_n 1, 1) := by decide +kernel
theorem dX7_cell_77 : decode cX7_cell 77 = .ok (.iaload, 1) := by decide +kernel
theorem dX7_cell_78 : decode cX7_cell 78 = .ok (.ireturn, 1) := by decide +kernel
theorem dX7_cell_79 : decode cX7_cell 79 = .ok (.aload_n 0, 1) := by decide +kernel
theorem dX7_cell_80 : decode cX7_cell 80 = .ok (.iload_n 1, 1) := by decide +kernel
theorem dX7_cell_81 : decode cX7_cell 81 = .ok (.invokevirtual 179, 3) := by decide +kernel
theorem dX7_cell_84 : decode cX7_cell 84 = .ok (.ifCond .eq 7, 3) := by decide +kernel
theorem dX7_cell_87 : decode cX7_cell 87 = .ok (.iconst 1, 1) := by decide +kernel
theorem dX7_cell_88 : decode cX7_cell 88 = .ok (.goto 4, 3) := by decide +kernel
theorem dX7_cell_91 : decode cX7_cell 91 = .ok (.iconst 0, 1) := by decide +kernel
theorem dX7_cell_92 : decode cX7_cell 92 = .ok (.ireturn, 1) := by decide +kernel
theorem dX7_cell_93 : decode cX7_cell 93 = .ok (.aload_n 0, 1) := by decide +kernel
theorem dX7_cell_94 : decode cX7_cell 94 = .ok (.iload_n 1, 1) := by decide +kernel
theorem dX7_cell_95 : decode cX7_cell 95 = .ok (.invokevirtual 152, 3) := by decide +kernel
theorem dX7_cell_98 : decode cX7_cell 98 = .ok (.ireturn, 1) := by decide +kernel
theorem dX7_cell_99 : decode cX7_cell 99 = .ok (.aload_n 0, 1) := by decide +kernel
theorem dX7_cell_100 : decode cX7_cell 100 = .ok (.iload_n 1, 1) := by decide +kernel
theorem dX7_cell_101 : decode cX7_cell 101 = .ok (.invokevirtual 156, 3) := by decide +kernel
theorem dX7_cell_104 : decode cX7_cell 104 = .ok (.ireturn, 1) := by decide +kernel
theorem dX7_cell_105 : decode cX7_cell 105 = .ok (.aload_n 0, 1) := by decide +kernel
theorem dX7_cell_106 : decode cX7_cell 106 = .ok (.getfield 7, 3) := by decide +kernel
theorem dX7_cell_109 : decode cX7_cell 109 = .ok (.iload_n 1, 1) := by decide +kernel
theorem dX7_cell_110 : decode cX7_cell 110 = .ok (.faload, 1) := by decide +kernel
theorem dX7_cell_111 : decode cX7_cell 111 = .ok (.f2i, 1) := by decide +kernel
theorem dX7_cell_112 : decode cX7_cell 112 = .ok (.ireturn, 1) := by decide +kernel
theorem dX7_warm_0 : decode cX7_warm 0 = .ok (.aload_n 0, 1) := by decide +kernel
theorem dX7_warm_1 : decode cX7_warm 1 = .ok (.iconst 0, 1) := by decide +kernel
theorem dX7_warm_2 : decode cX7_warm 2 = .ok (.putfield 114, 3) := by decide +kernel
theorem dX7_warm_5 : decode cX7_warm 5 = .ok (.iload_n 1, 1) := by decide +kernel
theorem dX7_warm_6 : decode cX7_warm 6 = .ok (.invokestatic 216, 3) := by decide +kernel
theorem dX7_warm_9 : decode cX7_warm 9 = .ok (.ifCond .eq 15, 3) := by decide +kernel
theorem dX7_warm_12 : decode cX7_warm 12 = .ok (.aload_n 0, 1) := by decide +kernel
theorem dX7_warm_13 : decode cX7_warm 13 = .ok (.getfield 7, 3) := by decide +kernel
theorem dX7_warm_16 : decode cX7_warm 16 = .ok (.iload_n 1, 1) := by decide +kernel
theorem dX7_warm_17 : decode cX7_warm 17 = .ok (.faload, 1) := by decide +kernel
theorem dX7_warm_18 : decode cX7_warm 18 = .ok (.invokestatic 330, 3) := by decide +kernel
theorem dX7_warm_21 : decode cX7_warm 21 = .ok (.goto 4, 3) := by decide +kernel
theorem dX7_warm_24 : decode cX7_warm 24 = .ok (.iconst 0, 1) := by decide +kernel
theorem dX7_warm_25 : decode cX7_warm 25 = .ok (.ireturn, 1) := by decide +kernel
theorem dX7_comes_0 : decode cX7_comes 0 = .ok (.aload_n 0, 1) := by decide +kernel
theorem dX7_comes_1 : decode cX7_comes 1 = .ok (.iconst 0, 1) := by decide +kernel
theorem dX7_comes_2 : decode cX7_comes 2 = .ok (.putfield 114, 3) := by decide +kernel
theorem dX7_comes_5 : decode cX7_comes 5 = .ok (.iload_n 1, 1) := by decide +kernel
theorem dX7_comes_6 : decode cX7_comes 6 = .ok (.i2l, 1) := by decide +kernel
theorem dX7_comes_7 : decode cX7_comes 7 = .ok (.lconst 0, 1) := by decide +kernel
theorem dX7_comes_8 : decode cX7_comes 8 = .ok (.ldc2_w 336, 3) := by decide +kernel
theorem dX7_comes_11 : decode cX7_comes 11 = .ok (.invokestatic 122, 3) := by decide +kernel
theorem dX7_comes_14 : decode cX7_comes 14 = .ok (.ifCond .ne 10, 3) := by decide +kernel
theorem dX7_comes_17 : decode cX7_comes 17 = .ok (.aload_n 0, 1) := by decide +kernel
theorem dX7_comes_18 : decode cX7_comes 18 = .ok (.bipush (-2), 2) := by decide +kernel
theorem dX7_comes_20 : decode cX7_comes 20 = .ok (.invokevirtual 219, 3) := by decide +kernel
theorem dX7_comes_23 : decode cX7_comes 23 = .ok (.ireturn, 1) := by decide +kernel
theorem dX7_comes_24 : decode cX7_comes 24 = .ok (.iload_n 2, 1) := by decide +kernel
theorem dX7_comes_25 : decode cX7_comes 25 = .ok (.ifCond .lt 17, 3) := by decide +kernel
theorem dX7_comes_28 : decode cX7_comes 28 = .ok (.iload_n 2, 1) := by decide +kernel
theorem dX7_comes_29 : decode cX7_comes 29 = .ok (.bipush 9, 2) := by decide +kernel
theorem dX7_comes_31 : decode cX7_comes 31 = .ok (.if_icmp .gt 11, 3) := by decide +kernel
theorem dX7_comes_34 : decode cX7_comes 34 = .ok (.aload_n 0, 1) := by decide +kernel
theorem dX7_comes_35 : decode cX7_comes 35 = .ok (.getfield 119, 3) := by decide +kernel
theorem dX7_comes_38 : decode cX7_comes 38 = .ok (.iconst 5, 1) := by decide +kernel
theorem dX7_comes_39 : decode cX7_comes 39 = .ok (.if_icmp .ne 19, 3) := by decide +kernel
theorem dX7_comes_42 : decode cX7_comes 42 = .ok (.aload_n 0, 1) := by decide +kernel
theorem dX7_comes_43 : decode cX7_comes 43 = .ok (.iload_n 2, 1) := by decide +kernel
theorem dX7_comes_44 : decode cX7_comes 44 = .ok (.ifCond .ge 8, 3) := by decide +kernel
theorem dX7_comes_47 : decode cX7_comes 47 = .ok (.bipush (-4), 2) := by decide +kernel
theorem dX7_comes_49 : decode cX7_comes 49 = .ok (.goto 5, 3) := by decide +kernel
theorem dX7_comes_52 : decode cX7_comes 52 = .ok (.bipush (-6), 2) := by decide +kernel
theorem dX7_comes_54 : decode cX7_comes 54 = .ok (.invokevirtual 219, 3) := by decide +kernel
theorem dX7_comes_57 : decode cX7_comes 57 = .ok (.ireturn, 1) := by decide +kernel
theorem dX7_comes_58 : decode cX7_comes 58 = .ok (.iload_n 3, 1) := by decide +kernel
theorem dX7_comes_59 : decode cX7_comes 59 = .ok (.invokestatic 216, 3) := by decide +kernel
theorem dX7_comes_62 : decode cX7_comes 62 = .ok (.ifCond .eq 11, 3) := by decide +kernel
theorem dX7_comes_65 : decode cX7_comes 65 = .ok (.aload_n 0, 1) := by decide +kernel
theorem dX7_comes_66 : decode cX7_comes 66 = .ok (.iload_n 3, 1) := by decide +kernel
theorem dX7_comes_67 : decode cX7_comes 67 = .ok (.invokevirtual 179, 3) := by decide +kernel
theorem dX7_comes_70 : decode cX7_comes 70 = .ok (.ifCond .ne 21, 3) := by decide +kernel
theorem dX7_comes_73 : decode cX7_comes 73 = .ok (.aload_n 0, 1) := by decide +kernel
theorem dX7_comes_74 : decode cX7_comes 74 = .ok (.iload_n 3, 1) := by decide +kernel
theorem dX7_comes_75 : decode cX7_comes 75 = .ok (.invokestatic 216, 3) := by decide +kernel
theorem dX7_comes_78 : decode cX7_comes 78 = .ok (.ifCond .eq 8, 3) := by decide +kernel
theorem dX7_comes_81 : decode cX7_comes 81 = .ok (.bipush (-3), 2) := by decide +kernel
theorem dX7_comes_83 : decode cX7_comes 83 = .ok (.goto 4, 3) := by decide +kernel
theorem dX7_comes_86 : decode cX7_comes 86 = .ok (.iconst (-1), 1) := by decide +kernel
theorem dX7_comes_87 : decode cX7_comes 87 = .ok (.invokevirtual 219, 3) := by decide +kernel
theorem dX7_comes_90 : decode cX7_comes 90 = .ok (.ireturn, 1) := by decide +kernel
theorem dX7_comes_91 : decode cX7_comes 91 = .ok (.aload_n 0, 1) := by decide +kernel
theorem dX7_comes_92 : decode cX7_comes 92 = .ok (.iload_n 1, 1) := by decide +kernel
theorem dX7_comes_93 : decode cX7_comes 93 = .ok (.iload_n 2, 1) := by decide +kernel
theorem dX7_comes_94 : decode cX7_comes 94 = .ok (.iload_n 3, 1) := by decide +kernel
theorem dX7_comes_95 : decode cX7_comes 95 = .ok (.iconst 0, 1) := by decide +kernel
theorem dX7_comes_96 : decode cX7_comes 96 = .ok (.invokevirtual 266, 3) := by decide +kernel
theorem dX7_comes_99 : decode cX7_comes 99 = .ok (.pop, 1) := by decide +kernel
theorem dX7_comes_100 : decode cX7_comes 100 = .ok (.aload_n 0, 1) := by decide +kernel
theorem dX7_comes_101 : decode cX7_comes 101 = .ok (.iconst 0, 1) := by decide +kernel
theorem dX7_comes_102 : decode cX7_comes 102 = .ok (.putfield 298, 3) := by decide +kernel
theorem dX7_comes_105 : decode cX7_comes 105 = .ok (.aload_n 0, 1) := by decide +kernel
theorem dX7_comes_106 : decode cX7_comes 106 = .ok (.getfield 119, 3) := by decide +kernel
theorem dX7_comes_109 : decode cX7_comes 109 = .ok (.iconst 1, 1) := by decide +kernel
theorem dX7_comes_110 : decode cX7_comes 110 = .ok (.isub, 1) := by decide +kernel
theorem dX7_comes_111 : decode cX7_comes 111 = .ok (.ireturn, 1) := by decide +kernel
theorem dX7_sitsDown_0 : decode cX7_sitsDown 0 = .ok (.aload_n 0, 1) := by decide +kernel
theorem dX7_sitsDown_1 : decode cX7_sitsDown 1 = .ok (.iconst 0, 1) := by decide +kernel
theorem dX7_sitsDown_2 : decode cX7_sitsDown 2 = .ok (.putfield 114, 3) := by decide +kernel
theorem dX7_sitsDown_5 : decode cX7_sitsDown 5 = .ok (.iload_n 1, 1) := by decide +kernel
theorem dX7_sitsDown_6 : decode cX7_sitsDown 6 = .ok (.invokestatic 216, 3) := by decide +kernel
theorem dX7_sitsDown_9 : decode cX7_sitsDown 9 = .ok (.ifCond .ne 9, 3) := by decide +kernel
theorem dX7_sitsDown_12 : decode cX7_sitsDown 12 = .ok (.aload_n 0, 1) := by decide +kernel
theorem dX7_sitsDown_13 : decode cX7_sitsDown 13 = .ok (.iconst (-1), 1) := by decide +kernel
theorem dX7_sitsDown_14 : decode cX7_sitsDown 14 = .ok (.invokevirtual 219, 3) := by decide +kernel
theorem dX7_sitsDown_17 : decode cX7_sitsDown 17 = .ok (.ireturn, 1) := by decide +kernel
theorem dX7_sitsDown_18 : decode cX7_sitsDown 18 = .ok (.aload_n 0, 1) := by decide +kernel
theorem dX7_sitsDown_19 : decode cX7_sitsDown 19 = .ok (.getfield 126, 3) := by decide +kernel
theorem dX7_sitsDown_22 : decode cX7_sitsDown 22 = .ok (.bipush 6, 2) := by decide +kernel
theorem dX7_sitsDown_24 : decode cX7_sitsDown 24 = .ok (.if_icmp .eq 11, 3) := by decide +kernel
theorem dX7_sitsDown_27 : decode cX7_sitsDown 27 = .ok (.aload_n 0, 1) := by decide +kernel
theorem dX7_sitsDown_28 : decode cX7_sitsDown 28 = .ok (.iload_n 1, 1) := by decide +kernel
theorem dX7_sitsDown_29 : decode cX7_sitsDown 29 = .ok (.invokevirtual 179, 3) := by decide +kernel
theorem dX7_sitsDown_32 : decode cX7_sitsDown 32 = .ok (.ifCond .ne 24, 3) := by decide +kernel
theorem dX7_sitsDown_35 : decode cX7_sitsDown 35 = .ok (.aload_n 0, 1) := by decide +kernel
theorem dX7_sitsDown_36 : decode cX7_sitsDown 36 = .ok (.aload_n 0, 1) := by decide +kernel
theorem dX7_sitsDown_37 : decode cX7_sitsDown 37 = .ok (.getfield 126, 3) := by decide +kernel
theorem dX7_sitsDown_40 : decode cX7_sitsDown 40 = .ok (.bipush 6, 2) := by decide +kernel
theorem dX7_sitsDown_42 : decode cX7_sitsDown 42 = .ok (.if_icmp .ne 8, 3) := by decide +kernel
theorem dX7_sitsDown_45 : decode cX7_sitsDown 45 = .ok (.bipush (-6), 2) := by decide +kernel
theorem dX7_sitsDown_47 : decode cX7_sitsDown 47 = .ok (.goto 5, 3) := by decide +kernel
theorem dX7_sitsDown_50 : decode cX7_sitsDown 50 = .ok (.bipush (-3), 2) := by decide +kernel
theorem dX7_sitsDown_52 : decode cX7_sitsDown 52 = .ok (.invokevirtual 219, 3) := by decide +kernel
theorem dX7_sitsDown_55 : decode cX7_sitsDown 55 = .ok (.ireturn, 1) := by decide +kernel
theorem dX7_sitsDown_56 : decode cX7_sitsDown 56 = .ok (.aload_n 0, 1) := by decide +kernel
theorem dX7_sitsDown_57 : decode cX7_sitsDown 57 = .ok (.iload_n 1, 1) := by decide +kernel
theorem dX7_sitsDown_58 : decode cX7_sitsDown 58 = .ok (.iconst 0, 1) := by decide +kernel
theorem dX7_sitsDown_59 : decode cX7_sitsDown 59 = .ok (.invokevirtual 270, 3) := by decide +kernel
theorem dX7_sitsDown_62 : decode cX7_sitsDown 62 = .ok (.pop, 1) := by decide +kernel
theorem dX7_sitsDown_63 : decode cX7_sitsDown 63 = .ok (.aload_n 0, 1) := by decide +kernel
theorem dX7_sitsDown_64 : decode cX7_sitsDown 64 = .ok (.iconst 0, 1) := by decide +kernel
theorem dX7_sitsDown_65 : decode cX7_sitsDown 65 = .ok (.putfield 298, 3) := by decide +kernel
theorem dX7_sitsDown_68 : decode cX7_sitsDown 68 = .ok (.aload_n 0, 1) := by decide +kernel
theorem dX7_sitsDown_69 : decode cX7_sitsDown 69 = .ok (.getfield 126, 3) := by decide +kernel
theorem dX7_sitsDown_72 : decode cX7_sitsDown 72 = .ok (.iconst 1, 1) := by decide +kernel
theorem dX7_sitsDown_73 : decode cX7_sitsDown 73 = .ok (.isub, 1) := by decide +kernel
theorem dX7_sitsDown_74 : decode cX7_sitsDown 74 = .ok (.ireturn, 1) := by decide +kernel
theorem dX7_shuts_0 : decode cX7_shuts 0 = .ok (.aload_n 0, 1) := by decide +kernel
theorem dX7_shuts_1 : decode cX7_shuts 1 = .ok (.iconst 0, 1) := by decide +kernel
theorem dX7_shuts_2 : decode cX7_shuts 2 = .ok (.putfield 114, 3) := by decide +kernel
theorem dX7_shuts_5 : decode cX7_shuts 5 = .ok (.iload_n 1, 1) := by decide +kernel
theorem dX7_shuts_6 : decode cX7_shuts 6 = .ok (.invokestatic 216, 3) := by decide +kernel
theorem dX7_shuts_9 : decode cX7_shuts 9 = .ok (.ifCond .ne 9, 3) := by decide +kernel
theorem dX7_shuts_12 : decode cX7_shuts 12 = .ok (.aload_n 0, 1) := by decide +kernel
theorem dX7_shuts_13 : decode cX7_shuts 13 = .ok (.iconst (-1), 1) := by decide +kernel
theorem dX7_shuts_14 : decode cX7_shuts 14 = .ok (.invokevirtual 219, 3) := by decide +kernel
theorem dX7_shuts_17 : decode cX7_shuts 17 = .ok (.ireturn, 1) := by decide +kernel
theorem dX7_shuts_18 : decode cX7_shuts 18 = .ok (.aload_n 0, 1) := by decide +kernel
theorem dX7_shuts_19 : decode cX7_shuts 19 = .ok (.getfield 13, 3) := by decide +kernel
theorem dX7_shuts_22 : decode cX7_shuts 22 = .ok (.iload_n 1, 1) := by decide +kernel
theorem dX7_shuts_23 : decode cX7_shuts 23 = .ok (.iaload, 1) := by decide +kernel
theorem dX7_shuts_24 : decode cX7_shuts 24 = .ok (.ifCond .ne 18, 3) := by decide +kernel
theorem dX7_shuts_27 : decode cX7_shuts 27 = .ok (.aload_n 0, 1) := by decide +kernel
theorem dX7_shuts_28 : decode cX7_shuts 28 = .ok (.iload_n 1, 1) := by decide +kernel
theorem dX7_shuts_29 : decode cX7_shuts 29 = .ok (.invokevirtual 159, 3) := by decide +kernel
theorem dX7_shuts_32 : decode cX7_shuts 32 = .ok (.ifCond .ne 10, 3) := by decide +kernel
theorem dX7_shuts_35 : decode cX7_shuts 35 = .ok (.aload_n 0, 1) := by decide +kernel
theorem dX7_shuts_36 : decode cX7_shuts 36 = .ok (.bipush (-3), 2) := by decide +kernel
theorem dX7_shuts_38 : decode cX7_shuts 38 = .ok (.invokevirtual 219, 3) := by decide +kernel
theorem dX7_shuts_41 : decode cX7_shuts 41 = .ok (.ireturn, 1) := by decide +kernel
theorem dX7_shuts_42 : decode cX7_shuts 42 = .ok (.aload_n 0, 1) := by decide +kernel
theorem dX7_shuts_43 : decode cX7_shuts 43 = .ok (.invokevirtual 338, 3) := by decide +kernel
theorem dX7_shuts_46 : decode cX7_shuts 46 = .ok (.aload_n 0, 1) := by decide +kernel
theorem dX7_shuts_47 : decode cX7_shuts 47 = .ok (.getfield 13, 3) := by decide +kernel
theorem dX7_shuts_50 : decode cX7_shuts 50 = .ok (.iload_n 1, 1) := by decide +kernel
theorem dX7_shuts_51 : decode cX7_shuts 51 = .ok (.iconst 1, 1) := by decide +kernel
theorem dX7_shuts_52 : decode cX7_shuts 52 = .ok (.aload_n 0, 1) := by decide +kernel
theorem dX7_shuts_53 : decode cX7_shuts 53 = .ok (.getfield 13, 3) := by decide +kernel
theorem dX7_shuts_56 : decode cX7_shuts 56 = .ok (.iload_n 1, 1) := by decide +kernel
theorem dX7_shuts_57 : decode cX7_shuts 57 = .ok (.iaload, 1) := by decide +kernel
theorem dX7_shuts_58 : decode cX7_shuts 58 = .ok (.isub, 1) := by decide +kernel
theorem dX7_shuts_59 : decode cX7_shuts 59 = .ok (.iastore, 1) := by decide +kernel
theorem dX7_shuts_60 : decode cX7_shuts 60 = .ok (.aload_n 0, 1) := by decide +kernel
theorem dX7_shuts_61 : decode cX7_shuts 61 = .ok (.getfield 13, 3) := by decide +kernel
theorem dX7_shuts_64 : decode cX7_shuts 64 = .ok (.iload_n 1, 1) := by decide +kernel
theorem dX7_shuts_65 : decode cX7_shuts 65 = .ok (.iaload, 1) := by decide +kernel
theorem dX7_shuts_66 : decode cX7_shuts 66 = .ok (.ireturn, 1) := by decide +kernel
theorem dX7_warms_0 : decode cX7_warms 0 = .ok (.aload_n 0, 1) := by decide +kernel
theorem dX7_warms_1 : decode cX7_warms 1 = .ok (.iconst 0, 1) := by decide +kernel
theorem dX7_warms_2 : decode cX7_warms 2 = .ok (.putfield 114, 3) := by decide +kernel
theorem dX7_warms_5 : decode cX7_warms 5 = .ok (.iload_n 1, 1) := by decide +kernel
theorem dX7_warms_6 : decode cX7_warms 6 = .ok (.invokestatic 216, 3) := by decide +kernel
theorem dX7_warms_9 : decode cX7_warms 9 = .ok (.ifCond .ne 9, 3) := by decide +kernel
theorem dX7_warms_12 : decode cX7_warms 12 = .ok (.aload_n 0, 1) := by decide +kernel
theorem dX7_warms_13 : decode cX7_warms 13 = .ok (.iconst (-1), 1) := by decide +kernel
theorem dX7_warms_14 : decode cX7_warms 14 = .ok (.invokevirtual 219, 3) := by decide +kernel
theorem dX7_warms_17 : decode cX7_warms 17 = .ok (.ireturn, 1) := by decide +kernel
theorem dX7_warms_18 : decode cX7_warms 18 = .ok (.iload_n 2, 1) := by decide +kernel
theorem dX7_warms_19 : decode cX7_warms 19 = .ok (.i2l, 1) := by decide +kernel
theorem dX7_warms_20 : decode cX7_warms 20 = .ok (.ldc2_w 341, 3) := by decide +kernel
theorem dX7_warms_23 : decode cX7_warms 23 = .ok (.ldc2_w 343, 3) := by decide +kernel
theorem dX7_warms_26 : decode cX7_warms 26 = .ok (.invokestatic 122, 3) := by decide +kernel
theorem dX7_warms_29 : decode cX7_warms 29 = .ok (.ifCond .ne 19, 3) := by decide +kernel
theorem dX7_warms_32 : decode cX7_warms 32 = .ok (.aload_n 0, 1) := by decide +kernel
theorem dX7_warms_33 : decode cX7_warms 33 = .ok (.iload_n 2, 1) := by decide +kernel
theorem dX7_warms_34 : decode cX7_warms 34 = .ok (.ifCond .ge 8, 3) := by decide +kernel
theorem dX7_warms_37 : decode cX7_warms 37 = .ok (.bipush (-4), 2) := by decide +kernel
theorem dX7_warms_39 : decode cX7_warms 39 = .ok (.goto 5, 3) := by decide +kernel
theorem dX7_warms_42 : decode cX7_warms 42 = .ok (.bipush (-6), 2) := by decide +kernel
theorem dX7_warms_44 : decode cX7_warms 44 = .ok (.invokevirtual 219, 3) := by decide +kernel
theorem dX7_warms_47 : decode cX7_warms 47 = .ok (.ireturn, 1) := by decide +kernel
theorem dX7_warms_48 : decode cX7_warms 48 = .ok (.aload_n 0, 1) := by decide +kernel
theorem dX7_warms_49 : decode cX7_warms 49 = .ok (.invokevirtual 338, 3) := by decide +kernel
theorem dX7_warms_52 : decode cX7_warms 52 = .ok (.aload_n 0, 1) := by decide +kernel
theorem dX7_warms_53 : decode cX7_warms 53 = .ok (.getfield 7, 3) := by decide +kernel
theorem dX7_warms_56 : decode cX7_warms 56 = .ok (.iload_n 1, 1) := by decide +kernel
theorem dX7_warms_57 : decode cX7_warms 57 = .ok (.faload, 1) := by decide +kernel
theorem dX7_warms_58 : decode cX7_warms 58 = .ok (.f2i, 1) := by decide +kernel
theorem dX7_warms_59 : decode cX7_warms 59 = .ok (.istore_n 3, 1) := by decide +kernel
theorem dX7_warms_60 : decode cX7_warms 60 = .ok (.aload_n 0, 1) := by decide +kernel
theorem dX7_warms_61 : decode cX7_warms 61 = .ok (.getfield 7, 3) := by decide +kernel
theorem dX7_warms_64 : decode cX7_warms 64 = .ok (.iload_n 1, 1) := by decide +kernel
theorem dX7_warms_65 : decode cX7_warms 65 = .ok (.iload_n 2, 1) := by decide +kernel
theorem dX7_warms_66 : decode cX7_warms 66 = .ok (.i2f, 1) := by decide +kernel
theorem dX7_warms_67 : decode cX7_warms 67 = .ok (.fastore, 1) := by decide +kernel
theorem dX7_warms_68 : decode cX7_warms 68 = .ok (.iload_n 3, 1) := by decide +kernel
theorem dX7_warms_69 : decode cX7_warms 69 = .ok (.ireturn, 1) := by decide +kernel
theorem dX7_sits_0 : decode cX7_sits 0 = .ok (.aload_n 0, 1) := by decide +kernel
theorem dX7_sits_1 : decode cX7_sits 1 = .ok (.iconst 0, 1) := by decide +kernel
theorem dX7_sits_2 : decode cX7_sits 2 = .ok (.putfield 114, 3) := by decide +kernel
theorem dX7_sits_5 : decode cX7_sits 5 = .ok (.aload_n 0, 1) := by decide +kernel
theorem dX7_sits_6 : decode cX7_sits 6 = .ok (.iload_n 1, 1) := by decide +kernel
theorem dX7_sits_7 : decode cX7_sits 7 = .ok (.invokevirtual 323, 3) := by decide +kernel
theorem dX7_sits_10 : decode cX7_sits 10 = .ok (.ifCond .eq 10, 3) := by decide +kernel
theorem dX7_sits_13 : decode cX7_sits 13 = .ok (.iload_n 2, 1) := by decide +kernel
theorem dX7_sits_14 : decode cX7_sits 14 = .ok (.invokestatic 216, 3) := by decide +kernel
theorem dX7_sits_17 : decode cX7_sits 17 = .ok (.ifCond .ne 9, 3) := by decide +kernel
theorem dX7_sits_20 : decode cX7_sits 20 = .ok (.aload_n 0, 1) := by decide +kernel
theorem dX7_sits_21 : decode cX7_sits 21 = .ok (.iconst (-1), 1) := by decide +kernel
theorem dX7_sits_22 : decode cX7_sits 22 = .ok (.invokevirtual 219, 3) := by decide +kernel
theorem dX7_sits_25 : decode cX7_sits 25 = .ok (.ireturn, 1) := by decide +kernel
theorem dX7_sits_26 : decode cX7_sits 26 = .ok (.aload_n 0, 1) := by decide +kernel
theorem dX7_sits_27 : decode cX7_sits 27 = .ok (.iload_n 2, 1) := by decide +kernel
theorem dX7_sits_28 : decode cX7_sits 28 = .ok (.invokevirtual 179, 3) := by decide +kernel
theorem dX7_sits_31 : decode cX7_sits 31 = .ok (.ifCond .ne 10, 3) := by decide +kernel
theorem dX7_sits_34 : decode cX7_sits 34 = .ok (.aload_n 0, 1) := by decide +kernel
theorem dX7_sits_35 : decode cX7_sits 35 = .ok (.bipush (-3), 2) := by decide +kernel
theorem dX7_sits_37 : decode cX7_sits 37 = .ok (.invokevirtual 219, 3) := by decide +kernel
theorem dX7_sits_40 : decode cX7_sits 40 = .ok (.ireturn, 1) := by decide +kernel
theorem dX7_sits_41 : decode cX7_sits 41 = .ok (.aload_n 0, 1) := by decide +kernel
theorem dX7_sits_42 : decode cX7_sits 42 = .ok (.invokevirtual 338, 3) := by decide +kernel
theorem dX7_sits_45 : decode cX7_sits 45 = .ok (.aload_n 0, 1) := by decide +kernel
theorem dX7_sits_46 : decode cX7_sits 46 = .ok (.getfield 32, 3) := by decide +kernel
theorem dX7_sits_49 : decode cX7_sits 49 = .ok (.iload_n 1, 1) := by decide +kernel
theorem dX7_sits_50 : decode cX7_sits 50 = .ok (.iaload, 1) := by decide +kernel
theorem dX7_sits_51 : decode cX7_sits 51 = .ok (.istore_n 3, 1) := by decide +kernel
theorem dX7_sits_52 : decode cX7_sits 52 = .ok (.aload_n 0, 1) := by decide +kernel
theorem dX7_sits_53 : decode cX7_sits 53 = .ok (.getfield 32, 3) := by decide +kernel
theorem dX7_sits_56 : decode cX7_sits 56 = .ok (.iload_n 1, 1) := by decide +kernel
theorem dX7_sits_57 : decode cX7_sits 57 = .ok (.iload_n 2, 1) := by decide +kernel
theorem dX7_sits_58 : decode cX7_sits 58 = .ok (.iastore, 1) := by decide +kernel
theorem dX7_sits_59 : decode cX7_sits 59 = .ok (.aload_n 0, 1) := by decide +kernel
theorem dX7_sits_60 : decode cX7_sits 60 = .ok (.getfield 38, 3) := by decide +kernel
theorem dX7_sits_63 : decode cX7_sits 63 = .ok (.iload_n 1, 1) := by decide +kernel
theorem dX7_sits_64 : decode cX7_sits 64 = .ok (.iconst 1, 1) := by decide +kernel
theorem dX7_sits_65 : decode cX7_sits 65 = .ok (.iastore, 1) := by decide +kernel
theorem dX7_sits_66 : decode cX7_sits 66 = .ok (.iload_n 3, 1) := by decide +kernel
theorem dX7_sits_67 : decode cX7_sits 67 = .ok (.ireturn, 1) := by decide +kernel
theorem dX7_blows_0 : decode cX7_blows 0 = .ok (.aload_n 0, 1) := by decide +kernel
theorem dX7_blows_1 : decode cX7_blows 1 = .ok (.iconst 0, 1) := by decide +kernel
theorem dX7_blows_2 : decode cX7_blows 2 = .ok (.putfield 114, 3) := by decide +kernel
theorem dX7_blows_5 : decode cX7_blows 5 = .ok (.aload_n 0, 1) := by decide +kernel
theorem dX7_blows_6 : decode cX7_blows 6 = .ok (.iload_n 1, 1) := by decide +kernel
theorem dX7_blows_7 : decode cX7_blows 7 = .ok (.invokevirtual 320, 3) := by decide +kernel
theorem dX7_blows_10 : decode cX7_blows 10 = .ok (.ifCond .eq 15, 3) := by decide +kernel
theorem dX7_blows_13 : decode cX7_blows 13 = .ok (.iload_n 2, 1) := by decide +kernel
theorem dX7_blows_14 : decode cX7_blows 14 = .ok (.i2l, 1) := by decide +kernel
theorem dX7_blows_15 : decode cX7_blows 15 = .ok (.lconst 0, 1) := by decide +kernel
theorem dX7_blows_16 : decode cX7_blows 16 = .ok (.ldc2_w 345, 3) := by decide +kernel
theorem dX7_blows_19 : decode cX7_blows 19 = .ok (.invokestatic 122, 3) := by decide +kernel
theorem dX7_blows_22 : decode cX7_blows 22 = .ok (.ifCond .ne 22, 3) := by decide +kernel
theorem dX7_blows_25 : decode cX7_blows 25 = .ok (.aload_n 0, 1) := by decide +kernel
theorem dX7_blows_26 : decode cX7_blows 26 = .ok (.aload_n 0, 1) := by decide +kernel
theorem dX7_blows_27 : decode cX7_blows 27 = .ok (.iload_n 1, 1) := by decide +kernel
theorem dX7_blows_28 : decode cX7_blows 28 = .ok (.invokevirtual 320, 3) := by decide +kernel
theorem dX7_blows_31 : decode cX7_blows 31 = .ok (.ifCond .eq 8, 3) := by decide +kernel
theorem dX7_blows_34 : decode cX7_blows 34 = .ok (.bipush (-2), 2) := by decide +kernel
theorem dX7_blows_36 : decode cX7_blows 36 = .ok (.goto 4, 3) := by decide +kernel
theorem dX7_blows_39 : decode cX7_blows 39 = .ok (.iconst (-1), 1) := by decide +kernel
theorem dX7_blows_40 : decode cX7_blows 40 = .ok (.invokevirtual 219, 3) := by decide +kernel
theorem dX7_blows_43 : decode cX7_blows 43 = .ok (.ireturn, 1) := by decide +kernel
theorem dX7_blows_44 : decode cX7_blows 44 = .ok (.aload_n 0, 1) := by decide +kernel
theorem dX7_blows_45 : decode cX7_blows 45 = .ok (.invokevirtual 338, 3) := by decide +kernel
theorem dX7_blows_48 : decode cX7_blows 48 = .ok (.aload_n 0, 1) := by decide +kernel
theorem dX7_blows_49 : decode cX7_blows 49 = .ok (.getfield 26, 3) := by decide +kernel
theorem dX7_blows_52 : decode cX7_blows 52 = .ok (.iload_n 1, 1) := by decide +kernel
theorem dX7_blows_53 : decode cX7_blows 53 = .ok (.iaload, 1) := by decide +kernel
theorem dX7_blows_54 : decode cX7_blows 54 = .ok (.istore_n 3, 1) := by decide +kernel
theorem dX7_blows_55 : decode cX7_blows 55 = .ok (.aload_n 0, 1) := by decide +kernel
theorem dX7_blows_56 : decode cX7_blows 56 = .ok (.getfield 26, 3) := by decide +kernel
theorem dX7_blows_59 : decode cX7_blows 59 = .ok (.iload_n 1, 1) := by decide +kernel
theorem dX7_blows_60 : decode cX7_blows 60 = .ok (.iload_n 2, 1) := by decide +kernel
theorem dX7_blows_61 : decode cX7_blows 61 = .ok (.iastore, 1) := by decide +kernel
theorem dX7_blows_62 : decode cX7_blows 62 = .ok (.iload_n 3, 1) := by decide +kernel
theorem dX7_blows_63 : decode cX7_blows 63 = .ok (.ireturn, 1) := by decide +kernel
theorem dX7_wraps_0 : decode cX7_wraps 0 = .ok (.aload_n 0, 1) := by decide +kernel
theorem dX7_wraps_1 : decode cX7_wraps 1 = .ok (.iconst 0, 1) := by decide +kernel
theorem dX7_wraps_2 : decode cX7_wraps 2 = .ok (.putfield 114, 3) := by decide +kernel
theorem dX7_wraps_5 : decode cX7_wraps 5 = .ok (.aload_n 0, 1) := by decide +kernel
theorem dX7_wraps_6 : decode cX7_wraps 6 = .ok (.iload_n 1, 1) := by decide +kernel
theorem dX7_wraps_7 : decode cX7_wraps 7 = .ok (.invokevirtual 323, 3) := by decide +kernel
theorem dX7_wraps_10 : decode cX7_wraps 10 = .ok (.ifCond .ne 9, 3) := by decide +kernel
theorem dX7_wraps_13 : decode cX7_wraps 13 = .ok (.aload_n 0, 1) := by decide +kernel
theorem dX7_wraps_14 : decode cX7_wraps 14 = .ok (.iconst (-1), 1) := by decide +kernel
theorem dX7_wraps_15 : decode cX7_wraps 15 = .ok (.invokevirtual 219, 3) := by decide +kernel
theorem dX7_wraps_18 : decode cX7_wraps 18 = .ok (.ireturn, 1) := by decide +kernel
theorem dX7_wraps_19 : decode cX7_wraps 19 = .ok (.iload_n 2, 1) := by decide +kernel
theorem dX7_wraps_20 : decode cX7_wraps 20 = .ok (.iconst 0, 1) := by decide +kernel
theorem dX7_wraps_21 : decode cX7_wraps 21 = .ok (.bipush 9, 2) := by decide +kernel
theorem dX7_wraps_23 : decode cX7_wraps 23 = .ok (.invokestatic 347, 3) := by decide +kernel
theorem dX7_wraps_26 : decode cX7_wraps 26 = .ok (.ifCond .ge 15, 3) := by decide +kernel
theorem dX7_wraps_29 : decode cX7_wraps 29 = .ok (.aload_n 0, 1) := by decide +kernel
theorem dX7_wraps_30 : decode cX7_wraps 30 = .ok (.iload_n 2, 1) := by decide +kernel
theorem dX7_wraps_31 : decode cX7_wraps 31 = .ok (.iconst 0, 1) := by decide +kernel
theorem dX7_wraps_32 : decode cX7_wraps 32 = .ok (.bipush 9, 2) := by decide +kernel
theorem dX7_wraps_34 : decode cX7_wraps 34 = .ok (.invokestatic 347, 3) := by decide +kernel
theorem dX7_wraps_37 : decode cX7_wraps 37 = .ok (.invokevirtual 219, 3) := by decide +kernel
theorem dX7_wraps_40 : decode cX7_wraps 40 = .ok (.ireturn, 1) := by decide +kernel
theorem dX7_wraps_41 : decode cX7_wraps 41 = .ok (.aload_n 0, 1) := by decide +kernel
theorem dX7_wraps_42 : decode cX7_wraps 42 = .ok (.invokevirtual 338, 3) := by decide +kernel
theorem dX7_wraps_45 : decode cX7_wraps 45 = .ok (.aload_n 0, 1) := by decide +kernel
theorem dX7_wraps_46 : decode cX7_wraps 46 = .ok (.getfield 35, 3) := by decide +kernel
theorem dX7_wraps_49 : decode cX7_wraps 49 = .ok (.iload_n 1, 1) := by decide +kernel
theorem dX7_wraps_50 : decode cX7_wraps 50 = .ok (.iaload, 1) := by decide +kernel
theorem dX7_wraps_51 : decode cX7_wraps 51 = .ok (.istore_n 3, 1) := by decide +kernel
theorem dX7_wraps_52 : decode cX7_wraps 52 = .ok (.aload_n 0, 1) := by decide +kernel
theorem dX7_wraps_53 : decode cX7_wraps 53 = .ok (.getfield 35, 3) := by decide +kernel
theorem dX7_wraps_56 : decode cX7_wraps 56 = .ok (.iload_n 1, 1) := by decide +kernel
theorem dX7_wraps_57 : decode cX7_wraps 57 = .ok (.iload_n 2, 1) := by decide +kernel
theorem dX7_wraps_58 : decode cX7_wraps 58 = .ok (.iastore, 1) := by decide +kernel
theorem dX7_wraps_59 : decode cX7_wraps 59 = .ok (.iload_n 3, 1) := by decide +kernel
theorem dX7_wraps_60 : decode cX7_wraps 60 = .ok (.ireturn, 1) := by decide +kernel
theorem dX7_step_0 : decode cX7_step 0 = .ok (.aload_n 0, 1) := by decide +kernel
theorem dX7_step_1 : decode cX7_step 1 = .ok (.iconst 0, 1) := by decide +kernel
theorem dX7_step_2 : decode cX7_step 2 = .ok (.putfield 114, 3) := by decide +kernel
theorem dX7_step_5 : decode cX7_step 5 = .ok (.iload_n 1, 1) := by decide +kernel
theorem dX7_step_6 : decode cX7_step 6 = .ok (.i2l, 1) := by decide +kernel
theorem dX7_step_7 : decode cX7_step 7 = .ok (.lconst 0, 1) := by decide +kernel
theorem dX7_step_8 : decode cX7_step 8 = .ok (.ldc2_w 350, 3) := by decide +kernel
theorem dX7_step_11 : decode cX7_step 11 = .ok (.invokestatic 122, 3) := by decide +kernel
theorem dX7_step_14 : decode cX7_step 14 = .ok (.ifCond .ne 10, 3) := by decide +kernel
theorem dX7_step_17 : decode cX7_step 17 = .ok (.aload_n 0, 1) := by decide +kernel
theorem dX7_step_18 : decode cX7_step 18 = .ok (.bipush (-2), 2) := by decide +kernel
theorem dX7_step_20 : decode cX7_step 20 = .ok (.invokevirtual 219, 3) := by decide +kernel
theorem dX7_step_23 : decode cX7_step 23 = .ok (.ireturn, 1) := by decide +kernel
theorem dX7_step_24 : decode cX7_step 24 = .ok (.iload_n 2, 1) := by decide +kernel
theorem dX7_step_25 : decode cX7_step 25 = .ok (.iconst 0, 1) := by decide +kernel
theorem dX7_step_26 : decode cX7_step 26 = .ok (.bipush 99, 2) := by decide +kernel
theorem dX7_step_28 : decode cX7_step 28 = .ok (.invokestatic 347, 3) := by decide +kernel
theorem dX7_step_31 : decode cX7_step 31 = .ok (.istore_n 3, 1) := by decide +kernel
theorem dX7_step_32 : decode cX7_step 32 = .ok (.iload_n 3, 1) := by decide +kernel
theorem dX7_step_33 : decode cX7_step 33 = .ok (.ifCond .ne 17, 3) := by decide +kernel
theorem dX7_step_36 : decode cX7_step 36 = .ok (.aload_n 0, 1) := by decide +kernel
theorem dX7_step_37 : decode cX7_step 37 = .ok (.getfield 199, 3) := by decide +kernel
theorem dX7_step_40 : decode cX7_step 40 = .ok (.bipush 6, 2) := by decide +kernel
theorem dX7_step_42 : decode cX7_step 42 = .ok (.if_icmp .ne 8, 3) := by decide +kernel
theorem dX7_step_45 : decode cX7_step 45 = .ok (.bipush (-6), 2) := by decide +kernel
theorem dX7_step_47 : decode cX7_step 47 = .ok (.goto 4, 3) := by decide +kernel
theorem dX7_step_50 : decode cX7_step 50 = .ok (.iload_n 3, 1) := by decide +kernel
theorem dX7_step_51 : decode cX7_step 51 = .ok (.istore_n 3, 1) := by decide +kernel
theorem dX7_step_52 : decode cX7_step 52 = .ok (.iload_n 3, 1) := by decide +kernel
theorem dX7_step_53 : decode cX7_step 53 = .ok (.ifCond .ge 9, 3) := by decide +kernel
theorem dX7_step_56 : decode cX7_step 56 = .ok (.aload_n 0, 1) := by decide +kernel
theorem dX7_step_57 : decode cX7_step 57 = .ok (.iload_n 3, 1) := by decide +kernel
theorem dX7_step_58 : decode cX7_step 58 = .ok (.invokevirtual 219, 3) := by decide +kernel
theorem dX7_step_61 : decode cX7_step 61 = .ok (.ireturn, 1) := by decide +kernel
theorem dX7_step_62 : decode cX7_step 62 = .ok (.aload_n 0, 1) := by decide +kernel
theorem dX7_step_63 : decode cX7_step 63 = .ok (.invokevirtual 338, 3) := by decide +kernel
theorem dX7_step_66 : decode cX7_step 66 = .ok (.aload_n 0, 1) := by decide +kernel
theorem dX7_step_67 : decode cX7_step 67 = .ok (.getfield 41, 3) := by decide +kernel
theorem dX7_step_70 : decode cX7_step 70 = .ok (.aload_n 0, 1) := by decide +kernel
theorem dX7_step_71 : decode cX7_step 71 = .ok (.getfield 199, 3) := by decide +kernel
theorem dX7_step_74 : decode cX7_step 74 = .ok (.iload_n 1, 1) := by decide +kernel
theorem dX7_step_75 : decode cX7_step 75 = .ok (.iastore, 1) := by decide +kernel
theorem dX7_step_76 : decode cX7_step 76 = .ok (.aload_n 0, 1) := by decide +kernel
theorem dX7_step_77 : decode cX7_step 77 = .ok (.getfield 44, 3) := by decide +kernel
theorem dX7_step_80 : decode cX7_step 80 = .ok (.aload_n 0, 1) := by decide +kernel
theorem dX7_step_81 : decode cX7_step 81 = .ok (.getfield 199, 3) := by decide +kernel
theorem dX7_step_84 : decode cX7_step 84 = .ok (.iload_n 1, 1) := by decide +kernel
theorem dX7_step_85 : decode cX7_step 85 = .ok (.bipush 6, 2) := by decide +kernel
theorem dX7_step_87 : decode cX7_step 87 = .ok (.if_icmp .ne 7, 3) := by decide +kernel
theorem dX7_step_90 : decode cX7_step 90 = .ok (.iconst 0, 1) := by decide +kernel
theorem dX7_step_91 : decode cX7_step 91 = .ok (.goto 4, 3) := by decide +kernel
theorem dX7_step_94 : decode cX7_step 94 = .ok (.iload_n 2, 1) := by decide +kernel
theorem dX7_step_95 : decode cX7_step 95 = .ok (.iastore, 1) := by decide +kernel
theorem dX7_step_96 : decode cX7_step 96 = .ok (.aload_n 0, 1) := by decide +kernel
theorem dX7_step_97 : decode cX7_step 97 = .ok (.dup, 1) := by decide +kernel
theorem dX7_step_98 : decode cX7_step 98 = .ok (.getfield 199, 3) := by decide +kernel
theorem dX7_step_101 : decode cX7_step 101 = .ok (.iconst 1, 1) := by decide +kernel
theorem dX7_step_102 : decode cX7_step 102 = .ok (.iadd, 1) := by decide +kernel
theorem dX7_step_103 : decode cX7_step 103 = .ok (.putfield 199, 3) := by decide +kernel
theorem dX7_step_106 : decode cX7_step 106 = .ok (.aload_n 0, 1) := by decide +kernel
theorem dX7_step_107 : decode cX7_step 107 = .ok (.getfield 199, 3) := by decide +kernel
theorem dX7_step_110 : decode cX7_step 110 = .ok (.ireturn, 1) := by decide +kernel
theorem dX7_clearHearth_0 : decode cX7_clearHearth 0 = .ok (.aload_n 0, 1) := by decide +kernel
theorem dX7_clearHearth_1 : decode cX7_clearHearth 1 = .ok (.iconst 0, 1) := by decide +kernel
theorem dX7_clearHearth_2 : decode cX7_clearHearth 2 = .ok (.putfield 114, 3) := by decide +kernel
theorem dX7_clearHearth_5 : decode cX7_clearHearth 5 = .ok (.aload_n 0, 1) := by decide +kernel
theorem dX7_clearHearth_6 : decode cX7_clearHearth 6 = .ok (.invokevirtual 338, 3) := by decide +kernel
theorem dX7_clearHearth_9 : decode cX7_clearHearth 9 = .ok (.aload_n 0, 1) := by decide +kernel
theorem dX7_clearHearth_10 : decode cX7_clearHearth 10 = .ok (.getfield 199, 3) := by decide +kernel
theorem dX7_clearHearth_13 : decode cX7_clearHearth 13 = .ok (.istore_n 1, 1) := by decide +kernel
theorem dX7_clearHearth_14 : decode cX7_clearHearth 14 = .ok (.aload_n 0, 1) := by decide +kernel
theorem dX7_clearHearth_15 : decode cX7_clearHearth 15 = .ok (.iconst 0, 1) := by decide +kernel
theorem dX7_clearHearth_16 : decode cX7_clearHearth 16 = .ok (.putfield 199, 3) := by decide +kernel
theorem dX7_clearHearth_19 : decode cX7_clearHearth 19 = .ok (.iload_n 1, 1) := by decide +kernel
theorem dX7_clearHearth_20 : decode cX7_clearHearth 20 = .ok (.ireturn, 1) := by decide +kernel
theorem dX7_turns_0 : decode cX7_turns 0 = .ok (.aload_n 0, 1) := by decide +kernel
theorem dX7_turns_1 : decode cX7_turns 1 = .ok (.iconst 0, 1) := by decide +kernel
theorem dX7_turns_2 : decode cX7_turns 2 = .ok (.putfield 114, 3) := by decide +kernel
theorem dX7_turns_5 : decode cX7_turns 5 = .ok (.iload_n 1, 1) := by decide +kernel
theorem dX7_turns_6 : decode cX7_turns 6 = .ok (.iconst 1, 1) := by decide +kernel
theorem dX7_turns_7 : decode cX7_turns 7 = .ok (.bipush 60, 2) := by decide +kernel
theorem dX7_turns_9 : decode cX7_turns 9 = .ok (.invokestatic 347, 3) := by decide +kernel
theorem dX7_turns_12 : decode cX7_turns 12 = .ok (.istore_n 2, 1) := by decide +kernel
theorem dX7_turns_13 : decode cX7_turns 13 = .ok (.iload_n 2, 1) := by decide +kernel
theorem dX7_turns_14 : decode cX7_turns 14 = .ok (.ifCond .ne 20, 3) := by decide +kernel
theorem dX7_turns_17 : decode cX7_turns 17 = .ok (.aload_n 0, 1) := by decide +kernel
theorem dX7_turns_18 : decode cX7_turns 18 = .ok (.getfield 148, 3) := by decide +kernel
theorem dX7_turns_21 : decode cX7_turns 21 = .ok (.iload_n 1, 1) := by decide +kernel
theorem dX7_turns_22 : decode cX7_turns 22 = .ok (.iadd, 1) := by decide +kernel
theorem dX7_turns_23 : decode cX7_turns 23 = .ok (.sipush 999, 3) := by decide +kernel
theorem dX7_turns_26 : decode cX7_turns 26 = .ok (.if_icmp .le 8, 3) := by decide +kernel
theorem dX7_turns_29 : decode cX7_turns 29 = .ok (.bipush (-6), 2) := by decide +kernel
theorem dX7_turns_31 : decode cX7_turns 31 = .ok (.goto 4, 3) := by decide +kernel
theorem dX7_turns_34 : decode cX7_turns 34 = .ok (.iload_n 2, 1) := by decide +kernel
theorem dX7_turns_35 : decode cX7_turns 35 = .ok (.istore_n 2, 1) := by decide +kernel
theorem dX7_turns_36 : decode cX7_turns 36 = .ok (.iload_n 2, 1) := by decide +kernel
theorem dX7_turns_37 : decode cX7_turns 37 = .ok (.ifCond .ge 9, 3) := by decide +kernel
theorem dX7_turns_40 : decode cX7_turns 40 = .ok (.aload_n 0, 1) := by decide +kernel
theorem dX7_turns_41 : decode cX7_turns 41 = .ok (.iload_n 2, 1) := by decide +kernel
theorem dX7_turns_42 : decode cX7_turns 42 = .ok (.invokevirtual 219, 3) := by decide +kernel
theorem dX7_turns_45 : decode cX7_turns 45 = .ok (.ireturn, 1) := by decide +kernel
theorem dX7_turns_46 : decode cX7_turns 46 = .ok (.aload_n 0, 1) := by decide +kernel
theorem dX7_turns_47 : decode cX7_turns 47 = .ok (.invokevirtual 338, 3) := by decide +kernel
theorem dX7_turns_50 : decode cX7_turns 50 = .ok (.aload_n 0, 1) := by decide +kernel
theorem dX7_turns_51 : decode cX7_turns 51 = .ok (.iload_n 1, 1) := by decide +kernel
theorem dX7_turns_52 : decode cX7_turns 52 = .ok (.invokevirtual 263, 3) := by decide +kernel
theorem dX7_turns_55 : decode cX7_turns 55 = .ok (.aload_n 0, 1) := by decide +kernel
theorem dX7_turns_56 : decode cX7_turns 56 = .ok (.getfield 182, 3) := by decide +kernel
theorem dX7_turns_59 : decode cX7_turns 59 = .ok (.ireturn, 1) := by decide +kernel
theorem dX7_airThen_0 : decode cX7_airThen 0 = .ok (.aload_n 0, 1) := by decide +kernel
theorem dX7_airThen_1 : decode cX7_airThen 1 = .ok (.iconst 0, 1) := by decide +kernel
theorem dX7_airThen_2 : decode cX7_airThen 2 = .ok (.putfield 114, 3) := by decide +kernel
theorem dX7_airThen_5 : decode cX7_airThen 5 = .ok (.aload_n 0, 1) := by decide +kernel
theorem dX7_airThen_6 : decode cX7_airThen 6 = .ok (.iload_n 1, 1) := by decide +kernel
theorem dX7_airThen_7 : decode cX7_airThen 7 = .ok (.invokevirtual 320, 3) := by decide +kernel
theorem dX7_airThen_10 : decode cX7_airThen 10 = .ok (.ifCond .ne 9, 3) := by decide +kernel
theorem dX7_airThen_13 : decode cX7_airThen 13 = .ok (.aload_n 0, 1) := by decide +kernel
theorem dX7_airThen_14 : decode cX7_airThen 14 = .ok (.iconst (-1), 1) := by decide +kernel
theorem dX7_airThen_15 : decode cX7_airThen 15 = .ok (.invokevirtual 219, 3) := by decide +kernel
theorem dX7_airThen_18 : decode cX7_airThen 18 = .ok (.ireturn, 1) := by decide +kernel
theorem dX7_airThen_19 : decode cX7_airThen 19 = .ok (.iload_n 2, 1) := by decide +kernel
theorem dX7_airThen_20 : decode cX7_airThen 20 = .ok (.iconst 0, 1) := by decide +kernel
theorem dX7_airThen_21 : decode cX7_airThen 21 = .ok (.bipush 60, 2) := by decide +kernel
theorem dX7_airThen_23 : decode cX7_airThen 23 = .ok (.invokestatic 347, 3) := by decide +kernel
theorem dX7_airThen_26 : decode cX7_airThen 26 = .ok (.ifCond .ge 15, 3) := by decide +kernel
theorem dX7_airThen_29 : decode cX7_airThen 29 = .ok (.aload_n 0, 1) := by decide +kernel
theorem dX7_airThen_30 : decode cX7_airThen 30 = .ok (.iload_n 2, 1) := by decide +kernel
theorem dX7_airThen_31 : decode cX7_airThen 31 = .ok (.iconst 0, 1) := by decide +kernel
theorem dX7_airThen_32 : decode cX7_airThen 32 = .ok (.bipush 60, 2) := by decide +kernel
theorem dX7_airThen_34 : decode cX7_airThen 34 = .ok (.invokestatic 347, 3) := by decide +kernel
theorem dX7_airThen_37 : decode cX7_airThen 37 = .ok (.invokevirtual 219, 3) := by decide +kernel
theorem dX7_airThen_40 : decode cX7_airThen 40 = .ok (.ireturn, 1) := by decide +kernel
theorem dX7_airThen_41 : decode cX7_airThen 41 = .ok (.aload_n 0, 1) := by decide +kernel
theorem dX7_airThen_42 : decode cX7_airThen 42 = .ok (.invokevirtual 289, 3) := by decide +kernel
theorem dX7_airThen_45 : decode cX7_airThen 45 = .ok (.aload_n 0, 1) := by decide +kernel
theorem dX7_airThen_46 : decode cX7_airThen 46 = .ok (.iload_n 2, 1) := by decide +kernel
theorem dX7_airThen_47 : decode cX7_airThen 47 = .ok (.invokevirtual 263, 3) := by decide +kernel
theorem dX7_airThen_50 : decode cX7_airThen 50 = .ok (.aload_n 0, 1) := by decide +kernel
theorem dX7_airThen_51 : decode cX7_airThen 51 = .ok (.getfield 23, 3) := by decide +kernel
theorem dX7_airThen_54 : decode cX7_airThen 54 = .ok (.iload_n 1, 1) := by decide +kernel
theorem dX7_airThen_55 : decode cX7_airThen 55 = .ok (.iaload, 1) := by decide +kernel
theorem dX7_airThen_56 : decode cX7_airThen 56 = .ok (.istore_n 3, 1) := by decide +kernel
theorem dX7_airThen_57 : decode cX7_airThen 57 = .ok (.aload_n 0, 1) := by decide +kernel
theorem dX7_airThen_58 : decode cX7_airThen 58 = .ok (.invokevirtual 295, 3) := by decide +kernel
theorem dX7_airThen_61 : decode cX7_airThen 61 = .ok (.iload_n 3, 1) := by decide +kernel
theorem dX7_airThen_62 : decode cX7_airThen 62 = .ok (.ireturn, 1) := by decide +kernel
theorem dX7_crownedMany_0 : decode cX7_crownedMany 0 = .ok (.iconst 0, 1) := by decide +kernel
theorem dX7_crownedMany_1 : decode cX7_crownedMany 1 = .ok (.istore_n 1, 1) := by decide +kernel
theorem dX7_crownedMany_2 : decode cX7_crownedMany 2 = .ok (.iconst 0, 1) := by decide +kernel
theorem dX7_crownedMany_3 : decode cX7_crownedMany 3 = .ok (.istore_n 2, 1) := by decide +kernel
theorem dX7_crownedMany_4 : decode cX7_crownedMany 4 = .ok (.iload_n 2, 1) := by decide +kernel
theorem dX7_crownedMany_5 : decode cX7_crownedMany 5 = .ok (.aload_n 0, 1) := by decide +kernel
theorem dX7_crownedMany_6 : decode cX7_crownedMany 6 = .ok (.getfield 119, 3) := by decide +kernel
theorem dX7_crownedMany_9 : decode cX7_crownedMany 9 = .ok (.if_icmp .ge 18, 3) := by decide +kernel
theorem dX7_crownedMany_12 : decode cX7_crownedMany 12 = .ok (.iload_n 1, 1) := by decide +kernel
theorem dX7_crownedMany_13 : decode cX7_crownedMany 13 = .ok (.aload_n 0, 1) := by decide +kernel
theorem dX7_crownedMany_14 : decode cX7_crownedMany 14 = .ok (.getfield 29, 3) := by decide +kernel
theorem dX7_crownedMany_17 : decode cX7_crownedMany 17 = .ok (.iload_n 2, 1) := by decide +kernel
theorem dX7_crownedMany_18 : decode cX7_crownedMany 18 = .ok (.iaload, 1) := by decide +kernel
theorem dX7_crownedMany_19 : decode cX7_crownedMany 19 = .ok (.iadd, 1) := by decide +kernel
theorem dX7_crownedMany_20 : decode cX7_crownedMany 20 = .ok (.istore_n 1, 1) := by decide +kernel
theorem dX7_crownedMany_21 : decode cX7_crownedMany 21 = .ok (.iinc 2 1, 3) := by decide +kernel
theorem dX7_crownedMany_24 : decode cX7_crownedMany 24 = .ok (.goto (-20), 3) := by decide +kernel
theorem dX7_crownedMany_27 : decode cX7_crownedMany 27 = .ok (.iload_n 1, 1) := by decide +kernel
theorem dX7_crownedMany_28 : decode cX7_crownedMany 28 = .ok (.ireturn, 1) := by decide +kernel
theorem dX7_then_0 : decode cX7_then 0 = .ok (.aload_n 0, 1) := by decide +kernel
theorem dX7_then_1 : decode cX7_then 1 = .ok (.iconst 0, 1) := by decide +kernel
theorem dX7_then_2 : decode cX7_then 2 = .ok (.putfield 114, 3) := by decide +kernel
theorem dX7_then_5 : decode cX7_then 5 = .ok (.iload_n 1, 1) := by decide +kernel
theorem dX7_then_6 : decode cX7_then 6 = .ok (.iconst 0, 1) := by decide +kernel
theorem dX7_then_7 : decode cX7_then 7 = .ok (.bipush 60, 2) := by decide +kernel
theorem dX7_then_9 : decode cX7_then 9 = .ok (.invokestatic 347, 3) := by decide +kernel
theorem dX7_then_12 : decode cX7_then 12 = .ok (.ifCond .lt 15, 3) := by decide +kernel
theorem dX7_then_15 : decode cX7_then 15 = .ok (.iload_n 2, 1) := by decide +kernel
theorem dX7_then_16 : decode cX7_then 16 = .ok (.i2l, 1) := by decide +kernel
theorem dX7_then_17 : decode cX7_then 17 = .ok (.lconst 0, 1) := by decide +kernel
theorem dX7_then_18 : decode cX7_then 18 = .ok (.ldc2_w 326, 3) := by decide +kernel
theorem dX7_then_21 : decode cX7_then 21 = .ok (.invokestatic 122, 3) := by decide +kernel
theorem dX7_then_24 : decode cX7_then 24 = .ok (.ifCond .ne 30, 3) := by decide +kernel
theorem dX7_then_27 : decode cX7_then 27 = .ok (.aload_n 0, 1) := by decide +kernel
theorem dX7_then_28 : decode cX7_then 28 = .ok (.iload_n 1, 1) := by decide +kernel
theorem dX7_then_29 : decode cX7_then 29 = .ok (.iconst 0, 1) := by decide +kernel
theorem dX7_then_30 : decode cX7_then 30 = .ok (.bipush 60, 2) := by decide +kernel
theorem dX7_then_32 : decode cX7_then 32 = .ok (.invokestatic 347, 3) := by decide +kernel
theorem dX7_then_35 : decode cX7_then 35 = .ok (.ifCond .ge 13, 3) := by decide +kernel
theorem dX7_then_38 : decode cX7_then 38 = .ok (.iload_n 1, 1) := by decide +kernel
theorem dX7_then_39 : decode cX7_then 39 = .ok (.iconst 0, 1) := by decide +kernel
theorem dX7_then_40 : decode cX7_then 40 = .ok (.bipush 60, 2) := by decide +kernel
theorem dX7_then_42 : decode cX7_then 42 = .ok (.invokestatic 347, 3) := by decide +kernel
theorem dX7_then_45 : decode cX7_then 45 = .ok (.goto 5, 3) := by decide +kernel
theorem dX7_then_48 : decode cX7_then 48 = .ok (.bipush (-2), 2) := by decide +kernel
theorem dX7_then_50 : decode cX7_then 50 = .ok (.invokevirtual 219, 3) := by decide +kernel
theorem dX7_then_53 : decode cX7_then 53 = .ok (.ireturn, 1) := by decide +kernel
theorem dX7_then_54 : decode cX7_then 54 = .ok (.aload_n 0, 1) := by decide +kernel
theorem dX7_then_55 : decode cX7_then 55 = .ok (.invokevirtual 289, 3) := by decide +kernel
theorem dX7_then_58 : decode cX7_then 58 = .ok (.aload_n 0, 1) := by decide +kernel
theorem dX7_then_59 : decode cX7_then 59 = .ok (.iload_n 1, 1) := by decide +kernel
theorem dX7_then_60 : decode cX7_then 60 = .ok (.invokevirtual 263, 3) := by decide +kernel
theorem dX7_then_63 : decode cX7_then 63 = .ok (.iload_n 2, 1) := by decide +kernel
theorem dX7_then_64 : decode cX7_then 64 = .ok (.ifCond .ne 10, 3) := by decide +kernel
theorem dX7_then_67 : decode cX7_then 67 = .ok (.aload_n 0, 1) := by decide +kernel
theorem dX7_then_68 : decode cX7_then 68 = .ok (.invokevirtual 352, 3) := by decide +kernel
theorem dX7_then_71 : decode cX7_then 71 = .ok (.goto 19, 3) := by decide +kernel
theorem dX7_then_74 : decode cX7_then 74 = .ok (.iload_n 2, 1) := by decide +kernel
theorem dX7_then_75 : decode cX7_then 75 = .ok (.iconst 1, 1) := by decide +kernel
theorem dX7_then_76 : decode cX7_then 76 = .ok (.if_icmp .ne 10, 3) := by decide +kernel
theorem dX7_then_79 : decode cX7_then 79 = .ok (.aload_n 0, 1) := by decide +kernel
theorem dX7_then_80 : decode cX7_then 80 = .ok (.getfield 182, 3) := by decide +kernel
theorem dX7_then_83 : decode cX7_then 83 = .ok (.goto 7, 3) := by decide +kernel
theorem dX7_then_86 : decode cX7_then 86 = .ok (.aload_n 0, 1) := by decide +kernel
theorem dX7_then_87 : decode cX7_then 87 = .ok (.invokevirtual 355, 3) := by decide +kernel
theorem dX7_then_90 : decode cX7_then 90 = .ok (.istore_n 3, 1) := by decide +kernel
theorem dX7_then_91 : decode cX7_then 91 = .ok (.aload_n 0, 1) := by decide +kernel
theorem dX7_then_92 : decode cX7_then 92 = .ok (.invokevirtual 295, 3) := by decide +kernel
theorem dX7_then_95 : decode cX7_then 95 = .ok (.iload_n 3, 1) := by decide +kernel
theorem dX7_then_96 : decode cX7_then 96 = .ok (.ireturn, 1) := by decide +kernel
theorem dX7_warmThen_0 : decode cX7_warmThen 0 = .ok (.aload_n 0, 1) := by decide +kernel
theorem dX7_warmThen_1 : decode cX7_warmThen 1 = .ok (.iconst 0, 1) := by decide +kernel
theorem dX7_warmThen_2 : decode cX7_warmThen 2 = .ok (.putfield 114, 3) := by decide +kernel
theorem dX7_warmThen_5 : decode cX7_warmThen 5 = .ok (.iload_n 1, 1) := by decide +kernel
theorem dX7_warmThen_6 : decode cX7_warmThen 6 = .ok (.invokestatic 216, 3) := by decide +kernel
theorem dX7_warmThen_9 : decode cX7_warmThen 9 = .ok (.ifCond .eq 15, 3) := by decide +kernel
theorem dX7_warmThen_12 : decode cX7_warmThen 12 = .ok (.iload_n 2, 1) := by decide +kernel
theorem dX7_warmThen_13 : decode cX7_warmThen 13 = .ok (.i2l, 1) := by decide +kernel
theorem dX7_warmThen_14 : decode cX7_warmThen 14 = .ok (.lconst 0, 1) := by decide +kernel
theorem dX7_warmThen_15 : decode cX7_warmThen 15 = .ok (.ldc2_w 261, 3) := by decide +kernel
theorem dX7_warmThen_18 : decode cX7_warmThen 18 = .ok (.invokestatic 122, 3) := by decide +kernel
theorem dX7_warmThen_21 : decode cX7_warmThen 21 = .ok (.ifCond .ne 5, 3) := by decide +kernel
theorem dX7_warmThen_24 : decode cX7_warmThen 24 = .ok (.iconst 0, 1) := by decide +kernel
theorem dX7_warmThen_25 : decode cX7_warmThen 25 = .ok (.ireturn, 1) := by decide +kernel
theorem dX7_warmThen_26 : decode cX7_warmThen 26 = .ok (.aload_n 0, 1) := by decide +kernel
theorem dX7_warmThen_27 : decode cX7_warmThen 27 = .ok (.invokevirtual 289, 3) := by decide +kernel
theorem dX7_warmThen_30 : decode cX7_warmThen 30 = .ok (.aload_n 0, 1) := by decide +kernel
theorem dX7_warmThen_31 : decode cX7_warmThen 31 = .ok (.iload_n 2, 1) := by decide +kernel
theorem dX7_warmThen_32 : decode cX7_warmThen 32 = .ok (.invokevirtual 263, 3) := by decide +kernel
theorem dX7_warmThen_35 : decode cX7_warmThen 35 = .ok (.aload_n 0, 1) := by decide +kernel
theorem dX7_warmThen_36 : decode cX7_warmThen 36 = .ok (.getfield 7, 3) := by decide +kernel
theorem dX7_warmThen_39 : decode cX7_warmThen 39 = .ok (.iload_n 1, 1) := by decide +kernel
theorem dX7_warmThen_40 : decode cX7_warmThen 40 = .ok (.faload, 1) := by decide +kernel
theorem dX7_warmThen_41 : decode cX7_warmThen 41 = .ok (.invokestatic 330, 3) := by decide +kernel
theorem dX7_warmThen_44 : decode cX7_warmThen 44 = .ok (.istore_n 3, 1) := by decide +kernel
theorem dX7_warmThen_45 : decode cX7_warmThen 45 = .ok (.aload_n 0, 1) := by decide +kernel
theorem dX7_warmThen_46 : decode cX7_warmThen 46 = .ok (.invokevirtual 295, 3) := by decide +kernel
theorem dX7_warmThen_49 : decode cX7_warmThen 49 = .ok (.iload_n 3, 1) := by decide +kernel
theorem dX7_warmThen_50 : decode cX7_warmThen 50 = .ok (.ireturn, 1) := by decide +kernel
theorem dX7_offIn_0 : decode cX7_offIn 0 = .ok (.bipush 61, 2) := by decide +kernel
theorem dX7_offIn_2 : decode cX7_offIn 2 = .ok (.istore_n 2, 1) := by decide +kernel
theorem dX7_offIn_3 : decode cX7_offIn 3 = .ok (.iconst 0, 1) := by decide +kernel
theorem dX7_offIn_4 : decode cX7_offIn 4 = .ok (.istore_n 3, 1) := by decide +kernel
theorem dX7_offIn_5 : decode cX7_offIn 5 = .ok (.iload_n 3, 1) := by decide +kernel
theorem dX7_offIn_6 : decode cX7_offIn 6 = .ok (.bipush 60, 2) := by decide +kernel
theorem dX7_offIn_8 : decode cX7_offIn 8 = .ok (.if_icmp .gt 36, 3) := by decide +kernel
theorem dX7_offIn_11 : decode cX7_offIn 11 = .ok (.iload_n 2, 1) := by decide +kernel
theorem dX7_offIn_12 : decode cX7_offIn 12 = .ok (.bipush 61, 2) := by decide +kernel
theorem dX7_offIn_14 : decode cX7_offIn 14 = .ok (.if_icmp .ne 30, 3) := by decide +kernel
theorem dX7_offIn_17 : decode cX7_offIn 17 = .ok (.aload_n 0, 1) := by decide +kernel
theorem dX7_offIn_18 : decode cX7_offIn 18 = .ok (.getfield 38, 3) := by decide +kernel
theorem dX7_offIn_21 : decode cX7_offIn 21 = .ok (.iload_n 1, 1) := by decide +kernel
theorem dX7_offIn_22 : decode cX7_offIn 22 = .ok (.iaload, 1) := by decide +kernel
theorem dX7_offIn_23 : decode cX7_offIn 23 = .ok (.iconst 1, 1) := by decide +kernel
theorem dX7_offIn_24 : decode cX7_offIn 24 = .ok (.if_icmp .ne 8, 3) := by decide +kernel
theorem dX7_offIn_27 : decode cX7_offIn 27 = .ok (.bipush 61, 2) := by decide +kernel
theorem dX7_offIn_29 : decode cX7_offIn 29 = .ok (.goto 4, 3) := by decide +kernel
theorem dX7_offIn_32 : decode cX7_offIn 32 = .ok (.iload_n 3, 1) := by decide +kernel
theorem dX7_offIn_33 : decode cX7_offIn 33 = .ok (.istore_n 2, 1) := by decide +kernel
theorem dX7_offIn_34 : decode cX7_offIn 34 = .ok (.aload_n 0, 1) := by decide +kernel
theorem dX7_offIn_35 : decode cX7_offIn 35 = .ok (.invokevirtual 213, 3) := by decide +kernel
theorem dX7_offIn_38 : decode cX7_offIn 38 = .ok (.iinc 3 1, 3) := by decide +kernel
theorem dX7_offIn_41 : decode cX7_offIn 41 = .ok (.goto (-36), 3) := by decide +kernel
theorem dX7_offIn_44 : decode cX7_offIn 44 = .ok (.aload_n 0, 1) := by decide +kernel
theorem dX7_offIn_45 : decode cX7_offIn 45 = .ok (.invokevirtual 295, 3) := by decide +kernel
theorem dX7_offIn_48 : decode cX7_offIn 48 = .ok (.iload_n 2, 1) := by decide +kernel
theorem dX7_offIn_49 : decode cX7_offIn 49 = .ok (.ireturn, 1) := by decide +kernel
theorem dX7_when_0 : decode cX7_when 0 = .ok (.aload_n 0, 1) := by decide +kernel
theorem dX7_when_1 : decode cX7_when 1 = .ok (.iconst 0, 1) := by decide +kernel
theorem dX7_when_2 : decode cX7_when 2 = .ok (.putfield 114, 3) := by decide +kernel
theorem dX7_when_5 : decode cX7_when 5 = .ok (.iload_n 1, 1) := by decide +kernel
theorem dX7_when_6 : decode cX7_when 6 = .ok (.i2l, 1) := by decide +kernel
theorem dX7_when_7 : decode cX7_when 7 = .ok (.ldc2_w 358, 3) := by decide +kernel
theorem dX7_when_10 : decode cX7_when 10 = .ok (.aload_n 0, 1) := by decide +kernel
theorem dX7_when_11 : decode cX7_when 11 = .ok (.getfield 126, 3) := by decide +kernel
theorem dX7_when_14 : decode cX7_when 14 = .ok (.iconst 1, 1) := by decide +kernel
theorem dX7_when_15 : decode cX7_when 15 = .ok (.isub, 1) := by decide +kernel
theorem dX7_when_16 : decode cX7_when 16 = .ok (.i2l, 1) := by decide +kernel
theorem dX7_when_17 : decode cX7_when 17 = .ok (.invokestatic 122, 3) := by decide +kernel
theorem dX7_when_20 : decode cX7_when 20 = .ok (.ifCond .ne 9, 3) := by decide +kernel
theorem dX7_when_23 : decode cX7_when 23 = .ok (.aload_n 0, 1) := by decide +kernel
theorem dX7_when_24 : decode cX7_when 24 = .ok (.iconst (-1), 1) := by decide +kernel
theorem dX7_when_25 : decode cX7_when 25 = .ok (.invokevirtual 219, 3) := by decide +kernel
theorem dX7_when_28 : decode cX7_when 28 = .ok (.ireturn, 1) := by decide +kernel
theorem dX7_when_29 : decode cX7_when 29 = .ok (.aload_n 0, 1) := by decide +kernel
theorem dX7_when_30 : decode cX7_when 30 = .ok (.invokevirtual 289, 3) := by decide +kernel
theorem dX7_when_33 : decode cX7_when 33 = .ok (.iload_n 1, 1) := by decide +kernel
theorem dX7_when_34 : decode cX7_when 34 = .ok (.ifCond .lt 22, 3) := by decide +kernel
theorem dX7_when_37 : decode cX7_when 37 = .ok (.aload_n 0, 1) := by decide +kernel
theorem dX7_when_38 : decode cX7_when 38 = .ok (.iload_n 1, 1) := by decide +kernel
theorem dX7_when_39 : decode cX7_when 39 = .ok (.invokevirtual 360, 3) := by decide +kernel
theorem dX7_when_42 : decode cX7_when 42 = .ok (.istore_n 2, 1) := by decide +kernel
theorem dX7_when_43 : decode cX7_when 43 = .ok (.iload_n 2, 1) := by decide +kernel
theorem dX7_when_44 : decode cX7_when 44 = .ok (.bipush 61, 2) := by decide +kernel
theorem dX7_when_46 : decode cX7_when 46 = .ok (.if_icmp .ne 8, 3) := by decide +kernel
theorem dX7_when_49 : decode cX7_when 49 = .ok (.bipush (-9), 2) := by decide +kernel
theorem dX7_when_51 : decode cX7_when 51 = .ok (.goto 4, 3) := by decide +kernel
theorem dX7_when_54 : decode cX7_when 54 = .ok (.iload_n 2, 1) := by decide +kernel
theorem dX7_when_55 : decode cX7_when 55 = .ok (.ireturn, 1) := by decide +kernel
theorem dX7_when_56 : decode cX7_when 56 = .ok (.bipush (-9), 2) := by decide +kernel
theorem dX7_when_58 : decode cX7_when 58 = .ok (.istore_n 2, 1) := by decide +kernel
theorem dX7_when_59 : decode cX7_when 59 = .ok (.bipush 61, 2) := by decide +kernel
theorem dX7_when_61 : decode cX7_when 61 = .ok (.istore_n 3, 1) := by decide +kernel
theorem dX7_when_62 : decode cX7_when 62 = .ok (.iconst 0, 1) := by decide +kernel
theorem dX7_when_63 : decode cX7_when 63 = .ok (.istore 4, 2) := by decide +kernel
theorem dX7_when_65 : decode cX7_when 65 = .ok (.iload 4, 2) := by decide +kernel
theorem dX7_when_67 : decode cX7_when 67 = .ok (.aload_n 0, 1) := by decide +kernel
theorem dX7_when_68 : decode cX7_when 68 = .ok (.getfield 126, 3) := by decide +kernel
theorem dX7_when_71 : decode cX7_when 71 = .ok (.if_icmp .ge 59, 3) := by decide +kernel
theorem dX7_when_74 : decode cX7_when 74 = .ok (.aload_n 0, 1) := by decide +kernel
theorem dX7_when_75 : decode cX7_when 75 = .ok (.getfield 38, 3) := by decide +kernel
theorem dX7_when_78 : decode cX7_when 78 = .ok (.iload 4, 2) := by decide +kernel
theorem dX7_when_80 : decode cX7_when 80 = .ok (.iaload, 1) := by decide +kernel
theorem dX7_when_81 : decode cX7_when 81 = .ok (.iconst 1, 1) := by decide +kernel
theorem dX7_when_82 : decode cX7_when 82 = .ok (.if_icmp .ne 12, 3) := by decide +kernel
theorem dX7_when_85 : decode cX7_when 85 = .ok (.aload_n 0, 1) := by decide +kernel
theorem dX7_when_86 : decode cX7_when 86 = .ok (.iload 4, 2) := by decide +kernel
theorem dX7_when_88 : decode cX7_when 88 = .ok (.invokevirtual 360, 3) := by decide +kernel
theorem dX7_when_91 : decode cX7_when 91 = .ok (.goto 5, 3) := by decide +kernel
theorem dX7_when_94 : decode cX7_when 94 = .ok (.bipush 61, 2) := by decide +kernel
theorem dX7_when_96 : decode cX7_when 96 = .ok (.istore 5, 2) := by decide +kernel
theorem dX7_when_98 : decode cX7_when 98 = .ok (.iload 5, 2) := by decide +kernel
theorem dX7_when_100 : decode cX7_when 100 = .ok (.iload_n 3, 1) := by decide +kernel
theorem dX7_when_101 : decode cX7_when 101 = .ok (.if_icmp .ge 8, 3) := by decide +kernel
theorem dX7_when_104 : decode cX7_when 104 = .ok (.iload 4, 2) := by decide +kernel
theorem dX7_when_106 : decode cX7_when 106 = .ok (.goto 4, 3) := by decide +kernel
theorem dX7_when_109 : decode cX7_when 109 = .ok (.iload_n 2, 1) := by decide +kernel
theorem dX7_when_110 : decode cX7_when 110 = .ok (.istore_n 2, 1) := by decide +kernel
theorem dX7_when_111 : decode cX7_when 111 = .ok (.iload 5, 2) := by decide +kernel
theorem dX7_when_113 : decode cX7_when 113 = .ok (.iload_n 3, 1) := by decide +kernel
theorem dX7_when_114 : decode cX7_when 114 = .ok (.if_icmp .ge 8, 3) := by decide +kernel
theorem dX7_when_117 : decode cX7_when 117 = .ok (.iload 5, 2) := by decide +kernel
theorem dX7_when_119 : decode cX7_when 119 = .ok (.goto 4, 3) := by decide +kernel
theorem dX7_when_122 : decode cX7_when 122 = .ok (.iload_n 3, 1) := by decide +kernel
theorem dX7_when_123 : decode cX7_when 123 = .ok (.istore_n 3, 1) := by decide +kernel
theorem dX7_when_124 : decode cX7_when 124 = .ok (.iinc 4 1, 3) := by decide +kernel
theorem dX7_when_127 : decode cX7_when 127 = .ok (.goto (-62), 3) := by decide +kernel
theorem dX7_when_130 : decode cX7_when 130 = .ok (.iload_n 2, 1) := by decide +kernel
theorem dX7_when_131 : decode cX7_when 131 = .ok (.ireturn, 1) := by decide +kernel
theorem dX7_sit_0 : decode cX7_sit 0 = .ok (.aload_n 0, 1) := by decide +kernel
theorem dX7_sit_1 : decode cX7_sit 1 = .ok (.iconst 0, 1) := by decide +kernel
theorem dX7_sit_2 : decode cX7_sit 2 = .ok (.putfield 114, 3) := by decide +kernel
theorem dX7_sit_5 : decode cX7_sit 5 = .ok (.aload_n 0, 1) := by decide +kernel
theorem dX7_sit_6 : decode cX7_sit 6 = .ok (.iload_n 1, 1) := by decide +kernel
theorem dX7_sit_7 : decode cX7_sit 7 = .ok (.invokevirtual 323, 3) := by decide +kernel
theorem dX7_sit_10 : decode cX7_sit 10 = .ok (.ifCond .eq 13, 3) := by decide +kernel
theorem dX7_sit_13 : decode cX7_sit 13 = .ok (.iload_n 2, 1) := by decide +kernel
theorem dX7_sit_14 : decode cX7_sit 14 = .ok (.i2l, 1) := by decide +kernel
theorem dX7_sit_15 : decode cX7_sit 15 = .ok (.lconst 0, 1) := by decide +kernel
theorem dX7_sit_16 : decode cX7_sit 16 = .ok (.lconst 1, 1) := by decide +kernel
theorem dX7_sit_17 : decode cX7_sit 17 = .ok (.invokestatic 122, 3) := by decide +kernel
theorem dX7_sit_20 : decode cX7_sit 20 = .ok (.ifCond .ne 22, 3) := by decide +kernel
theorem dX7_sit_23 : decode cX7_sit 23 = .ok (.aload_n 0, 1) := by decide +kernel
theorem dX7_sit_24 : decode cX7_sit 24 = .ok (.aload_n 0, 1) := by decide +kernel
theorem dX7_sit_25 : decode cX7_sit 25 = .ok (.iload_n 1, 1) := by decide +kernel
theorem dX7_sit_26 : decode cX7_sit 26 = .ok (.invokevirtual 323, 3) := by decide +kernel
theorem dX7_sit_29 : decode cX7_sit 29 = .ok (.ifCond .eq 8, 3) := by decide +kernel
theorem dX7_sit_32 : decode cX7_sit 32 = .ok (.bipush (-2), 2) := by decide +kernel
theorem dX7_sit_34 : decode cX7_sit 34 = .ok (.goto 4, 3) := by decide +kernel
theorem dX7_sit_37 : decode cX7_sit 37 = .ok (.iconst (-1), 1) := by decide +kernel
theorem dX7_sit_38 : decode cX7_sit 38 = .ok (.invokevirtual 219, 3) := by decide +kernel
theorem dX7_sit_41 : decode cX7_sit 41 = .ok (.ireturn, 1) := by decide +kernel
theorem dX7_sit_42 : decode cX7_sit 42 = .ok (.aload_n 0, 1) := by decide +kernel
theorem dX7_sit_43 : decode cX7_sit 43 = .ok (.getfield 38, 3) := by decide +kernel
theorem dX7_sit_46 : decode cX7_sit 46 = .ok (.iload_n 1, 1) := by decide +kernel
theorem dX7_sit_47 : decode cX7_sit 47 = .ok (.iaload, 1) := by decide +kernel
theorem dX7_sit_48 : decode cX7_sit 48 = .ok (.ifCond .ne 10, 3) := by decide +kernel
theorem dX7_sit_51 : decode cX7_sit 51 = .ok (.aload_n 0, 1) := by decide +kernel
theorem dX7_sit_52 : decode cX7_sit 52 = .ok (.bipush (-3), 2) := by decide +kernel
theorem dX7_sit_54 : decode cX7_sit 54 = .ok (.invokevirtual 219, 3) := by decide +kernel
theorem dX7_sit_57 : decode cX7_sit 57 = .ok (.ireturn, 1) := by decide +kernel
theorem dX7_sit_58 : decode cX7_sit 58 = .ok (.bipush (-9), 2) := by decide +kernel
theorem dX7_sit_60 : decode cX7_sit 60 = .ok (.istore_n 3, 1) := by decide +kernel
theorem dX7_sit_61 : decode cX7_sit 61 = .ok (.iconst (-1), 1) := by decide +kernel
theorem dX7_sit_62 : decode cX7_sit 62 = .ok (.istore 4, 2) := by decide +kernel
theorem dX7_sit_64 : decode cX7_sit 64 = .ok (.aload_n 0, 1) := by decide +kernel
theorem dX7_sit_65 : decode cX7_sit 65 = .ok (.invokevirtual 289, 3) := by decide +kernel
theorem dX7_sit_68 : decode cX7_sit 68 = .ok (.iconst 0, 1) := by decide +kernel
theorem dX7_sit_69 : decode cX7_sit 69 = .ok (.istore 5, 2) := by decide +kernel
theorem dX7_sit_71 : decode cX7_sit 71 = .ok (.iload 5, 2) := by decide +kernel
theorem dX7_sit_73 : decode cX7_sit 73 = .ok (.bipush 36, 2) := by decide +kernel
theorem dX7_sit_75 : decode cX7_sit 75 = .ok (.if_icmp .ge 74, 3) := by decide +kernel
theorem dX7_sit_78 : decode cX7_sit 78 = .ok (.aload_n 0, 1) := by decide +kernel
theorem dX7_sit_79 : decode cX7_sit 79 = .ok (.iload 5, 2) := by decide +kernel
theorem dX7_sit_81 : decode cX7_sit 81 = .ok (.invokevirtual 179, 3) := by decide +kernel
theorem dX7_sit_84 : decode cX7_sit 84 = .ok (.ifCond .ne 14, 3) := by decide +kernel
theorem dX7_sit_87 : decode cX7_sit 87 = .ok (.iload 5, 2) := by decide +kernel
theorem dX7_sit_89 : decode cX7_sit 89 = .ok (.aload_n 0, 1) := by decide +kernel
theorem dX7_sit_90 : decode cX7_sit 90 = .ok (.getfield 32, 3) := by decide +kernel
theorem dX7_sit_93 : decode cX7_sit 93 = .ok (.iload_n 1, 1) := by decide +kernel
theorem dX7_sit_94 : decode cX7_sit 94 = .ok (.iaload, 1) := by decide +kernel
theorem dX7_sit_95 : decode cX7_sit 95 = .ok (.if_icmp .ne 48, 3) := by decide +kernel
theorem dX7_sit_98 : decode cX7_sit 98 = .ok (.aload_n 0, 1) := by decide +kernel
theorem dX7_sit_99 : decode cX7_sit 99 = .ok (.getfield 32, 3) := by decide +kernel
theorem dX7_sit_102 : decode cX7_sit 102 = .ok (.iload_n 1, 1) := by decide +kernel
theorem dX7_sit_103 : decode cX7_sit 103 = .ok (.iload 5, 2) := by decide +kernel
theorem dX7_sit_105 : decode cX7_sit 105 = .ok (.iastore, 1) := by decide +kernel
theorem dX7_sit_106 : decode cX7_sit 106 = .ok (.aload_n 0, 1) := by decide +kernel
theorem dX7_sit_107 : decode cX7_sit 107 = .ok (.iload_n 1, 1) := by decide +kernel
theorem dX7_sit_108 : decode cX7_sit 108 = .ok (.invokevirtual 360, 3) := by decide +kernel
theorem dX7_sit_111 : decode cX7_sit 111 = .ok (.istore 6, 2) := by decide +kernel
theorem dX7_sit_113 : decode cX7_sit 113 = .ok (.iload 6, 2) := by decide +kernel
theorem dX7_sit_115 : decode cX7_sit 115 = .ok (.iload 4, 2) := by decide +kernel
theorem dX7_sit_117 : decode cX7_sit 117 = .ok (.if_icmp .le 8, 3) := by decide +kernel
theorem dX7_sit_120 : decode cX7_sit 120 = .ok (.iload 5, 2) := by decide +kernel
theorem dX7_sit_122 : decode cX7_sit 122 = .ok (.goto 4, 3) := by decide +kernel
theorem dX7_sit_125 : decode cX7_sit 125 = .ok (.iload_n 3, 1) := by decide +kernel
theorem dX7_sit_126 : decode cX7_sit 126 = .ok (.istore_n 3, 1) := by decide +kernel
theorem dX7_sit_127 : decode cX7_sit 127 = .ok (.iload 6, 2) := by decide +kernel
theorem dX7_sit_129 : decode cX7_sit 129 = .ok (.iload 4, 2) := by decide +kernel
theorem dX7_sit_131 : decode cX7_sit 131 = .ok (.if_icmp .le 8, 3) := by decide +kernel
theorem dX7_sit_134 : decode cX7_sit 134 = .ok (.iload 6, 2) := by decide +kernel
theorem dX7_sit_136 : decode cX7_sit 136 = .ok (.goto 5, 3) := by decide +kernel
theorem dX7_sit_139 : decode cX7_sit 139 = .ok (.iload 4, 2) := by decide +kernel
theorem dX7_sit_141 : decode cX7_sit 141 = .ok (.istore 4, 2) := by decide +kernel
theorem dX7_sit_143 : decode cX7_sit 143 = .ok (.iinc 5 1, 3) := by decide +kernel
theorem dX7_sit_146 : decode cX7_sit 146 = .ok (.goto (-75), 3) := by decide +kernel
theorem dX7_sit_149 : decode cX7_sit 149 = .ok (.iload_n 2, 1) := by decide +kernel
theorem dX7_sit_150 : decode cX7_sit 150 = .ok (.ifCond .ne 7, 3) := by decide +kernel
theorem dX7_sit_153 : decode cX7_sit 153 = .ok (.iload_n 3, 1) := by decide +kernel
theorem dX7_sit_154 : decode cX7_sit 154 = .ok (.goto 5, 3) := by decide +kernel
theorem dX7_sit_157 : decode cX7_sit 157 = .ok (.iload 4, 2) := by decide +kernel
theorem dX7_sit_159 : decode cX7_sit 159 = .ok (.ireturn, 1) := by decide +kernel
theorem dX7_shut_0 : decode cX7_shut 0 = .ok (.aload_n 0, 1) := by decide +kernel
theorem dX7_shut_1 : decode cX7_shut 1 = .ok (.iconst 0, 1) := by decide +kernel
theorem dX7_shut_2 : decode cX7_shut 2 = .ok (.putfield 114, 3) := by decide +kernel
theorem dX7_shut_5 : decode cX7_shut 5 = .ok (.aload_n 0, 1) := by decide +kernel
theorem dX7_shut_6 : decode cX7_shut 6 = .ok (.iload_n 1, 1) := by decide +kernel
theorem dX7_shut_7 : decode cX7_shut 7 = .ok (.invokevirtual 323, 3) := by decide +kernel
theorem dX7_shut_10 : decode cX7_shut 10 = .ok (.ifCond .ne 9, 3) := by decide +kernel
theorem dX7_shut_13 : decode cX7_shut 13 = .ok (.aload_n 0, 1) := by decide +kernel
theorem dX7_shut_14 : decode cX7_shut 14 = .ok (.iconst (-1), 1) := by decide +kernel
theorem dX7_shut_15 : decode cX7_shut 15 = .ok (.invokevirtual 219, 3) := by decide +kernel
theorem dX7_shut_18 : decode cX7_shut 18 = .ok (.ireturn, 1) := by decide +kernel
theorem dX7_shut_19 : decode cX7_shut 19 = .ok (.iload_n 2, 1) := by decide +kernel
theorem dX7_shut_20 : decode cX7_shut 20 = .ok (.iconst 0, 1) := by decide +kernel
theorem dX7_shut_21 : decode cX7_shut 21 = .ok (.bipush 30, 2) := by decide +kernel
theorem dX7_shut_23 : decode cX7_shut 23 = .ok (.invokestatic 347, 3) := by decide +kernel
theorem dX7_shut_26 : decode cX7_shut 26 = .ok (.istore_n 3, 1) := by decide +kernel
theorem dX7_shut_27 : decode cX7_shut 27 = .ok (.iload_n 3, 1) := by decide +kernel
theorem dX7_shut_28 : decode cX7_shut 28 = .ok (.ifCond .ne 17, 3) := by decide +kernel
theorem dX7_shut_31 : decode cX7_shut 31 = .ok (.aload_n 0, 1) := by decide +kernel
theorem dX7_shut_32 : decode cX7_shut 32 = .ok (.getfield 38, 3) := by decide +kernel
theorem dX7_shut_35 : decode cX7_shut 35 = .ok (.iload_n 1, 1) := by decide +kernel
theorem dX7_shut_36 : decode cX7_shut 36 = .ok (.iaload, 1) := by decide +kernel
theorem dX7_shut_37 : decode cX7_shut 37 = .ok (.ifCond .ne 8, 3) := by decide +kernel
theorem dX7_shut_40 : decode cX7_shut 40 = .ok (.bipush (-3), 2) := by decide +kernel
theorem dX7_shut_42 : decode cX7_shut 42 = .ok (.goto 4, 3) := by decide +kernel
theorem dX7_shut_45 : decode cX7_shut 45 = .ok (.iload_n 3, 1) := by decide +kernel
theorem dX7_shut_46 : decode cX7_shut 46 = .ok (.istore_n 3, 1) := by decide +kernel
theorem dX7_shut_47 : decode cX7_shut 47 = .ok (.iload_n 3, 1) := by decide +kernel
theorem dX7_shut_48 : decode cX7_shut 48 = .ok (.ifCond .ge 9, 3) := by decide +kernel
theorem dX7_shut_51 : decode cX7_shut 51 = .ok (.aload_n 0, 1) := by decide +kernel
theorem dX7_shut_52 : decode cX7_shut 52 = .ok (.iload_n 3, 1) := by decide +kernel
theorem dX7_shut_53 : decode cX7_shut 53 = .ok (.invokevirtual 219, 3) := by decide +kernel
theorem dX7_shut_56 : decode cX7_shut 56 = .ok (.ireturn, 1) := by decide +kernel
theorem dX7_shut_57 : decode cX7_shut 57 = .ok (.bipush (-9), 2) := by decide +kernel
theorem dX7_shut_59 : decode cX7_shut 59 = .ok (.istore 4, 2) := by decide +kernel
theorem dX7_shut_61 : decode cX7_shut 61 = .ok (.aload_n 0, 1) := by decide +kernel
theorem dX7_shut_62 : decode cX7_shut 62 = .ok (.invokevirtual 289, 3) := by decide +kernel
theorem dX7_shut_65 : decode cX7_shut 65 = .ok (.iconst 0, 1) := by decide +kernel
theorem dX7_shut_66 : decode cX7_shut 66 = .ok (.istore 5, 2) := by decide +kernel
theorem dX7_shut_68 : decode cX7_shut 68 = .ok (.iload 5, 2) := by decide +kernel
theorem dX7_shut_70 : decode cX7_shut 70 = .ok (.bipush 36, 2) := by decide +kernel
theorem dX7_shut_72 : decode cX7_shut 72 = .ok (.if_icmp .ge 59, 3) := by decide +kernel
theorem dX7_shut_75 : decode cX7_shut 75 = .ok (.iload 4, 2) := by decide +kernel
theorem dX7_shut_77 : decode cX7_shut 77 = .ok (.ifCond .ge 54, 3) := by decide +kernel
theorem dX7_shut_80 : decode cX7_shut 80 = .ok (.aload_n 0, 1) := by decide +kernel
theorem dX7_shut_81 : decode cX7_shut 81 = .ok (.iload 5, 2) := by decide +kernel
theorem dX7_shut_83 : decode cX7_shut 83 = .ok (.invokevirtual 179, 3) := by decide +kernel
theorem dX7_shut_86 : decode cX7_shut 86 = .ok (.ifCond .eq 39, 3) := by decide +kernel
theorem dX7_shut_89 : decode cX7_shut 89 = .ok (.aload_n 0, 1) := by decide +kernel
theorem dX7_shut_90 : decode cX7_shut 90 = .ok (.getfield 13, 3) := by decide +kernel
theorem dX7_shut_93 : decode cX7_shut 93 = .ok (.iload 5, 2) := by decide +kernel
