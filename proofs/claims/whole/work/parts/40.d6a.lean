theorem dX6_init_0 : decode cX6_init 0 = .ok (.aload_n 0, 1) := by decide +kernel
theorem dX6_init_1 : decode cX6_init 1 = .ok (.invokespecial 1, 3) := by decide +kernel
theorem dX6_init_4 : decode cX6_init 4 = .ok (.aload_n 0, 1) := by decide +kernel
theorem dX6_init_5 : decode cX6_init 5 = .ok (.new 7, 3) := by decide +kernel
theorem dX6_init_8 : decode cX6_init 8 = .ok (.dup, 1) := by decide +kernel
theorem dX6_init_9 : decode cX6_init 9 = .ok (.invokespecial 9, 3) := by decide +kernel
theorem dX6_init_12 : decode cX6_init 12 = .ok (.putfield 10, 3) := by decide +kernel
theorem dX6_init_15 : decode cX6_init 15 = .ok (.aload_n 0, 1) := by decide +kernel
theorem dX6_init_16 : decode cX6_init 16 = .ok (.new 7, 3) := by decide +kernel
theorem dX6_init_19 : decode cX6_init 19 = .ok (.dup, 1) := by decide +kernel
theorem dX6_init_20 : decode cX6_init 20 = .ok (.invokespecial 9, 3) := by decide +kernel
theorem dX6_init_23 : decode cX6_init 23 = .ok (.putfield 16, 3) := by decide +kernel
theorem dX6_init_26 : decode cX6_init 26 = .ok (.aload_n 0, 1) := by decide +kernel
theorem dX6_init_27 : decode cX6_init 27 = .ok (.new 7, 3) := by decide +kernel
theorem dX6_init_30 : decode cX6_init 30 = .ok (.dup, 1) := by decide +kernel
theorem dX6_init_31 : decode cX6_init 31 = .ok (.invokespecial 9, 3) := by decide +kernel
theorem dX6_init_34 : decode cX6_init 34 = .ok (.putfield 19, 3) := by decide +kernel
theorem dX6_init_37 : decode cX6_init 37 = .ok (.aload_n 0, 1) := by decide +kernel
theorem dX6_init_38 : decode cX6_init 38 = .ok (.new 22, 3) := by decide +kernel
theorem dX6_init_41 : decode cX6_init 41 = .ok (.dup, 1) := by decide +kernel
theorem dX6_init_42 : decode cX6_init 42 = .ok (.invokespecial 24, 3) := by decide +kernel
theorem dX6_init_45 : decode cX6_init 45 = .ok (.putfield 25, 3) := by decide +kernel
theorem dX6_init_48 : decode cX6_init 48 = .ok (.aload_n 0, 1) := by decide +kernel
theorem dX6_init_49 : decode cX6_init 49 = .ok (.new 29, 3) := by decide +kernel
theorem dX6_init_52 : decode cX6_init 52 = .ok (.dup, 1) := by decide +kernel
theorem dX6_init_53 : decode cX6_init 53 = .ok (.invokespecial 31, 3) := by decide +kernel
theorem dX6_init_56 : decode cX6_init 56 = .ok (.putfield 32, 3) := by decide +kernel
theorem dX6_init_59 : decode cX6_init 59 = .ok (.aload_n 0, 1) := by decide +kernel
theorem dX6_init_60 : decode cX6_init 60 = .ok (.new 36, 3) := by decide +kernel
theorem dX6_init_63 : decode cX6_init 63 = .ok (.dup, 1) := by decide +kernel
theorem dX6_init_64 : decode cX6_init 64 = .ok (.invokespecial 38, 3) := by decide +kernel
theorem dX6_init_67 : decode cX6_init 67 = .ok (.putfield 39, 3) := by decide +kernel
theorem dX6_init_70 : decode cX6_init 70 = .ok (.aload_n 0, 1) := by decide +kernel
theorem dX6_init_71 : decode cX6_init 71 = .ok (.bipush 12, 2) := by decide +kernel
theorem dX6_init_73 : decode cX6_init 73 = .ok (.newarray .int, 2) := by decide +kernel
theorem dX6_init_75 : decode cX6_init 75 = .ok (.putfield 43, 3) := by decide +kernel
theorem dX6_init_78 : decode cX6_init 78 = .ok (.aload_n 0, 1) := by decide +kernel
theorem dX6_init_79 : decode cX6_init 79 = .ok (.bipush 7, 2) := by decide +kernel
theorem dX6_init_81 : decode cX6_init 81 = .ok (.newarray .int, 2) := by decide +kernel
theorem dX6_init_83 : decode cX6_init 83 = .ok (.putfield 47, 3) := by decide +kernel
theorem dX6_init_86 : decode cX6_init 86 = .ok (.aload_n 0, 1) := by decide +kernel
theorem dX6_init_87 : decode cX6_init 87 = .ok (.iconst 4, 1) := by decide +kernel
theorem dX6_init_88 : decode cX6_init 88 = .ok (.newarray .int, 2) := by decide +kernel
theorem dX6_init_90 : decode cX6_init 90 = .ok (.putfield 50, 3) := by decide +kernel
theorem dX6_init_93 : decode cX6_init 93 = .ok (.aload_n 0, 1) := by decide +kernel
theorem dX6_init_94 : decode cX6_init 94 = .ok (.iconst 4, 1) := by decide +kernel
theorem dX6_init_95 : decode cX6_init 95 = .ok (.newarray .int, 2) := by decide +kernel
theorem dX6_init_97 : decode cX6_init 97 = .ok (.putfield 53, 3) := by decide +kernel
theorem dX6_init_100 : decode cX6_init 100 = .ok (.return_, 1) := by decide +kernel
theorem dX6_feed_0 : decode cX6_feed 0 = .ok (.iload_n 1, 1) := by decide +kernel
theorem dX6_feed_1 : decode cX6_feed 1 = .ok (.ifCond .ge 10, 3) := by decide +kernel
theorem dX6_feed_4 : decode cX6_feed 4 = .ok (.aload_n 0, 1) := by decide +kernel
theorem dX6_feed_5 : decode cX6_feed 5 = .ok (.bipush (-4), 2) := by decide +kernel
theorem dX6_feed_7 : decode cX6_feed 7 = .ok (.invokevirtual 56, 3) := by decide +kernel
theorem dX6_feed_10 : decode cX6_feed 10 = .ok (.ireturn, 1) := by decide +kernel
theorem dX6_feed_11 : decode cX6_feed 11 = .ok (.iload_n 1, 1) := by decide +kernel
theorem dX6_feed_12 : decode cX6_feed 12 = .ok (.sipush 255, 3) := by decide +kernel
theorem dX6_feed_15 : decode cX6_feed 15 = .ok (.if_icmp .gt 15, 3) := by decide +kernel
theorem dX6_feed_18 : decode cX6_feed 18 = .ok (.aload_n 0, 1) := by decide +kernel
theorem dX6_feed_19 : decode cX6_feed 19 = .ok (.getfield 32, 3) := by decide +kernel
theorem dX6_feed_22 : decode cX6_feed 22 = .ok (.getfield 60, 3) := by decide +kernel
theorem dX6_feed_25 : decode cX6_feed 25 = .ok (.bipush 96, 2) := by decide +kernel
theorem dX6_feed_27 : decode cX6_feed 27 = .ok (.if_icmp .lt 10, 3) := by decide +kernel
theorem dX6_feed_30 : decode cX6_feed 30 = .ok (.aload_n 0, 1) := by decide +kernel
theorem dX6_feed_31 : decode cX6_feed 31 = .ok (.bipush (-6), 2) := by decide +kernel
theorem dX6_feed_33 : decode cX6_feed 33 = .ok (.invokevirtual 56, 3) := by decide +kernel
theorem dX6_feed_36 : decode cX6_feed 36 = .ok (.ireturn, 1) := by decide +kernel
theorem dX6_feed_37 : decode cX6_feed 37 = .ok (.aload_n 0, 1) := by decide +kernel
theorem dX6_feed_38 : decode cX6_feed 38 = .ok (.getfield 32, 3) := by decide +kernel
theorem dX6_feed_41 : decode cX6_feed 41 = .ok (.getfield 64, 3) := by decide +kernel
theorem dX6_feed_44 : decode cX6_feed 44 = .ok (.aload_n 0, 1) := by decide +kernel
theorem dX6_feed_45 : decode cX6_feed 45 = .ok (.getfield 32, 3) := by decide +kernel
theorem dX6_feed_48 : decode cX6_feed 48 = .ok (.getfield 60, 3) := by decide +kernel
theorem dX6_feed_51 : decode cX6_feed 51 = .ok (.iload_n 1, 1) := by decide +kernel
theorem dX6_feed_52 : decode cX6_feed 52 = .ok (.iastore, 1) := by decide +kernel
theorem dX6_feed_53 : decode cX6_feed 53 = .ok (.aload_n 0, 1) := by decide +kernel
theorem dX6_feed_54 : decode cX6_feed 54 = .ok (.getfield 32, 3) := by decide +kernel
theorem dX6_feed_57 : decode cX6_feed 57 = .ok (.dup, 1) := by decide +kernel
theorem dX6_feed_58 : decode cX6_feed 58 = .ok (.getfield 60, 3) := by decide +kernel
theorem dX6_feed_61 : decode cX6_feed 61 = .ok (.iconst 1, 1) := by decide +kernel
theorem dX6_feed_62 : decode cX6_feed 62 = .ok (.iadd, 1) := by decide +kernel
theorem dX6_feed_63 : decode cX6_feed 63 = .ok (.putfield 60, 3) := by decide +kernel
theorem dX6_feed_66 : decode cX6_feed 66 = .ok (.aload_n 0, 1) := by decide +kernel
theorem dX6_feed_67 : decode cX6_feed 67 = .ok (.getfield 32, 3) := by decide +kernel
theorem dX6_feed_70 : decode cX6_feed 70 = .ok (.getfield 60, 3) := by decide +kernel
theorem dX6_feed_73 : decode cX6_feed 73 = .ok (.ireturn, 1) := by decide +kernel
theorem dX6_house_0 : decode cX6_house 0 = .ok (.aload_n 0, 1) := by decide +kernel
theorem dX6_house_1 : decode cX6_house 1 = .ok (.getfield 32, 3) := by decide +kernel
theorem dX6_house_4 : decode cX6_house 4 = .ok (.invokevirtual 67, 3) := by decide +kernel
theorem dX6_house_7 : decode cX6_house 7 = .ok (.istore_n 1, 1) := by decide +kernel
theorem dX6_house_8 : decode cX6_house 8 = .ok (.iload_n 1, 1) := by decide +kernel
theorem dX6_house_9 : decode cX6_house 9 = .ok (.ifCond .ge 14, 3) := by decide +kernel
theorem dX6_house_12 : decode cX6_house 12 = .ok (.sipush (-1000), 3) := by decide +kernel
theorem dX6_house_15 : decode cX6_house 15 = .ok (.iload_n 1, 1) := by decide +kernel
theorem dX6_house_16 : decode cX6_house 16 = .ok (.invokestatic 71, 3) := by decide +kernel
theorem dX6_house_19 : decode cX6_house 19 = .ok (.isub, 1) := by decide +kernel
theorem dX6_house_20 : decode cX6_house 20 = .ok (.goto 4, 3) := by decide +kernel
theorem dX6_house_23 : decode cX6_house 23 = .ok (.iload_n 1, 1) := by decide +kernel
theorem dX6_house_24 : decode cX6_house 24 = .ok (.istore_n 2, 1) := by decide +kernel
theorem dX6_house_25 : decode cX6_house 25 = .ok (.iconst 0, 1) := by decide +kernel
theorem dX6_house_26 : decode cX6_house 26 = .ok (.istore_n 3, 1) := by decide +kernel
theorem dX6_house_27 : decode cX6_house 27 = .ok (.aload_n 0, 1) := by decide +kernel
theorem dX6_house_28 : decode cX6_house 28 = .ok (.getfield 16, 3) := by decide +kernel
theorem dX6_house_31 : decode cX6_house 31 = .ok (.aload_n 0, 1) := by decide +kernel
theorem dX6_house_32 : decode cX6_house 32 = .ok (.getfield 10, 3) := by decide +kernel
theorem dX6_house_35 : decode cX6_house 35 = .ok (.invokevirtual 74, 3) := by decide +kernel
theorem dX6_house_38 : decode cX6_house 38 = .ok (.iconst 0, 1) := by decide +kernel
theorem dX6_house_39 : decode cX6_house 39 = .ok (.istore 4, 2) := by decide +kernel
theorem dX6_house_41 : decode cX6_house 41 = .ok (.iload 4, 2) := by decide +kernel
theorem dX6_house_43 : decode cX6_house 43 = .ok (.iload_n 1, 1) := by decide +kernel
theorem dX6_house_44 : decode cX6_house 44 = .ok (.if_icmp .ge 46, 3) := by decide +kernel
theorem dX6_house_47 : decode cX6_house 47 = .ok (.iload_n 2, 1) := by decide +kernel
theorem dX6_house_48 : decode cX6_house 48 = .ok (.ifCond .lt 42, 3) := by decide +kernel
theorem dX6_house_51 : decode cX6_house 51 = .ok (.aload_n 0, 1) := by decide +kernel
theorem dX6_house_52 : decode cX6_house 52 = .ok (.getfield 32, 3) := by decide +kernel
theorem dX6_house_55 : decode cX6_house 55 = .ok (.iload_n 3, 1) := by decide +kernel
theorem dX6_house_56 : decode cX6_house 56 = .ok (.aload_n 0, 1) := by decide +kernel
theorem dX6_house_57 : decode cX6_house 57 = .ok (.getfield 16, 3) := by decide +kernel
theorem dX6_house_60 : decode cX6_house 60 = .ok (.invokevirtual 78, 3) := by decide +kernel
theorem dX6_house_63 : decode cX6_house 63 = .ok (.ifCond .eq 15, 3) := by decide +kernel
theorem dX6_house_66 : decode cX6_house 66 = .ok (.aload_n 0, 1) := by decide +kernel
theorem dX6_house_67 : decode cX6_house 67 = .ok (.getfield 32, 3) := by decide +kernel
theorem dX6_house_70 : decode cX6_house 70 = .ok (.iload_n 3, 1) := by decide +kernel
theorem dX6_house_71 : decode cX6_house 71 = .ok (.invokevirtual 82, 3) := by decide +kernel
theorem dX6_house_74 : decode cX6_house 74 = .ok (.istore_n 3, 1) := by decide +kernel
theorem dX6_house_75 : decode cX6_house 75 = .ok (.goto 9, 3) := by decide +kernel
theorem dX6_house_78 : decode cX6_house 78 = .ok (.sipush (-2000), 3) := by decide +kernel
theorem dX6_house_81 : decode cX6_house 81 = .ok (.iload_n 3, 1) := by decide +kernel
theorem dX6_house_82 : decode cX6_house 82 = .ok (.isub, 1) := by decide +kernel
theorem dX6_house_83 : decode cX6_house 83 = .ok (.istore_n 2, 1) := by decide +kernel
theorem dX6_house_84 : decode cX6_house 84 = .ok (.iinc 4 1, 3) := by decide +kernel
theorem dX6_house_87 : decode cX6_house 87 = .ok (.goto (-46), 3) := by decide +kernel
theorem dX6_house_90 : decode cX6_house 90 = .ok (.iload_n 2, 1) := by decide +kernel
theorem dX6_house_91 : decode cX6_house 91 = .ok (.ifCond .lt 21, 3) := by decide +kernel
theorem dX6_house_94 : decode cX6_house 94 = .ok (.aload_n 0, 1) := by decide +kernel
theorem dX6_house_95 : decode cX6_house 95 = .ok (.getfield 10, 3) := by decide +kernel
theorem dX6_house_98 : decode cX6_house 98 = .ok (.aload_n 0, 1) := by decide +kernel
theorem dX6_house_99 : decode cX6_house 99 = .ok (.getfield 16, 3) := by decide +kernel
theorem dX6_house_102 : decode cX6_house 102 = .ok (.invokevirtual 74, 3) := by decide +kernel
theorem dX6_house_105 : decode cX6_house 105 = .ok (.aload_n 0, 1) := by decide +kernel
theorem dX6_house_106 : decode cX6_house 106 = .ok (.getfield 25, 3) := by decide +kernel
theorem dX6_house_109 : decode cX6_house 109 = .ok (.invokevirtual 85, 3) := by decide +kernel
theorem dX6_house_112 : decode cX6_house 112 = .ok (.aload_n 0, 1) := by decide +kernel
theorem dX6_house_113 : decode cX6_house 113 = .ok (.getfield 32, 3) := by decide +kernel
theorem dX6_house_116 : decode cX6_house 116 = .ok (.iconst 0, 1) := by decide +kernel
theorem dX6_house_117 : decode cX6_house 117 = .ok (.putfield 60, 3) := by decide +kernel
theorem dX6_house_120 : decode cX6_house 120 = .ok (.iload_n 2, 1) := by decide +kernel
theorem dX6_house_121 : decode cX6_house 121 = .ok (.ireturn, 1) := by decide +kernel
theorem dX6_air_0 : decode cX6_air 0 = .ok (.aload_n 0, 1) := by decide +kernel
theorem dX6_air_1 : decode cX6_air 1 = .ok (.iload_n 1, 1) := by decide +kernel
theorem dX6_air_2 : decode cX6_air 2 = .ok (.invokevirtual 88, 3) := by decide +kernel
theorem dX6_air_5 : decode cX6_air 5 = .ok (.ifCond .ne 9, 3) := by decide +kernel
theorem dX6_air_8 : decode cX6_air 8 = .ok (.aload_n 0, 1) := by decide +kernel
theorem dX6_air_9 : decode cX6_air 9 = .ok (.iconst (-1), 1) := by decide +kernel
theorem dX6_air_10 : decode cX6_air 10 = .ok (.invokevirtual 56, 3) := by decide +kernel
theorem dX6_air_13 : decode cX6_air 13 = .ok (.ireturn, 1) := by decide +kernel
theorem dX6_air_14 : decode cX6_air 14 = .ok (.iload_n 2, 1) := by decide +kernel
theorem dX6_air_15 : decode cX6_air 15 = .ok (.tableswitch 116 0 5 #[37, 47, 57, 67, 77, 94], 37) := by decide +kernel
theorem dX6_air_52 : decode cX6_air 52 = .ok (.aload_n 0, 1) := by decide +kernel
theorem dX6_air_53 : decode cX6_air 53 = .ok (.getfield 10, 3) := by decide +kernel
theorem dX6_air_56 : decode cX6_air 56 = .ok (.getfield 92, 3) := by decide +kernel
theorem dX6_air_59 : decode cX6_air 59 = .ok (.iload_n 1, 1) := by decide +kernel
theorem dX6_air_60 : decode cX6_air 60 = .ok (.iaload, 1) := by decide +kernel
theorem dX6_air_61 : decode cX6_air 61 = .ok (.ireturn, 1) := by decide +kernel
theorem dX6_air_62 : decode cX6_air 62 = .ok (.aload_n 0, 1) := by decide +kernel
theorem dX6_air_63 : decode cX6_air 63 = .ok (.getfield 10, 3) := by decide +kernel
theorem dX6_air_66 : decode cX6_air 66 = .ok (.getfield 95, 3) := by decide +kernel
theorem dX6_air_69 : decode cX6_air 69 = .ok (.iload_n 1, 1) := by decide +kernel
theorem dX6_air_70 : decode cX6_air 70 = .ok (.iaload, 1) := by decide +kernel
theorem dX6_air_71 : decode cX6_air 71 = .ok (.ireturn, 1) := by decide +kernel
theorem dX6_air_72 : decode cX6_air 72 = .ok (.aload_n 0, 1) := by decide +kernel
theorem dX6_air_73 : decode cX6_air 73 = .ok (.getfield 10, 3) := by decide +kernel
theorem dX6_air_76 : decode cX6_air 76 = .ok (.getfield 98, 3) := by decide +kernel
theorem dX6_air_79 : decode cX6_air 79 = .ok (.iload_n 1, 1) := by decide +kernel
theorem dX6_air_80 : decode cX6_air 80 = .ok (.iaload, 1) := by decide +kernel
theorem dX6_air_81 : decode cX6_air 81 = .ok (.ireturn, 1) := by decide +kernel
theorem dX6_air_82 : decode cX6_air 82 = .ok (.aload_n 0, 1) := by decide +kernel
theorem dX6_air_83 : decode cX6_air 83 = .ok (.getfield 10, 3) := by decide +kernel
theorem dX6_air_86 : decode cX6_air 86 = .ok (.getfield 101, 3) := by decide +kernel
theorem dX6_air_89 : decode cX6_air 89 = .ok (.iload_n 1, 1) := by decide +kernel
theorem dX6_air_90 : decode cX6_air 90 = .ok (.iaload, 1) := by decide +kernel
theorem dX6_air_91 : decode cX6_air 91 = .ok (.ireturn, 1) := by decide +kernel
theorem dX6_air_92 : decode cX6_air 92 = .ok (.aload_n 0, 1) := by decide +kernel
theorem dX6_air_93 : decode cX6_air 93 = .ok (.getfield 10, 3) := by decide +kernel
theorem dX6_air_96 : decode cX6_air 96 = .ok (.iload_n 1, 1) := by decide +kernel
theorem dX6_air_97 : decode cX6_air 97 = .ok (.invokevirtual 104, 3) := by decide +kernel
theorem dX6_air_100 : decode cX6_air 100 = .ok (.ifCond .eq 7, 3) := by decide +kernel
theorem dX6_air_103 : decode cX6_air 103 = .ok (.iconst 1, 1) := by decide +kernel
theorem dX6_air_104 : decode cX6_air 104 = .ok (.goto 4, 3) := by decide +kernel
theorem dX6_air_107 : decode cX6_air 107 = .ok (.iconst 0, 1) := by decide +kernel
theorem dX6_air_108 : decode cX6_air 108 = .ok (.ireturn, 1) := by decide +kernel
theorem dX6_air_109 : decode cX6_air 109 = .ok (.aload_n 0, 1) := by decide +kernel
theorem dX6_air_110 : decode cX6_air 110 = .ok (.getfield 10, 3) := by decide +kernel
theorem dX6_air_113 : decode cX6_air 113 = .ok (.getfield 92, 3) := by decide +kernel
theorem dX6_air_116 : decode cX6_air 116 = .ok (.iload_n 1, 1) := by decide +kernel
theorem dX6_air_117 : decode cX6_air 117 = .ok (.iaload, 1) := by decide +kernel
theorem dX6_air_118 : decode cX6_air 118 = .ok (.aload_n 0, 1) := by decide +kernel
theorem dX6_air_119 : decode cX6_air 119 = .ok (.getfield 10, 3) := by decide +kernel
theorem dX6_air_122 : decode cX6_air 122 = .ok (.getfield 95, 3) := by decide +kernel
theorem dX6_air_125 : decode cX6_air 125 = .ok (.iload_n 1, 1) := by decide +kernel
theorem dX6_air_126 : decode cX6_air 126 = .ok (.iaload, 1) := by decide +kernel
theorem dX6_air_127 : decode cX6_air 127 = .ok (.invokestatic 107, 3) := by decide +kernel
theorem dX6_air_130 : decode cX6_air 130 = .ok (.ireturn, 1) := by decide +kernel
theorem dX6_air_131 : decode cX6_air 131 = .ok (.aload_n 0, 1) := by decide +kernel
theorem dX6_air_132 : decode cX6_air 132 = .ok (.bipush (-2), 2) := by decide +kernel
theorem dX6_air_134 : decode cX6_air 134 = .ok (.invokevirtual 56, 3) := by decide +kernel
theorem dX6_air_137 : decode cX6_air 137 = .ok (.ireturn, 1) := by decide +kernel
theorem dX6_sitter_0 : decode cX6_sitter 0 = .ok (.aload_n 0, 1) := by decide +kernel
theorem dX6_sitter_1 : decode cX6_sitter 1 = .ok (.iload_n 1, 1) := by decide +kernel
theorem dX6_sitter_2 : decode cX6_sitter 2 = .ok (.invokevirtual 113, 3) := by decide +kernel
theorem dX6_sitter_5 : decode cX6_sitter 5 = .ok (.ifCond .ne 9, 3) := by decide +kernel
theorem dX6_sitter_8 : decode cX6_sitter 8 = .ok (.aload_n 0, 1) := by decide +kernel
theorem dX6_sitter_9 : decode cX6_sitter 9 = .ok (.iconst (-1), 1) := by decide +kernel
theorem dX6_sitter_10 : decode cX6_sitter 10 = .ok (.invokevirtual 56, 3) := by decide +kernel
theorem dX6_sitter_13 : decode cX6_sitter 13 = .ok (.ireturn, 1) := by decide +kernel
theorem dX6_sitter_14 : decode cX6_sitter 14 = .ok (.iload_n 2, 1) := by decide +kernel
theorem dX6_sitter_15 : decode cX6_sitter 15 = .ok (.tableswitch 62 0 2 #[25, 35, 45], 25) := by decide +kernel
theorem dX6_sitter_40 : decode cX6_sitter 40 = .ok (.aload_n 0, 1) := by decide +kernel
theorem dX6_sitter_41 : decode cX6_sitter 41 = .ok (.getfield 10, 3) := by decide +kernel
theorem dX6_sitter_44 : decode cX6_sitter 44 = .ok (.getfield 116, 3) := by decide +kernel
theorem dX6_sitter_47 : decode cX6_sitter 47 = .ok (.iload_n 1, 1) := by decide +kernel
theorem dX6_sitter_48 : decode cX6_sitter 48 = .ok (.iaload, 1) := by decide +kernel
theorem dX6_sitter_49 : decode cX6_sitter 49 = .ok (.ireturn, 1) := by decide +kernel
theorem dX6_sitter_50 : decode cX6_sitter 50 = .ok (.aload_n 0, 1) := by decide +kernel
theorem dX6_sitter_51 : decode cX6_sitter 51 = .ok (.getfield 10, 3) := by decide +kernel
theorem dX6_sitter_54 : decode cX6_sitter 54 = .ok (.getfield 119, 3) := by decide +kernel
theorem dX6_sitter_57 : decode cX6_sitter 57 = .ok (.iload_n 1, 1) := by decide +kernel
theorem dX6_sitter_58 : decode cX6_sitter 58 = .ok (.iaload, 1) := by decide +kernel
theorem dX6_sitter_59 : decode cX6_sitter 59 = .ok (.ireturn, 1) := by decide +kernel
theorem dX6_sitter_60 : decode cX6_sitter 60 = .ok (.aload_n 0, 1) := by decide +kernel
theorem dX6_sitter_61 : decode cX6_sitter 61 = .ok (.getfield 10, 3) := by decide +kernel
theorem dX6_sitter_64 : decode cX6_sitter 64 = .ok (.iload_n 1, 1) := by decide +kernel
theorem dX6_sitter_65 : decode cX6_sitter 65 = .ok (.invokevirtual 122, 3) := by decide +kernel
theorem dX6_sitter_68 : decode cX6_sitter 68 = .ok (.ifCond .eq 7, 3) := by decide +kernel
theorem dX6_sitter_71 : decode cX6_sitter 71 = .ok (.iconst 1, 1) := by decide +kernel
theorem dX6_sitter_72 : decode cX6_sitter 72 = .ok (.goto 4, 3) := by decide +kernel
theorem dX6_sitter_75 : decode cX6_sitter 75 = .ok (.iconst 0, 1) := by decide +kernel
theorem dX6_sitter_76 : decode cX6_sitter 76 = .ok (.ireturn, 1) := by decide +kernel
theorem dX6_sitter_77 : decode cX6_sitter 77 = .ok (.aload_n 0, 1) := by decide +kernel
theorem dX6_sitter_78 : decode cX6_sitter 78 = .ok (.bipush (-2), 2) := by decide +kernel
theorem dX6_sitter_80 : decode cX6_sitter 80 = .ok (.invokevirtual 56, 3) := by decide +kernel
theorem dX6_sitter_83 : decode cX6_sitter 83 = .ok (.ireturn, 1) := by decide +kernel
theorem dX6_cell_0 : decode cX6_cell 0 = .ok (.iload_n 1, 1) := by decide +kernel
theorem dX6_cell_1 : decode cX6_cell 1 = .ok (.invokestatic 125, 3) := by decide +kernel
theorem dX6_cell_4 : decode cX6_cell 4 = .ok (.ifCond .ne 9, 3) := by decide +kernel
theorem dX6_cell_7 : decode cX6_cell 7 = .ok (.aload_n 0, 1) := by decide +kernel
theorem dX6_cell_8 : decode cX6_cell 8 = .ok (.iconst (-1), 1) := by decide +kernel
theorem dX6_cell_9 : decode cX6_cell 9 = .ok (.invokevirtual 56, 3) := by decide +kernel
theorem dX6_cell_12 : decode cX6_cell 12 = .ok (.ireturn, 1) := by decide +kernel
theorem dX6_cell_13 : decode cX6_cell 13 = .ok (.iload_n 2, 1) := by decide +kernel
theorem dX6_cell_14 : decode cX6_cell 14 = .ok (.tableswitch 97 0 4 #[34, 51, 68, 77, 86], 34) := by decide +kernel
theorem dX6_cell_48 : decode cX6_cell 48 = .ok (.aload_n 0, 1) := by decide +kernel
theorem dX6_cell_49 : decode cX6_cell 49 = .ok (.getfield 10, 3) := by decide +kernel
theorem dX6_cell_52 : decode cX6_cell 52 = .ok (.iload_n 1, 1) := by decide +kernel
theorem dX6_cell_53 : decode cX6_cell 53 = .ok (.invokevirtual 128, 3) := by decide +kernel
theorem dX6_cell_56 : decode cX6_cell 56 = .ok (.ifCond .eq 7, 3) := by decide +kernel
theorem dX6_cell_59 : decode cX6_cell 59 = .ok (.iconst 1, 1) := by decide +kernel
theorem dX6_cell_60 : decode cX6_cell 60 = .ok (.goto 4, 3) := by decide +kernel
theorem dX6_cell_63 : decode cX6_cell 63 = .ok (.iconst 0, 1) := by decide +kernel
theorem dX6_cell_64 : decode cX6_cell 64 = .ok (.ireturn, 1) := by decide +kernel
theorem dX6_cell_65 : decode cX6_cell 65 = .ok (.aload_n 0, 1) := by decide +kernel
theorem dX6_cell_66 : decode cX6_cell 66 = .ok (.getfield 10, 3) := by decide +kernel
theorem dX6_cell_69 : decode cX6_cell 69 = .ok (.iload_n 1, 1) := by decide +kernel
theorem dX6_cell_70 : decode cX6_cell 70 = .ok (.invokevirtual 131, 3) := by decide +kernel
theorem dX6_cell_73 : decode cX6_cell 73 = .ok (.ifCond .eq 7, 3) := by decide +kernel
theorem dX6_cell_76 : decode cX6_cell 76 = .ok (.iconst 1, 1) := by decide +kernel
theorem dX6_cell_77 : decode cX6_cell 77 = .ok (.goto 4, 3) := by decide +kernel
theorem dX6_cell_80 : decode cX6_cell 80 = .ok (.iconst 0, 1) := by decide +kernel
theorem dX6_cell_81 : decode cX6_cell 81 = .ok (.ireturn, 1) := by decide +kernel
theorem dX6_cell_82 : decode cX6_cell 82 = .ok (.aload_n 0, 1) := by decide +kernel
theorem dX6_cell_83 : decode cX6_cell 83 = .ok (.getfield 10, 3) := by decide +kernel
theorem dX6_cell_86 : decode cX6_cell 86 = .ok (.iload_n 1, 1) := by decide +kernel
theorem dX6_cell_87 : decode cX6_cell 87 = .ok (.invokevirtual 134, 3) := by decide +kernel
theorem dX6_cell_90 : decode cX6_cell 90 = .ok (.ireturn, 1) := by decide +kernel
theorem dX6_cell_91 : decode cX6_cell 91 = .ok (.aload_n 0, 1) := by decide +kernel
theorem dX6_cell_92 : decode cX6_cell 92 = .ok (.getfield 10, 3) := by decide +kernel
theorem dX6_cell_95 : decode cX6_cell 95 = .ok (.iload_n 1, 1) := by decide +kernel
theorem dX6_cell_96 : decode cX6_cell 96 = .ok (.invokevirtual 137, 3) := by decide +kernel
theorem dX6_cell_99 : decode cX6_cell 99 = .ok (.ireturn, 1) := by decide +kernel
theorem dX6_cell_100 : decode cX6_cell 100 = .ok (.aload_n 0, 1) := by decide +kernel
theorem dX6_cell_101 : decode cX6_cell 101 = .ok (.getfield 10, 3) := by decide +kernel
theorem dX6_cell_104 : decode cX6_cell 104 = .ok (.getfield 140, 3) := by decide +kernel
theorem dX6_cell_107 : decode cX6_cell 107 = .ok (.iload_n 1, 1) := by decide +kernel
theorem dX6_cell_108 : decode cX6_cell 108 = .ok (.faload, 1) := by decide +kernel
theorem dX6_cell_109 : decode cX6_cell 109 = .ok (.f2i, 1) := by decide +kernel
theorem dX6_cell_110 : decode cX6_cell 110 = .ok (.ireturn, 1) := by decide +kernel
theorem dX6_cell_111 : decode cX6_cell 111 = .ok (.aload_n 0, 1) := by decide +kernel
theorem dX6_cell_112 : decode cX6_cell 112 = .ok (.bipush (-2), 2) := by decide +kernel
theorem dX6_cell_114 : decode cX6_cell 114 = .ok (.invokevirtual 56, 3) := by decide +kernel
theorem dX6_cell_117 : decode cX6_cell 117 = .ok (.ireturn, 1) := by decide +kernel
theorem dX6_warm_0 : decode cX6_warm 0 = .ok (.iload_n 1, 1) := by decide +kernel
theorem dX6_warm_1 : decode cX6_warm 1 = .ok (.invokestatic 125, 3) := by decide +kernel
theorem dX6_warm_4 : decode cX6_warm 4 = .ok (.ifCond .eq 18, 3) := by decide +kernel
theorem dX6_warm_7 : decode cX6_warm 7 = .ok (.aload_n 0, 1) := by decide +kernel
theorem dX6_warm_8 : decode cX6_warm 8 = .ok (.getfield 10, 3) := by decide +kernel
theorem dX6_warm_11 : decode cX6_warm 11 = .ok (.getfield 140, 3) := by decide +kernel
theorem dX6_warm_14 : decode cX6_warm 14 = .ok (.iload_n 1, 1) := by decide +kernel
theorem dX6_warm_15 : decode cX6_warm 15 = .ok (.faload, 1) := by decide +kernel
theorem dX6_warm_16 : decode cX6_warm 16 = .ok (.invokestatic 144, 3) := by decide +kernel
theorem dX6_warm_19 : decode cX6_warm 19 = .ok (.goto 4, 3) := by decide +kernel
theorem dX6_warm_22 : decode cX6_warm 22 = .ok (.iconst 0, 1) := by decide +kernel
theorem dX6_warm_23 : decode cX6_warm 23 = .ok (.ireturn, 1) := by decide +kernel
theorem dX6_comes_0 : decode cX6_comes 0 = .ok (.iload_n 1, 1) := by decide +kernel
theorem dX6_comes_1 : decode cX6_comes 1 = .ok (.ifCond .lt 9, 3) := by decide +kernel
theorem dX6_comes_4 : decode cX6_comes 4 = .ok (.iload_n 1, 1) := by decide +kernel
theorem dX6_comes_5 : decode cX6_comes 5 = .ok (.bipush 8, 2) := by decide +kernel
theorem dX6_comes_7 : decode cX6_comes 7 = .ok (.if_icmp .lt 10, 3) := by decide +kernel
theorem dX6_comes_10 : decode cX6_comes 10 = .ok (.aload_n 0, 1) := by decide +kernel
theorem dX6_comes_11 : decode cX6_comes 11 = .ok (.bipush (-2), 2) := by decide +kernel
theorem dX6_comes_13 : decode cX6_comes 13 = .ok (.invokevirtual 56, 3) := by decide +kernel
theorem dX6_comes_16 : decode cX6_comes 16 = .ok (.ireturn, 1) := by decide +kernel
theorem dX6_comes_17 : decode cX6_comes 17 = .ok (.iload_n 2, 1) := by decide +kernel
theorem dX6_comes_18 : decode cX6_comes 18 = .ok (.ifCond .ge 10, 3) := by decide +kernel
theorem dX6_comes_21 : decode cX6_comes 21 = .ok (.aload_n 0, 1) := by decide +kernel
theorem dX6_comes_22 : decode cX6_comes 22 = .ok (.bipush (-4), 2) := by decide +kernel
theorem dX6_comes_24 : decode cX6_comes 24 = .ok (.invokevirtual 56, 3) := by decide +kernel
theorem dX6_comes_27 : decode cX6_comes 27 = .ok (.ireturn, 1) := by decide +kernel
theorem dX6_comes_28 : decode cX6_comes 28 = .ok (.iload_n 2, 1) := by decide +kernel
theorem dX6_comes_29 : decode cX6_comes 29 = .ok (.bipush 9, 2) := by decide +kernel
theorem dX6_comes_31 : decode cX6_comes 31 = .ok (.if_icmp .gt 14, 3) := by decide +kernel
theorem dX6_comes_34 : decode cX6_comes 34 = .ok (.aload_n 0, 1) := by decide +kernel
theorem dX6_comes_35 : decode cX6_comes 35 = .ok (.getfield 10, 3) := by decide +kernel
theorem dX6_comes_38 : decode cX6_comes 38 = .ok (.getfield 148, 3) := by decide +kernel
theorem dX6_comes_41 : decode cX6_comes 41 = .ok (.iconst 5, 1) := by decide +kernel
theorem dX6_comes_42 : decode cX6_comes 42 = .ok (.if_icmp .lt 10, 3) := by decide +kernel
theorem dX6_comes_45 : decode cX6_comes 45 = .ok (.aload_n 0, 1) := by decide +kernel
theorem dX6_comes_46 : decode cX6_comes 46 = .ok (.bipush (-6), 2) := by decide +kernel
theorem dX6_comes_48 : decode cX6_comes 48 = .ok (.invokevirtual 56, 3) := by decide +kernel
theorem dX6_comes_51 : decode cX6_comes 51 = .ok (.ireturn, 1) := by decide +kernel
theorem dX6_comes_52 : decode cX6_comes 52 = .ok (.iload_n 3, 1) := by decide +kernel
theorem dX6_comes_53 : decode cX6_comes 53 = .ok (.invokestatic 125, 3) := by decide +kernel
theorem dX6_comes_56 : decode cX6_comes 56 = .ok (.ifCond .ne 9, 3) := by decide +kernel
theorem dX6_comes_59 : decode cX6_comes 59 = .ok (.aload_n 0, 1) := by decide +kernel
theorem dX6_comes_60 : decode cX6_comes 60 = .ok (.iconst (-1), 1) := by decide +kernel
theorem dX6_comes_61 : decode cX6_comes 61 = .ok (.invokevirtual 56, 3) := by decide +kernel
theorem dX6_comes_64 : decode cX6_comes 64 = .ok (.ireturn, 1) := by decide +kernel
theorem dX6_comes_65 : decode cX6_comes 65 = .ok (.aload_n 0, 1) := by decide +kernel
theorem dX6_comes_66 : decode cX6_comes 66 = .ok (.getfield 10, 3) := by decide +kernel
theorem dX6_comes_69 : decode cX6_comes 69 = .ok (.iload_n 1, 1) := by decide +kernel
theorem dX6_comes_70 : decode cX6_comes 70 = .ok (.iload_n 2, 1) := by decide +kernel
theorem dX6_comes_71 : decode cX6_comes 71 = .ok (.iload_n 3, 1) := by decide +kernel
theorem dX6_comes_72 : decode cX6_comes 72 = .ok (.iconst 0, 1) := by decide +kernel
theorem dX6_comes_73 : decode cX6_comes 73 = .ok (.invokevirtual 151, 3) := by decide +kernel
theorem dX6_comes_76 : decode cX6_comes 76 = .ok (.ifCond .ne 10, 3) := by decide +kernel
theorem dX6_comes_79 : decode cX6_comes 79 = .ok (.aload_n 0, 1) := by decide +kernel
theorem dX6_comes_80 : decode cX6_comes 80 = .ok (.bipush (-3), 2) := by decide +kernel
theorem dX6_comes_82 : decode cX6_comes 82 = .ok (.invokevirtual 56, 3) := by decide +kernel
theorem dX6_comes_85 : decode cX6_comes 85 = .ok (.ireturn, 1) := by decide +kernel
theorem dX6_comes_86 : decode cX6_comes 86 = .ok (.aload_n 0, 1) := by decide +kernel
theorem dX6_comes_87 : decode cX6_comes 87 = .ok (.getfield 25, 3) := by decide +kernel
theorem dX6_comes_90 : decode cX6_comes 90 = .ok (.invokevirtual 85, 3) := by decide +kernel
theorem dX6_comes_93 : decode cX6_comes 93 = .ok (.aload_n 0, 1) := by decide +kernel
theorem dX6_comes_94 : decode cX6_comes 94 = .ok (.getfield 10, 3) := by decide +kernel
theorem dX6_comes_97 : decode cX6_comes 97 = .ok (.getfield 148, 3) := by decide +kernel
theorem dX6_comes_100 : decode cX6_comes 100 = .ok (.iconst 1, 1) := by decide +kernel
theorem dX6_comes_101 : decode cX6_comes 101 = .ok (.isub, 1) := by decide +kernel
theorem dX6_comes_102 : decode cX6_comes 102 = .ok (.ireturn, 1) := by decide +kernel
theorem dX6_sitsDown_0 : decode cX6_sitsDown 0 = .ok (.iload_n 1, 1) := by decide +kernel
theorem dX6_sitsDown_1 : decode cX6_sitsDown 1 = .ok (.invokestatic 125, 3) := by decide +kernel
theorem dX6_sitsDown_4 : decode cX6_sitsDown 4 = .ok (.ifCond .ne 9, 3) := by decide +kernel
theorem dX6_sitsDown_7 : decode cX6_sitsDown 7 = .ok (.aload_n 0, 1) := by decide +kernel
theorem dX6_sitsDown_8 : decode cX6_sitsDown 8 = .ok (.iconst (-1), 1) := by decide +kernel
theorem dX6_sitsDown_9 : decode cX6_sitsDown 9 = .ok (.invokevirtual 56, 3) := by decide +kernel
theorem dX6_sitsDown_12 : decode cX6_sitsDown 12 = .ok (.ireturn, 1) := by decide +kernel
theorem dX6_sitsDown_13 : decode cX6_sitsDown 13 = .ok (.aload_n 0, 1) := by decide +kernel
theorem dX6_sitsDown_14 : decode cX6_sitsDown 14 = .ok (.getfield 10, 3) := by decide +kernel
theorem dX6_sitsDown_17 : decode cX6_sitsDown 17 = .ok (.getfield 155, 3) := by decide +kernel
theorem dX6_sitsDown_20 : decode cX6_sitsDown 20 = .ok (.bipush 6, 2) := by decide +kernel
theorem dX6_sitsDown_22 : decode cX6_sitsDown 22 = .ok (.if_icmp .lt 10, 3) := by decide +kernel
theorem dX6_sitsDown_25 : decode cX6_sitsDown 25 = .ok (.aload_n 0, 1) := by decide +kernel
theorem dX6_sitsDown_26 : decode cX6_sitsDown 26 = .ok (.bipush (-6), 2) := by decide +kernel
theorem dX6_sitsDown_28 : decode cX6_sitsDown 28 = .ok (.invokevirtual 56, 3) := by decide +kernel
theorem dX6_sitsDown_31 : decode cX6_sitsDown 31 = .ok (.ireturn, 1) := by decide +kernel
theorem dX6_sitsDown_32 : decode cX6_sitsDown 32 = .ok (.aload_n 0, 1) := by decide +kernel
theorem dX6_sitsDown_33 : decode cX6_sitsDown 33 = .ok (.getfield 10, 3) := by decide +kernel
theorem dX6_sitsDown_36 : decode cX6_sitsDown 36 = .ok (.iload_n 1, 1) := by decide +kernel
theorem dX6_sitsDown_37 : decode cX6_sitsDown 37 = .ok (.iconst 0, 1) := by decide +kernel
theorem dX6_sitsDown_38 : decode cX6_sitsDown 38 = .ok (.invokevirtual 158, 3) := by decide +kernel
theorem dX6_sitsDown_41 : decode cX6_sitsDown 41 = .ok (.ifCond .ne 10, 3) := by decide +kernel
theorem dX6_sitsDown_44 : decode cX6_sitsDown 44 = .ok (.aload_n 0, 1) := by decide +kernel
theorem dX6_sitsDown_45 : decode cX6_sitsDown 45 = .ok (.bipush (-3), 2) := by decide +kernel
theorem dX6_sitsDown_47 : decode cX6_sitsDown 47 = .ok (.invokevirtual 56, 3) := by decide +kernel
theorem dX6_sitsDown_50 : decode cX6_sitsDown 50 = .ok (.ireturn, 1) := by decide +kernel
theorem dX6_sitsDown_51 : decode cX6_sitsDown 51 = .ok (.aload_n 0, 1) := by decide +kernel
theorem dX6_sitsDown_52 : decode cX6_sitsDown 52 = .ok (.getfield 25, 3) := by decide +kernel
theorem dX6_sitsDown_55 : decode cX6_sitsDown 55 = .ok (.invokevirtual 85, 3) := by decide +kernel
theorem dX6_sitsDown_58 : decode cX6_sitsDown 58 = .ok (.aload_n 0, 1) := by decide +kernel
theorem dX6_sitsDown_59 : decode cX6_sitsDown 59 = .ok (.getfield 10, 3) := by decide +kernel
theorem dX6_sitsDown_62 : decode cX6_sitsDown 62 = .ok (.getfield 155, 3) := by decide +kernel
theorem dX6_sitsDown_65 : decode cX6_sitsDown 65 = .ok (.iconst 1, 1) := by decide +kernel
theorem dX6_sitsDown_66 : decode cX6_sitsDown 66 = .ok (.isub, 1) := by decide +kernel
theorem dX6_sitsDown_67 : decode cX6_sitsDown 67 = .ok (.ireturn, 1) := by decide +kernel
theorem dX6_shuts_0 : decode cX6_shuts 0 = .ok (.iload_n 1, 1) := by decide +kernel
theorem dX6_shuts_1 : decode cX6_shuts 1 = .ok (.invokestatic 125, 3) := by decide +kernel
theorem dX6_shuts_4 : decode cX6_shuts 4 = .ok (.ifCond .ne 9, 3) := by decide +kernel
theorem dX6_shuts_7 : decode cX6_shuts 7 = .ok (.aload_n 0, 1) := by decide +kernel
theorem dX6_shuts_8 : decode cX6_shuts 8 = .ok (.iconst (-1), 1) := by decide +kernel
theorem dX6_shuts_9 : decode cX6_shuts 9 = .ok (.invokevirtual 56, 3) := by decide +kernel
theorem dX6_shuts_12 : decode cX6_shuts 12 = .ok (.ireturn, 1) := by decide +kernel
theorem dX6_shuts_13 : decode cX6_shuts 13 = .ok (.aload_n 0, 1) := by decide +kernel
theorem dX6_shuts_14 : decode cX6_shuts 14 = .ok (.getfield 10, 3) := by decide +kernel
theorem dX6_shuts_17 : decode cX6_shuts 17 = .ok (.iload_n 1, 1) := by decide +kernel
theorem dX6_shuts_18 : decode cX6_shuts 18 = .ok (.invokevirtual 162, 3) := by decide +kernel
theorem dX6_shuts_21 : decode cX6_shuts 21 = .ok (.ifCond .eq 10, 3) := by decide +kernel
theorem dX6_shuts_24 : decode cX6_shuts 24 = .ok (.aload_n 0, 1) := by decide +kernel
theorem dX6_shuts_25 : decode cX6_shuts 25 = .ok (.bipush (-3), 2) := by decide +kernel
theorem dX6_shuts_27 : decode cX6_shuts 27 = .ok (.invokevirtual 56, 3) := by decide +kernel
theorem dX6_shuts_30 : decode cX6_shuts 30 = .ok (.ireturn, 1) := by decide +kernel
theorem dX6_shuts_31 : decode cX6_shuts 31 = .ok (.aload_n 0, 1) := by decide +kernel
theorem dX6_shuts_32 : decode cX6_shuts 32 = .ok (.getfield 25, 3) := by decide +kernel
theorem dX6_shuts_35 : decode cX6_shuts 35 = .ok (.aload_n 0, 1) := by decide +kernel
theorem dX6_shuts_36 : decode cX6_shuts 36 = .ok (.getfield 10, 3) := by decide +kernel
theorem dX6_shuts_39 : decode cX6_shuts 39 = .ok (.invokevirtual 165, 3) := by decide +kernel
theorem dX6_shuts_42 : decode cX6_shuts 42 = .ok (.aload_n 0, 1) := by decide +kernel
theorem dX6_shuts_43 : decode cX6_shuts 43 = .ok (.getfield 10, 3) := by decide +kernel
theorem dX6_shuts_46 : decode cX6_shuts 46 = .ok (.iload_n 1, 1) := by decide +kernel
theorem dX6_shuts_47 : decode cX6_shuts 47 = .ok (.invokevirtual 168, 3) := by decide +kernel
theorem dX6_shuts_50 : decode cX6_shuts 50 = .ok (.aload_n 0, 1) := by decide +kernel
theorem dX6_shuts_51 : decode cX6_shuts 51 = .ok (.getfield 10, 3) := by decide +kernel
theorem dX6_shuts_54 : decode cX6_shuts 54 = .ok (.iload_n 1, 1) := by decide +kernel
theorem dX6_shuts_55 : decode cX6_shuts 55 = .ok (.invokevirtual 128, 3) := by decide +kernel
theorem dX6_shuts_58 : decode cX6_shuts 58 = .ok (.ifCond .eq 7, 3) := by decide +kernel
theorem dX6_shuts_61 : decode cX6_shuts 61 = .ok (.iconst 1, 1) := by decide +kernel
theorem dX6_shuts_62 : decode cX6_shuts 62 = .ok (.goto 4, 3) := by decide +kernel
theorem dX6_shuts_65 : decode cX6_shuts 65 = .ok (.iconst 0, 1) := by decide +kernel
theorem dX6_shuts_66 : decode cX6_shuts 66 = .ok (.ireturn, 1) := by decide +kernel
theorem dX6_warms_0 : decode cX6_warms 0 = .ok (.iload_n 1, 1) := by decide +kernel
theorem dX6_warms_1 : decode cX6_warms 1 = .ok (.invokestatic 125, 3) := by decide +kernel
theorem dX6_warms_4 : decode cX6_warms 4 = .ok (.ifCond .ne 9, 3) := by decide +kernel
theorem dX6_warms_7 : decode cX6_warms 7 = .ok (.aload_n 0, 1) := by decide +kernel
theorem dX6_warms_8 : decode cX6_warms 8 = .ok (.iconst (-1), 1) := by decide +kernel
theorem dX6_warms_9 : decode cX6_warms 9 = .ok (.invokevirtual 56, 3) := by decide +kernel
theorem dX6_warms_12 : decode cX6_warms 12 = .ok (.ireturn, 1) := by decide +kernel
theorem dX6_warms_13 : decode cX6_warms 13 = .ok (.iload_n 2, 1) := by decide +kernel
theorem dX6_warms_14 : decode cX6_warms 14 = .ok (.bipush (-100), 2) := by decide +kernel
theorem dX6_warms_16 : decode cX6_warms 16 = .ok (.bipush 100, 2) := by decide +kernel
theorem dX6_warms_18 : decode cX6_warms 18 = .ok (.invokestatic 172, 3) := by decide +kernel
theorem dX6_warms_21 : decode cX6_warms 21 = .ok (.istore_n 3, 1) := by decide +kernel
theorem dX6_warms_22 : decode cX6_warms 22 = .ok (.iload_n 3, 1) := by decide +kernel
theorem dX6_warms_23 : decode cX6_warms 23 = .ok (.ifCond .eq 9, 3) := by decide +kernel
theorem dX6_warms_26 : decode cX6_warms 26 = .ok (.aload_n 0, 1) := by decide +kernel
theorem dX6_warms_27 : decode cX6_warms 27 = .ok (.iload_n 3, 1) := by decide +kernel
theorem dX6_warms_28 : decode cX6_warms 28 = .ok (.invokevirtual 56, 3) := by decide +kernel
theorem dX6_warms_31 : decode cX6_warms 31 = .ok (.ireturn, 1) := by decide +kernel
theorem dX6_warms_32 : decode cX6_warms 32 = .ok (.aload_n 0, 1) := by decide +kernel
theorem dX6_warms_33 : decode cX6_warms 33 = .ok (.getfield 25, 3) := by decide +kernel
theorem dX6_warms_36 : decode cX6_warms 36 = .ok (.aload_n 0, 1) := by decide +kernel
theorem dX6_warms_37 : decode cX6_warms 37 = .ok (.getfield 10, 3) := by decide +kernel
theorem dX6_warms_40 : decode cX6_warms 40 = .ok (.invokevirtual 165, 3) := by decide +kernel
theorem dX6_warms_43 : decode cX6_warms 43 = .ok (.aload_n 0, 1) := by decide +kernel
theorem dX6_warms_44 : decode cX6_warms 44 = .ok (.getfield 10, 3) := by decide +kernel
theorem dX6_warms_47 : decode cX6_warms 47 = .ok (.getfield 140, 3) := by decide +kernel
theorem dX6_warms_50 : decode cX6_warms 50 = .ok (.iload_n 1, 1) := by decide +kernel
theorem dX6_warms_51 : decode cX6_warms 51 = .ok (.faload, 1) := by decide +kernel
theorem dX6_warms_52 : decode cX6_warms 52 = .ok (.f2i, 1) := by decide +kernel
theorem dX6_warms_53 : decode cX6_warms 53 = .ok (.istore 4, 2) := by decide +kernel
theorem dX6_warms_55 : decode cX6_warms 55 = .ok (.aload_n 0, 1) := by decide +kernel
theorem dX6_warms_56 : decode cX6_warms 56 = .ok (.getfield 10, 3) := by decide +kernel
theorem dX6_warms_59 : decode cX6_warms 59 = .ok (.getfield 140, 3) := by decide +kernel
theorem dX6_warms_62 : decode cX6_warms 62 = .ok (.iload_n 1, 1) := by decide +kernel
theorem dX6_warms_63 : decode cX6_warms 63 = .ok (.iload_n 2, 1) := by decide +kernel
theorem dX6_warms_64 : decode cX6_warms 64 = .ok (.i2f, 1) := by decide +kernel
theorem dX6_warms_65 : decode cX6_warms 65 = .ok (.fastore, 1) := by decide +kernel
theorem dX6_warms_66 : decode cX6_warms 66 = .ok (.iload 4, 2) := by decide +kernel
theorem dX6_warms_68 : decode cX6_warms 68 = .ok (.ireturn, 1) := by decide +kernel
theorem dX6_sits_0 : decode cX6_sits 0 = .ok (.aload_n 0, 1) := by decide +kernel
theorem dX6_sits_1 : decode cX6_sits 1 = .ok (.iload_n 1, 1) := by decide +kernel
theorem dX6_sits_2 : decode cX6_sits 2 = .ok (.invokevirtual 113, 3) := by decide +kernel
theorem dX6_sits_5 : decode cX6_sits 5 = .ok (.ifCond .eq 10, 3) := by decide +kernel
theorem dX6_sits_8 : decode cX6_sits 8 = .ok (.iload_n 2, 1) := by decide +kernel
theorem dX6_sits_9 : decode cX6_sits 9 = .ok (.invokestatic 125, 3) := by decide +kernel
theorem dX6_sits_12 : decode cX6_sits 12 = .ok (.ifCond .ne 9, 3) := by decide +kernel
theorem dX6_sits_15 : decode cX6_sits 15 = .ok (.aload_n 0, 1) := by decide +kernel
theorem dX6_sits_16 : decode cX6_sits 16 = .ok (.iconst (-1), 1) := by decide +kernel
theorem dX6_sits_17 : decode cX6_sits 17 = .ok (.invokevirtual 56, 3) := by decide +kernel
theorem dX6_sits_20 : decode cX6_sits 20 = .ok (.ireturn, 1) := by decide +kernel
theorem dX6_sits_21 : decode cX6_sits 21 = .ok (.aload_n 0, 1) := by decide +kernel
theorem dX6_sits_22 : decode cX6_sits 22 = .ok (.getfield 10, 3) := by decide +kernel
theorem dX6_sits_25 : decode cX6_sits 25 = .ok (.iload_n 2, 1) := by decide +kernel
theorem dX6_sits_26 : decode cX6_sits 26 = .ok (.invokevirtual 131, 3) := by decide +kernel
theorem dX6_sits_29 : decode cX6_sits 29 = .ok (.ifCond .ne 10, 3) := by decide +kernel
theorem dX6_sits_32 : decode cX6_sits 32 = .ok (.aload_n 0, 1) := by decide +kernel
theorem dX6_sits_33 : decode cX6_sits 33 = .ok (.bipush (-3), 2) := by decide +kernel
theorem dX6_sits_35 : decode cX6_sits 35 = .ok (.invokevirtual 56, 3) := by decide +kernel
theorem dX6_sits_38 : decode cX6_sits 38 = .ok (.ireturn, 1) := by decide +kernel
theorem dX6_sits_39 : decode cX6_sits 39 = .ok (.aload_n 0, 1) := by decide +kernel
theorem dX6_sits_40 : decode cX6_sits 40 = .ok (.getfield 25, 3) := by decide +kernel
theorem dX6_sits_43 : decode cX6_sits 43 = .ok (.aload_n 0, 1) := by decide +kernel
theorem dX6_sits_44 : decode cX6_sits 44 = .ok (.getfield 10, 3) := by decide +kernel
theorem dX6_sits_47 : decode cX6_sits 47 = .ok (.invokevirtual 165, 3) := by decide +kernel
theorem dX6_sits_50 : decode cX6_sits 50 = .ok (.aload_n 0, 1) := by decide +kernel
theorem dX6_sits_51 : decode cX6_sits 51 = .ok (.getfield 10, 3) := by decide +kernel
theorem dX6_sits_54 : decode cX6_sits 54 = .ok (.getfield 116, 3) := by decide +kernel
theorem dX6_sits_57 : decode cX6_sits 57 = .ok (.iload_n 1, 1) := by decide +kernel
theorem dX6_sits_58 : decode cX6_sits 58 = .ok (.iaload, 1) := by decide +kernel
theorem dX6_sits_59 : decode cX6_sits 59 = .ok (.istore_n 3, 1) := by decide +kernel
theorem dX6_sits_60 : decode cX6_sits 60 = .ok (.aload_n 0, 1) := by decide +kernel
theorem dX6_sits_61 : decode cX6_sits 61 = .ok (.getfield 10, 3) := by decide +kernel
theorem dX6_sits_64 : decode cX6_sits 64 = .ok (.getfield 116, 3) := by decide +kernel
theorem dX6_sits_67 : decode cX6_sits 67 = .ok (.iload_n 1, 1) := by decide +kernel
theorem dX6_sits_68 : decode cX6_sits 68 = .ok (.iload_n 2, 1) := by decide +kernel
theorem dX6_sits_69 : decode cX6_sits 69 = .ok (.iastore, 1) := by decide +kernel
theorem dX6_sits_70 : decode cX6_sits 70 = .ok (.aload_n 0, 1) := by decide +kernel
theorem dX6_sits_71 : decode cX6_sits 71 = .ok (.getfield 10, 3) := by decide +kernel
theorem dX6_sits_74 : decode cX6_sits 74 = .ok (.dup, 1) := by decide +kernel
theorem dX6_sits_75 : decode cX6_sits 75 = .ok (.getfield 176, 3) := by decide +kernel
theorem dX6_sits_78 : decode cX6_sits 78 = .ok (.iconst 1, 1) := by decide +kernel
theorem dX6_sits_79 : decode cX6_sits 79 = .ok (.iload_n 1, 1) := by decide +kernel
theorem dX6_sits_80 : decode cX6_sits 80 = .ok (.ishl, 1) := by decide +kernel
theorem dX6_sits_81 : decode cX6_sits 81 = .ok (.ior, 1) := by decide +kernel
theorem dX6_sits_82 : decode cX6_sits 82 = .ok (.putfield 176, 3) := by decide +kernel
theorem dX6_sits_85 : decode cX6_sits 85 = .ok (.iload_n 3, 1) := by decide +kernel
theorem dX6_sits_86 : decode cX6_sits 86 = .ok (.ireturn, 1) := by decide +kernel
theorem dX6_blows_0 : decode cX6_blows 0 = .ok (.aload_n 0, 1) := by decide +kernel
theorem dX6_blows_1 : decode cX6_blows 1 = .ok (.iload_n 1, 1) := by decide +kernel
theorem dX6_blows_2 : decode cX6_blows 2 = .ok (.invokevirtual 88, 3) := by decide +kernel
theorem dX6_blows_5 : decode cX6_blows 5 = .ok (.ifCond .ne 9, 3) := by decide +kernel
theorem dX6_blows_8 : decode cX6_blows 8 = .ok (.aload_n 0, 1) := by decide +kernel
theorem dX6_blows_9 : decode cX6_blows 9 = .ok (.iconst (-1), 1) := by decide +kernel
theorem dX6_blows_10 : decode cX6_blows 10 = .ok (.invokevirtual 56, 3) := by decide +kernel
theorem dX6_blows_13 : decode cX6_blows 13 = .ok (.ireturn, 1) := by decide +kernel
theorem dX6_blows_14 : decode cX6_blows 14 = .ok (.iload_n 2, 1) := by decide +kernel
theorem dX6_blows_15 : decode cX6_blows 15 = .ok (.ifCond .lt 8, 3) := by decide +kernel
theorem dX6_blows_18 : decode cX6_blows 18 = .ok (.iload_n 2, 1) := by decide +kernel
theorem dX6_blows_19 : decode cX6_blows 19 = .ok (.iconst 4, 1) := by decide +kernel
theorem dX6_blows_20 : decode cX6_blows 20 = .ok (.if_icmp .lt 10, 3) := by decide +kernel
theorem dX6_blows_23 : decode cX6_blows 23 = .ok (.aload_n 0, 1) := by decide +kernel
theorem dX6_blows_24 : decode cX6_blows 24 = .ok (.bipush (-2), 2) := by decide +kernel
theorem dX6_blows_26 : decode cX6_blows 26 = .ok (.invokevirtual 56, 3) := by decide +kernel
theorem dX6_blows_29 : decode cX6_blows 29 = .ok (.ireturn, 1) := by decide +kernel
theorem dX6_blows_30 : decode cX6_blows 30 = .ok (.aload_n 0, 1) := by decide +kernel
theorem dX6_blows_31 : decode cX6_blows 31 = .ok (.getfield 25, 3) := by decide +kernel
theorem dX6_blows_34 : decode cX6_blows 34 = .ok (.aload_n 0, 1) := by decide +kernel
theorem dX6_blows_35 : decode cX6_blows 35 = .ok (.getfield 10, 3) := by decide +kernel
theorem dX6_blows_38 : decode cX6_blows 38 = .ok (.invokevirtual 165, 3) := by decide +kernel
theorem dX6_blows_41 : decode cX6_blows 41 = .ok (.aload_n 0, 1) := by decide +kernel
theorem dX6_blows_42 : decode cX6_blows 42 = .ok (.getfield 10, 3) := by decide +kernel
theorem dX6_blows_45 : decode cX6_blows 45 = .ok (.getfield 101, 3) := by decide +kernel
theorem dX6_blows_48 : decode cX6_blows 48 = .ok (.iload_n 1, 1) := by decide +kernel
theorem dX6_blows_49 : decode cX6_blows 49 = .ok (.iaload, 1) := by decide +kernel
theorem dX6_blows_50 : decode cX6_blows 50 = .ok (.istore_n 3, 1) := by decide +kernel
theorem dX6_blows_51 : decode cX6_blows 51 = .ok (.aload_n 0, 1) := by decide +kernel
theorem dX6_blows_52 : decode cX6_blows 52 = .ok (.getfield 10, 3) := by decide +kernel
theorem dX6_blows_55 : decode cX6_blows 55 = .ok (.getfield 101, 3) := by decide +kernel
theorem dX6_blows_58 : decode cX6_blows 58 = .ok (.iload_n 1, 1) := by decide +kernel
theorem dX6_blows_59 : decode cX6_blows 59 = .ok (.iload_n 2, 1) := by decide +kernel
theorem dX6_blows_60 : decode cX6_blows 60 = .ok (.iastore, 1) := by decide +kernel
theorem dX6_blows_61 : decode cX6_blows 61 = .ok (.iload_n 3, 1) := by decide +kernel
theorem dX6_blows_62 : decode cX6_blows 62 = .ok (.ireturn, 1) := by decide +kernel
theorem dX6_wraps_0 : decode cX6_wraps 0 = .ok (.aload_n 0, 1) := by decide +kernel
theorem dX6_wraps_1 : decode cX6_wraps 1 = .ok (.iload_n 1, 1) := by decide +kernel
theorem dX6_wraps_2 : decode cX6_wraps 2 = .ok (.invokevirtual 113, 3) := by decide +kernel
theorem dX6_wraps_5 : decode cX6_wraps 5 = .ok (.ifCond .ne 9, 3) := by decide +kernel
theorem dX6_wraps_8 : decode cX6_wraps 8 = .ok (.aload_n 0, 1) := by decide +kernel
theorem dX6_wraps_9 : decode cX6_wraps 9 = .ok (.iconst (-1), 1) := by decide +kernel
theorem dX6_wraps_10 : decode cX6_wraps 10 = .ok (.invokevirtual 56, 3) := by decide +kernel
theorem dX6_wraps_13 : decode cX6_wraps 13 = .ok (.ireturn, 1) := by decide +kernel
theorem dX6_wraps_14 : decode cX6_wraps 14 = .ok (.iload_n 2, 1) := by decide +kernel
theorem dX6_wraps_15 : decode cX6_wraps 15 = .ok (.ifCond .ge 10, 3) := by decide +kernel
theorem dX6_wraps_18 : decode cX6_wraps 18 = .ok (.aload_n 0, 1) := by decide +kernel
theorem dX6_wraps_19 : decode cX6_wraps 19 = .ok (.bipush (-4), 2) := by decide +kernel
theorem dX6_wraps_21 : decode cX6_wraps 21 = .ok (.invokevirtual 56, 3) := by decide +kernel
theorem dX6_wraps_24 : decode cX6_wraps 24 = .ok (.ireturn, 1) := by decide +kernel
theorem dX6_wraps_25 : decode cX6_wraps 25 = .ok (.iload_n 2, 1) := by decide +kernel
theorem dX6_wraps_26 : decode cX6_wraps 26 = .ok (.bipush 9, 2) := by decide +kernel
theorem dX6_wraps_28 : decode cX6_wraps 28 = .ok (.if_icmp .le 10, 3) := by decide +kernel
theorem dX6_wraps_31 : decode cX6_wraps 31 = .ok (.aload_n 0, 1) := by decide +kernel
theorem dX6_wraps_32 : decode cX6_wraps 32 = .ok (.bipush (-6), 2) := by decide +kernel
theorem dX6_wraps_34 : decode cX6_wraps 34 = .ok (.invokevirtual 56, 3) := by decide +kernel
theorem dX6_wraps_37 : decode cX6_wraps 37 = .ok (.ireturn, 1) := by decide +kernel
theorem dX6_wraps_38 : decode cX6_wraps 38 = .ok (.aload_n 0, 1) := by decide +kernel
theorem dX6_wraps_39 : decode cX6_wraps 39 = .ok (.getfield 25, 3) := by decide +kernel
theorem dX6_wraps_42 : decode cX6_wraps 42 = .ok (.aload_n 0, 1) := by decide +kernel
theorem dX6_wraps_43 : decode cX6_wraps 43 = .ok (.getfield 10, 3) := by decide +kernel
theorem dX6_wraps_46 : decode cX6_wraps 46 = .ok (.invokevirtual 165, 3) := by decide +kernel
theorem dX6_wraps_49 : decode cX6_wraps 49 = .ok (.aload_n 0, 1) := by decide +kernel
theorem dX6_wraps_50 : decode cX6_wraps 50 = .ok (.getfield 10, 3) := by decide +kernel
theorem dX6_wraps_53 : decode cX6_wraps 53 = .ok (.getfield 119, 3) := by decide +kernel
theorem dX6_wraps_56 : decode cX6_wraps 56 = .ok (.iload_n 1, 1) := by decide +kernel
theorem dX6_wraps_57 : decode cX6_wraps 57 = .ok (.iaload, 1) := by decide +kernel
theorem dX6_wraps_58 : decode cX6_wraps 58 = .ok (.istore_n 3, 1) := by decide +kernel
theorem dX6_wraps_59 : decode cX6_wraps 59 = .ok (.aload_n 0, 1) := by decide +kernel
theorem dX6_wraps_60 : decode cX6_wraps 60 = .ok (.getfield 10, 3) := by decide +kernel
theorem dX6_wraps_63 : decode cX6_wraps 63 = .ok (.getfield 119, 3) := by decide +kernel
theorem dX6_wraps_66 : decode cX6_wraps 66 = .ok (.iload_n 1, 1) := by decide +kernel
theorem dX6_wraps_67 : decode cX6_wraps 67 = .ok (.iload_n 2, 1) := by decide +kernel
theorem dX6_wraps_68 : decode cX6_wraps 68 = .ok (.iastore, 1) := by decide +kernel
theorem dX6_wraps_69 : decode cX6_wraps 69 = .ok (.iload_n 3, 1) := by decide +kernel
theorem dX6_wraps_70 : decode cX6_wraps 70 = .ok (.ireturn, 1) := by decide +kernel
theorem dX6_step_0 : decode cX6_step 0 = .ok (.iload_n 1, 1) := by decide +kernel
theorem dX6_step_1 : decode cX6_step 1 = .ok (.ifCond .lt 9, 3) := by decide +kernel
theorem dX6_step_4 : decode cX6_step 4 = .ok (.iload_n 1, 1) := by decide +kernel
theorem dX6_step_5 : decode cX6_step 5 = .ok (.bipush 6, 2) := by decide +kernel
theorem dX6_step_7 : decode cX6_step 7 = .ok (.if_icmp .le 10, 3) := by decide +kernel
theorem dX6_step_10 : decode cX6_step 10 = .ok (.aload_n 0, 1) := by decide +kernel
theorem dX6_step_11 : decode cX6_step 11 = .ok (.bipush (-2), 2) := by decide +kernel
theorem dX6_step_13 : decode cX6_step 13 = .ok (.invokevirtual 56, 3) := by decide +kernel
theorem dX6_step_16 : decode cX6_step 16 = .ok (.ireturn, 1) := by decide +kernel
theorem dX6_step_17 : decode cX6_step 17 = .ok (.iload_n 2, 1) := by decide +kernel
theorem dX6_step_18 : decode cX6_step 18 = .ok (.ifCond .ge 10, 3) := by decide +kernel
theorem dX6_step_21 : decode cX6_step 21 = .ok (.aload_n 0, 1) := by decide +kernel
theorem dX6_step_22 : decode cX6_step 22 = .ok (.bipush (-4), 2) := by decide +kernel
theorem dX6_step_24 : decode cX6_step 24 = .ok (.invokevirtual 56, 3) := by decide +kernel
theorem dX6_step_27 : decode cX6_step 27 = .ok (.ireturn, 1) := by decide +kernel
theorem dX6_step_28 : decode cX6_step 28 = .ok (.iload_n 2, 1) := by decide +kernel
theorem dX6_step_29 : decode cX6_step 29 = .ok (.bipush 99, 2) := by decide +kernel
theorem dX6_step_31 : decode cX6_step 31 = .ok (.if_icmp .gt 18, 3) := by decide +kernel
theorem dX6_step_34 : decode cX6_step 34 = .ok (.aload_n 0, 1) := by decide +kernel
theorem dX6_step_35 : decode cX6_step 35 = .ok (.getfield 10, 3) := by decide +kernel
theorem dX6_step_38 : decode cX6_step 38 = .ok (.getfield 179, 3) := by decide +kernel
theorem dX6_step_41 : decode cX6_step 41 = .ok (.getfield 183, 3) := by decide +kernel
theorem dX6_step_44 : decode cX6_step 44 = .ok (.bipush 6, 2) := by decide +kernel
theorem dX6_step_46 : decode cX6_step 46 = .ok (.if_icmp .lt 10, 3) := by decide +kernel
theorem dX6_step_49 : decode cX6_step 49 = .ok (.aload_n 0, 1) := by decide +kernel
theorem dX6_step_50 : decode cX6_step 50 = .ok (.bipush (-6), 2) := by decide +kernel
theorem dX6_step_52 : decode cX6_step 52 = .ok (.invokevirtual 56, 3) := by decide +kernel
theorem dX6_step_55 : decode cX6_step 55 = .ok (.ireturn, 1) := by decide +kernel
theorem dX6_step_56 : decode cX6_step 56 = .ok (.aload_n 0, 1) := by decide +kernel
theorem dX6_step_57 : decode cX6_step 57 = .ok (.getfield 25, 3) := by decide +kernel
theorem dX6_step_60 : decode cX6_step 60 = .ok (.aload_n 0, 1) := by decide +kernel
theorem dX6_step_61 : decode cX6_step 61 = .ok (.getfield 10, 3) := by decide +kernel
theorem dX6_step_64 : decode cX6_step 64 = .ok (.invokevirtual 165, 3) := by decide +kernel
theorem dX6_step_67 : decode cX6_step 67 = .ok (.aload_n 0, 1) := by decide +kernel
theorem dX6_step_68 : decode cX6_step 68 = .ok (.getfield 10, 3) := by decide +kernel
theorem dX6_step_71 : decode cX6_step 71 = .ok (.getfield 179, 3) := by decide +kernel
theorem dX6_step_74 : decode cX6_step 74 = .ok (.iload_n 1, 1) := by decide +kernel
theorem dX6_step_75 : decode cX6_step 75 = .ok (.iload_n 2, 1) := by decide +kernel
theorem dX6_step_76 : decode cX6_step 76 = .ok (.invokevirtual 188, 3) := by decide +kernel
theorem dX6_step_79 : decode cX6_step 79 = .ok (.aload_n 0, 1) := by decide +kernel
theorem dX6_step_80 : decode cX6_step 80 = .ok (.getfield 10, 3) := by decide +kernel
theorem dX6_step_83 : decode cX6_step 83 = .ok (.getfield 179, 3) := by decide +kernel
theorem dX6_step_86 : decode cX6_step 86 = .ok (.getfield 183, 3) := by decide +kernel
theorem dX6_step_89 : decode cX6_step 89 = .ok (.ireturn, 1) := by decide +kernel
theorem dX6_clearHearth_0 : decode cX6_clearHearth 0 = .ok (.aload_n 0, 1) := by decide +kernel
theorem dX6_clearHearth_1 : decode cX6_clearHearth 1 = .ok (.getfield 25, 3) := by decide +kernel
theorem dX6_clearHearth_4 : decode cX6_clearHearth 4 = .ok (.aload_n 0, 1) := by decide +kernel
theorem dX6_clearHearth_5 : decode cX6_clearHearth 5 = .ok (.getfield 10, 3) := by decide +kernel
theorem dX6_clearHearth_8 : decode cX6_clearHearth 8 = .ok (.invokevirtual 165, 3) := by decide +kernel
theorem dX6_clearHearth_11 : decode cX6_clearHearth 11 = .ok (.aload_n 0, 1) := by decide +kernel
theorem dX6_clearHearth_12 : decode cX6_clearHearth 12 = .ok (.getfield 10, 3) := by decide +kernel
theorem dX6_clearHearth_15 : decode cX6_clearHearth 15 = .ok (.getfield 179, 3) := by decide +kernel
theorem dX6_clearHearth_18 : decode cX6_clearHearth 18 = .ok (.getfield 183, 3) := by decide +kernel
theorem dX6_clearHearth_21 : decode cX6_clearHearth 21 = .ok (.istore_n 1, 1) := by decide +kernel
theorem dX6_clearHearth_22 : decode cX6_clearHearth 22 = .ok (.aload_n 0, 1) := by decide +kernel
theorem dX6_clearHearth_23 : decode cX6_clearHearth 23 = .ok (.getfield 10, 3) := by decide +kernel
theorem dX6_clearHearth_26 : decode cX6_clearHearth 26 = .ok (.getfield 179, 3) := by decide +kernel
theorem dX6_clearHearth_29 : decode cX6_clearHearth 29 = .ok (.iconst 0, 1) := by decide +kernel
theorem dX6_clearHearth_30 : decode cX6_clearHearth 30 = .ok (.putfield 183, 3) := by decide +kernel
theorem dX6_clearHearth_33 : decode cX6_clearHearth 33 = .ok (.iload_n 1, 1) := by decide +kernel
theorem dX6_clearHearth_34 : decode cX6_clearHearth 34 = .ok (.ireturn, 1) := by decide +kernel
theorem dX6_turns_0 : decode cX6_turns 0 = .ok (.iload_n 1, 1) := by decide +kernel
theorem dX6_turns_1 : decode cX6_turns 1 = .ok (.iconst 1, 1) := by decide +kernel
theorem dX6_turns_2 : decode cX6_turns 2 = .ok (.if_icmp .ge 10, 3) := by decide +kernel
theorem dX6_turns_5 : decode cX6_turns 5 = .ok (.aload_n 0, 1) := by decide +kernel
theorem dX6_turns_6 : decode cX6_turns 6 = .ok (.bipush (-4), 2) := by decide +kernel
theorem dX6_turns_8 : decode cX6_turns 8 = .ok (.invokevirtual 56, 3) := by decide +kernel
theorem dX6_turns_11 : decode cX6_turns 11 = .ok (.ireturn, 1) := by decide +kernel
theorem dX6_turns_12 : decode cX6_turns 12 = .ok (.iload_n 1, 1) := by decide +kernel
theorem dX6_turns_13 : decode cX6_turns 13 = .ok (.bipush 60, 2) := by decide +kernel
theorem dX6_turns_15 : decode cX6_turns 15 = .ok (.if_icmp .gt 18, 3) := by decide +kernel
theorem dX6_turns_18 : decode cX6_turns 18 = .ok (.aload_n 0, 1) := by decide +kernel
theorem dX6_turns_19 : decode cX6_turns 19 = .ok (.getfield 10, 3) := by decide +kernel
theorem dX6_turns_22 : decode cX6_turns 22 = .ok (.getfield 192, 3) := by decide +kernel
theorem dX6_turns_25 : decode cX6_turns 25 = .ok (.iload_n 1, 1) := by decide +kernel
theorem dX6_turns_26 : decode cX6_turns 26 = .ok (.iadd, 1) := by decide +kernel
theorem dX6_turns_27 : decode cX6_turns 27 = .ok (.sipush 999, 3) := by decide +kernel
theorem dX6_turns_30 : decode cX6_turns 30 = .ok (.if_icmp .le 10, 3) := by decide +kernel
theorem dX6_turns_33 : decode cX6_turns 33 = .ok (.aload_n 0, 1) := by decide +kernel
theorem dX6_turns_34 : decode cX6_turns 34 = .ok (.bipush (-6), 2) := by decide +kernel
theorem dX6_turns_36 : decode cX6_turns 36 = .ok (.invokevirtual 56, 3) := by decide +kernel
theorem dX6_turns_39 : decode cX6_turns 39 = .ok (.ireturn, 1) := by decide +kernel
theorem dX6_turns_40 : decode cX6_turns 40 = .ok (.aload_n 0, 1) := by decide +kernel
theorem dX6_turns_41 : decode cX6_turns 41 = .ok (.getfield 25, 3) := by decide +kernel
theorem dX6_turns_44 : decode cX6_turns 44 = .ok (.aload_n 0, 1) := by decide +kernel
theorem dX6_turns_45 : decode cX6_turns 45 = .ok (.getfield 10, 3) := by decide +kernel
theorem dX6_turns_48 : decode cX6_turns 48 = .ok (.invokevirtual 165, 3) := by decide +kernel
theorem dX6_turns_51 : decode cX6_turns 51 = .ok (.aload_n 0, 1) := by decide +kernel
theorem dX6_turns_52 : decode cX6_turns 52 = .ok (.getfield 10, 3) := by decide +kernel
theorem dX6_turns_55 : decode cX6_turns 55 = .ok (.iload_n 1, 1) := by decide +kernel
theorem dX6_turns_56 : decode cX6_turns 56 = .ok (.invokevirtual 195, 3) := by decide +kernel
theorem dX6_turns_59 : decode cX6_turns 59 = .ok (.aload_n 0, 1) := by decide +kernel
theorem dX6_turns_60 : decode cX6_turns 60 = .ok (.getfield 10, 3) := by decide +kernel
theorem dX6_turns_63 : decode cX6_turns 63 = .ok (.getfield 198, 3) := by decide +kernel
theorem dX6_turns_66 : decode cX6_turns 66 = .ok (.ireturn, 1) := by decide +kernel
theorem dX6_back_0 : decode cX6_back 0 = .ok (.aload_n 0, 1) := by decide +kernel
theorem dX6_back_1 : decode cX6_back 1 = .ok (.getfield 25, 3) := by decide +kernel
theorem dX6_back_4 : decode cX6_back 4 = .ok (.getfield 201, 3) := by decide +kernel
theorem dX6_back_7 : decode cX6_back 7 = .ok (.ifCond .ne 10, 3) := by decide +kernel
theorem dX6_back_10 : decode cX6_back 10 = .ok (.aload_n 0, 1) := by decide +kernel
theorem dX6_back_11 : decode cX6_back 11 = .ok (.bipush (-3), 2) := by decide +kernel
theorem dX6_back_13 : decode cX6_back 13 = .ok (.invokevirtual 56, 3) := by decide +kernel
theorem dX6_back_16 : decode cX6_back 16 = .ok (.ireturn, 1) := by decide +kernel
theorem dX6_back_17 : decode cX6_back 17 = .ok (.aload_n 0, 1) := by decide +kernel
theorem dX6_back_18 : decode cX6_back 18 = .ok (.getfield 25, 3) := by decide +kernel
theorem dX6_back_21 : decode cX6_back 21 = .ok (.aload_n 0, 1) := by decide +kernel
theorem dX6_back_22 : decode cX6_back 22 = .ok (.getfield 10, 3) := by decide +kernel
theorem dX6_back_25 : decode cX6_back 25 = .ok (.invokevirtual 202, 3) := by decide +kernel
theorem dX6_back_28 : decode cX6_back 28 = .ok (.aload_n 0, 1) := by decide +kernel
theorem dX6_back_29 : decode cX6_back 29 = .ok (.getfield 25, 3) := by decide +kernel
theorem dX6_back_32 : decode cX6_back 32 = .ok (.getfield 201, 3) := by decide +kernel
theorem dX6_back_35 : decode cX6_back 35 = .ok (.ireturn, 1) := by decide +kernel
theorem dX6_airThen_0 : decode cX6_airThen 0 = .ok (.aload_n 0, 1) := by decide +kernel
theorem dX6_airThen_1 : decode cX6_airThen 1 = .ok (.iload_n 1, 1) := by decide +kernel
theorem dX6_airThen_2 : decode cX6_airThen 2 = .ok (.invokevirtual 88, 3) := by decide +kernel
theorem dX6_airThen_5 : decode cX6_airThen 5 = .ok (.ifCond .ne 9, 3) := by decide +kernel
theorem dX6_airThen_8 : decode cX6_airThen 8 = .ok (.aload_n 0, 1) := by decide +kernel
theorem dX6_airThen_9 : decode cX6_airThen 9 = .ok (.iconst (-1), 1) := by decide +kernel
theorem dX6_airThen_10 : decode cX6_airThen 10 = .ok (.invokevirtual 56, 3) := by decide +kernel
theorem dX6_airThen_13 : decode cX6_airThen 13 = .ok (.ireturn, 1) := by decide +kernel
theorem dX6_airThen_14 : decode cX6_airThen 14 = .ok (.iload_n 2, 1) := by decide +kernel
theorem dX6_airThen_15 : decode cX6_airThen 15 = .ok (.iconst 0, 1) := by decide +kernel
theorem dX6_airThen_16 : decode cX6_airThen 16 = .ok (.bipush 60, 2) := by decide +kernel
theorem dX6_airThen_18 : decode cX6_airThen 18 = .ok (.invokestatic 172, 3) := by decide +kernel
theorem dX6_airThen_21 : decode cX6_airThen 21 = .ok (.istore_n 3, 1) := by decide +kernel
theorem dX6_airThen_22 : decode cX6_airThen 22 = .ok (.iload_n 3, 1) := by decide +kernel
theorem dX6_airThen_23 : decode cX6_airThen 23 = .ok (.ifCond .eq 9, 3) := by decide +kernel
theorem dX6_airThen_26 : decode cX6_airThen 26 = .ok (.aload_n 0, 1) := by decide +kernel
theorem dX6_airThen_27 : decode cX6_airThen 27 = .ok (.iload_n 3, 1) := by decide +kernel
theorem dX6_airThen_28 : decode cX6_airThen 28 = .ok (.invokevirtual 56, 3) := by decide +kernel
theorem dX6_airThen_31 : decode cX6_airThen 31 = .ok (.ireturn, 1) := by decide +kernel
theorem dX6_airThen_32 : decode cX6_airThen 32 = .ok (.aload_n 0, 1) := by decide +kernel
theorem dX6_airThen_33 : decode cX6_airThen 33 = .ok (.iload_n 2, 1) := by decide +kernel
theorem dX6_airThen_34 : decode cX6_airThen 34 = .ok (.invokevirtual 205, 3) := by decide +kernel
theorem dX6_airThen_37 : decode cX6_airThen 37 = .ok (.aload_n 0, 1) := by decide +kernel
theorem dX6_airThen_38 : decode cX6_airThen 38 = .ok (.getfield 16, 3) := by decide +kernel
theorem dX6_airThen_41 : decode cX6_airThen 41 = .ok (.getfield 98, 3) := by decide +kernel
theorem dX6_airThen_44 : decode cX6_airThen 44 = .ok (.iload_n 1, 1) := by decide +kernel
theorem dX6_airThen_45 : decode cX6_airThen 45 = .ok (.iaload, 1) := by decide +kernel
theorem dX6_airThen_46 : decode cX6_airThen 46 = .ok (.ireturn, 1) := by decide +kernel
theorem dX6_then_0 : decode cX6_then 0 = .ok (.iload_n 1, 1) := by decide +kernel
theorem dX6_then_1 : decode cX6_then 1 = .ok (.iconst 0, 1) := by decide +kernel
theorem dX6_then_2 : decode cX6_then 2 = .ok (.bipush 60, 2) := by decide +kernel
theorem dX6_then_4 : decode cX6_then 4 = .ok (.invokestatic 172, 3) := by decide +kernel
theorem dX6_then_7 : decode cX6_then 7 = .ok (.istore_n 3, 1) := by decide +kernel
theorem dX6_then_8 : decode cX6_then 8 = .ok (.iload_n 3, 1) := by decide +kernel
theorem dX6_then_9 : decode cX6_then 9 = .ok (.ifCond .eq 9, 3) := by decide +kernel
theorem dX6_then_12 : decode cX6_then 12 = .ok (.aload_n 0, 1) := by decide +kernel
theorem dX6_then_13 : decode cX6_then 13 = .ok (.iload_n 3, 1) := by decide +kernel
theorem dX6_then_14 : decode cX6_then 14 = .ok (.invokevirtual 56, 3) := by decide +kernel
theorem dX6_then_17 : decode cX6_then 17 = .ok (.ireturn, 1) := by decide +kernel
theorem dX6_then_18 : decode cX6_then 18 = .ok (.iload_n 2, 1) := by decide +kernel
theorem dX6_then_19 : decode cX6_then 19 = .ok (.ifCond .lt 8, 3) := by decide +kernel
theorem dX6_then_22 : decode cX6_then 22 = .ok (.iload_n 2, 1) := by decide +kernel
theorem dX6_then_23 : decode cX6_then 23 = .ok (.iconst 2, 1) := by decide +kernel
theorem dX6_then_24 : decode cX6_then 24 = .ok (.if_icmp .le 10, 3) := by decide +kernel
theorem dX6_then_27 : decode cX6_then 27 = .ok (.aload_n 0, 1) := by decide +kernel
theorem dX6_then_28 : decode cX6_then 28 = .ok (.bipush (-2), 2) := by decide +kernel
theorem dX6_then_30 : decode cX6_then 30 = .ok (.invokevirtual 56, 3) := by decide +kernel
theorem dX6_then_33 : decode cX6_then 33 = .ok (.ireturn, 1) := by decide +kernel
theorem dX6_then_34 : decode cX6_then 34 = .ok (.aload_n 0, 1) := by decide +kernel
theorem dX6_then_35 : decode cX6_then 35 = .ok (.iload_n 1, 1) := by decide +kernel
theorem dX6_then_36 : decode cX6_then 36 = .ok (.invokevirtual 205, 3) := by decide +kernel
theorem dX6_then_39 : decode cX6_then 39 = .ok (.iload_n 2, 1) := by decide +kernel
theorem dX6_then_40 : decode cX6_then 40 = .ok (.lookupswitch 44 #[(0, 28), (1, 36)], 28) := by decide +kernel
theorem dX6_then_68 : decode cX6_then 68 = .ok (.aload_n 0, 1) := by decide +kernel
theorem dX6_then_69 : decode cX6_then 69 = .ok (.getfield 16, 3) := by decide +kernel
theorem dX6_then_72 : decode cX6_then 72 = .ok (.getfield 176, 3) := by decide +kernel
theorem dX6_then_75 : decode cX6_then 75 = .ok (.ireturn, 1) := by decide +kernel
theorem dX6_then_76 : decode cX6_then 76 = .ok (.aload_n 0, 1) := by decide +kernel
theorem dX6_then_77 : decode cX6_then 77 = .ok (.getfield 16, 3) := by decide +kernel
theorem dX6_then_80 : decode cX6_then 80 = .ok (.getfield 198, 3) := by decide +kernel
theorem dX6_then_83 : decode cX6_then 83 = .ok (.ireturn, 1) := by decide +kernel
theorem dX6_then_84 : decode cX6_then 84 = .ok (.aload_n 0, 1) := by decide +kernel
theorem dX6_then_85 : decode cX6_then 85 = .ok (.getfield 16, 3) := by decide +kernel
theorem dX6_then_88 : decode cX6_then 88 = .ok (.getfield 208, 3) := by decide +kernel
theorem dX6_then_91 : decode cX6_then 91 = .ok (.invokestatic 211, 3) := by decide +kernel
theorem dX6_then_94 : decode cX6_then 94 = .ok (.ireturn, 1) := by decide +kernel
theorem dX6_warmThen_0 : decode cX6_warmThen 0 = .ok (.iload_n 1, 1) := by decide +kernel
theorem dX6_warmThen_1 : decode cX6_warmThen 1 = .ok (.invokestatic 125, 3) := by decide +kernel
theorem dX6_warmThen_4 : decode cX6_warmThen 4 = .ok (.ifCond .eq 13, 3) := by decide +kernel
theorem dX6_warmThen_7 : decode cX6_warmThen 7 = .ok (.iload_n 2, 1) := by decide +kernel
theorem dX6_warmThen_8 : decode cX6_warmThen 8 = .ok (.ifCond .lt 9, 3) := by decide +kernel
theorem dX6_warmThen_11 : decode cX6_warmThen 11 = .ok (.iload_n 2, 1) := by decide +kernel
theorem dX6_warmThen_12 : decode cX6_warmThen 12 = .ok (.bipush 60, 2) := by decide +kernel
theorem dX6_warmThen_14 : decode cX6_warmThen 14 = .ok (.if_icmp .le 5, 3) := by decide +kernel
theorem dX6_warmThen_17 : decode cX6_warmThen 17 = .ok (.iconst 0, 1) := by decide +kernel
theorem dX6_warmThen_18 : decode cX6_warmThen 18 = .ok (.ireturn, 1) := by decide +kernel
theorem dX6_warmThen_19 : decode cX6_warmThen 19 = .ok (.aload_n 0, 1) := by decide +kernel
theorem dX6_warmThen_20 : decode cX6_warmThen 20 = .ok (.iload_n 2, 1) := by decide +kernel
theorem dX6_warmThen_21 : decode cX6_warmThen 21 = .ok (.invokevirtual 205, 3) := by decide +kernel
theorem dX6_warmThen_24 : decode cX6_warmThen 24 = .ok (.aload_n 0, 1) := by decide +kernel
theorem dX6_warmThen_25 : decode cX6_warmThen 25 = .ok (.getfield 16, 3) := by decide +kernel
theorem dX6_warmThen_28 : decode cX6_warmThen 28 = .ok (.getfield 140, 3) := by decide +kernel
theorem dX6_warmThen_31 : decode cX6_warmThen 31 = .ok (.iload_n 1, 1) := by decide +kernel
theorem dX6_warmThen_32 : decode cX6_warmThen 32 = .ok (.faload, 1) := by decide +kernel
theorem dX6_warmThen_33 : decode cX6_warmThen 33 = .ok (.invokestatic 144, 3) := by decide +kernel
theorem dX6_warmThen_36 : decode cX6_warmThen 36 = .ok (.ireturn, 1) := by decide +kernel
theorem dX6_when_0 : decode cX6_when 0 = .ok (.iload_n 1, 1) := by decide +kernel
theorem dX6_when_1 : decode cX6_when 1 = .ok (.iconst (-1), 1) := by decide +kernel
theorem dX6_when_2 : decode cX6_when 2 = .ok (.if_icmp .ne 8, 3) := by decide +kernel
theorem dX6_when_5 : decode cX6_when 5 = .ok (.aload_n 0, 1) := by decide +kernel
theorem dX6_when_6 : decode cX6_when 6 = .ok (.invokevirtual 216, 3) := by decide +kernel
theorem dX6_when_9 : decode cX6_when 9 = .ok (.ireturn, 1) := by decide +kernel
theorem dX6_when_10 : decode cX6_when 10 = .ok (.aload_n 0, 1) := by decide +kernel
theorem dX6_when_11 : decode cX6_when 11 = .ok (.iload_n 1, 1) := by decide +kernel
theorem dX6_when_12 : decode cX6_when 12 = .ok (.invokevirtual 113, 3) := by decide +kernel
theorem dX6_when_15 : decode cX6_when 15 = .ok (.ifCond .ne 9, 3) := by decide +kernel
theorem dX6_when_18 : decode cX6_when 18 = .ok (.aload_n 0, 1) := by decide +kernel
theorem dX6_when_19 : decode cX6_when 19 = .ok (.iconst (-1), 1) := by decide +kernel
theorem dX6_when_20 : decode cX6_when 20 = .ok (.invokevirtual 56, 3) := by decide +kernel
theorem dX6_when_23 : decode cX6_when 23 = .ok (.ireturn, 1) := by decide +kernel
theorem dX6_when_24 : decode cX6_when 24 = .ok (.aload_n 0, 1) := by decide +kernel
theorem dX6_when_25 : decode cX6_when 25 = .ok (.getfield 16, 3) := by decide +kernel
theorem dX6_when_28 : decode cX6_when 28 = .ok (.aload_n 0, 1) := by decide +kernel
theorem dX6_when_29 : decode cX6_when 29 = .ok (.getfield 10, 3) := by decide +kernel
theorem dX6_when_32 : decode cX6_when 32 = .ok (.invokevirtual 74, 3) := by decide +kernel
theorem dX6_when_35 : decode cX6_when 35 = .ok (.aload_n 0, 1) := by decide +kernel
theorem dX6_when_36 : decode cX6_when 36 = .ok (.getfield 16, 3) := by decide +kernel
theorem dX6_when_39 : decode cX6_when 39 = .ok (.iload_n 1, 1) := by decide +kernel
theorem dX6_when_40 : decode cX6_when 40 = .ok (.invokevirtual 219, 3) := by decide +kernel
theorem dX6_when_43 : decode cX6_when 43 = .ok (.istore_n 2, 1) := by decide +kernel
theorem dX6_when_44 : decode cX6_when 44 = .ok (.iload_n 2, 1) := by decide +kernel
theorem dX6_when_45 : decode cX6_when 45 = .ok (.bipush 60, 2) := by decide +kernel
theorem dX6_when_47 : decode cX6_when 47 = .ok (.if_icmp .le 8, 3) := by decide +kernel
theorem dX6_when_50 : decode cX6_when 50 = .ok (.bipush (-9), 2) := by decide +kernel
theorem dX6_when_52 : decode cX6_when 52 = .ok (.goto 4, 3) := by decide +kernel
theorem dX6_when_55 : decode cX6_when 55 = .ok (.iload_n 2, 1) := by decide +kernel
theorem dX6_when_56 : decode cX6_when 56 = .ok (.ireturn, 1) := by decide +kernel
theorem dX6_sit_0 : decode cX6_sit 0 = .ok (.aload_n 0, 1) := by decide +kernel
theorem dX6_sit_1 : decode cX6_sit 1 = .ok (.iload_n 1, 1) := by decide +kernel
theorem dX6_sit_2 : decode cX6_sit 2 = .ok (.invokevirtual 113, 3) := by decide +kernel
theorem dX6_sit_5 : decode cX6_sit 5 = .ok (.ifCond .ne 9, 3) := by decide +kernel
theorem dX6_sit_8 : decode cX6_sit 8 = .ok (.aload_n 0, 1) := by decide +kernel
theorem dX6_sit_9 : decode cX6_sit 9 = .ok (.iconst (-1), 1) := by decide +kernel
theorem dX6_sit_10 : decode cX6_sit 10 = .ok (.invokevirtual 56, 3) := by decide +kernel
theorem dX6_sit_13 : decode cX6_sit 13 = .ok (.ireturn, 1) := by decide +kernel
theorem dX6_sit_14 : decode cX6_sit 14 = .ok (.iload_n 2, 1) := by decide +kernel
theorem dX6_sit_15 : decode cX6_sit 15 = .ok (.ifCond .lt 8, 3) := by decide +kernel
theorem dX6_sit_18 : decode cX6_sit 18 = .ok (.iload_n 2, 1) := by decide +kernel
theorem dX6_sit_19 : decode cX6_sit 19 = .ok (.iconst 1, 1) := by decide +kernel
theorem dX6_sit_20 : decode cX6_sit 20 = .ok (.if_icmp .le 10, 3) := by decide +kernel
theorem dX6_sit_23 : decode cX6_sit 23 = .ok (.aload_n 0, 1) := by decide +kernel
theorem dX6_sit_24 : decode cX6_sit 24 = .ok (.bipush (-2), 2) := by decide +kernel
theorem dX6_sit_26 : decode cX6_sit 26 = .ok (.invokevirtual 56, 3) := by decide +kernel
theorem dX6_sit_29 : decode cX6_sit 29 = .ok (.ireturn, 1) := by decide +kernel
theorem dX6_sit_30 : decode cX6_sit 30 = .ok (.aload_n 0, 1) := by decide +kernel
theorem dX6_sit_31 : decode cX6_sit 31 = .ok (.getfield 10, 3) := by decide +kernel
theorem dX6_sit_34 : decode cX6_sit 34 = .ok (.iload_n 1, 1) := by decide +kernel
theorem dX6_sit_35 : decode cX6_sit 35 = .ok (.invokevirtual 122, 3) := by decide +kernel
theorem dX6_sit_38 : decode cX6_sit 38 = .ok (.ifCond .ne 10, 3) := by decide +kernel
theorem dX6_sit_41 : decode cX6_sit 41 = .ok (.aload_n 0, 1) := by decide +kernel
theorem dX6_sit_42 : decode cX6_sit 42 = .ok (.bipush (-3), 2) := by decide +kernel
theorem dX6_sit_44 : decode cX6_sit 44 = .ok (.invokevirtual 56, 3) := by decide +kernel
theorem dX6_sit_47 : decode cX6_sit 47 = .ok (.ireturn, 1) := by decide +kernel
theorem dX6_sit_48 : decode cX6_sit 48 = .ok (.iconst (-1), 1) := by decide +kernel
theorem dX6_sit_49 : decode cX6_sit 49 = .ok (.istore_n 3, 1) := by decide +kernel
theorem dX6_sit_50 : decode cX6_sit 50 = .ok (.iconst (-1), 1) := by decide +kernel
theorem dX6_sit_51 : decode cX6_sit 51 = .ok (.istore 4, 2) := by decide +kernel
theorem dX6_sit_53 : decode cX6_sit 53 = .ok (.iconst 0, 1) := by decide +kernel
theorem dX6_sit_54 : decode cX6_sit 54 = .ok (.istore 5, 2) := by decide +kernel
theorem dX6_sit_56 : decode cX6_sit 56 = .ok (.iload 5, 2) := by decide +kernel
theorem dX6_sit_58 : decode cX6_sit 58 = .ok (.bipush 36, 2) := by decide +kernel
theorem dX6_sit_60 : decode cX6_sit 60 = .ok (.if_icmp .ge 88, 3) := by decide +kernel
theorem dX6_sit_63 : decode cX6_sit 63 = .ok (.iload 4, 2) := by decide +kernel
theorem dX6_sit_65 : decode cX6_sit 65 = .ok (.bipush 60, 2) := by decide +kernel
theorem dX6_sit_67 : decode cX6_sit 67 = .ok (.if_icmp .gt 81, 3) := by decide +kernel
theorem dX6_sit_70 : decode cX6_sit 70 = .ok (.aload_n 0, 1) := by decide +kernel
theorem dX6_sit_71 : decode cX6_sit 71 = .ok (.getfield 10, 3) := by decide +kernel
theorem dX6_sit_74 : decode cX6_sit 74 = .ok (.iload 5, 2) := by decide +kernel
theorem dX6_sit_76 : decode cX6_sit 76 = .ok (.invokevirtual 131, 3) := by decide +kernel
theorem dX6_sit_79 : decode cX6_sit 79 = .ok (.ifCond .ne 17, 3) := by decide +kernel
theorem dX6_sit_82 : decode cX6_sit 82 = .ok (.iload 5, 2) := by decide +kernel
theorem dX6_sit_84 : decode cX6_sit 84 = .ok (.aload_n 0, 1) := by decide +kernel
theorem dX6_sit_85 : decode cX6_sit 85 = .ok (.getfield 10, 3) := by decide +kernel
theorem dX6_sit_88 : decode cX6_sit 88 = .ok (.getfield 116, 3) := by decide +kernel
theorem dX6_sit_91 : decode cX6_sit 91 = .ok (.iload_n 1, 1) := by decide +kernel
theorem dX6_sit_92 : decode cX6_sit 92 = .ok (.iaload, 1) := by decide +kernel
theorem dX6_sit_93 : decode cX6_sit 93 = .ok (.if_icmp .ne 49, 3) := by decide +kernel
theorem dX6_sit_96 : decode cX6_sit 96 = .ok (.aload_n 0, 1) := by decide +kernel
theorem dX6_sit_97 : decode cX6_sit 97 = .ok (.getfield 16, 3) := by decide +kernel
theorem dX6_sit_100 : decode cX6_sit 100 = .ok (.aload_n 0, 1) := by decide +kernel
theorem dX6_sit_101 : decode cX6_sit 101 = .ok (.getfield 10, 3) := by decide +kernel
theorem dX6_sit_104 : decode cX6_sit 104 = .ok (.invokevirtual 74, 3) := by decide +kernel
theorem dX6_sit_107 : decode cX6_sit 107 = .ok (.aload_n 0, 1) := by decide +kernel
theorem dX6_sit_108 : decode cX6_sit 108 = .ok (.getfield 16, 3) := by decide +kernel
theorem dX6_sit_111 : decode cX6_sit 111 = .ok (.getfield 116, 3) := by decide +kernel
theorem dX6_sit_114 : decode cX6_sit 114 = .ok (.iload_n 1, 1) := by decide +kernel
theorem dX6_sit_115 : decode cX6_sit 115 = .ok (.iload 5, 2) := by decide +kernel
theorem dX6_sit_117 : decode cX6_sit 117 = .ok (.iastore, 1) := by decide +kernel
theorem dX6_sit_118 : decode cX6_sit 118 = .ok (.aload_n 0, 1) := by decide +kernel
theorem dX6_sit_119 : decode cX6_sit 119 = .ok (.getfield 16, 3) := by decide +kernel
theorem dX6_sit_122 : decode cX6_sit 122 = .ok (.iload_n 1, 1) := by decide +kernel
theorem dX6_sit_123 : decode cX6_sit 123 = .ok (.invokevirtual 219, 3) := by decide +kernel
theorem dX6_sit_126 : decode cX6_sit 126 = .ok (.istore 6, 2) := by decide +kernel
theorem dX6_sit_128 : decode cX6_sit 128 = .ok (.iload 6, 2) := by decide +kernel
theorem dX6_sit_130 : decode cX6_sit 130 = .ok (.iload 4, 2) := by decide +kernel
theorem dX6_sit_132 : decode cX6_sit 132 = .ok (.if_icmp .le 10, 3) := by decide +kernel
theorem dX6_sit_135 : decode cX6_sit 135 = .ok (.iload 5, 2) := by decide +kernel
theorem dX6_sit_137 : decode cX6_sit 137 = .ok (.istore_n 3, 1) := by decide +kernel
theorem dX6_sit_138 : decode cX6_sit 138 = .ok (.iload 6, 2) := by decide +kernel
theorem dX6_sit_140 : decode cX6_sit 140 = .ok (.istore 4, 2) := by decide +kernel
theorem dX6_sit_142 : decode cX6_sit 142 = .ok (.iinc 5 1, 3) := by decide +kernel
theorem dX6_sit_145 : decode cX6_sit 145 = .ok (.goto (-89), 3) := by decide +kernel
theorem dX6_sit_148 : decode cX6_sit 148 = .ok (.iload_n 2, 1) := by decide +kernel
theorem dX6_sit_149 : decode cX6_sit 149 = .ok (.ifCond .ne 7, 3) := by decide +kernel
theorem dX6_sit_152 : decode cX6_sit 152 = .ok (.iload_n 3, 1) := by decide +kernel
theorem dX6_sit_153 : decode cX6_sit 153 = .ok (.goto 5, 3) := by decide +kernel
theorem dX6_sit_156 : decode cX6_sit 156 = .ok (.iload 4, 2) := by decide +kernel
theorem dX6_sit_158 : decode cX6_sit 158 = .ok (.ireturn, 1) := by decide +kernel
theorem dX6_shut_0 : decode cX6_shut 0 = .ok (.aload_n 0, 1) := by decide +kernel
theorem dX6_shut_1 : decode cX6_shut 1 = .ok (.iload_n 1, 1) := by decide +kernel
theorem dX6_shut_2 : decode cX6_shut 2 = .ok (.invokevirtual 113, 3) := by decide +kernel
theorem dX6_shut_5 : decode cX6_shut 5 = .ok (.ifCond .ne 9, 3) := by decide +kernel
theorem dX6_shut_8 : decode cX6_shut 8 = .ok (.aload_n 0, 1) := by decide +kernel
theorem dX6_shut_9 : decode cX6_shut 9 = .ok (.iconst (-1), 1) := by decide +kernel
theorem dX6_shut_10 : decode cX6_shut 10 = .ok (.invokevirtual 56, 3) := by decide +kernel
theorem dX6_shut_13 : decode cX6_shut 13 = .ok (.ireturn, 1) := by decide +kernel
theorem dX6_shut_14 : decode cX6_shut 14 = .ok (.iload_n 2, 1) := by decide +kernel
theorem dX6_shut_15 : decode cX6_shut 15 = .ok (.iconst 0, 1) := by decide +kernel
theorem dX6_shut_16 : decode cX6_shut 16 = .ok (.bipush 30, 2) := by decide +kernel
theorem dX6_shut_18 : decode cX6_shut 18 = .ok (.invokestatic 172, 3) := by decide +kernel
theorem dX6_shut_21 : decode cX6_shut 21 = .ok (.istore_n 3, 1) := by decide +kernel
theorem dX6_shut_22 : decode cX6_shut 22 = .ok (.iload_n 3, 1) := by decide +kernel
theorem dX6_shut_23 : decode cX6_shut 23 = .ok (.ifCond .eq 9, 3) := by decide +kernel
theorem dX6_shut_26 : decode cX6_shut 26 = .ok (.aload_n 0, 1) := by decide +kernel
theorem dX6_shut_27 : decode cX6_shut 27 = .ok (.iload_n 3, 1) := by decide +kernel
theorem dX6_shut_28 : decode cX6_shut 28 = .ok (.invokevirtual 56, 3) := by decide +kernel
theorem dX6_shut_31 : decode cX6_shut 31 = .ok (.ireturn, 1) := by decide +kernel
theorem dX6_shut_32 : decode cX6_shut 32 = .ok (.aload_n 0, 1) := by decide +kernel
theorem dX6_shut_33 : decode cX6_shut 33 = .ok (.getfield 10, 3) := by decide +kernel
theorem dX6_shut_36 : decode cX6_shut 36 = .ok (.iload_n 1, 1) := by decide +kernel
theorem dX6_shut_37 : decode cX6_shut 37 = .ok (.invokevirtual 122, 3) := by decide +kernel
theorem dX6_shut_40 : decode cX6_shut 40 = .ok (.ifCond .ne 10, 3) := by decide +kernel
theorem dX6_shut_43 : decode cX6_shut 43 = .ok (.aload_n 0, 1) := by decide +kernel
theorem dX6_shut_44 : decode cX6_shut 44 = .ok (.bipush (-3), 2) := by decide +kernel
theorem dX6_shut_46 : decode cX6_shut 46 = .ok (.invokevirtual 56, 3) := by decide +kernel
theorem dX6_shut_49 : decode cX6_shut 49 = .ok (.ireturn, 1) := by decide +kernel
theorem dX6_shut_50 : decode cX6_shut 50 = .ok (.iconst 0, 1) := by decide +kernel
theorem dX6_shut_51 : decode cX6_shut 51 = .ok (.istore 4, 2) := by decide +kernel
theorem dX6_shut_53 : decode cX6_shut 53 = .ok (.iload 4, 2) := by decide +kernel
theorem dX6_shut_55 : decode cX6_shut 55 = .ok (.bipush 36, 2) := by decide +kernel
theorem dX6_shut_57 : decode cX6_shut 57 = .ok (.if_icmp .ge 42, 3) := by decide +kernel
theorem dX6_shut_60 : decode cX6_shut 60 = .ok (.aload_n 0, 1) := by decide +kernel
theorem dX6_shut_61 : decode cX6_shut 61 = .ok (.getfield 10, 3) := by decide +kernel
theorem dX6_shut_64 : decode cX6_shut 64 = .ok (.iload 4, 2) := by decide +kernel
theorem dX6_shut_66 : decode cX6_shut 66 = .ok (.invokevirtual 131, 3) := by decide +kernel
theorem dX6_shut_69 : decode cX6_shut 69 = .ok (.ifCond .eq 24, 3) := by decide +kernel
theorem dX6_shut_72 : decode cX6_shut 72 = .ok (.aload_n 0, 1) := by decide +kernel
theorem dX6_shut_73 : decode cX6_shut 73 = .ok (.iload 4, 2) := by decide +kernel
theorem dX6_shut_75 : decode cX6_shut 75 = .ok (.iload_n 2, 1) := by decide +kernel
theorem dX6_shut_76 : decode cX6_shut 76 = .ok (.invokevirtual 222, 3) := by decide +kernel
theorem dX6_shut_79 : decode cX6_shut 79 = .ok (.aload_n 0, 1) := by decide +kernel
theorem dX6_shut_80 : decode cX6_shut 80 = .ok (.getfield 16, 3) := by decide +kernel
theorem dX6_shut_83 : decode cX6_shut 83 = .ok (.iload_n 1, 1) := by decide +kernel
theorem dX6_shut_84 : decode cX6_shut 84 = .ok (.invokevirtual 122, 3) := by decide +kernel
theorem dX6_shut_87 : decode cX6_shut 87 = .ok (.ifCond .eq 6, 3) := by decide +kernel
theorem dX6_shut_90 : decode cX6_shut 90 = .ok (.iload 4, 2) := by decide +kernel
theorem dX6_shut_92 : decode cX6_shut 92 = .ok (.ireturn, 1) := by decide +kernel
theorem dX6_shut_93 : decode cX6_shut 93 = .ok (.iinc 4 1, 3) := by decide +kernel
theorem dX6_shut_96 : decode cX6_shut 96 = .ok (.goto (-43), 3) := by decide +kernel
theorem dX6_shut_99 : decode cX6_shut 99 = .ok (.bipush (-9), 2) := by decide +kernel
theorem dX6_shut_101 : decode cX6_shut 101 = .ok (.ireturn, 1) := by decide +kernel
theorem dX6_most_0 : decode cX6_most 0 = .ok (.iload_n 1, 1) := by decide +kernel
theorem dX6_most_1 : decode cX6_most 1 = .ok (.iconst 0, 1) := by decide +kernel
theorem dX6_most_2 : decode cX6_most 2 = .ok (.bipush 30, 2) := by decide +kernel
theorem dX6_most_4 : decode cX6_most 4 = .ok (.invokestatic 172, 3) := by decide +kernel
theorem dX6_most_7 : decode cX6_most 7 = .ok (.istore_n 2, 1) := by decide +kernel
theorem dX6_most_8 : decode cX6_most 8 = .ok (.iload_n 2, 1) := by decide +kernel
theorem dX6_most_9 : decode cX6_most 9 = .ok (.ifCond .eq 9, 3) := by decide +kernel
theorem dX6_most_12 : decode cX6_most 12 = .ok (.aload_n 0, 1) := by decide +kernel
theorem dX6_most_13 : decode cX6_most 13 = .ok (.iload_n 2, 1) := by decide +kernel
theorem dX6_most_14 : decode cX6_most 14 = .ok (.invokevirtual 56, 3) := by decide +kernel
theorem dX6_most_17 : decode cX6_most 17 = .ok (.ireturn, 1) := by decide +kernel
theorem dX6_most_18 : decode cX6_most 18 = .ok (.aload_n 0, 1) := by decide +kernel
theorem dX6_most_19 : decode cX6_most 19 = .ok (.iload_n 1, 1) := by decide +kernel
theorem dX6_most_20 : decode cX6_most 20 = .ok (.invokevirtual 205, 3) := by decide +kernel
theorem dX6_most_23 : decode cX6_most 23 = .ok (.bipush (-9), 2) := by decide +kernel
theorem dX6_most_25 : decode cX6_most 25 = .ok (.istore_n 3, 1) := by decide +kernel
theorem dX6_most_26 : decode cX6_most 26 = .ok (.aload_n 0, 1) := by decide +kernel
theorem dX6_most_27 : decode cX6_most 27 = .ok (.getfield 16, 3) := by decide +kernel
theorem dX6_most_30 : decode cX6_most 30 = .ok (.getfield 176, 3) := by decide +kernel
theorem dX6_most_33 : decode cX6_most 33 = .ok (.invokestatic 211, 3) := by decide +kernel
theorem dX6_most_36 : decode cX6_most 36 = .ok (.istore 4, 2) := by decide +kernel
theorem dX6_most_38 : decode cX6_most 38 = .ok (.iconst 0, 1) := by decide +kernel
theorem dX6_most_39 : decode cX6_most 39 = .ok (.istore 5, 2) := by decide +kernel
theorem dX6_most_41 : decode cX6_most 41 = .ok (.iload 5, 2) := by decide +kernel
theorem dX6_most_43 : decode cX6_most 43 = .ok (.bipush 36, 2) := by decide +kernel
theorem dX6_most_45 : decode cX6_most 45 = .ok (.if_icmp .ge 54, 3) := by decide +kernel
theorem dX6_most_48 : decode cX6_most 48 = .ok (.aload_n 0, 1) := by decide +kernel
theorem dX6_most_49 : decode cX6_most 49 = .ok (.getfield 10, 3) := by decide +kernel
theorem dX6_most_52 : decode cX6_most 52 = .ok (.iload 5, 2) := by decide +kernel
theorem dX6_most_54 : decode cX6_most 54 = .ok (.invokevirtual 131, 3) := by decide +kernel
theorem dX6_most_57 : decode cX6_most 57 = .ok (.ifCond .eq 36, 3) := by decide +kernel
theorem dX6_most_60 : decode cX6_most 60 = .ok (.aload_n 0, 1) := by decide +kernel
theorem dX6_most_61 : decode cX6_most 61 = .ok (.iload 5, 2) := by decide +kernel
theorem dX6_most_63 : decode cX6_most 63 = .ok (.iload_n 1, 1) := by decide +kernel
theorem dX6_most_64 : decode cX6_most 64 = .ok (.invokevirtual 222, 3) := by decide +kernel
theorem dX6_most_67 : decode cX6_most 67 = .ok (.aload_n 0, 1) := by decide +kernel
theorem dX6_most_68 : decode cX6_most 68 = .ok (.getfield 16, 3) := by decide +kernel
theorem dX6_most_71 : decode cX6_most 71 = .ok (.getfield 176, 3) := by decide +kernel
theorem dX6_most_74 : decode cX6_most 74 = .ok (.invokestatic 211, 3) := by decide +kernel
theorem dX6_most_77 : decode cX6_most 77 = .ok (.istore 6, 2) := by decide +kernel
theorem dX6_most_79 : decode cX6_most 79 = .ok (.iload 6, 2) := by decide +kernel
theorem dX6_most_81 : decode cX6_most 81 = .ok (.iload 4, 2) := by decide +kernel
theorem dX6_most_83 : decode cX6_most 83 = .ok (.if_icmp .le 10, 3) := by decide +kernel
theorem dX6_most_86 : decode cX6_most 86 = .ok (.iload 5, 2) := by decide +kernel
theorem dX6_most_88 : decode cX6_most 88 = .ok (.istore_n 3, 1) := by decide +kernel
theorem dX6_most_89 : decode cX6_most 89 = .ok (.iload 6, 2) := by decide +kernel
theorem dX6_most_91 : decode cX6_most 91 = .ok (.istore 4, 2) := by decide +kernel
theorem dX6_most_93 : decode cX6_most 93 = .ok (.iinc 5 1, 3) := by decide +kernel
theorem dX6_most_96 : decode cX6_most 96 = .ok (.goto (-55), 3) := by decide +kernel
theorem dX6_most_99 : decode cX6_most 99 = .ok (.iload_n 3, 1) := by decide +kernel
theorem dX6_most_100 : decode cX6_most 100 = .ok (.ireturn, 1) := by decide +kernel
theorem dX6_leapt_0 : decode cX6_leapt 0 = .ok (.iload_n 1, 1) := by decide +kernel
theorem dX6_leapt_1 : decode cX6_leapt 1 = .ok (.iconst 1, 1) := by decide +kernel
theorem dX6_leapt_2 : decode cX6_leapt 2 = .ok (.bipush 60, 2) := by decide +kernel
theorem dX6_leapt_4 : decode cX6_leapt 4 = .ok (.invokestatic 172, 3) := by decide +kernel
theorem dX6_leapt_7 : decode cX6_leapt 7 = .ok (.istore_n 3, 1) := by decide +kernel
theorem dX6_leapt_8 : decode cX6_leapt 8 = .ok (.iload_n 3, 1) := by decide +kernel
theorem dX6_leapt_9 : decode cX6_leapt 9 = .ok (.ifCond .eq 9, 3) := by decide +kernel
theorem dX6_leapt_12 : decode cX6_leapt 12 = .ok (.aload_n 0, 1) := by decide +kernel
theorem dX6_leapt_13 : decode cX6_leapt 13 = .ok (.iload_n 3, 1) := by decide +kernel
theorem dX6_leapt_14 : decode cX6_leapt 14 = .ok (.invokevirtual 56, 3) := by decide +kernel
theorem dX6_leapt_17 : decode cX6_leapt 17 = .ok (.ireturn, 1) := by decide +kernel
theorem dX6_leapt_18 : decode cX6_leapt 18 = .ok (.iload_n 2, 1) := by decide +kernel
theorem dX6_leapt_19 : decode cX6_leapt 19 = .ok (.ifCond .lt 8, 3) := by decide +kernel
theorem dX6_leapt_22 : decode cX6_leapt 22 = .ok (.iload_n 2, 1) := by decide +kernel
theorem dX6_leapt_23 : decode cX6_leapt 23 = .ok (.iconst 1, 1) := by decide +kernel
theorem dX6_leapt_24 : decode cX6_leapt 24 = .ok (.if_icmp .le 10, 3) := by decide +kernel
theorem dX6_leapt_27 : decode cX6_leapt 27 = .ok (.aload_n 0, 1) := by decide +kernel
theorem dX6_leapt_28 : decode cX6_leapt 28 = .ok (.bipush (-2), 2) := by decide +kernel
theorem dX6_leapt_30 : decode cX6_leapt 30 = .ok (.invokevirtual 56, 3) := by decide +kernel
theorem dX6_leapt_33 : decode cX6_leapt 33 = .ok (.ireturn, 1) := by decide +kernel
theorem dX6_leapt_34 : decode cX6_leapt 34 = .ok (.aload_n 0, 1) := by decide +kernel
theorem dX6_leapt_35 : decode cX6_leapt 35 = .ok (.getfield 16, 3) := by decide +kernel
theorem dX6_leapt_38 : decode cX6_leapt 38 = .ok (.aload_n 0, 1) := by decide +kernel
theorem dX6_leapt_39 : decode cX6_leapt 39 = .ok (.getfield 10, 3) := by decide +kernel
theorem dX6_leapt_42 : decode cX6_leapt 42 = .ok (.invokevirtual 74, 3) := by decide +kernel
theorem dX6_leapt_45 : decode cX6_leapt 45 = .ok (.iconst 0, 1) := by decide +kernel
theorem dX6_leapt_46 : decode cX6_leapt 46 = .ok (.istore 4, 2) := by decide +kernel
theorem dX6_leapt_48 : decode cX6_leapt 48 = .ok (.iconst 0, 1) := by decide +kernel
theorem dX6_leapt_49 : decode cX6_leapt 49 = .ok (.istore 5, 2) := by decide +kernel
theorem dX6_leapt_51 : decode cX6_leapt 51 = .ok (.iconst 1, 1) := by decide +kernel
theorem dX6_leapt_52 : decode cX6_leapt 52 = .ok (.istore 6, 2) := by decide +kernel
theorem dX6_leapt_54 : decode cX6_leapt 54 = .ok (.iload 6, 2) := by decide +kernel
theorem dX6_leapt_56 : decode cX6_leapt 56 = .ok (.iload_n 1, 1) := by decide +kernel
theorem dX6_leapt_57 : decode cX6_leapt 57 = .ok (.if_icmp .gt 53, 3) := by decide +kernel
theorem dX6_leapt_60 : decode cX6_leapt 60 = .ok (.aload_n 0, 1) := by decide +kernel
theorem dX6_leapt_61 : decode cX6_leapt 61 = .ok (.getfield 16, 3) := by decide +kernel
theorem dX6_leapt_64 : decode cX6_leapt 64 = .ok (.getfield 198, 3) := by decide +kernel
theorem dX6_leapt_67 : decode cX6_leapt 67 = .ok (.istore 7, 2) := by decide +kernel
theorem dX6_leapt_69 : decode cX6_leapt 69 = .ok (.aload_n 0, 1) := by decide +kernel
theorem dX6_leapt_70 : decode cX6_leapt 70 = .ok (.getfield 16, 3) := by decide +kernel
theorem dX6_leapt_73 : decode cX6_leapt 73 = .ok (.iconst 1, 1) := by decide +kernel
theorem dX6_leapt_74 : decode cX6_leapt 74 = .ok (.invokevirtual 195, 3) := by decide +kernel
theorem dX6_leapt_77 : decode cX6_leapt 77 = .ok (.aload_n 0, 1) := by decide +kernel
theorem dX6_leapt_78 : decode cX6_leapt 78 = .ok (.getfield 16, 3) := by decide +kernel
theorem dX6_leapt_81 : decode cX6_leapt 81 = .ok (.getfield 198, 3) := by decide +kernel
theorem dX6_leapt_84 : decode cX6_leapt 84 = .ok (.iload 7, 2) := by decide +kernel
theorem dX6_leapt_86 : decode cX6_leapt 86 = .ok (.isub, 1) := by decide +kernel
theorem dX6_leapt_87 : decode cX6_leapt 87 = .ok (.istore 8, 2) := by decide +kernel
theorem dX6_leapt_89 : decode cX6_leapt 89 = .ok (.iload 8, 2) := by decide +kernel
theorem dX6_leapt_91 : decode cX6_leapt 91 = .ok (.iload 4, 2) := by decide +kernel
theorem dX6_leapt_93 : decode cX6_leapt 93 = .ok (.if_icmp .le 11, 3) := by decide +kernel
theorem dX6_leapt_96 : decode cX6_leapt 96 = .ok (.iload 8, 2) := by decide +kernel
theorem dX6_leapt_98 : decode cX6_leapt 98 = .ok (.istore 4, 2) := by decide +kernel
theorem dX6_leapt_100 : decode cX6_leapt 100 = .ok (.iload 6, 2) := by decide +kernel
theorem dX6_leapt_102 : decode cX6_leapt 102 = .ok (.istore 5, 2) := by decide +kernel
theorem dX6_leapt_104 : decode cX6_leapt 104 = .ok (.iinc 6 1, 3) := by decide +kernel
theorem dX6_leapt_107 : decode cX6_leapt 107 = .ok (.goto (-53), 3) := by decide +kernel
theorem dX6_leapt_110 : decode cX6_leapt 110 = .ok (.iload_n 2, 1) := by decide +kernel
theorem dX6_leapt_111 : decode cX6_leapt 111 = .ok (.ifCond .ne 8, 3) := by decide +kernel
theorem dX6_leapt_114 : decode cX6_leapt 114 = .ok (.iload 4, 2) := by decide +kernel
theorem dX6_leapt_116 : decode cX6_leapt 116 = .ok (.goto 5, 3) := by decide +kernel
theorem dX6_leapt_119 : decode cX6_leapt 119 = .ok (.iload 5, 2) := by decide +kernel
theorem dX6_leapt_121 : decode cX6_leapt 121 = .ok (.ireturn, 1) := by decide +kernel
theorem dX6_whatKind_0 : decode cX6_whatKind 0 = .ok (.aload_n 0, 1) := by decide +kernel
theorem dX6_whatKind_1 : decode cX6_whatKind 1 = .ok (.iload_n 1, 1) := by decide +kernel
theorem dX6_whatKind_2 : decode cX6_whatKind 2 = .ok (.invokevirtual 88, 3) := by decide +kernel
theorem dX6_whatKind_5 : decode cX6_whatKind 5 = .ok (.ifCond .ne 9, 3) := by decide +kernel
theorem dX6_whatKind_8 : decode cX6_whatKind 8 = .ok (.aload_n 0, 1) := by decide +kernel
theorem dX6_whatKind_9 : decode cX6_whatKind 9 = .ok (.iconst (-1), 1) := by decide +kernel
theorem dX6_whatKind_10 : decode cX6_whatKind 10 = .ok (.invokevirtual 56, 3) := by decide +kernel
theorem dX6_whatKind_13 : decode cX6_whatKind 13 = .ok (.ireturn, 1) := by decide +kernel
theorem dX6_whatKind_14 : decode cX6_whatKind 14 = .ok (.iload_n 2, 1) := by decide +kernel
theorem dX6_whatKind_15 : decode cX6_whatKind 15 = .ok (.ifCond .lt 8, 3) := by decide +kernel
theorem dX6_whatKind_18 : decode cX6_whatKind 18 = .ok (.iload_n 2, 1) := by decide +kernel
theorem dX6_whatKind_19 : decode cX6_whatKind 19 = .ok (.iconst 1, 1) := by decide +kernel
theorem dX6_whatKind_20 : decode cX6_whatKind 20 = .ok (.if_icmp .le 10, 3) := by decide +kernel
theorem dX6_whatKind_23 : decode cX6_whatKind 23 = .ok (.aload_n 0, 1) := by decide +kernel
theorem dX6_whatKind_24 : decode cX6_whatKind 24 = .ok (.bipush (-2), 2) := by decide +kernel
theorem dX6_whatKind_26 : decode cX6_whatKind 26 = .ok (.invokevirtual 56, 3) := by decide +kernel
theorem dX6_whatKind_29 : decode cX6_whatKind 29 = .ok (.ireturn, 1) := by decide +kernel
theorem dX6_whatKind_30 : decode cX6_whatKind 30 = .ok (.iload_n 2, 1) := by decide +kernel
theorem dX6_whatKind_31 : decode cX6_whatKind 31 = .ok (.ifCond .ne 8, 3) := by decide +kernel
theorem dX6_whatKind_34 : decode cX6_whatKind 34 = .ok (.bipush 8, 2) := by decide +kernel
theorem dX6_whatKind_36 : decode cX6_whatKind 36 = .ok (.goto 5, 3) := by decide +kernel
theorem dX6_whatKind_39 : decode cX6_whatKind 39 = .ok (.bipush 10, 2) := by decide +kernel
theorem dX6_whatKind_41 : decode cX6_whatKind 41 = .ok (.istore_n 3, 1) := by decide +kernel
theorem dX6_whatKind_42 : decode cX6_whatKind 42 = .ok (.iconst 0, 1) := by decide +kernel
theorem dX6_whatKind_43 : decode cX6_whatKind 43 = .ok (.istore 4, 2) := by decide +kernel
theorem dX6_whatKind_45 : decode cX6_whatKind 45 = .ok (.iconst 0, 1) := by decide +kernel
theorem dX6_whatKind_46 : decode cX6_whatKind 46 = .ok (.istore 5, 2) := by decide +kernel
theorem dX6_whatKind_48 : decode cX6_whatKind 48 = .ok (.iload 5, 2) := by decide +kernel
theorem dX6_whatKind_50 : decode cX6_whatKind 50 = .ok (.iload_n 3, 1) := by decide +kernel
theorem dX6_whatKind_51 : decode cX6_whatKind 51 = .ok (.if_icmp .ge 66, 3) := by decide +kernel
theorem dX6_whatKind_54 : decode cX6_whatKind 54 = .ok (.aload_n 0, 1) := by decide +kernel
theorem dX6_whatKind_55 : decode cX6_whatKind 55 = .ok (.getfield 16, 3) := by decide +kernel
theorem dX6_whatKind_58 : decode cX6_whatKind 58 = .ok (.aload_n 0, 1) := by decide +kernel
theorem dX6_whatKind_59 : decode cX6_whatKind 59 = .ok (.getfield 10, 3) := by decide +kernel
theorem dX6_whatKind_62 : decode cX6_whatKind 62 = .ok (.invokevirtual 74, 3) := by decide +kernel
theorem dX6_whatKind_65 : decode cX6_whatKind 65 = .ok (.iload_n 2, 1) := by decide +kernel
theorem dX6_whatKind_66 : decode cX6_whatKind 66 = .ok (.ifCond .ne 17, 3) := by decide +kernel
theorem dX6_whatKind_69 : decode cX6_whatKind 69 = .ok (.aload_n 0, 1) := by decide +kernel
theorem dX6_whatKind_70 : decode cX6_whatKind 70 = .ok (.getfield 16, 3) := by decide +kernel
theorem dX6_whatKind_73 : decode cX6_whatKind 73 = .ok (.getfield 92, 3) := by decide +kernel
theorem dX6_whatKind_76 : decode cX6_whatKind 76 = .ok (.iload_n 1, 1) := by decide +kernel
theorem dX6_whatKind_77 : decode cX6_whatKind 77 = .ok (.iload 5, 2) := by decide +kernel
theorem dX6_whatKind_79 : decode cX6_whatKind 79 = .ok (.iastore, 1) := by decide +kernel
theorem dX6_whatKind_80 : decode cX6_whatKind 80 = .ok (.goto 14, 3) := by decide +kernel
theorem dX6_whatKind_83 : decode cX6_whatKind 83 = .ok (.aload_n 0, 1) := by decide +kernel
theorem dX6_whatKind_84 : decode cX6_whatKind 84 = .ok (.getfield 16, 3) := by decide +kernel
theorem dX6_whatKind_87 : decode cX6_whatKind 87 = .ok (.getfield 95, 3) := by decide +kernel
theorem dX6_whatKind_90 : decode cX6_whatKind 90 = .ok (.iload_n 1, 1) := by decide +kernel
theorem dX6_whatKind_91 : decode cX6_whatKind 91 = .ok (.iload 5, 2) := by decide +kernel
theorem dX6_whatKind_93 : decode cX6_whatKind 93 = .ok (.iastore, 1) := by decide +kernel
theorem dX6_whatKind_94 : decode cX6_whatKind 94 = .ok (.aload_n 0, 1) := by decide +kernel
theorem dX6_whatKind_95 : decode cX6_whatKind 95 = .ok (.iload_n 1, 1) := by decide +kernel
theorem dX6_whatKind_96 : decode cX6_whatKind 96 = .ok (.invokevirtual 225, 3) := by decide +kernel
theorem dX6_whatKind_99 : decode cX6_whatKind 99 = .ok (.ifCond .eq 12, 3) := by decide +kernel
theorem dX6_whatKind_102 : decode cX6_whatKind 102 = .ok (.iload 4, 2) := by decide +kernel
theorem dX6_whatKind_104 : decode cX6_whatKind 104 = .ok (.iconst 1, 1) := by decide +kernel
theorem dX6_whatKind_105 : decode cX6_whatKind 105 = .ok (.iload 5, 2) := by decide +kernel
theorem dX6_whatKind_107 : decode cX6_whatKind 107 = .ok (.ishl, 1) := by decide +kernel
theorem dX6_whatKind_108 : decode cX6_whatKind 108 = .ok (.ior, 1) := by decide +kernel
theorem dX6_whatKind_109 : decode cX6_whatKind 109 = .ok (.istore 4, 2) := by decide +kernel
theorem dX6_whatKind_111 : decode cX6_whatKind 111 = .ok (.iinc 5 1, 3) := by decide +kernel
theorem dX6_whatKind_114 : decode cX6_whatKind 114 = .ok (.goto (-66), 3) := by decide +kernel
theorem dX6_whatKind_117 : decode cX6_whatKind 117 = .ok (.iload 4, 2) := by decide +kernel
theorem dX6_whatKind_119 : decode cX6_whatKind 119 = .ok (.ireturn, 1) := by decide +kernel
theorem dX6_howCold_0 : decode cX6_howCold 0 = .ok (.aload_n 0, 1) := by decide +kernel
theorem dX6_howCold_1 : decode cX6_howCold 1 = .ok (.iload_n 1, 1) := by decide +kernel
theorem dX6_howCold_2 : decode cX6_howCold 2 = .ok (.invokevirtual 88, 3) := by decide +kernel
theorem dX6_howCold_5 : decode cX6_howCold 5 = .ok (.ifCond .ne 9, 3) := by decide +kernel
theorem dX6_howCold_8 : decode cX6_howCold 8 = .ok (.aload_n 0, 1) := by decide +kernel
theorem dX6_howCold_9 : decode cX6_howCold 9 = .ok (.iconst (-1), 1) := by decide +kernel
theorem dX6_howCold_10 : decode cX6_howCold 10 = .ok (.invokevirtual 56, 3) := by decide +kernel
theorem dX6_howCold_13 : decode cX6_howCold 13 = .ok (.ireturn, 1) := by decide +kernel
theorem dX6_howCold_14 : decode cX6_howCold 14 = .ok (.iload_n 2, 1) := by decide +kernel
theorem dX6_howCold_15 : decode cX6_howCold 15 = .ok (.ifCond .lt 9, 3) := by decide +kernel
theorem dX6_howCold_18 : decode cX6_howCold 18 = .ok (.iload_n 3, 1) := by decide +kernel
theorem dX6_howCold_19 : decode cX6_howCold 19 = .ok (.bipush (-100), 2) := by decide +kernel
theorem dX6_howCold_21 : decode cX6_howCold 21 = .ok (.if_icmp .ge 10, 3) := by decide +kernel
theorem dX6_howCold_24 : decode cX6_howCold 24 = .ok (.aload_n 0, 1) := by decide +kernel
theorem dX6_howCold_25 : decode cX6_howCold 25 = .ok (.bipush (-4), 2) := by decide +kernel
theorem dX6_howCold_27 : decode cX6_howCold 27 = .ok (.invokevirtual 56, 3) := by decide +kernel
theorem dX6_howCold_30 : decode cX6_howCold 30 = .ok (.ireturn, 1) := by decide +kernel
theorem dX6_howCold_31 : decode cX6_howCold 31 = .ok (.iload_n 2, 1) := by decide +kernel
theorem dX6_howCold_32 : decode cX6_howCold 32 = .ok (.bipush 99, 2) := by decide +kernel
theorem dX6_howCold_34 : decode cX6_howCold 34 = .ok (.if_icmp .gt 9, 3) := by decide +kernel
theorem dX6_howCold_37 : decode cX6_howCold 37 = .ok (.iload_n 3, 1) := by decide +kernel
theorem dX6_howCold_38 : decode cX6_howCold 38 = .ok (.bipush 100, 2) := by decide +kernel
theorem dX6_howCold_40 : decode cX6_howCold 40 = .ok (.if_icmp .le 10, 3) := by decide +kernel
theorem dX6_howCold_43 : decode cX6_howCold 43 = .ok (.aload_n 0, 1) := by decide +kernel
theorem dX6_howCold_44 : decode cX6_howCold 44 = .ok (.bipush (-6), 2) := by decide +kernel
theorem dX6_howCold_46 : decode cX6_howCold 46 = .ok (.invokevirtual 56, 3) := by decide +kernel
theorem dX6_howCold_49 : decode cX6_howCold 49 = .ok (.ireturn, 1) := by decide +kernel
theorem dX6_howCold_50 : decode cX6_howCold 50 = .ok (.iconst 0, 1) := by decide +kernel
theorem dX6_howCold_51 : decode cX6_howCold 51 = .ok (.istore 4, 2) := by decide +kernel
theorem dX6_howCold_53 : decode cX6_howCold 53 = .ok (.iconst 0, 1) := by decide +kernel
theorem dX6_howCold_54 : decode cX6_howCold 54 = .ok (.istore 5, 2) := by decide +kernel
theorem dX6_howCold_56 : decode cX6_howCold 56 = .ok (.iload 5, 2) := by decide +kernel
theorem dX6_howCold_58 : decode cX6_howCold 58 = .ok (.bipush 8, 2) := by decide +kernel
theorem dX6_howCold_60 : decode cX6_howCold 60 = .ok (.if_icmp .ge 50, 3) := by decide +kernel
theorem dX6_howCold_63 : decode cX6_howCold 63 = .ok (.iload 5, 2) := by decide +kernel
theorem dX6_howCold_65 : decode cX6_howCold 65 = .ok (.aload_n 0, 1) := by decide +kernel
theorem dX6_howCold_66 : decode cX6_howCold 66 = .ok (.getfield 10, 3) := by decide +kernel
theorem dX6_howCold_69 : decode cX6_howCold 69 = .ok (.getfield 95, 3) := by decide +kernel
theorem dX6_howCold_72 : decode cX6_howCold 72 = .ok (.iload_n 1, 1) := by decide +kernel
theorem dX6_howCold_73 : decode cX6_howCold 73 = .ok (.iaload, 1) := by decide +kernel
theorem dX6_howCold_74 : decode cX6_howCold 74 = .ok (.aload_n 0, 1) := by decide +kernel
theorem dX6_howCold_75 : decode cX6_howCold 75 = .ok (.getfield 10, 3) := by decide +kernel
theorem dX6_howCold_78 : decode cX6_howCold 78 = .ok (.getfield 192, 3) := by decide +kernel
theorem dX6_howCold_81 : decode cX6_howCold 81 = .ok (.iload_n 2, 1) := by decide +kernel
theorem dX6_howCold_82 : decode cX6_howCold 82 = .ok (.i2f, 1) := by decide +kernel
theorem dX6_howCold_83 : decode cX6_howCold 83 = .ok (.invokestatic 228, 3) := by decide +kernel
theorem dX6_howCold_86 : decode cX6_howCold 86 = .ok (.fstore 6, 2) := by decide +kernel
theorem dX6_howCold_88 : decode cX6_howCold 88 = .ok (.fload 6, 2) := by decide +kernel
theorem dX6_howCold_90 : decode cX6_howCold 90 = .ok (.f2i, 1) := by decide +kernel
theorem dX6_howCold_91 : decode cX6_howCold 91 = .ok (.iload_n 3, 1) := by decide +kernel
theorem dX6_howCold_92 : decode cX6_howCold 92 = .ok (.if_icmp .ne 12, 3) := by decide +kernel
theorem dX6_howCold_95 : decode cX6_howCold 95 = .ok (.iload 4, 2) := by decide +kernel
theorem dX6_howCold_97 : decode cX6_howCold 97 = .ok (.iconst 1, 1) := by decide +kernel
theorem dX6_howCold_98 : decode cX6_howCold 98 = .ok (.iload 5, 2) := by decide +kernel
theorem dX6_howCold_100 : decode cX6_howCold 100 = .ok (.ishl, 1) := by decide +kernel
theorem dX6_howCold_101 : decode cX6_howCold 101 = .ok (.ior, 1) := by decide +kernel
theorem dX6_howCold_102 : decode cX6_howCold 102 = .ok (.istore 4, 2) := by decide +kernel
theorem dX6_howCold_104 : decode cX6_howCold 104 = .ok (.iinc 5 1, 3) := by decide +kernel
theorem dX6_howCold_107 : decode cX6_howCold 107 = .ok (.goto (-51), 3) := by decide +kernel
theorem dX6_howCold_110 : decode cX6_howCold 110 = .ok (.iload 4, 2) := by decide +kernel
theorem dX6_howCold_112 : decode cX6_howCold 112 = .ok (.ireturn, 1) := by decide +kernel
theorem dX6_two_0 : decode cX6_two 0 = .ok (.aload_n 0, 1) := by decide +kernel
theorem dX6_two_1 : decode cX6_two 1 = .ok (.iload_n 1, 1) := by decide +kernel
theorem dX6_two_2 : decode cX6_two 2 = .ok (.invokevirtual 113, 3) := by decide +kernel
theorem dX6_two_5 : decode cX6_two 5 = .ok (.ifCond .eq 16, 3) := by decide +kernel
theorem dX6_two_8 : decode cX6_two 8 = .ok (.aload_n 0, 1) := by decide +kernel
theorem dX6_two_9 : decode cX6_two 9 = .ok (.iload_n 2, 1) := by decide +kernel
theorem dX6_two_10 : decode cX6_two 10 = .ok (.invokevirtual 113, 3) := by decide +kernel
theorem dX6_two_13 : decode cX6_two 13 = .ok (.ifCond .eq 8, 3) := by decide +kernel
theorem dX6_two_16 : decode cX6_two 16 = .ok (.iload_n 1, 1) := by decide +kernel
theorem dX6_two_17 : decode cX6_two 17 = .ok (.iload_n 2, 1) := by decide +kernel
theorem dX6_two_18 : decode cX6_two 18 = .ok (.if_icmp .ne 9, 3) := by decide +kernel
theorem dX6_two_21 : decode cX6_two 21 = .ok (.aload_n 0, 1) := by decide +kernel
theorem dX6_two_22 : decode cX6_two 22 = .ok (.iconst (-1), 1) := by decide +kernel
theorem dX6_two_23 : decode cX6_two 23 = .ok (.invokevirtual 56, 3) := by decide +kernel
theorem dX6_two_26 : decode cX6_two 26 = .ok (.ireturn, 1) := by decide +kernel
theorem dX6_two_27 : decode cX6_two 27 = .ok (.iload_n 3, 1) := by decide +kernel
theorem dX6_two_28 : decode cX6_two 28 = .ok (.iconst 1, 1) := by decide +kernel
theorem dX6_two_29 : decode cX6_two 29 = .ok (.bipush 30, 2) := by decide +kernel
theorem dX6_two_31 : decode cX6_two 31 = .ok (.invokestatic 172, 3) := by decide +kernel
theorem dX6_two_34 : decode cX6_two 34 = .ok (.istore 4, 2) := by decide +kernel
theorem dX6_two_36 : decode cX6_two 36 = .ok (.iload 4, 2) := by decide +kernel
theorem dX6_two_38 : decode cX6_two 38 = .ok (.ifCond .eq 10, 3) := by decide +kernel
theorem dX6_two_41 : decode cX6_two 41 = .ok (.aload_n 0, 1) := by decide +kernel
theorem dX6_two_42 : decode cX6_two 42 = .ok (.iload 4, 2) := by decide +kernel
theorem dX6_two_44 : decode cX6_two 44 = .ok (.invokevirtual 56, 3) := by decide +kernel
theorem dX6_two_47 : decode cX6_two 47 = .ok (.ireturn, 1) := by decide +kernel
theorem dX6_two_48 : decode cX6_two 48 = .ok (.aload_n 0, 1) := by decide +kernel
theorem dX6_two_49 : decode cX6_two 49 = .ok (.getfield 10, 3) := by decide +kernel
theorem dX6_two_52 : decode cX6_two 52 = .ok (.iload_n 1, 1) := by decide +kernel
theorem dX6_two_53 : decode cX6_two 53 = .ok (.invokevirtual 122, 3) := by decide +kernel
theorem dX6_two_56 : decode cX6_two 56 = .ok (.ifCond .eq 14, 3) := by decide +kernel
theorem dX6_two_59 : decode cX6_two 59 = .ok (.aload_n 0, 1) := by decide +kernel
theorem dX6_two_60 : decode cX6_two 60 = .ok (.getfield 10, 3) := by decide +kernel
theorem dX6_two_63 : decode cX6_two 63 = .ok (.iload_n 2, 1) := by decide +kernel
theorem dX6_two_64 : decode cX6_two 64 = .ok (.invokevirtual 122, 3) := by decide +kernel
theorem dX6_two_67 : decode cX6_two 67 = .ok (.ifCond .ne 10, 3) := by decide +kernel
theorem dX6_two_70 : decode cX6_two 70 = .ok (.aload_n 0, 1) := by decide +kernel
theorem dX6_two_71 : decode cX6_two 71 = .ok (.bipush (-3), 2) := by decide +kernel
theorem dX6_two_73 : decode cX6_two 73 = .ok (.invokevirtual 56, 3) := by decide +kernel
theorem dX6_two_76 : decode cX6_two 76 = .ok (.ireturn, 1) := by decide +kernel
theorem dX6_two_77 : decode cX6_two 77 = .ok (.iconst 0, 1) := by decide +kernel
theorem dX6_two_78 : decode cX6_two 78 = .ok (.istore 5, 2) := by decide +kernel
theorem dX6_two_80 : decode cX6_two 80 = .ok (.iload 5, 2) := by decide +kernel
theorem dX6_two_82 : decode cX6_two 82 = .ok (.iconst 4, 1) := by decide +kernel
theorem dX6_two_83 : decode cX6_two 83 = .ok (.if_icmp .ge 18, 3) := by decide +kernel
theorem dX6_two_86 : decode cX6_two 86 = .ok (.aload_n 0, 1) := by decide +kernel
theorem dX6_two_87 : decode cX6_two 87 = .ok (.iload_n 1, 1) := by decide +kernel
theorem dX6_two_88 : decode cX6_two 88 = .ok (.iload_n 2, 1) := by decide +kernel
theorem dX6_two_89 : decode cX6_two 89 = .ok (.iload_n 3, 1) := by decide +kernel
theorem dX6_two_90 : decode cX6_two 90 = .ok (.iload 5, 2) := by decide +kernel
theorem dX6_two_92 : decode cX6_two 92 = .ok (.invokevirtual 232, 3) := by decide +kernel
theorem dX6_two_95 : decode cX6_two 95 = .ok (.iinc 5 1, 3) := by decide +kernel
theorem dX6_two_98 : decode cX6_two 98 = .ok (.goto (-18), 3) := by decide +kernel
theorem dX6_two_101 : decode cX6_two 101 = .ok (.iconst 0, 1) := by decide +kernel
theorem dX6_two_102 : decode cX6_two 102 = .ok (.istore 5, 2) := by decide +kernel
theorem dX6_two_104 : decode cX6_two 104 = .ok (.iload 5, 2) := by decide +kernel
theorem dX6_two_106 : decode cX6_two 106 = .ok (.iconst 4, 1) := by decide +kernel
theorem dX6_two_107 : decode cX6_two 107 = .ok (.if_icmp .ge 60, 3) := by decide +kernel
theorem dX6_two_110 : decode cX6_two 110 = .ok (.aload_n 0, 1) := by decide +kernel
theorem dX6_two_111 : decode cX6_two 111 = .ok (.getfield 50, 3) := by decide +kernel
theorem dX6_two_114 : decode cX6_two 114 = .ok (.iload 5, 2) := by decide +kernel
theorem dX6_two_116 : decode cX6_two 116 = .ok (.iaload, 1) := by decide +kernel
theorem dX6_two_117 : decode cX6_two 117 = .ok (.aload_n 0, 1) := by decide +kernel
theorem dX6_two_118 : decode cX6_two 118 = .ok (.getfield 50, 3) := by decide +kernel
theorem dX6_two_121 : decode cX6_two 121 = .ok (.iload 5, 2) := by decide +kernel
theorem dX6_two_123 : decode cX6_two 123 = .ok (.iconst 2, 1) := by decide +kernel
theorem dX6_two_124 : decode cX6_two 124 = .ok (.ixor, 1) := by decide +kernel
theorem dX6_two_125 : decode cX6_two 125 = .ok (.iaload, 1) := by decide +kernel
theorem dX6_two_126 : decode cX6_two 126 = .ok (.if_icmp .lt 35, 3) := by decide +kernel
theorem dX6_two_129 : decode cX6_two 129 = .ok (.aload_n 0, 1) := by decide +kernel
theorem dX6_two_130 : decode cX6_two 130 = .ok (.getfield 53, 3) := by decide +kernel
theorem dX6_two_133 : decode cX6_two 133 = .ok (.iload 5, 2) := by decide +kernel
theorem dX6_two_135 : decode cX6_two 135 = .ok (.iaload, 1) := by decide +kernel
theorem dX6_two_136 : decode cX6_two 136 = .ok (.aload_n 0, 1) := by decide +kernel
theorem dX6_two_137 : decode cX6_two 137 = .ok (.getfield 53, 3) := by decide +kernel
theorem dX6_two_140 : decode cX6_two 140 = .ok (.iload 5, 2) := by decide +kernel
theorem dX6_two_142 : decode cX6_two 142 = .ok (.iconst 1, 1) := by decide +kernel
theorem dX6_two_143 : decode cX6_two 143 = .ok (.ixor, 1) := by decide +kernel
theorem dX6_two_144 : decode cX6_two 144 = .ok (.iaload, 1) := by decide +kernel
theorem dX6_two_145 : decode cX6_two 145 = .ok (.if_icmp .lt 16, 3) := by decide +kernel
theorem dX6_two_148 : decode cX6_two 148 = .ok (.bipush 10, 2) := by decide +kernel
theorem dX6_two_150 : decode cX6_two 150 = .ok (.iload 5, 2) := by decide +kernel
theorem dX6_two_152 : decode cX6_two 152 = .ok (.iconst 1, 1) := by decide +kernel
theorem dX6_two_153 : decode cX6_two 153 = .ok (.ishr, 1) := by decide +kernel
theorem dX6_two_154 : decode cX6_two 154 = .ok (.imul, 1) := by decide +kernel
theorem dX6_two_155 : decode cX6_two 155 = .ok (.iload 5, 2) := by decide +kernel
theorem dX6_two_157 : decode cX6_two 157 = .ok (.iconst 1, 1) := by decide +kernel
theorem dX6_two_158 : decode cX6_two 158 = .ok (.iand, 1) := by decide +kernel
theorem dX6_two_159 : decode cX6_two 159 = .ok (.iadd, 1) := by decide +kernel
theorem dX6_two_160 : decode cX6_two 160 = .ok (.ireturn, 1) := by decide +kernel
theorem dX6_two_161 : decode cX6_two 161 = .ok (.iinc 5 1, 3) := by decide +kernel
theorem dX6_two_164 : decode cX6_two 164 = .ok (.goto (-60), 3) := by decide +kernel
theorem dX6_two_167 : decode cX6_two 167 = .ok (.bipush (-9), 2) := by decide +kernel
theorem dX6_two_169 : decode cX6_two 169 = .ok (.ireturn, 1) := by decide +kernel
theorem dX6_still_0 : decode cX6_still 0 = .ok (.aload_n 0, 1) := by decide +kernel
theorem dX6_still_1 : decode cX6_still 1 = .ok (.iload_n 1, 1) := by decide +kernel
theorem dX6_still_2 : decode cX6_still 2 = .ok (.invokevirtual 113, 3) := by decide +kernel
theorem dX6_still_5 : decode cX6_still 5 = .ok (.ifCond .ne 9, 3) := by decide +kernel
theorem dX6_still_8 : decode cX6_still 8 = .ok (.aload_n 0, 1) := by decide +kernel
theorem dX6_still_9 : decode cX6_still 9 = .ok (.iconst (-1), 1) := by decide +kernel
theorem dX6_still_10 : decode cX6_still 10 = .ok (.invokevirtual 236, 3) := by decide +kernel
theorem dX6_still_13 : decode cX6_still 13 = .ok (.lreturn, 1) := by decide +kernel
theorem dX6_still_14 : decode cX6_still 14 = .ok (.iload_n 2, 1) := by decide +kernel
theorem dX6_still_15 : decode cX6_still 15 = .ok (.ifCond .lt 8, 3) := by decide +kernel
theorem dX6_still_18 : decode cX6_still 18 = .ok (.iload_n 3, 1) := by decide +kernel
theorem dX6_still_19 : decode cX6_still 19 = .ok (.iconst 2, 1) := by decide +kernel
theorem dX6_still_20 : decode cX6_still 20 = .ok (.if_icmp .ge 10, 3) := by decide +kernel
theorem dX6_still_23 : decode cX6_still 23 = .ok (.aload_n 0, 1) := by decide +kernel
theorem dX6_still_24 : decode cX6_still 24 = .ok (.bipush (-4), 2) := by decide +kernel
theorem dX6_still_26 : decode cX6_still 26 = .ok (.invokevirtual 236, 3) := by decide +kernel
theorem dX6_still_29 : decode cX6_still 29 = .ok (.lreturn, 1) := by decide +kernel
theorem dX6_still_30 : decode cX6_still 30 = .ok (.iload_n 2, 1) := by decide +kernel
theorem dX6_still_31 : decode cX6_still 31 = .ok (.bipush 7, 2) := by decide +kernel
theorem dX6_still_33 : decode cX6_still 33 = .ok (.if_icmp .gt 9, 3) := by decide +kernel
theorem dX6_still_36 : decode cX6_still 36 = .ok (.iload_n 3, 1) := by decide +kernel
theorem dX6_still_37 : decode cX6_still 37 = .ok (.bipush 20, 2) := by decide +kernel
theorem dX6_still_39 : decode cX6_still 39 = .ok (.if_icmp .le 10, 3) := by decide +kernel
theorem dX6_still_42 : decode cX6_still 42 = .ok (.aload_n 0, 1) := by decide +kernel
theorem dX6_still_43 : decode cX6_still 43 = .ok (.bipush (-6), 2) := by decide +kernel
theorem dX6_still_45 : decode cX6_still 45 = .ok (.invokevirtual 236, 3) := by decide +kernel
theorem dX6_still_48 : decode cX6_still 48 = .ok (.lreturn, 1) := by decide +kernel
theorem dX6_still_49 : decode cX6_still 49 = .ok (.iload 4, 2) := by decide +kernel
theorem dX6_still_51 : decode cX6_still 51 = .ok (.ifCond .lt 9, 3) := by decide +kernel
theorem dX6_still_54 : decode cX6_still 54 = .ok (.iload 4, 2) := by decide +kernel
theorem dX6_still_56 : decode cX6_still 56 = .ok (.iconst 1, 1) := by decide +kernel
theorem dX6_still_57 : decode cX6_still 57 = .ok (.if_icmp .le 10, 3) := by decide +kernel
theorem dX6_still_60 : decode cX6_still 60 = .ok (.aload_n 0, 1) := by decide +kernel
theorem dX6_still_61 : decode cX6_still 61 = .ok (.bipush (-2), 2) := by decide +kernel
theorem dX6_still_63 : decode cX6_still 63 = .ok (.invokevirtual 236, 3) := by decide +kernel
theorem dX6_still_66 : decode cX6_still 66 = .ok (.lreturn, 1) := by decide +kernel
theorem dX6_still_67 : decode cX6_still 67 = .ok (.lconst 0, 1) := by decide +kernel
theorem dX6_still_68 : decode cX6_still 68 = .ok (.lstore 5, 2) := by decide +kernel
theorem dX6_still_70 : decode cX6_still 70 = .ok (.iconst 0, 1) := by decide +kernel
theorem dX6_still_71 : decode cX6_still 71 = .ok (.istore 7, 2) := by decide +kernel
theorem dX6_still_73 : decode cX6_still 73 = .ok (.iload 7, 2) := by decide +kernel
theorem dX6_still_75 : decode cX6_still 75 = .ok (.iconst 1, 1) := by decide +kernel
theorem dX6_still_76 : decode cX6_still 76 = .ok (.iload_n 2, 1) := by decide +kernel
theorem dX6_still_77 : decode cX6_still 77 = .ok (.ishl, 1) := by decide +kernel
theorem dX6_still_78 : decode cX6_still 78 = .ok (.if_icmp .ge 38, 3) := by decide +kernel
theorem dX6_still_81 : decode cX6_still 81 = .ok (.aload_n 0, 1) := by decide +kernel
theorem dX6_still_82 : decode cX6_still 82 = .ok (.iload_n 1, 1) := by decide +kernel
theorem dX6_still_83 : decode cX6_still 83 = .ok (.iload_n 2, 1) := by decide +kernel
theorem dX6_still_84 : decode cX6_still 84 = .ok (.iload 7, 2) := by decide +kernel
theorem dX6_still_86 : decode cX6_still 86 = .ok (.invokevirtual 240, 3) := by decide +kernel
theorem dX6_still_89 : decode cX6_still 89 = .ok (.ifCond .eq 21, 3) := by decide +kernel
theorem dX6_still_92 : decode cX6_still 92 = .ok (.lload 5, 2) := by decide +kernel
theorem dX6_still_94 : decode cX6_still 94 = .ok (.iload_n 3, 1) := by decide +kernel
theorem dX6_still_95 : decode cX6_still 95 = .ok (.iconst 1, 1) := by decide +kernel
theorem dX6_still_96 : decode cX6_still 96 = .ok (.isub, 1) := by decide +kernel
theorem dX6_still_97 : decode cX6_still 97 = .ok (.iload_n 2, 1) := by decide +kernel
theorem dX6_still_98 : decode cX6_still 98 = .ok (.iload 7, 2) := by decide +kernel
theorem dX6_still_100 : decode cX6_still 100 = .ok (.invokestatic 211, 3) := by decide +kernel
theorem dX6_still_103 : decode cX6_still 103 = .ok (.isub, 1) := by decide +kernel
theorem dX6_still_104 : decode cX6_still 104 = .ok (.invokestatic 244, 3) := by decide +kernel
theorem dX6_still_107 : decode cX6_still 107 = .ok (.ladd, 1) := by decide +kernel
theorem dX6_still_108 : decode cX6_still 108 = .ok (.lstore 5, 2) := by decide +kernel
theorem dX6_still_110 : decode cX6_still 110 = .ok (.iinc 7 1, 3) := by decide +kernel
theorem dX6_still_113 : decode cX6_still 113 = .ok (.goto (-40), 3) := by decide +kernel
theorem dX6_still_116 : decode cX6_still 116 = .ok (.iload_n 3, 1) := by decide +kernel
theorem dX6_still_117 : decode cX6_still 117 = .ok (.iload_n 2, 1) := by decide +kernel
theorem dX6_still_118 : decode cX6_still 118 = .ok (.invokestatic 244, 3) := by decide +kernel
theorem dX6_still_121 : decode cX6_still 121 = .ok (.lstore 7, 2) := by decide +kernel
theorem dX6_still_123 : decode cX6_still 123 = .ok (.lload 5, 2) := by decide +kernel
theorem dX6_still_125 : decode cX6_still 125 = .ok (.lload 7, 2) := by decide +kernel
theorem dX6_still_127 : decode cX6_still 127 = .ok (.invokestatic 248, 3) := by decide +kernel
theorem dX6_still_130 : decode cX6_still 130 = .ok (.lstore 9, 2) := by decide +kernel
theorem dX6_still_132 : decode cX6_still 132 = .ok (.lload 9, 2) := by decide +kernel
theorem dX6_still_134 : decode cX6_still 134 = .ok (.lconst 1, 1) := by decide +kernel
theorem dX6_still_135 : decode cX6_still 135 = .ok (.lcmp, 1) := by decide +kernel
