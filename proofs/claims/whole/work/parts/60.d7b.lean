theorem dX7_feed_48 : decode cX7_feed 48 = .ok (.iastore, 1) := by decide +kernel
theorem dX7_feed_49 : decode cX7_feed 49 = .ok (.aload_n 0, 1) := by decide +kernel
theorem dX7_feed_50 : decode cX7_feed 50 = .ok (.dup, 1) := by decide +kernel
theorem dX7_feed_51 : decode cX7_feed 51 = .ok (.getfield 222, 3) := by decide +kernel
theorem dX7_feed_54 : decode cX7_feed 54 = .ok (.iconst 1, 1) := by decide +kernel
theorem dX7_feed_55 : decode cX7_feed 55 = .ok (.iadd, 1) := by decide +kernel
theorem dX7_feed_56 : decode cX7_feed 56 = .ok (.putfield 222, 3) := by decide +kernel
theorem dX7_feed_59 : decode cX7_feed 59 = .ok (.aload_n 0, 1) := by decide +kernel
theorem dX7_feed_60 : decode cX7_feed 60 = .ok (.getfield 222, 3) := by decide +kernel
theorem dX7_feed_63 : decode cX7_feed 63 = .ok (.ireturn, 1) := by decide +kernel
theorem dX7_here_0 : decode cX7_here 0 = .ok (.aload_n 0, 1) := by decide +kernel
theorem dX7_here_1 : decode cX7_here 1 = .ok (.getfield 225, 3) := by decide +kernel
theorem dX7_here_4 : decode cX7_here 4 = .ok (.aload_n 0, 1) := by decide +kernel
theorem dX7_here_5 : decode cX7_here 5 = .ok (.getfield 222, 3) := by decide +kernel
theorem dX7_here_8 : decode cX7_here 8 = .ok (.if_icmp .ge 15, 3) := by decide +kernel
theorem dX7_here_11 : decode cX7_here 11 = .ok (.aload_n 0, 1) := by decide +kernel
theorem dX7_here_12 : decode cX7_here 12 = .ok (.getfield 50, 3) := by decide +kernel
theorem dX7_here_15 : decode cX7_here 15 = .ok (.aload_n 0, 1) := by decide +kernel
theorem dX7_here_16 : decode cX7_here 16 = .ok (.getfield 225, 3) := by decide +kernel
theorem dX7_here_19 : decode cX7_here 19 = .ok (.iaload, 1) := by decide +kernel
theorem dX7_here_20 : decode cX7_here 20 = .ok (.goto 4, 3) := by decide +kernel
theorem dX7_here_23 : decode cX7_here 23 = .ok (.iconst (-1), 1) := by decide +kernel
theorem dX7_here_24 : decode cX7_here 24 = .ok (.ireturn, 1) := by decide +kernel
theorem dX7_readDigits_0 : decode cX7_readDigits 0 = .ok (.iconst 0, 1) := by decide +kernel
theorem dX7_readDigits_1 : decode cX7_readDigits 1 = .ok (.istore_n 2, 1) := by decide +kernel
theorem dX7_readDigits_2 : decode cX7_readDigits 2 = .ok (.iconst 0, 1) := by decide +kernel
theorem dX7_readDigits_3 : decode cX7_readDigits 3 = .ok (.istore_n 3, 1) := by decide +kernel
theorem dX7_readDigits_4 : decode cX7_readDigits 4 = .ok (.iload_n 3, 1) := by decide +kernel
theorem dX7_readDigits_5 : decode cX7_readDigits 5 = .ok (.iload_n 1, 1) := by decide +kernel
theorem dX7_readDigits_6 : decode cX7_readDigits 6 = .ok (.if_icmp .ge 92, 3) := by decide +kernel
theorem dX7_readDigits_9 : decode cX7_readDigits 9 = .ok (.aload_n 0, 1) := by decide +kernel
theorem dX7_readDigits_10 : decode cX7_readDigits 10 = .ok (.aload_n 0, 1) := by decide +kernel
theorem dX7_readDigits_11 : decode cX7_readDigits 11 = .ok (.getfield 228, 3) := by decide +kernel
theorem dX7_readDigits_14 : decode cX7_readDigits 14 = .ok (.ifCond .ne 20, 3) := by decide +kernel
theorem dX7_readDigits_17 : decode cX7_readDigits 17 = .ok (.aload_n 0, 1) := by decide +kernel
theorem dX7_readDigits_18 : decode cX7_readDigits 18 = .ok (.invokevirtual 231, 3) := by decide +kernel
theorem dX7_readDigits_21 : decode cX7_readDigits 21 = .ok (.i2l, 1) := by decide +kernel
theorem dX7_readDigits_22 : decode cX7_readDigits 22 = .ok (.ldc2_w 235, 3) := by decide +kernel
theorem dX7_readDigits_25 : decode cX7_readDigits 25 = .ok (.ldc2_w 237, 3) := by decide +kernel
theorem dX7_readDigits_28 : decode cX7_readDigits 28 = .ok (.invokestatic 122, 3) := by decide +kernel
theorem dX7_readDigits_31 : decode cX7_readDigits 31 = .ok (.ifCond .ne 7, 3) := by decide +kernel
theorem dX7_readDigits_34 : decode cX7_readDigits 34 = .ok (.iconst 1, 1) := by decide +kernel
theorem dX7_readDigits_35 : decode cX7_readDigits 35 = .ok (.goto 4, 3) := by decide +kernel
theorem dX7_readDigits_38 : decode cX7_readDigits 38 = .ok (.iconst 0, 1) := by decide +kernel
theorem dX7_readDigits_39 : decode cX7_readDigits 39 = .ok (.putfield 228, 3) := by decide +kernel
theorem dX7_readDigits_42 : decode cX7_readDigits 42 = .ok (.aload_n 0, 1) := by decide +kernel
theorem dX7_readDigits_43 : decode cX7_readDigits 43 = .ok (.getfield 228, 3) := by decide +kernel
theorem dX7_readDigits_46 : decode cX7_readDigits 46 = .ok (.ifCond .eq 7, 3) := by decide +kernel
theorem dX7_readDigits_49 : decode cX7_readDigits 49 = .ok (.iconst 0, 1) := by decide +kernel
theorem dX7_readDigits_50 : decode cX7_readDigits 50 = .ok (.goto 20, 3) := by decide +kernel
theorem dX7_readDigits_53 : decode cX7_readDigits 53 = .ok (.bipush 10, 2) := by decide +kernel
theorem dX7_readDigits_55 : decode cX7_readDigits 55 = .ok (.iload_n 2, 1) := by decide +kernel
theorem dX7_readDigits_56 : decode cX7_readDigits 56 = .ok (.imul, 1) := by decide +kernel
theorem dX7_readDigits_57 : decode cX7_readDigits 57 = .ok (.aload_n 0, 1) := by decide +kernel
theorem dX7_readDigits_58 : decode cX7_readDigits 58 = .ok (.getfield 50, 3) := by decide +kernel
theorem dX7_readDigits_61 : decode cX7_readDigits 61 = .ok (.aload_n 0, 1) := by decide +kernel
theorem dX7_readDigits_62 : decode cX7_readDigits 62 = .ok (.getfield 225, 3) := by decide +kernel
theorem dX7_readDigits_65 : decode cX7_readDigits 65 = .ok (.iaload, 1) := by decide +kernel
theorem dX7_readDigits_66 : decode cX7_readDigits 66 = .ok (.iadd, 1) := by decide +kernel
theorem dX7_readDigits_67 : decode cX7_readDigits 67 = .ok (.bipush 48, 2) := by decide +kernel
theorem dX7_readDigits_69 : decode cX7_readDigits 69 = .ok (.isub, 1) := by decide +kernel
theorem dX7_readDigits_70 : decode cX7_readDigits 70 = .ok (.istore_n 2, 1) := by decide +kernel
theorem dX7_readDigits_71 : decode cX7_readDigits 71 = .ok (.aload_n 0, 1) := by decide +kernel
theorem dX7_readDigits_72 : decode cX7_readDigits 72 = .ok (.dup, 1) := by decide +kernel
theorem dX7_readDigits_73 : decode cX7_readDigits 73 = .ok (.getfield 225, 3) := by decide +kernel
theorem dX7_readDigits_76 : decode cX7_readDigits 76 = .ok (.aload_n 0, 1) := by decide +kernel
theorem dX7_readDigits_77 : decode cX7_readDigits 77 = .ok (.getfield 228, 3) := by decide +kernel
theorem dX7_readDigits_80 : decode cX7_readDigits 80 = .ok (.ifCond .eq 7, 3) := by decide +kernel
theorem dX7_readDigits_83 : decode cX7_readDigits 83 = .ok (.iconst 0, 1) := by decide +kernel
theorem dX7_readDigits_84 : decode cX7_readDigits 84 = .ok (.goto 4, 3) := by decide +kernel
theorem dX7_readDigits_87 : decode cX7_readDigits 87 = .ok (.iconst 1, 1) := by decide +kernel
theorem dX7_readDigits_88 : decode cX7_readDigits 88 = .ok (.iadd, 1) := by decide +kernel
theorem dX7_readDigits_89 : decode cX7_readDigits 89 = .ok (.putfield 225, 3) := by decide +kernel
theorem dX7_readDigits_92 : decode cX7_readDigits 92 = .ok (.iinc 3 1, 3) := by decide +kernel
theorem dX7_readDigits_95 : decode cX7_readDigits 95 = .ok (.goto (-91), 3) := by decide +kernel
theorem dX7_readDigits_98 : decode cX7_readDigits 98 = .ok (.iload_n 2, 1) := by decide +kernel
theorem dX7_readDigits_99 : decode cX7_readDigits 99 = .ok (.ireturn, 1) := by decide +kernel
theorem dX7_isLetter_0 : decode cX7_isLetter 0 = .ok (.iload_n 0, 1) := by decide +kernel
theorem dX7_isLetter_1 : decode cX7_isLetter 1 = .ok (.bipush 97, 2) := by decide +kernel
theorem dX7_isLetter_3 : decode cX7_isLetter 3 = .ok (.if_icmp .eq 33, 3) := by decide +kernel
theorem dX7_isLetter_6 : decode cX7_isLetter 6 = .ok (.iload_n 0, 1) := by decide +kernel
theorem dX7_isLetter_7 : decode cX7_isLetter 7 = .ok (.bipush 112, 2) := by decide +kernel
theorem dX7_isLetter_9 : decode cX7_isLetter 9 = .ok (.if_icmp .eq 27, 3) := by decide +kernel
theorem dX7_isLetter_12 : decode cX7_isLetter 12 = .ok (.iload_n 0, 1) := by decide +kernel
theorem dX7_isLetter_13 : decode cX7_isLetter 13 = .ok (.bipush 100, 2) := by decide +kernel
theorem dX7_isLetter_15 : decode cX7_isLetter 15 = .ok (.if_icmp .eq 21, 3) := by decide +kernel
theorem dX7_isLetter_18 : decode cX7_isLetter 18 = .ok (.iload_n 0, 1) := by decide +kernel
theorem dX7_isLetter_19 : decode cX7_isLetter 19 = .ok (.bipush 119, 2) := by decide +kernel
theorem dX7_isLetter_21 : decode cX7_isLetter 21 = .ok (.if_icmp .eq 15, 3) := by decide +kernel
theorem dX7_isLetter_24 : decode cX7_isLetter 24 = .ok (.iload_n 0, 1) := by decide +kernel
theorem dX7_isLetter_25 : decode cX7_isLetter 25 = .ok (.bipush 108, 2) := by decide +kernel
theorem dX7_isLetter_27 : decode cX7_isLetter 27 = .ok (.if_icmp .eq 9, 3) := by decide +kernel
theorem dX7_isLetter_30 : decode cX7_isLetter 30 = .ok (.iload_n 0, 1) := by decide +kernel
theorem dX7_isLetter_31 : decode cX7_isLetter 31 = .ok (.bipush 116, 2) := by decide +kernel
theorem dX7_isLetter_33 : decode cX7_isLetter 33 = .ok (.if_icmp .ne 7, 3) := by decide +kernel
theorem dX7_isLetter_36 : decode cX7_isLetter 36 = .ok (.iconst 1, 1) := by decide +kernel
theorem dX7_isLetter_37 : decode cX7_isLetter 37 = .ok (.goto 4, 3) := by decide +kernel
theorem dX7_isLetter_40 : decode cX7_isLetter 40 = .ok (.iconst 0, 1) := by decide +kernel
theorem dX7_isLetter_41 : decode cX7_isLetter 41 = .ok (.ireturn, 1) := by decide +kernel
theorem dX7_stepBySign_0 : decode cX7_stepBySign 0 = .ok (.iload_n 0, 1) := by decide +kernel
theorem dX7_stepBySign_1 : decode cX7_stepBySign 1 = .ok (.tableswitch 110 97 116 #[99, 110, 107, 110, 110, 110, 103, 110, 110, 110, 110, 105, 97, 110, 110, 110, 110, 110, 101, 95], 95) := by decide +kernel
theorem dX7_stepBySign_96 : decode cX7_stepBySign 96 = .ok (.iconst 0, 1) := by decide +kernel
theorem dX7_stepBySign_97 : decode cX7_stepBySign 97 = .ok (.ireturn, 1) := by decide +kernel
theorem dX7_stepBySign_98 : decode cX7_stepBySign 98 = .ok (.iconst 1, 1) := by decide +kernel
theorem dX7_stepBySign_99 : decode cX7_stepBySign 99 = .ok (.ireturn, 1) := by decide +kernel
theorem dX7_stepBySign_100 : decode cX7_stepBySign 100 = .ok (.iconst 2, 1) := by decide +kernel
theorem dX7_stepBySign_101 : decode cX7_stepBySign 101 = .ok (.ireturn, 1) := by decide +kernel
theorem dX7_stepBySign_102 : decode cX7_stepBySign 102 = .ok (.iconst 3, 1) := by decide +kernel
theorem dX7_stepBySign_103 : decode cX7_stepBySign 103 = .ok (.ireturn, 1) := by decide +kernel
theorem dX7_stepBySign_104 : decode cX7_stepBySign 104 = .ok (.iconst 4, 1) := by decide +kernel
theorem dX7_stepBySign_105 : decode cX7_stepBySign 105 = .ok (.ireturn, 1) := by decide +kernel
theorem dX7_stepBySign_106 : decode cX7_stepBySign 106 = .ok (.iconst 5, 1) := by decide +kernel
theorem dX7_stepBySign_107 : decode cX7_stepBySign 107 = .ok (.ireturn, 1) := by decide +kernel
theorem dX7_stepBySign_108 : decode cX7_stepBySign 108 = .ok (.bipush 6, 2) := by decide +kernel
theorem dX7_stepBySign_110 : decode cX7_stepBySign 110 = .ok (.ireturn, 1) := by decide +kernel
theorem dX7_stepBySign_111 : decode cX7_stepBySign 111 = .ok (.iconst (-1), 1) := by decide +kernel
theorem dX7_stepBySign_112 : decode cX7_stepBySign 112 = .ok (.ireturn, 1) := by decide +kernel
theorem dX7_readSteps_0 : decode cX7_readSteps 0 = .ok (.aload_n 0, 1) := by decide +kernel
theorem dX7_readSteps_1 : decode cX7_readSteps 1 = .ok (.getfield 59, 3) := by decide +kernel
theorem dX7_readSteps_4 : decode cX7_readSteps 4 = .ok (.iload_n 1, 1) := by decide +kernel
theorem dX7_readSteps_5 : decode cX7_readSteps 5 = .ok (.aload_n 0, 1) := by decide +kernel
theorem dX7_readSteps_6 : decode cX7_readSteps 6 = .ok (.getfield 239, 3) := by decide +kernel
theorem dX7_readSteps_9 : decode cX7_readSteps 9 = .ok (.iastore, 1) := by decide +kernel
theorem dX7_readSteps_10 : decode cX7_readSteps 10 = .ok (.aload_n 0, 1) := by decide +kernel
theorem dX7_readSteps_11 : decode cX7_readSteps 11 = .ok (.getfield 228, 3) := by decide +kernel
theorem dX7_readSteps_14 : decode cX7_readSteps 14 = .ok (.ifCond .ne 78, 3) := by decide +kernel
theorem dX7_readSteps_17 : decode cX7_readSteps 17 = .ok (.aload_n 0, 1) := by decide +kernel
theorem dX7_readSteps_18 : decode cX7_readSteps 18 = .ok (.invokevirtual 231, 3) := by decide +kernel
theorem dX7_readSteps_21 : decode cX7_readSteps 21 = .ok (.invokestatic 242, 3) := by decide +kernel
theorem dX7_readSteps_24 : decode cX7_readSteps 24 = .ok (.ifCond .lt 68, 3) := by decide +kernel
theorem dX7_readSteps_27 : decode cX7_readSteps 27 = .ok (.aload_n 0, 1) := by decide +kernel
theorem dX7_readSteps_28 : decode cX7_readSteps 28 = .ok (.invokevirtual 231, 3) := by decide +kernel
theorem dX7_readSteps_31 : decode cX7_readSteps 31 = .ok (.invokestatic 242, 3) := by decide +kernel
theorem dX7_readSteps_34 : decode cX7_readSteps 34 = .ok (.istore_n 2, 1) := by decide +kernel
theorem dX7_readSteps_35 : decode cX7_readSteps 35 = .ok (.aload_n 0, 1) := by decide +kernel
theorem dX7_readSteps_36 : decode cX7_readSteps 36 = .ok (.dup, 1) := by decide +kernel
theorem dX7_readSteps_37 : decode cX7_readSteps 37 = .ok (.getfield 225, 3) := by decide +kernel
theorem dX7_readSteps_40 : decode cX7_readSteps 40 = .ok (.iconst 1, 1) := by decide +kernel
theorem dX7_readSteps_41 : decode cX7_readSteps 41 = .ok (.iadd, 1) := by decide +kernel
theorem dX7_readSteps_42 : decode cX7_readSteps 42 = .ok (.putfield 225, 3) := by decide +kernel
theorem dX7_readSteps_45 : decode cX7_readSteps 45 = .ok (.aload_n 0, 1) := by decide +kernel
theorem dX7_readSteps_46 : decode cX7_readSteps 46 = .ok (.getfield 62, 3) := by decide +kernel
theorem dX7_readSteps_49 : decode cX7_readSteps 49 = .ok (.aload_n 0, 1) := by decide +kernel
theorem dX7_readSteps_50 : decode cX7_readSteps 50 = .ok (.getfield 239, 3) := by decide +kernel
theorem dX7_readSteps_53 : decode cX7_readSteps 53 = .ok (.iload_n 2, 1) := by decide +kernel
theorem dX7_readSteps_54 : decode cX7_readSteps 54 = .ok (.iastore, 1) := by decide +kernel
theorem dX7_readSteps_55 : decode cX7_readSteps 55 = .ok (.aload_n 0, 1) := by decide +kernel
theorem dX7_readSteps_56 : decode cX7_readSteps 56 = .ok (.getfield 65, 3) := by decide +kernel
theorem dX7_readSteps_59 : decode cX7_readSteps 59 = .ok (.aload_n 0, 1) := by decide +kernel
theorem dX7_readSteps_60 : decode cX7_readSteps 60 = .ok (.getfield 239, 3) := by decide +kernel
theorem dX7_readSteps_63 : decode cX7_readSteps 63 = .ok (.iload_n 2, 1) := by decide +kernel
theorem dX7_readSteps_64 : decode cX7_readSteps 64 = .ok (.bipush 6, 2) := by decide +kernel
theorem dX7_readSteps_66 : decode cX7_readSteps 66 = .ok (.if_icmp .ne 7, 3) := by decide +kernel
theorem dX7_readSteps_69 : decode cX7_readSteps 69 = .ok (.iconst 0, 1) := by decide +kernel
theorem dX7_readSteps_70 : decode cX7_readSteps 70 = .ok (.goto 8, 3) := by decide +kernel
theorem dX7_readSteps_73 : decode cX7_readSteps 73 = .ok (.aload_n 0, 1) := by decide +kernel
theorem dX7_readSteps_74 : decode cX7_readSteps 74 = .ok (.iconst 2, 1) := by decide +kernel
theorem dX7_readSteps_75 : decode cX7_readSteps 75 = .ok (.invokevirtual 245, 3) := by decide +kernel
theorem dX7_readSteps_78 : decode cX7_readSteps 78 = .ok (.iastore, 1) := by decide +kernel
theorem dX7_readSteps_79 : decode cX7_readSteps 79 = .ok (.aload_n 0, 1) := by decide +kernel
theorem dX7_readSteps_80 : decode cX7_readSteps 80 = .ok (.dup, 1) := by decide +kernel
theorem dX7_readSteps_81 : decode cX7_readSteps 81 = .ok (.getfield 239, 3) := by decide +kernel
theorem dX7_readSteps_84 : decode cX7_readSteps 84 = .ok (.iconst 1, 1) := by decide +kernel
theorem dX7_readSteps_85 : decode cX7_readSteps 85 = .ok (.iadd, 1) := by decide +kernel
theorem dX7_readSteps_86 : decode cX7_readSteps 86 = .ok (.putfield 239, 3) := by decide +kernel
theorem dX7_readSteps_89 : decode cX7_readSteps 89 = .ok (.goto (-79), 3) := by decide +kernel
theorem dX7_readSteps_92 : decode cX7_readSteps 92 = .ok (.aload_n 0, 1) := by decide +kernel
theorem dX7_readSteps_93 : decode cX7_readSteps 93 = .ok (.getfield 59, 3) := by decide +kernel
theorem dX7_readSteps_96 : decode cX7_readSteps 96 = .ok (.iload_n 1, 1) := by decide +kernel
theorem dX7_readSteps_97 : decode cX7_readSteps 97 = .ok (.iconst 1, 1) := by decide +kernel
theorem dX7_readSteps_98 : decode cX7_readSteps 98 = .ok (.iadd, 1) := by decide +kernel
theorem dX7_readSteps_99 : decode cX7_readSteps 99 = .ok (.aload_n 0, 1) := by decide +kernel
theorem dX7_readSteps_100 : decode cX7_readSteps 100 = .ok (.getfield 239, 3) := by decide +kernel
theorem dX7_readSteps_103 : decode cX7_readSteps 103 = .ok (.aload_n 0, 1) := by decide +kernel
theorem dX7_readSteps_104 : decode cX7_readSteps 104 = .ok (.getfield 59, 3) := by decide +kernel
theorem dX7_readSteps_107 : decode cX7_readSteps 107 = .ok (.iload_n 1, 1) := by decide +kernel
theorem dX7_readSteps_108 : decode cX7_readSteps 108 = .ok (.iaload, 1) := by decide +kernel
theorem dX7_readSteps_109 : decode cX7_readSteps 109 = .ok (.isub, 1) := by decide +kernel
theorem dX7_readSteps_110 : decode cX7_readSteps 110 = .ok (.iastore, 1) := by decide +kernel
theorem dX7_readSteps_111 : decode cX7_readSteps 111 = .ok (.return_, 1) := by decide +kernel
theorem dX7_readNumbers_0 : decode cX7_readNumbers 0 = .ok (.iload_n 1, 1) := by decide +kernel
theorem dX7_readNumbers_1 : decode cX7_readNumbers 1 = .ok (.bipush 108, 2) := by decide +kernel
theorem dX7_readNumbers_3 : decode cX7_readNumbers 3 = .ok (.if_icmp .ne 9, 3) := by decide +kernel
theorem dX7_readNumbers_6 : decode cX7_readNumbers 6 = .ok (.aload_n 0, 1) := by decide +kernel
theorem dX7_readNumbers_7 : decode cX7_readNumbers 7 = .ok (.iload_n 2, 1) := by decide +kernel
theorem dX7_readNumbers_8 : decode cX7_readNumbers 8 = .ok (.invokevirtual 248, 3) := by decide +kernel
theorem dX7_readNumbers_11 : decode cX7_readNumbers 11 = .ok (.return_, 1) := by decide +kernel
theorem dX7_readNumbers_12 : decode cX7_readNumbers 12 = .ok (.aload_n 0, 1) := by decide +kernel
theorem dX7_readNumbers_13 : decode cX7_readNumbers 13 = .ok (.getfield 59, 3) := by decide +kernel
theorem dX7_readNumbers_16 : decode cX7_readNumbers 16 = .ok (.iload_n 2, 1) := by decide +kernel
theorem dX7_readNumbers_17 : decode cX7_readNumbers 17 = .ok (.aload_n 0, 1) := by decide +kernel
theorem dX7_readNumbers_18 : decode cX7_readNumbers 18 = .ok (.iload_n 1, 1) := by decide +kernel
theorem dX7_readNumbers_19 : decode cX7_readNumbers 19 = .ok (.bipush 97, 2) := by decide +kernel
theorem dX7_readNumbers_21 : decode cX7_readNumbers 21 = .ok (.if_icmp .ne 7, 3) := by decide +kernel
theorem dX7_readNumbers_24 : decode cX7_readNumbers 24 = .ok (.iconst 1, 1) := by decide +kernel
theorem dX7_readNumbers_25 : decode cX7_readNumbers 25 = .ok (.goto 4, 3) := by decide +kernel
theorem dX7_readNumbers_28 : decode cX7_readNumbers 28 = .ok (.iconst 2, 1) := by decide +kernel
theorem dX7_readNumbers_29 : decode cX7_readNumbers 29 = .ok (.invokevirtual 245, 3) := by decide +kernel
theorem dX7_readNumbers_32 : decode cX7_readNumbers 32 = .ok (.iastore, 1) := by decide +kernel
theorem dX7_readNumbers_33 : decode cX7_readNumbers 33 = .ok (.aload_n 0, 1) := by decide +kernel
theorem dX7_readNumbers_34 : decode cX7_readNumbers 34 = .ok (.getfield 59, 3) := by decide +kernel
theorem dX7_readNumbers_37 : decode cX7_readNumbers 37 = .ok (.iload_n 2, 1) := by decide +kernel
theorem dX7_readNumbers_38 : decode cX7_readNumbers 38 = .ok (.iconst 1, 1) := by decide +kernel
theorem dX7_readNumbers_39 : decode cX7_readNumbers 39 = .ok (.iadd, 1) := by decide +kernel
theorem dX7_readNumbers_40 : decode cX7_readNumbers 40 = .ok (.aload_n 0, 1) := by decide +kernel
theorem dX7_readNumbers_41 : decode cX7_readNumbers 41 = .ok (.iload_n 1, 1) := by decide +kernel
theorem dX7_readNumbers_42 : decode cX7_readNumbers 42 = .ok (.bipush 97, 2) := by decide +kernel
theorem dX7_readNumbers_44 : decode cX7_readNumbers 44 = .ok (.if_icmp .eq 9, 3) := by decide +kernel
theorem dX7_readNumbers_47 : decode cX7_readNumbers 47 = .ok (.iload_n 1, 1) := by decide +kernel
theorem dX7_readNumbers_48 : decode cX7_readNumbers 48 = .ok (.bipush 112, 2) := by decide +kernel
theorem dX7_readNumbers_50 : decode cX7_readNumbers 50 = .ok (.if_icmp .ne 7, 3) := by decide +kernel
theorem dX7_readNumbers_53 : decode cX7_readNumbers 53 = .ok (.iconst 1, 1) := by decide +kernel
theorem dX7_readNumbers_54 : decode cX7_readNumbers 54 = .ok (.goto 14, 3) := by decide +kernel
theorem dX7_readNumbers_57 : decode cX7_readNumbers 57 = .ok (.iload_n 1, 1) := by decide +kernel
theorem dX7_readNumbers_58 : decode cX7_readNumbers 58 = .ok (.bipush 119, 2) := by decide +kernel
theorem dX7_readNumbers_60 : decode cX7_readNumbers 60 = .ok (.if_icmp .ne 7, 3) := by decide +kernel
theorem dX7_readNumbers_63 : decode cX7_readNumbers 63 = .ok (.iconst 2, 1) := by decide +kernel
theorem dX7_readNumbers_64 : decode cX7_readNumbers 64 = .ok (.goto 4, 3) := by decide +kernel
theorem dX7_readNumbers_67 : decode cX7_readNumbers 67 = .ok (.iconst 0, 1) := by decide +kernel
theorem dX7_readNumbers_68 : decode cX7_readNumbers 68 = .ok (.invokevirtual 245, 3) := by decide +kernel
theorem dX7_readNumbers_71 : decode cX7_readNumbers 71 = .ok (.iastore, 1) := by decide +kernel
theorem dX7_readNumbers_72 : decode cX7_readNumbers 72 = .ok (.aload_n 0, 1) := by decide +kernel
theorem dX7_readNumbers_73 : decode cX7_readNumbers 73 = .ok (.getfield 59, 3) := by decide +kernel
theorem dX7_readNumbers_76 : decode cX7_readNumbers 76 = .ok (.iload_n 2, 1) := by decide +kernel
theorem dX7_readNumbers_77 : decode cX7_readNumbers 77 = .ok (.iconst 2, 1) := by decide +kernel
theorem dX7_readNumbers_78 : decode cX7_readNumbers 78 = .ok (.iadd, 1) := by decide +kernel
theorem dX7_readNumbers_79 : decode cX7_readNumbers 79 = .ok (.aload_n 0, 1) := by decide +kernel
theorem dX7_readNumbers_80 : decode cX7_readNumbers 80 = .ok (.iload_n 1, 1) := by decide +kernel
theorem dX7_readNumbers_81 : decode cX7_readNumbers 81 = .ok (.bipush 97, 2) := by decide +kernel
theorem dX7_readNumbers_83 : decode cX7_readNumbers 83 = .ok (.if_icmp .ne 7, 3) := by decide +kernel
theorem dX7_readNumbers_86 : decode cX7_readNumbers 86 = .ok (.iconst 2, 1) := by decide +kernel
theorem dX7_readNumbers_87 : decode cX7_readNumbers 87 = .ok (.goto 4, 3) := by decide +kernel
theorem dX7_readNumbers_90 : decode cX7_readNumbers 90 = .ok (.iconst 0, 1) := by decide +kernel
theorem dX7_readNumbers_91 : decode cX7_readNumbers 91 = .ok (.invokevirtual 245, 3) := by decide +kernel
theorem dX7_readNumbers_94 : decode cX7_readNumbers 94 = .ok (.iastore, 1) := by decide +kernel
theorem dX7_readNumbers_95 : decode cX7_readNumbers 95 = .ok (.aload_n 0, 1) := by decide +kernel
theorem dX7_readNumbers_96 : decode cX7_readNumbers 96 = .ok (.getfield 59, 3) := by decide +kernel
theorem dX7_readNumbers_99 : decode cX7_readNumbers 99 = .ok (.iload_n 2, 1) := by decide +kernel
theorem dX7_readNumbers_100 : decode cX7_readNumbers 100 = .ok (.iconst 3, 1) := by decide +kernel
theorem dX7_readNumbers_101 : decode cX7_readNumbers 101 = .ok (.iadd, 1) := by decide +kernel
theorem dX7_readNumbers_102 : decode cX7_readNumbers 102 = .ok (.aload_n 0, 1) := by decide +kernel
theorem dX7_readNumbers_103 : decode cX7_readNumbers 103 = .ok (.iload_n 1, 1) := by decide +kernel
theorem dX7_readNumbers_104 : decode cX7_readNumbers 104 = .ok (.bipush 97, 2) := by decide +kernel
theorem dX7_readNumbers_106 : decode cX7_readNumbers 106 = .ok (.if_icmp .ne 7, 3) := by decide +kernel
theorem dX7_readNumbers_109 : decode cX7_readNumbers 109 = .ok (.iconst 1, 1) := by decide +kernel
theorem dX7_readNumbers_110 : decode cX7_readNumbers 110 = .ok (.goto 4, 3) := by decide +kernel
theorem dX7_readNumbers_113 : decode cX7_readNumbers 113 = .ok (.iconst 0, 1) := by decide +kernel
theorem dX7_readNumbers_114 : decode cX7_readNumbers 114 = .ok (.invokevirtual 245, 3) := by decide +kernel
theorem dX7_readNumbers_117 : decode cX7_readNumbers 117 = .ok (.iastore, 1) := by decide +kernel
theorem dX7_readNumbers_118 : decode cX7_readNumbers 118 = .ok (.return_, 1) := by decide +kernel
theorem dX7_readStatement_0 : decode cX7_readStatement 0 = .ok (.aload_n 0, 1) := by decide +kernel
theorem dX7_readStatement_1 : decode cX7_readStatement 1 = .ok (.getfield 251, 3) := by decide +kernel
theorem dX7_readStatement_4 : decode cX7_readStatement 4 = .ok (.istore_n 1, 1) := by decide +kernel
theorem dX7_readStatement_5 : decode cX7_readStatement 5 = .ok (.aload_n 0, 1) := by decide +kernel
theorem dX7_readStatement_6 : decode cX7_readStatement 6 = .ok (.invokevirtual 231, 3) := by decide +kernel
theorem dX7_readStatement_9 : decode cX7_readStatement 9 = .ok (.istore_n 2, 1) := by decide +kernel
theorem dX7_readStatement_10 : decode cX7_readStatement 10 = .ok (.aload_n 0, 1) := by decide +kernel
theorem dX7_readStatement_11 : decode cX7_readStatement 11 = .ok (.getfield 53, 3) := by decide +kernel
theorem dX7_readStatement_14 : decode cX7_readStatement 14 = .ok (.iload_n 1, 1) := by decide +kernel
theorem dX7_readStatement_15 : decode cX7_readStatement 15 = .ok (.aload_n 0, 1) := by decide +kernel
theorem dX7_readStatement_16 : decode cX7_readStatement 16 = .ok (.getfield 225, 3) := by decide +kernel
theorem dX7_readStatement_19 : decode cX7_readStatement 19 = .ok (.iastore, 1) := by decide +kernel
theorem dX7_readStatement_20 : decode cX7_readStatement 20 = .ok (.aload_n 0, 1) := by decide +kernel
theorem dX7_readStatement_21 : decode cX7_readStatement 21 = .ok (.getfield 56, 3) := by decide +kernel
theorem dX7_readStatement_24 : decode cX7_readStatement 24 = .ok (.iload_n 1, 1) := by decide +kernel
theorem dX7_readStatement_25 : decode cX7_readStatement 25 = .ok (.iload_n 2, 1) := by decide +kernel
theorem dX7_readStatement_26 : decode cX7_readStatement 26 = .ok (.iastore, 1) := by decide +kernel
theorem dX7_readStatement_27 : decode cX7_readStatement 27 = .ok (.aload_n 0, 1) := by decide +kernel
theorem dX7_readStatement_28 : decode cX7_readStatement 28 = .ok (.aload_n 0, 1) := by decide +kernel
theorem dX7_readStatement_29 : decode cX7_readStatement 29 = .ok (.getfield 228, 3) := by decide +kernel
theorem dX7_readStatement_32 : decode cX7_readStatement 32 = .ok (.ifCond .ne 10, 3) := by decide +kernel
theorem dX7_readStatement_35 : decode cX7_readStatement 35 = .ok (.iload_n 2, 1) := by decide +kernel
theorem dX7_readStatement_36 : decode cX7_readStatement 36 = .ok (.invokestatic 254, 3) := by decide +kernel
theorem dX7_readStatement_39 : decode cX7_readStatement 39 = .ok (.ifCond .ne 7, 3) := by decide +kernel
theorem dX7_readStatement_42 : decode cX7_readStatement 42 = .ok (.iconst 1, 1) := by decide +kernel
theorem dX7_readStatement_43 : decode cX7_readStatement 43 = .ok (.goto 4, 3) := by decide +kernel
theorem dX7_readStatement_46 : decode cX7_readStatement 46 = .ok (.iconst 0, 1) := by decide +kernel
theorem dX7_readStatement_47 : decode cX7_readStatement 47 = .ok (.putfield 228, 3) := by decide +kernel
theorem dX7_readStatement_50 : decode cX7_readStatement 50 = .ok (.aload_n 0, 1) := by decide +kernel
theorem dX7_readStatement_51 : decode cX7_readStatement 51 = .ok (.dup, 1) := by decide +kernel
theorem dX7_readStatement_52 : decode cX7_readStatement 52 = .ok (.getfield 225, 3) := by decide +kernel
theorem dX7_readStatement_55 : decode cX7_readStatement 55 = .ok (.aload_n 0, 1) := by decide +kernel
theorem dX7_readStatement_56 : decode cX7_readStatement 56 = .ok (.getfield 228, 3) := by decide +kernel
theorem dX7_readStatement_59 : decode cX7_readStatement 59 = .ok (.ifCond .eq 7, 3) := by decide +kernel
theorem dX7_readStatement_62 : decode cX7_readStatement 62 = .ok (.iconst 0, 1) := by decide +kernel
theorem dX7_readStatement_63 : decode cX7_readStatement 63 = .ok (.goto 4, 3) := by decide +kernel
theorem dX7_readStatement_66 : decode cX7_readStatement 66 = .ok (.iconst 1, 1) := by decide +kernel
theorem dX7_readStatement_67 : decode cX7_readStatement 67 = .ok (.iadd, 1) := by decide +kernel
theorem dX7_readStatement_68 : decode cX7_readStatement 68 = .ok (.putfield 225, 3) := by decide +kernel
theorem dX7_readStatement_71 : decode cX7_readStatement 71 = .ok (.aload_n 0, 1) := by decide +kernel
theorem dX7_readStatement_72 : decode cX7_readStatement 72 = .ok (.getfield 228, 3) := by decide +kernel
theorem dX7_readStatement_75 : decode cX7_readStatement 75 = .ok (.ifCond .ne 11, 3) := by decide +kernel
theorem dX7_readStatement_78 : decode cX7_readStatement 78 = .ok (.aload_n 0, 1) := by decide +kernel
theorem dX7_readStatement_79 : decode cX7_readStatement 79 = .ok (.iload_n 2, 1) := by decide +kernel
theorem dX7_readStatement_80 : decode cX7_readStatement 80 = .ok (.iconst 4, 1) := by decide +kernel
theorem dX7_readStatement_81 : decode cX7_readStatement 81 = .ok (.iload_n 1, 1) := by decide +kernel
theorem dX7_readStatement_82 : decode cX7_readStatement 82 = .ok (.imul, 1) := by decide +kernel
theorem dX7_readStatement_83 : decode cX7_readStatement 83 = .ok (.invokevirtual 257, 3) := by decide +kernel
theorem dX7_readStatement_86 : decode cX7_readStatement 86 = .ok (.aload_n 0, 1) := by decide +kernel
theorem dX7_readStatement_87 : decode cX7_readStatement 87 = .ok (.aload_n 0, 1) := by decide +kernel
theorem dX7_readStatement_88 : decode cX7_readStatement 88 = .ok (.getfield 228, 3) := by decide +kernel
theorem dX7_readStatement_91 : decode cX7_readStatement 91 = .ok (.ifCond .ne 12, 3) := by decide +kernel
theorem dX7_readStatement_94 : decode cX7_readStatement 94 = .ok (.aload_n 0, 1) := by decide +kernel
theorem dX7_readStatement_95 : decode cX7_readStatement 95 = .ok (.invokevirtual 231, 3) := by decide +kernel
theorem dX7_readStatement_98 : decode cX7_readStatement 98 = .ok (.bipush 59, 2) := by decide +kernel
theorem dX7_readStatement_100 : decode cX7_readStatement 100 = .ok (.if_icmp .eq 7, 3) := by decide +kernel
theorem dX7_readStatement_103 : decode cX7_readStatement 103 = .ok (.iconst 1, 1) := by decide +kernel
theorem dX7_readStatement_104 : decode cX7_readStatement 104 = .ok (.goto 4, 3) := by decide +kernel
theorem dX7_readStatement_107 : decode cX7_readStatement 107 = .ok (.iconst 0, 1) := by decide +kernel
theorem dX7_readStatement_108 : decode cX7_readStatement 108 = .ok (.putfield 228, 3) := by decide +kernel
theorem dX7_readStatement_111 : decode cX7_readStatement 111 = .ok (.aload_n 0, 1) := by decide +kernel
theorem dX7_readStatement_112 : decode cX7_readStatement 112 = .ok (.dup, 1) := by decide +kernel
theorem dX7_readStatement_113 : decode cX7_readStatement 113 = .ok (.getfield 225, 3) := by decide +kernel
theorem dX7_readStatement_116 : decode cX7_readStatement 116 = .ok (.aload_n 0, 1) := by decide +kernel
theorem dX7_readStatement_117 : decode cX7_readStatement 117 = .ok (.getfield 228, 3) := by decide +kernel
theorem dX7_readStatement_120 : decode cX7_readStatement 120 = .ok (.ifCond .eq 7, 3) := by decide +kernel
theorem dX7_readStatement_123 : decode cX7_readStatement 123 = .ok (.iconst 0, 1) := by decide +kernel
theorem dX7_readStatement_124 : decode cX7_readStatement 124 = .ok (.goto 4, 3) := by decide +kernel
theorem dX7_readStatement_127 : decode cX7_readStatement 127 = .ok (.iconst 1, 1) := by decide +kernel
theorem dX7_readStatement_128 : decode cX7_readStatement 128 = .ok (.iadd, 1) := by decide +kernel
theorem dX7_readStatement_129 : decode cX7_readStatement 129 = .ok (.putfield 225, 3) := by decide +kernel
theorem dX7_readStatement_132 : decode cX7_readStatement 132 = .ok (.aload_n 0, 1) := by decide +kernel
theorem dX7_readStatement_133 : decode cX7_readStatement 133 = .ok (.dup, 1) := by decide +kernel
theorem dX7_readStatement_134 : decode cX7_readStatement 134 = .ok (.getfield 251, 3) := by decide +kernel
theorem dX7_readStatement_137 : decode cX7_readStatement 137 = .ok (.iconst 1, 1) := by decide +kernel
theorem dX7_readStatement_138 : decode cX7_readStatement 138 = .ok (.iadd, 1) := by decide +kernel
theorem dX7_readStatement_139 : decode cX7_readStatement 139 = .ok (.putfield 251, 3) := by decide +kernel
theorem dX7_readStatement_142 : decode cX7_readStatement 142 = .ok (.return_, 1) := by decide +kernel
theorem dX7_shutTold_0 : decode cX7_shutTold 0 = .ok (.iload_n 1, 1) := by decide +kernel
theorem dX7_shutTold_1 : decode cX7_shutTold 1 = .ok (.invokestatic 216, 3) := by decide +kernel
theorem dX7_shutTold_4 : decode cX7_shutTold 4 = .ok (.ifCond .eq 25, 3) := by decide +kernel
theorem dX7_shutTold_7 : decode cX7_shutTold 7 = .ok (.aload_n 0, 1) := by decide +kernel
theorem dX7_shutTold_8 : decode cX7_shutTold 8 = .ok (.getfield 13, 3) := by decide +kernel
theorem dX7_shutTold_11 : decode cX7_shutTold 11 = .ok (.iload_n 1, 1) := by decide +kernel
theorem dX7_shutTold_12 : decode cX7_shutTold 12 = .ok (.iaload, 1) := by decide +kernel
theorem dX7_shutTold_13 : decode cX7_shutTold 13 = .ok (.iconst 1, 1) := by decide +kernel
theorem dX7_shutTold_14 : decode cX7_shutTold 14 = .ok (.if_icmp .eq 11, 3) := by decide +kernel
theorem dX7_shutTold_17 : decode cX7_shutTold 17 = .ok (.aload_n 0, 1) := by decide +kernel
theorem dX7_shutTold_18 : decode cX7_shutTold 18 = .ok (.iload_n 1, 1) := by decide +kernel
theorem dX7_shutTold_19 : decode cX7_shutTold 19 = .ok (.invokevirtual 159, 3) := by decide +kernel
theorem dX7_shutTold_22 : decode cX7_shutTold 22 = .ok (.ifCond .eq 7, 3) := by decide +kernel
theorem dX7_shutTold_25 : decode cX7_shutTold 25 = .ok (.iconst 1, 1) := by decide +kernel
theorem dX7_shutTold_26 : decode cX7_shutTold 26 = .ok (.goto 4, 3) := by decide +kernel
theorem dX7_shutTold_29 : decode cX7_shutTold 29 = .ok (.iconst 0, 1) := by decide +kernel
theorem dX7_shutTold_30 : decode cX7_shutTold 30 = .ok (.istore_n 2, 1) := by decide +kernel
theorem dX7_shutTold_31 : decode cX7_shutTold 31 = .ok (.iload_n 2, 1) := by decide +kernel
theorem dX7_shutTold_32 : decode cX7_shutTold 32 = .ok (.ifCond .eq 17, 3) := by decide +kernel
theorem dX7_shutTold_35 : decode cX7_shutTold 35 = .ok (.aload_n 0, 1) := by decide +kernel
theorem dX7_shutTold_36 : decode cX7_shutTold 36 = .ok (.getfield 13, 3) := by decide +kernel
theorem dX7_shutTold_39 : decode cX7_shutTold 39 = .ok (.iload_n 1, 1) := by decide +kernel
theorem dX7_shutTold_40 : decode cX7_shutTold 40 = .ok (.iconst 1, 1) := by decide +kernel
theorem dX7_shutTold_41 : decode cX7_shutTold 41 = .ok (.aload_n 0, 1) := by decide +kernel
theorem dX7_shutTold_42 : decode cX7_shutTold 42 = .ok (.getfield 13, 3) := by decide +kernel
theorem dX7_shutTold_45 : decode cX7_shutTold 45 = .ok (.iload_n 1, 1) := by decide +kernel
theorem dX7_shutTold_46 : decode cX7_shutTold 46 = .ok (.iaload, 1) := by decide +kernel
theorem dX7_shutTold_47 : decode cX7_shutTold 47 = .ok (.isub, 1) := by decide +kernel
theorem dX7_shutTold_48 : decode cX7_shutTold 48 = .ok (.iastore, 1) := by decide +kernel
theorem dX7_shutTold_49 : decode cX7_shutTold 49 = .ok (.iload_n 2, 1) := by decide +kernel
theorem dX7_shutTold_50 : decode cX7_shutTold 50 = .ok (.ireturn, 1) := by decide +kernel
theorem dX7_warmTold_0 : decode cX7_warmTold 0 = .ok (.iload_n 1, 1) := by decide +kernel
theorem dX7_warmTold_1 : decode cX7_warmTold 1 = .ok (.invokestatic 216, 3) := by decide +kernel
theorem dX7_warmTold_4 : decode cX7_warmTold 4 = .ok (.istore_n 3, 1) := by decide +kernel
theorem dX7_warmTold_5 : decode cX7_warmTold 5 = .ok (.iload_n 3, 1) := by decide +kernel
theorem dX7_warmTold_6 : decode cX7_warmTold 6 = .ok (.ifCond .eq 11, 3) := by decide +kernel
theorem dX7_warmTold_9 : decode cX7_warmTold 9 = .ok (.aload_n 0, 1) := by decide +kernel
theorem dX7_warmTold_10 : decode cX7_warmTold 10 = .ok (.getfield 7, 3) := by decide +kernel
theorem dX7_warmTold_13 : decode cX7_warmTold 13 = .ok (.iload_n 1, 1) := by decide +kernel
theorem dX7_warmTold_14 : decode cX7_warmTold 14 = .ok (.iload_n 2, 1) := by decide +kernel
theorem dX7_warmTold_15 : decode cX7_warmTold 15 = .ok (.i2f, 1) := by decide +kernel
theorem dX7_warmTold_16 : decode cX7_warmTold 16 = .ok (.fastore, 1) := by decide +kernel
theorem dX7_warmTold_17 : decode cX7_warmTold 17 = .ok (.iload_n 3, 1) := by decide +kernel
theorem dX7_warmTold_18 : decode cX7_warmTold 18 = .ok (.ireturn, 1) := by decide +kernel
theorem dX7_hearthTold_0 : decode cX7_hearthTold 0 = .ok (.iload_n 2, 1) := by decide +kernel
theorem dX7_hearthTold_1 : decode cX7_hearthTold 1 = .ok (.bipush 6, 2) := by decide +kernel
theorem dX7_hearthTold_3 : decode cX7_hearthTold 3 = .ok (.if_icmp .gt 7, 3) := by decide +kernel
theorem dX7_hearthTold_6 : decode cX7_hearthTold 6 = .ok (.iconst 1, 1) := by decide +kernel
theorem dX7_hearthTold_7 : decode cX7_hearthTold 7 = .ok (.goto 4, 3) := by decide +kernel
theorem dX7_hearthTold_10 : decode cX7_hearthTold 10 = .ok (.iconst 0, 1) := by decide +kernel
theorem dX7_hearthTold_11 : decode cX7_hearthTold 11 = .ok (.istore_n 3, 1) := by decide +kernel
theorem dX7_hearthTold_12 : decode cX7_hearthTold 12 = .ok (.aload_n 0, 1) := by decide +kernel
theorem dX7_hearthTold_13 : decode cX7_hearthTold 13 = .ok (.iload_n 3, 1) := by decide +kernel
theorem dX7_hearthTold_14 : decode cX7_hearthTold 14 = .ok (.ifCond .eq 7, 3) := by decide +kernel
theorem dX7_hearthTold_17 : decode cX7_hearthTold 17 = .ok (.iload_n 2, 1) := by decide +kernel
theorem dX7_hearthTold_18 : decode cX7_hearthTold 18 = .ok (.goto 7, 3) := by decide +kernel
theorem dX7_hearthTold_21 : decode cX7_hearthTold 21 = .ok (.aload_n 0, 1) := by decide +kernel
theorem dX7_hearthTold_22 : decode cX7_hearthTold 22 = .ok (.getfield 199, 3) := by decide +kernel
theorem dX7_hearthTold_25 : decode cX7_hearthTold 25 = .ok (.putfield 199, 3) := by decide +kernel
theorem dX7_hearthTold_28 : decode cX7_hearthTold 28 = .ok (.iconst 0, 1) := by decide +kernel
theorem dX7_hearthTold_29 : decode cX7_hearthTold 29 = .ok (.istore 4, 2) := by decide +kernel
theorem dX7_hearthTold_31 : decode cX7_hearthTold 31 = .ok (.iload_n 3, 1) := by decide +kernel
theorem dX7_hearthTold_32 : decode cX7_hearthTold 32 = .ok (.ifCond .eq 47, 3) := by decide +kernel
theorem dX7_hearthTold_35 : decode cX7_hearthTold 35 = .ok (.iload 4, 2) := by decide +kernel
theorem dX7_hearthTold_37 : decode cX7_hearthTold 37 = .ok (.iload_n 2, 1) := by decide +kernel
theorem dX7_hearthTold_38 : decode cX7_hearthTold 38 = .ok (.if_icmp .ge 41, 3) := by decide +kernel
theorem dX7_hearthTold_41 : decode cX7_hearthTold 41 = .ok (.aload_n 0, 1) := by decide +kernel
theorem dX7_hearthTold_42 : decode cX7_hearthTold 42 = .ok (.getfield 41, 3) := by decide +kernel
theorem dX7_hearthTold_45 : decode cX7_hearthTold 45 = .ok (.iload 4, 2) := by decide +kernel
theorem dX7_hearthTold_47 : decode cX7_hearthTold 47 = .ok (.aload_n 0, 1) := by decide +kernel
theorem dX7_hearthTold_48 : decode cX7_hearthTold 48 = .ok (.getfield 62, 3) := by decide +kernel
theorem dX7_hearthTold_51 : decode cX7_hearthTold 51 = .ok (.iload_n 1, 1) := by decide +kernel
theorem dX7_hearthTold_52 : decode cX7_hearthTold 52 = .ok (.iload 4, 2) := by decide +kernel
theorem dX7_hearthTold_54 : decode cX7_hearthTold 54 = .ok (.iadd, 1) := by decide +kernel
theorem dX7_hearthTold_55 : decode cX7_hearthTold 55 = .ok (.iaload, 1) := by decide +kernel
theorem dX7_hearthTold_56 : decode cX7_hearthTold 56 = .ok (.iastore, 1) := by decide +kernel
theorem dX7_hearthTold_57 : decode cX7_hearthTold 57 = .ok (.aload_n 0, 1) := by decide +kernel
theorem dX7_hearthTold_58 : decode cX7_hearthTold 58 = .ok (.getfield 44, 3) := by decide +kernel
theorem dX7_hearthTold_61 : decode cX7_hearthTold 61 = .ok (.iload 4, 2) := by decide +kernel
theorem dX7_hearthTold_63 : decode cX7_hearthTold 63 = .ok (.aload_n 0, 1) := by decide +kernel
theorem dX7_hearthTold_64 : decode cX7_hearthTold 64 = .ok (.getfield 65, 3) := by decide +kernel
theorem dX7_hearthTold_67 : decode cX7_hearthTold 67 = .ok (.iload_n 1, 1) := by decide +kernel
theorem dX7_hearthTold_68 : decode cX7_hearthTold 68 = .ok (.iload 4, 2) := by decide +kernel
theorem dX7_hearthTold_70 : decode cX7_hearthTold 70 = .ok (.iadd, 1) := by decide +kernel
theorem dX7_hearthTold_71 : decode cX7_hearthTold 71 = .ok (.iaload, 1) := by decide +kernel
theorem dX7_hearthTold_72 : decode cX7_hearthTold 72 = .ok (.iastore, 1) := by decide +kernel
theorem dX7_hearthTold_73 : decode cX7_hearthTold 73 = .ok (.iinc 4 1, 3) := by decide +kernel
theorem dX7_hearthTold_76 : decode cX7_hearthTold 76 = .ok (.goto (-45), 3) := by decide +kernel
theorem dX7_hearthTold_79 : decode cX7_hearthTold 79 = .ok (.iload_n 3, 1) := by decide +kernel
theorem dX7_hearthTold_80 : decode cX7_hearthTold 80 = .ok (.ireturn, 1) := by decide +kernel
theorem dX7_turnsTold_0 : decode cX7_turnsTold 0 = .ok (.iload_n 1, 1) := by decide +kernel
theorem dX7_turnsTold_1 : decode cX7_turnsTold 1 = .ok (.i2l, 1) := by decide +kernel
theorem dX7_turnsTold_2 : decode cX7_turnsTold 2 = .ok (.lconst 1, 1) := by decide +kernel
theorem dX7_turnsTold_3 : decode cX7_turnsTold 3 = .ok (.ldc2_w 261, 3) := by decide +kernel
theorem dX7_turnsTold_6 : decode cX7_turnsTold 6 = .ok (.invokestatic 122, 3) := by decide +kernel
theorem dX7_turnsTold_9 : decode cX7_turnsTold 9 = .ok (.ifCond .eq 19, 3) := by decide +kernel
theorem dX7_turnsTold_12 : decode cX7_turnsTold 12 = .ok (.aload_n 0, 1) := by decide +kernel
theorem dX7_turnsTold_13 : decode cX7_turnsTold 13 = .ok (.getfield 148, 3) := by decide +kernel
theorem dX7_turnsTold_16 : decode cX7_turnsTold 16 = .ok (.iload_n 1, 1) := by decide +kernel
theorem dX7_turnsTold_17 : decode cX7_turnsTold 17 = .ok (.iadd, 1) := by decide +kernel
theorem dX7_turnsTold_18 : decode cX7_turnsTold 18 = .ok (.sipush 999, 3) := by decide +kernel
theorem dX7_turnsTold_21 : decode cX7_turnsTold 21 = .ok (.if_icmp .gt 7, 3) := by decide +kernel
theorem dX7_turnsTold_24 : decode cX7_turnsTold 24 = .ok (.iconst 1, 1) := by decide +kernel
theorem dX7_turnsTold_25 : decode cX7_turnsTold 25 = .ok (.goto 4, 3) := by decide +kernel
theorem dX7_turnsTold_28 : decode cX7_turnsTold 28 = .ok (.iconst 0, 1) := by decide +kernel
theorem dX7_turnsTold_29 : decode cX7_turnsTold 29 = .ok (.istore_n 2, 1) := by decide +kernel
theorem dX7_turnsTold_30 : decode cX7_turnsTold 30 = .ok (.iload_n 2, 1) := by decide +kernel
theorem dX7_turnsTold_31 : decode cX7_turnsTold 31 = .ok (.ifCond .eq 8, 3) := by decide +kernel
theorem dX7_turnsTold_34 : decode cX7_turnsTold 34 = .ok (.aload_n 0, 1) := by decide +kernel
theorem dX7_turnsTold_35 : decode cX7_turnsTold 35 = .ok (.iload_n 1, 1) := by decide +kernel
theorem dX7_turnsTold_36 : decode cX7_turnsTold 36 = .ok (.invokevirtual 263, 3) := by decide +kernel
theorem dX7_turnsTold_39 : decode cX7_turnsTold 39 = .ok (.iload_n 2, 1) := by decide +kernel
theorem dX7_turnsTold_40 : decode cX7_turnsTold 40 = .ok (.ireturn, 1) := by decide +kernel
theorem dX7_comesTold_0 : decode cX7_comesTold 0 = .ok (.aload_n 0, 1) := by decide +kernel
theorem dX7_comesTold_1 : decode cX7_comesTold 1 = .ok (.getfield 59, 3) := by decide +kernel
theorem dX7_comesTold_4 : decode cX7_comesTold 4 = .ok (.iconst 4, 1) := by decide +kernel
theorem dX7_comesTold_5 : decode cX7_comesTold 5 = .ok (.iload_n 1, 1) := by decide +kernel
theorem dX7_comesTold_6 : decode cX7_comesTold 6 = .ok (.imul, 1) := by decide +kernel
theorem dX7_comesTold_7 : decode cX7_comesTold 7 = .ok (.iaload, 1) := by decide +kernel
theorem dX7_comesTold_8 : decode cX7_comesTold 8 = .ok (.istore_n 2, 1) := by decide +kernel
theorem dX7_comesTold_9 : decode cX7_comesTold 9 = .ok (.aload_n 0, 1) := by decide +kernel
theorem dX7_comesTold_10 : decode cX7_comesTold 10 = .ok (.getfield 59, 3) := by decide +kernel
theorem dX7_comesTold_13 : decode cX7_comesTold 13 = .ok (.iconst 4, 1) := by decide +kernel
theorem dX7_comesTold_14 : decode cX7_comesTold 14 = .ok (.iload_n 1, 1) := by decide +kernel
theorem dX7_comesTold_15 : decode cX7_comesTold 15 = .ok (.imul, 1) := by decide +kernel
theorem dX7_comesTold_16 : decode cX7_comesTold 16 = .ok (.iconst 1, 1) := by decide +kernel
theorem dX7_comesTold_17 : decode cX7_comesTold 17 = .ok (.iadd, 1) := by decide +kernel
theorem dX7_comesTold_18 : decode cX7_comesTold 18 = .ok (.iaload, 1) := by decide +kernel
theorem dX7_comesTold_19 : decode cX7_comesTold 19 = .ok (.istore_n 3, 1) := by decide +kernel
theorem dX7_comesTold_20 : decode cX7_comesTold 20 = .ok (.aload_n 0, 1) := by decide +kernel
theorem dX7_comesTold_21 : decode cX7_comesTold 21 = .ok (.getfield 56, 3) := by decide +kernel
theorem dX7_comesTold_24 : decode cX7_comesTold 24 = .ok (.iload_n 1, 1) := by decide +kernel
theorem dX7_comesTold_25 : decode cX7_comesTold 25 = .ok (.iaload, 1) := by decide +kernel
theorem dX7_comesTold_26 : decode cX7_comesTold 26 = .ok (.lookupswitch 104 #[(97, 50), (100, 84), (108, 97), (112, 77), (119, 90)], 50) := by decide +kernel
theorem dX7_comesTold_76 : decode cX7_comesTold 76 = .ok (.aload_n 0, 1) := by decide +kernel
theorem dX7_comesTold_77 : decode cX7_comesTold 77 = .ok (.iload_n 2, 1) := by decide +kernel
theorem dX7_comesTold_78 : decode cX7_comesTold 78 = .ok (.iload_n 3, 1) := by decide +kernel
theorem dX7_comesTold_79 : decode cX7_comesTold 79 = .ok (.aload_n 0, 1) := by decide +kernel
theorem dX7_comesTold_80 : decode cX7_comesTold 80 = .ok (.getfield 59, 3) := by decide +kernel
theorem dX7_comesTold_83 : decode cX7_comesTold 83 = .ok (.iconst 4, 1) := by decide +kernel
theorem dX7_comesTold_84 : decode cX7_comesTold 84 = .ok (.iload_n 1, 1) := by decide +kernel
theorem dX7_comesTold_85 : decode cX7_comesTold 85 = .ok (.imul, 1) := by decide +kernel
theorem dX7_comesTold_86 : decode cX7_comesTold 86 = .ok (.iconst 2, 1) := by decide +kernel
theorem dX7_comesTold_87 : decode cX7_comesTold 87 = .ok (.iadd, 1) := by decide +kernel
theorem dX7_comesTold_88 : decode cX7_comesTold 88 = .ok (.iaload, 1) := by decide +kernel
theorem dX7_comesTold_89 : decode cX7_comesTold 89 = .ok (.aload_n 0, 1) := by decide +kernel
theorem dX7_comesTold_90 : decode cX7_comesTold 90 = .ok (.getfield 59, 3) := by decide +kernel
theorem dX7_comesTold_93 : decode cX7_comesTold 93 = .ok (.iconst 4, 1) := by decide +kernel
theorem dX7_comesTold_94 : decode cX7_comesTold 94 = .ok (.iload_n 1, 1) := by decide +kernel
theorem dX7_comesTold_95 : decode cX7_comesTold 95 = .ok (.imul, 1) := by decide +kernel
theorem dX7_comesTold_96 : decode cX7_comesTold 96 = .ok (.iconst 3, 1) := by decide +kernel
theorem dX7_comesTold_97 : decode cX7_comesTold 97 = .ok (.iadd, 1) := by decide +kernel
theorem dX7_comesTold_98 : decode cX7_comesTold 98 = .ok (.iaload, 1) := by decide +kernel
theorem dX7_comesTold_99 : decode cX7_comesTold 99 = .ok (.invokevirtual 266, 3) := by decide +kernel
theorem dX7_comesTold_102 : decode cX7_comesTold 102 = .ok (.ireturn, 1) := by decide +kernel
theorem dX7_comesTold_103 : decode cX7_comesTold 103 = .ok (.aload_n 0, 1) := by decide +kernel
theorem dX7_comesTold_104 : decode cX7_comesTold 104 = .ok (.iload_n 2, 1) := by decide +kernel
theorem dX7_comesTold_105 : decode cX7_comesTold 105 = .ok (.iload_n 3, 1) := by decide +kernel
theorem dX7_comesTold_106 : decode cX7_comesTold 106 = .ok (.invokevirtual 270, 3) := by decide +kernel
theorem dX7_comesTold_109 : decode cX7_comesTold 109 = .ok (.ireturn, 1) := by decide +kernel
theorem dX7_comesTold_110 : decode cX7_comesTold 110 = .ok (.aload_n 0, 1) := by decide +kernel
theorem dX7_comesTold_111 : decode cX7_comesTold 111 = .ok (.iload_n 2, 1) := by decide +kernel
theorem dX7_comesTold_112 : decode cX7_comesTold 112 = .ok (.invokevirtual 274, 3) := by decide +kernel
theorem dX7_comesTold_115 : decode cX7_comesTold 115 = .ok (.ireturn, 1) := by decide +kernel
theorem dX7_comesTold_116 : decode cX7_comesTold 116 = .ok (.aload_n 0, 1) := by decide +kernel
theorem dX7_comesTold_117 : decode cX7_comesTold 117 = .ok (.iload_n 2, 1) := by decide +kernel
theorem dX7_comesTold_118 : decode cX7_comesTold 118 = .ok (.iload_n 3, 1) := by decide +kernel
theorem dX7_comesTold_119 : decode cX7_comesTold 119 = .ok (.invokevirtual 277, 3) := by decide +kernel
theorem dX7_comesTold_122 : decode cX7_comesTold 122 = .ok (.ireturn, 1) := by decide +kernel
theorem dX7_comesTold_123 : decode cX7_comesTold 123 = .ok (.aload_n 0, 1) := by decide +kernel
theorem dX7_comesTold_124 : decode cX7_comesTold 124 = .ok (.iload_n 2, 1) := by decide +kernel
theorem dX7_comesTold_125 : decode cX7_comesTold 125 = .ok (.iload_n 3, 1) := by decide +kernel
theorem dX7_comesTold_126 : decode cX7_comesTold 126 = .ok (.invokevirtual 280, 3) := by decide +kernel
theorem dX7_comesTold_129 : decode cX7_comesTold 129 = .ok (.ireturn, 1) := by decide +kernel
theorem dX7_comesTold_130 : decode cX7_comesTold 130 = .ok (.aload_n 0, 1) := by decide +kernel
theorem dX7_comesTold_131 : decode cX7_comesTold 131 = .ok (.iload_n 2, 1) := by decide +kernel
theorem dX7_comesTold_132 : decode cX7_comesTold 132 = .ok (.invokevirtual 283, 3) := by decide +kernel
theorem dX7_comesTold_135 : decode cX7_comesTold 135 = .ok (.ireturn, 1) := by decide +kernel
theorem dX7_house_0 : decode cX7_house 0 = .ok (.aload_n 0, 1) := by decide +kernel
theorem dX7_house_1 : decode cX7_house 1 = .ok (.iconst 0, 1) := by decide +kernel
theorem dX7_house_2 : decode cX7_house 2 = .ok (.putfield 114, 3) := by decide +kernel
theorem dX7_house_5 : decode cX7_house 5 = .ok (.aload_n 0, 1) := by decide +kernel
theorem dX7_house_6 : decode cX7_house 6 = .ok (.iconst 0, 1) := by decide +kernel
theorem dX7_house_7 : decode cX7_house 7 = .ok (.putfield 225, 3) := by decide +kernel
theorem dX7_house_10 : decode cX7_house 10 = .ok (.aload_n 0, 1) := by decide +kernel
theorem dX7_house_11 : decode cX7_house 11 = .ok (.iconst 0, 1) := by decide +kernel
theorem dX7_house_12 : decode cX7_house 12 = .ok (.putfield 228, 3) := by decide +kernel
theorem dX7_house_15 : decode cX7_house 15 = .ok (.aload_n 0, 1) := by decide +kernel
theorem dX7_house_16 : decode cX7_house 16 = .ok (.iconst 0, 1) := by decide +kernel
theorem dX7_house_17 : decode cX7_house 17 = .ok (.putfield 251, 3) := by decide +kernel
theorem dX7_house_20 : decode cX7_house 20 = .ok (.aload_n 0, 1) := by decide +kernel
theorem dX7_house_21 : decode cX7_house 21 = .ok (.iconst 0, 1) := by decide +kernel
theorem dX7_house_22 : decode cX7_house 22 = .ok (.putfield 239, 3) := by decide +kernel
theorem dX7_house_25 : decode cX7_house 25 = .ok (.aload_n 0, 1) := by decide +kernel
theorem dX7_house_26 : decode cX7_house 26 = .ok (.getfield 228, 3) := by decide +kernel
theorem dX7_house_29 : decode cX7_house 29 = .ok (.ifCond .ne 28, 3) := by decide +kernel
theorem dX7_house_32 : decode cX7_house 32 = .ok (.aload_n 0, 1) := by decide +kernel
theorem dX7_house_33 : decode cX7_house 33 = .ok (.getfield 251, 3) := by decide +kernel
theorem dX7_house_36 : decode cX7_house 36 = .ok (.ifCond .eq 14, 3) := by decide +kernel
theorem dX7_house_39 : decode cX7_house 39 = .ok (.aload_n 0, 1) := by decide +kernel
theorem dX7_house_40 : decode cX7_house 40 = .ok (.getfield 225, 3) := by decide +kernel
theorem dX7_house_43 : decode cX7_house 43 = .ok (.aload_n 0, 1) := by decide +kernel
theorem dX7_house_44 : decode cX7_house 44 = .ok (.getfield 222, 3) := by decide +kernel
theorem dX7_house_47 : decode cX7_house 47 = .ok (.if_icmp .ge 10, 3) := by decide +kernel
theorem dX7_house_50 : decode cX7_house 50 = .ok (.aload_n 0, 1) := by decide +kernel
theorem dX7_house_51 : decode cX7_house 51 = .ok (.invokevirtual 286, 3) := by decide +kernel
theorem dX7_house_54 : decode cX7_house 54 = .ok (.goto (-29), 3) := by decide +kernel
theorem dX7_house_57 : decode cX7_house 57 = .ok (.aload_n 0, 1) := by decide +kernel
theorem dX7_house_58 : decode cX7_house 58 = .ok (.iconst 0, 1) := by decide +kernel
theorem dX7_house_59 : decode cX7_house 59 = .ok (.putfield 222, 3) := by decide +kernel
theorem dX7_house_62 : decode cX7_house 62 = .ok (.aload_n 0, 1) := by decide +kernel
theorem dX7_house_63 : decode cX7_house 63 = .ok (.getfield 228, 3) := by decide +kernel
theorem dX7_house_66 : decode cX7_house 66 = .ok (.ifCond .eq 12, 3) := by decide +kernel
theorem dX7_house_69 : decode cX7_house 69 = .ok (.sipush (-1000), 3) := by decide +kernel
theorem dX7_house_72 : decode cX7_house 72 = .ok (.aload_n 0, 1) := by decide +kernel
theorem dX7_house_73 : decode cX7_house 73 = .ok (.getfield 225, 3) := by decide +kernel
theorem dX7_house_76 : decode cX7_house 76 = .ok (.isub, 1) := by decide +kernel
theorem dX7_house_77 : decode cX7_house 77 = .ok (.ireturn, 1) := by decide +kernel
theorem dX7_house_78 : decode cX7_house 78 = .ok (.aload_n 0, 1) := by decide +kernel
theorem dX7_house_79 : decode cX7_house 79 = .ok (.invokevirtual 289, 3) := by decide +kernel
theorem dX7_house_82 : decode cX7_house 82 = .ok (.iconst 0, 1) := by decide +kernel
theorem dX7_house_83 : decode cX7_house 83 = .ok (.istore_n 1, 1) := by decide +kernel
theorem dX7_house_84 : decode cX7_house 84 = .ok (.iload_n 1, 1) := by decide +kernel
theorem dX7_house_85 : decode cX7_house 85 = .ok (.aload_n 0, 1) := by decide +kernel
theorem dX7_house_86 : decode cX7_house 86 = .ok (.getfield 251, 3) := by decide +kernel
theorem dX7_house_89 : decode cX7_house 89 = .ok (.if_icmp .ge 32, 3) := by decide +kernel
theorem dX7_house_92 : decode cX7_house 92 = .ok (.aload_n 0, 1) := by decide +kernel
theorem dX7_house_93 : decode cX7_house 93 = .ok (.iload_n 1, 1) := by decide +kernel
theorem dX7_house_94 : decode cX7_house 94 = .ok (.invokevirtual 292, 3) := by decide +kernel
theorem dX7_house_97 : decode cX7_house 97 = .ok (.ifCond .ne 18, 3) := by decide +kernel
theorem dX7_house_100 : decode cX7_house 100 = .ok (.aload_n 0, 1) := by decide +kernel
theorem dX7_house_101 : decode cX7_house 101 = .ok (.invokevirtual 295, 3) := by decide +kernel
theorem dX7_house_104 : decode cX7_house 104 = .ok (.sipush (-2000), 3) := by decide +kernel
theorem dX7_house_107 : decode cX7_house 107 = .ok (.aload_n 0, 1) := by decide +kernel
theorem dX7_house_108 : decode cX7_house 108 = .ok (.getfield 53, 3) := by decide +kernel
theorem dX7_house_111 : decode cX7_house 111 = .ok (.iload_n 1, 1) := by decide +kernel
theorem dX7_house_112 : decode cX7_house 112 = .ok (.iaload, 1) := by decide +kernel
theorem dX7_house_113 : decode cX7_house 113 = .ok (.isub, 1) := by decide +kernel
theorem dX7_house_114 : decode cX7_house 114 = .ok (.ireturn, 1) := by decide +kernel
theorem dX7_house_115 : decode cX7_house 115 = .ok (.iinc 1 1, 3) := by decide +kernel
theorem dX7_house_118 : decode cX7_house 118 = .ok (.goto (-34), 3) := by decide +kernel
theorem dX7_house_121 : decode cX7_house 121 = .ok (.aload_n 0, 1) := by decide +kernel
theorem dX7_house_122 : decode cX7_house 122 = .ok (.iconst 0, 1) := by decide +kernel
theorem dX7_house_123 : decode cX7_house 123 = .ok (.putfield 298, 3) := by decide +kernel
theorem dX7_house_126 : decode cX7_house 126 = .ok (.aload_n 0, 1) := by decide +kernel
theorem dX7_house_127 : decode cX7_house 127 = .ok (.getfield 251, 3) := by decide +kernel
theorem dX7_house_130 : decode cX7_house 130 = .ok (.ireturn, 1) := by decide +kernel
theorem dX7_carry_0 : decode cX7_carry 0 = .ok (.aload_n 0, 1) := by decide +kernel
theorem dX7_carry_1 : decode cX7_carry 1 = .ok (.getfield 301, 3) := by decide +kernel
theorem dX7_carry_4 : decode cX7_carry 4 = .ok (.ifCond .eq 13, 3) := by decide +kernel
theorem dX7_carry_7 : decode cX7_carry 7 = .ok (.aload_n 0, 1) := by decide +kernel
theorem dX7_carry_8 : decode cX7_carry 8 = .ok (.getfield 304, 3) := by decide +kernel
theorem dX7_carry_11 : decode cX7_carry 11 = .ok (.aload_n 0, 1) := by decide +kernel
theorem dX7_carry_12 : decode cX7_carry 12 = .ok (.getfield 307, 3) := by decide +kernel
theorem dX7_carry_15 : decode cX7_carry 15 = .ok (.iload_n 1, 1) := by decide +kernel
theorem dX7_carry_16 : decode cX7_carry 16 = .ok (.iastore, 1) := by decide +kernel
theorem dX7_carry_17 : decode cX7_carry 17 = .ok (.aload_n 0, 1) := by decide +kernel
theorem dX7_carry_18 : decode cX7_carry 18 = .ok (.dup, 1) := by decide +kernel
theorem dX7_carry_19 : decode cX7_carry 19 = .ok (.getfield 307, 3) := by decide +kernel
theorem dX7_carry_22 : decode cX7_carry 22 = .ok (.iconst 1, 1) := by decide +kernel
theorem dX7_carry_23 : decode cX7_carry 23 = .ok (.iadd, 1) := by decide +kernel
theorem dX7_carry_24 : decode cX7_carry 24 = .ok (.putfield 307, 3) := by decide +kernel
theorem dX7_carry_27 : decode cX7_carry 27 = .ok (.aload_n 0, 1) := by decide +kernel
theorem dX7_carry_28 : decode cX7_carry 28 = .ok (.getfield 304, 3) := by decide +kernel
theorem dX7_carry_31 : decode cX7_carry 31 = .ok (.aload_n 0, 1) := by decide +kernel
theorem dX7_carry_32 : decode cX7_carry 32 = .ok (.getfield 307, 3) := by decide +kernel
theorem dX7_carry_35 : decode cX7_carry 35 = .ok (.iconst 1, 1) := by decide +kernel
theorem dX7_carry_36 : decode cX7_carry 36 = .ok (.isub, 1) := by decide +kernel
theorem dX7_carry_37 : decode cX7_carry 37 = .ok (.iaload, 1) := by decide +kernel
theorem dX7_carry_38 : decode cX7_carry 38 = .ok (.ireturn, 1) := by decide +kernel
theorem dX7_carryAll_0 : decode cX7_carryAll 0 = .ok (.aload_n 0, 1) := by decide +kernel
theorem dX7_carryAll_1 : decode cX7_carryAll 1 = .ok (.aload_n 1, 1) := by decide +kernel
theorem dX7_carryAll_2 : decode cX7_carryAll 2 = .ok (.putfield 304, 3) := by decide +kernel
theorem dX7_carryAll_5 : decode cX7_carryAll 5 = .ok (.aload_n 0, 1) := by decide +kernel
theorem dX7_carryAll_6 : decode cX7_carryAll 6 = .ok (.iload_n 3, 1) := by decide +kernel
theorem dX7_carryAll_7 : decode cX7_carryAll 7 = .ok (.putfield 301, 3) := by decide +kernel
theorem dX7_carryAll_10 : decode cX7_carryAll 10 = .ok (.aload_n 0, 1) := by decide +kernel
theorem dX7_carryAll_11 : decode cX7_carryAll 11 = .ok (.iconst 0, 1) := by decide +kernel
theorem dX7_carryAll_12 : decode cX7_carryAll 12 = .ok (.putfield 307, 3) := by decide +kernel
theorem dX7_carryAll_15 : decode cX7_carryAll 15 = .ok (.aload_n 0, 1) := by decide +kernel
theorem dX7_carryAll_16 : decode cX7_carryAll 16 = .ok (.aload_n 0, 1) := by decide +kernel
theorem dX7_carryAll_17 : decode cX7_carryAll 17 = .ok (.aload_n 0, 1) := by decide +kernel
theorem dX7_carryAll_18 : decode cX7_carryAll 18 = .ok (.getfield 119, 3) := by decide +kernel
theorem dX7_carryAll_21 : decode cX7_carryAll 21 = .ok (.invokevirtual 310, 3) := by decide +kernel
theorem dX7_carryAll_24 : decode cX7_carryAll 24 = .ok (.putfield 119, 3) := by decide +kernel
theorem dX7_carryAll_27 : decode cX7_carryAll 27 = .ok (.aload_n 0, 1) := by decide +kernel
theorem dX7_carryAll_28 : decode cX7_carryAll 28 = .ok (.aload_n 0, 1) := by decide +kernel
theorem dX7_carryAll_29 : decode cX7_carryAll 29 = .ok (.aload_n 0, 1) := by decide +kernel
theorem dX7_carryAll_30 : decode cX7_carryAll 30 = .ok (.getfield 126, 3) := by decide +kernel
theorem dX7_carryAll_33 : decode cX7_carryAll 33 = .ok (.invokevirtual 310, 3) := by decide +kernel
theorem dX7_carryAll_36 : decode cX7_carryAll 36 = .ok (.putfield 126, 3) := by decide +kernel
theorem dX7_carryAll_39 : decode cX7_carryAll 39 = .ok (.aload_n 0, 1) := by decide +kernel
theorem dX7_carryAll_40 : decode cX7_carryAll 40 = .ok (.aload_n 0, 1) := by decide +kernel
theorem dX7_carryAll_41 : decode cX7_carryAll 41 = .ok (.aload_n 0, 1) := by decide +kernel
theorem dX7_carryAll_42 : decode cX7_carryAll 42 = .ok (.getfield 199, 3) := by decide +kernel
theorem dX7_carryAll_45 : decode cX7_carryAll 45 = .ok (.invokevirtual 310, 3) := by decide +kernel
theorem dX7_carryAll_48 : decode cX7_carryAll 48 = .ok (.putfield 199, 3) := by decide +kernel
theorem dX7_carryAll_51 : decode cX7_carryAll 51 = .ok (.aload_n 0, 1) := by decide +kernel
theorem dX7_carryAll_52 : decode cX7_carryAll 52 = .ok (.aload_n 0, 1) := by decide +kernel
theorem dX7_carryAll_53 : decode cX7_carryAll 53 = .ok (.aload_n 0, 1) := by decide +kernel
theorem dX7_carryAll_54 : decode cX7_carryAll 54 = .ok (.getfield 148, 3) := by decide +kernel
theorem dX7_carryAll_57 : decode cX7_carryAll 57 = .ok (.invokevirtual 310, 3) := by decide +kernel
theorem dX7_carryAll_60 : decode cX7_carryAll 60 = .ok (.putfield 148, 3) := by decide +kernel
theorem dX7_carryAll_63 : decode cX7_carryAll 63 = .ok (.aload_n 0, 1) := by decide +kernel
theorem dX7_carryAll_64 : decode cX7_carryAll 64 = .ok (.aload_n 0, 1) := by decide +kernel
theorem dX7_carryAll_65 : decode cX7_carryAll 65 = .ok (.aload_n 0, 1) := by decide +kernel
theorem dX7_carryAll_66 : decode cX7_carryAll 66 = .ok (.getfield 182, 3) := by decide +kernel
theorem dX7_carryAll_69 : decode cX7_carryAll 69 = .ok (.invokevirtual 310, 3) := by decide +kernel
theorem dX7_carryAll_72 : decode cX7_carryAll 72 = .ok (.putfield 182, 3) := by decide +kernel
theorem dX7_carryAll_75 : decode cX7_carryAll 75 = .ok (.iconst 0, 1) := by decide +kernel
theorem dX7_carryAll_76 : decode cX7_carryAll 76 = .ok (.istore 4, 2) := by decide +kernel
theorem dX7_carryAll_78 : decode cX7_carryAll 78 = .ok (.iload 4, 2) := by decide +kernel
theorem dX7_carryAll_80 : decode cX7_carryAll 80 = .ok (.iconst 5, 1) := by decide +kernel
theorem dX7_carryAll_81 : decode cX7_carryAll 81 = .ok (.if_icmp .ge 99, 3) := by decide +kernel
theorem dX7_carryAll_84 : decode cX7_carryAll 84 = .ok (.aload_n 0, 1) := by decide +kernel
theorem dX7_carryAll_85 : decode cX7_carryAll 85 = .ok (.getfield 17, 3) := by decide +kernel
theorem dX7_carryAll_88 : decode cX7_carryAll 88 = .ok (.iload 4, 2) := by decide +kernel
theorem dX7_carryAll_90 : decode cX7_carryAll 90 = .ok (.aload_n 0, 1) := by decide +kernel
theorem dX7_carryAll_91 : decode cX7_carryAll 91 = .ok (.aload_n 0, 1) := by decide +kernel
theorem dX7_carryAll_92 : decode cX7_carryAll 92 = .ok (.getfield 17, 3) := by decide +kernel
theorem dX7_carryAll_95 : decode cX7_carryAll 95 = .ok (.iload 4, 2) := by decide +kernel
theorem dX7_carryAll_97 : decode cX7_carryAll 97 = .ok (.iaload, 1) := by decide +kernel
theorem dX7_carryAll_98 : decode cX7_carryAll 98 = .ok (.invokevirtual 310, 3) := by decide +kernel
theorem dX7_carryAll_101 : decode cX7_carryAll 101 = .ok (.iastore, 1) := by decide +kernel
theorem dX7_carryAll_102 : decode cX7_carryAll 102 = .ok (.aload_n 0, 1) := by decide +kernel
theorem dX7_carryAll_103 : decode cX7_carryAll 103 = .ok (.getfield 20, 3) := by decide +kernel
theorem dX7_carryAll_106 : decode cX7_carryAll 106 = .ok (.iload 4, 2) := by decide +kernel
theorem dX7_carryAll_108 : decode cX7_carryAll 108 = .ok (.aload_n 0, 1) := by decide +kernel
theorem dX7_carryAll_109 : decode cX7_carryAll 109 = .ok (.aload_n 0, 1) := by decide +kernel
theorem dX7_carryAll_110 : decode cX7_carryAll 110 = .ok (.getfield 20, 3) := by decide +kernel
theorem dX7_carryAll_113 : decode cX7_carryAll 113 = .ok (.iload 4, 2) := by decide +kernel
theorem dX7_carryAll_115 : decode cX7_carryAll 115 = .ok (.iaload, 1) := by decide +kernel
theorem dX7_carryAll_116 : decode cX7_carryAll 116 = .ok (.invokevirtual 310, 3) := by decide +kernel
theorem dX7_carryAll_119 : decode cX7_carryAll 119 = .ok (.iastore, 1) := by decide +kernel
theorem dX7_carryAll_120 : decode cX7_carryAll 120 = .ok (.aload_n 0, 1) := by decide +kernel
theorem dX7_carryAll_121 : decode cX7_carryAll 121 = .ok (.getfield 23, 3) := by decide +kernel
theorem dX7_carryAll_124 : decode cX7_carryAll 124 = .ok (.iload 4, 2) := by decide +kernel
theorem dX7_carryAll_126 : decode cX7_carryAll 126 = .ok (.aload_n 0, 1) := by decide +kernel
theorem dX7_carryAll_127 : decode cX7_carryAll 127 = .ok (.aload_n 0, 1) := by decide +kernel
theorem dX7_carryAll_128 : decode cX7_carryAll 128 = .ok (.getfield 23, 3) := by decide +kernel
theorem dX7_carryAll_131 : decode cX7_carryAll 131 = .ok (.iload 4, 2) := by decide +kernel
theorem dX7_carryAll_133 : decode cX7_carryAll 133 = .ok (.iaload, 1) := by decide +kernel
theorem dX7_carryAll_134 : decode cX7_carryAll 134 = .ok (.invokevirtual 310, 3) := by decide +kernel
theorem dX7_carryAll_137 : decode cX7_carryAll 137 = .ok (.iastore, 1) := by decide +kernel
theorem dX7_carryAll_138 : decode cX7_carryAll 138 = .ok (.aload_n 0, 1) := by decide +kernel
theorem dX7_carryAll_139 : decode cX7_carryAll 139 = .ok (.getfield 26, 3) := by decide +kernel
theorem dX7_carryAll_142 : decode cX7_carryAll 142 = .ok (.iload 4, 2) := by decide +kernel
theorem dX7_carryAll_144 : decode cX7_carryAll 144 = .ok (.aload_n 0, 1) := by decide +kernel
theorem dX7_carryAll_145 : decode cX7_carryAll 145 = .ok (.aload_n 0, 1) := by decide +kernel
theorem dX7_carryAll_146 : decode cX7_carryAll 146 = .ok (.getfield 26, 3) := by decide +kernel
theorem dX7_carryAll_149 : decode cX7_carryAll 149 = .ok (.iload 4, 2) := by decide +kernel
theorem dX7_carryAll_151 : decode cX7_carryAll 151 = .ok (.iaload, 1) := by decide +kernel
theorem dX7_carryAll_152 : decode cX7_carryAll 152 = .ok (.invokevirtual 310, 3) := by decide +kernel
theorem dX7_carryAll_155 : decode cX7_carryAll 155 = .ok (.iastore, 1) := by decide +kernel
theorem dX7_carryAll_156 : decode cX7_carryAll 156 = .ok (.aload_n 0, 1) := by decide +kernel
theorem dX7_carryAll_157 : decode cX7_carryAll 157 = .ok (.getfield 29, 3) := by decide +kernel
theorem dX7_carryAll_160 : decode cX7_carryAll 160 = .ok (.iload 4, 2) := by decide +kernel
theorem dX7_carryAll_162 : decode cX7_carryAll 162 = .ok (.aload_n 0, 1) := by decide +kernel
theorem dX7_carryAll_163 : decode cX7_carryAll 163 = .ok (.aload_n 0, 1) := by decide +kernel
theorem dX7_carryAll_164 : decode cX7_carryAll 164 = .ok (.getfield 29, 3) := by decide +kernel
theorem dX7_carryAll_167 : decode cX7_carryAll 167 = .ok (.iload 4, 2) := by decide +kernel
theorem dX7_carryAll_169 : decode cX7_carryAll 169 = .ok (.iaload, 1) := by decide +kernel
theorem dX7_carryAll_170 : decode cX7_carryAll 170 = .ok (.invokevirtual 310, 3) := by decide +kernel
theorem dX7_carryAll_173 : decode cX7_carryAll 173 = .ok (.iastore, 1) := by decide +kernel
theorem dX7_carryAll_174 : decode cX7_carryAll 174 = .ok (.iinc 4 1, 3) := by decide +kernel
theorem dX7_carryAll_177 : decode cX7_carryAll 177 = .ok (.goto (-99), 3) := by decide +kernel
theorem dX7_carryAll_180 : decode cX7_carryAll 180 = .ok (.iconst 0, 1) := by decide +kernel
theorem dX7_carryAll_181 : decode cX7_carryAll 181 = .ok (.istore 4, 2) := by decide +kernel
theorem dX7_carryAll_183 : decode cX7_carryAll 183 = .ok (.iload 4, 2) := by decide +kernel
theorem dX7_carryAll_185 : decode cX7_carryAll 185 = .ok (.bipush 6, 2) := by decide +kernel
theorem dX7_carryAll_187 : decode cX7_carryAll 187 = .ok (.if_icmp .ge 99, 3) := by decide +kernel
theorem dX7_carryAll_190 : decode cX7_carryAll 190 = .ok (.aload_n 0, 1) := by decide +kernel
theorem dX7_carryAll_191 : decode cX7_carryAll 191 = .ok (.getfield 32, 3) := by decide +kernel
theorem dX7_carryAll_194 : decode cX7_carryAll 194 = .ok (.iload 4, 2) := by decide +kernel
theorem dX7_carryAll_196 : decode cX7_carryAll 196 = .ok (.aload_n 0, 1) := by decide +kernel
theorem dX7_carryAll_197 : decode cX7_carryAll 197 = .ok (.aload_n 0, 1) := by decide +kernel
theorem dX7_carryAll_198 : decode cX7_carryAll 198 = .ok (.getfield 32, 3) := by decide +kernel
theorem dX7_carryAll_201 : decode cX7_carryAll 201 = .ok (.iload 4, 2) := by decide +kernel
theorem dX7_carryAll_203 : decode cX7_carryAll 203 = .ok (.iaload, 1) := by decide +kernel
theorem dX7_carryAll_204 : decode cX7_carryAll 204 = .ok (.invokevirtual 310, 3) := by decide +kernel
theorem dX7_carryAll_207 : decode cX7_carryAll 207 = .ok (.iastore, 1) := by decide +kernel
theorem dX7_carryAll_208 : decode cX7_carryAll 208 = .ok (.aload_n 0, 1) := by decide +kernel
theorem dX7_carryAll_209 : decode cX7_carryAll 209 = .ok (.getfield 35, 3) := by decide +kernel
theorem dX7_carryAll_212 : decode cX7_carryAll 212 = .ok (.iload 4, 2) := by decide +kernel
theorem dX7_carryAll_214 : decode cX7_carryAll 214 = .ok (.aload_n 0, 1) := by decide +kernel
theorem dX7_carryAll_215 : decode cX7_carryAll 215 = .ok (.aload_n 0, 1) := by decide +kernel
theorem dX7_carryAll_216 : decode cX7_carryAll 216 = .ok (.getfield 35, 3) := by decide +kernel
theorem dX7_carryAll_219 : decode cX7_carryAll 219 = .ok (.iload 4, 2) := by decide +kernel
theorem dX7_carryAll_221 : decode cX7_carryAll 221 = .ok (.iaload, 1) := by decide +kernel
theorem dX7_carryAll_222 : decode cX7_carryAll 222 = .ok (.invokevirtual 310, 3) := by decide +kernel
theorem dX7_carryAll_225 : decode cX7_carryAll 225 = .ok (.iastore, 1) := by decide +kernel
theorem dX7_carryAll_226 : decode cX7_carryAll 226 = .ok (.aload_n 0, 1) := by decide +kernel
theorem dX7_carryAll_227 : decode cX7_carryAll 227 = .ok (.getfield 38, 3) := by decide +kernel
theorem dX7_carryAll_230 : decode cX7_carryAll 230 = .ok (.iload 4, 2) := by decide +kernel
theorem dX7_carryAll_232 : decode cX7_carryAll 232 = .ok (.aload_n 0, 1) := by decide +kernel
theorem dX7_carryAll_233 : decode cX7_carryAll 233 = .ok (.aload_n 0, 1) := by decide +kernel
theorem dX7_carryAll_234 : decode cX7_carryAll 234 = .ok (.getfield 38, 3) := by decide +kernel
theorem dX7_carryAll_237 : decode cX7_carryAll 237 = .ok (.iload 4, 2) := by decide +kernel
theorem dX7_carryAll_239 : decode cX7_carryAll 239 = .ok (.iaload, 1) := by decide +kernel
theorem dX7_carryAll_240 : decode cX7_carryAll 240 = .ok (.invokevirtual 310, 3) := by decide +kernel
theorem dX7_carryAll_243 : decode cX7_carryAll 243 = .ok (.iastore, 1) := by decide +kernel
theorem dX7_carryAll_244 : decode cX7_carryAll 244 = .ok (.aload_n 0, 1) := by decide +kernel
theorem dX7_carryAll_245 : decode cX7_carryAll 245 = .ok (.getfield 41, 3) := by decide +kernel
theorem dX7_carryAll_248 : decode cX7_carryAll 248 = .ok (.iload 4, 2) := by decide +kernel
theorem dX7_carryAll_250 : decode cX7_carryAll 250 = .ok (.aload_n 0, 1) := by decide +kernel
theorem dX7_carryAll_251 : decode cX7_carryAll 251 = .ok (.aload_n 0, 1) := by decide +kernel
theorem dX7_carryAll_252 : decode cX7_carryAll 252 = .ok (.getfield 41, 3) := by decide +kernel
theorem dX7_carryAll_255 : decode cX7_carryAll 255 = .ok (.iload 4, 2) := by decide +kernel
theorem dX7_carryAll_257 : decode cX7_carryAll 257 = .ok (.iaload, 1) := by decide +kernel
theorem dX7_carryAll_258 : decode cX7_carryAll 258 = .ok (.invokevirtual 310, 3) := by decide +kernel
theorem dX7_carryAll_261 : decode cX7_carryAll 261 = .ok (.iastore, 1) := by decide +kernel
theorem dX7_carryAll_262 : decode cX7_carryAll 262 = .ok (.aload_n 0, 1) := by decide +kernel
theorem dX7_carryAll_263 : decode cX7_carryAll 263 = .ok (.getfield 44, 3) := by decide +kernel
theorem dX7_carryAll_266 : decode cX7_carryAll 266 = .ok (.iload 4, 2) := by decide +kernel
theorem dX7_carryAll_268 : decode cX7_carryAll 268 = .ok (.aload_n 0, 1) := by decide +kernel
theorem dX7_carryAll_269 : decode cX7_carryAll 269 = .ok (.aload_n 0, 1) := by decide +kernel
theorem dX7_carryAll_270 : decode cX7_carryAll 270 = .ok (.getfield 44, 3) := by decide +kernel
theorem dX7_carryAll_273 : decode cX7_carryAll 273 = .ok (.iload 4, 2) := by decide +kernel
theorem dX7_carryAll_275 : decode cX7_carryAll 275 = .ok (.iaload, 1) := by decide +kernel
theorem dX7_carryAll_276 : decode cX7_carryAll 276 = .ok (.invokevirtual 310, 3) := by decide +kernel
theorem dX7_carryAll_279 : decode cX7_carryAll 279 = .ok (.iastore, 1) := by decide +kernel
theorem dX7_carryAll_280 : decode cX7_carryAll 280 = .ok (.iinc 4 1, 3) := by decide +kernel
theorem dX7_carryAll_283 : decode cX7_carryAll 283 = .ok (.goto (-100), 3) := by decide +kernel
theorem dX7_carryAll_286 : decode cX7_carryAll 286 = .ok (.iconst 0, 1) := by decide +kernel
theorem dX7_carryAll_287 : decode cX7_carryAll 287 = .ok (.istore 4, 2) := by decide +kernel
theorem dX7_carryAll_289 : decode cX7_carryAll 289 = .ok (.iload 4, 2) := by decide +kernel
theorem dX7_carryAll_291 : decode cX7_carryAll 291 = .ok (.bipush 36, 2) := by decide +kernel
theorem dX7_carryAll_293 : decode cX7_carryAll 293 = .ok (.if_icmp .ge 60, 3) := by decide +kernel
theorem dX7_carryAll_296 : decode cX7_carryAll 296 = .ok (.aload_n 0, 1) := by decide +kernel
theorem dX7_carryAll_297 : decode cX7_carryAll 297 = .ok (.getfield 13, 3) := by decide +kernel
theorem dX7_carryAll_300 : decode cX7_carryAll 300 = .ok (.iload 4, 2) := by decide +kernel
theorem dX7_carryAll_302 : decode cX7_carryAll 302 = .ok (.aload_n 0, 1) := by decide +kernel
theorem dX7_carryAll_303 : decode cX7_carryAll 303 = .ok (.aload_n 0, 1) := by decide +kernel
theorem dX7_carryAll_304 : decode cX7_carryAll 304 = .ok (.getfield 13, 3) := by decide +kernel
theorem dX7_carryAll_307 : decode cX7_carryAll 307 = .ok (.iload 4, 2) := by decide +kernel
theorem dX7_carryAll_309 : decode cX7_carryAll 309 = .ok (.iaload, 1) := by decide +kernel
theorem dX7_carryAll_310 : decode cX7_carryAll 310 = .ok (.invokevirtual 310, 3) := by decide +kernel
theorem dX7_carryAll_313 : decode cX7_carryAll 313 = .ok (.iastore, 1) := by decide +kernel
theorem dX7_carryAll_314 : decode cX7_carryAll 314 = .ok (.aload_n 2, 1) := by decide +kernel
theorem dX7_carryAll_315 : decode cX7_carryAll 315 = .ok (.iload 4, 2) := by decide +kernel
theorem dX7_carryAll_317 : decode cX7_carryAll 317 = .ok (.iload_n 3, 1) := by decide +kernel
theorem dX7_carryAll_318 : decode cX7_carryAll 318 = .ok (.ifCond .eq 13, 3) := by decide +kernel
theorem dX7_carryAll_321 : decode cX7_carryAll 321 = .ok (.aload_n 0, 1) := by decide +kernel
theorem dX7_carryAll_322 : decode cX7_carryAll 322 = .ok (.getfield 7, 3) := by decide +kernel
theorem dX7_carryAll_325 : decode cX7_carryAll 325 = .ok (.iload 4, 2) := by decide +kernel
theorem dX7_carryAll_327 : decode cX7_carryAll 327 = .ok (.faload, 1) := by decide +kernel
theorem dX7_carryAll_328 : decode cX7_carryAll 328 = .ok (.goto 7, 3) := by decide +kernel
theorem dX7_carryAll_331 : decode cX7_carryAll 331 = .ok (.aload_n 2, 1) := by decide +kernel
theorem dX7_carryAll_332 : decode cX7_carryAll 332 = .ok (.iload 4, 2) := by decide +kernel
theorem dX7_carryAll_334 : decode cX7_carryAll 334 = .ok (.faload, 1) := by decide +kernel
theorem dX7_carryAll_335 : decode cX7_carryAll 335 = .ok (.fastore, 1) := by decide +kernel
theorem dX7_carryAll_336 : decode cX7_carryAll 336 = .ok (.aload_n 0, 1) := by decide +kernel
theorem dX7_carryAll_337 : decode cX7_carryAll 337 = .ok (.getfield 7, 3) := by decide +kernel
theorem dX7_carryAll_340 : decode cX7_carryAll 340 = .ok (.iload 4, 2) := by decide +kernel
theorem dX7_carryAll_342 : decode cX7_carryAll 342 = .ok (.aload_n 2, 1) := by decide +kernel
theorem dX7_carryAll_343 : decode cX7_carryAll 343 = .ok (.iload 4, 2) := by decide +kernel
theorem dX7_carryAll_345 : decode cX7_carryAll 345 = .ok (.faload, 1) := by decide +kernel
theorem dX7_carryAll_346 : decode cX7_carryAll 346 = .ok (.fastore, 1) := by decide +kernel
theorem dX7_carryAll_347 : decode cX7_carryAll 347 = .ok (.iinc 4 1, 3) := by decide +kernel
theorem dX7_carryAll_350 : decode cX7_carryAll 350 = .ok (.goto (-61), 3) := by decide +kernel
theorem dX7_carryAll_353 : decode cX7_carryAll 353 = .ok (.return_, 1) := by decide +kernel
theorem dX7_think_0 : decode cX7_think 0 = .ok (.aload_n 0, 1) := by decide +kernel
theorem dX7_think_1 : decode cX7_think 1 = .ok (.aload_n 0, 1) := by decide +kernel
theorem dX7_think_2 : decode cX7_think 2 = .ok (.getfield 68, 3) := by decide +kernel
theorem dX7_think_5 : decode cX7_think 5 = .ok (.aload_n 0, 1) := by decide +kernel
theorem dX7_think_6 : decode cX7_think 6 = .ok (.getfield 71, 3) := by decide +kernel
theorem dX7_think_9 : decode cX7_think 9 = .ok (.iconst 1, 1) := by decide +kernel
theorem dX7_think_10 : decode cX7_think 10 = .ok (.invokevirtual 313, 3) := by decide +kernel
theorem dX7_think_13 : decode cX7_think 13 = .ok (.return_, 1) := by decide +kernel
theorem dX7_again_0 : decode cX7_again 0 = .ok (.aload_n 0, 1) := by decide +kernel
theorem dX7_again_1 : decode cX7_again 1 = .ok (.aload_n 0, 1) := by decide +kernel
theorem dX7_again_2 : decode cX7_again 2 = .ok (.getfield 68, 3) := by decide +kernel
theorem dX7_again_5 : decode cX7_again 5 = .ok (.aload_n 0, 1) := by decide +kernel
theorem dX7_again_6 : decode cX7_again 6 = .ok (.getfield 71, 3) := by decide +kernel
theorem dX7_again_9 : decode cX7_again 9 = .ok (.iconst 0, 1) := by decide +kernel
theorem dX7_again_10 : decode cX7_again 10 = .ok (.invokevirtual 313, 3) := by decide +kernel
theorem dX7_again_13 : decode cX7_again 13 = .ok (.return_, 1) := by decide +kernel
theorem dX7_image_0 : decode cX7_image 0 = .ok (.aload_n 0, 1) := by decide +kernel
theorem dX7_image_1 : decode cX7_image 1 = .ok (.iconst 0, 1) := by decide +kernel
theorem dX7_image_2 : decode cX7_image 2 = .ok (.putfield 114, 3) := by decide +kernel
theorem dX7_image_5 : decode cX7_image 5 = .ok (.aload_n 0, 1) := by decide +kernel
theorem dX7_image_6 : decode cX7_image 6 = .ok (.iconst 1, 1) := by decide +kernel
theorem dX7_image_7 : decode cX7_image 7 = .ok (.putfield 317, 3) := by decide +kernel
theorem dX7_image_10 : decode cX7_image 10 = .ok (.aload_n 0, 1) := by decide +kernel
theorem dX7_image_11 : decode cX7_image 11 = .ok (.aload_n 0, 1) := by decide +kernel
theorem dX7_image_12 : decode cX7_image 12 = .ok (.getfield 74, 3) := by decide +kernel
theorem dX7_image_15 : decode cX7_image 15 = .ok (.aload_n 0, 1) := by decide +kernel
theorem dX7_image_16 : decode cX7_image 16 = .ok (.getfield 77, 3) := by decide +kernel
theorem dX7_image_19 : decode cX7_image 19 = .ok (.iconst 1, 1) := by decide +kernel
theorem dX7_image_20 : decode cX7_image 20 = .ok (.invokevirtual 313, 3) := by decide +kernel
theorem dX7_image_23 : decode cX7_image 23 = .ok (.aload_n 0, 1) := by decide +kernel
theorem dX7_image_24 : decode cX7_image 24 = .ok (.getfield 148, 3) := by decide +kernel
theorem dX7_image_27 : decode cX7_image 27 = .ok (.ireturn, 1) := by decide +kernel
theorem dX7_restore_0 : decode cX7_restore 0 = .ok (.aload_n 0, 1) := by decide +kernel
theorem dX7_restore_1 : decode cX7_restore 1 = .ok (.iconst 0, 1) := by decide +kernel
theorem dX7_restore_2 : decode cX7_restore 2 = .ok (.putfield 114, 3) := by decide +kernel
theorem dX7_restore_5 : decode cX7_restore 5 = .ok (.aload_n 0, 1) := by decide +kernel
theorem dX7_restore_6 : decode cX7_restore 6 = .ok (.getfield 317, 3) := by decide +kernel
theorem dX7_restore_9 : decode cX7_restore 9 = .ok (.ifCond .ne 10, 3) := by decide +kernel
theorem dX7_restore_12 : decode cX7_restore 12 = .ok (.aload_n 0, 1) := by decide +kernel
theorem dX7_restore_13 : decode cX7_restore 13 = .ok (.bipush (-3), 2) := by decide +kernel
theorem dX7_restore_15 : decode cX7_restore 15 = .ok (.invokevirtual 219, 3) := by decide +kernel
theorem dX7_restore_18 : decode cX7_restore 18 = .ok (.ireturn, 1) := by decide +kernel
theorem dX7_restore_19 : decode cX7_restore 19 = .ok (.aload_n 0, 1) := by decide +kernel
theorem dX7_restore_20 : decode cX7_restore 20 = .ok (.aload_n 0, 1) := by decide +kernel
theorem dX7_restore_21 : decode cX7_restore 21 = .ok (.getfield 74, 3) := by decide +kernel
theorem dX7_restore_24 : decode cX7_restore 24 = .ok (.aload_n 0, 1) := by decide +kernel
theorem dX7_restore_25 : decode cX7_restore 25 = .ok (.getfield 77, 3) := by decide +kernel
theorem dX7_restore_28 : decode cX7_restore 28 = .ok (.iconst 0, 1) := by decide +kernel
theorem dX7_restore_29 : decode cX7_restore 29 = .ok (.invokevirtual 313, 3) := by decide +kernel
theorem dX7_restore_32 : decode cX7_restore 32 = .ok (.aload_n 0, 1) := by decide +kernel
theorem dX7_restore_33 : decode cX7_restore 33 = .ok (.iconst 0, 1) := by decide +kernel
theorem dX7_restore_34 : decode cX7_restore 34 = .ok (.putfield 298, 3) := by decide +kernel
theorem dX7_restore_37 : decode cX7_restore 37 = .ok (.aload_n 0, 1) := by decide +kernel
theorem dX7_restore_38 : decode cX7_restore 38 = .ok (.getfield 148, 3) := by decide +kernel
theorem dX7_restore_41 : decode cX7_restore 41 = .ok (.ireturn, 1) := by decide +kernel
theorem dX7_keepTurn_0 : decode cX7_keepTurn 0 = .ok (.aload_n 0, 1) := by decide +kernel
theorem dX7_keepTurn_1 : decode cX7_keepTurn 1 = .ok (.getfield 298, 3) := by decide +kernel
theorem dX7_keepTurn_4 : decode cX7_keepTurn 4 = .ok (.bipush 8, 2) := by decide +kernel
theorem dX7_keepTurn_6 : decode cX7_keepTurn 6 = .ok (.if_icmp .ne 75, 3) := by decide +kernel
theorem dX7_keepTurn_9 : decode cX7_keepTurn 9 = .ok (.bipush 96, 2) := by decide +kernel
theorem dX7_keepTurn_11 : decode cX7_keepTurn 11 = .ok (.istore_n 1, 1) := by decide +kernel
theorem dX7_keepTurn_12 : decode cX7_keepTurn 12 = .ok (.iload_n 1, 1) := by decide +kernel
theorem dX7_keepTurn_13 : decode cX7_keepTurn 13 = .ok (.sipush 768, 3) := by decide +kernel
theorem dX7_keepTurn_16 : decode cX7_keepTurn 16 = .ok (.if_icmp .ge 24, 3) := by decide +kernel
theorem dX7_keepTurn_19 : decode cX7_keepTurn 19 = .ok (.aload_n 0, 1) := by decide +kernel
theorem dX7_keepTurn_20 : decode cX7_keepTurn 20 = .ok (.getfield 80, 3) := by decide +kernel
theorem dX7_keepTurn_23 : decode cX7_keepTurn 23 = .ok (.iload_n 1, 1) := by decide +kernel
theorem dX7_keepTurn_24 : decode cX7_keepTurn 24 = .ok (.bipush 96, 2) := by decide +kernel
theorem dX7_keepTurn_26 : decode cX7_keepTurn 26 = .ok (.isub, 1) := by decide +kernel
theorem dX7_keepTurn_27 : decode cX7_keepTurn 27 = .ok (.aload_n 0, 1) := by decide +kernel
theorem dX7_keepTurn_28 : decode cX7_keepTurn 28 = .ok (.getfield 80, 3) := by decide +kernel
theorem dX7_keepTurn_31 : decode cX7_keepTurn 31 = .ok (.iload_n 1, 1) := by decide +kernel
theorem dX7_keepTurn_32 : decode cX7_keepTurn 32 = .ok (.iaload, 1) := by decide +kernel
theorem dX7_keepTurn_33 : decode cX7_keepTurn 33 = .ok (.iastore, 1) := by decide +kernel
theorem dX7_keepTurn_34 : decode cX7_keepTurn 34 = .ok (.iinc 1 1, 3) := by decide +kernel
theorem dX7_keepTurn_37 : decode cX7_keepTurn 37 = .ok (.goto (-25), 3) := by decide +kernel
theorem dX7_keepTurn_40 : decode cX7_keepTurn 40 = .ok (.bipush 36, 2) := by decide +kernel
theorem dX7_keepTurn_42 : decode cX7_keepTurn 42 = .ok (.istore_n 1, 1) := by decide +kernel
theorem dX7_keepTurn_43 : decode cX7_keepTurn 43 = .ok (.iload_n 1, 1) := by decide +kernel
theorem dX7_keepTurn_44 : decode cX7_keepTurn 44 = .ok (.sipush 288, 3) := by decide +kernel
theorem dX7_keepTurn_47 : decode cX7_keepTurn 47 = .ok (.if_icmp .ge 24, 3) := by decide +kernel
theorem dX7_keepTurn_50 : decode cX7_keepTurn 50 = .ok (.aload_n 0, 1) := by decide +kernel
theorem dX7_keepTurn_51 : decode cX7_keepTurn 51 = .ok (.getfield 83, 3) := by decide +kernel
theorem dX7_keepTurn_54 : decode cX7_keepTurn 54 = .ok (.iload_n 1, 1) := by decide +kernel
theorem dX7_keepTurn_55 : decode cX7_keepTurn 55 = .ok (.bipush 36, 2) := by decide +kernel
theorem dX7_keepTurn_57 : decode cX7_keepTurn 57 = .ok (.isub, 1) := by decide +kernel
theorem dX7_keepTurn_58 : decode cX7_keepTurn 58 = .ok (.aload_n 0, 1) := by decide +kernel
theorem dX7_keepTurn_59 : decode cX7_keepTurn 59 = .ok (.getfield 83, 3) := by decide +kernel
theorem dX7_keepTurn_62 : decode cX7_keepTurn 62 = .ok (.iload_n 1, 1) := by decide +kernel
theorem dX7_keepTurn_63 : decode cX7_keepTurn 63 = .ok (.faload, 1) := by decide +kernel
theorem dX7_keepTurn_64 : decode cX7_keepTurn 64 = .ok (.fastore, 1) := by decide +kernel
theorem dX7_keepTurn_65 : decode cX7_keepTurn 65 = .ok (.iinc 1 1, 3) := by decide +kernel
theorem dX7_keepTurn_68 : decode cX7_keepTurn 68 = .ok (.goto (-25), 3) := by decide +kernel
theorem dX7_keepTurn_71 : decode cX7_keepTurn 71 = .ok (.aload_n 0, 1) := by decide +kernel
theorem dX7_keepTurn_72 : decode cX7_keepTurn 72 = .ok (.dup, 1) := by decide +kernel
theorem dX7_keepTurn_73 : decode cX7_keepTurn 73 = .ok (.getfield 298, 3) := by decide +kernel
theorem dX7_keepTurn_76 : decode cX7_keepTurn 76 = .ok (.iconst 1, 1) := by decide +kernel
theorem dX7_keepTurn_77 : decode cX7_keepTurn 77 = .ok (.isub, 1) := by decide +kernel
theorem dX7_keepTurn_78 : decode cX7_keepTurn 78 = .ok (.putfield 298, 3) := by decide +kernel
theorem dX7_keepTurn_81 : decode cX7_keepTurn 81 = .ok (.aload_n 0, 1) := by decide +kernel
theorem dX7_keepTurn_82 : decode cX7_keepTurn 82 = .ok (.aload_n 0, 1) := by decide +kernel
theorem dX7_keepTurn_83 : decode cX7_keepTurn 83 = .ok (.getfield 86, 3) := by decide +kernel
theorem dX7_keepTurn_86 : decode cX7_keepTurn 86 = .ok (.aload_n 0, 1) := by decide +kernel
theorem dX7_keepTurn_87 : decode cX7_keepTurn 87 = .ok (.getfield 89, 3) := by decide +kernel
theorem dX7_keepTurn_90 : decode cX7_keepTurn 90 = .ok (.iconst 1, 1) := by decide +kernel
theorem dX7_keepTurn_91 : decode cX7_keepTurn 91 = .ok (.invokevirtual 313, 3) := by decide +kernel
theorem dX7_keepTurn_94 : decode cX7_keepTurn 94 = .ok (.iconst 0, 1) := by decide +kernel
theorem dX7_keepTurn_95 : decode cX7_keepTurn 95 = .ok (.istore_n 1, 1) := by decide +kernel
theorem dX7_keepTurn_96 : decode cX7_keepTurn 96 = .ok (.iload_n 1, 1) := by decide +kernel
theorem dX7_keepTurn_97 : decode cX7_keepTurn 97 = .ok (.bipush 96, 2) := by decide +kernel
theorem dX7_keepTurn_99 : decode cX7_keepTurn 99 = .ok (.if_icmp .ge 29, 3) := by decide +kernel
theorem dX7_keepTurn_102 : decode cX7_keepTurn 102 = .ok (.aload_n 0, 1) := by decide +kernel
theorem dX7_keepTurn_103 : decode cX7_keepTurn 103 = .ok (.getfield 80, 3) := by decide +kernel
theorem dX7_keepTurn_106 : decode cX7_keepTurn 106 = .ok (.bipush 96, 2) := by decide +kernel
theorem dX7_keepTurn_108 : decode cX7_keepTurn 108 = .ok (.aload_n 0, 1) := by decide +kernel
theorem dX7_keepTurn_109 : decode cX7_keepTurn 109 = .ok (.getfield 298, 3) := by decide +kernel
theorem dX7_keepTurn_112 : decode cX7_keepTurn 112 = .ok (.imul, 1) := by decide +kernel
theorem dX7_keepTurn_113 : decode cX7_keepTurn 113 = .ok (.iload_n 1, 1) := by decide +kernel
theorem dX7_keepTurn_114 : decode cX7_keepTurn 114 = .ok (.iadd, 1) := by decide +kernel
theorem dX7_keepTurn_115 : decode cX7_keepTurn 115 = .ok (.aload_n 0, 1) := by decide +kernel
theorem dX7_keepTurn_116 : decode cX7_keepTurn 116 = .ok (.getfield 86, 3) := by decide +kernel
theorem dX7_keepTurn_119 : decode cX7_keepTurn 119 = .ok (.iload_n 1, 1) := by decide +kernel
theorem dX7_keepTurn_120 : decode cX7_keepTurn 120 = .ok (.iaload, 1) := by decide +kernel
theorem dX7_keepTurn_121 : decode cX7_keepTurn 121 = .ok (.iastore, 1) := by decide +kernel
theorem dX7_keepTurn_122 : decode cX7_keepTurn 122 = .ok (.iinc 1 1, 3) := by decide +kernel
theorem dX7_keepTurn_125 : decode cX7_keepTurn 125 = .ok (.goto (-29), 3) := by decide +kernel
theorem dX7_keepTurn_128 : decode cX7_keepTurn 128 = .ok (.iconst 0, 1) := by decide +kernel
theorem dX7_keepTurn_129 : decode cX7_keepTurn 129 = .ok (.istore_n 1, 1) := by decide +kernel
theorem dX7_keepTurn_130 : decode cX7_keepTurn 130 = .ok (.iload_n 1, 1) := by decide +kernel
theorem dX7_keepTurn_131 : decode cX7_keepTurn 131 = .ok (.bipush 36, 2) := by decide +kernel
theorem dX7_keepTurn_133 : decode cX7_keepTurn 133 = .ok (.if_icmp .ge 29, 3) := by decide +kernel
theorem dX7_keepTurn_136 : decode cX7_keepTurn 136 = .ok (.aload_n 0, 1) := by decide +kernel
theorem dX7_keepTurn_137 : decode cX7_keepTurn 137 = .ok (.getfield 83, 3) := by decide +kernel
theorem dX7_keepTurn_140 : decode cX7_keepTurn 140 = .ok (.bipush 36, 2) := by decide +kernel
theorem dX7_keepTurn_142 : decode cX7_keepTurn 142 = .ok (.aload_n 0, 1) := by decide +kernel
theorem dX7_keepTurn_143 : decode cX7_keepTurn 143 = .ok (.getfield 298, 3) := by decide +kernel
theorem dX7_keepTurn_146 : decode cX7_keepTurn 146 = .ok (.imul, 1) := by decide +kernel
theorem dX7_keepTurn_147 : decode cX7_keepTurn 147 = .ok (.iload_n 1, 1) := by decide +kernel
theorem dX7_keepTurn_148 : decode cX7_keepTurn 148 = .ok (.iadd, 1) := by decide +kernel
theorem dX7_keepTurn_149 : decode cX7_keepTurn 149 = .ok (.aload_n 0, 1) := by decide +kernel
theorem dX7_keepTurn_150 : decode cX7_keepTurn 150 = .ok (.getfield 89, 3) := by decide +kernel
theorem dX7_keepTurn_153 : decode cX7_keepTurn 153 = .ok (.iload_n 1, 1) := by decide +kernel
theorem dX7_keepTurn_154 : decode cX7_keepTurn 154 = .ok (.faload, 1) := by decide +kernel
theorem dX7_keepTurn_155 : decode cX7_keepTurn 155 = .ok (.fastore, 1) := by decide +kernel
theorem dX7_keepTurn_156 : decode cX7_keepTurn 156 = .ok (.iinc 1 1, 3) := by decide +kernel
theorem dX7_keepTurn_159 : decode cX7_keepTurn 159 = .ok (.goto (-29), 3) := by decide +kernel
theorem dX7_keepTurn_162 : decode cX7_keepTurn 162 = .ok (.aload_n 0, 1) := by decide +kernel
theorem dX7_keepTurn_163 : decode cX7_keepTurn 163 = .ok (.dup, 1) := by decide +kernel
theorem dX7_keepTurn_164 : decode cX7_keepTurn 164 = .ok (.getfield 298, 3) := by decide +kernel
theorem dX7_keepTurn_167 : decode cX7_keepTurn 167 = .ok (.iconst 1, 1) := by decide +kernel
theorem dX7_keepTurn_168 : decode cX7_keepTurn 168 = .ok (.iadd, 1) := by decide +kernel
theorem dX7_keepTurn_169 : decode cX7_keepTurn 169 = .ok (.putfield 298, 3) := by decide +kernel
theorem dX7_keepTurn_172 : decode cX7_keepTurn 172 = .ok (.return_, 1) := by decide +kernel
theorem dX7_back_0 : decode cX7_back 0 = .ok (.aload_n 0, 1) := by decide +kernel
theorem dX7_back_1 : decode cX7_back 1 = .ok (.iconst 0, 1) := by decide +kernel
theorem dX7_back_2 : decode cX7_back 2 = .ok (.putfield 114, 3) := by decide +kernel
theorem dX7_back_5 : decode cX7_back 5 = .ok (.aload_n 0, 1) := by decide +kernel
theorem dX7_back_6 : decode cX7_back 6 = .ok (.getfield 298, 3) := by decide +kernel
theorem dX7_back_9 : decode cX7_back 9 = .ok (.ifCond .ne 10, 3) := by decide +kernel
theorem dX7_back_12 : decode cX7_back 12 = .ok (.aload_n 0, 1) := by decide +kernel
theorem dX7_back_13 : decode cX7_back 13 = .ok (.bipush (-3), 2) := by decide +kernel
theorem dX7_back_15 : decode cX7_back 15 = .ok (.invokevirtual 219, 3) := by decide +kernel
theorem dX7_back_18 : decode cX7_back 18 = .ok (.ireturn, 1) := by decide +kernel
theorem dX7_back_19 : decode cX7_back 19 = .ok (.aload_n 0, 1) := by decide +kernel
theorem dX7_back_20 : decode cX7_back 20 = .ok (.dup, 1) := by decide +kernel
theorem dX7_back_21 : decode cX7_back 21 = .ok (.getfield 298, 3) := by decide +kernel
theorem dX7_back_24 : decode cX7_back 24 = .ok (.iconst 1, 1) := by decide +kernel
theorem dX7_back_25 : decode cX7_back 25 = .ok (.isub, 1) := by decide +kernel
theorem dX7_back_26 : decode cX7_back 26 = .ok (.putfield 298, 3) := by decide +kernel
theorem dX7_back_29 : decode cX7_back 29 = .ok (.iconst 0, 1) := by decide +kernel
theorem dX7_back_30 : decode cX7_back 30 = .ok (.istore_n 1, 1) := by decide +kernel
theorem dX7_back_31 : decode cX7_back 31 = .ok (.iload_n 1, 1) := by decide +kernel
theorem dX7_back_32 : decode cX7_back 32 = .ok (.bipush 96, 2) := by decide +kernel
theorem dX7_back_34 : decode cX7_back 34 = .ok (.if_icmp .ge 29, 3) := by decide +kernel
theorem dX7_back_37 : decode cX7_back 37 = .ok (.aload_n 0, 1) := by decide +kernel
theorem dX7_back_38 : decode cX7_back 38 = .ok (.getfield 86, 3) := by decide +kernel
theorem dX7_back_41 : decode cX7_back 41 = .ok (.iload_n 1, 1) := by decide +kernel
theorem dX7_back_42 : decode cX7_back 42 = .ok (.aload_n 0, 1) := by decide +kernel
theorem dX7_back_43 : decode cX7_back 43 = .ok (.getfield 80, 3) := by decide +kernel
theorem dX7_back_46 : decode cX7_back 46 = .ok (.bipush 96, 2) := by decide +kernel
theorem dX7_back_48 : decode cX7_back 48 = .ok (.aload_n 0, 1) := by decide +kernel
theorem dX7_back_49 : decode cX7_back 49 = .ok (.getfield 298, 3) := by decide +kernel
theorem dX7_back_52 : decode cX7_back 52 = .ok (.imul, 1) := by decide +kernel
theorem dX7_back_53 : decode cX7_back 53 = .ok (.iload_n 1, 1) := by decide +kernel
theorem dX7_back_54 : decode cX7_back 54 = .ok (.iadd, 1) := by decide +kernel
theorem dX7_back_55 : decode cX7_back 55 = .ok (.iaload, 1) := by decide +kernel
theorem dX7_back_56 : decode cX7_back 56 = .ok (.iastore, 1) := by decide +kernel
theorem dX7_back_57 : decode cX7_back 57 = .ok (.iinc 1 1, 3) := by decide +kernel
theorem dX7_back_60 : decode cX7_back 60 = .ok (.goto (-29), 3) := by decide +kernel
theorem dX7_back_63 : decode cX7_back 63 = .ok (.iconst 0, 1) := by decide +kernel
theorem dX7_back_64 : decode cX7_back 64 = .ok (.istore_n 1, 1) := by decide +kernel
theorem dX7_back_65 : decode cX7_back 65 = .ok (.iload_n 1, 1) := by decide +kernel
theorem dX7_back_66 : decode cX7_back 66 = .ok (.bipush 36, 2) := by decide +kernel
theorem dX7_back_68 : decode cX7_back 68 = .ok (.if_icmp .ge 29, 3) := by decide +kernel
theorem dX7_back_71 : decode cX7_back 71 = .ok (.aload_n 0, 1) := by decide +kernel
theorem dX7_back_72 : decode cX7_back 72 = .ok (.getfield 89, 3) := by decide +kernel
theorem dX7_back_75 : decode cX7_back 75 = .ok (.iload_n 1, 1) := by decide +kernel
theorem dX7_back_76 : decode cX7_back 76 = .ok (.aload_n 0, 1) := by decide +kernel
theorem dX7_back_77 : decode cX7_back 77 = .ok (.getfield 83, 3) := by decide +kernel
theorem dX7_back_80 : decode cX7_back 80 = .ok (.bipush 36, 2) := by decide +kernel
theorem dX7_back_82 : decode cX7_back 82 = .ok (.aload_n 0, 1) := by decide +kernel
theorem dX7_back_83 : decode cX7_back 83 = .ok (.getfield 298, 3) := by decide +kernel
theorem dX7_back_86 : decode cX7_back 86 = .ok (.imul, 1) := by decide +kernel
theorem dX7_back_87 : decode cX7_back 87 = .ok (.iload_n 1, 1) := by decide +kernel
theorem dX7_back_88 : decode cX7_back 88 = .ok (.iadd, 1) := by decide +kernel
theorem dX7_back_89 : decode cX7_back 89 = .ok (.faload, 1) := by decide +kernel
theorem dX7_back_90 : decode cX7_back 90 = .ok (.fastore, 1) := by decide +kernel
theorem dX7_back_91 : decode cX7_back 91 = .ok (.iinc 1 1, 3) := by decide +kernel
theorem dX7_back_94 : decode cX7_back 94 = .ok (.goto (-29), 3) := by decide +kernel
theorem dX7_back_97 : decode cX7_back 97 = .ok (.aload_n 0, 1) := by decide +kernel
theorem dX7_back_98 : decode cX7_back 98 = .ok (.aload_n 0, 1) := by decide +kernel
theorem dX7_back_99 : decode cX7_back 99 = .ok (.getfield 86, 3) := by decide +kernel
theorem dX7_back_102 : decode cX7_back 102 = .ok (.aload_n 0, 1) := by decide +kernel
theorem dX7_back_103 : decode cX7_back 103 = .ok (.getfield 89, 3) := by decide +kernel
theorem dX7_back_106 : decode cX7_back 106 = .ok (.iconst 0, 1) := by decide +kernel
theorem dX7_back_107 : decode cX7_back 107 = .ok (.invokevirtual 313, 3) := by decide +kernel
theorem dX7_back_110 : decode cX7_back 110 = .ok (.aload_n 0, 1) := by decide +kernel
theorem dX7_back_111 : decode cX7_back 111 = .ok (.getfield 298, 3) := by decide +kernel
theorem dX7_back_114 : decode cX7_back 114 = .ok (.ireturn, 1) := by decide +kernel
theorem dX7_air_0 : decode cX7_air 0 = .ok (.aload_n 0, 1) := by decide +kernel
theorem dX7_air_1 : decode cX7_air 1 = .ok (.iconst 0, 1) := by decide +kernel
theorem dX7_air_2 : decode cX7_air 2 = .ok (.putfield 114, 3) := by decide +kernel
theorem dX7_air_5 : decode cX7_air 5 = .ok (.aload_n 0, 1) := by decide +kernel
theorem dX7_air_6 : decode cX7_air 6 = .ok (.iload_n 1, 1) := by decide +kernel
theorem dX7_air_7 : decode cX7_air 7 = .ok (.invokevirtual 320, 3) := by decide +kernel
theorem dX7_air_10 : decode cX7_air 10 = .ok (.ifCond .eq 15, 3) := by decide +kernel
theorem dX7_air_13 : decode cX7_air 13 = .ok (.iload_n 2, 1) := by decide +kernel
theorem dX7_air_14 : decode cX7_air 14 = .ok (.i2l, 1) := by decide +kernel
theorem dX7_air_15 : decode cX7_air 15 = .ok (.lconst 0, 1) := by decide +kernel
theorem dX7_air_16 : decode cX7_air 16 = .ok (.ldc2_w 163, 3) := by decide +kernel
theorem dX7_air_19 : decode cX7_air 19 = .ok (.invokestatic 122, 3) := by decide +kernel
theorem dX7_air_22 : decode cX7_air 22 = .ok (.ifCond .ne 22, 3) := by decide +kernel
theorem dX7_air_25 : decode cX7_air 25 = .ok (.aload_n 0, 1) := by decide +kernel
theorem dX7_air_26 : decode cX7_air 26 = .ok (.aload_n 0, 1) := by decide +kernel
theorem dX7_air_27 : decode cX7_air 27 = .ok (.iload_n 1, 1) := by decide +kernel
