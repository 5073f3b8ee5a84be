theorem dX7_carryAll_279 : decode cX7_carryAll 279 = .ok (.iastore, 1) := by decide +kernel
theorem dX7_carryAll_280 : decode cX7_carryAll 280 = .ok (.iinc 4 1, 3) := by decide +kernel
theorem dX7_carryAll_283 : decode cX7_carryAll 283 = .ok (.goto (-100), 3) := by decide +kernel
theorem dX7_carryAll_286 : decode cX7_carryAll 286 = .ok (.iconst 0, 1) := by decide +kernel
theorem dX7_carryAll_287 : decode cX7_carryAll 287 = .ok (.istore 4, 2) := by decide +kernel
theorem dX7_carryAll_289 : decode cX7_carryAll 289 = .ok (.iload 4, 2) := by decide +kernel
theorem dX7_carryAll_291 : decode cX7_carryAll 291 = .ok (.bipush 36, 2) := by decide +kernel
theorem dX7_carryAll_293 : decode cX7_carryAll 293 = .ok (.if_icmp .ge 60, 3) := by decide +kernel
theorem dX7_carryAll_296 : decode cX7_carryAll 296 = .ok (.aload_n 0, 1) := by decide +kernel
theorem dX7_carryAll_297 : decode cX7_carryAll 297 = .ok (.getfield 13, 3) := by decide +kernel
theorem dX7_carryAll_300 : decode cX7_carryAll 300 = .ok (.iload 4, 2) := by decide +kernel
theorem dX7_carryAll_302 : decode cX7_carryAll 302 = .ok (.aload_n 0, 1) := by decide +kernel
theorem dX7_carryAll_303 : decode cX7_carryAll 303 = .ok (.aload_n 0, 1) := by decide +kernel
theorem dX7_carryAll_304 : decode cX7_carryAll 304 = .ok (.getfield 13, 3) := by decide +kernel
theorem dX7_carryAll_307 : decode cX7_carryAll 307 = .ok (.iload 4, 2) := by decide +kernel
theorem dX7_carryAll_309 : decode cX7_carryAll 309 = .ok (.iaload, 1) := by decide +kernel
theorem dX7_carryAll_310 : decode cX7_carryAll 310 = .ok (.invokevirtual 310, 3) := by decide +kernel
theorem dX7_carryAll_313 : decode cX7_carryAll 313 = .ok (.iastore, 1) := by decide +kernel
theorem dX7_carryAll_314 : decode cX7_carryAll 314 = .ok (.aload_n 2, 1) := by decide +kernel
theorem dX7_carryAll_315 : decode cX7_carryAll 315 = .ok (.iload 4, 2) := by decide +kernel
theorem dX7_carryAll_317 : decode cX7_carryAll 317 = .ok (.iload_n 3, 1) := by decide +kernel
theorem dX7_carryAll_318 : decode cX7_carryAll 318 = .ok (.ifCond .eq 13, 3) := by decide +kernel
theorem dX7_carryAll_321 : decode cX7_carryAll 321 = .ok (.aload_n 0, 1) := by decide +kernel
theorem dX7_carryAll_322 : decode cX7_carryAll 322 = .ok (.getfield 7, 3) := by decide +kernel
theorem dX7_carryAll_325 : decode cX7_carryAll 325 = .ok (.iload 4, 2) := by decide +kernel
theorem dX7_carryAll_327 : decode cX7_carryAll 327 = .ok (.faload, 1) := by decide +kernel
theorem dX7_carryAll_328 : decode cX7_carryAll 328 = .ok (.goto 7, 3) := by decide +kernel
theorem dX7_carryAll_331 : decode cX7_carryAll 331 = .ok (.aload_n 2, 1) := by decide +kernel
theorem dX7_carryAll_332 : decode cX7_carryAll 332 = .ok (.iload 4, 2) := by decide +kernel
theorem dX7_carryAll_334 : decode cX7_carryAll 334 = .ok (.faload, 1) := by decide +kernel
theorem dX7_carryAll_335 : decode cX7_carryAll 335 = .ok (.fastore, 1) := by decide +kernel
theorem dX7_carryAll_336 : decode cX7_carryAll 336 = .ok (.aload_n 0, 1) := by decide +kernel
theorem dX7_carryAll_337 : decode cX7_carryAll 337 = .ok (.getfield 7, 3) := by decide +kernel
theorem dX7_carryAll_340 : decode cX7_carryAll 340 = .ok (.iload 4, 2) := by decide +kernel
theorem dX7_carryAll_342 : decode cX7_carryAll 342 = .ok (.aload_n 2, 1) := by decide +kernel
theorem dX7_carryAll_343 : decode cX7_carryAll 343 = .ok (.iload 4, 2) := by decide +kernel
theorem dX7_carryAll_345 : decode cX7_carryAll 345 = .ok (.faload, 1) := by decide +kernel
theorem dX7_carryAll_346 : decode cX7_carryAll 346 = .ok (.fastore, 1) := by decide +kernel
theorem dX7_carryAll_347 : decode cX7_carryAll 347 = .ok (.iinc 4 1, 3) := by decide +kernel
theorem dX7_carryAll_350 : decode cX7_carryAll 350 = .ok (.goto (-61), 3) := by decide +kernel
theorem dX7_carryAll_353 : decode cX7_carryAll 353 = .ok (.return_, 1) := by decide +kernel
set_option maxRecDepth 20000 in
theorem ggX7_think_X7_carryAll : GoodIn wsX7_think wsX7_carryAll := goodIn_r _ [7, 8, 9, 10, 11, 12, 13, 14, 15, 16, 17, 18, 19, 20, 21, 22, 23, 24, 25, 26, 27, 28, 29, 30, 6, 31, 32, 33, 34, 35, 36, 37, 38, 39, 40, 41, 42, 43, 44, 45, 46, 47, 48, 49, 50, 51, 52, 53, 54, 55, 56, 57, 58, 59, 60, 61, 62, 63, 64, 65, 66, 67, 68, 69, 70, 71, 72, 73, 74, 75, 76, 77, 78, 79, 80, 81, 82, 83, 84] (by decide +kernel) (by decide +kernel)
set_option maxRecDepth 20000 in
theorem gX7_think_X7_carryAll : GoodIn wsX7_think (wsV RX7 313 RX7 yX7_carryAll wsX7_carryAll) := goodIn_app (goodIn_of _ (by decide +kernel)) ggX7_think_X7_carryAll
theorem dX7_think_0 : decode cX7_think 0 = .ok (.aload_n 0, 1) := by decide +kernel
theorem dX7_think_1 : decode cX7_think 1 = .ok (.aload_n 0, 1) := by decide +kernel
theorem dX7_think_2 : decode cX7_think 2 = .ok (.getfield 68, 3) := by decide +kernel
theorem dX7_think_5 : decode cX7_think 5 = .ok (.aload_n 0, 1) := by decide +kernel
theorem dX7_think_6 : decode cX7_think 6 = .ok (.getfield 71, 3) := by decide +kernel
theorem dX7_think_9 : decode cX7_think 9 = .ok (.iconst 1, 1) := by decide +kernel
theorem dX7_think_10 : decode cX7_think 10 = .ok (.invokevirtual 313, 3) := by decide +kernel
theorem dX7_think_13 : decode cX7_think 13 = .ok (.return_, 1) := by decide +kernel
set_option maxRecDepth 20000 in
theorem ggX7_again_X7_carryAll : GoodIn wsX7_again wsX7_carryAll := goodIn_r _ [7, 8, 9, 10, 11, 12, 13, 14, 15, 16, 17, 18, 19, 20, 21, 22, 23, 24, 25, 26, 27, 28, 29, 30, 6, 31, 32, 33, 34, 35, 36, 37, 38, 39, 40, 41, 42, 43, 44, 45, 46, 47, 48, 49, 50, 51, 52, 53, 54, 55, 56, 57, 58, 59, 60, 61, 62, 63, 64, 65, 66, 67, 68, 69, 70, 71, 72, 73, 74, 75, 76, 77, 78, 79, 80, 81, 82, 83, 84] (by decide +kernel) (by decide +kernel)
set_option maxRecDepth 20000 in
theorem gX7_again_X7_carryAll : GoodIn wsX7_again (wsV RX7 313 RX7 yX7_carryAll wsX7_carryAll) := goodIn_app (goodIn_of _ (by decide +kernel)) ggX7_again_X7_carryAll
theorem dX7_again_0 : decode cX7_again 0 = .ok (.aload_n 0, 1) := by decide +kernel
theorem dX7_again_1 : decode cX7_again 1 = .ok (.aload_n 0, 1) := by decide +kernel
theorem dX7_again_2 : decode cX7_again 2 = .ok (.getfield 68, 3) := by decide +kernel
theorem dX7_again_5 : decode cX7_again 5 = .ok (.aload_n 0, 1) := by decide +kernel
theorem dX7_again_6 : decode cX7_again 6 = .ok (.getfield 71, 3) := by decide +kernel
theorem dX7_again_9 : decode cX7_again 9 = .ok (.iconst 0, 1) := by decide +kernel
theorem dX7_again_10 : decode cX7_again 10 = .ok (.invokevirtual 313, 3) := by decide +kernel
theorem dX7_again_13 : decode cX7_again 13 = .ok (.return_, 1) := by decide +kernel
set_option maxRecDepth 20000 in
theorem ggX7_image_X7_carryAll : GoodIn wsX7_image wsX7_carryAll := goodIn_r _ [10, 11, 12, 13, 14, 15, 16, 5, 17, 18, 19, 20, 21, 22, 23, 24, 25, 26, 27, 28, 29, 30, 31, 32, 9, 33, 34, 35, 36, 37, 38, 39, 40, 41, 42, 43, 44, 45, 46, 47, 48, 49, 50, 51, 52, 53, 54, 55, 56, 57, 58, 59, 60, 61, 62, 63, 64, 65, 66, 67, 68, 69, 70, 71, 72, 73, 74, 75, 76, 77, 78, 79, 80, 81, 82, 83, 84, 85, 86] (by decide +kernel) (by decide +kernel)
set_option maxRecDepth 20000 in
theorem gX7_image_X7_carryAll : GoodIn wsX7_image (wsV RX7 313 RX7 yX7_carryAll wsX7_carryAll) := goodIn_app (goodIn_of _ (by decide +kernel)) ggX7_image_X7_carryAll
theorem dX7_image_0 : decode cX7_image 0 = .ok (.aload_n 0, 1) := by decide +kernel
theorem dX7_image_1 : decode cX7_image 1 = .ok (.iconst 0, 1) := by decide +kernel
theorem dX7_image_2 : decode cX7_image 2 = .ok (.putfield 114, 3) := by decide +kernel
theorem dX7_image_5 : decode cX7_image 5 = .ok (.aload_n 0, 1) := by decide +kernel
theorem dX7_image_6 : decode cX7_image 6 = .ok (.iconst 1, 1) := by decide +kernel
theorem dX7_image_7 : decode cX7_image 7 = .ok (.putfield 317, 3) := by decide +kernel
theorem dX7_image_10 : decode cX7_image 10 = .ok (.aload_n 0, 1) := by decide +kernel
theorem dX7_image_11 : decode cX7_image 11 = .ok (.aload_n 0, 1) := by decide +kernel
theorem dX7_image_12 : decode cX7_image 12 = .ok (.getfield 74, 3) := by decide +kernel
theorem dX7_image_15 : decode cX7_image 15 = .ok (.aload_n 0, 1) := by decide +kernel
theorem dX7_image_16 : decode cX7_image 16 = .ok (.getfield 77, 3) := by decide +kernel
theorem dX7_image_19 : decode cX7_image 19 = .ok (.iconst 1, 1) := by decide +kernel
theorem dX7_image_20 : decode cX7_image 20 = .ok (.invokevirtual 313, 3) := by decide +kernel
theorem dX7_image_23 : decode cX7_image 23 = .ok (.aload_n 0, 1) := by decide +kernel
theorem dX7_image_24 : decode cX7_image 24 = .ok (.getfield 148, 3) := by decide +kernel
theorem dX7_image_27 : decode cX7_image 27 = .ok (.ireturn, 1) := by decide +kernel
set_option maxRecDepth 20000 in
theorem ggX7_restore_X7_refuse : GoodIn wsX7_restore wsX7_refuse := goodIn_r _ [11, 12, 40, 41, 42, 43, 44, 45, 46, 47, 48, 49, 50, 51, 52, 53, 54, 55, 56, 57, 58, 59, 60, 61, 62, 63, 64, 65, 66, 67, 68, 69, 70, 71, 72, 73, 74, 75, 76, 77, 78, 79, 80, 81, 82, 83, 84, 85, 86, 87, 88, 89, 90, 91, 92] (by decide +kernel) (by decide +kernel)
set_option maxRecDepth 20000 in
theorem gX7_restore_X7_refuse : GoodIn wsX7_restore (wsV RX7 219 RX7 yX7_refuse wsX7_refuse) := goodIn_app (goodIn_of _ (by decide +kernel)) ggX7_restore_X7_refuse
set_option maxRecDepth 20000 in
theorem ggX7_restore_X7_carryAll : GoodIn wsX7_restore wsX7_carryAll := goodIn_r _ [16, 17, 18, 19, 20, 21, 22, 6, 23, 24, 25, 26, 27, 28, 29, 30, 31, 32, 33, 34, 35, 36, 37, 38, 10, 39, 40, 41, 42, 43, 44, 45, 46, 47, 48, 49, 50, 51, 52, 53, 54, 55, 56, 57, 58, 59, 60, 61, 62, 63, 64, 65, 66, 67, 68, 69, 70, 71, 72, 73, 74, 75, 76, 77, 78, 79, 80, 81, 82, 83, 84, 85, 86, 87, 88, 89, 90, 91, 92] (by decide +kernel) (by decide +kernel)
set_option maxRecDepth 20000 in
theorem gX7_restore_X7_carryAll : GoodIn wsX7_restore (wsV RX7 313 RX7 yX7_carryAll wsX7_carryAll) := goodIn_app (goodIn_of _ (by decide +kernel)) ggX7_restore_X7_carryAll
theorem dX7_restore_0 : decode cX7_restore 0 = .ok (.aload_n 0, 1) := by decide +kernel
theorem dX7_restore_1 : decode cX7_restore 1 = .ok (.iconst 0, 1) := by decide +kernel
theorem dX7_restore_2 : decode cX7_restore 2 = .ok (.putfield 114, 3) := by decide +kernel
theorem dX7_restore_5 : decode cX7_restore 5 = .ok (.aload_n 0, 1) := by decide +kernel
theorem dX7_restore_6 : decode cX7_restore 6 = .ok (.getfield 317, 3) := by decide +kernel
theorem dX7_restore_9 : decode cX7_restore 9 = .ok (.ifCond .ne 10, 3) := by decide +kernel
theorem dX7_restore_12 : decode cX7_restore 12 = .ok (.aload_n 0, 1) := by decide +kernel
theorem dX7_restore_13 : decode cX7_restore 13 = .ok (.bipush (-3), 2) := by decide +kernel
theorem dX7_restore_15 : decode cX7_restore 15 = .ok (.invokevirtual 219, 3) := by decide +kernel
theorem dX7_restore_18 : decode cX7_restore 18 = .ok (.ireturn, 1) := by decide +kernel
theorem dX7_restore_19 : decode cX7_restore 19 = .ok (.aload_n 0, 1) := by decide +kernel
theorem dX7_restore_20 : decode cX7_restore 20 = .ok (.aload_n 0, 1) := by decide +kernel
theorem dX7_restore_21 : decode cX7_restore 21 = .ok (.getfield 74, 3) := by decide +kernel
theorem dX7_restore_24 : decode cX7_restore 24 = .ok (.aload_n 0, 1) := by decide +kernel
theorem dX7_restore_25 : decode cX7_restore 25 = .ok (.getfield 77, 3) := by decide +kernel
theorem dX7_restore_28 : decode cX7_restore 28 = .ok (.iconst 0, 1) := by decide +kernel
theorem dX7_restore_29 : decode cX7_restore 29 = .ok (.invokevirtual 313, 3) := by decide +kernel
theorem dX7_restore_32 : decode cX7_restore 32 = .ok (.aload_n 0, 1) := by decide +kernel
theorem dX7_restore_33 : decode cX7_restore 33 = .ok (.iconst 0, 1) := by decide +kernel
theorem dX7_restore_34 : decode cX7_restore 34 = .ok (.putfield 298, 3) := by decide +kernel
theorem dX7_restore_37 : decode cX7_restore 37 = .ok (.aload_n 0, 1) := by decide +kernel
theorem dX7_restore_38 : decode cX7_restore 38 = .ok (.getfield 148, 3) := by decide +kernel
theorem dX7_restore_41 : decode cX7_restore 41 = .ok (.ireturn, 1) := by decide +kernel
set_option maxRecDepth 20000 in
theorem ggX7_keepTurn_X7_carryAll : GoodIn wsX7_keepTurn wsX7_carryAll := goodIn_r _ [10, 11, 12, 13, 14, 15, 16, 17, 18, 19, 20, 21, 22, 23, 24, 25, 26, 27, 28, 29, 30, 31, 32, 33, 9, 34, 35, 36, 37, 38, 39, 40, 41, 42, 43, 44, 45, 46, 47, 48, 49, 50, 51, 52, 53, 54, 55, 56, 57, 58, 59, 60, 61, 62, 63, 64, 65, 66, 67, 68, 69, 70, 71, 72, 73, 74, 75, 76, 77, 78, 79, 80, 81, 82, 83, 84, 85, 86, 87] (by decide +kernel) (by decide +kernel)
set_option maxRecDepth 20000 in
theorem gX7_keepTurn_X7_carryAll : GoodIn wsX7_keepTurn (wsV RX7 313 RX7 yX7_carryAll wsX7_carryAll) := goodIn_app (goodIn_of _ (by decide +kernel)) ggX7_keepTurn_X7_carryAll
theorem dX7_keepTurn_0 : decode cX7_keepTurn 0 = .ok (.aload_n 0, 1) := by decide +kernel
theorem dX7_keepTurn_1 : decode cX7_keepTurn 1 = .ok (.getfield 298, 3) := by decide +kernel
theorem dX7_keepTurn_4 : decode cX7_keepTurn 4 = .ok (.bipush 8, 2) := by decide +kernel
theorem dX7_keepTurn_6 : decode cX7_keepTurn 6 = .ok (.if_icmp .ne 75, 3) := by decide +kernel
theorem dX7_keepTurn_9 : decode cX7_keepTurn 9 = .ok (.bipush 96, 2) := by decide +kernel
theorem dX7_keepTurn_11 : decode cX7_keepTurn 11 = .ok (.istore_n 1, 1) := by decide +kernel
theorem dX7_keepTurn_12 : decode cX7_keepTurn 12 = .ok (.iload_n 1, 1) := by decide +kernel
theorem dX7_keepTurn_13 : decode cX7_keepTurn 13 = .ok (.sipush 768, 3) := by decide +kernel
theorem dX7_keepTurn_16 : decode cX7_keepTurn 16 = .ok (.if_icmp .ge 24, 3) := by decide +kernel
theorem dX7_keepTurn_19 : decode cX7_keepTurn 19 = .ok (.aload_n 0, 1) := by decide +kernel
theorem dX7_keepTurn_20 : decode cX7_keepTurn 20 = .ok (.getfield 80, 3) := by decide +kernel
theorem dX7_keepTurn_23 : decode cX7_keepTurn 23 = .ok (.iload_n 1, 1) := by decide +kernel
theorem dX7_keepTurn_24 : decode cX7_keepTurn 24 = .ok (.bipush 96, 2) := by decide +kernel
theorem dX7_keepTurn_26 : decode cX7_keepTurn 26 = .ok (.isub, 1) := by decide +kernel
theorem dX7_keepTurn_27 : decode cX7_keepTurn 27 = .ok (.aload_n 0, 1) := by decide +kernel
theorem dX7_keepTurn_28 : decode cX7_keepTurn 28 = .ok (.getfield 80, 3) := by decide +kernel
theorem dX7_keepTurn_31 : decode cX7_keepTurn 31 = .ok (.iload_n 1, 1) := by decide +kernel
theorem dX7_keepTurn_32 : decode cX7_keepTurn 32 = .ok (.iaload, 1) := by decide +kernel
theorem dX7_keepTurn_33 : decode cX7_keepTurn 33 = .ok (.iastore, 1) := by decide +kernel
theorem dX7_keepTurn_34 : decode cX7_keepTurn 34 = .ok (.iinc 1 1, 3) := by decide +kernel
theorem dX7_keepTurn_37 : decode cX7_keepTurn 37 = .ok (.goto (-25), 3) := by decide +kernel
theorem dX7_keepTurn_40 : decode cX7_keepTurn 40 = .ok (.bipush 36, 2) := by decide +kernel
theorem dX7_keepTurn_42 : decode cX7_keepTurn 42 = .ok (.istore_n 1, 1) := by decide +kernel
theorem dX7_keepTurn_43 : decode cX7_keepTurn 43 = .ok (.iload_n 1, 1) := by decide +kernel
theorem dX7_keepTurn_44 : decode cX7_keepTurn 44 = .ok (.sipush 288, 3) := by decide +kernel
theorem dX7_keepTurn_47 : decode cX7_keepTurn 47 = .ok (.if_icmp .ge 24, 3) := by decide +kernel
theorem dX7_keepTurn_50 : decode cX7_keepTurn 50 = .ok (.aload_n 0, 1) := by decide +kernel
theorem dX7_keepTurn_51 : decode cX7_keepTurn 51 = .ok (.getfield 83, 3) := by decide +kernel
theorem dX7_keepTurn_54 : decode cX7_keepTurn 54 = .ok (.iload_n 1, 1) := by decide +kernel
theorem dX7_keepTurn_55 : decode cX7_keepTurn 55 = .ok (.bipush 36, 2) := by decide +kernel
theorem dX7_keepTurn_57 : decode cX7_keepTurn 57 = .ok (.isub, 1) := by decide +kernel
theorem dX7_keepTurn_58 : decode cX7_keepTurn 58 = .ok (.aload_n 0, 1) := by decide +kernel
theorem dX7_keepTurn_59 : decode cX7_keepTurn 59 = .ok (.getfield 83, 3) := by decide +kernel
theorem dX7_keepTurn_62 : decode cX7_keepTurn 62 = .ok (.iload_n 1, 1) := by decide +kernel
theorem dX7_keepTurn_63 : decode cX7_keepTurn 63 = .ok (.faload, 1) := by decide +kernel
theorem dX7_keepTurn_64 : decode cX7_keepTurn 64 = .ok (.fastore, 1) := by decide +kernel
theorem dX7_keepTurn_65 : decode cX7_keepTurn 65 = .ok (.iinc 1 1, 3) := by decide +kernel
theorem dX7_keepTurn_68 : decode cX7_keepTurn 68 = .ok (.goto (-25), 3) := by decide +kernel
theorem dX7_keepTurn_71 : decode cX7_keepTurn 71 = .ok (.aload_n 0, 1) := by decide +kernel
theorem dX7_keepTurn_72 : decode cX7_keepTurn 72 = .ok (.dup, 1) := by decide +kernel
theorem dX7_keepTurn_73 : decode cX7_keepTurn 73 = .ok (.getfield 298, 3) := by decide +kernel
theorem dX7_keepTurn_76 : decode cX7_keepTurn 76 = .ok (.iconst 1, 1) := by decide +kernel
theorem dX7_keepTurn_77 : decode cX7_keepTurn 77 = .ok (.isub, 1) := by decide +kernel
theorem dX7_keepTurn_78 : decode cX7_keepTurn 78 = .ok (.putfield 298, 3) := by decide +kernel
theorem dX7_keepTurn_81 : decode cX7_keepTurn 81 = .ok (.aload_n 0, 1) := by decide +kernel
theorem dX7_keepTurn_82 : decode cX7_keepTurn 82 = .ok (.aload_n 0, 1) := by decide +kernel
theorem dX7_keepTurn_83 : decode cX7_keepTurn 83 = .ok (.getfield 86, 3) := by decide +kernel
theorem dX7_keepTurn_86 : decode cX7_keepTurn 86 = .ok (.aload_n 0, 1) := by decide +kernel
theorem dX7_keepTurn_87 : decode cX7_keepTurn 87 = .ok (.getfield 89, 3) := by decide +kernel
theorem dX7_keepTurn_90 : decode cX7_keepTurn 90 = .ok (.iconst 1, 1) := by decide +kernel
theorem dX7_keepTurn_91 : decode cX7_keepTurn 91 = .ok (.invokevirtual 313, 3) := by decide +kernel
theorem dX7_keepTurn_94 : decode cX7_keepTurn 94 = .ok (.iconst 0, 1) := by decide +kernel
theorem dX7_keepTurn_95 : decode cX7_keepTurn 95 = .ok (.istore_n 1, 1) := by decide +kernel
theorem dX7_keepTurn_96 : decode cX7_keepTurn 96 = .ok (.iload_n 1, 1) := by decide +kernel
theorem dX7_keepTurn_97 : decode cX7_keepTurn 97 = .ok (.bipush 96, 2) := by decide +kernel
theorem dX7_keepTurn_99 : decode cX7_keepTurn 99 = .ok (.if_icmp .ge 29, 3) := by decide +kernel
theorem dX7_keepTurn_102 : decode cX7_keepTurn 102 = .ok (.aload_n 0, 1) := by decide +kernel
theorem dX7_keepTurn_103 : decode cX7_keepTurn 103 = .ok (.getfield 80, 3) := by decide +kernel
theorem dX7_keepTurn_106 : decode cX7_keepTurn 106 = .ok (.bipush 96, 2) := by decide +kernel
theorem dX7_keepTurn_108 : decode cX7_keepTurn 108 = .ok (.aload_n 0, 1) := by decide +kernel
theorem dX7_keepTurn_109 : decode cX7_keepTurn 109 = .ok (.getfield 298, 3) := by decide +kernel
theorem dX7_keepTurn_112 : decode cX7_keepTurn 112 = .ok (.imul, 1) := by decide +kernel
theorem dX7_keepTurn_113 : decode cX7_keepTurn 113 = .ok (.iload_n 1, 1) := by decide +kernel
theorem dX7_keepTurn_114 : decode cX7_keepTurn 114 = .ok (.iadd, 1) := by decide +kernel
theorem dX7_keepTurn_115 : decode cX7_keepTurn 115 = .ok (.aload_n 0, 1) := by decide +kernel
theorem dX7_keepTurn_116 : decode cX7_keepTurn 116 = .ok (.getfield 86, 3) := by decide +kernel
theorem dX7_keepTurn_119 : decode cX7_keepTurn 119 = .ok (.iload_n 1, 1) := by decide +kernel
theorem dX7_keepTurn_120 : decode cX7_keepTurn 120 = .ok (.iaload, 1) := by decide +kernel
theorem dX7_keepTurn_121 : decode cX7_keepTurn 121 = .ok (.iastore, 1) := by decide +kernel
theorem dX7_keepTurn_122 : decode cX7_keepTurn 122 = .ok (.iinc 1 1, 3) := by decide +kernel
theorem dX7_keepTurn_125 : decode cX7_keepTurn 125 = .ok (.goto (-29), 3) := by decide +kernel
theorem dX7_keepTurn_128 : decode cX7_keepTurn 128 = .ok (.iconst 0, 1) := by decide +kernel
theorem dX7_keepTurn_129 : decode cX7_keepTurn 129 = .ok (.istore_n 1, 1) := by decide +kernel
theorem dX7_keepTurn_130 : decode cX7_keepTurn 130 = .ok (.iload_n 1, 1) := by decide +kernel
theorem dX7_keepTurn_131 : decode cX7_keepTurn 131 = .ok (.bipush 36, 2) := by decide +kernel
theorem dX7_keepTurn_133 : decode cX7_keepTurn 133 = .ok (.if_icmp .ge 29, 3) := by decide +kernel
theorem dX7_keepTurn_136 : decode cX7_keepTurn 136 = .ok (.aload_n 0, 1) := by decide +kernel
theorem dX7_keepTurn_137 : decode cX7_keepTurn 137 = .ok (.getfield 83, 3) := by decide +kernel
theorem dX7_keepTurn_140 : decode cX7_keepTurn 140 = .ok (.bipush 36, 2) := by decide +kernel
theorem dX7_keepTurn_142 : decode cX7_keepTurn 142 = .ok (.aload_n 0, 1) := by decide +kernel
theorem dX7_keepTurn_143 : decode cX7_keepTurn 143 = .ok (.getfield 298, 3) := by decide +kernel
theorem dX7_keepTurn_146 : decode cX7_keepTurn 146 = .ok (.imul, 1) := by decide +kernel
theorem dX7_keepTurn_147 : decode cX7_keepTurn 147 = .ok (.iload_n 1, 1) := by decide +kernel
theorem dX7_keepTurn_148 : decode cX7_keepTurn 148 = .ok (.iadd, 1) := by decide +kernel
theorem dX7_keepTurn_149 : decode cX7_keepTurn 149 = .ok (.aload_n 0, 1) := by decide +kernel
theorem dX7_keepTurn_150 : decode cX7_keepTurn 150 = .ok (.getfield 89, 3) := by decide +kernel
theorem dX7_keepTurn_153 : decode cX7_keepTurn 153 = .ok (.iload_n 1, 1) := by decide +kernel
theorem dX7_keepTurn_154 : decode cX7_keepTurn 154 = .ok (.faload, 1) := by decide +kernel
theorem dX7_keepTurn_155 : decode cX7_keepTurn 155 = .ok (.fastore, 1) := by decide +kernel
theorem dX7_keepTurn_156 : decode cX7_keepTurn 156 = .ok (.iinc 1 1, 3) := by decide +kernel
theorem dX7_keepTurn_159 : decode cX7_keepTurn 159 = .ok (.goto (-29), 3) := by decide +kernel
theorem dX7_keepTurn_162 : decode cX7_keepTurn 162 = .ok (.aload_n 0, 1) := by decide +kernel
theorem dX7_keepTurn_163 : decode cX7_keepTurn 163 = .ok (.dup, 1) := by decide +kernel
theorem dX7_keepTurn_164 : decode cX7_keepTurn 164 = .ok (.getfield 298, 3) := by decide +kernel
theorem dX7_keepTurn_167 : decode cX7_keepTurn 167 = .ok (.iconst 1, 1) := by decide +kernel
theorem dX7_keepTurn_168 : decode cX7_keepTurn 168 = .ok (.iadd, 1) := by decide +kernel
theorem dX7_keepTurn_169 : decode cX7_keepTurn 169 = .ok (.putfield 298, 3) := by decide +kernel
theorem dX7_keepTurn_172 : decode cX7_keepTurn 172 = .ok (.return_, 1) := by decide +kernel
set_option maxRecDepth 20000 in
theorem ggX7_back_X7_refuse : GoodIn wsX7_back wsX7_refuse := goodIn_r _ [11, 12, 41, 42, 43, 44, 45, 46, 47, 48, 49, 50, 51, 52, 53, 54, 55, 56, 57, 58, 59, 60, 61, 62, 63, 64, 65, 66, 67, 68, 69, 70, 71, 72, 73, 74, 75, 76, 77, 78, 79, 80, 81, 82, 83, 84, 85, 86, 87, 88, 89, 90, 91, 92, 93] (by decide +kernel) (by decide +kernel)
set_option maxRecDepth 20000 in
theorem gX7_back_X7_refuse : GoodIn wsX7_back (wsV RX7 219 RX7 yX7_refuse wsX7_refuse) := goodIn_app (goodIn_of _ (by decide +kernel)) ggX7_back_X7_refuse
set_option maxRecDepth 20000 in
theorem ggX7_back_X7_carryAll : GoodIn wsX7_back wsX7_carryAll := goodIn_r _ [16, 17, 18, 19, 20, 21, 22, 23, 24, 25, 26, 27, 28, 29, 30, 31, 32, 33, 34, 35, 36, 37, 38, 39, 10, 40, 41, 42, 43, 44, 45, 46, 47, 48, 49, 50, 51, 52, 53, 54, 55, 56, 57, 58, 59, 60, 61, 62, 63, 64, 65, 66, 67, 68, 69, 70, 71, 72, 73, 74, 75, 76, 77, 78, 79, 80, 81, 82, 83, 84, 85, 86, 87, 88, 89, 90, 91, 92, 93] (by decide +kernel) (by decide +kernel)
set_option maxRecDepth 20000 in
theorem gX7_back_X7_carryAll : GoodIn wsX7_back (wsV RX7 313 RX7 yX7_carryAll wsX7_carryAll) := goodIn_app (goodIn_of _ (by decide +kernel)) ggX7_back_X7_carryAll
theorem dX7_back_0 : decode cX7_back 0 = .ok (.aload_n 0, 1) := by decide +kernel
theorem dX7_back_1 : decode cX7_back 1 = .ok (.iconst 0, 1) := by decide +kernel
theorem dX7_back_2 : decode cX7_back 2 = .ok (.putfield 114, 3) := by decide +kernel
theorem dX7_back_5 : decode cX7_back 5 = .ok (.aload_n 0, 1) := by decide +kernel
theorem dX7_back_6 : decode cX7_back 6 = .ok (.getfield 298, 3) := by decide +kernel
theorem dX7_back_9 : decode cX7_back 9 = .ok (.ifCond .ne 10, 3) := by decide +kernel
theorem dX7_back_12 : decode cX7_back 12 = .ok (.aload_n 0, 1) := by decide +kernel
theorem dX7_back_13 : decode cX7_back 13 = .ok (.bipush (-3), 2) := by decide +kernel
theorem dX7_back_15 : decode cX7_back 15 = .ok (.invokevirtual 219, 3) := by decide +kernel
theorem dX7_back_18 : decode cX7_back 18 = .ok (.ireturn, 1) := by decide +kernel
theorem dX7_back_19 : decode cX7_back 19 = .ok (.aload_n 0, 1) := by decide +kernel
theorem dX7_back_20 : decode cX7_back 20 = .ok (.dup, 1) := by decide +kernel
theorem dX7_back_21 : decode cX7_back 21 = .ok (.getfield 298, 3) := by decide +kernel
theorem dX7_back_24 : decode cX7_back 24 = .ok (.iconst 1, 1) := by decide +kernel
theorem dX7_back_25 : decode cX7_back 25 = .ok (.isub, 1) := by decide +kernel
theorem dX7_back_26 : decode cX7_back 26 = .ok (.putfield 298, 3) := by decide +kernel
theorem dX7_back_29 : decode cX7_back 29 = .ok (.iconst 0, 1) := by decide +kernel
theorem dX7_back_30 : decode cX7_back 30 = .ok (.istore_n 1, 1) := by decide +kernel
theorem dX7_back_31 : decode cX7_back 31 = .ok (.iload_n 1, 1) := by decide +kernel
theorem dX7_back_32 : decode cX7_back 32 = .ok (.bipush 96, 2) := by decide +kernel
theorem dX7_back_34 : decode cX7_back 34 = .ok (.if_icmp .ge 29, 3) := by decide +kernel
theorem dX7_back_37 : decode cX7_back 37 = .ok (.aload_n 0, 1) := by decide +kernel
theorem dX7_back_38 : decode cX7_back 38 = .ok (.getfield 86, 3) := by decide +kernel
theorem dX7_back_41 : decode cX7_back 41 = .ok (.iload_n 1, 1) := by decide +kernel
theorem dX7_back_42 : decode cX7_back 42 = .ok (.aload_n 0, 1) := by decide +kernel
theorem dX7_back_43 : decode cX7_back 43 = .ok (.getfield 80, 3) := by decide +kernel
theorem dX7_back_46 : decode cX7_back 46 = .ok (.bipush 96, 2) := by decide +kernel
theorem dX7_back_48 : decode cX7_back 48 = .ok (.aload_n 0, 1) := by decide +kernel
theorem dX7_back_49 : decode cX7_back 49 = .ok (.getfield 298, 3) := by decide +kernel
theorem dX7_back_52 : decode cX7_back 52 = .ok (.imul, 1) := by decide +kernel
theorem dX7_back_53 : decode cX7_back 53 = .ok (.iload_n 1, 1) := by decide +kernel
theorem dX7_back_54 : decode cX7_back 54 = .ok (.iadd, 1) := by decide +kernel
theorem dX7_back_55 : decode cX7_back 55 = .ok (.iaload, 1) := by decide +kernel
theorem dX7_back_56 : decode cX7_back 56 = .ok (.iastore, 1) := by decide +kernel
theorem dX7_back_57 : decode cX7_back 57 = .ok (.iinc 1 1, 3) := by decide +kernel
theorem dX7_back_60 : decode cX7_back 60 = .ok (.goto (-29), 3) := by decide +kernel
theorem dX7_back_63 : decode cX7_back 63 = .ok (.iconst 0, 1) := by decide +kernel
theorem dX7_back_64 : decode cX7_back 64 = .ok (.istore_n 1, 1) := by decide +kernel
theorem dX7_back_65 : decode cX7_back 65 = .ok (.iload_n 1, 1) := by decide +kernel
theorem dX7_back_66 : decode cX7_back 66 = .ok (.bipush 36, 2) := by decide +kernel
theorem dX7_back_68 : decode cX7_back 68 = .ok (.if_icmp .ge 29, 3) := by decide +kernel
theorem dX7_back_71 : decode cX7_back 71 = .ok (.aload_n 0, 1) := by decide +kernel
theorem dX7_back_72 : decode cX7_back 72 = .ok (.getfield 89, 3) := by decide +kernel
theorem dX7_back_75 : decode cX7_back 75 = .ok (.iload_n 1, 1) := by decide +kernel
theorem dX7_back_76 : decode cX7_back 76 = .ok (.aload_n 0, 1) := by decide +kernel
theorem dX7_back_77 : decode cX7_back 77 = .ok (.getfield 83, 3) := by decide +kernel
theorem dX7_back_80 : decode cX7_back 80 = .ok (.bipush 36, 2) := by decide +kernel
theorem dX7_back_82 : decode cX7_back 82 = .ok (.aload_n 0, 1) := by decide +kernel
theorem dX7_back_83 : decode cX7_back 83 = .ok (.getfield 298, 3) := by decide +kernel
theorem dX7_back_86 : decode cX7_back 86 = .ok (.imul, 1) := by decide +kernel
theorem dX7_back_87 : decode cX7_back 87 = .ok (.iload_n 1, 1) := by decide +kernel
theorem dX7_back_88 : decode cX7_back 88 = .ok (.iadd, 1) := by decide +kernel
theorem dX7_back_89 : decode cX7_back 89 = .ok (.faload, 1) := by decide +kernel
theorem dX7_back_90 : decode cX7_back 90 = .ok (.fastore, 1) := by decide +kernel
theorem dX7_back_91 : decode cX7_back 91 = .ok (.iinc 1 1, 3) := by decide +kernel
theorem dX7_back_94 : decode cX7_back 94 = .ok (.goto (-29), 3) := by decide +kernel
theorem dX7_back_97 : decode cX7_back 97 = .ok (.aload_n 0, 1) := by decide +kernel
theorem dX7_back_98 : decode cX7_back 98 = .ok (.aload_n 0, 1) := by decide +kernel
theorem dX7_back_99 : decode cX7_back 99 = .ok (.getfield 86, 3) := by decide +kernel
theorem dX7_back_102 : decode cX7_back 102 = .ok (.aload_n 0, 1) := by decide +kernel
theorem dX7_back_103 : decode cX7_back 103 = .ok (.getfield 89, 3) := by decide +kernel
theorem dX7_back_106 : decode cX7_back 106 = .ok (.iconst 0, 1) := by decide +kernel
theorem dX7_back_107 : decode cX7_back 107 = .ok (.invokevirtual 313, 3) := by decide +kernel
theorem dX7_back_110 : decode cX7_back 110 = .ok (.aload_n 0, 1) := by decide +kernel
theorem dX7_back_111 : decode cX7_back 111 = .ok (.getfield 298, 3) := by decide +kernel
theorem dX7_back_114 : decode cX7_back 114 = .ok (.ireturn, 1) := by decide +kernel
set_option maxRecDepth 20000 in
theorem ggX7_air_X7_isAir : GoodIn wsX7_air wsX7_isAir := goodIn_r _ [12, 13, 14, 15, 11, 16, 29, 30, 31, 32, 33, 34, 35, 36, 37, 38, 39, 40, 41, 42, 43, 44, 45, 46, 47, 48, 49, 50, 51, 52, 53, 54, 55, 56, 57, 58, 59, 60, 61, 62, 63, 64, 65, 66, 67, 68, 69, 70, 71, 72, 73, 74, 75, 76, 77, 78, 79, 80, 81] (by decide +kernel) (by decide +kernel)
set_option maxRecDepth 20000 in
theorem gX7_air_X7_isAir : GoodIn wsX7_air (wsV RX7 320 RX7 yX7_isAir wsX7_isAir) := goodIn_app (goodIn_of _ (by decide +kernel)) ggX7_air_X7_isAir
set_option maxRecDepth 20000 in
theorem ggX7_air_X7_in : GoodIn wsX7_air wsX7_in := goodIn_r _ [16] (by decide +kernel) (by decide +kernel)
set_option maxRecDepth 20000 in
theorem gX7_air_X7_in : GoodIn wsX7_air (va_wsS RX7 122 yX7_in wsX7_in) := goodIn_app (goodIn_of _ (by decide +kernel)) ggX7_air_X7_in
set_option maxRecDepth 20000 in
theorem ggX7_air_X7_refuse : GoodIn wsX7_air wsX7_refuse := goodIn_r _ [20, 21, 29, 30, 31, 32, 33, 34, 35, 36, 37, 38, 39, 40, 41, 42, 43, 44, 45, 46, 47, 48, 49, 50, 51, 52, 53, 54, 55, 56, 57, 58, 59, 60, 61, 62, 63, 64, 65, 66, 67, 68, 69, 70, 71, 72, 73, 74, 75, 76, 77, 78, 79, 80, 81] (by decide +kernel) (by decide +kernel)
set_option maxRecDepth 20000 in
theorem gX7_air_X7_refuse : GoodIn wsX7_air (wsV RX7 219 RX7 yX7_refuse wsX7_refuse) := goodIn_app (goodIn_of _ (by decide +kernel)) ggX7_air_X7_refuse
set_option maxRecDepth 20000 in
theorem ggX7_air_X7_leapsOf : GoodIn wsX7_air wsX7_leapsOf := goodIn_r _ [25, 4, 3, 26, 27, 11, 28, 29, 30, 31, 32, 33, 34, 35, 36, 37, 38, 39, 40, 41, 42, 43, 44, 45, 46, 47, 48, 49, 50, 51, 52, 53, 54, 55, 56, 57, 58, 59, 60, 61, 62, 63, 64, 65, 66, 67, 68, 69, 70, 71, 72, 73, 74, 75, 76, 77, 78, 79, 80, 81] (by decide +kernel) (by decide +kernel)
set_option maxRecDepth 20000 in
theorem gX7_air_X7_leapsOf : GoodIn wsX7_air (wsV RX7 189 RX7 yX7_leapsOf wsX7_leapsOf) := goodIn_app (goodIn_of _ (by decide +kernel)) ggX7_air_X7_leapsOf
theorem dX7_air_0 : decode cX7_air 0 = .ok (.aload_n 0, 1) := by decide +kernel
theorem dX7_air_1 : decode cX7_air 1 = .ok (.iconst 0, 1) := by decide +kernel
theorem dX7_air_2 : decode cX7_air 2 = .ok (.putfield 114, 3) := by decide +kernel
theorem dX7_air_5 : decode cX7_air 5 = .ok (.aload_n 0, 1) := by decide +kernel
theorem dX7_air_6 : decode cX7_air 6 = .ok (.iload_n 1, 1) := by decide +kernel
theorem dX7_air_7 : decode cX7_air 7 = .ok (.invokevirtual 320, 3) := by decide +kernel
theorem dX7_air_10 : decode cX7_air 10 = .ok (.ifCond .eq 15, 3) := by decide +kernel
theorem dX7_air_13 : decode cX7_air 13 = .ok (.iload_n 2, 1) := by decide +kernel
theorem dX7_air_14 : decode cX7_air 14 = .ok (.i2l, 1) := by decide +kernel
theorem dX7_air_15 : decode cX7_air 15 = .ok (.lconst 0, 1) := by decide +kernel
theorem dX7_air_16 : decode cX7_air 16 = .ok (.ldc2_w 163, 3) := by decide +kernel
theorem dX7_air_19 : decode cX7_air 19 = .ok (.invokestatic 122, 3) := by decide +kernel
theorem dX7_air_22 : decode cX7_air 22 = .ok (.ifCond .ne 22, 3) := by decide +kernel
theorem dX7_air_25 : decode cX7_air 25 = .ok (.aload_n 0, 1) := by decide +kernel
theorem dX7_air_26 : decode cX7_air 26 = .ok (.aload_n 0, 1) := by decide +kernel
theorem dX7_air_27 : decode cX7_air 27 = .ok (.iload_n 1, 1) := by decide +kernel
theorem dX7_air_28 : decode cX7_air 28 = .ok (.invokevirtual 320, 3) := by decide +kernel
theorem dX7_air_31 : decode cX7_air 31 = .ok (.ifCond .eq 8, 3) := by decide +kernel
theorem dX7_air_34 : decode cX7_air 34 = .ok (.bipush (-2), 2) := by decide +kernel
theorem dX7_air_36 : decode cX7_air 36 = .ok (.goto 4, 3) := by decide +kernel
theorem dX7_air_39 : decode cX7_air 39 = .ok (.iconst (-1), 1) := by decide +kernel
theorem dX7_air_40 : decode cX7_air 40 = .ok (.invokevirtual 219, 3) := by decide +kernel
theorem dX7_air_43 : decode cX7_air 43 = .ok (.ireturn, 1) := by decide +kernel
theorem dX7_air_44 : decode cX7_air 44 = .ok (.iload_n 2, 1) := by decide +kernel
theorem dX7_air_45 : decode cX7_air 45 = .ok (.tableswitch 70 0 4 #[35, 42, 49, 56, 63], 35) := by decide +kernel
theorem dX7_air_80 : decode cX7_air 80 = .ok (.aload_n 0, 1) := by decide +kernel
theorem dX7_air_81 : decode cX7_air 81 = .ok (.getfield 17, 3) := by decide +kernel
theorem dX7_air_84 : decode cX7_air 84 = .ok (.iload_n 1, 1) := by decide +kernel
theorem dX7_air_85 : decode cX7_air 85 = .ok (.iaload, 1) := by decide +kernel
theorem dX7_air_86 : decode cX7_air 86 = .ok (.ireturn, 1) := by decide +kernel
theorem dX7_air_87 : decode cX7_air 87 = .ok (.aload_n 0, 1) := by decide +kernel
theorem dX7_air_88 : decode cX7_air 88 = .ok (.getfield 20, 3) := by decide +kernel
theorem dX7_air_91 : decode cX7_air 91 = .ok (.iload_n 1, 1) := by decide +kernel
theorem dX7_air_92 : decode cX7_air 92 = .ok (.iaload, 1) := by decide +kernel
theorem dX7_air_93 : decode cX7_air 93 = .ok (.ireturn, 1) := by decide +kernel
theorem dX7_air_94 : decode cX7_air 94 = .ok (.aload_n 0, 1) := by decide +kernel
theorem dX7_air_95 : decode cX7_air 95 = .ok (.getfield 23, 3) := by decide +kernel
theorem dX7_air_98 : decode cX7_air 98 = .ok (.iload_n 1, 1) := by decide +kernel
theorem dX7_air_99 : decode cX7_air 99 = .ok (.iaload, 1) := by decide +kernel
theorem dX7_air_100 : decode cX7_air 100 = .ok (.ireturn, 1) := by decide +kernel
theorem dX7_air_101 : decode cX7_air 101 = .ok (.aload_n 0, 1) := by decide +kernel
theorem dX7_air_102 : decode cX7_air 102 = .ok (.getfield 26, 3) := by decide +kernel
theorem dX7_air_105 : decode cX7_air 105 = .ok (.iload_n 1, 1) := by decide +kernel
theorem dX7_air_106 : decode cX7_air 106 = .ok (.iaload, 1) := by decide +kernel
theorem dX7_air_107 : decode cX7_air 107 = .ok (.ireturn, 1) := by decide +kernel
theorem dX7_air_108 : decode cX7_air 108 = .ok (.aload_n 0, 1) := by decide +kernel
theorem dX7_air_109 : decode cX7_air 109 = .ok (.getfield 29, 3) := by decide +kernel
theorem dX7_air_112 : decode cX7_air 112 = .ok (.iload_n 1, 1) := by decide +kernel
theorem dX7_air_113 : decode cX7_air 113 = .ok (.iaload, 1) := by decide +kernel
theorem dX7_air_114 : decode cX7_air 114 = .ok (.ireturn, 1) := by decide +kernel
theorem dX7_air_115 : decode cX7_air 115 = .ok (.aload_n 0, 1) := by decide +kernel
theorem dX7_air_116 : decode cX7_air 116 = .ok (.iload_n 1, 1) := by decide +kernel
theorem dX7_air_117 : decode cX7_air 117 = .ok (.invokevirtual 189, 3) := by decide +kernel
theorem dX7_air_120 : decode cX7_air 120 = .ok (.ireturn, 1) := by decide +kernel
set_option maxRecDepth 20000 in
theorem ggX7_sitter_X7_isSitter : GoodIn wsX7_sitter wsX7_isSitter := goodIn_r _ [10, 11, 12, 13, 9, 14, 20, 21, 22, 23, 24, 25, 26, 27, 28, 29, 30, 31, 32, 33, 34, 35, 36, 37, 38, 39, 40, 41, 42, 43, 44, 45, 46, 47, 48, 49, 50, 51, 52, 53, 54, 55, 56, 57, 58, 59, 60, 61, 62, 63, 64, 65, 66, 67, 68, 69, 70, 71, 72] (by decide +kernel) (by decide +kernel)
set_option maxRecDepth 20000 in
theorem gX7_sitter_X7_isSitter : GoodIn wsX7_sitter (wsV RX7 323 RX7 yX7_isSitter wsX7_isSitter) := goodIn_app (goodIn_of _ (by decide +kernel)) ggX7_sitter_X7_isSitter
set_option maxRecDepth 20000 in
theorem ggX7_sitter_X7_in : GoodIn wsX7_sitter wsX7_in := goodIn_r _ [14] (by decide +kernel) (by decide +kernel)
set_option maxRecDepth 20000 in
theorem gX7_sitter_X7_in : GoodIn wsX7_sitter (va_wsS RX7 122 yX7_in wsX7_in) := goodIn_app (goodIn_of _ (by decide +kernel)) ggX7_sitter_X7_in
set_option maxRecDepth 20000 in
theorem ggX7_sitter_X7_refuse : GoodIn wsX7_sitter wsX7_refuse := goodIn_r _ [18, 19, 20, 21, 22, 23, 24, 25, 26, 27, 28, 29, 30, 31, 32, 33, 34, 35, 36, 37, 38, 39, 40, 41, 42, 43, 44, 45, 46, 47, 48, 49, 50, 51, 52, 53, 54, 55, 56, 57, 58, 59, 60, 61, 62, 63, 64, 65, 66, 67, 68, 69, 70, 71, 72] (by decide +kernel) (by decide +kernel)
set_option maxRecDepth 20000 in
theorem gX7_sitter_X7_refuse : GoodIn wsX7_sitter (wsV RX7 219 RX7 yX7_refuse wsX7_refuse) := goodIn_app (goodIn_of _ (by decide +kernel)) ggX7_sitter_X7_refuse
theorem dX7_sitter_0 : decode cX7_sitter 0 = .ok (.aload_n 0, 1) := by decide +kernel
theorem dX7_sitter_1 : decode cX7_sitter 1 = .ok (.iconst 0, 1) := by decide +kernel
theorem dX7_sitter_2 : decode cX7_sitter 2 = .ok (.putfield 114, 3) := by decide +kernel
theorem dX7_sitter_5 : decode cX7_sitter 5 = .ok (.aload_n 0, 1) := by decide +kernel
theorem dX7_sitter_6 : decode cX7_sitter 6 = .ok (.iload_n 1, 1) := by decide +kernel
theorem dX7_sitter_7 : decode cX7_sitter 7 = .ok (.invokevirtual 323, 3) := by decide +kernel
theorem dX7_sitter_10 : decode cX7_sitter 10 = .ok (.ifCond .eq 15, 3) := by decide +kernel
theorem dX7_sitter_13 : decode cX7_sitter 13 = .ok (.iload_n 2, 1) := by decide +kernel
theorem dX7_sitter_14 : decode cX7_sitter 14 = .ok (.i2l, 1) := by decide +kernel
theorem dX7_sitter_15 : decode cX7_sitter 15 = .ok (.lconst 0, 1) := by decide +kernel
theorem dX7_sitter_16 : decode cX7_sitter 16 = .ok (.ldc2_w 326, 3) := by decide +kernel
theorem dX7_sitter_19 : decode cX7_sitter 19 = .ok (.invokestatic 122, 3) := by decide +kernel
theorem dX7_sitter_22 : decode cX7_sitter 22 = .ok (.ifCond .ne 22, 3) := by decide +kernel
theorem dX7_sitter_25 : decode cX7_sitter 25 = .ok (.aload_n 0, 1) := by decide +kernel
theorem dX7_sitter_26 : decode cX7_sitter 26 = .ok (.aload_n 0, 1) := by decide +kernel
theorem dX7_sitter_27 : decode cX7_sitter 27 = .ok (.iload_n 1, 1) := by decide +kernel
theorem dX7_sitter_28 : decode cX7_sitter 28 = .ok (.invokevirtual 323, 3) := by decide +kernel
theorem dX7_sitter_31 : decode cX7_sitter 31 = .ok (.ifCond .eq 8, 3) := by decide +kernel
theorem dX7_sitter_34 : decode cX7_sitter 34 = .ok (.bipush (-2), 2) := by decide +kernel
theorem dX7_sitter_36 : decode cX7_sitter 36 = .ok (.goto 4, 3) := by decide +kernel
theorem dX7_sitter_39 : decode cX7_sitter 39 = .ok (.iconst (-1), 1) := by decide +kernel
theorem dX7_sitter_40 : decode cX7_sitter 40 = .ok (.invokevirtual 219, 3) := by decide +kernel
theorem dX7_sitter_43 : decode cX7_sitter 43 = .ok (.ireturn, 1) := by decide +kernel
theorem dX7_sitter_44 : decode cX7_sitter 44 = .ok (.iload_n 2, 1) := by decide +kernel
theorem dX7_sitter_45 : decode cX7_sitter 45 = .ok (.ifCond .ne 12, 3) := by decide +kernel
theorem dX7_sitter_48 : decode cX7_sitter 48 = .ok (.aload_n 0, 1) := by decide +kernel
theorem dX7_sitter_49 : decode cX7_sitter 49 = .ok (.getfield 32, 3) := by decide +kernel
theorem dX7_sitter_52 : decode cX7_sitter 52 = .ok (.iload_n 1, 1) := by decide +kernel
theorem dX7_sitter_53 : decode cX7_sitter 53 = .ok (.iaload, 1) := by decide +kernel
theorem dX7_sitter_54 : decode cX7_sitter 54 = .ok (.goto 23, 3) := by decide +kernel
theorem dX7_sitter_57 : decode cX7_sitter 57 = .ok (.iload_n 2, 1) := by decide +kernel
theorem dX7_sitter_58 : decode cX7_sitter 58 = .ok (.iconst 1, 1) := by decide +kernel
theorem dX7_sitter_59 : decode cX7_sitter 59 = .ok (.if_icmp .ne 12, 3) := by decide +kernel
theorem dX7_sitter_62 : decode cX7_sitter 62 = .ok (.aload_n 0, 1) := by decide +kernel
theorem dX7_sitter_63 : decode cX7_sitter 63 = .ok (.getfield 35, 3) := by decide +kernel
theorem dX7_sitter_66 : decode cX7_sitter 66 = .ok (.iload_n 1, 1) := by decide +kernel
theorem dX7_sitter_67 : decode cX7_sitter 67 = .ok (.iaload, 1) := by decide +kernel
theorem dX7_sitter_68 : decode cX7_sitter 68 = .ok (.goto 9, 3) := by decide +kernel
theorem dX7_sitter_71 : decode cX7_sitter 71 = .ok (.aload_n 0, 1) := by decide +kernel
theorem dX7_sitter_72 : decode cX7_sitter 72 = .ok (.getfield 38, 3) := by decide +kernel
theorem dX7_sitter_75 : decode cX7_sitter 75 = .ok (.iload_n 1, 1) := by decide +kernel
theorem dX7_sitter_76 : decode cX7_sitter 76 = .ok (.iaload, 1) := by decide +kernel
theorem dX7_sitter_77 : decode cX7_sitter 77 = .ok (.ireturn, 1) := by decide +kernel
set_option maxRecDepth 20000 in
theorem ggX7_cell_X7_isCell : GoodIn wsX7_cell wsX7_isCell := goodIn_r _ [8, 9, 10, 11, 7, 12] (by decide +kernel) (by decide +kernel)
set_option maxRecDepth 20000 in
theorem gX7_cell_X7_isCell : GoodIn wsX7_cell (va_wsS RX7 216 yX7_isCell wsX7_isCell) := goodIn_app (goodIn_of _ (by decide +kernel)) ggX7_cell_X7_isCell
set_option maxRecDepth 20000 in
theorem ggX7_cell_X7_in : GoodIn wsX7_cell wsX7_in := goodIn_r _ [12] (by decide +kernel) (by decide +kernel)
set_option maxRecDepth 20000 in
theorem gX7_cell_X7_in : GoodIn wsX7_cell (va_wsS RX7 122 yX7_in wsX7_in) := goodIn_app (goodIn_of _ (by decide +kernel)) ggX7_cell_X7_in
set_option maxRecDepth 20000 in
theorem ggX7_cell_X7_refuse : GoodIn wsX7_cell wsX7_refuse := goodIn_r _ [16, 17, 39, 40, 41, 42, 43, 44, 45, 46, 47, 48, 49, 50, 51, 52, 53, 54, 55, 56, 57, 58, 59, 60, 61, 62, 63, 64, 65, 66, 67, 68, 69, 70, 71, 72, 73, 74, 75, 76, 77, 78, 79, 80, 81, 82, 83, 84, 85, 86, 87, 88, 89, 90, 91] (by decide +kernel) (by decide +kernel)
set_option maxRecDepth 20000 in
theorem gX7_cell_X7_refuse : GoodIn wsX7_cell (wsV RX7 219 RX7 yX7_refuse wsX7_refuse) := goodIn_app (goodIn_of _ (by decide +kernel)) ggX7_cell_X7_refuse
set_option maxRecDepth 20000 in
theorem ggX7_cell_X7_isFree : GoodIn wsX7_cell wsX7_isFree := goodIn_r _ [21, 3, 22, 23, 24, 7, 25, 26, 27, 28, 29, 30, 31, 32, 33, 34, 35, 36, 37, 38, 39, 40, 41, 42, 43, 44, 45, 46, 47, 48, 49, 50, 51, 52, 53, 54, 55, 56, 57, 58, 59, 60, 61, 62, 63, 64, 65, 66, 67, 68, 69, 70, 71, 72, 73, 74, 75, 76, 77, 78, 79, 80, 81, 82, 83, 84, 85, 86, 87, 88, 89, 90, 91] (by decide +kernel) (by decide +kernel)
set_option maxRecDepth 20000 in
theorem gX7_cell_X7_isFree : GoodIn wsX7_cell (wsV RX7 179 RX7 yX7_isFree wsX7_isFree) := goodIn_app (goodIn_of _ (by decide +kernel)) ggX7_cell_X7_isFree
set_option maxRecDepth 20000 in
theorem ggX7_cell_X7_airOn : GoodIn wsX7_cell wsX7_airOn := goodIn_r _ [29, 30, 31, 39, 40, 41, 42, 43, 44, 45, 46, 47, 48, 49, 50, 51, 52, 53, 54, 55, 56, 57, 58, 59, 60, 61, 62, 63, 64, 65, 66, 67, 68, 69, 70, 71, 72, 73, 74, 75, 76, 77, 78, 79, 80, 81, 82, 83, 84, 85, 86, 87, 88, 89, 90, 91] (by decide +kernel) (by decide +kernel)
set_option maxRecDepth 20000 in
theorem gX7_cell_X7_airOn : GoodIn wsX7_cell (wsV RX7 152 RX7 yX7_airOn wsX7_airOn) := goodIn_app (goodIn_of _ (by decide +kernel)) ggX7_cell_X7_airOn
set_option maxRecDepth 20000 in
theorem ggX7_cell_X7_sitterOn : GoodIn wsX7_cell wsX7_sitterOn := goodIn_r _ [35, 36, 37, 38, 39, 40, 41, 42, 43, 44, 45, 46, 47, 48, 49, 50, 51, 52, 53, 54, 55, 56, 57, 58, 59, 60, 61, 62, 63, 64, 65, 66, 67, 68, 69, 70, 71, 72, 73, 74, 75, 76, 77, 78, 79, 80, 81, 82, 83, 84, 85, 86, 87, 88, 89, 90, 91] (by decide +kernel) (by decide +kernel)
set_option maxRecDepth 20000 in
theorem gX7_cell_X7_sitterOn : GoodIn wsX7_cell (wsV RX7 156 RX7 yX7_sitterOn wsX7_sitterOn) := goodIn_app (goodIn_of _ (by decide +kernel)) ggX7_cell_X7_sitterOn
theorem dX7_cell_0 : decode cX7_cell 0 = .ok (.aload_n 0, 1) := by decide +kernel
theorem dX7_cell_1 : decode cX7_cell 1 = .ok (.iconst 0, 1) := by decide +kernel
theorem dX7_cell_2 : decode cX7_cell 2 = .ok (.putfield 114, 3) := by decide +kernel
theorem dX7_cell_5 : decode cX7_cell 5 = .ok (.iload_n 1, 1) := by decide +kernel
theorem dX7_cell_6 : decode cX7_cell 6 = .ok (.invokestatic 216, 3) := by decide +kernel
theorem dX7_cell_9 : decode cX7_cell 9 = .ok (.ifCond .eq 15, 3) := by decide +kernel
theorem dX7_cell_12 : decode cX7_cell 12 = .ok (.iload_n 2, 1) := by decide +kernel
theorem dX7_cell_13 : decode cX7_cell 13 = .ok (.i2l, 1) := by decide +kernel
theorem dX7_cell_14 : decode cX7_cell 14 = .ok (.lconst 0, 1) := by decide +kernel
theorem dX7_cell_15 : decode cX7_cell 15 = .ok (.ldc2_w 328, 3) := by decide +kernel
theorem dX7_cell_18 : decode cX7_cell 18 = .ok (.invokestatic 122, 3) := by decide +kernel
theorem dX7_cell_21 : decode cX7_cell 21 = .ok (.ifCond .ne 21, 3) := by decide +kernel
theorem dX7_cell_24 : decode cX7_cell 24 = .ok (.aload_n 0, 1) := by decide +kernel
theorem dX7_cell_25 : decode cX7_cell 25 = .ok (.iload_n 1, 1) := by decide +kernel
theorem dX7_cell_26 : decode cX7_cell 26 = .ok (.invokestatic 216, 3) := by decide +kernel
theorem dX7_cell_29 : decode cX7_cell 29 = .ok (.ifCond .eq 8, 3) := by decide +kernel
theorem dX7_cell_32 : decode cX7_cell 32 = .ok (.bipush (-2), 2) := by decide +kernel
theorem dX7_cell_34 : decode cX7_cell 34 = .ok (.goto 4, 3) := by decide +kernel
theorem dX7_cell_37 : decode cX7_cell 37 = .ok (.iconst (-1), 1) := by decide +kernel
theorem dX7_cell_38 : decode cX7_cell 38 = .ok (.invokevirtual 219, 3) := by decide +kernel
theorem dX7_cell_41 : decode cX7_cell 41 = .ok (.ireturn, 1) := by decide +kernel
theorem dX7_cell_42 : decode cX7_cell 42 = .ok (.iload_n 2, 1) := by decide +kernel
theorem dX7_cell_43 : decode cX7_cell 43 = .ok (.tableswitch 62 0 3 #[29, 36, 50, 56], 29) := by decide +kernel
theorem dX7_cell_72 : decode cX7_cell 72 = .ok (.aload_n 0, 1) := by decide +kernel
theorem dX7_cell_73 : decode cX7_cell 73 = .ok (.getfield 13, 3) := by decide +kernel
theorem dX7_cell_76 : decode cX7_cell 76 = .ok (.iload_n 1, 1) := by decide +kernel
theorem dX7_cell_77 : decode cX7_cell 77 = .ok (.iaload, 1) := by decide +kernel
theorem dX7_cell_78 : decode cX7_cell 78 = .ok (.ireturn, 1) := by decide +kernel
theorem dX7_cell_79 : decode cX7_cell 79 = .ok (.aload_n 0, 1) := by decide +kernel
theorem dX7_cell_80 : decode cX7_cell 80 = .ok (.iload_n 1, 1) := by decide +kernel
theorem dX7_cell_81 : decode cX7_cell 81 = .ok (.invokevirtual 179, 3) := by decide +kernel
theorem dX7_cell_84 : decode cX7_cell 84 = .ok (.ifCond .eq 7, 3) := by decide +kernel
theorem dX7_cell_87 : decode cX7_cell 87 = .ok (.iconst 1, 1) := by decide +kernel
theorem dX7_cell_88 : decode cX7_cell 88 = .ok (.goto 4, 3) := by decide +kernel
theorem dX7_cell_91 : decode cX7_cell 91 = .ok (.iconst 0, 1) := by decide +kernel
theorem dX7_cell_92 : decode cX7_cell 92 = .ok (.ireturn, 1) := by decide +kernel
theorem dX7_cell_93 : decode cX7_cell 93 = .ok (.aload_n 0, 1) := by decide +kernel
theorem dX7_cell_94 : decode cX7_cell 94 = .ok (.iload_n 1, 1) := by decide +kernel
theorem dX7_cell_95 : decode cX7_cell 95 = .ok (.invokevirtual 152, 3) := by decide +kernel
theorem dX7_cell_98 : decode cX7_cell 98 = .ok (.ireturn, 1) := by decide +kernel
theorem dX7_cell_99 : decode cX7_cell 99 = .ok (.aload_n 0, 1) := by decide +kernel
theorem dX7_cell_100 : decode cX7_cell 100 = .ok (.iload_n 1, 1) := by decide +kernel
theorem dX7_cell_101 : decode cX7_cell 101 = .ok (.invokevirtual 156, 3) := by decide +kernel
theorem dX7_cell_104 : decode cX7_cell 104 = .ok (.ireturn, 1) := by decide +kernel
theorem dX7_cell_105 : decode cX7_cell 105 = .ok (.aload_n 0, 1) := by decide +kernel
theorem dX7_cell_106 : decode cX7_cell 106 = .ok (.getfield 7, 3) := by decide +kernel
theorem dX7_cell_109 : decode cX7_cell 109 = .ok (.iload_n 1, 1) := by decide +kernel
theorem dX7_cell_110 : decode cX7_cell 110 = .ok (.faload, 1) := by decide +kernel
theorem dX7_cell_111 : decode cX7_cell 111 = .ok (.f2i, 1) := by decide +kernel
theorem dX7_cell_112 : decode cX7_cell 112 = .ok (.ireturn, 1) := by decide +kernel
set_option maxRecDepth 20000 in
theorem ggX7_warm_X7_isCell : GoodIn wsX7_warm wsX7_isCell := goodIn_r _ [6, 7, 8, 9, 5, 10] (by decide +kernel) (by decide +kernel)
set_option maxRecDepth 20000 in
theorem gX7_warm_X7_isCell : GoodIn wsX7_warm (va_wsS RX7 216 yX7_isCell wsX7_isCell) := goodIn_app (goodIn_of _ (by decide +kernel)) ggX7_warm_X7_isCell
set_option maxRecDepth 20000 in
theorem ggX7_warm_Jxf58ca_floatToIntBits_5c35a : GoodIn wsX7_warm wsJxf58ca_floatToIntBits_5c35a := goodIn_r _ [14, 15, 16, 17, 18, 19, 20, 21, 13, 22] (by decide +kernel) (by decide +kernel)
set_option maxRecDepth 20000 in
theorem gX7_warm_Jxf58ca_floatToIntBits_5c35a : GoodIn wsX7_warm (va_wsS RX7 330 yJxf58ca_floatToIntBits_5c35a wsJxf58ca_floatToIntBits_5c35a) := goodIn_app (goodIn_of _ (by decide +kernel)) ggX7_warm_Jxf58ca_floatToIntBits_5c35a
theorem dX7_warm_0 : decode cX7_warm 0 = .ok (.aload_n 0, 1) := by decide +kernel
theorem dX7_warm_1 : decode cX7_warm 1 = .ok (.iconst 0, 1) := by decide +kernel
theorem dX7_warm_2 : decode cX7_warm 2 = .ok (.putfield 114, 3) := by decide +kernel
theorem dX7_warm_5 : decode cX7_warm 5 = .ok (.iload_n 1, 1) := by decide +kernel
theorem dX7_warm_6 : decode cX7_warm 6 = .ok (.invokestatic 216, 3) := by decide +kernel
theorem dX7_warm_9 : decode cX7_warm 9 = .ok (.ifCond .eq 15, 3) := by decide +kernel
theorem dX7_warm_12 : decode cX7_warm 12 = .ok (.aload_n 0, 1) := by decide +kernel
theorem dX7_warm_13 : decode cX7_warm 13 = .ok (.getfield 7, 3) := by decide +kernel
theorem dX7_warm_16 : decode cX7_warm 16 = .ok (.iload_n 1, 1) := by decide +kernel
theorem dX7_warm_17 : decode cX7_warm 17 = .ok (.faload, 1) := by decide +kernel
theorem dX7_warm_18 : decode cX7_warm 18 = .ok (.invokestatic 330, 3) := by decide +kernel
theorem dX7_warm_21 : decode cX7_warm 21 = .ok (.goto 4, 3) := by decide +kernel
theorem dX7_warm_24 : decode cX7_warm 24 = .ok (.iconst 0, 1) := by decide +kernel
theorem dX7_warm_25 : decode cX7_warm 25 = .ok (.ireturn, 1) := by decide +kernel
set_option maxRecDepth 20000 in
theorem ggX7_comes_X7_in : GoodIn wsX7_comes wsX7_in := goodIn_r _ [8] (by decide +kernel) (by decide +kernel)
set_option maxRecDepth 20000 in
theorem gX7_comes_X7_in : GoodIn wsX7_comes (va_wsS RX7 122 yX7_in wsX7_in) := goodIn_app (goodIn_of _ (by decide +kernel)) ggX7_comes_X7_in
set_option maxRecDepth 20000 in
theorem ggX7_comes_X7_refuse : GoodIn wsX7_comes wsX7_refuse := goodIn_r _ [12, 13, 47, 48, 49, 50, 51, 52, 53, 54, 55, 56, 57, 58, 59, 60, 61, 62, 63, 64, 65, 66, 67, 68, 69, 70, 71, 72, 73, 74, 75, 76, 77, 78, 79, 80, 81, 82, 83, 84, 85, 86, 87, 88, 89, 90, 91, 92, 93, 94, 95, 96, 97, 98, 99] (by decide +kernel) (by decide +kernel)
set_option maxRecDepth 20000 in
theorem gX7_comes_X7_refuse : GoodIn wsX7_comes (wsV RX7 219 RX7 yX7_refuse wsX7_refuse) := goodIn_app (goodIn_of _ (by decide +kernel)) ggX7_comes_X7_refuse
set_option maxRecDepth 20000 in
theorem ggX7_comes_X7_isCell : GoodIn wsX7_comes wsX7_isCell := goodIn_r _ [16, 17, 5, 6, 7, 8] (by decide +kernel) (by decide +kernel)
set_option maxRecDepth 20000 in
theorem gX7_comes_X7_isCell : GoodIn wsX7_comes (va_wsS RX7 216 yX7_isCell wsX7_isCell) := goodIn_app (goodIn_of _ (by decide +kernel)) ggX7_comes_X7_isCell
set_option maxRecDepth 20000 in
theorem ggX7_comes_X7_isFree : GoodIn wsX7_comes wsX7_isFree := goodIn_r _ [21, 22, 23, 24, 25, 7, 26, 27, 28, 29, 30, 3, 31, 32, 33, 34, 35, 36, 37, 38, 47, 48, 49, 50, 51, 52, 53, 54, 55, 56, 57, 58, 59, 60, 61, 62, 63, 64, 65, 66, 67, 68, 69, 70, 71, 72, 73, 74, 75, 76, 77, 78, 79, 80, 81, 82, 83, 84, 85, 86, 87, 88, 89, 90, 91, 92, 93, 94, 95, 96, 97, 98, 99] (by decide +kernel) (by decide +kernel)
set_option maxRecDepth 20000 in
theorem gX7_comes_X7_isFree : GoodIn wsX7_comes (wsV RX7 179 RX7 yX7_isFree wsX7_isFree) := goodIn_app (goodIn_of _ (by decide +kernel)) ggX7_comes_X7_isFree
set_option maxRecDepth 20000 in
theorem ggX7_comes_X7_airComesNew : GoodIn wsX7_comes wsX7_airComesNew := goodIn_r _ [42, 3, 43, 44, 31, 45, 46, 14, 15, 7, 16, 17, 5, 6, 8, 18, 19, 20, 21, 22, 23, 24, 25, 26, 27, 28, 29, 30, 32, 33, 34, 35, 36, 37, 38, 47, 48, 49, 50, 51, 52, 53, 54, 55, 56, 57, 58, 59, 60, 61, 62, 63, 64, 65, 66, 67, 68, 69, 70, 71, 72, 73, 74, 75, 76, 77, 78, 79, 80, 81, 82, 83, 84, 85, 86, 87, 88, 89, 90, 91, 92, 93, 94, 95, 96, 97, 98, 99] (by decide +kernel) (by decide +kernel)
set_option maxRecDepth 20000 in
theorem gX7_comes_X7_airComesNew : GoodIn wsX7_comes (wsV RX7 266 RX7 yX7_airComesNew wsX7_airComesNew) := goodIn_app (goodIn_of _ (by decide +kernel)) ggX7_comes_X7_airComesNew
theorem dX7_comes_0 : decode cX7_comes 0 = .ok (.aload_n 0, 1) := by decide +kernel
theorem dX7_comes_1 : decode cX7_comes 1 = .ok (.iconst 0, 1) := by decide +kernel
theorem dX7_comes_2 : decode cX7_comes 2 = .ok (.putfield 114, 3) := by decide +kernel
theorem dX7_comes_5 : decode cX7_comes 5 = .ok (.iload_n 1, 1) := by decide +kernel
theorem dX7_comes_6 : decode cX7_comes 6 = .ok (.i2l, 1) := by decide +kernel
theorem dX7_comes_7 : decode cX7_comes 7 = .ok (.lconst 0, 1) := by decide +kernel
theorem dX7_comes_8 : decode cX7_comes 8 = .ok (.ldc2_w 336, 3) := by decide +kernel
theorem dX7_comes_11 : decode cX7_comes 11 = .ok (.invokestatic 122, 3) := by decide +kernel
theorem dX7_comes_14 : decode cX7_comes 14 = .ok (.ifCond .ne 10, 3) := by decide +kernel
theorem dX7_comes_17 : decode cX7_comes 17 = .ok (.aload_n 0, 1) := by decide +kernel
theorem dX7_comes_18 : decode cX7_comes 18 = .ok (.bipush (-2), 2) := by decide +kernel
theorem dX7_comes_20 : decode cX7_comes 20 = .ok (.invokevirtual 219, 3) := by decide +kernel
theorem dX7_comes_23 : decode cX7_comes 23 = .ok (.ireturn, 1) := by decide +kernel
theorem dX7_comes_24 : decode cX7_comes 24 = .ok (.iload_n 2, 1) := by decide +kernel
theorem dX7_comes_25 : decode cX7_comes 25 = .ok (.ifCond .lt 17, 3) := by decide +kernel
theorem dX7_comes_28 : decode cX7_comes 28 = .ok (.iload_n 2, 1) := by decide +kernel
theorem dX7_comes_29 : decode cX7_comes 29 = .ok (.bipush 9, 2) := by decide +kernel
theorem dX7_comes_31 : decode cX7_comes 31 = .ok (.if_icmp .gt 11, 3) := by decide +kernel
theorem dX7_comes_34 : decode cX7_comes 34 = .ok (.aload_n 0, 1) := by decide +kernel
theorem dX7_comes_35 : decode cX7_comes 35 = .ok (.getfield 119, 3) := by decide +kernel
theorem dX7_comes_38 : decode cX7_comes 38 = .ok (.iconst 5, 1) := by decide +kernel
theorem dX7_comes_39 : decode cX7_comes 39 = .ok (.if_icmp .ne 19, 3) := by decide +kernel
theorem dX7_comes_42 : decode cX7_comes 42 = .ok (.aload_n 0, 1) := by decide +kernel
theorem dX7_comes_43 : decode cX7_comes 43 = .ok (.iload_n 2, 1) := by decide +kernel
theorem dX7_comes_44 : decode cX7_comes 44 = .ok (.ifCond .ge 8, 3) := by decide +kernel
theorem dX7_comes_47 : decode cX7_comes 47 = .ok (.bipush (-4), 2) := by decide +kernel
theorem dX7_comes_49 : decode cX7_comes 49 = .ok (.goto 5, 3) := by decide +kernel
theorem dX7_comes_52 : decode cX7_comes 52 = .ok (.bipush (-6), 2) := by decide +kernel
theorem dX7_comes_54 : decode cX7_comes 54 = .ok (.invokevirtual 219, 3) := by decide +kernel
theorem dX7_comes_57 : decode cX7_comes 57 = .ok (.ireturn, 1) := by decide +kernel
theorem dX7_comes_58 : decode cX7_comes 58 = .ok (.iload_n 3, 1) := by decide +kernel
theorem dX7_comes_59 : decode cX7_comes 59 = .ok (.invokestatic 216, 3) := by decide +kernel
theorem dX7_comes_62 : decode cX7_comes 62 = .ok (.ifCond .eq 11, 3) := by decide +kernel
theorem dX7_comes_65 : decode cX7_comes 65 = .ok (.aload_n 0, 1) := by decide +kernel
theorem dX7_comes_66 : decode cX7_comes 66 = .ok (.iload_n 3, 1) := by decide +kernel
theorem dX7_comes_67 : decode cX7_comes 67 = .ok (.invokevirtual 179, 3) := by decide +kernel
theorem dX7_comes_70 : decode cX7_comes 70 = .ok (.ifCond .ne 21, 3) := by decide +kernel
theorem dX7_comes_73 : decode cX7_comes 73 = .ok (.aload_n 0, 1) := by decide +kernel
theorem dX7_comes_74 : decode cX7_comes 74 = .ok (.iload_n 3, 1) := by decide +kernel
theorem dX7_comes_75 : decode cX7_comes 75 = .ok (.invokestatic 216, 3) := by decide +kernel
theorem dX7_comes_78 : decode cX7_comes 78 = .ok (.ifCond .eq 8, 3) := by decide +kernel
theorem dX7_comes_81 : decode cX7_comes 81 = .ok (.bipush (-3), 2) := by decide +kernel
theorem dX7_comes_83 : decode cX7_comes 83 = .ok (.goto 4, 3) := by decide +kernel
theorem dX7_comes_86 : decode cX7_comes 86 = .ok (.iconst (-1), 1) := by decide +kernel
theorem dX7_comes_87 : decode cX7_comes 87 = .ok (.invokevirtual 219, 3) := by decide +kernel
theorem dX7_comes_90 : decode cX7_comes 90 = .ok (.ireturn, 1) := by decide +kernel
theorem dX7_comes_91 : decode cX7_comes 91 = .ok (.aload_n 0, 1) := by decide +kernel
theorem dX7_comes_92 : decode cX7_comes 92 = .ok (.iload_n 1, 1) := by decide +kernel
theorem dX7_comes_93 : decode cX7_comes 93 = .ok (.iload_n 2, 1) := by decide +kernel
theorem dX7_comes_94 : decode cX7_comes 94 = .ok (.iload_n 3, 1) := by decide +kernel
theorem dX7_comes_95 : decode cX7_comes 95 = .ok (.iconst 0, 1) := by decide +kernel
theorem dX7_comes_96 : decode cX7_comes 96 = .ok (.invokevirtual 266, 3) := by decide +kernel
theorem dX7_comes_99 : decode cX7_comes 99 = .ok (.pop, 1) := by decide +kernel
theorem dX7_comes_100 : decode cX7_comes 100 = .ok (.aload_n 0, 1) := by decide +kernel
theorem dX7_comes_101 : decode cX7_comes 101 = .ok (.iconst 0, 1) := by decide +kernel
theorem dX7_comes_102 : decode cX7_comes 102 = .ok (.putfield 298, 3) := by decide +kernel
theorem dX7_comes_105 : decode cX7_comes 105 = .ok (.aload_n 0, 1) := by decide +kernel
theorem dX7_comes_106 : decode cX7_comes 106 = .ok (.getfield 119, 3) := by decide +kernel
theorem dX7_comes_109 : decode cX7_comes 109 = .ok (.iconst 1, 1) := by decide +kernel
theorem dX7_comes_110 : decode cX7_comes 110 = .ok (.isub, 1) := by decide +kernel
theorem dX7_comes_111 : decode cX7_comes 111 = .ok (.ireturn, 1) := by decide +kernel
set_option maxRecDepth 20000 in
theorem ggX7_sitsDown_X7_isCell : GoodIn wsX7_sitsDown wsX7_isCell := goodIn_r _ [7, 8, 9, 10, 6, 11] (by decide +kernel) (by decide +kernel)
set_option maxRecDepth 20000 in
theorem gX7_sitsDown_X7_isCell : GoodIn wsX7_sitsDown (va_wsS RX7 216 yX7_isCell wsX7_isCell) := goodIn_app (goodIn_of _ (by decide +kernel)) ggX7_sitsDown_X7_isCell
set_option maxRecDepth 20000 in
theorem ggX7_sitsDown_X7_refuse : GoodIn wsX7_sitsDown wsX7_refuse := goodIn_r _ [15, 16, 43, 44, 45, 46, 47, 48, 49, 50, 51, 52, 53, 54, 55, 56, 57, 58, 59, 60, 61, 62, 63, 64, 65, 66, 67, 68, 69, 70, 71, 72, 73, 74, 75, 76, 77, 78, 79, 80, 81, 82, 83, 84, 85, 86, 87, 88, 89, 90, 91, 92, 93, 94, 95] (by decide +kernel) (by decide +kernel)
set_option maxRecDepth 20000 in
theorem gX7_sitsDown_X7_refuse : GoodIn wsX7_sitsDown (wsV RX7 219 RX7 yX7_refuse wsX7_refuse) := goodIn_app (goodIn_of _ (by decide +kernel)) ggX7_sitsDown_X7_refuse
set_option maxRecDepth 20000 in
theorem ggX7_sitsDown_X7_isFree : GoodIn wsX7_sitsDown wsX7_isFree := goodIn_r _ [20, 21, 22, 23, 24, 6, 25, 26, 27, 28, 29, 30, 31, 32, 33, 34, 35, 2, 36, 37, 43, 44, 45, 46, 47, 48, 49, 50, 51, 52, 53, 54, 55, 56, 57, 58, 59, 60, 61, 62, 63, 64, 65, 66, 67, 68, 69, 70, 71, 72, 73, 74, 75, 76, 77, 78, 79, 80, 81, 82, 83, 84, 85, 86, 87, 88, 89, 90, 91, 92, 93, 94, 95] (by decide +kernel) (by decide +kernel)
set_option maxRecDepth 20000 in
theorem gX7_sitsDown_X7_isFree : GoodIn wsX7_sitsDown (wsV RX7 179 RX7 yX7_isFree wsX7_isFree) := goodIn_app (goodIn_of _ (by decide +kernel)) ggX7_sitsDown_X7_isFree
set_option maxRecDepth 20000 in
theorem ggX7_sitsDown_X7_sitterComes : GoodIn wsX7_sitsDown wsX7_sitterComes := goodIn_r _ [41, 2, 36, 42, 37, 4, 5, 6, 7, 8, 9, 10, 11, 17, 18, 19, 20, 21, 22, 23, 24, 25, 26, 27, 28, 29, 30, 31, 32, 33, 34, 35, 43, 44, 45, 46, 47, 48, 49, 50, 51, 52, 53, 54, 55, 56, 57, 58, 59, 60, 61, 62, 63, 64, 65, 66, 67, 68, 69, 70, 71, 72, 73, 74, 75, 76, 77, 78, 79, 80, 81, 82, 83, 84, 85, 86, 87, 88, 89, 90, 91, 92, 93, 94, 95] (by decide +kernel) (by decide +kernel)
set_option maxRecDepth 20000 in
theorem gX7_sitsDown_X7_sitterComes : GoodIn wsX7_sitsDown (wsV RX7 270 RX7 yX7_sitterComes wsX7_sitterComes) := goodIn_app (goodIn_of _ (by decide +kernel)) ggX7_sitsDown_X7_sitterComes
theorem dX7_sitsDown_0 : decode cX7_sitsDown 0 = .ok (.aload_n 0, 1) := by decide +kernel
theorem dX7_sitsDown_1 : decode cX7_sitsDown 1 = .ok (.iconst 0, 1) := by decide +kernel
theorem dX7_sitsDown_2 : decode cX7_sitsDown 2 = .ok (.putfield 114, 3) := by decide +kernel
theorem dX7_sitsDown_5 : decode cX7_sitsDown 5 = .ok (.iload_n 1, 1) := by decide +kernel
theorem dX7_sitsDown_6 : decode cX7_sitsDown 6 = .ok (.invokestatic 216, 3) := by decide +kernel
theorem dX7_sitsDown_9 : decode cX7_sitsDown 9 = .ok (.ifCond .ne 9, 3) := by decide +kernel
theorem dX7_sitsDown_12 : decode cX7_sitsDown 12 = .ok (.aload_n 0, 1) := by decide +kernel
theorem dX7_sitsDown_13 : decode cX7_sitsDown 13 = .ok (.iconst (-1), 1) := by decide +kernel
theorem dX7_sitsDown_14 : decode cX7_sitsDown 14 = .ok (.invokevirtual 219, 3) := by decide +kernel
theorem dX7_sitsDown_17 : decode cX7_sitsDown 17 = .ok (.ireturn, 1) := by decide +kernel
theorem dX7_sitsDown_18 : decode cX7_sitsDown 18 = .ok (.aload_n 0, 1) := by decide +kernel
theorem dX7_sitsDown_19 : decode cX7_sitsDown 19 = .ok (.getfield 126, 3) := by decide +kernel
theorem dX7_sitsDown_22 : decode cX7_sitsDown 22 = .ok (.bipush 6, 2) := by decide +kernel
theorem dX7_sitsDown_24 : decode cX7_sitsDown 24 = .ok (.if_icmp .eq 11, 3) := by decide +kernel
theorem dX7_sitsDown_27 : decode cX7_sitsDown 27 = .ok (.aload_n 0, 1) := by decide +kernel
theorem dX7_sitsDown_28 : decode cX7_sitsDown 28 = .ok (.iload_n 1, 1) := by decide +kernel
theorem dX7_sitsDown_29 : decode cX7_sitsDown 29 = .ok (.invokevirtual 179, 3) := by decide +kernel
theorem dX7_sitsDown_32 : decode cX7_sitsDown 32 = .ok (.ifCond .ne 24, 3) := by decide +kernel
theorem dX7_sitsDown_35 : decode cX7_sitsDown 35 = .ok (.aload_n 0, 1) := by decide +kernel
theorem dX7_sitsDown_36 : decode cX7_sitsDown 36 = .ok (.aload_n 0, 1) := by decide +kernel
theorem dX7_sitsDown_37 : decode cX7_sitsDown 37 = .ok (.getfield 126, 3) := by decide +kernel
theorem dX7_sitsDown_40 : decode cX7_sitsDown 40 = .ok (.bipush 6, 2) := by decide +kernel
theorem dX7_sitsDown_42 : decode cX7_sitsDown 42 = .ok (.if_icmp .ne 8, 3) := by decide +kernel
theorem dX7_sitsDown_45 : decode cX7_sitsDown 45 = .ok (.bipush (-6), 2) := by decide +kernel
theorem dX7_sitsDown_47 : decode cX7_sitsDown 47 = .ok (.goto 5, 3) := by decide +kernel
theorem dX7_sitsDown_50 : decode cX7_sitsDown 50 = .ok (.bipush (-3), 2) := by decide +kernel
theorem dX7_sitsDown_52 : decode cX7_sitsDown 52 = .ok (.invokevirtual 219, 3) := by decide +kernel
theorem dX7_sitsDown_55 : decode cX7_sitsDown 55 = .ok (.ireturn, 1) := by decide +kernel
theorem dX7_sitsDown_56 : decode cX7_sitsDown 56 = .ok (.aload_n 0, 1) := by decide +kernel
theorem dX7_sitsDown_57 : decode cX7_sitsDown 57 = .ok (.iload_n 1, 1) := by decide +kernel
theorem dX7_sitsDown_58 : decode cX7_sitsDown 58 = .ok (.iconst 0, 1) := by decide +kernel
theorem dX7_sitsDown_59 : decode cX7_sitsDown 59 = .ok (.invokevirtual 270, 3) := by decide +kernel
theorem dX7_sitsDown_62 : decode cX7_sitsDown 62 = .ok (.pop, 1) := by decide +kernel
theorem dX7_sitsDown_63 : decode cX7_sitsDown 63 = .ok (.aload_n 0, 1) := by decide +kernel
theorem dX7_sitsDown_64 : decode cX7_sitsDown 64 = .ok (.iconst 0, 1) := by decide +kernel
theorem dX7_sitsDown_65 : decode cX7_sitsDown 65 = .ok (.putfield 298, 3) := by decide +kernel
theorem dX7_sitsDown_68 : decode cX7_sitsDown 68 = .ok (.aload_n 0, 1) := by decide +kernel
theorem dX7_sitsDown_69 : decode cX7_sitsDown 69 = .ok (.getfield 126, 3) := by decide +kernel
theorem dX7_sitsDown_72 : decode cX7_sitsDown 72 = .ok (.iconst 1, 1) := by decide +kernel
theorem dX7_sitsDown_73 : decode cX7_sitsDown 73 = .ok (.isub, 1) := by decide +kernel
theorem dX7_sitsDown_74 : decode cX7_sitsDown 74 = .ok (.ireturn, 1) := by decide +kernel
set_option maxRecDepth 20000 in
theorem ggX7_shuts_X7_isCell : GoodIn wsX7_shuts wsX7_isCell := goodIn_r _ [6, 7, 8, 9, 5, 10] (by decide +kernel) (by decide +kernel)
set_option maxRecDepth 20000 in
theorem gX7_shuts_X7_isCell : GoodIn wsX7_shuts (va_wsS RX7 216 yX7_isCell wsX7_isCell) := goodIn_app (goodIn_of _ (by decide +kernel)) ggX7_shuts_X7_isCell
set_option maxRecDepth 20000 in
theorem ggX7_shuts_X7_refuse : GoodIn wsX7_shuts wsX7_refuse := goodIn_r _ [14, 15, 64, 65, 66, 67, 68, 69, 70, 71, 72, 73, 74, 75, 76, 77, 78, 79, 80, 81, 82, 83, 84, 85, 86, 87, 88, 89, 90, 91, 92, 93, 94, 95, 96, 97, 98, 99, 100, 101, 102, 103, 104, 105, 106, 107, 108, 109, 110, 111, 112, 113, 114, 115, 116] (by decide +kernel) (by decide +kernel)
set_option maxRecDepth 20000 in
theorem gX7_shuts_X7_refuse : GoodIn wsX7_shuts (wsV RX7 219 RX7 yX7_refuse wsX7_refuse) := goodIn_app (goodIn_of _ (by decide +kernel)) ggX7_shuts_X7_refuse
set_option maxRecDepth 20000 in
theorem ggX7_shuts_X7_isEmpty : GoodIn wsX7_shuts wsX7_isEmpty := goodIn_r _ [19, 20, 21, 22, 5, 23, 24, 25, 26, 27, 28, 29, 30, 31, 32, 64, 65, 66, 67, 68, 69, 70, 71, 72, 73, 74, 75, 76, 77, 78, 79, 80, 81, 82, 83, 84, 85, 86, 87, 88, 89, 90, 91, 92, 93, 94, 95, 96, 97, 98, 99, 100, 101, 102, 103, 104, 105, 106, 107, 108, 109, 110, 111, 112, 113, 114, 115, 116] (by decide +kernel) (by decide +kernel)
set_option maxRecDepth 20000 in
theorem gX7_shuts_X7_isEmpty : GoodIn wsX7_shuts (wsV RX7 159 RX7 yX7_isEmpty wsX7_isEmpty) := goodIn_app (goodIn_of _ (by decide +kernel)) ggX7_shuts_X7_isEmpty
set_option maxRecDepth 20000 in
theorem ggX7_shuts_X7_keepTurn : GoodIn wsX7_shuts wsX7_keepTurn := goodIn_r _ [36, 37, 38, 39, 40, 41, 42, 43, 44, 5, 45, 46, 47, 48, 24, 30, 49, 50, 51, 52, 53, 25, 54, 55, 31, 56, 32, 57, 58, 2, 59, 60, 61, 62, 63, 64, 65, 66, 67, 68, 69, 70, 71, 72, 73, 74, 75, 76, 77, 78, 79, 80, 81, 82, 83, 84, 85, 86, 87, 88, 89, 90, 91, 92, 93, 94, 95, 96, 97, 98, 99, 100, 101, 102, 103, 104, 105, 106, 107, 108, 109, 110, 111, 112, 113, 114, 115, 116] (by decide +kernel) (by decide +kernel)
set_option maxRecDepth 20000 in
theorem gX7_shuts_X7_keepTurn : GoodIn wsX7_shuts (wsV RX7 338 RX7 yX7_keepTurn wsX7_keepTurn) := goodIn_app (goodIn_of _ (by decide +kernel)) ggX7_shuts_X7_keepTurn
theorem dX7_shuts_0 : decode cX7_shuts 0 = .ok (.aload_n 0, 1) := by decide +kernel
theorem dX7_shuts_1 : decode cX7_shuts 1 = .ok (.iconst 0, 1) := by decide +kernel
theorem dX7_shuts_2 : decode cX7_shuts 2 = .ok (.putfield 114, 3) := by decide +kernel
theorem dX7_shuts_5 : decode cX7_shuts 5 = .ok (.iload_n 1, 1) := by decide +kernel
theorem dX7_shuts_6 : decode cX7_shuts 6 = .ok (.invokestatic 216, 3) := by decide +kernel
theorem dX7_shuts_9 : decode cX7_shuts 9 = .ok (.ifCond .ne 9, 3) := by decide +kernel
theorem dX7_shuts_12 : decode cX7_shuts 12 = .ok (.aload_n 0, 1) := by decide +kernel
theorem dX7_shuts_13 : decode cX7_shuts 13 = .ok (.iconst (-1), 1) := by decide +kernel
theorem dX7_shuts_14 : decode cX7_shuts 14 = .ok (.invokevirtual 219, 3) := by decide +kernel
theorem dX7_shuts_17 : decode cX7_shuts 17 = .ok (.ireturn, 1) := by decide +kernel
theorem dX7_shuts_18 : decode cX7_shuts 18 = .ok (.aload_n 0, 1) := by decide +kernel
theorem dX7_shuts_19 : decode cX7_shuts 19 = .ok (.getfield 13, 3) := by decide +kernel
theorem dX7_shuts_22 : decode cX7_shuts 22 = .ok (.iload_n 1, 1) := by decide +kernel
theorem dX7_shuts_23 : decode cX7_shuts 23 = .ok (.iaload, 1) := by decide +kernel
theorem dX7_shuts_24 : decode cX7_shuts 24 = .ok (.ifCond .ne 18, 3) := by decide +kernel
theorem dX7_shuts_27 : decode cX7_shuts 27 = .ok (.aload_n 0, 1) := by decide +kernel
theorem dX7_shuts_28 : decode cX7_shuts 28 = .ok (.iload_n 1, 1) := by decide +kernel
theorem dX7_shuts_29 : decode cX7_shuts 29 = .ok (.invokevirtual 159, 3) := by decide +kernel
theorem dX7_shuts_32 : decode cX7_shuts 32 = .ok (.ifCond .ne 10, 3) := by decide +kernel
theorem dX7_shuts_35 : decode cX7_shuts 35 = .ok (.aload_n 0, 1) := by decide +kernel
theorem dX7_shuts_36 : decode cX7_shuts 36 = .ok (.bipush (-3), 2) := by decide +kernel
theorem dX7_shuts_38 : decode cX7_shuts 38 = .ok (.invokevirtual 219, 3) := by decide +kernel
theorem dX7_shuts_41 : decode cX7_shuts 41 = .ok (.ireturn, 1) := by decide +kernel
theorem dX7_shuts_42 : decode cX7_shuts 42 = .ok (.aload_n 0, 1) := by decide +kernel
theorem dX7_shuts_43 : decode cX7_shuts 43 = .ok (.invokevirtual 338, 3) := by decide +kernel
theorem dX7_shuts_46 : decode cX7_shuts 46 = .ok (.aload_n 0, 1) := by decide +kernel
theorem dX7_shuts_47 : decode cX7_shuts 47 = .ok (.getfield 13, 3) := by decide +kernel
theorem dX7_shuts_50 : decode cX7_shuts 50 = .ok (.iload_n 1, 1) := by decide +kernel
theorem dX7_shuts_51 : decode cX7_shuts 51 = .ok (.iconst 1, 1) := by decide +kernel
theorem dX7_shuts_52 : decode cX7_shuts 52 = .ok (.aload_n 0, 1) := by decide +kernel
theorem dX7_shuts_53 : decode cX7_shuts 53 = .ok (.getfield 13, 3) := by decide +kernel
theorem dX7_shuts_56 : decode cX7_shuts 56 = .ok (.iload_n 1, 1) := by decide +kernel
theorem dX7_shuts_57 : decode cX7_shuts 57 = .ok (.iaload, 1) := by decide +kernel
theorem dX7_shuts_58 : decode cX7_shuts 58 = .ok (.isub, 1) := by decide +kernel
theorem dX7_shuts_59 : decode cX7_shuts 59 = .ok (.iastore, 1) := by decide +kernel
theorem dX7_shuts_60 : decode cX7_shuts 60 = .ok (.aload_n 0, 1) := by decide +kernel
theorem dX7_shuts_61 : decode cX7_shuts 61 = .ok (.getfield 13, 3) := by decide +kernel
theorem dX7_shuts_64 : decode cX7_shuts 64 = .ok (.iload_n 1, 1) := by decide +kernel
theorem dX7_shuts_65 : decode cX7_shuts 65 = .ok (.iaload, 1) := by decide +kernel
theorem dX7_shuts_66 : decode cX7_shuts 66 = .ok (.ireturn, 1) := by decide +kernel
set_option maxRecDepth 20000 in
theorem ggX7_warms_X7_isCell : GoodIn wsX7_warms wsX7_isCell := goodIn_r _ [8, 9, 10, 11, 7, 12] (by decide +kernel) (by decide +kernel)
set_option maxRecDepth 20000 in
theorem gX7_warms_X7_isCell : GoodIn wsX7_warms (va_wsS RX7 216 yX7_isCell wsX7_isCell) := goodIn_app (goodIn_of _ (by decide +kernel)) ggX7_warms_X7_isCell
set_option maxRecDepth 20000 in
theorem ggX7_warms_X7_refuse : GoodIn wsX7_warms wsX7_refuse := goodIn_r _ [16, 17, 54, 55, 56, 57, 58, 59, 60, 61, 62, 63, 64, 65, 66, 67, 68, 69, 70, 71, 72, 73, 74, 75, 76, 77, 78, 79, 80, 81, 82, 83, 84, 85, 86, 87, 88, 89, 90, 91, 92, 93, 94, 95, 96, 97, 98, 99, 100, 101, 102, 103, 104, 105, 106] (by decide +kernel) (by decide +kernel)
set_option maxRecDepth 20000 in
theorem gX7_warms_X7_refuse : GoodIn wsX7_warms (wsV RX7 219 RX7 yX7_refuse wsX7_refuse) := goodIn_app (goodIn_of _ (by decide +kernel)) ggX7_warms_X7_refuse
set_option maxRecDepth 20000 in
theorem ggX7_warms_X7_in : GoodIn wsX7_warms wsX7_in := goodIn_r _ [12] (by decide +kernel) (by decide +kernel)
set_option maxRecDepth 20000 in
theorem gX7_warms_X7_in : GoodIn wsX7_warms (va_wsS RX7 122 yX7_in wsX7_in) := goodIn_app (goodIn_of _ (by decide +kernel)) ggX7_warms_X7_in
set_option maxRecDepth 20000 in
theorem ggX7_warms_X7_keepTurn : GoodIn wsX7_warms wsX7_keepTurn := goodIn_r _ [21, 22, 23, 24, 25, 26, 27, 28, 29, 7, 30, 31, 32, 33, 34, 35, 36, 37, 38, 39, 40, 41, 42, 43, 44, 45, 46, 47, 48, 49, 4, 50, 51, 52, 53, 54, 55, 56, 57, 58, 59, 60, 61, 62, 63, 64, 65, 66, 67, 68, 69, 70, 71, 72, 73, 74, 75, 76, 77, 78, 79, 80, 81, 82, 83, 84, 85, 86, 87, 88, 89, 90, 91, 92, 93, 94, 95, 96, 97, 98, 99, 100, 101, 102, 103, 104, 105, 106] (by decide +kernel) (by decide +kernel)
set_option maxRecDepth 20000 in
theorem gX7_warms_X7_keepTurn : GoodIn wsX7_warms (wsV RX7 338 RX7 yX7_keepTurn wsX7_keepTurn) := goodIn_app (goodIn_of _ (by decide +kernel)) ggX7_warms_X7_keepTurn
theorem dX7_warms_0 : decode cX7_warms 0 = .ok (.aload_n 0, 1) := by decide +kernel
theorem dX7_warms_1 : decode cX7_warms 1 = .ok (.iconst 0, 1) := by decide +kernel
theorem dX7_warms_2 : decode cX7_warms 2 = .ok (.putfield 114, 3) := by decide +kernel
theorem dX7_warms_5 : decode cX7_warms 5 = .ok (.iload_n 1, 1) := by decide +kernel
theorem dX7_warms_6 : decode cX7_warms 6 = .ok (.invokestatic 216, 3) := by decide +kernel
theorem dX7_warms_9 : decode cX7_warms 9 = .ok (.ifCond .ne 9, 3) := by decide +kernel
theorem dX7_warms_12 : decode cX7_warms 12 = .ok (.aload_n 0, 1) := by decide +kernel
theorem dX7_warms_13 : decode cX7_warms 13 = .ok (.iconst (-1), 1) := by decide +kernel
theorem dX7_warms_14 : decode cX7_warms 14 = .ok (.invokevirtual 219, 3) := by decide +kernel
theorem dX7_warms_17 : decode cX7_warms 17 = .ok (.ireturn, 1) := by decide +kernel
theorem dX7_warms_18 : decode cX7_warms 18 = .ok (.iload_n 2, 1) := by decide +kernel
theorem dX7_warms_19 : decode cX7_warms 19 = .ok (.i2l, 1) := by decide +kernel
theorem dX7_warms_20 : decode cX7_warms 20 = .ok (.ldc2_w 341, 3) := by decide +kernel
theorem dX7_warms_23 : decode cX7_warms 23 = .ok (.ldc2_w 343, 3) := by decide +kernel
theorem dX7_warms_26 : decode cX7_warms 26 = .ok (.invokestatic 122, 3) := by decide +kernel
theorem dX7_warms_29 : decode cX7_warms 29 = .ok (.ifCond .ne 19, 3) := by decide +kernel
theorem dX7_warms_32 : decode cX7_warms 32 = .ok (.aload_n 0, 1) := by decide +kernel
theorem dX7_warms_33 : decode cX7_warms 33 = .ok (.iload_n 2, 1) := by decide +kernel
theorem dX7_warms_34 : decode cX7_warms 34 = .ok (.ifCond .ge 8, 3) := by decide +kernel
theorem dX7_warms_37 : decode cX7_warms 37 = .ok (.bipush (-4), 2) := by decide +kernel
theorem dX7_warms_39 : decode cX7_warms 39 = .ok (.goto 5, 3) := by decide +kernel
theorem dX7_warms_42 : decode cX7_warms 42 = .ok (.bipush (-6), 2) := by decide +kernel
theorem dX7_warms_44 : decode cX7_warms 44 = .ok (.invokevirtual 219, 3) := by decide +kernel
theorem dX7_warms_47 : decode cX7_warms 47 = .ok (.ireturn, 1) := by decide +kernel
theorem dX7_warms_48 : decode cX7_warms 48 = .ok (.aload_n 0, 1) := by decide +kernel
theorem dX7_warms_49 : decode cX7_warms 49 = .ok (.invokevirtual 338, 3) := by decide +kernel
theorem dX7_warms_52 : decode cX7_warms 52 = .ok (.aload_n 0, 1) := by decide +kernel
theorem dX7_warms_53 : decode cX7_warms 53 = .ok (.getfield 7, 3) := by decide +kernel
theorem dX7_warms_56 : decode cX7_warms 56 = .ok (.iload_n 1, 1) := by decide +kernel
theorem dX7_warms_57 : decode cX7_warms 57 = .ok (.faload, 1) := by decide +kernel
theorem dX7_warms_58 : decode cX7_warms 58 = .ok (.f2i, 1) := by decide +kernel
theorem dX7_warms_59 : decode cX7_warms 59 = .ok (.istore_n 3, 1) := by decide +kernel
theorem dX7_warms_60 : decode cX7_warms 60 = .ok (.aload_n 0, 1) := by decide +kernel
theorem dX7_warms_61 : decode cX7_warms 61 = .ok (.getfield 7, 3) := by decide +kernel
theorem dX7_warms_64 : decode cX7_warms 64 = .ok (.iload_n 1, 1) := by decide +kernel
theorem dX7_warms_65 : decode cX7_warms 65 = .ok (.iload_n 2, 1) := by decide +kernel
theorem dX7_warms_66 : decode cX7_warms 66 = .ok (.i2f, 1) := by decide +kernel
theorem dX7_warms_67 : decode cX7_warms 67 = .ok (.fastore, 1) := by decide +kernel
theorem dX7_warms_68 : decode cX7_warms 68 = .ok (.iload_n 3, 1) := by decide +kernel
theorem dX7_warms_69 : decode cX7_warms 69 = .ok (.ireturn, 1) := by decide +kernel
set_option maxRecDepth 20000 in
theorem ggX7_sits_X7_isSitter : GoodIn wsX7_sits wsX7_isSitter := goodIn_r _ [8, 9, 10, 11, 7, 12, 72, 73, 74, 75, 76, 77, 78, 79, 80, 81, 82, 83, 84, 85, 86, 87, 88, 89, 90, 91, 92, 93, 94, 95, 96, 97, 98, 99, 100, 101, 102, 103, 104, 105, 106, 107, 108, 109, 110, 111, 112, 113, 114, 115, 116, 117, 118, 119, 120, 121, 122, 123, 124] (by decide +kernel) (by decide +kernel)
set_option maxRecDepth 20000 in
theorem gX7_sits_X7_isSitter : GoodIn wsX7_sits (wsV RX7 323 RX7 yX7_isSitter wsX7_isSitter) := goodIn_app (goodIn_of _ (by decide +kernel)) ggX7_sits_X7_isSitter
set_option maxRecDepth 20000 in
theorem ggX7_sits_X7_isCell : GoodIn wsX7_sits wsX7_isCell := goodIn_r _ [15, 16, 10, 11, 7, 12] (by decide +kernel) (by decide +kernel)
set_option maxRecDepth 20000 in
theorem gX7_sits_X7_isCell : GoodIn wsX7_sits (va_wsS RX7 216 yX7_isCell wsX7_isCell) := goodIn_app (goodIn_of _ (by decide +kernel)) ggX7_sits_X7_isCell
set_option maxRecDepth 20000 in
theorem ggX7_sits_X7_refuse : GoodIn wsX7_sits wsX7_refuse := goodIn_r _ [20, 21, 72, 73, 74, 75, 76, 77, 78, 79, 80, 81, 82, 83, 84, 85, 86, 87, 88, 89, 90, 91, 92, 93, 94, 95, 96, 97, 98, 99, 100, 101, 102, 103, 104, 105, 106, 107, 108, 109, 110, 111, 112, 113, 114, 115, 116, 117, 118, 119, 120, 121, 122, 123, 124] (by decide +kernel) (by decide +kernel)
set_option maxRecDepth 20000 in
theorem gX7_sits_X7_refuse : GoodIn wsX7_sits (wsV RX7 219 RX7 yX7_refuse wsX7_refuse) := goodIn_app (goodIn_of _ (by decide +kernel)) ggX7_sits_X7_refuse
set_option maxRecDepth 20000 in
theorem ggX7_sits_X7_isFree : GoodIn wsX7_sits wsX7_isFree := goodIn_r _ [25, 26, 27, 28, 29, 7, 30, 31, 32, 33, 34, 35, 36, 37, 38, 39, 40, 9, 2, 3, 72, 73, 74, 75, 76, 77, 78, 79, 80, 81, 82, 83, 84, 85, 86, 87, 88, 89, 90, 91, 92, 93, 94, 95, 96, 97, 98, 99, 100, 101, 102, 103, 104, 105, 106, 107, 108, 109, 110, 111, 112, 113, 114, 115, 116, 117, 118, 119, 120, 121, 122, 123, 124] (by decide +kernel) (by decide +kernel)
set_option maxRecDepth 20000 in
theorem gX7_sits_X7_isFree : GoodIn wsX7_sits (wsV RX7 179 RX7 yX7_isFree wsX7_isFree) := goodIn_app (goodIn_of _ (by decide +kernel)) ggX7_sits_X7_isFree
set_option maxRecDepth 20000 in
theorem ggX7_sits_X7_keepTurn : GoodIn wsX7_sits wsX7_keepTurn := goodIn_r _ [44, 45, 46, 47, 48, 49, 50, 51, 52, 7, 53, 54, 55, 56, 35, 9, 57, 58, 59, 60, 61, 36, 62, 63, 2, 64, 3, 65, 66, 26, 67, 68, 69, 70, 71, 72, 73, 74, 75, 76, 77, 78, 79, 80, 81, 82, 83, 84, 85, 86, 87, 88, 89, 90, 91, 92, 93, 94, 95, 96, 97, 98, 99, 100, 101, 102, 103, 104, 105, 106, 107, 108, 109, 110, 111, 112, 113, 114, 115, 116, 117, 118, 119, 120, 121, 122, 123, 124] (by decide +kernel) (by decide +kernel)
set_option maxRecDepth 20000 in
theorem gX7_sits_X7_keepTurn : GoodIn wsX7_sits (wsV RX7 338 RX7 yX7_keepTurn wsX7_keepTurn) := goodIn_app (goodIn_of _ (by decide +kernel)) ggX7_sits_X7_keepTurn
theorem dX7_sits_0 : decode cX7_sits 0 = .ok (.aload_n 0, 1) := by decide +kernel
theorem dX7_sits_1 : decode cX7_sits 1 = .ok (.iconst 0, 1) := by decide +kernel
theorem dX7_sits_2 : decode cX7_sits 2 = .ok (.putfield 114, 3) := by decide +kernel
theorem dX7_sits_5 : decode cX7_sits 5 = .ok (.aload_n 0, 1) := by decide +kernel
theorem dX7_sits_6 : decode cX7_sits 6 = .ok (.iload_n 1, 1) := by decide +kernel
theorem dX7_sits_7 : decode cX7_sits 7 = .ok (.invokevirtual 323, 3) := by decide +kernel
theorem dX7_sits_10 : decode cX7_sits 10 = .ok (.ifCond .eq 10, 3) := by decide +kernel
theorem dX7_sits_13 : decode cX7_sits 13 = .ok (.iload_n 2, 1) := by decide +kernel
theorem dX7_sits_14 : decode cX7_sits 14 = .ok (.invokestatic 216, 3) := by decide +kernel
theorem dX7_sits_17 : decode cX7_sits 17 = .ok (.ifCond .ne 9, 3) := by decide +kernel
theorem dX7_sits_20 : decode cX7_sits 20 = .ok (.aload_n 0, 1) := by decide +kernel
theorem dX7_sits_21 : decode cX7_sits 21 = .ok (.iconst (-1), 1) := by decide +kernel
theorem dX7_sits_22 : decode cX7_sits 22 = .ok (.invokevirtual 219, 3) := by decide +kernel
theorem dX7_sits_25 : decode cX7_sits 25 = .ok (.ireturn, 1) := by decide +kernel
theorem dX7_sits_26 : decode cX7_sits 26 = .ok (.aload_n 0, 1) := by decide +kernel
theorem dX7_sits_27 : decode cX7_sits 27 = .ok (.iload_n 2, 1) := by decide +kernel
theorem dX7_sits_28 : decode cX7_sits 28 = .ok (.invokevirtual 179, 3) := by decide +kernel
theorem dX7_sits_31 : decode cX7_sits 31 = .ok (.ifCond .ne 10, 3) := by decide +kernel
theorem dX7_sits_34 : decode cX7_sits 34 = .ok (.aload_n 0, 1) := by decide +kernel
theorem dX7_sits_35 : decode cX7_sits 35 = .ok (.bipush (-3), 2) := by decide +kernel
theorem dX7_sits_37 : decode cX7_sits 37 = .ok (.invokevirtual 219, 3) := by decide +kernel
theorem dX7_sits_40 : decode cX7_sits 40 = .ok (.ireturn, 1) := by decide +kernel
theorem dX7_sits_41 : decode cX7_sits 41 = .ok (.aload_n 0, 1) := by decide +kernel
theorem dX7_sits_42 : decode cX7_sits 42 = .ok (.invokevirtual 338, 3) := by decide +kernel
theorem dX7_sits_45 : decode cX7_sits 45 = .ok (.aload_n 0, 1) := by decide +kernel
theorem dX7_sits_46 : decode cX7_sits 46 = .ok (.getfield 32, 3) := by decide +kernel
theorem dX7_sits_49 : decode cX7_sits 49 = .ok (.iload_n 1, 1) := by decide +kernel
theorem dX7_sits_50 : decode cX7_sits 50 = .ok (.iaload, 1) := by decide +kernel
theorem dX7_sits_51 : decode cX7_sits 51 = .ok (.istore_n 3, 1) := by decide +kernel
theorem dX7_sits_52 : decode cX7_sits 52 = .ok (.aload_n 0, 1) := by decide +kernel
theorem dX7_sits_53 : decode cX7_sits 53 = .ok (.getfield 32, 3) := by decide +kernel
theorem dX7_sits_56 : decode cX7_sits 56 = .ok (.iload_n 1, 1) := by decide +kernel
theorem dX7_sits_57 : decode cX7_sits 57 = .ok (.iload_n 2, 1) := by decide +kernel
theorem dX7_sits_58 : decode cX7_sits 58 = .ok (.iastore, 1) := by decide +kernel
theorem dX7_sits_59 : decode cX7_sits 59 = .ok (.aload_n 0, 1) := by decide +kernel
theorem dX7_sits_60 : decode cX7_sits 60 = .ok (.getfield 38, 3) := by decide +kernel
theorem dX7_sits_63 : decode cX7_sits 63 = .ok (.iload_n 1, 1) := by decide +kernel
theorem dX7_sits_64 : decode cX7_sits 64 = .ok (.iconst 1, 1) := by decide +kernel
theorem dX7_sits_65 : decode cX7_sits 65 = .ok (.iastore, 1) := by decide +kernel
theorem dX7_sits_66 : decode cX7_sits 66 = .ok (.iload_n 3, 1) := by decide +kernel
theorem dX7_sits_67 : decode cX7_sits 67 = .ok (.ireturn, 1) := by decide +kernel
set_option maxRecDepth 20000 in
theorem ggX7_blows_X7_isAir : GoodIn wsX7_blows wsX7_isAir := goodIn_r _ [8, 9, 10, 11, 7, 12, 53, 54, 55, 56, 57, 58, 59, 60, 61, 62, 63, 64, 65, 66, 67, 68, 69, 70, 71, 72, 73, 74, 75, 76, 77, 78, 79, 80, 81, 82, 83, 84, 85, 86, 87, 88, 89, 90, 91, 92, 93, 94, 95, 96, 97, 98, 99, 100, 101, 102, 103, 104, 105] (by decide +kernel) (by decide +kernel)
set_option maxRecDepth 20000 in
theorem gX7_blows_X7_isAir : GoodIn wsX7_blows (wsV RX7 320 RX7 yX7_isAir wsX7_isAir) := goodIn_app (goodIn_of _ (by decide +kernel)) ggX7_blows_X7_isAir
set_option maxRecDepth 20000 in
theorem ggX7_blows_X7_in : GoodIn wsX7_blows wsX7_in := goodIn_r _ [12] (by decide +kernel) (by decide +kernel)
set_option maxRecDepth 20000 in
theorem gX7_blows_X7_in : GoodIn wsX7_blows (va_wsS RX7 122 yX7_in wsX7_in) := goodIn_app (goodIn_of _ (by decide +kernel)) ggX7_blows_X7_in
set_option maxRecDepth 20000 in
theorem ggX7_blows_X7_refuse : GoodIn wsX7_blows wsX7_refuse := goodIn_r _ [16, 17, 53, 54, 55, 56, 57, 58, 59, 60, 61, 62, 63, 64, 65, 66, 67, 68, 69, 70, 71, 72, 73, 74, 75, 76, 77, 78, 79, 80, 81, 82, 83, 84, 85, 86, 87, 88, 89, 90, 91, 92, 93, 94, 95, 96, 97, 98, 99, 100, 101, 102, 103, 104, 105] (by decide +kernel) (by decide +kernel)
set_option maxRecDepth 20000 in
theorem gX7_blows_X7_refuse : GoodIn wsX7_blows (wsV RX7 219 RX7 yX7_refuse wsX7_refuse) := goodIn_app (goodIn_of _ (by decide +kernel)) ggX7_blows_X7_refuse
set_option maxRecDepth 20000 in
theorem ggX7_blows_X7_keepTurn : GoodIn wsX7_blows wsX7_keepTurn := goodIn_r _ [21, 22, 23, 24, 25, 26, 27, 28, 29, 7, 30, 31, 32, 33, 9, 34, 35, 36, 37, 38, 39, 40, 3, 41, 42, 43, 44, 45, 46, 47, 48, 49, 50, 51, 52, 53, 54, 55, 56, 57, 58, 59, 60, 61, 62, 63, 64, 65, 66, 67, 68, 69, 70, 71, 72, 73, 74, 75, 76, 77, 78, 79, 80, 81, 82, 83, 84, 85, 86, 87, 88, 89, 90, 91, 92, 93, 94, 95, 96, 97, 98, 99, 100, 101, 102, 103, 104, 105] (by decide +kernel) (by decide +kernel)
set_option maxRecDepth 20000 in
theorem gX7_blows_X7_keepTurn : GoodIn wsX7_blows (wsV RX7 338 RX7 yX7_keepTurn wsX7_keepTurn) := goodIn_app (goodIn_of _ (by decide +kernel)) ggX7_blows_X7_keepTurn
theorem dX7_blows_0 : decode cX7_blows 0 = .ok (.aload_n 0, 1) := by decide +kernel
theorem dX7_blows_1 : decode cX7_blows 1 = .ok (.iconst 0, 1) := by decide +kernel
theorem dX7_blows_2 : decode cX7_blows 2 = .ok (.putfield 114, 3) := by decide +kernel
theorem dX7_blows_5 : decode cX7_blows 5 = .ok (.aload_n 0, 1) := by decide +kernel
theorem dX7_blows_6 : decode cX7_blows 6 = .ok (.iload_n 1, 1) := by decide +kernel
theorem dX7_blows_7 : decode cX7_blows 7 = .ok (.invokevirtual 320, 3) := by decide +kernel
theorem dX7_blows_10 : decode cX7_blows 10 = .ok (.ifCond .eq 15, 3) := by decide +kernel
theorem dX7_blows_13 : decode cX7_blows 13 = .ok (.iload_n 2, 1) := by decide +kernel
theorem dX7_blows_14 : decode cX7_blows 14 = .ok (.i2l, 1) := by decide +kernel
theorem dX7_blows_15 : decode cX7_blows 15 = .ok (.lconst 0, 1) := by decide +kernel
theorem dX7_blows_16 : decode cX7_blows 16 = .ok (.ldc2_w 345, 3) := by decide +kernel
theorem dX7_blows_19 : decode cX7_blows 19 = .ok (.invokestatic 122, 3) := by decide +kernel
theorem dX7_blows_22 : decode cX7_blows 22 = .ok (.ifCond .ne 22, 3) := by decide +kernel
theorem dX7_blows_25 : decode cX7_blows 25 = .ok (.aload_n 0, 1) := by decide +kernel
theorem dX7_blows_26 : decode cX7_blows 26 = .ok (.aload_n 0, 1) := by decide +kernel
theorem dX7_blows_27 : decode cX7_blows 27 = .ok (.iload_n 1, 1) := by decide +kernel
theorem dX7_blows_28 : decode cX7_blows 28 = .ok (.invokevirtual 320, 3) := by decide +kernel
theorem dX7_blows_31 : decode cX7_blows 31 = .ok (.ifCond .eq 8, 3) := by decide +kernel
theorem dX7_blows_34 : decode cX7_blows 34 = .ok (.bipush (-2), 2) := by decide +kernel
theorem dX7_blows_36 : decode cX7_blows 36 = .ok (.goto 4, 3) := by decide +kernel
theorem dX7_blows_39 : decode cX7_blows 39 = .ok (.iconst (-1), 1) := by decide +kernel
theorem dX7_blows_40 : decode cX7_blows 40 = .ok (.invokevirtual 219, 3) := by decide +kernel
theorem dX7_blows_43 : decode cX7_blows 43 = .ok (.ireturn, 1) := by decide +kernel
theorem dX7_blows_44 : decode cX7_blows 44 = .ok (.aload_n 0, 1) := by decide +kernel
theorem dX7_blows_45 : decode cX7_blows 45 = .ok (.invokevirtual 338, 3) := by decide +kernel
theorem dX7_blows_48 : decode cX7_blows 48 = .ok (.aload_n 0, 1) := by decide +kernel
theorem dX7_blows_49 : decode cX7_blows 49 = .ok (.getfield 26, 3) := by decide +kernel
theorem dX7_blows_52 : decode cX7_blows 52 = .ok (.iload_n 1, 1) := by decide +kernel
theorem dX7_blows_53 : decode cX7_blows 53 = .ok (.iaload, 1) := by decide +kernel
theorem dX7_blows_54 : decode cX7_blows 54 = .ok (.istore_n 3, 1) := by decide +kernel
theorem dX7_blows_55 : decode cX7_blows 55 = .ok (.aload_n 0, 1) := by decide +kernel
theorem dX7_blows_56 : decode cX7_blows 56 = .ok (.getfield 26, 3) := by decide +kernel
theorem dX7_blows_59 : decode cX7_blows 59 = .ok (.iload_n 1, 1) := by decide +kernel
theorem dX7_blows_60 : decode cX7_blows 60 = .ok (.iload_n 2, 1) := by decide +kernel
theorem dX7_blows_61 : decode cX7_blows 61 = .ok (.iastore, 1) := by decide +kernel
theorem dX7_blows_62 : decode cX7_blows 62 = .ok (.iload_n 3, 1) := by decide +kernel
theorem dX7_blows_63 : decode cX7_blows 63 = .ok (.ireturn, 1) := by decide +kernel
set_option maxRecDepth 20000 in
theorem ggX7_wraps_X7_isSitter : GoodIn wsX7_wraps wsX7_isSitter := goodIn_r _ [7, 8, 9, 10, 6, 11, 55, 56, 57, 58, 59, 60, 61, 62, 63, 64, 65, 66, 67, 68, 69, 70, 71, 72, 73, 74, 75, 76, 77, 78, 79, 80, 81, 82, 83, 84, 85, 86, 87, 88, 89, 90, 91, 92, 93, 94, 95, 96, 97, 98, 99, 100, 101, 102, 103, 104, 105, 106, 107] (by decide +kernel) (by decide +kernel)
set_option maxRecDepth 20000 in
theorem gX7_wraps_X7_isSitter : GoodIn wsX7_wraps (wsV RX7 323 RX7 yX7_isSitter wsX7_isSitter) := goodIn_app (goodIn_of _ (by decide +kernel)) ggX7_wraps_X7_isSitter
set_option maxRecDepth 20000 in
theorem ggX7_wraps_X7_refuse : GoodIn wsX7_wraps wsX7_refuse := goodIn_r _ [15, 16, 55, 56, 57, 58, 59, 60, 61, 62, 63, 64, 65, 66, 67, 68, 69, 70, 71, 72, 73, 74, 75, 76, 77, 78, 79, 80, 81, 82, 83, 84, 85, 86, 87, 88, 89, 90, 91, 92, 93, 94, 95, 96, 97, 98, 99, 100, 101, 102, 103, 104, 105, 106, 107] (by decide +kernel) (by decide +kernel)
set_option maxRecDepth 20000 in
theorem gX7_wraps_X7_refuse : GoodIn wsX7_wraps (wsV RX7 219 RX7 yX7_refuse wsX7_refuse) := goodIn_app (goodIn_of _ (by decide +kernel)) ggX7_wraps_X7_refuse
set_option maxRecDepth 20000 in
theorem ggX7_wraps_X7_wrongNumber : GoodIn wsX7_wraps wsX7_wrongNumber := goodIn_r _ [19] (by decide +kernel) (by decide +kernel)
set_option maxRecDepth 20000 in
theorem gX7_wraps_X7_wrongNumber : GoodIn wsX7_wraps (va_wsS RX7 347 yX7_wrongNumber wsX7_wrongNumber) := goodIn_app (goodIn_of _ (by decide +kernel)) ggX7_wraps_X7_wrongNumber
set_option maxRecDepth 20000 in
theorem ggX7_wraps_X7_keepTurn : GoodIn wsX7_wraps wsX7_keepTurn := goodIn_r _ [23, 24, 25, 26, 27, 28, 29, 30, 31, 6, 32, 33, 34, 35, 36, 8, 37, 38, 39, 40, 41, 42, 43, 44, 45, 2, 46, 47, 48, 49, 50, 51, 52, 53, 54, 55, 56, 57, 58, 59, 60, 61, 62, 63, 64, 65, 66, 67, 68, 69, 70, 71, 72, 73, 74, 75, 76, 77, 78, 79, 80, 81, 82, 83, 84, 85, 86, 87, 88, 89, 90, 91, 92, 93, 94, 95, 96, 97, 98, 99, 100, 101, 102, 103, 104, 105, 106, 107] (by decide +kernel) (by decide +kernel)
set_option maxRecDepth 20000 in
theorem gX7_wraps_X7_keepTurn : GoodIn wsX7_wraps (wsV RX7 338 RX7 yX7_keepTurn wsX7_keepTurn) := goodIn_app (goodIn_of _ (by decide +kernel)) ggX7_wraps_X7_keepTurn
theorem dX7_wraps_0 : decode cX7_wraps 0 = .ok (.aload_n 0, 1) := by decide +kernel
theorem dX7_wraps_1 : decode cX7_wraps 1 = .ok (.iconst 0, 1) := by decide +kernel
theorem dX7_wraps_2 : decode cX7_wraps 2 = .ok (.putfield 114, 3) := by decide +kernel
theorem dX7_wraps_5 : decode cX7_wraps 5 = .ok (.aload_n 0, 1) := by decide +kernel
theorem dX7_wraps_6 : decode cX7_wraps 6 = .ok (.iload_n 1, 1) := by decide +kernel
theorem dX7_wraps_7 : decode cX7_wraps 7 = .ok (.invokevirtual 323, 3) := by decide +kernel
theorem dX7_wraps_10 : decode cX7_wraps 10 = .ok (.ifCond .ne 9, 3) := by decide +kernel
theorem dX7_wraps_13 : decode cX7_wraps 13 = .ok (.aload_n 0, 1) := by decide +kernel
theorem dX7_wraps_14 : decode cX7_wraps 14 = .ok (.iconst (-1), 1) := by decide +kernel
theorem dX7_wraps_15 : decode cX7_wraps 15 = .ok (.invokevirtual 219, 3) := by decide +kernel
theorem dX7_wraps_18 : decode cX7_wraps 18 = .ok (.ireturn, 1) := by decide +kernel
theorem dX7_wraps_19 : decode cX7_wraps 19 = .ok (.iload_n 2, 1) := by decide +kernel
theorem dX7_wraps_20 : decode cX7_wraps 20 = .ok (.iconst 0, 1) := by decide +kernel
theorem dX7_wraps_21 : decode cX7_wraps 21 = .ok (.bipush 9, 2) := by decide +kernel
theorem dX7_wraps_23 : decode cX7_wraps 23 = .ok (.invokestatic 347, 3) := by decide +kernel
theorem dX7_wraps_26 : decode cX7_wraps 26 = .ok (.ifCond .ge 15, 3) := by decide +kernel
theorem dX7_wraps_29 : decode cX7_wraps 29 = .ok (.aload_n 0, 1) := by decide +kernel
theorem dX7_wraps_30 : decode cX7_wraps 30 = .ok (.iload_n 2, 1) := by decide +kernel
theorem dX7_wraps_31 : decode cX7_wraps 31 = .ok (.iconst 0, 1) := by decide +kernel
theorem dX7_wraps_32 : decode cX7_wraps 32 = .ok (.bipush 9, 2) := by decide +kernel
theorem dX7_wraps_34 : decode cX7_wraps 34 = .ok (.invokestatic 347, 3) := by decide +kernel
theorem dX7_wraps_37 : decode cX7_wraps 37 = .ok (.invokevirtual 219, 3) := by decide +kernel
theorem dX7_wraps_40 : decode cX7_wraps 40 = .ok (.ireturn, 1) := by decide +kernel
theorem dX7_wraps_41 : decode cX7_wraps 41 = .ok (.aload_n 0, 1) := by decide +kernel
theorem dX7_wraps_42 : decode cX7_wraps 42 = .ok (.invokevirtual 338, 3) := by decide +kernel
theorem dX7_wraps_45 : decode cX7_wraps 45 = .ok (.aload_n 0, 1) := by decide +kernel
theorem dX7_wraps_46 : decode cX7_wraps 46 = .ok (.getfield 35, 3) := by decide +kernel
theorem dX7_wraps_49 : decode cX7_wraps 49 = .ok (.iload_n 1, 1) := by decide +kernel
theorem dX7_wraps_50 : decode cX7_wraps 50 = .ok (.iaload, 1) := by decide +kernel
theorem dX7_wraps_51 : decode cX7_wraps 51 = .ok (.istore_n 3, 1) := by decide +kernel
theorem dX7_wraps_52 : decode cX7_wraps 52 = .ok (.aload_n 0, 1) := by decide +kernel
theorem dX7_wraps_53 : decode cX7_wraps 53 = .ok (.getfield 35, 3) := by decide +kernel
theorem dX7_wraps_56 : decode cX7_wraps 56 = .ok (.iload_n 1, 1) := by decide +kernel
theorem dX7_wraps_57 : decode cX7_wraps 57 = .ok (.iload_n 2, 1) := by decide +kernel
theorem dX7_wraps_58 : decode cX7_wraps 58 = .ok (.iastore, 1) := by decide +kernel
theorem dX7_wraps_59 : decode cX7_wraps 59 = .ok (.iload_n 3, 1) := by decide +kernel
theorem dX7_wraps_60 : decode cX7_wraps 60 = .ok (.ireturn, 1) := by decide +kernel
set_option maxRecDepth 20000 in
theorem ggX7_step_X7_in : GoodIn wsX7_step wsX7_in := goodIn_r _ [9] (by decide +kernel) (by decide +kernel)
set_option maxRecDepth 20000 in
theorem gX7_step_X7_in : GoodIn wsX7_step (va_wsS RX7 122 yX7_in wsX7_in) := goodIn_app (goodIn_of _ (by decide +kernel)) ggX7_step_X7_in
set_option maxRecDepth 20000 in
theorem ggX7_step_X7_refuse : GoodIn wsX7_step wsX7_refuse := goodIn_r _ [13, 14, 52, 53, 54, 55, 56, 57, 58, 59, 60, 61, 62, 63, 64, 65, 66, 67, 68, 69, 70, 71, 72, 73, 74, 75, 76, 77, 78, 79, 80, 81, 82, 83, 84, 85, 86, 87, 88, 89, 90, 91, 92, 93, 94, 95, 96, 97, 98, 99, 100, 101, 102, 103, 104] (by decide +kernel) (by decide +kernel)
set_option maxRecDepth 20000 in
theorem gX7_step_X7_refuse : GoodIn wsX7_step (wsV RX7 219 RX7 yX7_refuse wsX7_refuse) := goodIn_app (goodIn_of _ (by decide +kernel)) ggX7_step_X7_refuse
set_option maxRecDepth 20000 in
theorem ggX7_step_X7_wrongNumber : GoodIn wsX7_step wsX7_wrongNumber := goodIn_r _ [17] (by decide +kernel) (by decide +kernel)
set_option maxRecDepth 20000 in
theorem gX7_step_X7_wrongNumber : GoodIn wsX7_step (va_wsS RX7 347 yX7_wrongNumber wsX7_wrongNumber) := goodIn_app (goodIn_of _ (by decide +kernel)) ggX7_step_X7_wrongNumber
set_option maxRecDepth 20000 in
theorem ggX7_step_X7_keepTurn : GoodIn wsX7_step wsX7_keepTurn := goodIn_r _ [21, 22, 23, 24, 25, 26, 27, 28, 29, 8, 30, 31, 32, 33, 34, 35, 3, 36, 37, 38, 39, 40, 41, 42, 43, 44, 45, 4, 5, 46, 47, 48, 49, 50, 51, 52, 53, 54, 55, 56, 57, 58, 59, 60, 61, 62, 63, 64, 65, 66, 67, 68, 69, 70, 71, 72, 73, 74, 75, 76, 77, 78, 79, 80, 81, 82, 83, 84, 85, 86, 87, 88, 89, 90, 91, 92, 93, 94, 95, 96, 97, 98, 99, 100, 101, 102, 103, 104] (by decide +kernel) (by decide +kernel)
set_option maxRecDepth 20000 in
theorem gX7_step_X7_keepTurn : GoodIn wsX7_step (wsV RX7 338 RX7 yX7_keepTurn wsX7_keepTurn) := goodIn_app (goodIn_of _ (by decide +kernel)) ggX7_step_X7_keepTurn
theorem dX7_step_0 : decode cX7_step 0 = .ok (.aload_n 0, 1) := by decide +kernel
theorem dX7_step_1 : decode cX7_step 1 = .ok (.iconst 0, 1) := by decide +kernel
theorem dX7_step_2 : decode cX7_step 2 = .ok (.putfield 114, 3) := by decide +kernel
theorem dX7_step_5 : decode cX7_step 5 = .ok (.iload_n 1, 1) := by decide +kernel
theorem dX7_step_6 : decode cX7_step 6 = .ok (.i2l, 1) := by decide +kernel
theorem dX7_step_7 : decode cX7_step 7 = .ok (.lconst 0, 1) := by decide +kernel
theorem dX7_step_8 : decode cX7_step 8 = .ok (.ldc2_w 350, 3) := by decide +kernel
theorem dX7_step_11 : decode cX7_step 11 = .ok (.invokestatic 122, 3) := by decide +kernel
theorem dX7_step_14 : decode cX7_step 14 = .ok (.ifCond .ne 10, 3) := by decide +kernel
theorem dX7_step_17 : decode cX7_step 17 = .ok (.aload_n 0, 1) := by decide +kernel
theorem dX7_step_18 : decode cX7_step 18 = .ok (.bipush (-2), 2) := by decide +kernel
theorem dX7_step_20 : decode cX7_step 20 = .ok (.invokevirtual 219, 3) := by decide +kernel
theorem dX7_step_23 : decode cX7_step 23 = .ok (.ireturn, 1) := by decide +kernel
theorem dX7_step_24 : decode cX7_step 24 = .ok (.iload_n 2, 1) := by decide +kernel
theorem dX7_step_25 : decode cX7_step 25 = .ok (.iconst 0, 1) := by decide +kernel
theorem dX7_step_26 : decode cX7_step 26 = .ok (.bipush 99, 2) := by decide +kernel
theorem dX7_step_28 : decode cX7_step 28 = .ok (.invokestatic 347, 3) := by decide +kernel
theorem dX7_step_31 : decode cX7_step 31 = .ok (.istore_n 3, 1) := by decide +kernel
theorem dX7_step_32 : decode cX7_step 32 = .ok (.iload_n 3, 1) := by decide +kernel
theorem dX7_step_33 : decode cX7_step 33 = .ok (.ifCond .ne 17, 3) := by decide +kernel
theorem dX7_step_36 : decode cX7_step 36 = .ok (.aload_n 0, 1) := by decide +kernel
theorem dX7_step_37 : decode cX7_step 37 = .ok (.getfield 199, 3) := by decide +kernel
theorem dX7_step_40 : decode cX7_step 40 = .ok (.bipush 6, 2) := by decide +kernel
theorem dX7_step_42 : decode cX7_step 42 = .ok (.if_icmp .ne 8, 3) := by decide +kernel
theorem dX7_step_45 : decode cX7_step 45 = .ok (.bipush (-6), 2) := by decide +kernel
theorem dX7_step_47 : decode cX7_step 47 = .ok (.goto 4, 3) := by decide +kernel
theorem dX7_step_50 : decode cX7_step 50 = .ok (.iload_n 3, 1) := by decide +kernel
theorem dX7_step_51 : decode cX7_step 51 = .ok (.istore_n 3, 1) := by decide +kernel
theorem dX7_step_52 : decode cX7_step 52 = .ok (.iload_n 3, 1) := by decide +kernel
theorem dX7_step_53 : decode cX7_step 53 = .ok (.ifCond .ge 9, 3) := by decide +kernel
theorem dX7_step_56 : decode cX7_step 56 = .ok (.aload_n 0, 1) := by decide +kernel
theorem dX7_step_57 : decode cX7_step 57 = .ok (.iload_n 3, 1) := by decide +kernel
theorem dX7_step_58 : decode cX7_step 58 = .ok (.invokevirtual 219, 3) := by decide +kernel
theorem dX7_step_61 : decode cX7_step 61 = .ok (.ireturn, 1) := by decide +kernel
theorem dX7_step_62 : decode cX7_step 62 = .ok (.aload_n 0, 1) := by decide +kernel
theorem dX7_step_63 : decode cX7_step 63 = .ok (.invokevirtual 338, 3) := by decide +kernel
theorem dX7_step_66 : decode cX7_step 66 = .ok (.aload_n 0, 1) := by decide +kernel
theorem dX7_step_67 : decode cX7_step 67 = .ok (.getfield 41, 3) := by decide +kernel
theorem dX7_step_70 : decode cX7_step 70 = .ok (.aload_n 0, 1) := by decide +kernel
theorem dX7_step_71 : decode cX7_step 71 = .ok (.getfield 199, 3) := by decide +kernel
theorem dX7_step_74 : decode cX7_step 74 = .ok (.iload_n 1, 1) := by decide +kernel
theorem dX7_step_75 : decode cX7_step 75 = .ok (.iastore, 1) := by decide +kernel
theorem dX7_step_76 : decode cX7_step 76 = .ok (.aload_n 0, 1) := by decide +kernel
theorem dX7_step_77 : decode cX7_step 77 = .ok (.getfield 44, 3) := by decide +kernel
theorem dX7_step_80 : decode cX7_step 80 = .ok (.aload_n 0, 1) := by decide +kernel
theorem dX7_step_81 : decode cX7_step 81 = .ok (.getfield 199, 3) := by decide +kernel
theorem dX7_step_84 : decode cX7_step 84 = .ok (.iload_n 1, 1) := by decide +kernel
theorem dX7_step_85 : decode cX7_step 85 = .ok (.bipush 6, 2) := by decide +kernel
theorem dX7_step_87 : decode cX7_step 87 = .ok (.if_icmp .ne 7, 3) := by decide +kernel
theorem dX7_step_90 : decode cX7_step 90 = .ok (.iconst 0, 1) := by decide +kernel
theorem dX7_step_91 : decode cX7_step 91 = .ok (.goto 4, 3) := by decide +kernel
theorem dX7_step_94 : decode cX7_step 94 = .ok (.iload_n 2, 1) := by decide +kernel
theorem dX7_step_95 : decode cX7_step 95 = .ok (.iastore, 1) := by decide +kernel
theorem dX7_step_96 : decode cX7_step 96 = .ok (.aload_n 0, 1) := by decide +kernel
theorem dX7_step_97 : decode cX7_step 97 = .ok (.dup, 1) := by decide +kernel
theorem dX7_step_98 : decode cX7_step 98 = .ok (.getfield 199, 3) := by decide +kernel
theorem dX7_step_101 : decode cX7_step 101 = .ok (.iconst 1, 1) := by decide +kernel
theorem dX7_step_102 : decode cX7_step 102 = .ok (.iadd, 1) := by decide +kernel
theorem dX7_step_103 : decode cX7_step 103 = .ok (.putfield 199, 3) := by decide +kernel
theorem dX7_step_106 : decode cX7_step 106 = .ok (.aload_n 0, 1) := by decide +kernel
theorem dX7_step_107 : decode cX7_step 107 = .ok (.getfield 199, 3) := by decide +kernel
theorem dX7_step_110 : decode cX7_step 110 = .ok (.ireturn, 1) := by decide +kernel
set_option maxRecDepth 20000 in
theorem ggX7_clearHearth_X7_keepTurn : GoodIn wsX7_clearHearth wsX7_keepTurn := goodIn_r _ [7, 8, 9, 10, 11, 12, 13, 14, 15, 6, 16, 17, 18, 19, 20, 21, 2, 22, 23, 24, 25, 26, 27, 28, 29, 30, 31, 32, 33, 34, 35, 36, 37, 38, 39, 40, 41, 42, 43, 44, 45, 46, 47, 48, 49, 50, 51, 52, 53, 54, 55, 56, 57, 58, 59, 60, 61, 62, 63, 64, 65, 66, 67, 68, 69, 70, 71, 72, 73, 74, 75, 76, 77, 78, 79, 80, 81, 82, 83, 84, 85, 86, 87, 88, 89, 90, 91, 92] (by decide +kernel) (by decide +kernel)
set_option maxRecDepth 20000 in
theorem gX7_clearHearth_X7_keepTurn : GoodIn wsX7_clearHearth (wsV RX7 338 RX7 yX7_keepTurn wsX7_keepTurn) := goodIn_app (goodIn_of _ (by decide +kernel)) ggX7_clearHearth_X7_keepTurn
theorem dX7_clearHearth_0 : decode cX7_clearHearth 0 = .ok (.aload_n 0, 1) := by decide +kernel
theorem dX7_clearHearth_1 : decode cX7_clearHearth 1 = .ok (.iconst 0, 1) := by decide +kernel
theorem dX7_clearHearth_2 : decode cX7_clearHearth 2 = .ok (.putfield 114, 3) := by decide +kernel
theorem dX7_clearHearth_5 : decode cX7_clearHearth 5 = .ok (.aload_n 0, 1) := by decide +kernel
theorem dX7_clearHearth_6 : decode cX7_clearHearth 6 = .ok (.invokevirtual 338, 3) := by decide +kernel
theorem dX7_clearHearth_9 : decode cX7_clearHearth 9 = .ok (.aload_n 0, 1) := by decide +kernel
theorem dX7_clearHearth_10 : decode cX7_clearHearth 10 = .ok (.getfield 199, 3) := by decide +kernel
theorem dX7_clearHearth_13 : decode cX7_clearHearth 13 = .ok (.istore_n 1, 1) := by decide +kernel
theorem dX7_clearHearth_14 : decode cX7_clearHearth 14 = .ok (.aload_n 0, 1) := by decide +kernel
theorem dX7_clearHearth_15 : decode cX7_clearHearth 15 = .ok (.iconst 0, 1) := by decide +kernel
theorem dX7_clearHearth_16 : decode cX7_clearHearth 16 = .ok (.putfield 199, 3) := by decide +kernel
theorem dX7_clearHearth_19 : decode cX7_clearHearth 19 = .ok (.iload_n 1, 1) := by decide +kernel
theorem dX7_clearHearth_20 : decode cX7_clearHearth 20 = .ok (.ireturn, 1) := by decide +kernel
set_option maxRecDepth 20000 in
theorem ggX7_turns_X7_wrongNumber : GoodIn wsX7_turns wsX7_wrongNumber := goodIn_r _ [7] (by decide +kernel) (by decide +kernel)
set_option maxRecDepth 20000 in
theorem gX7_turns_X7_wrongNumber : GoodIn wsX7_turns (va_wsS RX7 347 yX7_wrongNumber wsX7_wrongNumber) := goodIn_app (goodIn_of _ (by decide +kernel)) ggX7_turns_X7_wrongNumber
set_option maxRecDepth 20000 in
theorem ggX7_turns_X7_refuse : GoodIn wsX7_turns wsX7_refuse := goodIn_r _ [11, 12, 130, 131, 132, 133, 134, 135, 136, 137, 138, 139, 140, 141, 142, 143, 144, 145, 146, 147, 148, 149, 150, 151, 152, 153, 154, 155, 156, 157, 158, 159, 160, 161, 162, 163, 164, 165, 166, 167, 168, 169, 170, 171, 172, 173, 174, 175, 176, 177, 178, 179, 180, 181, 182] (by decide +kernel) (by decide +kernel)
set_option maxRecDepth 20000 in
theorem gX7_turns_X7_refuse : GoodIn wsX7_turns (wsV RX7 219 RX7 yX7_refuse wsX7_refuse) := goodIn_app (goodIn_of _ (by decide +kernel)) ggX7_turns_X7_refuse
set_option maxRecDepth 20000 in
theorem ggX7_turns_X7_keepTurn : GoodIn wsX7_turns wsX7_keepTurn := goodIn_r _ [16, 17, 18, 19, 20, 21, 22, 23, 24, 6, 25, 26, 27, 28, 29, 30, 31, 2, 3, 32, 33, 34, 35, 36, 37, 38, 39, 40, 41, 42, 43, 44, 45, 46, 47, 130, 131, 132, 133, 134, 135, 136, 137, 138, 139, 140, 141, 142, 143, 144, 145, 146, 147, 148, 149, 150, 151, 152, 153, 154, 155, 156, 157, 158, 159, 160, 161, 162, 163, 164, 165, 166, 167, 168, 169, 170, 171, 172, 173, 174, 175, 176, 177, 178, 179, 180, 181, 182] (by decide +kernel) (by decide +kernel)
set_option maxRecDepth 20000 in
theorem gX7_turns_X7_keepTurn : GoodIn wsX7_turns (wsV RX7 338 RX7 yX7_keepTurn wsX7_keepTurn) := goodIn_app (goodIn_of _ (by decide +kernel)) ggX7_turns_X7_keepTurn
set_option maxRecDepth 20000 in
theorem ggX7_turns_X7_goTurns : GoodIn wsX7_turns wsX7_goTurns := goodIn_r _ [51, 52, 53, 54, 6, 55, 2, 43, 31, 40, 41, 29, 56, 30, 39, 37, 38, 57, 58, 59, 60, 61, 62, 63, 64, 65, 66, 67, 68, 69, 70, 71, 34, 36, 72, 73, 74, 75, 33, 32, 76, 77, 78, 79, 80, 81, 82, 35, 3, 83, 84, 85, 86, 87, 88, 89, 90, 91, 92, 93, 94, 95, 96, 97, 98, 99, 100, 42, 101, 102, 103, 104, 105, 106, 107, 108, 109, 110, 111, 112, 113, 114, 115, 116, 117, 118, 119, 120, 121, 122, 123, 124, 125, 126, 127, 128, 129, 130, 131, 132, 133, 134, 135, 136, 137, 138, 139, 140, 141, 142, 143, 144, 145, 146, 147, 148, 149, 150, 151, 152, 153, 154, 155, 156, 157, 158, 159, 160, 161, 162, 163, 164, 165, 166, 167, 168, 169, 170, 171, 172, 173, 174, 175, 176, 177, 178, 179, 180, 181, 182] (by decide +kernel) (by decide +kernel)
set_option maxRecDepth 20000 in
theorem gX7_turns_X7_goTurns : GoodIn wsX7_turns (wsV RX7 263 RX7 yX7_goTurns wsX7_goTurns) := goodIn_app (goodIn_of _ (by decide +kernel)) ggX7_turns_X7_goTurns
theorem dX7_turns_0 : decode cX7_turns 0 = .ok (.aload_n 0, 1) := by decide +kernel
theorem dX7_turns_1 : decode cX7_turns 1 = .ok (.iconst 0, 1) := by decide +kernel
theorem dX7_turns_2 : decode cX7_turns 2 = .ok (.putfield 114, 3) := by decide +kernel
theorem dX7_turns_5 : decode cX7_turns 5 = .ok (.iload_n 1, 1) := by decide +kernel
theorem dX7_turns_6 : decode cX7_turns 6 = .ok (.iconst 1, 1) := by decide +kernel
theorem dX7_turns_7 : decode cX7_turns 7 = .ok (.bipush 60, 2) := by decide +kernel
theorem dX7_turns_9 : decode cX7_turns 9 = .ok (.invokestatic 347, 3) := by decide +kernel
theorem dX7_turns_12 : decode cX7_turns 12 = .ok (.istore_n 2, 1) := by decide +kernel
theorem dX7_turns_13 : decode cX7_turns 13 = .ok (.iload_n 2, 1) := by decide +kernel
theorem dX7_turns_14 : decode cX7_turns 14 = .ok (.ifCond .ne 20, 3) := by decide +kernel
theorem dX7_turns_17 : decode cX7_turns 17 = .ok (.aload_n 0, 1) := by decide +kernel
theorem dX7_turns_18 : decode cX7_turns 18 = .ok (.getfield 148, 3) := by decide +kernel
theorem dX7_turns_21 : decode cX7_turns 21 = .ok (.iload_n 1, 1) := by decide +kernel
theorem dX7_turns_22 : decode cX7_turns 22 = .ok (.iadd, 1) := by decide +kernel
theorem dX7_turns_23 : decode cX7_turns 23 = .ok (.sipush 999, 3) := by decide +kernel
theorem dX7_turns_26 : decode cX7_turns 26 = .ok (.if_icmp .le 8, 3) := by decide +kernel
theorem dX7_turns_29 : decode cX7_turns 29 = .ok (.bipush (-6), 2) := by decide +kernel
theorem dX7_turns_31 : decode cX7_turns 31 = .ok (.goto 4, 3) := by decide +kernel
theorem dX7_turns_34 : decode cX7_turns 34 = .ok (.iload_n 2, 1) := by decide +kernel
theorem dX7_turns_35 : decode cX7_turns 35 = .ok (.istore_n 2, 1) := by decide +kernel
theorem dX7_turns_36 : decode cX7_turns 36 = .ok (.iload_n 2, 1) := by decide +kernel
theorem dX7_turns_37 : decode cX7_turns 37 = .ok (.ifCond .ge 9, 3) := by decide +kernel
theorem dX7_turns_40 : decode cX7_turns 40 = .ok (.aload_n 0, 1) := by decide +kernel
theorem dX7_turns_41 : decode cX7_turns 41 = .ok (.iload_n 2, 1) := by decide +kernel
theorem dX7_turns_42 : decode cX7_turns 42 = .ok (.invokevirtual 219, 3) := by decide +kernel
theorem dX7_turns_45 : decode cX7_turns 45 = .ok (.ireturn, 1) := by decide +kernel
theorem dX7_turns_46 : decode cX7_turns 46 = .ok (.aload_n 0, 1) := by decide +kernel
theorem dX7_turns_47 : decode cX7_turns 47 = .ok (.invokevirtual 338, 3) := by decide +kernel
theorem dX7_turns_50 : decode cX7_turns 50 = .ok (.aload_n 0, 1) := by decide +kernel
theorem dX7_turns_51 : decode cX7_turns 51 = .ok (.iload_n 1, 1) := by decide +kernel
theorem dX7_turns_52 : decode cX7_turns 52 = .ok (.invokevirtual 263, 3) := by decide +kernel
theorem dX7_turns_55 : decode cX7_turns 55 = .ok (.aload_n 0, 1) := by decide +kernel
theorem dX7_turns_56 : decode cX7_turns 56 = .ok (.getfield 182, 3) := by decide +kernel
theorem dX7_turns_59 : decode cX7_turns 59 = .ok (.ireturn, 1) := by decide +kernel
set_option maxRecDepth 20000 in
theorem ggX7_airThen_X7_isAir : GoodIn wsX7_airThen wsX7_isAir := goodIn_r _ [7, 8, 9, 10, 6, 11, 135, 136, 137, 138, 139, 140, 141, 142, 143, 144, 145, 146, 147, 148, 149, 150, 151, 152, 153, 154, 155, 156, 157, 158, 159, 160, 161, 162, 163, 164, 165, 166, 167, 168, 169, 170, 171, 172, 173, 174, 175, 176, 177, 178, 179, 180, 181, 182, 183, 184, 185, 186, 187] (by decide +kernel) (by decide +kernel)
set_option maxRecDepth 20000 in
theorem gX7_airThen_X7_isAir : GoodIn wsX7_airThen (wsV RX7 320 RX7 yX7_isAir wsX7_isAir) := goodIn_app (goodIn_of _ (by decide +kernel)) ggX7_airThen_X7_isAir
set_option maxRecDepth 20000 in
theorem ggX7_airThen_X7_refuse : GoodIn wsX7_airThen wsX7_refuse := goodIn_r _ [15, 16, 135, 136, 137, 138, 139, 140, 141, 142, 143, 144, 145, 146, 147, 148, 149, 150, 151, 152, 153, 154, 155, 156, 157, 158, 159, 160, 161, 162, 163, 164, 165, 166, 167, 168, 169, 170, 171, 172, 173, 174, 175, 176, 177, 178, 179, 180, 181, 182, 183, 184, 185, 186, 187] (by decide +kernel) (by decide +kernel)
set_option maxRecDepth 20000 in
theorem gX7_airThen_X7_refuse : GoodIn wsX7_airThen (wsV RX7 219 RX7 yX7_refuse wsX7_refuse) := goodIn_app (goodIn_of _ (by decide +kernel)) ggX7_airThen_X7_refuse
set_option maxRecDepth 20000 in
theorem ggX7_airThen_X7_wrongNumber : GoodIn wsX7_airThen wsX7_wrongNumber := goodIn_r _ [19] (by decide +kernel) (by decide +kernel)
set_option maxRecDepth 20000 in
theorem gX7_airThen_X7_wrongNumber : GoodIn wsX7_airThen (va_wsS RX7 347 yX7_wrongNumber wsX7_wrongNumber) := goodIn_app (goodIn_of _ (by decide +kernel)) ggX7_airThen_X7_wrongNumber
set_option maxRecDepth 20000 in
theorem ggX7_airThen_X7_think : GoodIn wsX7_airThen wsX7_think := goodIn_r _ [23, 24, 25, 26, 27, 28, 6, 29, 30, 31, 32, 8, 33, 34, 35, 36, 37, 38, 2, 39, 40, 41, 42, 43, 44, 45, 46, 47, 48, 49, 50, 51, 135, 136, 137, 138, 139, 140, 141, 142, 143, 144, 145, 146, 147, 148, 149, 150, 151, 152, 153, 154, 155, 156, 157, 158, 159, 160, 161, 162, 163, 164, 165, 166, 167, 168, 169, 170, 171, 172, 173, 174, 175, 176, 177, 178, 179, 180, 181, 182, 183, 184, 185, 186, 187] (by decide +kernel) (by decide +kernel)
set_option maxRecDepth 20000 in
theorem gX7_airThen_X7_think : GoodIn wsX7_airThen (wsV RX7 289 RX7 yX7_think wsX7_think) := goodIn_app (goodIn_of _ (by decide +kernel)) ggX7_airThen_X7_think
set_option maxRecDepth 20000 in
theorem ggX7_airThen_X7_goTurns : GoodIn wsX7_airThen wsX7_goTurns := goodIn_r _ [55, 56, 57, 58, 6, 59, 35, 47, 34, 44, 45, 8, 60, 33, 43, 41, 42, 61, 62, 63, 64, 65, 66, 67, 68, 69, 70, 71, 72, 73, 74, 75, 2, 40, 76, 77, 78, 79, 38, 37, 80, 81, 82, 83, 84, 85, 86, 39, 36, 87, 88, 89, 90, 91, 92, 93, 9, 10, 11, 94, 95, 96, 97, 98, 99, 100, 101, 46, 102, 103, 104, 105, 106, 107, 108, 109, 110, 111, 112, 113, 114, 115, 116, 117, 118, 119, 120, 121, 122, 123, 124, 125, 126, 127, 128, 129, 130, 135, 136, 137, 138, 139, 140, 141, 142, 143, 144, 145, 146, 147, 148, 149, 150, 151, 152, 153, 154, 155, 156, 157, 158, 159, 160, 161, 162, 163, 164, 165, 166, 167, 168, 169, 170, 171, 172, 173, 174, 175, 176, 177, 178, 179, 180, 181, 182, 183, 184, 185, 186, 187] (by decide +kernel) (by decide +kernel)
set_option maxRecDepth 20000 in
theorem gX7_airThen_X7_goTurns : GoodIn wsX7_airThen (wsV RX7 263 RX7 yX7_goTurns wsX7_goTurns) := goodIn_app (goodIn_of _ (by decide +kernel)) ggX7_airThen_X7_goTurns
set_option maxRecDepth 20000 in
theorem ggX7_airThen_X7_again : GoodIn wsX7_airThen wsX7_again := goodIn_r _ [134, 24, 25, 26, 27, 28, 6, 29, 30, 31, 32, 8, 33, 34, 35, 36, 37, 38, 2, 39, 40, 41, 42, 43, 44, 45, 46, 47, 48, 49, 50, 51, 135, 136, 137, 138, 139, 140, 141, 142, 143, 144, 145, 146, 147, 148, 149, 150, 151, 152, 153, 154, 155, 156, 157, 158, 159, 160, 161, 162, 163, 164, 165, 166, 167, 168, 169, 170, 171, 172, 173, 174, 175, 176, 177, 178, 179, 180, 181, 182, 183, 184, 185, 186, 187] (by decide +kernel) (by decide +kernel)
set_option maxRecDepth 20000 in
theorem gX7_airThen_X7_again : GoodIn wsX7_airThen (wsV RX7 295 RX7 yX7_again wsX7_again) := goodIn_app (goodIn_of _ (by decide +kernel)) ggX7_airThen_X7_again
theorem dX7_airThen_0 : decode cX7_airThen 0 = .ok (.aload_n 0, 1) := by decide +kernel
theorem dX7_airThen_1 : decode cX7_airThen 1 = .ok (.iconst 0, 1) := by decide +kernel
theorem dX7_airThen_2 : decode cX7_airThen 2 = .ok (.putfield 114, 3) := by decide +kernel
theorem dX7_airThen_5 : decode cX7_airThen 5 = .ok (.aload_n 0, 1) := by decide +kernel
theorem dX7_airThen_6 : decode cX7_airThen 6 = .ok (.iload_n 1, 1) := by decide +kernel
theorem dX7_airThen_7 : decode cX7_airThen 7 = .ok (.invokevirtual 320, 3) := by decide +kernel
theorem dX7_airThen_10 : decode cX7_airThen 10 = .ok (.ifCond .ne 9, 3) := by decide +kernel
theorem dX7_airThen_13 : decode cX7_airThen 13 = .ok (.aload_n 0, 1) := by decide +kernel
theorem dX7_airThen_14 : decode cX7_airThen 14 = .ok (.iconst (-1), 1) := by decide +kernel
theorem dX7_airThen_15 : decode cX7_airThen 15 = .ok (.invokevirtual 219, 3) := by decide +kernel
theorem dX7_airThen_18 : decode cX7_airThen 18 = .ok (.ireturn, 1) := by decide +kernel
theorem dX7_airThen_19 : decode cX7_airThen 19 = .ok (.iload_n 2, 1) := by decide +kernel
theorem dX7_airThen_20 : decode cX7_airThen 20 = .ok (.iconst 0, 1) := by decide +kernel
theorem dX7_airThen_21 : decode cX7_airThen 21 = .ok (.bipush 60, 2) := by decide +kernel
theorem dX7_airThen_23 : decode cX7_airThen 23 = .ok (.invokestatic 347, 3) := by decide +kernel
theorem dX7_airThen_26 : decode cX7_airThen 26 = .ok (.ifCond .ge 15, 3) := by decide +kernel
theorem dX7_airThen_29 : decode cX7_airThen 29 = .ok (.aload_n 0, 1) := by decide +kernel
theorem dX7_airThen_30 : decode cX7_airThen 30 = .ok (.iload_n 2, 1) := by decide +kernel
theorem dX7_airThen_31 : decode cX7_airThen 31 = .ok (.iconst 0, 1) := by decide +kernel
theorem dX7_airThen_32 : decode cX7_airThen 32 = .ok (.bipush 60, 2) := by decide +kernel
theorem dX7_airThen_34 : decode cX7_airThen 34 = .ok (.invokestatic 347, 3) := by decide +kernel
theorem dX7_airThen_37 : decode cX7_airThen 37 = .ok (.invokevirtual 219, 3) := by decide +kernel
theorem dX7_airThen_40 : decode cX7_airThen 40 = .ok (.ireturn, 1) := by decide +kernel
theorem dX7_airThen_41 : decode cX7_airThen 41 = .ok (.aload_n 0, 1) := by decide +kernel
theorem dX7_airThen_42 : decode cX7_airThen 42 = .ok (.invokevirtual 289, 3) := by decide +kernel
theorem dX7_airThen_45 : decode cX7_airThen 45 = .ok (.aload_n 0, 1) := by decide +kernel
theorem dX7_airThen_46 : decode cX7_airThen 46 = .ok (.iload_n 2, 1) := by decide +kernel
theorem dX7_airThen_47 : decode cX7_airThen 47 = .ok (.invokevirtual 263, 3) := by decide +kernel
theorem dX7_airThen_50 : decode cX7_airThen 50 = .ok (.aload_n 0, 1) := by decide +kernel
theorem dX7_airThen_51 : decode cX7_airThen 51 = .ok (.getfield 23, 3) := by decide +kernel
theorem dX7_airThen_54 : decode cX7_airThen 54 = .ok (.iload_n 1, 1) := by decide +kernel
theorem dX7_airThen_55 : decode cX7_airThen 55 = .ok (.iaload, 1) := by decide +kernel
theorem dX7_airThen_56 : decode cX7_airThen 56 = .ok (.istore_n 3, 1) := by decide +kernel
theorem dX7_airThen_57 : decode cX7_airThen 57 = .ok (.aload_n 0, 1) := by decide +kernel
theorem dX7_airThen_58 : decode cX7_airThen 58 = .ok (.invokevirtual 295, 3) := by decide +kernel
theorem dX7_airThen_61 : decode cX7_airThen 61 = .ok (.iload_n 3, 1) := by decide +kernel
theorem dX7_airThen_62 : decode cX7_airThen 62 = .ok (.ireturn, 1) := by decide +kernel
theorem dX7_crownedMany_0 : decode cX7_crownedMany 0 = .ok (.iconst 0, 1) := by decide +kernel
theorem dX7_crownedMany_1 : decode cX7_crownedMany 1 = .ok (.istore_n 1, 1) := by decide +kernel
theorem dX7_crownedMany_2 : decode cX7_crownedMany 2 = .ok (.iconst 0, 1) := by decide +kernel
theorem dX7_crownedMany_3 : decode cX7_crownedMany 3 = .ok (.istore_n 2, 1) := by decide +kernel
theorem dX7_crownedMany_4 : decode cX7_crownedMany 4 = .ok (.iload_n 2, 1) := by decide +kernel
theorem dX7_crownedMany_5 : decode cX7_crownedMany 5 = .ok (.aload_n 0, 1) := by decide +kernel
theorem dX7_crownedMany_6 : decode cX7_crownedMany 6 = .ok (.getfield 119, 3) := by decide +kernel
theorem dX7_crownedMany_9 : decode cX7_crownedMany 9 = .ok (.if_icmp .ge 18, 3) := by decide +kernel
theorem dX7_crownedMany_12 : decode cX7_crownedMany 12 = .ok (.iload_n 1, 1) := by decide +kernel
theorem dX7_crownedMany_13 : decode cX7_crownedMany 13 = .ok (.aload_n 0, 1) := by decide +kernel
theorem dX7_crownedMany_14 : decode cX7_crownedMany 14 = .ok (.getfield 29, 3) := by decide +kernel
theorem dX7_crownedMany_17 : decode cX7_crownedMany 17 = .ok (.iload_n 2, 1) := by decide +kernel
theorem dX7_crownedMany_18 : decode cX7_crownedMany 18 = .ok (.iaload, 1) := by decide +kernel
theorem dX7_crownedMany_19 : decode cX7_crownedMany 19 = .ok (.iadd, 1) := by decide +kernel
theorem dX7_crownedMany_20 : decode cX7_crownedMany 20 = .ok (.istore_n 1, 1) := by decide +kernel
theorem dX7_crownedMany_21 : decode cX7_crownedMany 21 = .ok (.iinc 2 1, 3) := by decide +kernel
theorem dX7_crownedMany_24 : decode cX7_crownedMany 24 = .ok (.goto (-20), 3) := by decide +kernel
theorem dX7_crownedMany_27 : decode cX7_crownedMany 27 = .ok (.iload_n 1, 1) := by decide +kernel
theorem dX7_crownedMany_28 : decode cX7_crownedMany 28 = .ok (.ireturn, 1) := by decide +kernel
set_option maxRecDepth 20000 in
theorem ggX7_then_X7_wrongNumber : GoodIn wsX7_then wsX7_wrongNumber := goodIn_r _ [7] (by decide +kernel) (by decide +kernel)
set_option maxRecDepth 20000 in
theorem gX7_then_X7_wrongNumber : GoodIn wsX7_then (va_wsS RX7 347 yX7_wrongNumber wsX7_wrongNumber) := goodIn_app (goodIn_of _ (by decide +kernel)) ggX7_then_X7_wrongNumber
set_option maxRecDepth 20000 in
theorem ggX7_then_X7_in : GoodIn wsX7_then wsX7_in := goodIn_r _ [10] (by decide +kernel) (by decide +kernel)
set_option maxRecDepth 20000 in
theorem gX7_then_X7_in : GoodIn wsX7_then (va_wsS RX7 122 yX7_in wsX7_in) := goodIn_app (goodIn_of _ (by decide +kernel)) ggX7_then_X7_in
set_option maxRecDepth 20000 in
theorem ggX7_then_X7_refuse : GoodIn wsX7_then wsX7_refuse := goodIn_r _ [14, 15, 140, 141, 142, 143, 144, 145, 146, 147, 148, 149, 150, 151, 152, 153, 154, 155, 156, 157, 158, 159, 160, 161, 162, 163, 164, 165, 166, 167, 168, 169, 170, 171, 172, 173, 174, 175, 176, 177, 178, 179, 180, 181, 182, 183, 184, 185, 186, 187, 188, 189, 190, 191, 192] (by decide +kernel) (by decide +kernel)
set_option maxRecDepth 20000 in
theorem gX7_then_X7_refuse : GoodIn wsX7_then (wsV RX7 219 RX7 yX7_refuse wsX7_refuse) := goodIn_app (goodIn_of _ (by decide +kernel)) ggX7_then_X7_refuse
set_option maxRecDepth 20000 in
theorem ggX7_then_X7_think : GoodIn wsX7_then wsX7_think := goodIn_r _ [19, 20, 21, 22, 23, 24, 6, 25, 26, 27, 28, 29, 30, 31, 32, 3, 33, 34, 35, 36, 37, 38, 39, 40, 41, 42, 43, 44, 45, 46, 47, 48, 140, 141, 142, 143, 144, 145, 146, 147, 148, 149, 150, 151, 152, 153, 154, 155, 156, 157, 158, 159, 160, 161, 162, 163, 164, 165, 166, 167, 168, 169, 170, 171, 172, 173, 174, 175, 176, 177, 178, 179, 180, 181, 182, 183, 184, 185, 186, 187, 188, 189, 190, 191, 192] (by decide +kernel) (by decide +kernel)
set_option maxRecDepth 20000 in
theorem gX7_then_X7_think : GoodIn wsX7_then (wsV RX7 289 RX7 yX7_think wsX7_think) := goodIn_app (goodIn_of _ (by decide +kernel)) ggX7_then_X7_think
set_option maxRecDepth 20000 in
theorem ggX7_then_X7_goTurns : GoodIn wsX7_then wsX7_goTurns := goodIn_r _ [52, 53, 54, 55, 6, 56, 32, 44, 31, 41, 42, 29, 57, 30, 40, 38, 39, 58, 59, 60, 61, 62, 63, 64, 65, 66, 67, 68, 69, 70, 71, 72, 35, 37, 73, 74, 75, 76, 34, 33, 77, 78, 79, 80, 81, 82, 83, 36, 3, 84, 85, 86, 87, 88, 89, 90, 8, 9, 10, 91, 92, 93, 94, 95, 96, 97, 98, 43, 99, 100, 101, 102, 103, 104, 105, 106, 107, 108, 109, 110, 111, 112, 113, 114, 115, 116, 117, 118, 119, 120, 121, 122, 123, 124, 125, 126, 127, 140, 141, 142, 143, 144, 145, 146, 147, 148, 149, 150, 151, 152, 153, 154, 155, 156, 157, 158, 159, 160, 161, 162, 163, 164, 165, 166, 167, 168, 169, 170, 171, 172, 173, 174, 175, 176, 177, 178, 179, 180, 181, 182, 183, 184, 185, 186, 187, 188, 189, 190, 191, 192] (by decide +kernel) (by decide +kernel)
set_option maxRecDepth 20000 in
theorem gX7_then_X7_goTurns : GoodIn wsX7_then (wsV RX7 263 RX7 yX7_goTurns wsX7_goTurns) := goodIn_app (goodIn_of _ (by decide +kernel)) ggX7_then_X7_goTurns
set_option maxRecDepth 20000 in
theorem ggX7_then_X7_onBits : GoodIn wsX7_then wsX7_onBits := goodIn_r _ [131, 30, 40, 140, 141, 142, 143, 144, 145, 146, 147, 148, 149, 150, 151, 152, 153, 154, 155, 156, 157, 158, 159, 160, 161, 162, 163, 164, 165, 166, 167, 168, 169, 170, 171, 172, 173, 174, 175, 176, 177, 178, 179, 180, 181, 182, 183, 184, 185, 186, 187, 188, 189, 190, 191, 192] (by decide +kernel) (by decide +kernel)
set_option maxRecDepth 20000 in
theorem gX7_then_X7_onBits : GoodIn wsX7_then (wsV RX7 352 RX7 yX7_onBits wsX7_onBits) := goodIn_app (goodIn_of _ (by decide +kernel)) ggX7_then_X7_onBits
set_option maxRecDepth 20000 in
theorem ggX7_then_X7_crownedMany : GoodIn wsX7_then wsX7_crownedMany := goodIn_r _ [135, 29, 37, 140, 141, 142, 143, 144, 145, 146, 147, 148, 149, 150, 151, 152, 153, 154, 155, 156, 157, 158, 159, 160, 161, 162, 163, 164, 165, 166, 167, 168, 169, 170, 171, 172, 173, 174, 175, 176, 177, 178, 179, 180, 181, 182, 183, 184, 185, 186, 187, 188, 189, 190, 191, 192] (by decide +kernel) (by decide +kernel)
set_option maxRecDepth 20000 in
theorem gX7_then_X7_crownedMany : GoodIn wsX7_then (wsV RX7 355 RX7 yX7_crownedMany wsX7_crownedMany) := goodIn_app (goodIn_of _ (by decide +kernel)) ggX7_then_X7_crownedMany
set_option maxRecDepth 20000 in
theorem ggX7_then_X7_again : GoodIn wsX7_then wsX7_again := goodIn_r _ [139, 20, 21, 22, 23, 24, 6, 25, 26, 27, 28, 29, 30, 31, 32, 3, 33, 34, 35, 36, 37, 38, 39, 40, 41, 42, 43, 44, 45, 46, 47, 48, 140, 141, 142, 143, 144, 145, 146, 147, 148, 149, 150, 151, 152, 153, 154, 155, 156, 157, 158, 159, 160, 161, 162, 163, 164, 165, 166, 167, 168, 169, 170, 171, 172, 173, 174, 175, 176, 177, 178, 179, 180, 181, 182, 183, 184, 185, 186, 187, 188, 189, 190, 191, 192] (by decide +kernel) (by decide +kernel)
set_option maxRecDepth 20000 in
theorem gX7_then_X7_again : GoodIn wsX7_then (wsV RX7 295 RX7 yX7_again wsX7_again) := goodIn_app (goodIn_of _ (by decide +kernel)) ggX7_then_X7_again
theorem dX7_then_0 : decode cX7_then 0 = .ok (.aload_n 0, 1) := by decide +kernel
theorem dX7_then_1 : decode cX7_then 1 = .ok (.iconst 0, 1) := by decide +kernel
theorem dX7_then_2 : decode cX7_then 2 = .ok (.putfield 114, 3) := by decide +kernel
theorem dX7_then_5 : decode cX7_then 5 = .ok (.iload_n 1, 1) := by decide +kernel
theorem dX7_then_6 : decode cX7_then 6 = .ok (.iconst 0, 1) := by decide +kernel
theorem dX7_then_7 : decode cX7_then 7 = .ok (.bipush 60, 2) := by decide +kernel
theorem dX7_then_9 : decode cX7_then 9 = .ok (.invokestatic 347, 3) := by decide +kernel
theorem dX7_then_12 : decode cX7_then 12 = .ok (.ifCond .lt 15, 3) := by decide +kernel
theorem dX7_then_15 : decode cX7_then 15 = .ok (.iload_n 2, 1) := by decide +kernel
theorem dX7_then_16 : decode cX7_then 16 = .ok (.i2l, 1) := by decide +kernel
theorem dX7_then_17 : decode cX7_then 17 = .ok (.lconst 0, 1) := by decide +kernel
theorem dX7_then_18 : decode cX7_then 18 = .ok (.ldc2_w 326, 3) := by decide +kernel
theorem dX7_then_21 : decode cX7_then 21 = .ok (.invokestatic 122, 3) := by decide +kernel
theorem dX7_then_24 : decode cX7_then 24 = .ok (.ifCond .ne 30, 3) := by decide +kernel
theorem dX7_then_27 : decode cX7_then 27 = .ok (.aload_n 0, 1) := by decide +kernel
theorem dX7_then_28 : decode cX7_then 28 = .ok (.iload_n 1, 1) := by decide +kernel
theorem dX7_then_29 : decode cX7_then 29 = .ok (.iconst 0, 1) := by decide +kernel
theorem dX7_then_30 : decode cX7_then 30 = .ok (.bipush 60, 2) := by decide +kernel
theorem dX7_then_32 : decode cX7_then 32 = .ok (.invokestatic 347, 3) := by decide +kernel
theorem dX7_then_35 : decode cX7_then 35 = .ok (.ifCond .ge 13, 3) := by decide +kernel
theorem dX7_then_38 : decode cX7_then 38 = .ok (.iload_n 1, 1) := by decide +kernel
theorem dX7_then_39 : decode cX7_then 39 = .ok (.iconst 0, 1) := by decide +kernel
theorem dX7_then_40 : decode cX7_then 40 = .ok (.bipush 60, 2) := by decide +kernel
theorem dX7_then_42 : decode cX7_then 42 = .ok (.invokestatic 347, 3) := by decide +kernel
theorem dX7_then_45 : decode cX7_then 45 = .ok (.goto 5, 3) := by decide +kernel
theorem dX7_then_48 : decode cX7_then 48 = .ok (.bipush (-2), 2) := by decide +kernel
theorem dX7_then_50 : decode cX7_then 50 = .ok (.invokevirtual 219, 3) := by decide +kernel
theorem dX7_then_53 : decode cX7_then 53 = .ok (.ireturn, 1) := by decide +kernel
theorem dX7_then_54 : decode cX7_then 54 = .ok (.aload_n 0, 1) := by decide +kernel
theorem dX7_then_55 : decode cX7_then 55 = .ok (.invokevirtual 289, 3) := by decide +kernel
theorem dX7_then_58 : decode cX7_then 58 = .ok (.aload_n 0, 1) := by decide +kernel
theorem dX7_then_59 : decode cX7_then 59 = .ok (.iload_n 1, 1) := by decide +kernel
theorem dX7_then_60 : decode cX7_then 60 = .ok (.invokevirtual 263, 3) := by decide +kernel
theorem dX7_then_63 : decode cX7_then 63 = .ok (.iload_n 2, 1) := by decide +kernel
theorem dX7_then_64 : decode cX7_then 64 = .ok (.ifCond .ne 10, 3) := by decide +kernel
theorem dX7_then_67 : decode cX7_then 67 = .ok (.aload_n 0, 1) := by decide +kernel
theorem dX7_then_68 : decode cX7_then 68 = .ok (.invokevirtual 352, 3) := by decide +kernel
theorem dX7_then_71 : decode cX7_then 71 = .ok (.goto 19, 3) := by decide +kernel
theorem dX7_then_74 : decode cX7_then 74 = .ok (.iload_n 2, 1) := by decide +kernel
theorem dX7_then_75 : decode cX7_then 75 = .ok (.iconst 1, 1) := by decide +kernel
theorem dX7_then_76 : decode cX7_then 76 = .ok (.if_icmp .ne 10, 3) := by decide +kernel
theorem dX7_then_79 : decode cX7_then 79 = .ok (.aload_n 0, 1) := by decide +kernel
theorem dX7_then_80 : decode cX7_then 80 = .ok (.getfield 182, 3) := by decide +kernel
theorem dX7_then_83 : decode cX7_then 83 = .ok (.goto 7, 3) := by decide +kernel
theorem dX7_then_86 : decode cX7_then 86 = .ok (.aload_n 0, 1) := by decide +kernel
theorem dX7_then_87 : decode cX7_then 87 = .ok (.invokevirtual 355, 3) := by decide +kernel
theorem dX7_then_90 : decode cX7_then 90 = .ok (.istore_n 3, 1) := by decide +kernel
theorem dX7_then_91 : decode cX7_then 91 = .ok (.aload_n 0, 1) := by decide +kernel
theorem dX7_then_92 : decode cX7_then 92 = .ok (.invokevirtual 295, 3) := by decide +kernel
theorem dX7_then_95 : decode cX7_then 95 = .ok (.iload_n 3, 1) := by decide +kernel
theorem dX7_then_96 : decode cX7_then 96 = .ok (.ireturn, 1) := by decide +kernel
set_option maxRecDepth 20000 in
theorem ggX7_warmThen_X7_isCell : GoodIn wsX7_warmThen wsX7_isCell := goodIn_r _ [7, 8, 9, 10, 6, 11] (by decide +kernel) (by decide +kernel)
set_option maxRecDepth 20000 in
theorem gX7_warmThen_X7_isCell : GoodIn wsX7_warmThen (va_wsS RX7 216 yX7_isCell wsX7_isCell) := goodIn_app (goodIn_of _ (by decide +kernel)) ggX7_warmThen_X7_isCell
set_option maxRecDepth 20000 in
theorem ggX7_warmThen_X7_in : GoodIn wsX7_warmThen wsX7_in := goodIn_r _ [11] (by decide +kernel) (by decide +kernel)
set_option maxRecDepth 20000 in
theorem gX7_warmThen_X7_in : GoodIn wsX7_warmThen (va_wsS RX7 122 yX7_in wsX7_in) := goodIn_app (goodIn_of _ (by decide +kernel)) ggX7_warmThen_X7_in
set_option maxRecDepth 20000 in
theorem ggX7_warmThen_X7_think : GoodIn wsX7_warmThen wsX7_think := goodIn_r _ [15, 16, 17, 18, 19, 20, 6, 21, 22, 23, 24, 25, 26, 27, 28, 29, 30, 31, 32, 33, 34, 35, 36, 37, 38, 39, 40, 3, 41, 42, 43, 44, 140, 141, 142, 143, 144, 145, 146, 147, 148, 149, 150, 151, 152, 153, 154, 155, 156, 157, 158, 159, 160, 161, 162, 163, 164, 165, 166, 167, 168, 169, 170, 171, 172, 173, 174, 175, 176, 177, 178, 179, 180, 181, 182, 183, 184, 185, 186, 187, 188, 189, 190, 191, 192] (by decide +kernel) (by decide +kernel)
set_option maxRecDepth 20000 in
theorem gX7_warmThen_X7_think : GoodIn wsX7_warmThen (wsV RX7 289 RX7 yX7_think wsX7_think) := goodIn_app (goodIn_of _ (by decide +kernel)) ggX7_warmThen_X7_think
set_option maxRecDepth 20000 in
theorem ggX7_warmThen_X7_goTurns : GoodIn wsX7_warmThen wsX7_goTurns := goodIn_r _ [48, 49, 50, 51, 6, 52, 28, 3, 27, 38, 39, 25, 53, 26, 37, 35, 36, 54, 55, 56, 57, 58, 59, 60, 61, 62, 63, 64, 65, 66, 67, 68, 32, 34, 69, 70, 71, 72, 31, 30, 73, 74, 75, 76, 77, 78, 79, 33, 29, 80, 81, 82, 83, 84, 85, 86, 9, 10, 11, 87, 88, 89, 90, 91, 92, 93, 94, 40, 95, 96, 97, 98, 99, 100, 101, 102, 103, 104, 105, 106, 107, 108, 109, 110, 111, 112, 113, 114, 115, 116, 117, 118, 119, 120, 121, 122, 123, 140, 141, 142, 143, 144, 145, 146, 147, 148, 149, 150, 151, 152, 153, 154, 155, 156, 157, 158, 159, 160, 161, 162, 163, 164, 165, 166, 167, 168, 169, 170, 171, 172, 173, 174, 175, 176, 177, 178, 179, 180, 181, 182, 183, 184, 185, 186, 187, 188, 189, 190, 191, 192] (by decide +kernel) (by decide +kernel)
set_option maxRecDepth 20000 in
theorem gX7_warmThen_X7_goTurns : GoodIn wsX7_warmThen (wsV RX7 263 RX7 yX7_goTurns wsX7_goTurns) := goodIn_app (goodIn_of _ (by decide +kernel)) ggX7_warmThen_X7_goTurns
set_option maxRecDepth 20000 in
theorem ggX7_warmThen_Jxf58ca_floatToIntBits_5c35a : GoodIn wsX7_warmThen wsJxf58ca_floatToIntBits_5c35a := goodIn_r _ [127, 128, 129, 130, 131, 132, 133, 134, 126, 135] (by decide +kernel) (by decide +kernel)
set_option maxRecDepth 20000 in
theorem gX7_warmThen_Jxf58ca_floatToIntBits_5c35a : GoodIn wsX7_warmThen (va_wsS RX7 330 yJxf58ca_floatToIntBits_5c35a wsJxf58ca_floatToIntBits_5c35a) := goodIn_app (goodIn_of _ (by decide +kernel)) ggX7_warmThen_Jxf58ca_floatToIntBits_5c35a
set_option maxRecDepth 20000 in
theorem ggX7_warmThen_X7_again : GoodIn wsX7_warmThen wsX7_again := goodIn_r _ [139, 16, 17, 18, 19, 20, 6, 21, 22, 23, 24, 25, 26, 27, 28, 29, 30, 31, 32, 33, 34, 35, 36, 37, 38, 39, 40, 3, 41, 42, 43, 44, 140, 141, 142, 143, 144, 145, 146, 147, 148, 149, 150, 151, 152, 153, 154, 155, 156, 157, 158, 159, 160, 161, 162, 163, 164, 165, 166, 167, 168, 169, 170, 171, 172, 173, 174, 175, 176, 177, 178, 179, 180, 181, 182, 183, 184, 185, 186, 187, 188, 189, 190, 191, 192] (by decide +kernel) (by decide +kernel)
set_option maxRecDepth 20000 in
theorem gX7_warmThen_X7_again : GoodIn wsX7_warmThen (wsV RX7 295 RX7 yX7_again wsX7_again) := goodIn_app (goodIn_of _ (by decide +kernel)) ggX7_warmThen_X7_again
theorem dX7_warmThen_0 : decode cX7_warmThen 0 = .ok (.aload_n 0, 1) := by decide +kernel
theorem dX7_warmThen_1 : decode cX7_warmThen 1 = .ok (.iconst 0, 1) := by decide +kernel
theorem dX7_warmThen_2 : decode cX7_warmThen 2 = .ok (.putfield 114, 3) := by decide +kernel
theorem dX7_warmThen_5 : decode cX7_warmThen 5 = .ok (.iload_n 1, 1) := by decide +kernel
theorem dX7_warmThen_6 : decode cX7_warmThen 6 = .ok (.invokestatic 216, 3) := by decide +kernel
theorem dX7_warmThen_9 : decode cX7_warmThen 9 = .ok (.ifCond .eq 15, 3) := by decide +kernel
theorem dX7_warmThen_12 : decode cX7_warmThen 12 = .ok (.iload_n 2, 1) := by decide +kernel
theorem dX7_warmThen_13 : decode cX7_warmThen 13 = .ok (.i2l, 1) := by decide +kernel
theorem dX7_warmThen_14 : decode cX7_warmThen 14 = .ok (.lconst 0, 1) := by decide +kernel
theorem dX7_warmThen_15 : decode cX7_warmThen 15 = .ok (.ldc2_w 261, 3) := by decide +kernel
theorem dX7_warmThen_18 : decode cX7_warmThen 18 = .ok (.invokestatic 122, 3) := by decide +kernel
theorem dX7_warmThen_21 : decode cX7_warmThen 21 = .ok (.ifCond .ne 5, 3) := by decide +kernel
theorem dX7_warmThen_24 : decode cX7_warmThen 24 = .ok (.iconst 0, 1) := by decide +kernel
theorem dX7_warmThen_25 : decode cX7_warmThen 25 = .ok (.ireturn, 1) := by decide +kernel
theorem dX7_warmThen_26 : decode cX7_warmThen 26 = .ok (.aload_n 0, 1) := by decide +kernel
theorem dX7_warmThen_27 : decode cX7_warmThen 27 = .ok (.invokevirtual 289, 3) := by decide +kernel
theorem dX7_warmThen_30 : decode cX7_warmThen 30 = .ok (.aload_n 0, 1) := by decide +kernel
theorem dX7_warmThen_31 : decode cX7_warmThen 31 = .ok (.iload_n 2, 1) := by decide +kernel
theorem dX7_warmThen_32 : decode cX7_warmThen 32 = .ok (.invokevirtual 263, 3) := by decide +kernel
theorem dX7_warmThen_35 : decode cX7_warmThen 35 = .ok (.aload_n 0, 1) := by decide +kernel
theorem dX7_warmThen_36 : decode cX7_warmThen 36 = .ok (.getfield 7, 3) := by decide +kernel
theorem dX7_warmThen_39 : decode cX7_warmThen 39 = .ok (.iload_n 1, 1) := by decide +kernel
theorem dX7_warmThen_40 : decode cX7_warmThen 40 = .ok (.faload, 1) := by decide +kernel
theorem dX7_warmThen_41 : decode cX7_warmThen 41 = .ok (.invokestatic 330, 3) := by decide +kernel
theorem dX7_warmThen_44 : decode cX7_warmThen 44 = .ok (.istore_n 3, 1) := by decide +kernel
theorem dX7_warmThen_45 : decode cX7_warmThen 45 = .ok (.aload_n 0, 1) := by decide +kernel
theorem dX7_warmThen_46 : decode cX7_warmThen 46 = .ok (.invokevirtual 295, 3) := by decide +kernel
theorem dX7_warmThen_49 : decode cX7_warmThen 49 = .ok (.iload_n 3, 1) := by decide +kernel
theorem dX7_warmThen_50 : decode cX7_warmThen 50 = .ok (.ireturn, 1) := by decide +kernel
set_option maxRecDepth 20000 in
theorem ggX7_offIn_X7_turnOn : GoodIn wsX7_offIn wsX7_turnOn := goodIn_r _ [6, 7, 8, 9, 10, 11, 12, 13, 14, 1, 15, 16, 17, 18, 5, 19, 20, 21, 22, 23, 24, 25, 26, 27, 28, 29, 30, 31, 32, 33, 34, 35, 36, 37, 38, 39, 40, 41, 42, 43, 44, 45, 46, 47, 48, 49, 50, 51, 52, 53, 54, 55, 56, 57, 58, 59, 60, 61, 62, 63, 64, 65, 66, 67, 68, 69, 70, 71, 72, 73, 74, 75, 76, 77, 78, 79, 80, 81, 82, 83, 84, 85, 86, 87, 88, 89, 90, 91, 92, 93, 94, 95, 96, 114, 115, 116, 117, 118, 119, 120, 121, 122, 123, 124, 125, 126, 127, 128, 129, 130, 131, 132, 133, 134, 135, 136, 137, 138, 139, 140, 141, 142, 143, 144, 145, 146, 147, 148, 149, 150, 151, 152, 153, 154, 155, 156, 157, 158, 159, 160, 161, 162, 163, 164, 165, 166] (by decide +kernel) (by decide +kernel)
set_option maxRecDepth 20000 in
theorem gX7_offIn_X7_turnOn : GoodIn wsX7_offIn (wsV RX7 213 RX7 yX7_turnOn wsX7_turnOn) := goodIn_app (goodIn_of _ (by decide +kernel)) ggX7_offIn_X7_turnOn
set_option maxRecDepth 20000 in
theorem ggX7_offIn_X7_again : GoodIn wsX7_offIn wsX7_again := goodIn_r _ [100, 101, 102, 103, 104, 105, 5, 106, 107, 108, 109, 12, 14, 9, 7, 48, 39, 38, 32, 47, 33, 15, 16, 1, 10, 11, 67, 8, 110, 111, 112, 113, 114, 115, 116, 117, 118, 119, 120, 121, 122, 123, 124, 125, 126, 127, 128, 129, 130, 131, 132, 133, 134, 135, 136, 137, 138, 139, 140, 141, 142, 143, 144, 145, 146, 147, 148, 149, 150, 151, 152, 153, 154, 155, 156, 157, 158, 159, 160, 161, 162, 163, 164, 165, 166] (by decide +kernel) (by decide +kernel)
set_option maxRecDepth 20000 in
theorem gX7_offIn_X7_again : GoodIn wsX7_offIn (wsV RX7 295 RX7 yX7_again wsX7_again) := goodIn_app (goodIn_of _ (by decide +kernel)) ggX7_offIn_X7_again
theorem dX7_offIn_0 : decode cX7_offIn 0 = .ok (.bipush 61, 2) := by decide +kernel
theorem dX7_offIn_2 : decode cX7_offIn 2 = .ok (.istore_n 2, 1) := by decide +kernel
theorem dX7_offIn_3 : decode cX7_offIn 3 = .ok (.iconst 0, 1) := by decide +kernel
theorem dX7_offIn_4 : decode cX7_offIn 4 = .ok (.istore_n 3, 1) := by decide +kernel
theorem dX7_offIn_5 : decode cX7_offIn 5 = .ok (.iload_n 3, 1) := by decide +kernel
theorem dX7_offIn_6 : decode cX7_offIn 6 = .ok (.bipush 60, 2) := by decide +kernel
theorem dX7_offIn_8 : decode cX7_offIn 8 = .ok (.if_icmp .gt 36, 3) := by decide +kernel
theorem dX7_offIn_11 : decode cX7_offIn 11 = .ok (.iload_n 2, 1) := by decide +kernel
theorem dX7_offIn_12 : decode cX7_offIn 12 = .ok (.bipush 61, 2) := by decide +kernel
theorem dX7_offIn_14 : decode cX7_offIn 14 = .ok (.if_icmp .ne 30, 3) := by decide +kernel
theorem dX7_offIn_17 : decode cX7_offIn 17 = .ok (.aload_n 0, 1) := by decide +kernel
theorem dX7_offIn_18 : decode cX7_offIn 18 = .ok (.getfield 38, 3) := by decide +kernel
theorem dX7_offIn_21 : decode cX7_offIn 21 = .ok (.iload_n 1, 1) := by decide +kernel
theorem dX7_offIn_22 : decode cX7_offIn 22 = .ok (.iaload, 1) := by decide +kernel
theorem dX7_offIn_23 : decode cX7_offIn 23 = .ok (.iconst 1, 1) := by decide +kernel
theorem dX7_offIn_24 : decode cX7_offIn 24 = .ok (.if_icmp .ne 8, 3) := by decide +kernel
theorem dX7_offIn_27 : decode cX7_offIn 27 = .ok (.bipush 61, 2) := by decide +kernel
theorem dX7_offIn_29 : decode cX7_offIn 29 = .ok (.goto 4, 3) := by decide +kernel
theorem dX7_offIn_32 : decode cX7_offIn 32 = .ok (.iload_n 3, 1) := by decide +kernel
theorem dX7_offIn_33 : decode cX7_offIn 33 = .ok (.istore_n 2, 1) := by decide +kernel
theorem dX7_offIn_34 : decode cX7_offIn 34 = .ok (.aload_n 0, 1) := by decide +kernel
theorem dX7_offIn_35 : decode cX7_offIn 35 = .ok (.invokevirtual 213, 3) := by decide +kernel
theorem dX7_offIn_38 : decode cX7_offIn 38 = .ok (.iinc 3 1, 3) := by decide +kernel
theorem dX7_offIn_41 : decode cX7_offIn 41 = .ok (.goto (-36), 3) := by decide +kernel
theorem dX7_offIn_44 : decode cX7_offIn 44 = .ok (.aload_n 0, 1) := by decide +kernel
theorem dX7_offIn_45 : decode cX7_offIn 45 = .ok (.invokevirtual 295, 3) := by decide +kernel
theorem dX7_offIn_48 : decode cX7_offIn 48 = .ok (.iload_n 2, 1) := by decide +kernel
theorem dX7_offIn_49 : decode cX7_offIn 49 = .ok (.ireturn, 1) := by decide +kernel
set_option maxRecDepth 20000 in
theorem ggX7_when_X7_in : GoodIn wsX7_when wsX7_in := goodIn_r _ [8] (by decide +kernel) (by decide +kernel)
set_option maxRecDepth 20000 in
theorem gX7_when_X7_in : GoodIn wsX7_when (va_wsS RX7 122 yX7_in wsX7_in) := goodIn_app (goodIn_of _ (by decide +kernel)) ggX7_when_X7_in
set_option maxRecDepth 20000 in
theorem ggX7_when_X7_refuse : GoodIn wsX7_when wsX7_refuse := goodIn_r _ [12, 13, 129, 130, 131, 132, 133, 134, 135, 136, 137, 138, 139, 140, 141, 142, 143, 144, 145, 146, 147, 148, 149, 150, 151, 152, 153, 154, 155, 156, 157, 158, 159, 160, 161, 162, 163, 164, 165, 166, 167, 168, 169, 170, 171, 172, 173, 174, 175, 176, 177, 178, 179, 180, 181] (by decide +kernel) (by decide +kernel)
set_option maxRecDepth 20000 in
theorem gX7_when_X7_refuse : GoodIn wsX7_when (wsV RX7 219 RX7 yX7_refuse wsX7_refuse) := goodIn_app (goodIn_of _ (by decide +kernel)) ggX7_when_X7_refuse
set_option maxRecDepth 20000 in
theorem ggX7_when_X7_think : GoodIn wsX7_when wsX7_think := goodIn_r _ [17, 18, 19, 20, 21, 22, 7, 23, 24, 25, 26, 27, 3, 28, 29, 30, 31, 32, 33, 34, 35, 36, 37, 4, 38, 39, 40, 41, 42, 43, 44, 45, 129, 130, 131, 132, 133, 134, 135, 136, 137, 138, 139, 140, 141, 142, 143, 144, 145, 146, 147, 148, 149, 150, 151, 152, 153, 154, 155, 156, 157, 158, 159, 160, 161, 162, 163, 164, 165, 166, 167, 168, 169, 170, 171, 172, 173, 174, 175, 176, 177, 178, 179, 180, 181] (by decide +kernel) (by decide +kernel)
set_option maxRecDepth 20000 in
theorem gX7_when_X7_think : GoodIn wsX7_when (wsV RX7 289 RX7 yX7_think wsX7_think) := goodIn_app (goodIn_of _ (by decide +kernel)) ggX7_when_X7_think
set_option maxRecDepth 20000 in
theorem ggX7_when_X7_offIn : GoodIn wsX7_when wsX7_offIn := goodIn_r _ [49, 4, 50, 51, 52, 7, 53, 29, 41, 28, 38, 39, 27, 54, 3, 36, 37, 55, 56, 57, 58, 59, 60, 61, 62, 63, 64, 65, 66, 67, 68, 69, 33, 35, 70, 71, 72, 73, 32, 31, 74, 75, 76, 77, 78, 79, 80, 34, 30, 81, 82, 83, 84, 85, 86, 87, 5, 6, 8, 88, 89, 90, 91, 92, 93, 94, 95, 40, 96, 97, 98, 99, 100, 101, 102, 103, 104, 105, 106, 107, 108, 109, 110, 111, 112, 113, 114, 115, 116, 117, 118, 119, 120, 121, 122, 123, 124, 125, 126, 127, 128, 18, 19, 20, 21, 22, 23, 24, 25, 26, 42, 43, 44, 45, 129, 130, 131, 132, 133, 134, 135, 136, 137, 138, 139, 140, 141, 142, 143, 144, 145, 146, 147, 148, 149, 150, 151, 152, 153, 154, 155, 156, 157, 158, 159, 160, 161, 162, 163, 164, 165, 166, 167, 168, 169, 170, 171, 172, 173, 174, 175, 176, 177, 178, 179, 180, 181] (by decide +kernel) (by decide +kernel)
set_option maxRecDepth 20000 in
theorem gX7_when_X7_offIn : GoodIn wsX7_when (wsV RX7 360 RX7 yX7_offIn wsX7_offIn) := goodIn_app (goodIn_of _ (by decide +kernel)) ggX7_when_X7_offIn
theorem dX7_when_0 : decode cX7_when 0 = .ok (.aload_n 0, 1) := by decide +kernel
theorem dX7_when_1 : decode cX7_when 1 = .ok (.iconst 0, 1) := by decide +kernel
theorem dX7_when_2 : decode cX7_when 2 = .ok (.putfield 114, 3) := by decide +kernel
theorem dX7_when_5 : decode cX7_when 5 = .ok (.iload_n 1, 1) := by decide +kernel
theorem dX7_when_6 : decode cX7_when 6 = .ok (.i2l, 1) := by decide +kernel
theorem dX7_when_7 : decode cX7_when 7 = .ok (.ldc2_w 358, 3) := by decide +kernel
theorem dX7_when_10 : decode cX7_when 10 = .ok (.aload_n 0, 1) := by decide +kernel
theorem dX7_when_11 : decode cX7_when 11 = .ok (.getfield 126, 3) := by decide +kernel
theorem dX7_when_14 : decode cX7_when 14 = .ok (.iconst 1, 1) := by decide +kernel
theorem dX7_when_15 : decode cX7_when 15 = .ok (.isub, 1) := by decide +kernel
theorem dX7_when_16 : decode cX7_when 16 = .ok (.i2l, 1) := by decide +kernel
theorem dX7_when_17 : decode cX7_when 17 = .ok (.invokestatic 122, 3) := by decide +kernel
theorem dX7_when_20 : decode cX7_when 20 = .ok (.ifCond .ne 9, 3) := by decide +kernel
theorem dX7_when_23 : decode cX7_when 23 = .ok (.aload_n 0, 1) := by decide +kernel
theorem dX7_when_24 : decode cX7_when 24 = .ok (.iconst (-1), 1) := by decide +kernel
theorem dX7_when_25 : decode cX7_when 25 = .ok (.invokevirtual 219, 3) := by decide +kernel
theorem dX7_when_28 : decode cX7_when 28 = .ok (.ireturn, 1) := by decide +kernel
theorem dX7_when_29 : decode cX7_when 29 = .ok (.aload_n 0, 1) := by decide +kernel
theorem dX7_when_30 : decode cX7_when 30 = .ok (.invokevirtual 289, 3) := by decide +kernel
theorem dX7_when_33 : decode cX7_when 33 = .ok (.iload_n 1, 1) := by decide +kernel
theorem dX7_when_34 : decode cX7_when 34 = .ok (.ifCond .lt 22, 3) := by decide +kernel
theorem dX7_when_37 : decode cX7_when 37 = .ok (.aload_n 0, 1) := by decide +kernel
theorem dX7_when_38 : decode cX7_when 38 = .ok (.iload_n 1, 1) := by decide +kernel
theorem dX7_when_39 : decode cX7_when 39 = .ok (.invokevirtual 360, 3) := by decide +kernel
theorem dX7_when_42 : decode cX7_when 42 = .ok (.istore_n 2, 1) := by decide +kernel
theorem dX7_when_43 : decode cX7_when 43 = .ok (.iload_n 2, 1) := by decide +kernel
theorem dX7_when_44 : decode cX7_when 44 = .ok (.bipush 61, 2) := by decide +kernel
theorem dX7_when_46 : decode cX7_when 46 = .ok (.if_icmp .ne 8, 3) := by decide +kernel
theorem dX7_when_49 : decode cX7_when 49 = .ok (.bipush (-9), 2) := by decide +kernel
theorem dX7_when_51 : decode cX7_when 51 = .ok (.goto 4, 3) := by decide +kernel
theorem dX7_when_54 : decode cX7_when 54 = .ok (.iload_n 2, 1) := by decide +kernel
theorem dX7_when_55 : decode cX7_when 55 = .ok (.ireturn, 1) := by decide +kernel
theorem dX7_when_56 : decode cX7_when 56 = .ok (.bipush (-9), 2) := by decide +kernel
theorem dX7_when_58 : decode cX7_when 58 = .ok (.istore_n 2, 1) := by decide +kernel
theorem dX7_when_59 : decode cX7_when 59 = .ok (.bipush 61, 2) := by decide +kernel
theorem dX7_when_61 : decode cX7_when 61 = .ok (.istore_n 3, 1) := by decide +kernel
theorem dX7_when_62 : decode cX7_when 62 = .ok (.iconst 0, 1) := by decide +kernel
theorem dX7_when_63 : decode cX7_when 63 = .ok (.istore 4, 2) := by decide +kernel
theorem dX7_when_65 : decode cX7_when 65 = .ok (.iload 4, 2) := by decide +kernel
theorem dX7_when_67 : decode cX7_when 67 = .ok (.aload_n 0, 1) := by decide +kernel
theorem dX7_when_68 : decode cX7_when 68 = .ok (.getfield 126, 3) := by decide +kernel
theorem dX7_when_71 : decode cX7_when 71 = .ok (.if_icmp .ge 59, 3) := by decide +kernel
theorem dX7_when_74 : decode cX7_when 74 = .ok (.aload_n 0, 1) := by decide +kernel
theorem dX7_when_75 : decode cX7_when 75 = .ok (.getfield 38, 3) := by decide +kernel
theorem dX7_when_78 : decode cX7_when 78 = .ok (.iload 4, 2) := by decide +kernel
theorem dX7_when_80 : decode cX7_when 80 = .ok (.iaload, 1) := by decide +kernel
theorem dX7_when_81 : decode cX7_when 81 = .ok (.iconst 1, 1) := by decide +kernel
theorem dX7_when_82 : decode cX7_when 82 = .ok (.if_icmp .ne 12, 3) := by decide +kernel
theorem dX7_when_85 : decode cX7_when 85 = .ok (.aload_n 0, 1) := by decide +kernel
theorem dX7_when_86 : decode cX7_when 86 = .ok (.iload 4, 2) := by decide +kernel
theorem dX7_when_88 : decode cX7_when 88 = .ok (.invokevirtual 360, 3) := by decide +kernel
theorem dX7_when_91 : decode cX7_when 91 = .ok (.goto 5, 3) := by decide +kernel
theorem dX7_when_94 : decode cX7_when 94 = .ok (.bipush 61, 2) := by decide +kernel
theorem dX7_when_96 : decode cX7_when 96 = .ok (.istore 5, 2) := by decide +kernel
theorem dX7_when_98 : decode cX7_when 98 = .ok (.iload 5, 2) := by decide +kernel
theorem dX7_when_100 : decode cX7_when 100 = .ok (.iload_n 3, 1) := by decide +kernel
theorem dX7_when_101 : decode cX7_when 101 = .ok (.if_icmp .ge 8, 3) := by decide +kernel
theorem dX7_when_104 : decode cX7_when 104 = .ok (.iload 4, 2) := by decide +kernel
theorem dX7_when_106 : decode cX7_when 106 = .ok (.goto 4, 3) := by decide +kernel
theorem dX7_when_109 : decode cX7_when 109 = .ok (.iload_n 2, 1) := by decide +kernel
theorem dX7_when_110 : decode cX7_when 110 = .ok (.istore_n 2, 1) := by decide +kernel
theorem dX7_when_111 : decode cX7_when 111 = .ok (.iload 5, 2) := by decide +kernel
theorem dX7_when_113 : decode cX7_when 113 = .ok (.iload_n 3, 1) := by decide +kernel
theorem dX7_when_114 : decode cX7_when 114 = .ok (.if_icmp .ge 8, 3) := by decide +kernel
theorem dX7_when_117 : decode cX7_when 117 = .ok (.iload 5, 2) := by decide +kernel
theorem dX7_when_119 : decode cX7_when 119 = .ok (.goto 4, 3) := by decide +kernel
theorem dX7_when_122 : decode cX7_when 122 = .ok (.iload_n 3, 1) := by decide +kernel
theorem dX7_when_123 : decode cX7_when 123 = .ok (.istore_n 3, 1) := by decide +kernel
theorem dX7_when_124 : decode cX7_when 124 = .ok (.iinc 4 1, 3) := by decide +kernel
theorem dX7_when_127 : decode cX7_when 127 = .ok (.goto (-62), 3) := by decide +kernel
theorem dX7_when_130 : decode cX7_when 130 = .ok (.iload_n 2, 1) := by decide +kernel
theorem dX7_when_131 : decode cX7_when 131 = .ok (.ireturn, 1) := by decide +kernel
set_option maxRecDepth 20000 in
theorem ggX7_sit_X7_isSitter : GoodIn wsX7_sit wsX7_isSitter := goodIn_r _ [8, 9, 10, 11, 7, 12, 132, 133, 134, 135, 136, 137, 138, 139, 140, 141, 142, 143, 144, 145, 146, 147, 148, 149, 150, 151, 152, 153, 154, 155, 156, 157, 158, 159, 160, 161, 162, 163, 164, 165, 166, 167, 168, 169, 170, 171, 172, 173, 174, 175, 176, 177, 178, 179, 180, 181, 182, 183, 184] (by decide +kernel) (by decide +kernel)
set_option maxRecDepth 20000 in
theorem gX7_sit_X7_isSitter : GoodIn wsX7_sit (wsV RX7 323 RX7 yX7_isSitter wsX7_isSitter) := goodIn_app (goodIn_of _ (by decide +kernel)) ggX7_sit_X7_isSitter
set_option maxRecDepth 20000 in
theorem ggX7_sit_X7_in : GoodIn wsX7_sit wsX7_in := goodIn_r _ [12] (by decide +kernel) (by decide +kernel)
set_option maxRecDepth 20000 in
theorem gX7_sit_X7_in : GoodIn wsX7_sit (va_wsS RX7 122 yX7_in wsX7_in) := goodIn_app (goodIn_of _ (by decide +kernel)) ggX7_sit_X7_in
set_option maxRecDepth 20000 in
theorem ggX7_sit_X7_refuse : GoodIn wsX7_sit wsX7_refuse := goodIn_r _ [16, 17, 132, 133, 134, 135, 136, 137, 138, 139, 140, 141, 142, 143, 144, 145, 146, 147, 148, 149, 150, 151, 152, 153, 154, 155, 156, 157, 158, 159, 160, 161, 162, 163, 164, 165, 166, 167, 168, 169, 170, 171, 172, 173, 174, 175, 176, 177, 178, 179, 180, 181, 182, 183, 184] (by decide +kernel) (by decide +kernel)
set_option maxRecDepth 20000 in
theorem gX7_sit_X7_refuse : GoodIn wsX7_sit (wsV RX7 219 RX7 yX7_refuse wsX7_refuse) := goodIn_app (goodIn_of _ (by decide +kernel)) ggX7_sit_X7_refuse
set_option maxRecDepth 20000 in
theorem ggX7_sit_X7_think : GoodIn wsX7_sit wsX7_think := goodIn_r _ [21, 22, 23, 24, 25, 26, 7, 27, 28, 29, 30, 31, 9, 32, 33, 34, 35, 36, 37, 38, 39, 3, 40, 2, 41, 42, 43, 44, 45, 46, 47, 48, 132, 133, 134, 135, 136, 137, 138, 139, 140, 141, 142, 143, 144, 145, 146, 147, 148, 149, 150, 151, 152, 153, 154, 155, 156, 157, 158, 159, 160, 161, 162, 163, 164, 165, 166, 167, 168, 169, 170, 171, 172, 173, 174, 175, 176, 177, 178, 179, 180, 181, 182, 183, 184] (by decide +kernel) (by decide +kernel)
set_option maxRecDepth 20000 in
theorem gX7_sit_X7_think : GoodIn wsX7_sit (wsV RX7 289 RX7 yX7_think wsX7_think) := goodIn_app (goodIn_of _ (by decide +kernel)) ggX7_sit_X7_think
set_option maxRecDepth 20000 in
theorem ggX7_sit_X7_isFree : GoodIn wsX7_sit wsX7_isFree := goodIn_r _ [52, 43, 53, 54, 55, 7, 56, 57, 58, 59, 60, 31, 37, 61, 62, 63, 64, 9, 3, 2, 132, 133, 134, 135, 136, 137, 138, 139, 140, 141, 142, 143, 144, 145, 146, 147, 148, 149, 150, 151, 152, 153, 154, 155, 156, 157, 158, 159, 160, 161, 162, 163, 164, 165, 166, 167, 168, 169, 170, 171, 172, 173, 174, 175, 176, 177, 178, 179, 180, 181, 182, 183, 184] (by decide +kernel) (by decide +kernel)
set_option maxRecDepth 20000 in
theorem gX7_sit_X7_isFree : GoodIn wsX7_sit (wsV RX7 179 RX7 yX7_isFree wsX7_isFree) := goodIn_app (goodIn_of _ (by decide +kernel)) ggX7_sit_X7_isFree
set_option maxRecDepth 20000 in
theorem ggX7_sit_X7_offIn : GoodIn wsX7_sit wsX7_offIn := goodIn_r _ [68, 2, 69, 70, 71, 7, 72, 33, 44, 32, 41, 42, 31, 73, 9, 3, 40, 74, 75, 76, 77, 78, 79, 80, 81, 82, 83, 84, 85, 86, 87, 88, 37, 39, 89, 90, 91, 92, 36, 35, 93, 94, 95, 96, 97, 98, 99, 38, 34, 100, 101, 102, 103, 104, 105, 106, 10, 11, 12, 61, 62, 63, 64, 49, 50, 51, 52, 43, 53, 54, 55, 56, 57, 58, 59, 60, 107, 108, 109, 110, 111, 112, 113, 114, 115, 116, 117, 118, 119, 120, 121, 122, 123, 124, 125, 126, 127, 128, 129, 130, 131, 22, 23, 24, 25, 26, 27, 28, 29, 30, 45, 46, 47, 48, 132, 133, 134, 135, 136, 137, 138, 139, 140, 141, 142, 143, 144, 145, 146, 147, 148, 149, 150, 151, 152, 153, 154, 155, 156, 157, 158, 159, 160, 161, 162, 163, 164, 165, 166, 167, 168, 169, 170, 171, 172, 173, 174, 175, 176, 177, 178, 179, 180, 181, 182, 183, 184] (by decide +kernel) (by decide +kernel)
set_option maxRecDepth 20000 in
theorem gX7_sit_X7_offIn : GoodIn wsX7_sit (wsV RX7 360 RX7 yX7_offIn wsX7_offIn) := goodIn_app (goodIn_of _ (by decide +kernel)) ggX7_sit_X7_offIn
theorem dX7_sit_0 : decode cX7_sit 0 = .ok (.aload_n 0, 1) := by decide +kernel
theorem dX7_sit_1 : decode cX7_sit 1 = .ok (.iconst 0, 1) := by decide +kernel
theorem dX7_sit_2 : decode cX7_sit 2 = .ok (.putfield 114, 3) := by decide +kernel
theorem dX7_sit_5 : decode cX7_sit 5 = .ok (.aload_n 0, 1) := by decide +kernel
theorem dX7_sit_6 : decode cX7_sit 6 = .ok (.iload_n 1, 1) := by decide +kernel
theorem dX7_sit_7 : decode cX7_sit 7 = .ok (.invokevirtual 323, 3) := by decide +kernel
theorem dX7_sit_10 : decode cX7_sit 10 = .ok (.ifCond .eq 13, 3) := by decide +kernel
theorem dX7_sit_13 : decode cX7_sit 13 = .ok (.iload_n 2, 1) := by decide +kernel
theorem dX7_sit_14 : decode cX7_sit 14 = .ok (.i2l, 1) := by decide +kernel
theorem dX7_sit_15 : decode cX7_sit 15 = .ok (.lconst 0, 1) := by decide +kernel
theorem dX7_sit_16 : decode cX7_sit 16 = .ok (.lconst 1, 1) := by decide +kernel
theorem dX7_sit_17 : decode cX7_sit 17 = .ok (.invokestatic 122, 3) := by decide +kernel
theorem dX7_sit_20 : decode cX7_sit 20 = .ok (.ifCond .ne 22, 3) := by decide +kernel
theorem dX7_sit_23 : decode cX7_sit 23 = .ok (.aload_n 0, 1) := by decide +kernel
theorem dX7_sit_24 : decode cX7_sit 24 = .ok (.aload_n 0, 1) := by decide +kernel
theorem dX7_sit_25 : decode cX7_sit 25 = .ok (.iload_n 1, 1) := by decide +kernel
theorem dX7_sit_26 : decode cX7_sit 26 = .ok (.invokevirtual 323, 3) := by decide +kernel
theorem dX7_sit_29 : decode cX7_sit 29 = .ok (.ifCond .eq 8, 3) := by decide +kernel
theorem dX7_sit_32 : decode cX7_sit 32 = .ok (.bipush (-2), 2) := by decide +kernel
theorem dX7_sit_34 : decode cX7_sit 34 = .ok (.goto 4, 3) := by decide +kernel
theorem dX7_sit_37 : decode cX7_sit 37 = .ok (.iconst (-1), 1) := by decide +kernel
theorem dX7_sit_38 : decode cX7_sit 38 = .ok (.invokevirtual 219, 3) := by decide +kernel
theorem dX7_sit_41 : decode cX7_sit 41 = .ok (.ireturn, 1) := by decide +kernel
theorem dX7_sit_42 : decode cX7_sit 42 = .ok (.aload_n 0, 1) := by decide +kernel
theorem dX7_sit_43 : decode cX7_sit 43 = .ok (.getfield 38, 3) := by decide +kernel
theorem dX7_sit_46 : decode cX7_sit 46 = .ok (.iload_n 1, 1) := by decide +kernel
theorem dX7_sit_47 : decode cX7_sit 47 = .ok (.iaload, 1) := by decide +kernel
theorem dX7_sit_48 : decode cX7_sit 48 = .ok (.ifCond .ne 10, 3) := by decide +kernel
theorem dX7_sit_51 : decode cX7_sit 51 = .ok (.aload_n 0, 1) := by decide +kernel
theorem dX7_sit_52 : decode cX7_sit 52 = .ok (.bipush (-3), 2) := by decide +kernel
theorem dX7_sit_54 : decode cX7_sit 54 = .ok (.invokevirtual 219, 3) := by decide +kernel
theorem dX7_sit_57 : decode cX7_sit 57 = .ok (.ireturn, 1) := by decide +kernel
theorem dX7_sit_58 : decode cX7_sit 58 = .ok (.bipush (-9), 2) := by decide +kernel
theorem dX7_sit_60 : decode cX7_sit 60 = .ok (.istore_n 3, 1) := by decide +kernel
theorem dX7_sit_61 : decode cX7_sit 61 = .ok (.iconst (-1), 1) := by decide +kernel
theorem dX7_sit_62 : decode cX7_sit 62 = .ok (.istore 4, 2) := by decide +kernel
theorem dX7_sit_64 : decode cX7_sit 64 = .ok (.aload_n 0, 1) := by decide +kernel
theorem dX7_sit_65 : decode cX7_sit 65 = .ok (.invokevirtual 289, 3) := by decide +kernel
theorem dX7_sit_68 : decode cX7_sit 68 = .ok (.iconst 0, 1) := by decide +kernel
theorem dX7_sit_69 : decode cX7_sit 69 = .ok (.istore 5, 2) := by decide +kernel
theorem dX7_sit_71 : decode cX7_sit 71 = .ok (.iload 5, 2) := by decide +kernel
theorem dX7_sit_73 : decode cX7_sit 73 = .ok (.bipush 36, 2) := by decide +kernel
theorem dX7_sit_75 : decode cX7_sit 75 = .ok (.if_icmp .ge 74, 3) := by decide +kernel
theorem dX7_sit_78 : decode cX7_sit 78 = .ok (.aload_n 0, 1) := by decide +kernel
theorem dX7_sit_79 : decode cX7_sit 79 = .ok (.iload 5, 2) := by decide +kernel
theorem dX7_sit_81 : decode cX7_sit 81 = .ok (.invokevirtual 179, 3) := by decide +kernel
theorem dX7_sit_84 : decode cX7_sit 84 = .ok (.ifCond .ne 14, 3) := by decide +kernel
theorem dX7_sit_87 : decode cX7_sit 87 = .ok (.iload 5, 2) := by decide +kernel
theorem dX7_sit_89 : decode cX7_sit 89 = .ok (.aload_n 0, 1) := by decide +kernel
theorem dX7_sit_90 : decode cX7_sit 90 = .ok (.getfield 32, 3) := by decide +kernel
theorem dX7_sit_93 : decode cX7_sit 93 = .ok (.iload_n 1, 1) := by decide +kernel
theorem dX7_sit_94 : decode cX7_sit 94 = .ok (.iaload, 1) := by decide +kernel
theorem dX7_sit_95 : decode cX7_sit 95 = .ok (.if_icmp .ne 48, 3) := by decide +kernel
theorem dX7_sit_98 : decode cX7_sit 98 = .ok (.aload_n 0, 1) := by decide +kernel
theorem dX7_sit_99 : decode cX7_sit 99 = .ok (.getfield 32, 3) := by decide +kernel
theorem dX7_sit_102 : decode cX7_sit 102 = .ok (.iload_n 1, 1) := by decide +kernel
theorem dX7_sit_103 : decode cX7_sit 103 = .ok (.iload 5, 2) := by decide +kernel
theorem dX7_sit_105 : decode cX7_sit 105 = .ok (.iastore, 1) := by decide +kernel
theorem dX7_sit_106 : decode cX7_sit 106 = .ok (.aload_n 0, 1) := by decide +kernel
theorem dX7_sit_107 : decode cX7_sit 107 = .ok (.iload_n 1, 1) := by decide +kernel
theorem dX7_sit_108 : decode cX7_sit 108 = .ok (.invokevirtual 360, 3) := by decide +kernel
theorem dX7_sit_111 : decode cX7_sit 111 = .ok (.istore 6, 2) := by decide +kernel
theorem dX7_sit_113 : decode cX7_sit 113 = .ok (.iload 6, 2) := by decide +kernel
theorem dX7_sit_115 : decode cX7_sit 115 = .ok (.iload 4, 2) := by decide +kernel
theorem dX7_sit_117 : decode cX7_sit 117 = .ok (.if_icmp .le 8, 3) := by decide +kernel
theorem dX7_sit_120 : decode cX7_sit 120 = .ok (.iload 5, 2) := by decide +kernel
theorem dX7_sit_122 : decode cX7_sit 122 = .ok (.goto 4, 3) := by decide +kernel
theorem dX7_sit_125 : decode cX7_sit 125 = .ok (.iload_n 3, 1) := by decide +kernel
theorem dX7_sit_126 : decode cX7_sit 126 = .ok (.istore_n 3, 1) := by decide +kernel
theorem dX7_sit_127 : decode cX7_sit 127 = .ok (.iload 6, 2) := by decide +kernel
theorem dX7_sit_129 : decode cX7_sit 129 = .ok (.iload 4, 2) := by decide +kernel
theorem dX7_sit_131 : decode cX7_sit 131 = .ok (.if_icmp .le 8, 3) := by decide +kernel
theorem dX7_sit_134 : decode cX7_sit 134 = .ok (.iload 6, 2) := by decide +kernel
theorem dX7_sit_136 : decode cX7_sit 136 = .ok (.goto 5, 3) := by decide +kernel
theorem dX7_sit_139 : decode cX7_sit 139 = .ok (.iload 4, 2) := by decide +kernel
theorem dX7_sit_141 : decode cX7_sit 141 = .ok (.istore 4, 2) := by decide +kernel
theorem dX7_sit_143 : decode cX7_sit 143 = .ok (.iinc 5 1, 3) := by decide +kernel
theorem dX7_sit_146 : decode cX7_sit 146 = .ok (.goto (-75), 3) := by decide +kernel
theorem dX7_sit_149 : decode cX7_sit 149 = .ok (.iload_n 2, 1) := by decide +kernel
theorem dX7_sit_150 : decode cX7_sit 150 = .ok (.ifCond .ne 7, 3) := by decide +kernel
theorem dX7_sit_153 : decode cX7_sit 153 = .ok (.iload_n 3, 1) := by decide +kernel
theorem dX7_sit_154 : decode cX7_sit 154 = .ok (.goto 5, 3) := by decide +kernel
theorem dX7_sit_157 : decode cX7_sit 157 = .ok (.iload 4, 2) := by decide +kernel
theorem dX7_sit_159 : decode cX7_sit 159 = .ok (.ireturn, 1) := by decide +kernel
set_option maxRecDepth 20000 in
theorem ggX7_shut_X7_isSitter : GoodIn wsX7_shut wsX7_isSitter := goodIn_r _ [8, 9, 10, 11, 7, 12, 135, 136, 137, 138, 139, 140, 141, 142, 143, 144, 145, 146, 147, 148, 149, 150, 151, 152, 153, 154, 155, 156, 157, 158, 159, 160, 161, 162, 163, 164, 165, 166, 167, 168, 169, 170, 171, 172, 173, 174, 175, 176, 177, 178, 179, 180, 181, 182, 183, 184, 185, 186, 187] (by decide +kernel) (by decide +kernel)
set_option maxRecDepth 20000 in
theorem gX7_shut_X7_isSitter : GoodIn wsX7_shut (wsV RX7 323 RX7 yX7_isSitter wsX7_isSitter) := goodIn_app (goodIn_of _ (by decide +kernel)) ggX7_shut_X7_isSitter
set_option maxRecDepth 20000 in
theorem ggX7_shut_X7_refuse : GoodIn wsX7_shut wsX7_refuse := goodIn_r _ [16, 17, 135, 136, 137, 138, 139, 140, 141, 142, 143, 144, 145, 146, 147, 148, 149, 150, 151, 152, 153, 154, 155, 156, 157, 158, 159, 160, 161, 162, 163, 164, 165, 166, 167, 168, 169, 170, 171, 172, 173, 174, 175, 176, 177, 178, 179, 180, 181, 182, 183, 184, 185, 186, 187] (by decide +kernel) (by decide +kernel)
set_option maxRecDepth 20000 in
theorem gX7_shut_X7_refuse : GoodIn wsX7_shut (wsV RX7 219 RX7 yX7_refuse wsX7_refuse) := goodIn_app (goodIn_of _ (by decide +kernel)) ggX7_shut_X7_refuse
set_option maxRecDepth 20000 in
theorem ggX7_shut_X7_wrongNumber : GoodIn wsX7_shut wsX7_wrongNumber := goodIn_r _ [20] (by decide +kernel) (by decide +kernel)
set_option maxRecDepth 20000 in
theorem gX7_shut_X7_wrongNumber : GoodIn wsX7_shut (va_wsS RX7 347 yX7_wrongNumber wsX7_wrongNumber) := goodIn_app (goodIn_of _ (by decide +kernel)) ggX7_shut_X7_wrongNumber
set_option maxRecDepth 20000 in
theorem ggX7_shut_X7_think : GoodIn wsX7_shut wsX7_think := goodIn_r _ [24, 25, 26, 27, 28, 29, 7, 30, 31, 32, 33, 34, 9, 35, 36, 37, 38, 39, 40, 41, 42, 43, 44, 2, 45, 46, 3, 47, 48, 49, 50, 51, 135, 136, 137, 138, 139, 140, 141, 142, 143, 144, 145, 146, 147, 148, 149, 150, 151, 152, 153, 154, 155, 156, 157, 158, 159, 160, 161, 162, 163, 164, 165, 166, 167, 168, 169, 170, 171, 172, 173, 174, 175, 176, 177, 178, 179, 180, 181, 182, 183, 184, 185, 186, 187] (by decide +kernel) (by decide +kernel)
set_option maxRecDepth 20000 in
theorem gX7_shut_X7_think : GoodIn wsX7_shut (wsV RX7 289 RX7 yX7_think wsX7_think) := goodIn_app (goodIn_of _ (by decide +kernel)) ggX7_shut_X7_think
set_option maxRecDepth 20000 in
theorem ggX7_shut_X7_isFree : GoodIn wsX7_shut wsX7_isFree := goodIn_r _ [55, 3, 56, 57, 58, 7, 59, 60, 61, 62, 63, 34, 40, 64, 65, 66, 67, 9, 43, 2, 135, 136, 137, 138, 139, 140, 141, 142, 143, 144, 145, 146, 147, 148, 149, 150, 151, 152, 153, 154, 155, 156, 157, 158, 159, 160, 161, 162, 163, 164, 165, 166, 167, 168, 169, 170, 171, 172, 173, 174, 175, 176, 177, 178, 179, 180, 181, 182, 183, 184, 185, 186, 187] (by decide +kernel) (by decide +kernel)
set_option maxRecDepth 20000 in
theorem gX7_shut_X7_isFree : GoodIn wsX7_shut (wsV RX7 179 RX7 yX7_isFree wsX7_isFree) := goodIn_app (goodIn_of _ (by decide +kernel)) ggX7_shut_X7_isFree
set_option maxRecDepth 20000 in
theorem ggX7_shut_X7_goTurns : GoodIn wsX7_shut wsX7_goTurns := goodIn_r _ [71, 72, 73, 74, 7, 75, 36, 47, 35, 45, 46, 34, 76, 9, 2, 43, 44, 77, 78, 79, 80, 81, 82, 83, 84, 85, 86, 87, 88, 89, 90, 91, 40, 42, 92, 93, 94, 95, 39, 38, 96, 97, 98, 99, 100, 101, 102, 41, 37, 103, 104, 105, 106, 107, 108, 109, 10, 11, 12, 64, 65, 66, 67, 52, 53, 54, 55, 3, 56, 57, 58, 59, 60, 61, 62, 63, 110, 111, 112, 113, 114, 115, 116, 117, 118, 119, 120, 121, 122, 123, 124, 125, 126, 127, 128, 129, 130, 135, 136, 137, 138, 139, 140, 141, 142, 143, 144, 145, 146, 147, 148, 149, 150, 151, 152, 153, 154, 155, 156, 157, 158, 159, 160, 161, 162, 163, 164, 165, 166, 167, 168, 169, 170, 171, 172, 173, 174, 175, 176, 177, 178, 179, 180, 181, 182, 183, 184, 185, 186, 187] (by decide +kernel) (by decide +kernel)
set_option maxRecDepth 20000 in
theorem gX7_shut_X7_goTurns : GoodIn wsX7_shut (wsV RX7 263 RX7 yX7_goTurns wsX7_goTurns) := goodIn_app (goodIn_of _ (by decide +kernel)) ggX7_shut_X7_goTurns
set_option maxRecDepth 20000 in
theorem ggX7_shut_X7_again : GoodIn wsX7_shut wsX7_again := goodIn_r _ [134, 25, 26, 27, 28, 29, 7, 30, 31, 32, 33, 34, 9, 35, 36, 37, 38, 39, 40, 41, 42, 43, 44, 2, 45, 46, 3, 47, 48, 49, 50, 51, 135, 136, 137, 138, 139, 140, 141, 142, 143, 144, 145, 146, 147, 148, 149, 150, 151, 152, 153, 154, 155, 156, 157, 158, 159, 160, 161, 162, 163, 164, 165, 166, 167, 168, 169, 170, 171, 172, 173, 174, 175, 176, 177, 178, 179, 180, 181, 182, 183, 184, 185, 186, 187] (by decide +kernel) (by decide +kernel)
set_option maxRecDepth 20000 in
theorem gX7_shut_X7_again : GoodIn wsX7_shut (wsV RX7 295 RX7 yX7_again wsX7_again) := goodIn_app (goodIn_of _ (by decide +kernel)) ggX7_shut_X7_again
theorem dX7_shut_0 : decode cX7_shut 0 = .ok (.aload_n 0, 1) := by decide +kernel
theorem dX7_shut_1 : decode cX7_shut 1 = .ok (.iconst 0, 1) := by decide +kernel
theorem dX7_shut_2 : decode cX7_shut 2 = .ok (.putfield 114, 3) := by decide +kernel
theorem dX7_shut_5 : decode cX7_shut 5 = .ok (.aload_n 0, 1) := by decide +kernel
theorem dX7_shut_6 : decode cX7_shut 6 = .ok (.iload_n 1, 1) := by decide +kernel
theorem dX7_shut_7 : decode cX7_shut 7 = .ok (.invokevirtual 323, 3) := by decide +kernel
theorem dX7_shut_10 : decode cX7_shut 10 = .ok (.ifCond .ne 9, 3) := by decide +kernel
theorem dX7_shut_13 : decode cX7_shut 13 = .ok (.aload_n 0, 1) := by decide +kernel
theorem dX7_shut_14 : decode cX7_shut 14 = .ok (.iconst (-1), 1) := by decide +kernel
theorem dX7_shut_15 : decode cX7_shut 15 = .ok (.invokevirtual 219, 3) := by decide +kernel
theorem dX7_shut_18 : decode cX7_shut 18 = .ok (.ireturn, 1) := by decide +kernel
theorem dX7_shut_19 : decode cX7_shut 19 = .ok (.iload_n 2, 1) := by decide +kernel
theorem dX7_shut_20 : decode cX7_shut 20 = .ok (.iconst 0, 1) := by decide +kernel
theorem dX7_shut_21 : decode cX7_shut 21 = .ok (.bipush 30, 2) := by decide +kernel
theorem dX7_shut_23 : decode cX7_shut 23 = .ok (.invokestatic 347, 3) := by decide +kernel
theorem dX7_shut_26 : decode cX7_shut 26 = .ok (.istore_n 3, 1) := by decide +kernel
theorem dX7_shut_27 : decode cX7_shut 27 = .ok (.iload_n 3, 1) := by decide +kernel
theorem dX7_shut_28 : decode cX7_shut 28 = .ok (.ifCond .ne 17, 3) := by decide +kernel
theorem dX7_shut_31 : decode cX7_shut 31 = .ok (.aload_n 0, 1) := by decide +kernel
theorem dX7_shut_32 : decode cX7_shut 32 = .ok (.getfield 38, 3) := by decide +kernel
theorem dX7_shut_35 : decode cX7_shut 35 = .ok (.iload_n 1, 1) := by decide +kernel
theorem dX7_shut_36 : decode cX7_shut 36 = .ok (.iaload, 1) := by decide +kernel
theorem dX7_shut_37 : decode cX7_shut 37 = .ok (.ifCond .ne 8, 3) := by decide +kernel
theorem dX7_shut_40 : decode cX7_shut 40 = .ok (.bipush (-3), 2) := by decide +kernel
theorem dX7_shut_42 : decode cX7_shut 42 = .ok (.goto 4, 3) := by decide +kernel
theorem dX7_shut_45 : decode cX7_shut 45 = .ok (.iload_n 3, 1) := by decide +kernel
theorem dX7_shut_46 : decode cX7_shut 46 = .ok (.istore_n 3, 1) := by decide +kernel
theorem dX7_shut_47 : decode cX7_shut 47 = .ok (.iload_n 3, 1) := by decide +kernel
theorem dX7_shut_48 : decode cX7_shut 48 = .ok (.ifCond .ge 9, 3) := by decide +kernel
theorem dX7_shut_51 : decode cX7_shut 51 = .ok (.aload_n 0, 1) := by decide +kernel
theorem dX7_shut_52 : decode cX7_shut 52 = .ok (.iload_n 3, 1) := by decide +kernel
theorem dX7_shut_53 : decode cX7_shut 53 = .ok (.invokevirtual 219, 3) := by decide +kernel
theorem dX7_shut_56 : decode cX7_shut 56 = .ok (.ireturn, 1) := by decide +kernel
theorem dX7_shut_57 : decode cX7_shut 57 = .ok (.bipush (-9), 2) := by decide +kernel
theorem dX7_shut_59 : decode cX7_shut 59 = .ok (.istore 4, 2) := by decide +kernel
theorem dX7_shut_61 : decode cX7_shut 61 = .ok (.aload_n 0, 1) := by decide +kernel
theorem dX7_shut_62 : decode cX7_shut 62 = .ok (.invokevirtual 289, 3) := by decide +kernel
theorem dX7_shut_65 : decode cX7_shut 65 = .ok (.iconst 0, 1) := by decide +kernel
theorem dX7_shut_66 : decode cX7_shut 66 = .ok (.istore 5, 2) := by decide +kernel
theorem dX7_shut_68 : decode cX7_shut 68 = .ok (.iload 5, 2) := by decide +kernel
theorem dX7_shut_70 : decode cX7_shut 70 = .ok (.bipush 36, 2) := by decide +kernel
theorem dX7_shut_72 : decode cX7_shut 72 = .ok (.if_icmp .ge 59, 3) := by decide +kernel
theorem dX7_shut_75 : decode cX7_shut 75 = .ok (.iload 4, 2) := by decide +kernel
theorem dX7_shut_77 : decode cX7_shut 77 = .ok (.ifCond .ge 54, 3) := by decide +kernel
theorem dX7_shut_80 : decode cX7_shut 80 = .ok (.aload_n 0, 1) := by decide +kernel
theorem dX7_shut_81 : decode cX7_shut 81 = .ok (.iload 5, 2) := by decide +kernel
theorem dX7_shut_83 : decode cX7_shut 83 = .ok (.invokevirtual 179, 3) := by decide +kernel
theorem dX7_shut_86 : decode cX7_shut 86 = .ok (.ifCond .eq 39, 3) := by decide +kernel
theorem dX7_shut_89 : decode cX7_shut 89 = .ok (.aload_n 0, 1) := by decide +kernel
theorem dX7_shut_90 : decode cX7_shut 90 = .ok (.getfield 13, 3) := by decide +kernel
theorem dX7_shut_93 : decode cX7_shut 93 = .ok (.iload 5, 2) := by decide +kernel
theorem dX7_shut_95 : decode cX7_shut 95 = .ok (.iconst 1, 1) := by decide +kernel
theorem dX7_shut_96 : decode cX7_shut 96 = .ok (.iastore, 1) := by decide +kernel
theorem dX7_shut_97 : decode cX7_shut 97 = .ok (.aload_n 0, 1) := by decide +kernel
theorem dX7_shut_98 : decode cX7_shut 98 = .ok (.iload_n 2, 1) := by decide +kernel
theorem dX7_shut_99 : decode cX7_shut 99 = .ok (.invokevirtual 263, 3) := by decide +kernel
theorem dX7_shut_102 : decode cX7_shut 102 = .ok (.aload_n 0, 1) := by decide +kernel
theorem dX7_shut_103 : decode cX7_shut 103 = .ok (.getfield 38, 3) := by decide +kernel
theorem dX7_shut_106 : decode cX7_shut 106 = .ok (.iload_n 1, 1) := by decide +kernel
theorem dX7_shut_107 : decode cX7_shut 107 = .ok (.iaload, 1) := by decide +kernel
theorem dX7_shut_108 : decode cX7_shut 108 = .ok (.iconst 1, 1) := by decide +kernel
theorem dX7_shut_109 : decode cX7_shut 109 = .ok (.if_icmp .ne 8, 3) := by decide +kernel
theorem dX7_shut_112 : decode cX7_shut 112 = .ok (.iload 5, 2) := by decide +kernel
theorem dX7_shut_114 : decode cX7_shut 114 = .ok (.goto 5, 3) := by decide +kernel
theorem dX7_shut_117 : decode cX7_shut 117 = .ok (.bipush (-9), 2) := by decide +kernel
theorem dX7_shut_119 : decode cX7_shut 119 = .ok (.istore 4, 2) := by decide +kernel
theorem dX7_shut_121 : decode cX7_shut 121 = .ok (.aload_n 0, 1) := by decide +kernel
theorem dX7_shut_122 : decode cX7_shut 122 = .ok (.invokevirtual 295, 3) := by decide +kernel
theorem dX7_shut_125 : decode cX7_shut 125 = .ok (.iinc 5 1, 3) := by decide +kernel
theorem dX7_shut_128 : decode cX7_shut 128 = .ok (.goto (-60), 3) := by decide +kernel
theorem dX7_shut_131 : decode cX7_shut 131 = .ok (.iload 4, 2) := by decide +kernel
theorem dX7_shut_133 : decode cX7_shut 133 = .ok (.ireturn, 1) := by decide +kernel
set_option maxRecDepth 20000 in
theorem ggX7_most_X7_wrongNumber : GoodIn wsX7_most wsX7_wrongNumber := goodIn_r _ [6] (by decide +kernel) (by decide +kernel)
set_option maxRecDepth 20000 in
theorem gX7_most_X7_wrongNumber : GoodIn wsX7_most (va_wsS RX7 347 yX7_wrongNumber wsX7_wrongNumber) := goodIn_app (goodIn_of _ (by decide +kernel)) ggX7_most_X7_wrongNumber
set_option maxRecDepth 20000 in
theorem ggX7_most_X7_refuse : GoodIn wsX7_most wsX7_refuse := goodIn_r _ [10, 11, 138, 139, 140, 141, 142, 143, 144, 145, 146, 147, 148, 149, 150, 151, 152, 153, 154, 155, 156, 157, 158, 159, 160, 161, 162, 163, 164, 165, 166, 167, 168, 169, 170, 171, 172, 173, 174, 175, 176, 177, 178, 179, 180, 181, 182, 183, 184, 185, 186, 187, 188, 189, 190] (by decide +kernel) (by decide +kernel)
set_option maxRecDepth 20000 in
theorem gX7_most_X7_refuse : GoodIn wsX7_most (wsV RX7 219 RX7 yX7_refuse wsX7_refuse) := goodIn_app (goodIn_of _ (by decide +kernel)) ggX7_most_X7_refuse
set_option maxRecDepth 20000 in
theorem ggX7_most_X7_think : GoodIn wsX7_most wsX7_think := goodIn_r _ [15, 16, 17, 18, 19, 20, 5, 21, 22, 23, 24, 25, 26, 27, 28, 29, 30, 31, 32, 33, 34, 35, 36, 37, 38, 39, 2, 40, 41, 42, 43, 44, 138, 139, 140, 141, 142, 143, 144, 145, 146, 147, 148, 149, 150, 151, 152, 153, 154, 155, 156, 157, 158, 159, 160, 161, 162, 163, 164, 165, 166, 167, 168, 169, 170, 171, 172, 173, 174, 175, 176, 177, 178, 179, 180, 181, 182, 183, 184, 185, 186, 187, 188, 189, 190] (by decide +kernel) (by decide +kernel)
set_option maxRecDepth 20000 in
theorem gX7_most_X7_think : GoodIn wsX7_most (wsV RX7 289 RX7 yX7_think wsX7_think) := goodIn_app (goodIn_of _ (by decide +kernel)) ggX7_most_X7_think
set_option maxRecDepth 20000 in
theorem ggX7_most_X7_goTurns : GoodIn wsX7_most wsX7_goTurns := goodIn_r _ [48, 49, 50, 51, 5, 52, 28, 40, 27, 38, 39, 25, 53, 26, 37, 35, 36, 54, 55, 56, 57, 58, 59, 60, 61, 62, 63, 64, 65, 66, 67, 68, 32, 34, 69, 70, 71, 72, 31, 30, 73, 74, 75, 76, 77, 78, 79, 33, 29, 80, 81, 82, 83, 84, 85, 86, 87, 88, 89, 90, 91, 92, 93, 94, 95, 96, 97, 2, 98, 99, 100, 101, 102, 103, 104, 105, 106, 107, 108, 109, 110, 111, 112, 113, 114, 115, 116, 117, 118, 119, 120, 121, 122, 123, 124, 125, 126, 138, 139, 140, 141, 142, 143, 144, 145, 146, 147, 148, 149, 150, 151, 152, 153, 154, 155, 156, 157, 158, 159, 160, 161, 162, 163, 164, 165, 166, 167, 168, 169, 170, 171, 172, 173, 174, 175, 176, 177, 178, 179, 180, 181, 182, 183, 184, 185, 186, 187, 188, 189, 190] (by decide +kernel) (by decide +kernel)
set_option maxRecDepth 20000 in
theorem gX7_most_X7_goTurns : GoodIn wsX7_most (wsV RX7 263 RX7 yX7_goTurns wsX7_goTurns) := goodIn_app (goodIn_of _ (by decide +kernel)) ggX7_most_X7_goTurns
set_option maxRecDepth 20000 in
theorem ggX7_most_X7_onBits : GoodIn wsX7_most wsX7_onBits := goodIn_r _ [130, 26, 37, 138, 139, 140, 141, 142, 143, 144, 145, 146, 147, 148, 149, 150, 151, 152, 153, 154, 155, 156, 157, 158, 159, 160, 161, 162, 163, 164, 165, 166, 167, 168, 169, 170, 171, 172, 173, 174, 175, 176, 177, 178, 179, 180, 181, 182, 183, 184, 185, 186, 187, 188, 189, 190] (by decide +kernel) (by decide +kernel)
set_option maxRecDepth 20000 in
theorem gX7_most_X7_onBits : GoodIn wsX7_most (wsV RX7 352 RX7 yX7_onBits wsX7_onBits) := goodIn_app (goodIn_of _ (by decide +kernel)) ggX7_most_X7_onBits
set_option maxRecDepth 20000 in
theorem ggX7_most_X7_onesOf : GoodIn wsX7_most wsX7_onesOf := goodIn_r _ [133] (by decide +kernel) (by decide +kernel)
set_option maxRecDepth 20000 in
theorem gX7_most_X7_onesOf : GoodIn wsX7_most (va_wsS RX7 363 yX7_onesOf wsX7_onesOf) := goodIn_app (goodIn_of _ (by decide +kernel)) ggX7_most_X7_onesOf
set_option maxRecDepth 20000 in
theorem ggX7_most_X7_again : GoodIn wsX7_most wsX7_again := goodIn_r _ [137, 16, 17, 18, 19, 20, 5, 21, 22, 23, 24, 25, 26, 27, 28, 29, 30, 31, 32, 33, 34, 35, 36, 37, 38, 39, 2, 40, 41, 42, 43, 44, 138, 139, 140, 141, 142, 143, 144, 145, 146, 147, 148, 149, 150, 151, 152, 153, 154, 155, 156, 157, 158, 159, 160, 161, 162, 163, 164, 165, 166, 167, 168, 169, 170, 171, 172, 173, 174, 175, 176, 177, 178, 179, 180, 181, 182, 183, 184, 185, 186, 187, 188, 189, 190] (by decide +kernel) (by decide +kernel)
set_option maxRecDepth 20000 in
theorem gX7_most_X7_again : GoodIn wsX7_most (wsV RX7 295 RX7 yX7_again wsX7_again) := goodIn_app (goodIn_of _ (by decide +kernel)) ggX7_most_X7_again
set_option maxRecDepth 20000 in
theorem ggX7_most_X7_isFree : GoodIn wsX7_most wsX7_isFree := goodIn_r _ [97, 2, 98, 99, 100, 5, 101, 102, 103, 104, 105, 25, 32, 90, 91, 92, 93, 26, 35, 37, 138, 139, 140, 141, 142, 143, 144, 145, 146, 147, 148, 149, 150, 151, 152, 153, 154, 155, 156, 157, 158, 159, 160, 161, 162, 163, 164, 165, 166, 167, 168, 169, 170, 171, 172, 173, 174, 175, 176, 177, 178, 179, 180, 181, 182, 183, 184, 185, 186, 187, 188, 189, 190] (by decide +kernel) (by decide +kernel)
set_option maxRecDepth 20000 in
theorem gX7_most_X7_isFree : GoodIn wsX7_most (wsV RX7 179 RX7 yX7_isFree wsX7_isFree) := goodIn_app (goodIn_of _ (by decide +kernel)) ggX7_most_X7_isFree
theorem dX7_most_0 : decode cX7_most 0 = .ok (.aload_n 0, 1) := by decide +kernel
theorem dX7_most_1 : decode cX7_most 1 = .ok (.iconst 0, 1) := by decide +kernel
theorem dX7_most_2 : decode cX7_most 2 = .ok (.putfield 114, 3) := by decide +kernel
theorem dX7_most_5 : decode cX7_most 5 = .ok (.iload_n 1, 1) := by decide +kernel
theorem dX7_most_6 : decode cX7_most 6 = .ok (.iconst 0, 1) := by decide +kernel
theorem dX7_most_7 : decode cX7_most 7 = .ok (.bipush 30, 2) := by decide +kernel
theorem dX7_most_9 : decode cX7_most 9 = .ok (.invokestatic 347, 3) := by decide +kernel
theorem dX7_most_12 : decode cX7_most 12 = .ok (.ifCond .ge 15, 3) := by decide +kernel
theorem dX7_most_15 : decode cX7_most 15 = .ok (.aload_n 0, 1) := by decide +kernel
theorem dX7_most_16 : decode cX7_most 16 = .ok (.iload_n 1, 1) := by decide +kernel
theorem dX7_most_17 : decode cX7_most 17 = .ok (.iconst 0, 1) := by decide +kernel
theorem dX7_most_18 : decode cX7_most 18 = .ok (.bipush 30, 2) := by decide +kernel
theorem dX7_most_20 : decode cX7_most 20 = .ok (.invokestatic 347, 3) := by decide +kernel
theorem dX7_most_23 : decode cX7_most 23 = .ok (.invokevirtual 219, 3) := by decide +kernel
theorem dX7_most_26 : decode cX7_most 26 = .ok (.ireturn, 1) := by decide +kernel
theorem dX7_most_27 : decode cX7_most 27 = .ok (.aload_n 0, 1) := by decide +kernel
theorem dX7_most_28 : decode cX7_most 28 = .ok (.invokevirtual 289, 3) := by decide +kernel
theorem dX7_most_31 : decode cX7_most 31 = .ok (.aload_n 0, 1) := by decide +kernel
theorem dX7_most_32 : decode cX7_most 32 = .ok (.iload_n 1, 1) := by decide +kernel
theorem dX7_most_33 : decode cX7_most 33 = .ok (.invokevirtual 263, 3) := by decide +kernel
theorem dX7_most_36 : decode cX7_most 36 = .ok (.aload_n 0, 1) := by decide +kernel
theorem dX7_most_37 : decode cX7_most 37 = .ok (.invokevirtual 352, 3) := by decide +kernel
theorem dX7_most_40 : decode cX7_most 40 = .ok (.invokestatic 363, 3) := by decide +kernel
theorem dX7_most_43 : decode cX7_most 43 = .ok (.istore_n 2, 1) := by decide +kernel
theorem dX7_most_44 : decode cX7_most 44 = .ok (.aload_n 0, 1) := by decide +kernel
theorem dX7_most_45 : decode cX7_most 45 = .ok (.invokevirtual 295, 3) := by decide +kernel
theorem dX7_most_48 : decode cX7_most 48 = .ok (.bipush (-9), 2) := by decide +kernel
theorem dX7_most_50 : decode cX7_most 50 = .ok (.istore_n 3, 1) := by decide +kernel
theorem dX7_most_51 : decode cX7_most 51 = .ok (.iconst 0, 1) := by decide +kernel
theorem dX7_most_52 : decode cX7_most 52 = .ok (.istore 4, 2) := by decide +kernel
theorem dX7_most_54 : decode cX7_most 54 = .ok (.iload 4, 2) := by decide +kernel
theorem dX7_most_56 : decode cX7_most 56 = .ok (.bipush 36, 2) := by decide +kernel
theorem dX7_most_58 : decode cX7_most 58 = .ok (.if_icmp .ge 70, 3) := by decide +kernel
theorem dX7_most_61 : decode cX7_most 61 = .ok (.aload_n 0, 1) := by decide +kernel
theorem dX7_most_62 : decode cX7_most 62 = .ok (.iload 4, 2) := by decide +kernel
theorem dX7_most_64 : decode cX7_most 64 = .ok (.invokevirtual 179, 3) := by decide +kernel
theorem dX7_most_67 : decode cX7_most 67 = .ok (.ifCond .eq 55, 3) := by decide +kernel
theorem dX7_most_70 : decode cX7_most 70 = .ok (.aload_n 0, 1) := by decide +kernel
theorem dX7_most_71 : decode cX7_most 71 = .ok (.getfield 13, 3) := by decide +kernel
theorem dX7_most_74 : decode cX7_most 74 = .ok (.iload 4, 2) := by decide +kernel
theorem dX7_most_76 : decode cX7_most 76 = .ok (.iconst 1, 1) := by decide +kernel
theorem dX7_most_77 : decode cX7_most 77 = .ok (.iastore, 1) := by decide +kernel
theorem dX7_most_78 : decode cX7_most 78 = .ok (.aload_n 0, 1) := by decide +kernel
theorem dX7_most_79 : decode cX7_most 79 = .ok (.iload_n 1, 1) := by decide +kernel
theorem dX7_most_80 : decode cX7_most 80 = .ok (.invokevirtual 263, 3) := by decide +kernel
theorem dX7_most_83 : decode cX7_most 83 = .ok (.aload_n 0, 1) := by decide +kernel
theorem dX7_most_84 : decode cX7_most 84 = .ok (.invokevirtual 352, 3) := by decide +kernel
theorem dX7_most_87 : decode cX7_most 87 = .ok (.invokestatic 363, 3) := by decide +kernel
theorem dX7_most_90 : decode cX7_most 90 = .ok (.istore 5, 2) := by decide +kernel
theorem dX7_most_92 : decode cX7_most 92 = .ok (.aload_n 0, 1) := by decide +kernel
theorem dX7_most_93 : decode cX7_most 93 = .ok (.invokevirtual 295, 3) := by decide +kernel
theorem dX7_most_96 : decode cX7_most 96 = .ok (.iload 5, 2) := by decide +kernel
theorem dX7_most_98 : decode cX7_most 98 = .ok (.iload_n 2, 1) := by decide +kernel
theorem dX7_most_99 : decode cX7_most 99 = .ok (.if_icmp .le 8, 3) := by decide +kernel
theorem dX7_most_102 : decode cX7_most 102 = .ok (.iload 4, 2) := by decide +kernel
theorem dX7_most_104 : decode cX7_most 104 = .ok (.goto 4, 3) := by decide +kernel
theorem dX7_most_107 : decode cX7_most 107 = .ok (.iload_n 3, 1) := by decide +kernel
theorem dX7_most_108 : decode cX7_most 108 = .ok (.istore_n 3, 1) := by decide +kernel
theorem dX7_most_109 : decode cX7_most 109 = .ok (.iload 5, 2) := by decide +kernel
theorem dX7_most_111 : decode cX7_most 111 = .ok (.iload_n 2, 1) := by decide +kernel
theorem dX7_most_112 : decode cX7_most 112 = .ok (.if_icmp .le 8, 3) := by decide +kernel
theorem dX7_most_115 : decode cX7_most 115 = .ok (.iload 5, 2) := by decide +kernel
theorem dX7_most_117 : decode cX7_most 117 = .ok (.goto 4, 3) := by decide +kernel
theorem dX7_most_120 : decode cX7_most 120 = .ok (.iload_n 2, 1) := by decide +kernel
theorem dX7_most_121 : decode cX7_most 121 = .ok (.istore_n 2, 1) := by decide +kernel
theorem dX7_most_122 : decode cX7_most 122 = .ok (.iinc 4 1, 3) := by decide +kernel
theorem dX7_most_125 : decode cX7_most 125 = .ok (.goto (-71), 3) := by decide +kernel
theorem dX7_most_128 : decode cX7_most 128 = .ok (.iload_n 3, 1) := by decide +kernel
theorem dX7_most_129 : decode cX7_most 129 = .ok (.ireturn, 1) := by decide +kernel
set_option maxRecDepth 20000 in
theorem ggX7_leapt_X7_wrongNumber : GoodIn wsX7_leapt wsX7_wrongNumber := goodIn_r _ [6] (by decide +kernel) (by decide +kernel)
set_option maxRecDepth 20000 in
theorem gX7_leapt_X7_wrongNumber : GoodIn wsX7_leapt (va_wsS RX7 347 yX7_wrongNumber wsX7_wrongNumber) := goodIn_app (goodIn_of _ (by decide +kernel)) ggX7_leapt_X7_wrongNumber
set_option maxRecDepth 20000 in
theorem ggX7_leapt_X7_in : GoodIn wsX7_leapt wsX7_in := goodIn_r _ [9] (by decide +kernel) (by decide +kernel)
set_option maxRecDepth 20000 in
theorem gX7_leapt_X7_in : GoodIn wsX7_leapt (va_wsS RX7 122 yX7_in wsX7_in) := goodIn_app (goodIn_of _ (by decide +kernel)) ggX7_leapt_X7_in
set_option maxRecDepth 20000 in
theorem ggX7_leapt_X7_refuse : GoodIn wsX7_leapt wsX7_refuse := goodIn_r _ [13, 14, 127, 128, 129, 130, 131, 132, 133, 134, 135, 136, 137, 138, 139, 140, 141, 142, 143, 144, 145, 146, 147, 148, 149, 150, 151, 152, 153, 154, 155, 156, 157, 158, 159, 160, 161, 162, 163, 164, 165, 166, 167, 168, 169, 170, 171, 172, 173, 174, 175, 176, 177, 178, 179] (by decide +kernel) (by decide +kernel)
set_option maxRecDepth 20000 in
theorem gX7_leapt_X7_refuse : GoodIn wsX7_leapt (wsV RX7 219 RX7 yX7_refuse wsX7_refuse) := goodIn_app (goodIn_of _ (by decide +kernel)) ggX7_leapt_X7_refuse
set_option maxRecDepth 20000 in
theorem ggX7_leapt_X7_think : GoodIn wsX7_leapt wsX7_think := goodIn_r _ [18, 19, 20, 21, 22, 23, 5, 24, 25, 26, 27, 28, 29, 30, 31, 2, 32, 33, 34, 35, 36, 37, 38, 39, 40, 41, 42, 43, 44, 45, 46, 47, 127, 128, 129, 130, 131, 132, 133, 134, 135, 136, 137, 138, 139, 140, 141, 142, 143, 144, 145, 146, 147, 148, 149, 150, 151, 152, 153, 154, 155, 156, 157, 158, 159, 160, 161, 162, 163, 164, 165, 166, 167, 168, 169, 170, 171, 172, 173, 174, 175, 176, 177, 178, 179] (by decide +kernel) (by decide +kernel)
set_option maxRecDepth 20000 in
theorem gX7_leapt_X7_think : GoodIn wsX7_leapt (wsV RX7 289 RX7 yX7_think wsX7_think) := goodIn_app (goodIn_of _ (by decide +kernel)) ggX7_leapt_X7_think
set_option maxRecDepth 20000 in
theorem ggX7_leapt_X7_turnOn : GoodIn wsX7_leapt wsX7_turnOn := goodIn_r _ [51, 31, 43, 30, 40, 41, 28, 52, 29, 39, 37, 38, 53, 54, 5, 55, 56, 57, 58, 59, 60, 61, 62, 63, 64, 65, 66, 67, 34, 36, 68, 69, 70, 71, 33, 32, 72, 73, 74, 75, 76, 77, 78, 35, 2, 79, 80, 81, 82, 83, 84, 85, 7, 8, 9, 86, 87, 88, 89, 90, 91, 92, 93, 42, 94, 95, 96, 97, 98, 99, 100, 101, 102, 103, 104, 105, 106, 107, 108, 109, 110, 111, 112, 113, 114, 115, 116, 117, 118, 119, 120, 121, 122, 127, 128, 129, 130, 131, 132, 133, 134, 135, 136, 137, 138, 139, 140, 141, 142, 143, 144, 145, 146, 147, 148, 149, 150, 151, 152, 153, 154, 155, 156, 157, 158, 159, 160, 161, 162, 163, 164, 165, 166, 167, 168, 169, 170, 171, 172, 173, 174, 175, 176, 177, 178, 179] (by decide +kernel) (by decide +kernel)
set_option maxRecDepth 20000 in
theorem gX7_leapt_X7_turnOn : GoodIn wsX7_leapt (wsV RX7 213 RX7 yX7_turnOn wsX7_turnOn) := goodIn_app (goodIn_of _ (by decide +kernel)) ggX7_leapt_X7_turnOn
set_option maxRecDepth 20000 in
theorem ggX7_leapt_X7_again : GoodIn wsX7_leapt wsX7_again := goodIn_r _ [126, 19, 20, 21, 22, 23, 5, 24, 25, 26, 27, 28, 29, 30, 31, 2, 32, 33, 34, 35, 36, 37, 38, 39, 40, 41, 42, 43, 44, 45, 46, 47, 127, 128, 129, 130, 131, 132, 133, 134, 135, 136, 137, 138, 139, 140, 141, 142, 143, 144, 145, 146, 147, 148, 149, 150, 151, 152, 153, 154, 155, 156, 157, 158, 159, 160, 161, 162, 163, 164, 165, 166, 167, 168, 169, 170, 171, 172, 173, 174, 175, 176, 177, 178, 179] (by decide +kernel) (by decide +kernel)
set_option maxRecDepth 20000 in
theorem gX7_leapt_X7_again : GoodIn wsX7_leapt (wsV RX7 295 RX7 yX7_again wsX7_again) := goodIn_app (goodIn_of _ (by decide +kernel)) ggX7_leapt_X7_again
theorem dX7_leapt_0 : decode cX7_leapt 0 = .ok (.aload_n 0, 1) := by decide +kernel
theorem dX7_leapt_1 : decode cX7_leapt 1 = .ok (.iconst 0, 1) := by decide +kernel
theorem dX7_leapt_2 : decode cX7_leapt 2 = .ok (.putfield 114, 3) := by decide +kernel
theorem dX7_leapt_5 : decode cX7_leapt 5 = .ok (.iload_n 1, 1) := by decide +kernel
theorem dX7_leapt_6 : decode cX7_leapt 6 = .ok (.iconst 1, 1) := by decide +kernel
theorem dX7_leapt_7 : decode cX7_leapt 7 = .ok (.bipush 60, 2) := by decide +kernel
theorem dX7_leapt_9 : decode cX7_leapt 9 = .ok (.invokestatic 347, 3) := by decide +kernel
theorem dX7_leapt_12 : decode cX7_leapt 12 = .ok (.ifCond .lt 13, 3) := by decide +kernel
theorem dX7_leapt_15 : decode cX7_leapt 15 = .ok (.iload_n 2, 1) := by decide +kernel
theorem dX7_leapt_16 : decode cX7_leapt 16 = .ok (.i2l, 1) := by decide +kernel
theorem dX7_leapt_17 : decode cX7_leapt 17 = .ok (.lconst 0, 1) := by decide +kernel
theorem dX7_leapt_18 : decode cX7_leapt 18 = .ok (.lconst 1, 1) := by decide +kernel
theorem dX7_leapt_19 : decode cX7_leapt 19 = .ok (.invokestatic 122, 3) := by decide +kernel
theorem dX7_leapt_22 : decode cX7_leapt 22 = .ok (.ifCond .ne 30, 3) := by decide +kernel
theorem dX7_leapt_25 : decode cX7_leapt 25 = .ok (.aload_n 0, 1) := by decide +kernel
theorem dX7_leapt_26 : decode cX7_leapt 26 = .ok (.iload_n 1, 1) := by decide +kernel
theorem dX7_leapt_27 : decode cX7_leapt 27 = .ok (.iconst 1, 1) := by decide +kernel
theorem dX7_leapt_28 : decode cX7_leapt 28 = .ok (.bipush 60, 2) := by decide +kernel
theorem dX7_leapt_30 : decode cX7_leapt 30 = .ok (.invokestatic 347, 3) := by decide +kernel
theorem dX7_leapt_33 : decode cX7_leapt 33 = .ok (.ifCond .ge 13, 3) := by decide +kernel
theorem dX7_leapt_36 : decode cX7_leapt 36 = .ok (.iload_n 1, 1) := by decide +kernel
theorem dX7_leapt_37 : decode cX7_leapt 37 = .ok (.iconst 1, 1) := by decide +kernel
theorem dX7_leapt_38 : decode cX7_leapt 38 = .ok (.bipush 60, 2) := by decide +kernel
theorem dX7_leapt_40 : decode cX7_leapt 40 = .ok (.invokestatic 347, 3) := by decide +kernel
theorem dX7_leapt_43 : decode cX7_leapt 43 = .ok (.goto 5, 3) := by decide +kernel
theorem dX7_leapt_46 : decode cX7_leapt 46 = .ok (.bipush (-2), 2) := by decide +kernel
theorem dX7_leapt_48 : decode cX7_leapt 48 = .ok (.invokevirtual 219, 3) := by decide +kernel
theorem dX7_leapt_51 : decode cX7_leapt 51 = .ok (.ireturn, 1) := by decide +kernel
theorem dX7_leapt_52 : decode cX7_leapt 52 = .ok (.iconst 0, 1) := by decide +kernel
theorem dX7_leapt_53 : decode cX7_leapt 53 = .ok (.istore_n 3, 1) := by decide +kernel
theorem dX7_leapt_54 : decode cX7_leapt 54 = .ok (.iconst 0, 1) := by decide +kernel
theorem dX7_leapt_55 : decode cX7_leapt 55 = .ok (.istore 4, 2) := by decide +kernel
theorem dX7_leapt_57 : decode cX7_leapt 57 = .ok (.aload_n 0, 1) := by decide +kernel
theorem dX7_leapt_58 : decode cX7_leapt 58 = .ok (.invokevirtual 289, 3) := by decide +kernel
theorem dX7_leapt_61 : decode cX7_leapt 61 = .ok (.iconst 1, 1) := by decide +kernel
theorem dX7_leapt_62 : decode cX7_leapt 62 = .ok (.istore 5, 2) := by decide +kernel
theorem dX7_leapt_64 : decode cX7_leapt 64 = .ok (.iload 5, 2) := by decide +kernel
theorem dX7_leapt_66 : decode cX7_leapt 66 = .ok (.iload_n 1, 1) := by decide +kernel
theorem dX7_leapt_67 : decode cX7_leapt 67 = .ok (.if_icmp .gt 62, 3) := by decide +kernel
theorem dX7_leapt_70 : decode cX7_leapt 70 = .ok (.aload_n 0, 1) := by decide +kernel
theorem dX7_leapt_71 : decode cX7_leapt 71 = .ok (.getfield 182, 3) := by decide +kernel
theorem dX7_leapt_74 : decode cX7_leapt 74 = .ok (.istore 6, 2) := by decide +kernel
theorem dX7_leapt_76 : decode cX7_leapt 76 = .ok (.aload_n 0, 1) := by decide +kernel
theorem dX7_leapt_77 : decode cX7_leapt 77 = .ok (.invokevirtual 213, 3) := by decide +kernel
theorem dX7_leapt_80 : decode cX7_leapt 80 = .ok (.aload_n 0, 1) := by decide +kernel
theorem dX7_leapt_81 : decode cX7_leapt 81 = .ok (.getfield 182, 3) := by decide +kernel
theorem dX7_leapt_84 : decode cX7_leapt 84 = .ok (.iload 6, 2) := by decide +kernel
theorem dX7_leapt_86 : decode cX7_leapt 86 = .ok (.isub, 1) := by decide +kernel
theorem dX7_leapt_87 : decode cX7_leapt 87 = .ok (.iload_n 3, 1) := by decide +kernel
theorem dX7_leapt_88 : decode cX7_leapt 88 = .ok (.if_icmp .le 8, 3) := by decide +kernel
theorem dX7_leapt_91 : decode cX7_leapt 91 = .ok (.iload 5, 2) := by decide +kernel
theorem dX7_leapt_93 : decode cX7_leapt 93 = .ok (.goto 5, 3) := by decide +kernel
theorem dX7_leapt_96 : decode cX7_leapt 96 = .ok (.iload 4, 2) := by decide +kernel
theorem dX7_leapt_98 : decode cX7_leapt 98 = .ok (.istore 4, 2) := by decide +kernel
theorem dX7_leapt_100 : decode cX7_leapt 100 = .ok (.aload_n 0, 1) := by decide +kernel
theorem dX7_leapt_101 : decode cX7_leapt 101 = .ok (.getfield 182, 3) := by decide +kernel
theorem dX7_leapt_104 : decode cX7_leapt 104 = .ok (.iload 6, 2) := by decide +kernel
theorem dX7_leapt_106 : decode cX7_leapt 106 = .ok (.isub, 1) := by decide +kernel
theorem dX7_leapt_107 : decode cX7_leapt 107 = .ok (.iload_n 3, 1) := by decide +kernel
theorem dX7_leapt_108 : decode cX7_leapt 108 = .ok (.if_icmp .le 13, 3) := by decide +kernel
theorem dX7_leapt_111 : decode cX7_leapt 111 = .ok (.aload_n 0, 1) := by decide +kernel
theorem dX7_leapt_112 : decode cX7_leapt 112 = .ok (.getfield 182, 3) := by decide +kernel
theorem dX7_leapt_115 : decode cX7_leapt 115 = .ok (.iload 6, 2) := by decide +kernel
theorem dX7_leapt_117 : decode cX7_leapt 117 = .ok (.isub, 1) := by decide +kernel
theorem dX7_leapt_118 : decode cX7_leapt 118 = .ok (.goto 4, 3) := by decide +kernel
theorem dX7_leapt_121 : decode cX7_leapt 121 = .ok (.iload_n 3, 1) := by decide +kernel
theorem dX7_leapt_122 : decode cX7_leapt 122 = .ok (.istore_n 3, 1) := by decide +kernel
theorem dX7_leapt_123 : decode cX7_leapt 123 = .ok (.iinc 5 1, 3) := by decide +kernel
theorem dX7_leapt_126 : decode cX7_leapt 126 = .ok (.goto (-62), 3) := by decide +kernel
theorem dX7_leapt_129 : decode cX7_leapt 129 = .ok (.aload_n 0, 1) := by decide +kernel
theorem dX7_leapt_130 : decode cX7_leapt 130 = .ok (.invokevirtual 295, 3) := by decide +kernel
theorem dX7_leapt_133 : decode cX7_leapt 133 = .ok (.iload_n 2, 1) := by decide +kernel
theorem dX7_leapt_134 : decode cX7_leapt 134 = .ok (.ifCond .ne 7, 3) := by decide +kernel
theorem dX7_leapt_137 : decode cX7_leapt 137 = .ok (.iload_n 3, 1) := by decide +kernel
theorem dX7_leapt_138 : decode cX7_leapt 138 = .ok (.goto 5, 3) := by decide +kernel
theorem dX7_leapt_141 : decode cX7_leapt 141 = .ok (.iload 4, 2) := by decide +kernel
theorem dX7_leapt_143 : decode cX7_leapt 143 = .ok (.ireturn, 1) := by decide +kernel
set_option maxRecDepth 20000 in
theorem ggX7_isCellRow_X7_turnOn : GoodIn wsX7_isCellRow wsX7_turnOn := goodIn_r _ [8, 9, 10, 11, 12, 13, 14, 15, 16, 17, 18, 19, 20, 21, 7, 22, 23, 24, 25, 26, 27, 28, 29, 30, 31, 32, 33, 34, 3, 35, 36, 37, 38, 39, 40, 41, 42, 43, 44, 45, 46, 47, 48, 49, 50, 51, 52, 53, 54, 55, 56, 57, 58, 59, 60, 61, 62, 63, 64, 65, 66, 67, 68, 69, 70, 71, 72, 73, 74, 75, 76, 77, 78, 79, 80, 81, 82, 83, 84, 85, 86, 87, 88, 89, 90, 91, 92, 93, 94, 95, 96, 97, 98, 116, 117, 118, 119, 120, 121, 122, 123, 124, 125, 126, 127, 128, 129, 130, 131, 132, 133, 134, 135, 136, 137, 138, 139, 140, 141, 142, 143, 144, 145, 146, 147, 148, 149, 150, 151, 152, 153, 154, 155, 156, 157, 158, 159, 160, 161, 162, 163, 164, 165, 166, 167, 168] (by decide +kernel) (by decide +kernel)
set_option maxRecDepth 20000 in
theorem gX7_isCellRow_X7_turnOn : GoodIn wsX7_isCellRow (wsV RX7 213 RX7 yX7_turnOn wsX7_turnOn) := goodIn_app (goodIn_of _ (by decide +kernel)) ggX7_isCellRow_X7_turnOn
set_option maxRecDepth 20000 in
theorem ggX7_isCellRow_X7_again : GoodIn wsX7_isCellRow wsX7_again := goodIn_r _ [102, 103, 104, 105, 106, 107, 7, 108, 109, 110, 111, 14, 16, 11, 9, 50, 41, 40, 3, 49, 35, 18, 19, 17, 12, 13, 69, 10, 112, 113, 114, 115, 116, 117, 118, 119, 120, 121, 122, 123, 124, 125, 126, 127, 128, 129, 130, 131, 132, 133, 134, 135, 136, 137, 138, 139, 140, 141, 142, 143, 144, 145, 146, 147, 148, 149, 150, 151, 152, 153, 154, 155, 156, 157, 158, 159, 160, 161, 162, 163, 164, 165, 166, 167, 168] (by decide +kernel) (by decide +kernel)
set_option maxRecDepth 20000 in
theorem gX7_isCellRow_X7_again : GoodIn wsX7_isCellRow (wsV RX7 295 RX7 yX7_again wsX7_again) := goodIn_app (goodIn_of _ (by decide +kernel)) ggX7_isCellRow_X7_again
theorem dX7_isCellRow_0 : decode cX7_isCellRow 0 = .ok (.iconst 1, 1) := by decide +kernel
theorem dX7_isCellRow_1 : decode cX7_isCellRow 1 = .ok (.istore_n 2, 1) := by decide +kernel
theorem dX7_isCellRow_2 : decode cX7_isCellRow 2 = .ok (.iconst 0, 1) := by decide +kernel
theorem dX7_isCellRow_3 : decode cX7_isCellRow 3 = .ok (.istore_n 3, 1) := by decide +kernel
theorem dX7_isCellRow_4 : decode cX7_isCellRow 4 = .ok (.iload_n 3, 1) := by decide +kernel
theorem dX7_isCellRow_5 : decode cX7_isCellRow 5 = .ok (.aload_n 0, 1) := by decide +kernel
theorem dX7_isCellRow_6 : decode cX7_isCellRow 6 = .ok (.getfield 366, 3) := by decide +kernel
theorem dX7_isCellRow_9 : decode cX7_isCellRow 9 = .ok (.if_icmp .ge 38, 3) := by decide +kernel
theorem dX7_isCellRow_12 : decode cX7_isCellRow 12 = .ok (.iload_n 2, 1) := by decide +kernel
theorem dX7_isCellRow_13 : decode cX7_isCellRow 13 = .ok (.ifCond .eq 34, 3) := by decide +kernel
theorem dX7_isCellRow_16 : decode cX7_isCellRow 16 = .ok (.aload_n 0, 1) := by decide +kernel
theorem dX7_isCellRow_17 : decode cX7_isCellRow 17 = .ok (.getfield 92, 3) := by decide +kernel
theorem dX7_isCellRow_20 : decode cX7_isCellRow 20 = .ok (.iload_n 3, 1) := by decide +kernel
theorem dX7_isCellRow_21 : decode cX7_isCellRow 21 = .ok (.iaload, 1) := by decide +kernel
theorem dX7_isCellRow_22 : decode cX7_isCellRow 22 = .ok (.aload_n 0, 1) := by decide +kernel
theorem dX7_isCellRow_23 : decode cX7_isCellRow 23 = .ok (.getfield 23, 3) := by decide +kernel
theorem dX7_isCellRow_26 : decode cX7_isCellRow 26 = .ok (.iload_n 1, 1) := by decide +kernel
theorem dX7_isCellRow_27 : decode cX7_isCellRow 27 = .ok (.iaload, 1) := by decide +kernel
theorem dX7_isCellRow_28 : decode cX7_isCellRow 28 = .ok (.if_icmp .ne 7, 3) := by decide +kernel
theorem dX7_isCellRow_31 : decode cX7_isCellRow 31 = .ok (.iconst 1, 1) := by decide +kernel
theorem dX7_isCellRow_32 : decode cX7_isCellRow 32 = .ok (.goto 4, 3) := by decide +kernel
theorem dX7_isCellRow_35 : decode cX7_isCellRow 35 = .ok (.iconst 0, 1) := by decide +kernel
theorem dX7_isCellRow_36 : decode cX7_isCellRow 36 = .ok (.istore_n 2, 1) := by decide +kernel
theorem dX7_isCellRow_37 : decode cX7_isCellRow 37 = .ok (.aload_n 0, 1) := by decide +kernel
theorem dX7_isCellRow_38 : decode cX7_isCellRow 38 = .ok (.invokevirtual 213, 3) := by decide +kernel
theorem dX7_isCellRow_41 : decode cX7_isCellRow 41 = .ok (.iinc 3 1, 3) := by decide +kernel
theorem dX7_isCellRow_44 : decode cX7_isCellRow 44 = .ok (.goto (-40), 3) := by decide +kernel
theorem dX7_isCellRow_47 : decode cX7_isCellRow 47 = .ok (.aload_n 0, 1) := by decide +kernel
theorem dX7_isCellRow_48 : decode cX7_isCellRow 48 = .ok (.invokevirtual 295, 3) := by decide +kernel
theorem dX7_isCellRow_51 : decode cX7_isCellRow 51 = .ok (.iload_n 2, 1) := by decide +kernel
theorem dX7_isCellRow_52 : decode cX7_isCellRow 52 = .ok (.ireturn, 1) := by decide +kernel
set_option maxRecDepth 20000 in
theorem ggX7_whatKind_X7_isAir : GoodIn wsX7_whatKind wsX7_isAir := goodIn_r _ [8, 9, 10, 11, 7, 12, 134, 135, 136, 137, 138, 139, 140, 141, 142, 143, 144, 145, 146, 147, 148, 149, 150, 151, 152, 153, 154, 155, 156, 157, 158, 159, 160, 161, 162, 163, 164, 165, 166, 167, 168, 169, 170, 171, 172, 173, 174, 175, 176, 177, 178, 179, 180, 181, 182, 183, 184, 185, 186] (by decide +kernel) (by decide +kernel)
set_option maxRecDepth 20000 in
theorem gX7_whatKind_X7_isAir : GoodIn wsX7_whatKind (wsV RX7 320 RX7 yX7_isAir wsX7_isAir) := goodIn_app (goodIn_of _ (by decide +kernel)) ggX7_whatKind_X7_isAir
set_option maxRecDepth 20000 in
theorem ggX7_whatKind_X7_in : GoodIn wsX7_whatKind wsX7_in := goodIn_r _ [12] (by decide +kernel) (by decide +kernel)
set_option maxRecDepth 20000 in
theorem gX7_whatKind_X7_in : GoodIn wsX7_whatKind (va_wsS RX7 122 yX7_in wsX7_in) := goodIn_app (goodIn_of _ (by decide +kernel)) ggX7_whatKind_X7_in
set_option maxRecDepth 20000 in
theorem ggX7_whatKind_X7_refuse : GoodIn wsX7_whatKind wsX7_refuse := goodIn_r _ [16, 17, 134, 135, 136, 137, 138, 139, 140, 141, 142, 143, 144, 145, 146, 147, 148, 149, 150, 151, 152, 153, 154, 155, 156, 157, 158, 159, 160, 161, 162, 163, 164, 165, 166, 167, 168, 169, 170, 171, 172, 173, 174, 175, 176, 177, 178, 179, 180, 181, 182, 183, 184, 185, 186] (by decide +kernel) (by decide +kernel)
set_option maxRecDepth 20000 in
theorem gX7_whatKind_X7_refuse : GoodIn wsX7_whatKind (wsV RX7 219 RX7 yX7_refuse wsX7_refuse) := goodIn_app (goodIn_of _ (by decide +kernel)) ggX7_whatKind_X7_refuse
set_option maxRecDepth 20000 in
theorem ggX7_whatKind_X7_think : GoodIn wsX7_whatKind wsX7_think := goodIn_r _ [21, 22, 23, 24, 25, 26, 7, 27, 28, 29, 30, 9, 31, 32, 33, 34, 2, 3, 35, 36, 37, 38, 39, 40, 41, 42, 43, 44, 45, 46, 47, 48, 134, 135, 136, 137, 138, 139, 140, 141, 142, 143, 144, 145, 146, 147, 148, 149, 150, 151, 152, 153, 154, 155, 156, 157, 158, 159, 160, 161, 162, 163, 164, 165, 166, 167, 168, 169, 170, 171, 172, 173, 174, 175, 176, 177, 178, 179, 180, 181, 182, 183, 184, 185, 186] (by decide +kernel) (by decide +kernel)
set_option maxRecDepth 20000 in
theorem gX7_whatKind_X7_think : GoodIn wsX7_whatKind (wsV RX7 289 RX7 yX7_think wsX7_think) := goodIn_app (goodIn_of _ (by decide +kernel)) ggX7_whatKind_X7_think
set_option maxRecDepth 20000 in
theorem ggX7_whatKind_X7_isCellRow : GoodIn wsX7_whatKind wsX7_isCellRow := goodIn_r _ [52, 53, 54, 35, 55, 56, 57, 7, 58, 33, 44, 32, 41, 42, 9, 59, 31, 40, 38, 39, 60, 61, 62, 63, 64, 65, 66, 67, 68, 69, 70, 71, 72, 73, 74, 37, 75, 76, 77, 78, 3, 2, 79, 80, 81, 82, 83, 84, 85, 36, 34, 86, 87, 88, 89, 90, 91, 92, 10, 11, 12, 93, 94, 95, 96, 97, 98, 99, 100, 43, 101, 102, 103, 104, 105, 106, 107, 108, 109, 110, 111, 112, 113, 114, 115, 116, 117, 118, 119, 120, 121, 122, 123, 124, 125, 126, 127, 128, 129, 130, 131, 132, 133, 22, 23, 24, 25, 26, 27, 28, 29, 30, 45, 46, 47, 48, 134, 135, 136, 137, 138, 139, 140, 141, 142, 143, 144, 145, 146, 147, 148, 149, 150, 151, 152, 153, 154, 155, 156, 157, 158, 159, 160, 161, 162, 163, 164, 165, 166, 167, 168, 169, 170, 171, 172, 173, 174, 175, 176, 177, 178, 179, 180, 181, 182, 183, 184, 185, 186] (by decide +kernel) (by decide +kernel)
set_option maxRecDepth 20000 in
theorem gX7_whatKind_X7_isCellRow : GoodIn wsX7_whatKind (wsV RX7 369 RX7 yX7_isCellRow wsX7_isCellRow) := goodIn_app (goodIn_of _ (by decide +kernel)) ggX7_whatKind_X7_isCellRow
theorem dX7_whatKind_0 : decode cX7_whatKind 0 = .ok (.aload_n 0, 1) := by decide +kernel
theorem dX7_whatKind_1 : decode cX7_whatKind 1 = .ok (.iconst 0, 1) := by decide +kernel
theorem dX7_whatKind_2 : decode cX7_whatKind 2 = .ok (.putfield 114, 3) := by decide +kernel
theorem dX7_whatKind_5 : decode cX7_whatKind 5 = .ok (.aload_n 0, 1) := by decide +kernel
theorem dX7_whatKind_6 : decode cX7_whatKind 6 = .ok (.iload_n 1, 1) := by decide +kernel
theorem dX7_whatKind_7 : decode cX7_whatKind 7 = .ok (.invokevirtual 320, 3) := by decide +kernel
theorem dX7_whatKind_10 : decode cX7_whatKind 10 = .ok (.ifCond .eq 13, 3) := by decide +kernel
theorem dX7_whatKind_13 : decode cX7_whatKind 13 = .ok (.iload_n 2, 1) := by decide +kernel
theorem dX7_whatKind_14 : decode cX7_whatKind 14 = .ok (.i2l, 1) := by decide +kernel
theorem dX7_whatKind_15 : decode cX7_whatKind 15 = .ok (.lconst 0, 1) := by decide +kernel
theorem dX7_whatKind_16 : decode cX7_whatKind 16 = .ok (.lconst 1, 1) := by decide +kernel
theorem dX7_whatKind_17 : decode cX7_whatKind 17 = .ok (.invokestatic 122, 3) := by decide +kernel
theorem dX7_whatKind_20 : decode cX7_whatKind 20 = .ok (.ifCond .ne 22, 3) := by decide +kernel
theorem dX7_whatKind_23 : decode cX7_whatKind 23 = .ok (.aload_n 0, 1) := by decide +kernel
theorem dX7_whatKind_24 : decode cX7_whatKind 24 = .ok (.aload_n 0, 1) := by decide +kernel
theorem dX7_whatKind_25 : decode cX7_whatKind 25 = .ok (.iload_n 1, 1) := by decide +kernel
theorem dX7_whatKind_26 : decode cX7_whatKind 26 = .ok (.invokevirtual 320, 3) := by decide +kernel
theorem dX7_whatKind_29 : decode cX7_whatKind 29 = .ok (.ifCond .eq 8, 3) := by decide +kernel
theorem dX7_whatKind_32 : decode cX7_whatKind 32 = .ok (.bipush (-2), 2) := by decide +kernel
theorem dX7_whatKind_34 : decode cX7_whatKind 34 = .ok (.goto 4, 3) := by decide +kernel
theorem dX7_whatKind_37 : decode cX7_whatKind 37 = .ok (.iconst (-1), 1) := by decide +kernel
theorem dX7_whatKind_38 : decode cX7_whatKind 38 = .ok (.invokevirtual 219, 3) := by decide +kernel
theorem dX7_whatKind_41 : decode cX7_whatKind 41 = .ok (.ireturn, 1) := by decide +kernel
theorem dX7_whatKind_42 : decode cX7_whatKind 42 = .ok (.iconst 0, 1) := by decide +kernel
theorem dX7_whatKind_43 : decode cX7_whatKind 43 = .ok (.istore_n 3, 1) := by decide +kernel
theorem dX7_whatKind_44 : decode cX7_whatKind 44 = .ok (.aload_n 0, 1) := by decide +kernel
theorem dX7_whatKind_45 : decode cX7_whatKind 45 = .ok (.invokevirtual 289, 3) := by decide +kernel
theorem dX7_whatKind_48 : decode cX7_whatKind 48 = .ok (.iconst 0, 1) := by decide +kernel
theorem dX7_whatKind_49 : decode cX7_whatKind 49 = .ok (.istore 4, 2) := by decide +kernel
theorem dX7_whatKind_51 : decode cX7_whatKind 51 = .ok (.iload 4, 2) := by decide +kernel
theorem dX7_whatKind_53 : decode cX7_whatKind 53 = .ok (.iload_n 2, 1) := by decide +kernel
theorem dX7_whatKind_54 : decode cX7_whatKind 54 = .ok (.ifCond .ne 8, 3) := by decide +kernel
theorem dX7_whatKind_57 : decode cX7_whatKind 57 = .ok (.bipush 8, 2) := by decide +kernel
theorem dX7_whatKind_59 : decode cX7_whatKind 59 = .ok (.goto 5, 3) := by decide +kernel
theorem dX7_whatKind_62 : decode cX7_whatKind 62 = .ok (.bipush 10, 2) := by decide +kernel
theorem dX7_whatKind_64 : decode cX7_whatKind 64 = .ok (.if_icmp .ge 71, 3) := by decide +kernel
theorem dX7_whatKind_67 : decode cX7_whatKind 67 = .ok (.aload_n 0, 1) := by decide +kernel
theorem dX7_whatKind_68 : decode cX7_whatKind 68 = .ok (.getfield 17, 3) := by decide +kernel
theorem dX7_whatKind_71 : decode cX7_whatKind 71 = .ok (.iload_n 1, 1) := by decide +kernel
theorem dX7_whatKind_72 : decode cX7_whatKind 72 = .ok (.iload_n 2, 1) := by decide +kernel
theorem dX7_whatKind_73 : decode cX7_whatKind 73 = .ok (.ifCond .ne 8, 3) := by decide +kernel
theorem dX7_whatKind_76 : decode cX7_whatKind 76 = .ok (.iload 4, 2) := by decide +kernel
theorem dX7_whatKind_78 : decode cX7_whatKind 78 = .ok (.goto 9, 3) := by decide +kernel
theorem dX7_whatKind_81 : decode cX7_whatKind 81 = .ok (.aload_n 0, 1) := by decide +kernel
theorem dX7_whatKind_82 : decode cX7_whatKind 82 = .ok (.getfield 17, 3) := by decide +kernel
theorem dX7_whatKind_85 : decode cX7_whatKind 85 = .ok (.iload_n 1, 1) := by decide +kernel
theorem dX7_whatKind_86 : decode cX7_whatKind 86 = .ok (.iaload, 1) := by decide +kernel
theorem dX7_whatKind_87 : decode cX7_whatKind 87 = .ok (.iastore, 1) := by decide +kernel
theorem dX7_whatKind_88 : decode cX7_whatKind 88 = .ok (.aload_n 0, 1) := by decide +kernel
theorem dX7_whatKind_89 : decode cX7_whatKind 89 = .ok (.getfield 20, 3) := by decide +kernel
theorem dX7_whatKind_92 : decode cX7_whatKind 92 = .ok (.iload_n 1, 1) := by decide +kernel
theorem dX7_whatKind_93 : decode cX7_whatKind 93 = .ok (.iload_n 2, 1) := by decide +kernel
theorem dX7_whatKind_94 : decode cX7_whatKind 94 = .ok (.iconst 1, 1) := by decide +kernel
theorem dX7_whatKind_95 : decode cX7_whatKind 95 = .ok (.if_icmp .ne 8, 3) := by decide +kernel
theorem dX7_whatKind_98 : decode cX7_whatKind 98 = .ok (.iload 4, 2) := by decide +kernel
theorem dX7_whatKind_100 : decode cX7_whatKind 100 = .ok (.goto 9, 3) := by decide +kernel
theorem dX7_whatKind_103 : decode cX7_whatKind 103 = .ok (.aload_n 0, 1) := by decide +kernel
theorem dX7_whatKind_104 : decode cX7_whatKind 104 = .ok (.getfield 20, 3) := by decide +kernel
theorem dX7_whatKind_107 : decode cX7_whatKind 107 = .ok (.iload_n 1, 1) := by decide +kernel
theorem dX7_whatKind_108 : decode cX7_whatKind 108 = .ok (.iaload, 1) := by decide +kernel
theorem dX7_whatKind_109 : decode cX7_whatKind 109 = .ok (.iastore, 1) := by decide +kernel
theorem dX7_whatKind_110 : decode cX7_whatKind 110 = .ok (.iload_n 3, 1) := by decide +kernel
theorem dX7_whatKind_111 : decode cX7_whatKind 111 = .ok (.aload_n 0, 1) := by decide +kernel
theorem dX7_whatKind_112 : decode cX7_whatKind 112 = .ok (.iload_n 1, 1) := by decide +kernel
theorem dX7_whatKind_113 : decode cX7_whatKind 113 = .ok (.invokevirtual 369, 3) := by decide +kernel
theorem dX7_whatKind_116 : decode cX7_whatKind 116 = .ok (.ifCond .eq 10, 3) := by decide +kernel
theorem dX7_whatKind_119 : decode cX7_whatKind 119 = .ok (.iconst 1, 1) := by decide +kernel
theorem dX7_whatKind_120 : decode cX7_whatKind 120 = .ok (.iload 4, 2) := by decide +kernel
theorem dX7_whatKind_122 : decode cX7_whatKind 122 = .ok (.ishl, 1) := by decide +kernel
theorem dX7_whatKind_123 : decode cX7_whatKind 123 = .ok (.goto 4, 3) := by decide +kernel
theorem dX7_whatKind_126 : decode cX7_whatKind 126 = .ok (.iconst 0, 1) := by decide +kernel
theorem dX7_whatKind_127 : decode cX7_whatKind 127 = .ok (.ior, 1) := by decide +kernel
theorem dX7_whatKind_128 : decode cX7_whatKind 128 = .ok (.istore_n 3, 1) := by decide +kernel
theorem dX7_whatKind_129 : decode cX7_whatKind 129 = .ok (.iinc 4 1, 3) := by decide +kernel
theorem dX7_whatKind_132 : decode cX7_whatKind 132 = .ok (.goto (-81), 3) := by decide +kernel
theorem dX7_whatKind_135 : decode cX7_whatKind 135 = .ok (.iload_n 3, 1) := by decide +kernel
theorem dX7_whatKind_136 : decode cX7_whatKind 136 = .ok (.ireturn, 1) := by decide +kernel
set_option maxRecDepth 20000 in
theorem ggX7_howCold_X7_isAir : GoodIn wsX7_howCold wsX7_isAir := goodIn_r _ [7, 8, 9, 10, 6, 11, 32, 33, 34, 35, 36, 37, 38, 39, 40, 41, 42, 43, 44, 45, 46, 47, 48, 49, 50, 51, 52, 53, 54, 55, 56, 57, 58, 59, 60, 61, 62, 63, 64, 65, 66, 67, 68, 69, 70, 71, 72, 73, 74, 75, 76, 77, 78, 79, 80, 81, 82, 83, 84] (by decide +kernel) (by decide +kernel)
set_option maxRecDepth 20000 in
theorem gX7_howCold_X7_isAir : GoodIn wsX7_howCold (wsV RX7 320 RX7 yX7_isAir wsX7_isAir) := goodIn_app (goodIn_of _ (by decide +kernel)) ggX7_howCold_X7_isAir
set_option maxRecDepth 20000 in
theorem ggX7_howCold_X7_refuse : GoodIn wsX7_howCold wsX7_refuse := goodIn_r _ [15, 16, 32, 33, 34, 35, 36, 37, 38, 39, 40, 41, 42, 43, 44, 45, 46, 47, 48, 49, 50, 51, 52, 53, 54, 55, 56, 57, 58, 59, 60, 61, 62, 63, 64, 65, 66, 67, 68, 69, 70, 71, 72, 73, 74, 75, 76, 77, 78, 79, 80, 81, 82, 83, 84] (by decide +kernel) (by decide +kernel)
set_option maxRecDepth 20000 in
theorem gX7_howCold_X7_refuse : GoodIn wsX7_howCold (wsV RX7 219 RX7 yX7_refuse wsX7_refuse) := goodIn_app (goodIn_of _ (by decide +kernel)) ggX7_howCold_X7_refuse
set_option maxRecDepth 20000 in
theorem ggX7_howCold_X7_chilled : GoodIn wsX7_howCold wsX7_chilled := goodIn_r _ [20, 21, 22, 23, 24, 25, 6, 26, 27, 28, 29, 30, 31, 32, 33, 34, 35, 36, 37, 38, 39, 40, 41, 42, 43, 44, 45, 46, 47, 48, 49, 50, 51, 52, 53, 54, 55, 56, 57, 58, 59, 60, 61, 62, 63, 64, 65, 66, 67, 68, 69, 70, 71, 72, 73, 74, 75, 76, 77, 78, 79, 80, 81, 82, 83, 84] (by decide +kernel) (by decide +kernel)
set_option maxRecDepth 20000 in
theorem gX7_howCold_X7_chilled : GoodIn wsX7_howCold (wsV RX7 165 RX7 yX7_chilled wsX7_chilled) := goodIn_app (goodIn_of _ (by decide +kernel)) ggX7_howCold_X7_chilled
theorem dX7_howCold_0 : decode cX7_howCold 0 = .ok (.aload_n 0, 1) := by decide +kernel
theorem dX7_howCold_1 : decode cX7_howCold 1 = .ok (.iconst 0, 1) := by decide +kernel
theorem dX7_howCold_2 : decode cX7_howCold 2 = .ok (.putfield 114, 3) := by decide +kernel
theorem dX7_howCold_5 : decode cX7_howCold 5 = .ok (.aload_n 0, 1) := by decide +kernel
theorem dX7_howCold_6 : decode cX7_howCold 6 = .ok (.iload_n 1, 1) := by decide +kernel
theorem dX7_howCold_7 : decode cX7_howCold 7 = .ok (.invokevirtual 320, 3) := by decide +kernel
theorem dX7_howCold_10 : decode cX7_howCold 10 = .ok (.ifCond .ne 9, 3) := by decide +kernel
theorem dX7_howCold_13 : decode cX7_howCold 13 = .ok (.aload_n 0, 1) := by decide +kernel
theorem dX7_howCold_14 : decode cX7_howCold 14 = .ok (.iconst (-1), 1) := by decide +kernel
theorem dX7_howCold_15 : decode cX7_howCold 15 = .ok (.invokevirtual 219, 3) := by decide +kernel
theorem dX7_howCold_18 : decode cX7_howCold 18 = .ok (.ireturn, 1) := by decide +kernel
theorem dX7_howCold_19 : decode cX7_howCold 19 = .ok (.iload_n 2, 1) := by decide +kernel
theorem dX7_howCold_20 : decode cX7_howCold 20 = .ok (.ifCond .lt 9, 3) := by decide +kernel
theorem dX7_howCold_23 : decode cX7_howCold 23 = .ok (.iload_n 3, 1) := by decide +kernel
theorem dX7_howCold_24 : decode cX7_howCold 24 = .ok (.bipush (-100), 2) := by decide +kernel
theorem dX7_howCold_26 : decode cX7_howCold 26 = .ok (.if_icmp .ge 10, 3) := by decide +kernel
theorem dX7_howCold_29 : decode cX7_howCold 29 = .ok (.aload_n 0, 1) := by decide +kernel
theorem dX7_howCold_30 : decode cX7_howCold 30 = .ok (.bipush (-4), 2) := by decide +kernel
theorem dX7_howCold_32 : decode cX7_howCold 32 = .ok (.invokevirtual 219, 3) := by decide +kernel
theorem dX7_howCold_35 : decode cX7_howCold 35 = .ok (.ireturn, 1) := by decide +kernel
theorem dX7_howCold_36 : decode cX7_howCold 36 = .ok (.iload_n 2, 1) := by decide +kernel
theorem dX7_howCold_37 : decode cX7_howCold 37 = .ok (.bipush 99, 2) := by decide +kernel
theorem dX7_howCold_39 : decode cX7_howCold 39 = .ok (.if_icmp .gt 9, 3) := by decide +kernel
theorem dX7_howCold_42 : decode cX7_howCold 42 = .ok (.iload_n 3, 1) := by decide +kernel
theorem dX7_howCold_43 : decode cX7_howCold 43 = .ok (.bipush 100, 2) := by decide +kernel
theorem dX7_howCold_45 : decode cX7_howCold 45 = .ok (.if_icmp .le 10, 3) := by decide +kernel
theorem dX7_howCold_48 : decode cX7_howCold 48 = .ok (.aload_n 0, 1) := by decide +kernel
theorem dX7_howCold_49 : decode cX7_howCold 49 = .ok (.bipush (-6), 2) := by decide +kernel
theorem dX7_howCold_51 : decode cX7_howCold 51 = .ok (.invokevirtual 219, 3) := by decide +kernel
theorem dX7_howCold_54 : decode cX7_howCold 54 = .ok (.ireturn, 1) := by decide +kernel
theorem dX7_howCold_55 : decode cX7_howCold 55 = .ok (.iconst 0, 1) := by decide +kernel
theorem dX7_howCold_56 : decode cX7_howCold 56 = .ok (.istore 4, 2) := by decide +kernel
theorem dX7_howCold_58 : decode cX7_howCold 58 = .ok (.iconst 0, 1) := by decide +kernel
theorem dX7_howCold_59 : decode cX7_howCold 59 = .ok (.istore 5, 2) := by decide +kernel
theorem dX7_howCold_61 : decode cX7_howCold 61 = .ok (.iload 5, 2) := by decide +kernel
theorem dX7_howCold_63 : decode cX7_howCold 63 = .ok (.bipush 8, 2) := by decide +kernel
theorem dX7_howCold_65 : decode cX7_howCold 65 = .ok (.if_icmp .ge 41, 3) := by decide +kernel
theorem dX7_howCold_68 : decode cX7_howCold 68 = .ok (.iload 4, 2) := by decide +kernel
theorem dX7_howCold_70 : decode cX7_howCold 70 = .ok (.aload_n 0, 1) := by decide +kernel
theorem dX7_howCold_71 : decode cX7_howCold 71 = .ok (.iload 5, 2) := by decide +kernel
theorem dX7_howCold_73 : decode cX7_howCold 73 = .ok (.aload_n 0, 1) := by decide +kernel
theorem dX7_howCold_74 : decode cX7_howCold 74 = .ok (.getfield 20, 3) := by decide +kernel
theorem dX7_howCold_77 : decode cX7_howCold 77 = .ok (.iload_n 1, 1) := by decide +kernel
theorem dX7_howCold_78 : decode cX7_howCold 78 = .ok (.iaload, 1) := by decide +kernel
theorem dX7_howCold_79 : decode cX7_howCold 79 = .ok (.iload_n 2, 1) := by decide +kernel
theorem dX7_howCold_80 : decode cX7_howCold 80 = .ok (.i2f, 1) := by decide +kernel
theorem dX7_howCold_81 : decode cX7_howCold 81 = .ok (.invokevirtual 165, 3) := by decide +kernel
theorem dX7_howCold_84 : decode cX7_howCold 84 = .ok (.f2i, 1) := by decide +kernel
theorem dX7_howCold_85 : decode cX7_howCold 85 = .ok (.iload_n 3, 1) := by decide +kernel
theorem dX7_howCold_86 : decode cX7_howCold 86 = .ok (.if_icmp .ne 10, 3) := by decide +kernel
theorem dX7_howCold_89 : decode cX7_howCold 89 = .ok (.iconst 1, 1) := by decide +kernel
theorem dX7_howCold_90 : decode cX7_howCold 90 = .ok (.iload 5, 2) := by decide +kernel
theorem dX7_howCold_92 : decode cX7_howCold 92 = .ok (.ishl, 1) := by decide +kernel
theorem dX7_howCold_93 : decode cX7_howCold 93 = .ok (.goto 4, 3) := by decide +kernel
theorem dX7_howCold_96 : decode cX7_howCold 96 = .ok (.iconst 0, 1) := by decide +kernel
theorem dX7_howCold_97 : decode cX7_howCold 97 = .ok (.ior, 1) := by decide +kernel
theorem dX7_howCold_98 : decode cX7_howCold 98 = .ok (.istore 4, 2) := by decide +kernel
theorem dX7_howCold_100 : decode cX7_howCold 100 = .ok (.iinc 5 1, 3) := by decide +kernel
theorem dX7_howCold_103 : decode cX7_howCold 103 = .ok (.goto (-42), 3) := by decide +kernel
theorem dX7_howCold_106 : decode cX7_howCold 106 = .ok (.iload 4, 2) := by decide +kernel
theorem dX7_howCold_108 : decode cX7_howCold 108 = .ok (.ireturn, 1) := by decide +kernel
set_option maxRecDepth 20000 in
theorem ggX7_two_X7_isSitter : GoodIn wsX7_two wsX7_isSitter := goodIn_r _ [9, 10, 11, 12, 8, 13, 132, 133, 134, 135, 136, 137, 138, 139, 140, 141, 142, 143, 144, 145, 146, 147, 148, 149, 150, 151, 152, 153, 154, 155, 156, 157, 158, 159, 160, 161, 162, 163, 164, 165, 166, 167, 168, 169, 170, 171, 172, 173, 174, 175, 176, 177, 178, 179, 180, 181, 182, 183, 184] (by decide +kernel) (by decide +kernel)
set_option maxRecDepth 20000 in
theorem gX7_two_X7_isSitter : GoodIn wsX7_two (wsV RX7 323 RX7 yX7_isSitter wsX7_isSitter) := goodIn_app (goodIn_of _ (by decide +kernel)) ggX7_two_X7_isSitter
set_option maxRecDepth 20000 in
theorem ggX7_two_X7_refuse : GoodIn wsX7_two wsX7_refuse := goodIn_r _ [17, 18, 132, 133, 134, 135, 136, 137, 138, 139, 140, 141, 142, 143, 144, 145, 146, 147, 148, 149, 150, 151, 152, 153, 154, 155, 156, 157, 158, 159, 160, 161, 162, 163, 164, 165, 166, 167, 168, 169, 170, 171, 172, 173, 174, 175, 176, 177, 178, 179, 180, 181, 182, 183, 184] (by decide +kernel) (by decide +kernel)
set_option maxRecDepth 20000 in
theorem gX7_two_X7_refuse : GoodIn wsX7_two (wsV RX7 219 RX7 yX7_refuse wsX7_refuse) := goodIn_app (goodIn_of _ (by decide +kernel)) ggX7_two_X7_refuse
set_option maxRecDepth 20000 in
theorem ggX7_two_X7_wrongNumber : GoodIn wsX7_two wsX7_wrongNumber := goodIn_r _ [21] (by decide +kernel) (by decide +kernel)
set_option maxRecDepth 20000 in
theorem gX7_two_X7_wrongNumber : GoodIn wsX7_two (va_wsS RX7 347 yX7_wrongNumber wsX7_wrongNumber) := goodIn_app (goodIn_of _ (by decide +kernel)) ggX7_two_X7_wrongNumber
set_option maxRecDepth 20000 in
theorem ggX7_two_X7_think : GoodIn wsX7_two wsX7_think := goodIn_r _ [25, 26, 27, 28, 29, 30, 8, 31, 32, 33, 34, 35, 10, 36, 37, 38, 39, 40, 41, 42, 43, 44, 3, 2, 45, 46, 47, 48, 49, 50, 51, 52, 132, 133, 134, 135, 136, 137, 138, 139, 140, 141, 142, 143, 144, 145, 146, 147, 148, 149, 150, 151, 152, 153, 154, 155, 156, 157, 158, 159, 160, 161, 162, 163, 164, 165, 166, 167, 168, 169, 170, 171, 172, 173, 174, 175, 176, 177, 178, 179, 180, 181, 182, 183, 184] (by decide +kernel) (by decide +kernel)
set_option maxRecDepth 20000 in
theorem gX7_two_X7_think : GoodIn wsX7_two (wsV RX7 289 RX7 yX7_think wsX7_think) := goodIn_app (goodIn_of _ (by decide +kernel)) ggX7_two_X7_think
set_option maxRecDepth 20000 in
theorem ggX7_two_X7_held : GoodIn wsX7_two wsX7_held := goodIn_r _ [55] (by decide +kernel) (by decide +kernel)
set_option maxRecDepth 20000 in
theorem gX7_two_X7_held : GoodIn wsX7_two (va_wsS RX7 133 yX7_held wsX7_held) := goodIn_app (goodIn_of _ (by decide +kernel)) ggX7_two_X7_held
set_option maxRecDepth 20000 in
theorem ggX7_two_X7_turnOn : GoodIn wsX7_two wsX7_turnOn := goodIn_r _ [59, 37, 48, 36, 45, 46, 35, 60, 10, 2, 44, 3, 61, 62, 8, 63, 64, 65, 66, 67, 68, 69, 70, 71, 72, 73, 74, 75, 41, 43, 76, 77, 78, 79, 40, 39, 53, 54, 55, 80, 81, 82, 83, 42, 38, 84, 85, 86, 87, 88, 89, 90, 11, 12, 13, 91, 92, 93, 94, 95, 96, 97, 98, 47, 99, 100, 101, 102, 103, 104, 105, 106, 107, 108, 109, 110, 111, 112, 113, 114, 115, 116, 117, 118, 119, 120, 121, 122, 123, 124, 125, 126, 127, 132, 133, 134, 135, 136, 137, 138, 139, 140, 141, 142, 143, 144, 145, 146, 147, 148, 149, 150, 151, 152, 153, 154, 155, 156, 157, 158, 159, 160, 161, 162, 163, 164, 165, 166, 167, 168, 169, 170, 171, 172, 173, 174, 175, 176, 177, 178, 179, 180, 181, 182, 183, 184] (by decide +kernel) (by decide +kernel)
set_option maxRecDepth 20000 in
theorem gX7_two_X7_turnOn : GoodIn wsX7_two (wsV RX7 213 RX7 yX7_turnOn wsX7_turnOn) := goodIn_app (goodIn_of _ (by decide +kernel)) ggX7_two_X7_turnOn
set_option maxRecDepth 20000 in
theorem ggX7_two_X7_again : GoodIn wsX7_two wsX7_again := goodIn_r _ [131, 26, 27, 28, 29, 30, 8, 31, 32, 33, 34, 35, 10, 36, 37, 38, 39, 40, 41, 42, 43, 44, 3, 2, 45, 46, 47, 48, 49, 50, 51, 52, 132, 133, 134, 135, 136, 137, 138, 139, 140, 141, 142, 143, 144, 145, 146, 147, 148, 149, 150, 151, 152, 153, 154, 155, 156, 157, 158, 159, 160, 161, 162, 163, 164, 165, 166, 167, 168, 169, 170, 171, 172, 173, 174, 175, 176, 177, 178, 179, 180, 181, 182, 183, 184] (by decide +kernel) (by decide +kernel)
set_option maxRecDepth 20000 in
theorem gX7_two_X7_again : GoodIn wsX7_two (wsV RX7 295 RX7 yX7_again wsX7_again) := goodIn_app (goodIn_of _ (by decide +kernel)) ggX7_two_X7_again
theorem dX7_two_0 : decode cX7_two 0 = .ok (.aload_n 0, 1) := by decide +kernel
theorem dX7_two_1 : decode cX7_two 1 = .ok (.iconst 0, 1) := by decide +kernel
theorem dX7_two_2 : decode cX7_two 2 = .ok (.putfield 114, 3) := by decide +kernel
theorem dX7_two_5 : decode cX7_two 5 = .ok (.aload_n 0, 1) := by decide +kernel
theorem dX7_two_6 : decode cX7_two 6 = .ok (.iload_n 1, 1) := by decide +kernel
theorem dX7_two_7 : decode cX7_two 7 = .ok (.invokevirtual 323, 3) := by decide +kernel
theorem dX7_two_10 : decode cX7_two 10 = .ok (.ifCond .eq 16, 3) := by decide +kernel
theorem dX7_two_13 : decode cX7_two 13 = .ok (.aload_n 0, 1) := by decide +kernel
theorem dX7_two_14 : decode cX7_two 14 = .ok (.iload_n 2, 1) := by decide +kernel
theorem dX7_two_15 : decode cX7_two 15 = .ok (.invokevirtual 323, 3) := by decide +kernel
theorem dX7_two_18 : decode cX7_two 18 = .ok (.ifCond .eq 8, 3) := by decide +kernel
theorem dX7_two_21 : decode cX7_two 21 = .ok (.iload_n 1, 1) := by decide +kernel
theorem dX7_two_22 : decode cX7_two 22 = .ok (.iload_n 2, 1) := by decide +kernel
theorem dX7_two_23 : decode cX7_two 23 = .ok (.if_icmp .ne 9, 3) := by decide +kernel
theorem dX7_two_26 : decode cX7_two 26 = .ok (.aload_n 0, 1) := by decide +kernel
theorem dX7_two_27 : decode cX7_two 27 = .ok (.iconst (-1), 1) := by decide +kernel
theorem dX7_two_28 : decode cX7_two 28 = .ok (.invokevirtual 219, 3) := by decide +kernel
theorem dX7_two_31 : decode cX7_two 31 = .ok (.ireturn, 1) := by decide +kernel
theorem dX7_two_32 : decode cX7_two 32 = .ok (.iload_n 3, 1) := by decide +kernel
theorem dX7_two_33 : decode cX7_two 33 = .ok (.iconst 1, 1) := by decide +kernel
theorem dX7_two_34 : decode cX7_two 34 = .ok (.bipush 30, 2) := by decide +kernel
theorem dX7_two_36 : decode cX7_two 36 = .ok (.invokestatic 347, 3) := by decide +kernel
theorem dX7_two_39 : decode cX7_two 39 = .ok (.istore 4, 2) := by decide +kernel
theorem dX7_two_41 : decode cX7_two 41 = .ok (.iload 4, 2) := by decide +kernel
theorem dX7_two_43 : decode cX7_two 43 = .ok (.ifCond .ne 25, 3) := by decide +kernel
theorem dX7_two_46 : decode cX7_two 46 = .ok (.aload_n 0, 1) := by decide +kernel
theorem dX7_two_47 : decode cX7_two 47 = .ok (.getfield 38, 3) := by decide +kernel
theorem dX7_two_50 : decode cX7_two 50 = .ok (.iload_n 1, 1) := by decide +kernel
theorem dX7_two_51 : decode cX7_two 51 = .ok (.iaload, 1) := by decide +kernel
theorem dX7_two_52 : decode cX7_two 52 = .ok (.aload_n 0, 1) := by decide +kernel
theorem dX7_two_53 : decode cX7_two 53 = .ok (.getfield 38, 3) := by decide +kernel
theorem dX7_two_56 : decode cX7_two 56 = .ok (.iload_n 2, 1) := by decide +kernel
theorem dX7_two_57 : decode cX7_two 57 = .ok (.iaload, 1) := by decide +kernel
theorem dX7_two_58 : decode cX7_two 58 = .ok (.iadd, 1) := by decide +kernel
theorem dX7_two_59 : decode cX7_two 59 = .ok (.iconst 2, 1) := by decide +kernel
theorem dX7_two_60 : decode cX7_two 60 = .ok (.if_icmp .ge 8, 3) := by decide +kernel
theorem dX7_two_63 : decode cX7_two 63 = .ok (.bipush (-3), 2) := by decide +kernel
theorem dX7_two_65 : decode cX7_two 65 = .ok (.goto 5, 3) := by decide +kernel
theorem dX7_two_68 : decode cX7_two 68 = .ok (.iload 4, 2) := by decide +kernel
theorem dX7_two_70 : decode cX7_two 70 = .ok (.istore 4, 2) := by decide +kernel
theorem dX7_two_72 : decode cX7_two 72 = .ok (.iload 4, 2) := by decide +kernel
theorem dX7_two_74 : decode cX7_two 74 = .ok (.ifCond .ge 10, 3) := by decide +kernel
theorem dX7_two_77 : decode cX7_two 77 = .ok (.aload_n 0, 1) := by decide +kernel
theorem dX7_two_78 : decode cX7_two 78 = .ok (.iload 4, 2) := by decide +kernel
theorem dX7_two_80 : decode cX7_two 80 = .ok (.invokevirtual 219, 3) := by decide +kernel
theorem dX7_two_83 : decode cX7_two 83 = .ok (.ireturn, 1) := by decide +kernel
theorem dX7_two_84 : decode cX7_two 84 = .ok (.aload_n 0, 1) := by decide +kernel
theorem dX7_two_85 : decode cX7_two 85 = .ok (.invokevirtual 289, 3) := by decide +kernel
theorem dX7_two_88 : decode cX7_two 88 = .ok (.iconst 0, 1) := by decide +kernel
theorem dX7_two_89 : decode cX7_two 89 = .ok (.istore 5, 2) := by decide +kernel
theorem dX7_two_91 : decode cX7_two 91 = .ok (.iload 5, 2) := by decide +kernel
theorem dX7_two_93 : decode cX7_two 93 = .ok (.iconst 4, 1) := by decide +kernel
theorem dX7_two_94 : decode cX7_two 94 = .ok (.if_icmp .ge 224, 3) := by decide +kernel
theorem dX7_two_97 : decode cX7_two 97 = .ok (.aload_n 0, 1) := by decide +kernel
theorem dX7_two_98 : decode cX7_two 98 = .ok (.getfield 35, 3) := by decide +kernel
theorem dX7_two_101 : decode cX7_two 101 = .ok (.iload_n 1, 1) := by decide +kernel
theorem dX7_two_102 : decode cX7_two 102 = .ok (.iaload, 1) := by decide +kernel
theorem dX7_two_103 : decode cX7_two 103 = .ok (.istore 6, 2) := by decide +kernel
theorem dX7_two_105 : decode cX7_two 105 = .ok (.aload_n 0, 1) := by decide +kernel
theorem dX7_two_106 : decode cX7_two 106 = .ok (.getfield 35, 3) := by decide +kernel
theorem dX7_two_109 : decode cX7_two 109 = .ok (.iload_n 2, 1) := by decide +kernel
theorem dX7_two_110 : decode cX7_two 110 = .ok (.iaload, 1) := by decide +kernel
theorem dX7_two_111 : decode cX7_two 111 = .ok (.istore 7, 2) := by decide +kernel
theorem dX7_two_113 : decode cX7_two 113 = .ok (.iload 5, 2) := by decide +kernel
theorem dX7_two_115 : decode cX7_two 115 = .ok (.iconst 2, 1) := by decide +kernel
theorem dX7_two_116 : decode cX7_two 116 = .ok (.idiv, 1) := by decide +kernel
theorem dX7_two_117 : decode cX7_two 117 = .ok (.iconst 1, 1) := by decide +kernel
theorem dX7_two_118 : decode cX7_two 118 = .ok (.if_icmp .ne 7, 3) := by decide +kernel
theorem dX7_two_121 : decode cX7_two 121 = .ok (.iconst 1, 1) := by decide +kernel
theorem dX7_two_122 : decode cX7_two 122 = .ok (.goto 4, 3) := by decide +kernel
theorem dX7_two_125 : decode cX7_two 125 = .ok (.iconst 0, 1) := by decide +kernel
theorem dX7_two_126 : decode cX7_two 126 = .ok (.istore 8, 2) := by decide +kernel
theorem dX7_two_128 : decode cX7_two 128 = .ok (.iload 5, 2) := by decide +kernel
theorem dX7_two_130 : decode cX7_two 130 = .ok (.iconst 2, 1) := by decide +kernel
theorem dX7_two_131 : decode cX7_two 131 = .ok (.irem, 1) := by decide +kernel
theorem dX7_two_132 : decode cX7_two 132 = .ok (.iconst 1, 1) := by decide +kernel
theorem dX7_two_133 : decode cX7_two 133 = .ok (.if_icmp .ne 7, 3) := by decide +kernel
theorem dX7_two_136 : decode cX7_two 136 = .ok (.iconst 1, 1) := by decide +kernel
theorem dX7_two_137 : decode cX7_two 137 = .ok (.goto 4, 3) := by decide +kernel
theorem dX7_two_140 : decode cX7_two 140 = .ok (.iconst 0, 1) := by decide +kernel
theorem dX7_two_141 : decode cX7_two 141 = .ok (.istore 9, 2) := by decide +kernel
theorem dX7_two_143 : decode cX7_two 143 = .ok (.aload_n 0, 1) := by decide +kernel
theorem dX7_two_144 : decode cX7_two 144 = .ok (.getfield 35, 3) := by decide +kernel
theorem dX7_two_147 : decode cX7_two 147 = .ok (.iload_n 1, 1) := by decide +kernel
theorem dX7_two_148 : decode cX7_two 148 = .ok (.iload 8, 2) := by decide +kernel
theorem dX7_two_150 : decode cX7_two 150 = .ok (.ifCond .eq 7, 3) := by decide +kernel
theorem dX7_two_153 : decode cX7_two 153 = .ok (.iconst 0, 1) := by decide +kernel
theorem dX7_two_154 : decode cX7_two 154 = .ok (.goto 5, 3) := by decide +kernel
theorem dX7_two_157 : decode cX7_two 157 = .ok (.iload 6, 2) := by decide +kernel
theorem dX7_two_159 : decode cX7_two 159 = .ok (.iload 9, 2) := by decide +kernel
theorem dX7_two_161 : decode cX7_two 161 = .ok (.ifCond .eq 8, 3) := by decide +kernel
theorem dX7_two_164 : decode cX7_two 164 = .ok (.iload 7, 2) := by decide +kernel
theorem dX7_two_166 : decode cX7_two 166 = .ok (.goto 4, 3) := by decide +kernel
theorem dX7_two_169 : decode cX7_two 169 = .ok (.iconst 0, 1) := by decide +kernel
theorem dX7_two_170 : decode cX7_two 170 = .ok (.iadd, 1) := by decide +kernel
theorem dX7_two_171 : decode cX7_two 171 = .ok (.bipush 9, 2) := by decide +kernel
theorem dX7_two_173 : decode cX7_two 173 = .ok (.invokestatic 133, 3) := by decide +kernel
theorem dX7_two_176 : decode cX7_two 176 = .ok (.iastore, 1) := by decide +kernel
theorem dX7_two_177 : decode cX7_two 177 = .ok (.aload_n 0, 1) := by decide +kernel
theorem dX7_two_178 : decode cX7_two 178 = .ok (.getfield 35, 3) := by decide +kernel
theorem dX7_two_181 : decode cX7_two 181 = .ok (.iload_n 2, 1) := by decide +kernel
theorem dX7_two_182 : decode cX7_two 182 = .ok (.iload 9, 2) := by decide +kernel
