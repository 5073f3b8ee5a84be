theorem dX7_two_184 : decode cX7_two 184 = .ok (.ifCond .eq 7, 3) := by decide +kernel
theorem dX7_two_187 : decode cX7_two 187 = .ok (.iconst 0, 1) := by decide +kernel
theorem dX7_two_188 : decode cX7_two 188 = .ok (.goto 5, 3) := by decide +kernel
theorem dX7_two_191 : decode cX7_two 191 = .ok (.iload 7, 2) := by decide +kernel
theorem dX7_two_193 : decode cX7_two 193 = .ok (.iload 8, 2) := by decide +kernel
theorem dX7_two_195 : decode cX7_two 195 = .ok (.ifCond .eq 8, 3) := by decide +kernel
theorem dX7_two_198 : decode cX7_two 198 = .ok (.iload 6, 2) := by decide +kernel
theorem dX7_two_200 : decode cX7_two 200 = .ok (.goto 4, 3) := by decide +kernel
theorem dX7_two_203 : decode cX7_two 203 = .ok (.iconst 0, 1) := by decide +kernel
theorem dX7_two_204 : decode cX7_two 204 = .ok (.iadd, 1) := by decide +kernel
theorem dX7_two_205 : decode cX7_two 205 = .ok (.bipush 9, 2) := by decide +kernel
theorem dX7_two_207 : decode cX7_two 207 = .ok (.invokestatic 133, 3) := by decide +kernel
theorem dX7_two_210 : decode cX7_two 210 = .ok (.iastore, 1) := by decide +kernel
theorem dX7_two_211 : decode cX7_two 211 = .ok (.aload_n 0, 1) := by decide +kernel
theorem dX7_two_212 : decode cX7_two 212 = .ok (.getfield 95, 3) := by decide +kernel
theorem dX7_two_215 : decode cX7_two 215 = .ok (.iconst 2, 1) := by decide +kernel
theorem dX7_two_216 : decode cX7_two 216 = .ok (.iload 5, 2) := by decide +kernel
theorem dX7_two_218 : decode cX7_two 218 = .ok (.imul, 1) := by decide +kernel
theorem dX7_two_219 : decode cX7_two 219 = .ok (.iload 8, 2) := by decide +kernel
theorem dX7_two_221 : decode cX7_two 221 = .ok (.ifCond .eq 7, 3) := by decide +kernel
theorem dX7_two_224 : decode cX7_two 224 = .ok (.iconst 2, 1) := by decide +kernel
theorem dX7_two_225 : decode cX7_two 225 = .ok (.goto 4, 3) := by decide +kernel
theorem dX7_two_228 : decode cX7_two 228 = .ok (.iconst 0, 1) := by decide +kernel
theorem dX7_two_229 : decode cX7_two 229 = .ok (.iastore, 1) := by decide +kernel
theorem dX7_two_230 : decode cX7_two 230 = .ok (.aload_n 0, 1) := by decide +kernel
theorem dX7_two_231 : decode cX7_two 231 = .ok (.getfield 95, 3) := by decide +kernel
theorem dX7_two_234 : decode cX7_two 234 = .ok (.iconst 2, 1) := by decide +kernel
theorem dX7_two_235 : decode cX7_two 235 = .ok (.iload 5, 2) := by decide +kernel
theorem dX7_two_237 : decode cX7_two 237 = .ok (.imul, 1) := by decide +kernel
theorem dX7_two_238 : decode cX7_two 238 = .ok (.iconst 1, 1) := by decide +kernel
theorem dX7_two_239 : decode cX7_two 239 = .ok (.iadd, 1) := by decide +kernel
theorem dX7_two_240 : decode cX7_two 240 = .ok (.iload 9, 2) := by decide +kernel
theorem dX7_two_242 : decode cX7_two 242 = .ok (.ifCond .eq 7, 3) := by decide +kernel
theorem dX7_two_245 : decode cX7_two 245 = .ok (.iconst 2, 1) := by decide +kernel
theorem dX7_two_246 : decode cX7_two 246 = .ok (.goto 4, 3) := by decide +kernel
theorem dX7_two_249 : decode cX7_two 249 = .ok (.iconst 0, 1) := by decide +kernel
theorem dX7_two_250 : decode cX7_two 250 = .ok (.iastore, 1) := by decide +kernel
theorem dX7_two_251 : decode cX7_two 251 = .ok (.iconst 0, 1) := by decide +kernel
theorem dX7_two_252 : decode cX7_two 252 = .ok (.istore 10, 2) := by decide +kernel
theorem dX7_two_254 : decode cX7_two 254 = .ok (.iload 10, 2) := by decide +kernel
theorem dX7_two_256 : decode cX7_two 256 = .ok (.iload_n 3, 1) := by decide +kernel
theorem dX7_two_257 : decode cX7_two 257 = .ok (.if_icmp .ge 51, 3) := by decide +kernel
theorem dX7_two_260 : decode cX7_two 260 = .ok (.aload_n 0, 1) := by decide +kernel
theorem dX7_two_261 : decode cX7_two 261 = .ok (.invokevirtual 213, 3) := by decide +kernel
theorem dX7_two_264 : decode cX7_two 264 = .ok (.aload_n 0, 1) := by decide +kernel
theorem dX7_two_265 : decode cX7_two 265 = .ok (.getfield 95, 3) := by decide +kernel
theorem dX7_two_268 : decode cX7_two 268 = .ok (.iconst 2, 1) := by decide +kernel
theorem dX7_two_269 : decode cX7_two 269 = .ok (.iload 5, 2) := by decide +kernel
theorem dX7_two_271 : decode cX7_two 271 = .ok (.imul, 1) := by decide +kernel
theorem dX7_two_272 : decode cX7_two 272 = .ok (.dup2, 1) := by decide +kernel
theorem dX7_two_273 : decode cX7_two 273 = .ok (.iaload, 1) := by decide +kernel
theorem dX7_two_274 : decode cX7_two 274 = .ok (.aload_n 0, 1) := by decide +kernel
theorem dX7_two_275 : decode cX7_two 275 = .ok (.getfield 38, 3) := by decide +kernel
theorem dX7_two_278 : decode cX7_two 278 = .ok (.iload_n 1, 1) := by decide +kernel
theorem dX7_two_279 : decode cX7_two 279 = .ok (.iaload, 1) := by decide +kernel
theorem dX7_two_280 : decode cX7_two 280 = .ok (.iadd, 1) := by decide +kernel
theorem dX7_two_281 : decode cX7_two 281 = .ok (.iastore, 1) := by decide +kernel
theorem dX7_two_282 : decode cX7_two 282 = .ok (.aload_n 0, 1) := by decide +kernel
theorem dX7_two_283 : decode cX7_two 283 = .ok (.getfield 95, 3) := by decide +kernel
theorem dX7_two_286 : decode cX7_two 286 = .ok (.iconst 2, 1) := by decide +kernel
theorem dX7_two_287 : decode cX7_two 287 = .ok (.iload 5, 2) := by decide +kernel
theorem dX7_two_289 : decode cX7_two 289 = .ok (.imul, 1) := by decide +kernel
theorem dX7_two_290 : decode cX7_two 290 = .ok (.iconst 1, 1) := by decide +kernel
theorem dX7_two_291 : decode cX7_two 291 = .ok (.iadd, 1) := by decide +kernel
theorem dX7_two_292 : decode cX7_two 292 = .ok (.dup2, 1) := by decide +kernel
theorem dX7_two_293 : decode cX7_two 293 = .ok (.iaload, 1) := by decide +kernel
theorem dX7_two_294 : decode cX7_two 294 = .ok (.aload_n 0, 1) := by decide +kernel
theorem dX7_two_295 : decode cX7_two 295 = .ok (.getfield 38, 3) := by decide +kernel
theorem dX7_two_298 : decode cX7_two 298 = .ok (.iload_n 2, 1) := by decide +kernel
theorem dX7_two_299 : decode cX7_two 299 = .ok (.iaload, 1) := by decide +kernel
theorem dX7_two_300 : decode cX7_two 300 = .ok (.iadd, 1) := by decide +kernel
theorem dX7_two_301 : decode cX7_two 301 = .ok (.iastore, 1) := by decide +kernel
theorem dX7_two_302 : decode cX7_two 302 = .ok (.iinc 10 1, 3) := by decide +kernel
theorem dX7_two_305 : decode cX7_two 305 = .ok (.goto (-51), 3) := by decide +kernel
theorem dX7_two_308 : decode cX7_two 308 = .ok (.aload_n 0, 1) := by decide +kernel
theorem dX7_two_309 : decode cX7_two 309 = .ok (.invokevirtual 295, 3) := by decide +kernel
theorem dX7_two_312 : decode cX7_two 312 = .ok (.iinc 5 1, 3) := by decide +kernel
theorem dX7_two_315 : decode cX7_two 315 = .ok (.goto (-224), 3) := by decide +kernel
theorem dX7_two_318 : decode cX7_two 318 = .ok (.iconst 0, 1) := by decide +kernel
theorem dX7_two_319 : decode cX7_two 319 = .ok (.istore 5, 2) := by decide +kernel
theorem dX7_two_321 : decode cX7_two 321 = .ok (.iload 5, 2) := by decide +kernel
theorem dX7_two_323 : decode cX7_two 323 = .ok (.iconst 4, 1) := by decide +kernel
theorem dX7_two_324 : decode cX7_two 324 = .ok (.if_icmp .ge 98, 3) := by decide +kernel
theorem dX7_two_327 : decode cX7_two 327 = .ok (.iconst 2, 1) := by decide +kernel
theorem dX7_two_328 : decode cX7_two 328 = .ok (.iconst 1, 1) := by decide +kernel
theorem dX7_two_329 : decode cX7_two 329 = .ok (.iload 5, 2) := by decide +kernel
theorem dX7_two_331 : decode cX7_two 331 = .ok (.iconst 2, 1) := by decide +kernel
theorem dX7_two_332 : decode cX7_two 332 = .ok (.idiv, 1) := by decide +kernel
theorem dX7_two_333 : decode cX7_two 333 = .ok (.isub, 1) := by decide +kernel
theorem dX7_two_334 : decode cX7_two 334 = .ok (.imul, 1) := by decide +kernel
theorem dX7_two_335 : decode cX7_two 335 = .ok (.iload 5, 2) := by decide +kernel
theorem dX7_two_337 : decode cX7_two 337 = .ok (.iconst 2, 1) := by decide +kernel
theorem dX7_two_338 : decode cX7_two 338 = .ok (.irem, 1) := by decide +kernel
theorem dX7_two_339 : decode cX7_two 339 = .ok (.iadd, 1) := by decide +kernel
theorem dX7_two_340 : decode cX7_two 340 = .ok (.istore 6, 2) := by decide +kernel
theorem dX7_two_342 : decode cX7_two 342 = .ok (.iconst 2, 1) := by decide +kernel
theorem dX7_two_343 : decode cX7_two 343 = .ok (.iload 5, 2) := by decide +kernel
theorem dX7_two_345 : decode cX7_two 345 = .ok (.iconst 2, 1) := by decide +kernel
theorem dX7_two_346 : decode cX7_two 346 = .ok (.idiv, 1) := by decide +kernel
theorem dX7_two_347 : decode cX7_two 347 = .ok (.imul, 1) := by decide +kernel
theorem dX7_two_348 : decode cX7_two 348 = .ok (.iconst 1, 1) := by decide +kernel
theorem dX7_two_349 : decode cX7_two 349 = .ok (.iadd, 1) := by decide +kernel
theorem dX7_two_350 : decode cX7_two 350 = .ok (.iload 5, 2) := by decide +kernel
theorem dX7_two_352 : decode cX7_two 352 = .ok (.iconst 2, 1) := by decide +kernel
theorem dX7_two_353 : decode cX7_two 353 = .ok (.irem, 1) := by decide +kernel
theorem dX7_two_354 : decode cX7_two 354 = .ok (.isub, 1) := by decide +kernel
theorem dX7_two_355 : decode cX7_two 355 = .ok (.istore 7, 2) := by decide +kernel
theorem dX7_two_357 : decode cX7_two 357 = .ok (.aload_n 0, 1) := by decide +kernel
theorem dX7_two_358 : decode cX7_two 358 = .ok (.getfield 95, 3) := by decide +kernel
theorem dX7_two_361 : decode cX7_two 361 = .ok (.iconst 2, 1) := by decide +kernel
theorem dX7_two_362 : decode cX7_two 362 = .ok (.iload 5, 2) := by decide +kernel
theorem dX7_two_364 : decode cX7_two 364 = .ok (.imul, 1) := by decide +kernel
theorem dX7_two_365 : decode cX7_two 365 = .ok (.iaload, 1) := by decide +kernel
theorem dX7_two_366 : decode cX7_two 366 = .ok (.aload_n 0, 1) := by decide +kernel
theorem dX7_two_367 : decode cX7_two 367 = .ok (.getfield 95, 3) := by decide +kernel
theorem dX7_two_370 : decode cX7_two 370 = .ok (.iconst 2, 1) := by decide +kernel
theorem dX7_two_371 : decode cX7_two 371 = .ok (.iload 6, 2) := by decide +kernel
theorem dX7_two_373 : decode cX7_two 373 = .ok (.imul, 1) := by decide +kernel
theorem dX7_two_374 : decode cX7_two 374 = .ok (.iaload, 1) := by decide +kernel
theorem dX7_two_375 : decode cX7_two 375 = .ok (.if_icmp .lt 41, 3) := by decide +kernel
theorem dX7_two_378 : decode cX7_two 378 = .ok (.aload_n 0, 1) := by decide +kernel
theorem dX7_two_379 : decode cX7_two 379 = .ok (.getfield 95, 3) := by decide +kernel
theorem dX7_two_382 : decode cX7_two 382 = .ok (.iconst 2, 1) := by decide +kernel
theorem dX7_two_383 : decode cX7_two 383 = .ok (.iload 5, 2) := by decide +kernel
theorem dX7_two_385 : decode cX7_two 385 = .ok (.imul, 1) := by decide +kernel
theorem dX7_two_386 : decode cX7_two 386 = .ok (.iconst 1, 1) := by decide +kernel
theorem dX7_two_387 : decode cX7_two 387 = .ok (.iadd, 1) := by decide +kernel
theorem dX7_two_388 : decode cX7_two 388 = .ok (.iaload, 1) := by decide +kernel
theorem dX7_two_389 : decode cX7_two 389 = .ok (.aload_n 0, 1) := by decide +kernel
theorem dX7_two_390 : decode cX7_two 390 = .ok (.getfield 95, 3) := by decide +kernel
theorem dX7_two_393 : decode cX7_two 393 = .ok (.iconst 2, 1) := by decide +kernel
theorem dX7_two_394 : decode cX7_two 394 = .ok (.iload 7, 2) := by decide +kernel
theorem dX7_two_396 : decode cX7_two 396 = .ok (.imul, 1) := by decide +kernel
theorem dX7_two_397 : decode cX7_two 397 = .ok (.iconst 1, 1) := by decide +kernel
theorem dX7_two_398 : decode cX7_two 398 = .ok (.iadd, 1) := by decide +kernel
theorem dX7_two_399 : decode cX7_two 399 = .ok (.iaload, 1) := by decide +kernel
theorem dX7_two_400 : decode cX7_two 400 = .ok (.if_icmp .lt 16, 3) := by decide +kernel
theorem dX7_two_403 : decode cX7_two 403 = .ok (.bipush 10, 2) := by decide +kernel
theorem dX7_two_405 : decode cX7_two 405 = .ok (.iload 5, 2) := by decide +kernel
theorem dX7_two_407 : decode cX7_two 407 = .ok (.iconst 2, 1) := by decide +kernel
theorem dX7_two_408 : decode cX7_two 408 = .ok (.idiv, 1) := by decide +kernel
theorem dX7_two_409 : decode cX7_two 409 = .ok (.imul, 1) := by decide +kernel
theorem dX7_two_410 : decode cX7_two 410 = .ok (.iload 5, 2) := by decide +kernel
theorem dX7_two_412 : decode cX7_two 412 = .ok (.iconst 2, 1) := by decide +kernel
theorem dX7_two_413 : decode cX7_two 413 = .ok (.irem, 1) := by decide +kernel
theorem dX7_two_414 : decode cX7_two 414 = .ok (.iadd, 1) := by decide +kernel
theorem dX7_two_415 : decode cX7_two 415 = .ok (.ireturn, 1) := by decide +kernel
theorem dX7_two_416 : decode cX7_two 416 = .ok (.iinc 5 1, 3) := by decide +kernel
theorem dX7_two_419 : decode cX7_two 419 = .ok (.goto (-98), 3) := by decide +kernel
theorem dX7_two_422 : decode cX7_two 422 = .ok (.bipush (-9), 2) := by decide +kernel
theorem dX7_two_424 : decode cX7_two 424 = .ok (.ireturn, 1) := by decide +kernel
theorem dX7_divisor_0 : decode cX7_divisor 0 = .ok (.lload_n 0, 1) := by decide +kernel
theorem dX7_divisor_1 : decode cX7_divisor 1 = .ok (.lstore 4, 2) := by decide +kernel
theorem dX7_divisor_3 : decode cX7_divisor 3 = .ok (.lload_n 2, 1) := by decide +kernel
theorem dX7_divisor_4 : decode cX7_divisor 4 = .ok (.lstore 6, 2) := by decide +kernel
theorem dX7_divisor_6 : decode cX7_divisor 6 = .ok (.lload 6, 2) := by decide +kernel
theorem dX7_divisor_8 : decode cX7_divisor 8 = .ok (.lconst 0, 1) := by decide +kernel
theorem dX7_divisor_9 : decode cX7_divisor 9 = .ok (.lcmp, 1) := by decide +kernel
theorem dX7_divisor_10 : decode cX7_divisor 10 = .ok (.ifCond .eq 21, 3) := by decide +kernel
theorem dX7_divisor_13 : decode cX7_divisor 13 = .ok (.lload 4, 2) := by decide +kernel
theorem dX7_divisor_15 : decode cX7_divisor 15 = .ok (.lload 6, 2) := by decide +kernel
theorem dX7_divisor_17 : decode cX7_divisor 17 = .ok (.lrem, 1) := by decide +kernel
theorem dX7_divisor_18 : decode cX7_divisor 18 = .ok (.lstore 8, 2) := by decide +kernel
theorem dX7_divisor_20 : decode cX7_divisor 20 = .ok (.lload 6, 2) := by decide +kernel
theorem dX7_divisor_22 : decode cX7_divisor 22 = .ok (.lstore 4, 2) := by decide +kernel
theorem dX7_divisor_24 : decode cX7_divisor 24 = .ok (.lload 8, 2) := by decide +kernel
theorem dX7_divisor_26 : decode cX7_divisor 26 = .ok (.lstore 6, 2) := by decide +kernel
theorem dX7_divisor_28 : decode cX7_divisor 28 = .ok (.goto (-22), 3) := by decide +kernel
theorem dX7_divisor_31 : decode cX7_divisor 31 = .ok (.lload 4, 2) := by decide +kernel
theorem dX7_divisor_33 : decode cX7_divisor 33 = .ok (.lreturn, 1) := by decide +kernel
set_option maxRecDepth 20000 in
theorem ggX7_partOf_X7_divisor : GoodIn wsX7_partOf wsX7_divisor := goodIn_r _ [4] (by decide +kernel) (by decide +kernel)
set_option maxRecDepth 20000 in
theorem gX7_partOf_X7_divisor : GoodIn wsX7_partOf (va_wsS RX7 372 yX7_divisor wsX7_divisor) := goodIn_app (goodIn_of _ (by decide +kernel)) ggX7_partOf_X7_divisor
theorem dX7_partOf_0 : decode cX7_partOf 0 = .ok (.lload_n 0, 1) := by decide +kernel
theorem dX7_partOf_1 : decode cX7_partOf 1 = .ok (.lconst 0, 1) := by decide +kernel
theorem dX7_partOf_2 : decode cX7_partOf 2 = .ok (.lcmp, 1) := by decide +kernel
theorem dX7_partOf_3 : decode cX7_partOf 3 = .ok (.ifCond .ne 7, 3) := by decide +kernel
theorem dX7_partOf_6 : decode cX7_partOf 6 = .ok (.iload 4, 2) := by decide +kernel
theorem dX7_partOf_8 : decode cX7_partOf 8 = .ok (.i2l, 1) := by decide +kernel
theorem dX7_partOf_9 : decode cX7_partOf 9 = .ok (.lreturn, 1) := by decide +kernel
theorem dX7_partOf_10 : decode cX7_partOf 10 = .ok (.lload_n 0, 1) := by decide +kernel
theorem dX7_partOf_11 : decode cX7_partOf 11 = .ok (.lload_n 2, 1) := by decide +kernel
theorem dX7_partOf_12 : decode cX7_partOf 12 = .ok (.invokestatic 372, 3) := by decide +kernel
theorem dX7_partOf_15 : decode cX7_partOf 15 = .ok (.lstore 5, 2) := by decide +kernel
theorem dX7_partOf_17 : decode cX7_partOf 17 = .ok (.iload 4, 2) := by decide +kernel
theorem dX7_partOf_19 : decode cX7_partOf 19 = .ok (.ifCond .ne 10, 3) := by decide +kernel
theorem dX7_partOf_22 : decode cX7_partOf 22 = .ok (.lload_n 0, 1) := by decide +kernel
theorem dX7_partOf_23 : decode cX7_partOf 23 = .ok (.lload 5, 2) := by decide +kernel
theorem dX7_partOf_25 : decode cX7_partOf 25 = .ok (.ldiv, 1) := by decide +kernel
theorem dX7_partOf_26 : decode cX7_partOf 26 = .ok (.goto 7, 3) := by decide +kernel
theorem dX7_partOf_29 : decode cX7_partOf 29 = .ok (.lload_n 2, 1) := by decide +kernel
theorem dX7_partOf_30 : decode cX7_partOf 30 = .ok (.lload 5, 2) := by decide +kernel
theorem dX7_partOf_32 : decode cX7_partOf 32 = .ok (.ldiv, 1) := by decide +kernel
theorem dX7_partOf_33 : decode cX7_partOf 33 = .ok (.lreturn, 1) := by decide +kernel
set_option maxRecDepth 20000 in
theorem ggX7_still_X7_isSitter : GoodIn wsX7_still wsX7_isSitter := goodIn_r _ [9, 10, 11, 12, 8, 13, 138, 139, 140, 141, 142, 143, 144, 145, 146, 147, 148, 149, 150, 151, 152, 153, 154, 155, 156, 157, 158, 159, 160, 161, 162, 163, 164, 165, 166, 167, 168, 169, 170, 171, 172, 173, 174, 175, 176, 177, 178, 179, 180, 181, 182, 183, 184, 185, 186, 187, 188, 189, 190] (by decide +kernel) (by decide +kernel)
set_option maxRecDepth 20000 in
theorem gX7_still_X7_isSitter : GoodIn wsX7_still (wsV RX7 323 RX7 yX7_isSitter wsX7_isSitter) := goodIn_app (goodIn_of _ (by decide +kernel)) ggX7_still_X7_isSitter
set_option maxRecDepth 20000 in
theorem ggX7_still_X7_refuse : GoodIn wsX7_still wsX7_refuse := goodIn_r _ [17, 18, 138, 139, 140, 141, 142, 143, 144, 145, 146, 147, 148, 149, 150, 151, 152, 153, 154, 155, 156, 157, 158, 159, 160, 161, 162, 163, 164, 165, 166, 167, 168, 169, 170, 171, 172, 173, 174, 175, 176, 177, 178, 179, 180, 181, 182, 183, 184, 185, 186, 187, 188, 189, 190] (by decide +kernel) (by decide +kernel)
set_option maxRecDepth 20000 in
theorem gX7_still_X7_refuse : GoodIn wsX7_still (wsV RX7 219 RX7 yX7_refuse wsX7_refuse) := goodIn_app (goodIn_of _ (by decide +kernel)) ggX7_still_X7_refuse
set_option maxRecDepth 20000 in
theorem ggX7_still_X7_in : GoodIn wsX7_still wsX7_in := goodIn_r _ [13] (by decide +kernel) (by decide +kernel)
set_option maxRecDepth 20000 in
theorem gX7_still_X7_in : GoodIn wsX7_still (va_wsS RX7 122 yX7_in wsX7_in) := goodIn_app (goodIn_of _ (by decide +kernel)) ggX7_still_X7_in
set_option maxRecDepth 20000 in
theorem ggX7_still_X7_think : GoodIn wsX7_still wsX7_think := goodIn_r _ [22, 23, 24, 25, 26, 27, 8, 28, 29, 30, 31, 32, 10, 33, 34, 35, 36, 37, 38, 39, 40, 41, 42, 4, 43, 44, 45, 46, 47, 48, 49, 50, 138, 139, 140, 141, 142, 143, 144, 145, 146, 147, 148, 149, 150, 151, 152, 153, 154, 155, 156, 157, 158, 159, 160, 161, 162, 163, 164, 165, 166, 167, 168, 169, 170, 171, 172, 173, 174, 175, 176, 177, 178, 179, 180, 181, 182, 183, 184, 185, 186, 187, 188, 189, 190] (by decide +kernel) (by decide +kernel)
set_option maxRecDepth 20000 in
theorem gX7_still_X7_think : GoodIn wsX7_still (wsV RX7 289 RX7 yX7_think wsX7_think) := goodIn_app (goodIn_of _ (by decide +kernel)) ggX7_still_X7_think
set_option maxRecDepth 20000 in
theorem ggX7_still_X7_hasBit : GoodIn wsX7_still wsX7_hasBit := goodIn_r _ [53] (by decide +kernel) (by decide +kernel)
set_option maxRecDepth 20000 in
theorem gX7_still_X7_hasBit : GoodIn wsX7_still (va_wsS RX7 378 yX7_hasBit wsX7_hasBit) := goodIn_app (goodIn_of _ (by decide +kernel)) ggX7_still_X7_hasBit
set_option maxRecDepth 20000 in
theorem ggX7_still_X7_turnOn : GoodIn wsX7_still wsX7_turnOn := goodIn_r _ [57, 34, 46, 33, 43, 44, 32, 3, 10, 4, 41, 42, 58, 59, 8, 60, 61, 62, 63, 64, 65, 66, 67, 68, 69, 70, 71, 72, 38, 40, 73, 74, 75, 76, 37, 36, 77, 78, 79, 80, 81, 82, 83, 39, 35, 84, 85, 86, 87, 88, 89, 90, 11, 12, 13, 91, 92, 93, 94, 95, 96, 97, 98, 45, 99, 100, 101, 102, 103, 104, 105, 106, 107, 108, 109, 110, 111, 112, 113, 114, 115, 116, 117, 118, 119, 120, 121, 122, 123, 124, 125, 126, 127, 138, 139, 140, 141, 142, 143, 144, 145, 146, 147, 148, 149, 150, 151, 152, 153, 154, 155, 156, 157, 158, 159, 160, 161, 162, 163, 164, 165, 166, 167, 168, 169, 170, 171, 172, 173, 174, 175, 176, 177, 178, 179, 180, 181, 182, 183, 184, 185, 186, 187, 188, 189, 190] (by decide +kernel) (by decide +kernel)
set_option maxRecDepth 20000 in
theorem gX7_still_X7_turnOn : GoodIn wsX7_still (wsV RX7 213 RX7 yX7_turnOn wsX7_turnOn) := goodIn_app (goodIn_of _ (by decide +kernel)) ggX7_still_X7_turnOn
set_option maxRecDepth 20000 in
theorem ggX7_still_X7_again : GoodIn wsX7_still wsX7_again := goodIn_r _ [131, 23, 24, 25, 26, 27, 8, 28, 29, 30, 31, 32, 10, 33, 34, 35, 36, 37, 38, 39, 40, 41, 42, 4, 43, 44, 45, 46, 47, 48, 49, 50, 138, 139, 140, 141, 142, 143, 144, 145, 146, 147, 148, 149, 150, 151, 152, 153, 154, 155, 156, 157, 158, 159, 160, 161, 162, 163, 164, 165, 166, 167, 168, 169, 170, 171, 172, 173, 174, 175, 176, 177, 178, 179, 180, 181, 182, 183, 184, 185, 186, 187, 188, 189, 190] (by decide +kernel) (by decide +kernel)
set_option maxRecDepth 20000 in
theorem gX7_still_X7_again : GoodIn wsX7_still (wsV RX7 295 RX7 yX7_again wsX7_again) := goodIn_app (goodIn_of _ (by decide +kernel)) ggX7_still_X7_again
set_option maxRecDepth 20000 in
theorem ggX7_still_X7_partOf : GoodIn wsX7_still wsX7_partOf := goodIn_r _ [134, 135, 136, 8, 137] (by decide +kernel) (by decide +kernel)
set_option maxRecDepth 20000 in
theorem gX7_still_X7_partOf : GoodIn wsX7_still (va_wsS RX7 381 yX7_partOf wsX7_partOf) := goodIn_app (goodIn_of _ (by decide +kernel)) ggX7_still_X7_partOf
theorem dX7_still_0 : decode cX7_still 0 = .ok (.aload_n 0, 1) := by decide +kernel
theorem dX7_still_1 : decode cX7_still 1 = .ok (.iconst 0, 1) := by decide +kernel
theorem dX7_still_2 : decode cX7_still 2 = .ok (.putfield 114, 3) := by decide +kernel
theorem dX7_still_5 : decode cX7_still 5 = .ok (.aload_n 0, 1) := by decide +kernel
theorem dX7_still_6 : decode cX7_still 6 = .ok (.iload_n 1, 1) := by decide +kernel
theorem dX7_still_7 : decode cX7_still 7 = .ok (.invokevirtual 323, 3) := by decide +kernel
theorem dX7_still_10 : decode cX7_still 10 = .ok (.ifCond .ne 14, 3) := by decide +kernel
theorem dX7_still_13 : decode cX7_still 13 = .ok (.ldc2_w 376, 3) := by decide +kernel
theorem dX7_still_16 : decode cX7_still 16 = .ok (.aload_n 0, 1) := by decide +kernel
theorem dX7_still_17 : decode cX7_still 17 = .ok (.iconst (-1), 1) := by decide +kernel
theorem dX7_still_18 : decode cX7_still 18 = .ok (.invokevirtual 219, 3) := by decide +kernel
theorem dX7_still_21 : decode cX7_still 21 = .ok (.i2l, 1) := by decide +kernel
theorem dX7_still_22 : decode cX7_still 22 = .ok (.lsub, 1) := by decide +kernel
theorem dX7_still_23 : decode cX7_still 23 = .ok (.lreturn, 1) := by decide +kernel
theorem dX7_still_24 : decode cX7_still 24 = .ok (.iload_n 2, 1) := by decide +kernel
theorem dX7_still_25 : decode cX7_still 25 = .ok (.ifCond .lt 8, 3) := by decide +kernel
theorem dX7_still_28 : decode cX7_still 28 = .ok (.iload_n 3, 1) := by decide +kernel
theorem dX7_still_29 : decode cX7_still 29 = .ok (.iconst 2, 1) := by decide +kernel
theorem dX7_still_30 : decode cX7_still 30 = .ok (.if_icmp .ge 15, 3) := by decide +kernel
theorem dX7_still_33 : decode cX7_still 33 = .ok (.ldc2_w 376, 3) := by decide +kernel
theorem dX7_still_36 : decode cX7_still 36 = .ok (.aload_n 0, 1) := by decide +kernel
theorem dX7_still_37 : decode cX7_still 37 = .ok (.bipush (-4), 2) := by decide +kernel
theorem dX7_still_39 : decode cX7_still 39 = .ok (.invokevirtual 219, 3) := by decide +kernel
theorem dX7_still_42 : decode cX7_still 42 = .ok (.i2l, 1) := by decide +kernel
theorem dX7_still_43 : decode cX7_still 43 = .ok (.lsub, 1) := by decide +kernel
theorem dX7_still_44 : decode cX7_still 44 = .ok (.lreturn, 1) := by decide +kernel
theorem dX7_still_45 : decode cX7_still 45 = .ok (.iload_n 2, 1) := by decide +kernel
theorem dX7_still_46 : decode cX7_still 46 = .ok (.bipush 7, 2) := by decide +kernel
theorem dX7_still_48 : decode cX7_still 48 = .ok (.if_icmp .gt 9, 3) := by decide +kernel
theorem dX7_still_51 : decode cX7_still 51 = .ok (.iload_n 3, 1) := by decide +kernel
theorem dX7_still_52 : decode cX7_still 52 = .ok (.bipush 20, 2) := by decide +kernel
theorem dX7_still_54 : decode cX7_still 54 = .ok (.if_icmp .le 15, 3) := by decide +kernel
theorem dX7_still_57 : decode cX7_still 57 = .ok (.ldc2_w 376, 3) := by decide +kernel
theorem dX7_still_60 : decode cX7_still 60 = .ok (.aload_n 0, 1) := by decide +kernel
theorem dX7_still_61 : decode cX7_still 61 = .ok (.bipush (-6), 2) := by decide +kernel
theorem dX7_still_63 : decode cX7_still 63 = .ok (.invokevirtual 219, 3) := by decide +kernel
theorem dX7_still_66 : decode cX7_still 66 = .ok (.i2l, 1) := by decide +kernel
theorem dX7_still_67 : decode cX7_still 67 = .ok (.lsub, 1) := by decide +kernel
theorem dX7_still_68 : decode cX7_still 68 = .ok (.lreturn, 1) := by decide +kernel
theorem dX7_still_69 : decode cX7_still 69 = .ok (.iload 4, 2) := by decide +kernel
theorem dX7_still_71 : decode cX7_still 71 = .ok (.i2l, 1) := by decide +kernel
theorem dX7_still_72 : decode cX7_still 72 = .ok (.lconst 0, 1) := by decide +kernel
theorem dX7_still_73 : decode cX7_still 73 = .ok (.lconst 1, 1) := by decide +kernel
theorem dX7_still_74 : decode cX7_still 74 = .ok (.invokestatic 122, 3) := by decide +kernel
theorem dX7_still_77 : decode cX7_still 77 = .ok (.ifCond .ne 15, 3) := by decide +kernel
theorem dX7_still_80 : decode cX7_still 80 = .ok (.ldc2_w 376, 3) := by decide +kernel
theorem dX7_still_83 : decode cX7_still 83 = .ok (.aload_n 0, 1) := by decide +kernel
theorem dX7_still_84 : decode cX7_still 84 = .ok (.bipush (-2), 2) := by decide +kernel
theorem dX7_still_86 : decode cX7_still 86 = .ok (.invokevirtual 219, 3) := by decide +kernel
theorem dX7_still_89 : decode cX7_still 89 = .ok (.i2l, 1) := by decide +kernel
theorem dX7_still_90 : decode cX7_still 90 = .ok (.lsub, 1) := by decide +kernel
theorem dX7_still_91 : decode cX7_still 91 = .ok (.lreturn, 1) := by decide +kernel
theorem dX7_still_92 : decode cX7_still 92 = .ok (.lconst 0, 1) := by decide +kernel
theorem dX7_still_93 : decode cX7_still 93 = .ok (.lstore 5, 2) := by decide +kernel
theorem dX7_still_95 : decode cX7_still 95 = .ok (.lconst 1, 1) := by decide +kernel
theorem dX7_still_96 : decode cX7_still 96 = .ok (.lstore 7, 2) := by decide +kernel
theorem dX7_still_98 : decode cX7_still 98 = .ok (.iconst 0, 1) := by decide +kernel
theorem dX7_still_99 : decode cX7_still 99 = .ok (.istore 9, 2) := by decide +kernel
theorem dX7_still_101 : decode cX7_still 101 = .ok (.iload 9, 2) := by decide +kernel
theorem dX7_still_103 : decode cX7_still 103 = .ok (.iload_n 2, 1) := by decide +kernel
theorem dX7_still_104 : decode cX7_still 104 = .ok (.if_icmp .ge 16, 3) := by decide +kernel
theorem dX7_still_107 : decode cX7_still 107 = .ok (.lload 7, 2) := by decide +kernel
theorem dX7_still_109 : decode cX7_still 109 = .ok (.iload_n 3, 1) := by decide +kernel
theorem dX7_still_110 : decode cX7_still 110 = .ok (.i2l, 1) := by decide +kernel
theorem dX7_still_111 : decode cX7_still 111 = .ok (.lmul, 1) := by decide +kernel
theorem dX7_still_112 : decode cX7_still 112 = .ok (.lstore 7, 2) := by decide +kernel
theorem dX7_still_114 : decode cX7_still 114 = .ok (.iinc 9 1, 3) := by decide +kernel
theorem dX7_still_117 : decode cX7_still 117 = .ok (.goto (-16), 3) := by decide +kernel
theorem dX7_still_120 : decode cX7_still 120 = .ok (.aload_n 0, 1) := by decide +kernel
theorem dX7_still_121 : decode cX7_still 121 = .ok (.invokevirtual 289, 3) := by decide +kernel
theorem dX7_still_124 : decode cX7_still 124 = .ok (.iconst 0, 1) := by decide +kernel
theorem dX7_still_125 : decode cX7_still 125 = .ok (.istore 9, 2) := by decide +kernel
theorem dX7_still_127 : decode cX7_still 127 = .ok (.iload 9, 2) := by decide +kernel
theorem dX7_still_129 : decode cX7_still 129 = .ok (.iconst 1, 1) := by decide +kernel
theorem dX7_still_130 : decode cX7_still 130 = .ok (.iload_n 2, 1) := by decide +kernel
theorem dX7_still_131 : decode cX7_still 131 = .ok (.ishl, 1) := by decide +kernel
theorem dX7_still_132 : decode cX7_still 132 = .ok (.if_icmp .ge 95, 3) := by decide +kernel
theorem dX7_still_135 : decode cX7_still 135 = .ok (.lconst 1, 1) := by decide +kernel
theorem dX7_still_136 : decode cX7_still 136 = .ok (.lstore 10, 2) := by decide +kernel
theorem dX7_still_138 : decode cX7_still 138 = .ok (.iconst 0, 1) := by decide +kernel
theorem dX7_still_139 : decode cX7_still 139 = .ok (.istore 12, 2) := by decide +kernel
theorem dX7_still_141 : decode cX7_still 141 = .ok (.iload 12, 2) := by decide +kernel
theorem dX7_still_143 : decode cX7_still 143 = .ok (.iload_n 2, 1) := by decide +kernel
theorem dX7_still_144 : decode cX7_still 144 = .ok (.if_icmp .ge 47, 3) := by decide +kernel
theorem dX7_still_147 : decode cX7_still 147 = .ok (.lload 10, 2) := by decide +kernel
theorem dX7_still_149 : decode cX7_still 149 = .ok (.iload 9, 2) := by decide +kernel
theorem dX7_still_151 : decode cX7_still 151 = .ok (.iload 12, 2) := by decide +kernel
theorem dX7_still_153 : decode cX7_still 153 = .ok (.invokestatic 378, 3) := by decide +kernel
theorem dX7_still_156 : decode cX7_still 156 = .ok (.ifCond .eq 7, 3) := by decide +kernel
theorem dX7_still_159 : decode cX7_still 159 = .ok (.lconst 1, 1) := by decide +kernel
theorem dX7_still_160 : decode cX7_still 160 = .ok (.goto 7, 3) := by decide +kernel
theorem dX7_still_163 : decode cX7_still 163 = .ok (.iload_n 3, 1) := by decide +kernel
theorem dX7_still_164 : decode cX7_still 164 = .ok (.iconst 1, 1) := by decide +kernel
theorem dX7_still_165 : decode cX7_still 165 = .ok (.isub, 1) := by decide +kernel
theorem dX7_still_166 : decode cX7_still 166 = .ok (.i2l, 1) := by decide +kernel
theorem dX7_still_167 : decode cX7_still 167 = .ok (.lmul, 1) := by decide +kernel
theorem dX7_still_168 : decode cX7_still 168 = .ok (.lstore 10, 2) := by decide +kernel
theorem dX7_still_170 : decode cX7_still 170 = .ok (.aload_n 0, 1) := by decide +kernel
theorem dX7_still_171 : decode cX7_still 171 = .ok (.iload 9, 2) := by decide +kernel
theorem dX7_still_173 : decode cX7_still 173 = .ok (.iload 12, 2) := by decide +kernel
theorem dX7_still_175 : decode cX7_still 175 = .ok (.invokestatic 378, 3) := by decide +kernel
theorem dX7_still_178 : decode cX7_still 178 = .ok (.putfield 206, 3) := by decide +kernel
theorem dX7_still_181 : decode cX7_still 181 = .ok (.aload_n 0, 1) := by decide +kernel
theorem dX7_still_182 : decode cX7_still 182 = .ok (.invokevirtual 213, 3) := by decide +kernel
theorem dX7_still_185 : decode cX7_still 185 = .ok (.iinc 12 1, 3) := by decide +kernel
theorem dX7_still_188 : decode cX7_still 188 = .ok (.goto (-47), 3) := by decide +kernel
theorem dX7_still_191 : decode cX7_still 191 = .ok (.aload_n 0, 1) := by decide +kernel
theorem dX7_still_192 : decode cX7_still 192 = .ok (.iconst 0, 1) := by decide +kernel
theorem dX7_still_193 : decode cX7_still 193 = .ok (.putfield 206, 3) := by decide +kernel
theorem dX7_still_196 : decode cX7_still 196 = .ok (.lload 5, 2) := by decide +kernel
theorem dX7_still_198 : decode cX7_still 198 = .ok (.aload_n 0, 1) := by decide +kernel
theorem dX7_still_199 : decode cX7_still 199 = .ok (.getfield 38, 3) := by decide +kernel
theorem dX7_still_202 : decode cX7_still 202 = .ok (.iload_n 1, 1) := by decide +kernel
theorem dX7_still_203 : decode cX7_still 203 = .ok (.iaload, 1) := by decide +kernel
theorem dX7_still_204 : decode cX7_still 204 = .ok (.iconst 1, 1) := by decide +kernel
theorem dX7_still_205 : decode cX7_still 205 = .ok (.if_icmp .ne 8, 3) := by decide +kernel
theorem dX7_still_208 : decode cX7_still 208 = .ok (.lload 10, 2) := by decide +kernel
theorem dX7_still_210 : decode cX7_still 210 = .ok (.goto 4, 3) := by decide +kernel
theorem dX7_still_213 : decode cX7_still 213 = .ok (.lconst 0, 1) := by decide +kernel
theorem dX7_still_214 : decode cX7_still 214 = .ok (.ladd, 1) := by decide +kernel
theorem dX7_still_215 : decode cX7_still 215 = .ok (.lstore 5, 2) := by decide +kernel
theorem dX7_still_217 : decode cX7_still 217 = .ok (.aload_n 0, 1) := by decide +kernel
theorem dX7_still_218 : decode cX7_still 218 = .ok (.invokevirtual 295, 3) := by decide +kernel
theorem dX7_still_221 : decode cX7_still 221 = .ok (.iinc 9 1, 3) := by decide +kernel
theorem dX7_still_224 : decode cX7_still 224 = .ok (.goto (-97), 3) := by decide +kernel
theorem dX7_still_227 : decode cX7_still 227 = .ok (.lload 5, 2) := by decide +kernel
theorem dX7_still_229 : decode cX7_still 229 = .ok (.lload 7, 2) := by decide +kernel
theorem dX7_still_231 : decode cX7_still 231 = .ok (.iload 4, 2) := by decide +kernel
theorem dX7_still_233 : decode cX7_still 233 = .ok (.invokestatic 381, 3) := by decide +kernel
theorem dX7_still_236 : decode cX7_still 236 = .ok (.lreturn, 1) := by decide +kernel
set_option maxRecDepth 20000 in
theorem ggX7_coldest_X7_in : GoodIn wsX7_coldest wsX7_in := goodIn_r _ [8] (by decide +kernel) (by decide +kernel)
set_option maxRecDepth 20000 in
theorem gX7_coldest_X7_in : GoodIn wsX7_coldest (va_wsS RX7 122 yX7_in wsX7_in) := goodIn_app (goodIn_of _ (by decide +kernel)) ggX7_coldest_X7_in
set_option maxRecDepth 20000 in
theorem ggX7_coldest_X7_refuse : GoodIn wsX7_coldest wsX7_refuse := goodIn_r _ [12, 13, 14, 15, 16, 17, 18, 19, 20, 21, 22, 23, 24, 25, 26, 27, 28, 29, 30, 31, 32, 33, 34, 35, 36, 37, 38, 39, 40, 41, 42, 43, 44, 45, 46, 47, 48, 49, 50, 51, 52, 53, 54, 55, 56, 57, 58, 59, 60, 61, 62, 63, 64, 65, 66] (by decide +kernel) (by decide +kernel)
set_option maxRecDepth 20000 in
theorem gX7_coldest_X7_refuse : GoodIn wsX7_coldest (wsV RX7 219 RX7 yX7_refuse wsX7_refuse) := goodIn_app (goodIn_of _ (by decide +kernel)) ggX7_coldest_X7_refuse
theorem dX7_coldest_0 : decode cX7_coldest 0 = .ok (.aload_n 0, 1) := by decide +kernel
theorem dX7_coldest_1 : decode cX7_coldest 1 = .ok (.iconst 0, 1) := by decide +kernel
theorem dX7_coldest_2 : decode cX7_coldest 2 = .ok (.putfield 114, 3) := by decide +kernel
theorem dX7_coldest_5 : decode cX7_coldest 5 = .ok (.iload_n 1, 1) := by decide +kernel
theorem dX7_coldest_6 : decode cX7_coldest 6 = .ok (.i2l, 1) := by decide +kernel
theorem dX7_coldest_7 : decode cX7_coldest 7 = .ok (.ldc2_w 358, 3) := by decide +kernel
theorem dX7_coldest_10 : decode cX7_coldest 10 = .ok (.ldc2_w 129, 3) := by decide +kernel
theorem dX7_coldest_13 : decode cX7_coldest 13 = .ok (.invokestatic 122, 3) := by decide +kernel
theorem dX7_coldest_16 : decode cX7_coldest 16 = .ok (.ifCond .ne 9, 3) := by decide +kernel
theorem dX7_coldest_19 : decode cX7_coldest 19 = .ok (.aload_n 0, 1) := by decide +kernel
theorem dX7_coldest_20 : decode cX7_coldest 20 = .ok (.iconst (-1), 1) := by decide +kernel
theorem dX7_coldest_21 : decode cX7_coldest 21 = .ok (.invokevirtual 219, 3) := by decide +kernel
theorem dX7_coldest_24 : decode cX7_coldest 24 = .ok (.ireturn, 1) := by decide +kernel
theorem dX7_coldest_25 : decode cX7_coldest 25 = .ok (.iconst 0, 1) := by decide +kernel
theorem dX7_coldest_26 : decode cX7_coldest 26 = .ok (.istore_n 2, 1) := by decide +kernel
theorem dX7_coldest_27 : decode cX7_coldest 27 = .ok (.iconst 0, 1) := by decide +kernel
theorem dX7_coldest_28 : decode cX7_coldest 28 = .ok (.istore_n 3, 1) := by decide +kernel
theorem dX7_coldest_29 : decode cX7_coldest 29 = .ok (.iconst 0, 1) := by decide +kernel
theorem dX7_coldest_30 : decode cX7_coldest 30 = .ok (.istore 4, 2) := by decide +kernel
theorem dX7_coldest_32 : decode cX7_coldest 32 = .ok (.iload 4, 2) := by decide +kernel
theorem dX7_coldest_34 : decode cX7_coldest 34 = .ok (.bipush 36, 2) := by decide +kernel
theorem dX7_coldest_36 : decode cX7_coldest 36 = .ok (.if_icmp .ge 70, 3) := by decide +kernel
theorem dX7_coldest_39 : decode cX7_coldest 39 = .ok (.aload_n 0, 1) := by decide +kernel
theorem dX7_coldest_40 : decode cX7_coldest 40 = .ok (.getfield 7, 3) := by decide +kernel
theorem dX7_coldest_43 : decode cX7_coldest 43 = .ok (.iload 4, 2) := by decide +kernel
theorem dX7_coldest_45 : decode cX7_coldest 45 = .ok (.faload, 1) := by decide +kernel
theorem dX7_coldest_46 : decode cX7_coldest 46 = .ok (.aload_n 0, 1) := by decide +kernel
theorem dX7_coldest_47 : decode cX7_coldest 47 = .ok (.getfield 7, 3) := by decide +kernel
theorem dX7_coldest_50 : decode cX7_coldest 50 = .ok (.iload_n 2, 1) := by decide +kernel
theorem dX7_coldest_51 : decode cX7_coldest 51 = .ok (.faload, 1) := by decide +kernel
theorem dX7_coldest_52 : decode cX7_coldest 52 = .ok (.fcmp .g, 1) := by decide +kernel
theorem dX7_coldest_53 : decode cX7_coldest 53 = .ok (.ifCond .ge 8, 3) := by decide +kernel
theorem dX7_coldest_56 : decode cX7_coldest 56 = .ok (.iload 4, 2) := by decide +kernel
theorem dX7_coldest_58 : decode cX7_coldest 58 = .ok (.goto 4, 3) := by decide +kernel
theorem dX7_coldest_61 : decode cX7_coldest 61 = .ok (.iload_n 2, 1) := by decide +kernel
theorem dX7_coldest_62 : decode cX7_coldest 62 = .ok (.istore_n 2, 1) := by decide +kernel
theorem dX7_coldest_63 : decode cX7_coldest 63 = .ok (.iload_n 3, 1) := by decide +kernel
theorem dX7_coldest_64 : decode cX7_coldest 64 = .ok (.iload_n 1, 1) := by decide +kernel
theorem dX7_coldest_65 : decode cX7_coldest 65 = .ok (.ifCond .lt 32, 3) := by decide +kernel
theorem dX7_coldest_68 : decode cX7_coldest 68 = .ok (.aload_n 0, 1) := by decide +kernel
theorem dX7_coldest_69 : decode cX7_coldest 69 = .ok (.getfield 7, 3) := by decide +kernel
theorem dX7_coldest_72 : decode cX7_coldest 72 = .ok (.iload 4, 2) := by decide +kernel
theorem dX7_coldest_74 : decode cX7_coldest 74 = .ok (.faload, 1) := by decide +kernel
theorem dX7_coldest_75 : decode cX7_coldest 75 = .ok (.aload_n 0, 1) := by decide +kernel
theorem dX7_coldest_76 : decode cX7_coldest 76 = .ok (.getfield 7, 3) := by decide +kernel
theorem dX7_coldest_79 : decode cX7_coldest 79 = .ok (.iload_n 1, 1) := by decide +kernel
theorem dX7_coldest_80 : decode cX7_coldest 80 = .ok (.ifCond .ge 7, 3) := by decide +kernel
theorem dX7_coldest_83 : decode cX7_coldest 83 = .ok (.iconst 0, 1) := by decide +kernel
theorem dX7_coldest_84 : decode cX7_coldest 84 = .ok (.goto 4, 3) := by decide +kernel
theorem dX7_coldest_87 : decode cX7_coldest 87 = .ok (.iload_n 1, 1) := by decide +kernel
theorem dX7_coldest_88 : decode cX7_coldest 88 = .ok (.faload, 1) := by decide +kernel
theorem dX7_coldest_89 : decode cX7_coldest 89 = .ok (.fcmp .l, 1) := by decide +kernel
theorem dX7_coldest_90 : decode cX7_coldest 90 = .ok (.ifCond .gt 7, 3) := by decide +kernel
theorem dX7_coldest_93 : decode cX7_coldest 93 = .ok (.iconst 1, 1) := by decide +kernel
theorem dX7_coldest_94 : decode cX7_coldest 94 = .ok (.goto 4, 3) := by decide +kernel
theorem dX7_coldest_97 : decode cX7_coldest 97 = .ok (.iconst 0, 1) := by decide +kernel
theorem dX7_coldest_98 : decode cX7_coldest 98 = .ok (.iadd, 1) := by decide +kernel
theorem dX7_coldest_99 : decode cX7_coldest 99 = .ok (.istore_n 3, 1) := by decide +kernel
theorem dX7_coldest_100 : decode cX7_coldest 100 = .ok (.iinc 4 1, 3) := by decide +kernel
theorem dX7_coldest_103 : decode cX7_coldest 103 = .ok (.goto (-71), 3) := by decide +kernel
theorem dX7_coldest_106 : decode cX7_coldest 106 = .ok (.iload_n 1, 1) := by decide +kernel
theorem dX7_coldest_107 : decode cX7_coldest 107 = .ok (.ifCond .ge 7, 3) := by decide +kernel
theorem dX7_coldest_110 : decode cX7_coldest 110 = .ok (.iload_n 2, 1) := by decide +kernel
theorem dX7_coldest_111 : decode cX7_coldest 111 = .ok (.goto 4, 3) := by decide +kernel
theorem dX7_coldest_114 : decode cX7_coldest 114 = .ok (.iload_n 3, 1) := by decide +kernel
theorem dX7_coldest_115 : decode cX7_coldest 115 = .ok (.ireturn, 1) := by decide +kernel
set_option maxRecDepth 20000 in
theorem ggX7_sum_X7_in : GoodIn wsX7_sum wsX7_in := goodIn_r _ [8] (by decide +kernel) (by decide +kernel)
set_option maxRecDepth 20000 in
theorem gX7_sum_X7_in : GoodIn wsX7_sum (va_wsS RX7 122 yX7_in wsX7_in) := goodIn_app (goodIn_of _ (by decide +kernel)) ggX7_sum_X7_in
set_option maxRecDepth 20000 in
theorem ggX7_sum_X7_refuse : GoodIn wsX7_sum wsX7_refuse := goodIn_r _ [12, 13, 26, 27, 28, 29, 30, 31, 32, 33, 34, 35, 36, 37, 38, 39, 40, 41, 42, 43, 44, 45, 46, 47, 48, 49, 50, 51, 52, 53, 54, 55, 56, 57, 58, 59, 60, 61, 62, 63, 64, 65, 66, 67, 68, 69, 70, 71, 72, 73, 74, 75, 76, 77, 78] (by decide +kernel) (by decide +kernel)
set_option maxRecDepth 20000 in
theorem gX7_sum_X7_refuse : GoodIn wsX7_sum (wsV RX7 219 RX7 yX7_refuse wsX7_refuse) := goodIn_app (goodIn_of _ (by decide +kernel)) ggX7_sum_X7_refuse
set_option maxRecDepth 20000 in
theorem ggX7_sum_Jxf58ca_floatToIntBits_5c35a : GoodIn wsX7_sum wsJxf58ca_floatToIntBits_5c35a := goodIn_r _ [17, 18, 19, 20, 21, 22, 23, 24, 16, 25] (by decide +kernel) (by decide +kernel)
set_option maxRecDepth 20000 in
theorem gX7_sum_Jxf58ca_floatToIntBits_5c35a : GoodIn wsX7_sum (va_wsS RX7 330 yJxf58ca_floatToIntBits_5c35a wsJxf58ca_floatToIntBits_5c35a) := goodIn_app (goodIn_of _ (by decide +kernel)) ggX7_sum_Jxf58ca_floatToIntBits_5c35a
theorem dX7_sum_0 : decode cX7_sum 0 = .ok (.aload_n 0, 1) := by decide +kernel
theorem dX7_sum_1 : decode cX7_sum 1 = .ok (.iconst 0, 1) := by decide +kernel
theorem dX7_sum_2 : decode cX7_sum 2 = .ok (.putfield 114, 3) := by decide +kernel
theorem dX7_sum_5 : decode cX7_sum 5 = .ok (.iload_n 1, 1) := by decide +kernel
theorem dX7_sum_6 : decode cX7_sum 6 = .ok (.i2l, 1) := by decide +kernel
theorem dX7_sum_7 : decode cX7_sum 7 = .ok (.lconst 0, 1) := by decide +kernel
theorem dX7_sum_8 : decode cX7_sum 8 = .ok (.lconst 1, 1) := by decide +kernel
theorem dX7_sum_9 : decode cX7_sum 9 = .ok (.invokestatic 122, 3) := by decide +kernel
theorem dX7_sum_12 : decode cX7_sum 12 = .ok (.ifCond .ne 10, 3) := by decide +kernel
theorem dX7_sum_15 : decode cX7_sum 15 = .ok (.aload_n 0, 1) := by decide +kernel
theorem dX7_sum_16 : decode cX7_sum 16 = .ok (.bipush (-2), 2) := by decide +kernel
theorem dX7_sum_18 : decode cX7_sum 18 = .ok (.invokevirtual 219, 3) := by decide +kernel
theorem dX7_sum_21 : decode cX7_sum 21 = .ok (.ireturn, 1) := by decide +kernel
theorem dX7_sum_22 : decode cX7_sum 22 = .ok (.fconst 0, 1) := by decide +kernel
theorem dX7_sum_23 : decode cX7_sum 23 = .ok (.fstore_n 2, 1) := by decide +kernel
theorem dX7_sum_24 : decode cX7_sum 24 = .ok (.iconst 0, 1) := by decide +kernel
theorem dX7_sum_25 : decode cX7_sum 25 = .ok (.istore_n 3, 1) := by decide +kernel
theorem dX7_sum_26 : decode cX7_sum 26 = .ok (.iload_n 3, 1) := by decide +kernel
theorem dX7_sum_27 : decode cX7_sum 27 = .ok (.bipush 36, 2) := by decide +kernel
theorem dX7_sum_29 : decode cX7_sum 29 = .ok (.if_icmp .ge 18, 3) := by decide +kernel
theorem dX7_sum_32 : decode cX7_sum 32 = .ok (.fload_n 2, 1) := by decide +kernel
theorem dX7_sum_33 : decode cX7_sum 33 = .ok (.aload_n 0, 1) := by decide +kernel
theorem dX7_sum_34 : decode cX7_sum 34 = .ok (.getfield 7, 3) := by decide +kernel
theorem dX7_sum_37 : decode cX7_sum 37 = .ok (.iload_n 3, 1) := by decide +kernel
theorem dX7_sum_38 : decode cX7_sum 38 = .ok (.faload, 1) := by decide +kernel
theorem dX7_sum_39 : decode cX7_sum 39 = .ok (.fadd, 1) := by decide +kernel
theorem dX7_sum_40 : decode cX7_sum 40 = .ok (.fstore_n 2, 1) := by decide +kernel
theorem dX7_sum_41 : decode cX7_sum 41 = .ok (.iinc 3 1, 3) := by decide +kernel
theorem dX7_sum_44 : decode cX7_sum 44 = .ok (.goto (-18), 3) := by decide +kernel
theorem dX7_sum_47 : decode cX7_sum 47 = .ok (.fload_n 2, 1) := by decide +kernel
theorem dX7_sum_48 : decode cX7_sum 48 = .ok (.ldc_w 385, 3) := by decide +kernel
theorem dX7_sum_51 : decode cX7_sum 51 = .ok (.fdiv, 1) := by decide +kernel
theorem dX7_sum_52 : decode cX7_sum 52 = .ok (.fstore_n 3, 1) := by decide +kernel
theorem dX7_sum_53 : decode cX7_sum 53 = .ok (.iload_n 1, 1) := by decide +kernel
theorem dX7_sum_54 : decode cX7_sum 54 = .ok (.ifCond .ne 10, 3) := by decide +kernel
theorem dX7_sum_57 : decode cX7_sum 57 = .ok (.fload_n 2, 1) := by decide +kernel
theorem dX7_sum_58 : decode cX7_sum 58 = .ok (.invokestatic 330, 3) := by decide +kernel
theorem dX7_sum_61 : decode cX7_sum 61 = .ok (.goto 8, 3) := by decide +kernel
theorem dX7_sum_64 : decode cX7_sum 64 = .ok (.fload_n 3, 1) := by decide +kernel
theorem dX7_sum_65 : decode cX7_sum 65 = .ok (.ldc 131, 2) := by decide +kernel
theorem dX7_sum_67 : decode cX7_sum 67 = .ok (.fmul, 1) := by decide +kernel
theorem dX7_sum_68 : decode cX7_sum 68 = .ok (.f2i, 1) := by decide +kernel
theorem dX7_sum_69 : decode cX7_sum 69 = .ok (.ireturn, 1) := by decide +kernel
theorem dX7_far_0 : decode cX7_far 0 = .ok (.iload_n 0, 1) := by decide +kernel
theorem dX7_far_1 : decode cX7_far 1 = .ok (.iload_n 1, 1) := by decide +kernel
theorem dX7_far_2 : decode cX7_far 2 = .ok (.if_icmp .ge 9, 3) := by decide +kernel
theorem dX7_far_5 : decode cX7_far 5 = .ok (.iload_n 1, 1) := by decide +kernel
theorem dX7_far_6 : decode cX7_far 6 = .ok (.iload_n 0, 1) := by decide +kernel
theorem dX7_far_7 : decode cX7_far 7 = .ok (.isub, 1) := by decide +kernel
theorem dX7_far_8 : decode cX7_far 8 = .ok (.goto 6, 3) := by decide +kernel
theorem dX7_far_11 : decode cX7_far 11 = .ok (.iload_n 0, 1) := by decide +kernel
theorem dX7_far_12 : decode cX7_far 12 = .ok (.iload_n 1, 1) := by decide +kernel
theorem dX7_far_13 : decode cX7_far 13 = .ok (.isub, 1) := by decide +kernel
theorem dX7_far_14 : decode cX7_far 14 = .ok (.ireturn, 1) := by decide +kernel
set_option maxRecDepth 20000 in
theorem ggX7_nearest_X7_isSitter : GoodIn wsX7_nearest wsX7_isSitter := goodIn_r _ [9, 10, 11, 12, 8, 13, 22, 23, 24, 25, 26, 27, 28, 29, 30, 31, 32, 33, 34, 35, 36, 37, 38, 39, 40, 41, 42, 43, 44, 45, 46, 47, 48, 49, 50, 51, 52, 53, 54, 55, 56, 57, 58, 59, 60, 61, 62, 63, 64, 65, 66, 67, 68, 69, 70, 71, 72, 73, 74] (by decide +kernel) (by decide +kernel)
set_option maxRecDepth 20000 in
theorem gX7_nearest_X7_isSitter : GoodIn wsX7_nearest (wsV RX7 323 RX7 yX7_isSitter wsX7_isSitter) := goodIn_app (goodIn_of _ (by decide +kernel)) ggX7_nearest_X7_isSitter
set_option maxRecDepth 20000 in
theorem ggX7_nearest_X7_in : GoodIn wsX7_nearest wsX7_in := goodIn_r _ [13] (by decide +kernel) (by decide +kernel)
set_option maxRecDepth 20000 in
theorem gX7_nearest_X7_in : GoodIn wsX7_nearest (va_wsS RX7 122 yX7_in wsX7_in) := goodIn_app (goodIn_of _ (by decide +kernel)) ggX7_nearest_X7_in
set_option maxRecDepth 20000 in
theorem ggX7_nearest_X7_refuse : GoodIn wsX7_nearest wsX7_refuse := goodIn_r _ [17, 18, 22, 23, 24, 25, 26, 27, 28, 29, 30, 31, 32, 33, 34, 35, 36, 37, 38, 39, 40, 41, 42, 43, 44, 45, 46, 47, 48, 49, 50, 51, 52, 53, 54, 55, 56, 57, 58, 59, 60, 61, 62, 63, 64, 65, 66, 67, 68, 69, 70, 71, 72, 73, 74] (by decide +kernel) (by decide +kernel)
set_option maxRecDepth 20000 in
theorem gX7_nearest_X7_refuse : GoodIn wsX7_nearest (wsV RX7 219 RX7 yX7_refuse wsX7_refuse) := goodIn_app (goodIn_of _ (by decide +kernel)) ggX7_nearest_X7_refuse
set_option maxRecDepth 20000 in
theorem ggX7_nearest_X7_far : GoodIn wsX7_nearest wsX7_far := goodIn_r _ [21] (by decide +kernel) (by decide +kernel)
set_option maxRecDepth 20000 in
theorem gX7_nearest_X7_far : GoodIn wsX7_nearest (va_wsS RX7 386 yX7_far wsX7_far) := goodIn_app (goodIn_of _ (by decide +kernel)) ggX7_nearest_X7_far
theorem dX7_nearest_0 : decode cX7_nearest 0 = .ok (.aload_n 0, 1) := by decide +kernel
theorem dX7_nearest_1 : decode cX7_nearest 1 = .ok (.iconst 0, 1) := by decide +kernel
theorem dX7_nearest_2 : decode cX7_nearest 2 = .ok (.putfield 114, 3) := by decide +kernel
theorem dX7_nearest_5 : decode cX7_nearest 5 = .ok (.aload_n 0, 1) := by decide +kernel
theorem dX7_nearest_6 : decode cX7_nearest 6 = .ok (.iload_n 1, 1) := by decide +kernel
theorem dX7_nearest_7 : decode cX7_nearest 7 = .ok (.invokevirtual 323, 3) := by decide +kernel
theorem dX7_nearest_10 : decode cX7_nearest 10 = .ok (.ifCond .eq 13, 3) := by decide +kernel
theorem dX7_nearest_13 : decode cX7_nearest 13 = .ok (.iload_n 2, 1) := by decide +kernel
theorem dX7_nearest_14 : decode cX7_nearest 14 = .ok (.i2l, 1) := by decide +kernel
theorem dX7_nearest_15 : decode cX7_nearest 15 = .ok (.lconst 0, 1) := by decide +kernel
theorem dX7_nearest_16 : decode cX7_nearest 16 = .ok (.lconst 1, 1) := by decide +kernel
theorem dX7_nearest_17 : decode cX7_nearest 17 = .ok (.invokestatic 122, 3) := by decide +kernel
theorem dX7_nearest_20 : decode cX7_nearest 20 = .ok (.ifCond .ne 22, 3) := by decide +kernel
theorem dX7_nearest_23 : decode cX7_nearest 23 = .ok (.aload_n 0, 1) := by decide +kernel
theorem dX7_nearest_24 : decode cX7_nearest 24 = .ok (.aload_n 0, 1) := by decide +kernel
theorem dX7_nearest_25 : decode cX7_nearest 25 = .ok (.iload_n 1, 1) := by decide +kernel
theorem dX7_nearest_26 : decode cX7_nearest 26 = .ok (.invokevirtual 323, 3) := by decide +kernel
theorem dX7_nearest_29 : decode cX7_nearest 29 = .ok (.ifCond .eq 8, 3) := by decide +kernel
theorem dX7_nearest_32 : decode cX7_nearest 32 = .ok (.bipush (-2), 2) := by decide +kernel
theorem dX7_nearest_34 : decode cX7_nearest 34 = .ok (.goto 4, 3) := by decide +kernel
theorem dX7_nearest_37 : decode cX7_nearest 37 = .ok (.iconst (-1), 1) := by decide +kernel
theorem dX7_nearest_38 : decode cX7_nearest 38 = .ok (.invokevirtual 219, 3) := by decide +kernel
theorem dX7_nearest_41 : decode cX7_nearest 41 = .ok (.ireturn, 1) := by decide +kernel
theorem dX7_nearest_42 : decode cX7_nearest 42 = .ok (.bipush (-9), 2) := by decide +kernel
theorem dX7_nearest_44 : decode cX7_nearest 44 = .ok (.istore_n 3, 1) := by decide +kernel
theorem dX7_nearest_45 : decode cX7_nearest 45 = .ok (.bipush (-9), 2) := by decide +kernel
theorem dX7_nearest_47 : decode cX7_nearest 47 = .ok (.istore 4, 2) := by decide +kernel
theorem dX7_nearest_49 : decode cX7_nearest 49 = .ok (.iconst 0, 1) := by decide +kernel
theorem dX7_nearest_50 : decode cX7_nearest 50 = .ok (.istore 5, 2) := by decide +kernel
theorem dX7_nearest_52 : decode cX7_nearest 52 = .ok (.iload 5, 2) := by decide +kernel
theorem dX7_nearest_54 : decode cX7_nearest 54 = .ok (.aload_n 0, 1) := by decide +kernel
theorem dX7_nearest_55 : decode cX7_nearest 55 = .ok (.getfield 119, 3) := by decide +kernel
theorem dX7_nearest_58 : decode cX7_nearest 58 = .ok (.if_icmp .ge 96, 3) := by decide +kernel
theorem dX7_nearest_61 : decode cX7_nearest 61 = .ok (.aload_n 0, 1) := by decide +kernel
theorem dX7_nearest_62 : decode cX7_nearest 62 = .ok (.getfield 23, 3) := by decide +kernel
theorem dX7_nearest_65 : decode cX7_nearest 65 = .ok (.iload 5, 2) := by decide +kernel
theorem dX7_nearest_67 : decode cX7_nearest 67 = .ok (.iaload, 1) := by decide +kernel
theorem dX7_nearest_68 : decode cX7_nearest 68 = .ok (.bipush 6, 2) := by decide +kernel
theorem dX7_nearest_70 : decode cX7_nearest 70 = .ok (.idiv, 1) := by decide +kernel
theorem dX7_nearest_71 : decode cX7_nearest 71 = .ok (.aload_n 0, 1) := by decide +kernel
theorem dX7_nearest_72 : decode cX7_nearest 72 = .ok (.getfield 32, 3) := by decide +kernel
theorem dX7_nearest_75 : decode cX7_nearest 75 = .ok (.iload_n 1, 1) := by decide +kernel
theorem dX7_nearest_76 : decode cX7_nearest 76 = .ok (.iaload, 1) := by decide +kernel
theorem dX7_nearest_77 : decode cX7_nearest 77 = .ok (.bipush 6, 2) := by decide +kernel
theorem dX7_nearest_79 : decode cX7_nearest 79 = .ok (.idiv, 1) := by decide +kernel
theorem dX7_nearest_80 : decode cX7_nearest 80 = .ok (.invokestatic 386, 3) := by decide +kernel
theorem dX7_nearest_83 : decode cX7_nearest 83 = .ok (.aload_n 0, 1) := by decide +kernel
theorem dX7_nearest_84 : decode cX7_nearest 84 = .ok (.getfield 23, 3) := by decide +kernel
theorem dX7_nearest_87 : decode cX7_nearest 87 = .ok (.iload 5, 2) := by decide +kernel
theorem dX7_nearest_89 : decode cX7_nearest 89 = .ok (.iaload, 1) := by decide +kernel
theorem dX7_nearest_90 : decode cX7_nearest 90 = .ok (.bipush 6, 2) := by decide +kernel
theorem dX7_nearest_92 : decode cX7_nearest 92 = .ok (.irem, 1) := by decide +kernel
theorem dX7_nearest_93 : decode cX7_nearest 93 = .ok (.aload_n 0, 1) := by decide +kernel
theorem dX7_nearest_94 : decode cX7_nearest 94 = .ok (.getfield 32, 3) := by decide +kernel
theorem dX7_nearest_97 : decode cX7_nearest 97 = .ok (.iload_n 1, 1) := by decide +kernel
theorem dX7_nearest_98 : decode cX7_nearest 98 = .ok (.iaload, 1) := by decide +kernel
theorem dX7_nearest_99 : decode cX7_nearest 99 = .ok (.bipush 6, 2) := by decide +kernel
theorem dX7_nearest_101 : decode cX7_nearest 101 = .ok (.irem, 1) := by decide +kernel
theorem dX7_nearest_102 : decode cX7_nearest 102 = .ok (.invokestatic 386, 3) := by decide +kernel
theorem dX7_nearest_105 : decode cX7_nearest 105 = .ok (.iadd, 1) := by decide +kernel
theorem dX7_nearest_106 : decode cX7_nearest 106 = .ok (.istore 6, 2) := by decide +kernel
theorem dX7_nearest_108 : decode cX7_nearest 108 = .ok (.iload 4, 2) := by decide +kernel
theorem dX7_nearest_110 : decode cX7_nearest 110 = .ok (.ifCond .lt 10, 3) := by decide +kernel
theorem dX7_nearest_113 : decode cX7_nearest 113 = .ok (.iload 6, 2) := by decide +kernel
theorem dX7_nearest_115 : decode cX7_nearest 115 = .ok (.iload 4, 2) := by decide +kernel
theorem dX7_nearest_117 : decode cX7_nearest 117 = .ok (.if_icmp .ge 8, 3) := by decide +kernel
theorem dX7_nearest_120 : decode cX7_nearest 120 = .ok (.iload 5, 2) := by decide +kernel
theorem dX7_nearest_122 : decode cX7_nearest 122 = .ok (.goto 4, 3) := by decide +kernel
theorem dX7_nearest_125 : decode cX7_nearest 125 = .ok (.iload_n 3, 1) := by decide +kernel
theorem dX7_nearest_126 : decode cX7_nearest 126 = .ok (.istore_n 3, 1) := by decide +kernel
theorem dX7_nearest_127 : decode cX7_nearest 127 = .ok (.iload 4, 2) := by decide +kernel
theorem dX7_nearest_129 : decode cX7_nearest 129 = .ok (.ifCond .lt 10, 3) := by decide +kernel
theorem dX7_nearest_132 : decode cX7_nearest 132 = .ok (.iload 6, 2) := by decide +kernel
theorem dX7_nearest_134 : decode cX7_nearest 134 = .ok (.iload 4, 2) := by decide +kernel
theorem dX7_nearest_136 : decode cX7_nearest 136 = .ok (.if_icmp .ge 8, 3) := by decide +kernel
theorem dX7_nearest_139 : decode cX7_nearest 139 = .ok (.iload 6, 2) := by decide +kernel
theorem dX7_nearest_141 : decode cX7_nearest 141 = .ok (.goto 5, 3) := by decide +kernel
theorem dX7_nearest_144 : decode cX7_nearest 144 = .ok (.iload 4, 2) := by decide +kernel
theorem dX7_nearest_146 : decode cX7_nearest 146 = .ok (.istore 4, 2) := by decide +kernel
theorem dX7_nearest_148 : decode cX7_nearest 148 = .ok (.iinc 5 1, 3) := by decide +kernel
theorem dX7_nearest_151 : decode cX7_nearest 151 = .ok (.goto (-99), 3) := by decide +kernel
theorem dX7_nearest_154 : decode cX7_nearest 154 = .ok (.iload_n 2, 1) := by decide +kernel
theorem dX7_nearest_155 : decode cX7_nearest 155 = .ok (.ifCond .ne 7, 3) := by decide +kernel
theorem dX7_nearest_158 : decode cX7_nearest 158 = .ok (.iload_n 3, 1) := by decide +kernel
theorem dX7_nearest_159 : decode cX7_nearest 159 = .ok (.goto 5, 3) := by decide +kernel
theorem dX7_nearest_162 : decode cX7_nearest 162 = .ok (.iload 4, 2) := by decide +kernel
theorem dX7_nearest_164 : decode cX7_nearest 164 = .ok (.ireturn, 1) := by decide +kernel
set_option maxRecDepth 20000 in
theorem ggX7_kinds_X7_in : GoodIn wsX7_kinds wsX7_in := goodIn_r _ [8] (by decide +kernel) (by decide +kernel)
set_option maxRecDepth 20000 in
theorem gX7_kinds_X7_in : GoodIn wsX7_kinds (va_wsS RX7 122 yX7_in wsX7_in) := goodIn_app (goodIn_of _ (by decide +kernel)) ggX7_kinds_X7_in
set_option maxRecDepth 20000 in
theorem ggX7_kinds_X7_refuse : GoodIn wsX7_kinds wsX7_refuse := goodIn_r _ [12, 13, 14, 15, 16, 17, 18, 19, 20, 21, 22, 23, 24, 25, 26, 27, 28, 29, 30, 31, 32, 33, 34, 35, 36, 37, 38, 39, 40, 41, 42, 43, 44, 45, 46, 47, 48, 49, 50, 51, 52, 53, 54, 55, 56, 57, 58, 59, 60, 61, 62, 63, 64, 65, 66] (by decide +kernel) (by decide +kernel)
set_option maxRecDepth 20000 in
theorem gX7_kinds_X7_refuse : GoodIn wsX7_kinds (wsV RX7 219 RX7 yX7_refuse wsX7_refuse) := goodIn_app (goodIn_of _ (by decide +kernel)) ggX7_kinds_X7_refuse
theorem dX7_kinds_0 : decode cX7_kinds 0 = .ok (.aload_n 0, 1) := by decide +kernel
theorem dX7_kinds_1 : decode cX7_kinds 1 = .ok (.iconst 0, 1) := by decide +kernel
theorem dX7_kinds_2 : decode cX7_kinds 2 = .ok (.putfield 114, 3) := by decide +kernel
theorem dX7_kinds_5 : decode cX7_kinds 5 = .ok (.iload_n 1, 1) := by decide +kernel
theorem dX7_kinds_6 : decode cX7_kinds 6 = .ok (.i2l, 1) := by decide +kernel
theorem dX7_kinds_7 : decode cX7_kinds 7 = .ok (.lconst 0, 1) := by decide +kernel
theorem dX7_kinds_8 : decode cX7_kinds 8 = .ok (.ldc2_w 336, 3) := by decide +kernel
theorem dX7_kinds_11 : decode cX7_kinds 11 = .ok (.invokestatic 122, 3) := by decide +kernel
theorem dX7_kinds_14 : decode cX7_kinds 14 = .ok (.ifCond .ne 10, 3) := by decide +kernel
theorem dX7_kinds_17 : decode cX7_kinds 17 = .ok (.aload_n 0, 1) := by decide +kernel
theorem dX7_kinds_18 : decode cX7_kinds 18 = .ok (.bipush (-2), 2) := by decide +kernel
theorem dX7_kinds_20 : decode cX7_kinds 20 = .ok (.invokevirtual 219, 3) := by decide +kernel
theorem dX7_kinds_23 : decode cX7_kinds 23 = .ok (.ireturn, 1) := by decide +kernel
theorem dX7_kinds_24 : decode cX7_kinds 24 = .ok (.iconst 0, 1) := by decide +kernel
theorem dX7_kinds_25 : decode cX7_kinds 25 = .ok (.istore_n 2, 1) := by decide +kernel
theorem dX7_kinds_26 : decode cX7_kinds 26 = .ok (.iconst 0, 1) := by decide +kernel
theorem dX7_kinds_27 : decode cX7_kinds 27 = .ok (.istore_n 3, 1) := by decide +kernel
theorem dX7_kinds_28 : decode cX7_kinds 28 = .ok (.iload_n 3, 1) := by decide +kernel
theorem dX7_kinds_29 : decode cX7_kinds 29 = .ok (.aload_n 0, 1) := by decide +kernel
theorem dX7_kinds_30 : decode cX7_kinds 30 = .ok (.getfield 119, 3) := by decide +kernel
theorem dX7_kinds_33 : decode cX7_kinds 33 = .ok (.if_icmp .ge 27, 3) := by decide +kernel
theorem dX7_kinds_36 : decode cX7_kinds 36 = .ok (.iload_n 2, 1) := by decide +kernel
theorem dX7_kinds_37 : decode cX7_kinds 37 = .ok (.aload_n 0, 1) := by decide +kernel
theorem dX7_kinds_38 : decode cX7_kinds 38 = .ok (.getfield 17, 3) := by decide +kernel
theorem dX7_kinds_41 : decode cX7_kinds 41 = .ok (.iload_n 3, 1) := by decide +kernel
theorem dX7_kinds_42 : decode cX7_kinds 42 = .ok (.iaload, 1) := by decide +kernel
theorem dX7_kinds_43 : decode cX7_kinds 43 = .ok (.iload_n 1, 1) := by decide +kernel
theorem dX7_kinds_44 : decode cX7_kinds 44 = .ok (.if_icmp .ne 7, 3) := by decide +kernel
theorem dX7_kinds_47 : decode cX7_kinds 47 = .ok (.iconst 1, 1) := by decide +kernel
theorem dX7_kinds_48 : decode cX7_kinds 48 = .ok (.goto 4, 3) := by decide +kernel
theorem dX7_kinds_51 : decode cX7_kinds 51 = .ok (.iconst 0, 1) := by decide +kernel
theorem dX7_kinds_52 : decode cX7_kinds 52 = .ok (.iadd, 1) := by decide +kernel
theorem dX7_kinds_53 : decode cX7_kinds 53 = .ok (.istore_n 2, 1) := by decide +kernel
theorem dX7_kinds_54 : decode cX7_kinds 54 = .ok (.iinc 3 1, 3) := by decide +kernel
theorem dX7_kinds_57 : decode cX7_kinds 57 = .ok (.goto (-29), 3) := by decide +kernel
theorem dX7_kinds_60 : decode cX7_kinds 60 = .ok (.iload_n 2, 1) := by decide +kernel
theorem dX7_kinds_61 : decode cX7_kinds 61 = .ok (.ireturn, 1) := by decide +kernel
set_option maxRecDepth 20000 in
theorem ggX7_isPeg_X7_in : GoodIn wsX7_isPeg wsX7_in := goodIn_r _ [5] (by decide +kernel) (by decide +kernel)
set_option maxRecDepth 20000 in
theorem gX7_isPeg_X7_in : GoodIn wsX7_isPeg (va_wsS RX7 122 yX7_in wsX7_in) := goodIn_app (goodIn_of _ (by decide +kernel)) ggX7_isPeg_X7_in
theorem dX7_isPeg_0 : decode cX7_isPeg 0 = .ok (.iload_n 0, 1) := by decide +kernel
theorem dX7_isPeg_1 : decode cX7_isPeg 1 = .ok (.i2l, 1) := by decide +kernel
theorem dX7_isPeg_2 : decode cX7_isPeg 2 = .ok (.lconst 0, 1) := by decide +kernel
theorem dX7_isPeg_3 : decode cX7_isPeg 3 = .ok (.ldc2_w 326, 3) := by decide +kernel
theorem dX7_isPeg_6 : decode cX7_isPeg 6 = .ok (.invokestatic 122, 3) := by decide +kernel
theorem dX7_isPeg_9 : decode cX7_isPeg 9 = .ok (.ireturn, 1) := by decide +kernel
set_option maxRecDepth 20000 in
theorem ggX7_pegs_X7_isPeg : GoodIn wsX7_pegs wsX7_isPeg := goodIn_r _ [10, 2, 11, 12, 9, 13] (by decide +kernel) (by decide +kernel)
set_option maxRecDepth 20000 in
theorem gX7_pegs_X7_isPeg : GoodIn wsX7_pegs (va_wsS RX7 389 yX7_isPeg wsX7_isPeg) := goodIn_app (goodIn_of _ (by decide +kernel)) ggX7_pegs_X7_isPeg
set_option maxRecDepth 20000 in
theorem ggX7_pegs_X7_refuse : GoodIn wsX7_pegs wsX7_refuse := goodIn_r _ [17, 18, 19, 20, 21, 22, 23, 24, 25, 26, 27, 28, 29, 30, 31, 32, 33, 34, 35, 36, 37, 38, 39, 40, 41, 42, 43, 44, 45, 46, 47, 48, 49, 50, 51, 52, 53, 54, 55, 56, 57, 58, 59, 60, 61, 62, 63, 64, 65, 66, 67, 68, 69, 70, 71] (by decide +kernel) (by decide +kernel)
set_option maxRecDepth 20000 in
theorem gX7_pegs_X7_refuse : GoodIn wsX7_pegs (wsV RX7 219 RX7 yX7_refuse wsX7_refuse) := goodIn_app (goodIn_of _ (by decide +kernel)) ggX7_pegs_X7_refuse
set_option maxRecDepth 20000 in
theorem ggX7_pegs_X7_in : GoodIn wsX7_pegs wsX7_in := goodIn_r _ [13] (by decide +kernel) (by decide +kernel)
set_option maxRecDepth 20000 in
theorem gX7_pegs_X7_in : GoodIn wsX7_pegs (va_wsS RX7 122 yX7_in wsX7_in) := goodIn_app (goodIn_of _ (by decide +kernel)) ggX7_pegs_X7_in
theorem dX7_pegs_0 : decode cX7_pegs 0 = .ok (.aload_n 0, 1) := by decide +kernel
theorem dX7_pegs_1 : decode cX7_pegs 1 = .ok (.iconst 0, 1) := by decide +kernel
theorem dX7_pegs_2 : decode cX7_pegs 2 = .ok (.putfield 114, 3) := by decide +kernel
theorem dX7_pegs_5 : decode cX7_pegs 5 = .ok (.iload_n 1, 1) := by decide +kernel
theorem dX7_pegs_6 : decode cX7_pegs 6 = .ok (.invokestatic 389, 3) := by decide +kernel
theorem dX7_pegs_9 : decode cX7_pegs 9 = .ok (.ifCond .ne 9, 3) := by decide +kernel
theorem dX7_pegs_12 : decode cX7_pegs 12 = .ok (.aload_n 0, 1) := by decide +kernel
theorem dX7_pegs_13 : decode cX7_pegs 13 = .ok (.iconst (-1), 1) := by decide +kernel
theorem dX7_pegs_14 : decode cX7_pegs 14 = .ok (.invokevirtual 219, 3) := by decide +kernel
theorem dX7_pegs_17 : decode cX7_pegs 17 = .ok (.ireturn, 1) := by decide +kernel
theorem dX7_pegs_18 : decode cX7_pegs 18 = .ok (.iload_n 2, 1) := by decide +kernel
theorem dX7_pegs_19 : decode cX7_pegs 19 = .ok (.i2l, 1) := by decide +kernel
theorem dX7_pegs_20 : decode cX7_pegs 20 = .ok (.lconst 0, 1) := by decide +kernel
theorem dX7_pegs_21 : decode cX7_pegs 21 = .ok (.ldc2_w 326, 3) := by decide +kernel
theorem dX7_pegs_24 : decode cX7_pegs 24 = .ok (.invokestatic 122, 3) := by decide +kernel
theorem dX7_pegs_27 : decode cX7_pegs 27 = .ok (.ifCond .ne 10, 3) := by decide +kernel
theorem dX7_pegs_30 : decode cX7_pegs 30 = .ok (.aload_n 0, 1) := by decide +kernel
theorem dX7_pegs_31 : decode cX7_pegs 31 = .ok (.bipush (-2), 2) := by decide +kernel
theorem dX7_pegs_33 : decode cX7_pegs 33 = .ok (.invokevirtual 219, 3) := by decide +kernel
theorem dX7_pegs_36 : decode cX7_pegs 36 = .ok (.ireturn, 1) := by decide +kernel
theorem dX7_pegs_37 : decode cX7_pegs 37 = .ok (.iload_n 3, 1) := by decide +kernel
theorem dX7_pegs_38 : decode cX7_pegs 38 = .ok (.bipush 12, 2) := by decide +kernel
theorem dX7_pegs_40 : decode cX7_pegs 40 = .ok (.if_icmp .le 10, 3) := by decide +kernel
theorem dX7_pegs_43 : decode cX7_pegs 43 = .ok (.aload_n 0, 1) := by decide +kernel
theorem dX7_pegs_44 : decode cX7_pegs 44 = .ok (.bipush (-6), 2) := by decide +kernel
theorem dX7_pegs_46 : decode cX7_pegs 46 = .ok (.invokevirtual 219, 3) := by decide +kernel
theorem dX7_pegs_49 : decode cX7_pegs 49 = .ok (.ireturn, 1) := by decide +kernel
theorem dX7_pegs_50 : decode cX7_pegs 50 = .ok (.iload_n 3, 1) := by decide +kernel
theorem dX7_pegs_51 : decode cX7_pegs 51 = .ok (.ifCond .ge 6, 3) := by decide +kernel
theorem dX7_pegs_54 : decode cX7_pegs 54 = .ok (.bipush (-14), 2) := by decide +kernel
theorem dX7_pegs_56 : decode cX7_pegs 56 = .ok (.ireturn, 1) := by decide +kernel
theorem dX7_pegs_57 : decode cX7_pegs 57 = .ok (.aload_n 0, 1) := by decide +kernel
theorem dX7_pegs_58 : decode cX7_pegs 58 = .ok (.getfield 104, 3) := by decide +kernel
theorem dX7_pegs_61 : decode cX7_pegs 61 = .ok (.iload_n 1, 1) := by decide +kernel
theorem dX7_pegs_62 : decode cX7_pegs 62 = .ok (.iconst 1, 1) := by decide +kernel
theorem dX7_pegs_63 : decode cX7_pegs 63 = .ok (.bastore, 1) := by decide +kernel
theorem dX7_pegs_64 : decode cX7_pegs 64 = .ok (.aload_n 0, 1) := by decide +kernel
theorem dX7_pegs_65 : decode cX7_pegs 65 = .ok (.getfield 98, 3) := by decide +kernel
theorem dX7_pegs_68 : decode cX7_pegs 68 = .ok (.iload_n 1, 1) := by decide +kernel
theorem dX7_pegs_69 : decode cX7_pegs 69 = .ok (.iload_n 2, 1) := by decide +kernel
theorem dX7_pegs_70 : decode cX7_pegs 70 = .ok (.iastore, 1) := by decide +kernel
theorem dX7_pegs_71 : decode cX7_pegs 71 = .ok (.aload_n 0, 1) := by decide +kernel
theorem dX7_pegs_72 : decode cX7_pegs 72 = .ok (.getfield 101, 3) := by decide +kernel
theorem dX7_pegs_75 : decode cX7_pegs 75 = .ok (.iload_n 1, 1) := by decide +kernel
theorem dX7_pegs_76 : decode cX7_pegs 76 = .ok (.iload_n 3, 1) := by decide +kernel
theorem dX7_pegs_77 : decode cX7_pegs 77 = .ok (.iastore, 1) := by decide +kernel
theorem dX7_pegs_78 : decode cX7_pegs 78 = .ok (.iconst 0, 1) := by decide +kernel
theorem dX7_pegs_79 : decode cX7_pegs 79 = .ok (.istore 4, 2) := by decide +kernel
theorem dX7_pegs_81 : decode cX7_pegs 81 = .ok (.iload 4, 2) := by decide +kernel
theorem dX7_pegs_83 : decode cX7_pegs 83 = .ok (.bipush 12, 2) := by decide +kernel
theorem dX7_pegs_85 : decode cX7_pegs 85 = .ok (.if_icmp .ge 22, 3) := by decide +kernel
theorem dX7_pegs_88 : decode cX7_pegs 88 = .ok (.aload_n 0, 1) := by decide +kernel
theorem dX7_pegs_89 : decode cX7_pegs 89 = .ok (.getfield 108, 3) := by decide +kernel
theorem dX7_pegs_92 : decode cX7_pegs 92 = .ok (.bipush 12, 2) := by decide +kernel
theorem dX7_pegs_94 : decode cX7_pegs 94 = .ok (.iload_n 1, 1) := by decide +kernel
theorem dX7_pegs_95 : decode cX7_pegs 95 = .ok (.imul, 1) := by decide +kernel
theorem dX7_pegs_96 : decode cX7_pegs 96 = .ok (.iload 4, 2) := by decide +kernel
theorem dX7_pegs_98 : decode cX7_pegs 98 = .ok (.iadd, 1) := by decide +kernel
theorem dX7_pegs_99 : decode cX7_pegs 99 = .ok (.iconst (-1), 1) := by decide +kernel
theorem dX7_pegs_100 : decode cX7_pegs 100 = .ok (.iastore, 1) := by decide +kernel
theorem dX7_pegs_101 : decode cX7_pegs 101 = .ok (.iinc 4 1, 3) := by decide +kernel
theorem dX7_pegs_104 : decode cX7_pegs 104 = .ok (.goto (-23), 3) := by decide +kernel
theorem dX7_pegs_107 : decode cX7_pegs 107 = .ok (.iconst 1, 1) := by decide +kernel
theorem dX7_pegs_108 : decode cX7_pegs 108 = .ok (.ireturn, 1) := by decide +kernel
set_option maxRecDepth 20000 in
theorem ggX7_wrongPlace_X7_in : GoodIn wsX7_wrongPlace wsX7_in := goodIn_r _ [6] (by decide +kernel) (by decide +kernel)
set_option maxRecDepth 20000 in
theorem gX7_wrongPlace_X7_in : GoodIn wsX7_wrongPlace (va_wsS RX7 122 yX7_in wsX7_in) := goodIn_app (goodIn_of _ (by decide +kernel)) ggX7_wrongPlace_X7_in
theorem dX7_wrongPlace_0 : decode cX7_wrongPlace 0 = .ok (.aload_n 0, 1) := by decide +kernel
theorem dX7_wrongPlace_1 : decode cX7_wrongPlace 1 = .ok (.getfield 104, 3) := by decide +kernel
theorem dX7_wrongPlace_4 : decode cX7_wrongPlace 4 = .ok (.iload_n 1, 1) := by decide +kernel
theorem dX7_wrongPlace_5 : decode cX7_wrongPlace 5 = .ok (.baload, 1) := by decide +kernel
theorem dX7_wrongPlace_6 : decode cX7_wrongPlace 6 = .ok (.ifCond .ne 8, 3) := by decide +kernel
theorem dX7_wrongPlace_9 : decode cX7_wrongPlace 9 = .ok (.bipush (-11), 2) := by decide +kernel
theorem dX7_wrongPlace_11 : decode cX7_wrongPlace 11 = .ok (.goto 27, 3) := by decide +kernel
theorem dX7_wrongPlace_14 : decode cX7_wrongPlace 14 = .ok (.iload_n 2, 1) := by decide +kernel
theorem dX7_wrongPlace_15 : decode cX7_wrongPlace 15 = .ok (.i2l, 1) := by decide +kernel
theorem dX7_wrongPlace_16 : decode cX7_wrongPlace 16 = .ok (.lconst 0, 1) := by decide +kernel
theorem dX7_wrongPlace_17 : decode cX7_wrongPlace 17 = .ok (.aload_n 0, 1) := by decide +kernel
theorem dX7_wrongPlace_18 : decode cX7_wrongPlace 18 = .ok (.getfield 101, 3) := by decide +kernel
theorem dX7_wrongPlace_21 : decode cX7_wrongPlace 21 = .ok (.iload_n 1, 1) := by decide +kernel
theorem dX7_wrongPlace_22 : decode cX7_wrongPlace 22 = .ok (.iaload, 1) := by decide +kernel
theorem dX7_wrongPlace_23 : decode cX7_wrongPlace 23 = .ok (.iconst 1, 1) := by decide +kernel
theorem dX7_wrongPlace_24 : decode cX7_wrongPlace 24 = .ok (.isub, 1) := by decide +kernel
theorem dX7_wrongPlace_25 : decode cX7_wrongPlace 25 = .ok (.i2l, 1) := by decide +kernel
theorem dX7_wrongPlace_26 : decode cX7_wrongPlace 26 = .ok (.invokestatic 122, 3) := by decide +kernel
theorem dX7_wrongPlace_29 : decode cX7_wrongPlace 29 = .ok (.ifCond .ne 8, 3) := by decide +kernel
theorem dX7_wrongPlace_32 : decode cX7_wrongPlace 32 = .ok (.bipush (-13), 2) := by decide +kernel
theorem dX7_wrongPlace_34 : decode cX7_wrongPlace 34 = .ok (.goto 4, 3) := by decide +kernel
theorem dX7_wrongPlace_37 : decode cX7_wrongPlace 37 = .ok (.iconst 0, 1) := by decide +kernel
theorem dX7_wrongPlace_38 : decode cX7_wrongPlace 38 = .ok (.ireturn, 1) := by decide +kernel
theorem dX7_takes_0 : decode cX7_takes 0 = .ok (.iload_n 2, 1) := by decide +kernel
theorem dX7_takes_1 : decode cX7_takes 1 = .ok (.ifCond .lt 25, 3) := by decide +kernel
theorem dX7_takes_4 : decode cX7_takes 4 = .ok (.aload_n 0, 1) := by decide +kernel
theorem dX7_takes_5 : decode cX7_takes 5 = .ok (.getfield 98, 3) := by decide +kernel
theorem dX7_takes_8 : decode cX7_takes 8 = .ok (.iload_n 1, 1) := by decide +kernel
theorem dX7_takes_9 : decode cX7_takes 9 = .ok (.iaload, 1) := by decide +kernel
theorem dX7_takes_10 : decode cX7_takes 10 = .ok (.ifCond .eq 16, 3) := by decide +kernel
theorem dX7_takes_13 : decode cX7_takes 13 = .ok (.iload_n 2, 1) := by decide +kernel
theorem dX7_takes_14 : decode cX7_takes 14 = .ok (.bipush 10, 2) := by decide +kernel
theorem dX7_takes_16 : decode cX7_takes 16 = .ok (.idiv, 1) := by decide +kernel
theorem dX7_takes_17 : decode cX7_takes 17 = .ok (.aload_n 0, 1) := by decide +kernel
theorem dX7_takes_18 : decode cX7_takes 18 = .ok (.getfield 98, 3) := by decide +kernel
theorem dX7_takes_21 : decode cX7_takes 21 = .ok (.iload_n 1, 1) := by decide +kernel
theorem dX7_takes_22 : decode cX7_takes 22 = .ok (.iaload, 1) := by decide +kernel
theorem dX7_takes_23 : decode cX7_takes 23 = .ok (.if_icmp .ne 7, 3) := by decide +kernel
theorem dX7_takes_26 : decode cX7_takes 26 = .ok (.iconst 1, 1) := by decide +kernel
theorem dX7_takes_27 : decode cX7_takes 27 = .ok (.goto 4, 3) := by decide +kernel
theorem dX7_takes_30 : decode cX7_takes 30 = .ok (.iconst 0, 1) := by decide +kernel
theorem dX7_takes_31 : decode cX7_takes 31 = .ok (.ireturn, 1) := by decide +kernel
set_option maxRecDepth 20000 in
theorem ggX7_hangs_X7_isPeg : GoodIn wsX7_hangs wsX7_isPeg := goodIn_r _ [7, 2, 8, 9, 6, 10] (by decide +kernel) (by decide +kernel)
set_option maxRecDepth 20000 in
theorem gX7_hangs_X7_isPeg : GoodIn wsX7_hangs (va_wsS RX7 389 yX7_isPeg wsX7_isPeg) := goodIn_app (goodIn_of _ (by decide +kernel)) ggX7_hangs_X7_isPeg
set_option maxRecDepth 20000 in
theorem ggX7_hangs_X7_refuse : GoodIn wsX7_hangs wsX7_refuse := goodIn_r _ [14, 15, 30, 31, 32, 33, 34, 35, 36, 37, 38, 39, 40, 41, 42, 43, 44, 45, 46, 47, 48, 49, 50, 51, 52, 53, 54, 55, 56, 57, 58, 59, 60, 61, 62, 63, 64, 65, 66, 67, 68, 69, 70, 71, 72, 73, 74, 75, 76, 77, 78, 79, 80, 81, 82] (by decide +kernel) (by decide +kernel)
set_option maxRecDepth 20000 in
theorem gX7_hangs_X7_refuse : GoodIn wsX7_hangs (wsV RX7 219 RX7 yX7_refuse wsX7_refuse) := goodIn_app (goodIn_of _ (by decide +kernel)) ggX7_hangs_X7_refuse
set_option maxRecDepth 20000 in
theorem ggX7_hangs_X7_in : GoodIn wsX7_hangs wsX7_in := goodIn_r _ [10] (by decide +kernel) (by decide +kernel)
set_option maxRecDepth 20000 in
theorem gX7_hangs_X7_in : GoodIn wsX7_hangs (va_wsS RX7 122 yX7_in wsX7_in) := goodIn_app (goodIn_of _ (by decide +kernel)) ggX7_hangs_X7_in
set_option maxRecDepth 20000 in
theorem ggX7_hangs_X7_wrongNumber : GoodIn wsX7_hangs wsX7_wrongNumber := goodIn_r _ [18] (by decide +kernel) (by decide +kernel)
set_option maxRecDepth 20000 in
theorem gX7_hangs_X7_wrongNumber : GoodIn wsX7_hangs (va_wsS RX7 347 yX7_wrongNumber wsX7_wrongNumber) := goodIn_app (goodIn_of _ (by decide +kernel)) ggX7_hangs_X7_wrongNumber
set_option maxRecDepth 20000 in
theorem ggX7_hangs_X7_wrongPlace : GoodIn wsX7_hangs wsX7_wrongPlace := goodIn_r _ [22, 23, 24, 8, 9, 6, 10, 30, 31, 32, 33, 34, 35, 36, 37, 38, 39, 40, 41, 42, 43, 44, 45, 46, 47, 48, 49, 50, 51, 52, 53, 54, 55, 56, 57, 58, 59, 60, 61, 62, 63, 64, 65, 66, 67, 68, 69, 70, 71, 72, 73, 74, 75, 76, 77, 78, 79, 80, 81, 82] (by decide +kernel) (by decide +kernel)
set_option maxRecDepth 20000 in
theorem gX7_hangs_X7_wrongPlace : GoodIn wsX7_hangs (wsV RX7 392 RX7 yX7_wrongPlace wsX7_wrongPlace) := goodIn_app (goodIn_of _ (by decide +kernel)) ggX7_hangs_X7_wrongPlace
set_option maxRecDepth 20000 in
theorem ggX7_hangs_X7_takes : GoodIn wsX7_hangs wsX7_takes := goodIn_r _ [28, 29, 30, 31, 32, 33, 34, 35, 36, 37, 38, 39, 40, 41, 42, 43, 44, 45, 46, 47, 48, 49, 50, 51, 52, 53, 54, 55, 56, 57, 58, 59, 60, 61, 62, 63, 64, 65, 66, 67, 68, 69, 70, 71, 72, 73, 74, 75, 76, 77, 78, 79, 80, 81, 82] (by decide +kernel) (by decide +kernel)
set_option maxRecDepth 20000 in
theorem gX7_hangs_X7_takes : GoodIn wsX7_hangs (wsV RX7 395 RX7 yX7_takes wsX7_takes) := goodIn_app (goodIn_of _ (by decide +kernel)) ggX7_hangs_X7_takes
theorem dX7_hangs_0 : decode cX7_hangs 0 = .ok (.aload_n 0, 1) := by decide +kernel
theorem dX7_hangs_1 : decode cX7_hangs 1 = .ok (.iconst 0, 1) := by decide +kernel
theorem dX7_hangs_2 : decode cX7_hangs 2 = .ok (.putfield 114, 3) := by decide +kernel
theorem dX7_hangs_5 : decode cX7_hangs 5 = .ok (.iload_n 1, 1) := by decide +kernel
theorem dX7_hangs_6 : decode cX7_hangs 6 = .ok (.invokestatic 389, 3) := by decide +kernel
theorem dX7_hangs_9 : decode cX7_hangs 9 = .ok (.ifCond .ne 9, 3) := by decide +kernel
theorem dX7_hangs_12 : decode cX7_hangs 12 = .ok (.aload_n 0, 1) := by decide +kernel
theorem dX7_hangs_13 : decode cX7_hangs 13 = .ok (.iconst (-1), 1) := by decide +kernel
theorem dX7_hangs_14 : decode cX7_hangs 14 = .ok (.invokevirtual 219, 3) := by decide +kernel
theorem dX7_hangs_17 : decode cX7_hangs 17 = .ok (.ireturn, 1) := by decide +kernel
theorem dX7_hangs_18 : decode cX7_hangs 18 = .ok (.iload_n 3, 1) := by decide +kernel
theorem dX7_hangs_19 : decode cX7_hangs 19 = .ok (.i2l, 1) := by decide +kernel
theorem dX7_hangs_20 : decode cX7_hangs 20 = .ok (.lconst 1, 1) := by decide +kernel
theorem dX7_hangs_21 : decode cX7_hangs 21 = .ok (.ldc2_w 326, 3) := by decide +kernel
theorem dX7_hangs_24 : decode cX7_hangs 24 = .ok (.invokestatic 122, 3) := by decide +kernel
theorem dX7_hangs_27 : decode cX7_hangs 27 = .ok (.ifCond .eq 14, 3) := by decide +kernel
theorem dX7_hangs_30 : decode cX7_hangs 30 = .ok (.iload 4, 2) := by decide +kernel
theorem dX7_hangs_32 : decode cX7_hangs 32 = .ok (.iconst 0, 1) := by decide +kernel
theorem dX7_hangs_33 : decode cX7_hangs 33 = .ok (.bipush 9, 2) := by decide +kernel
theorem dX7_hangs_35 : decode cX7_hangs 35 = .ok (.invokestatic 347, 3) := by decide +kernel
theorem dX7_hangs_38 : decode cX7_hangs 38 = .ok (.goto 5, 3) := by decide +kernel
theorem dX7_hangs_41 : decode cX7_hangs 41 = .ok (.bipush (-2), 2) := by decide +kernel
theorem dX7_hangs_43 : decode cX7_hangs 43 = .ok (.istore 5, 2) := by decide +kernel
theorem dX7_hangs_45 : decode cX7_hangs 45 = .ok (.iload 5, 2) := by decide +kernel
theorem dX7_hangs_47 : decode cX7_hangs 47 = .ok (.ifCond .ge 10, 3) := by decide +kernel
theorem dX7_hangs_50 : decode cX7_hangs 50 = .ok (.aload_n 0, 1) := by decide +kernel
theorem dX7_hangs_51 : decode cX7_hangs 51 = .ok (.iload 5, 2) := by decide +kernel
theorem dX7_hangs_53 : decode cX7_hangs 53 = .ok (.invokevirtual 219, 3) := by decide +kernel
theorem dX7_hangs_56 : decode cX7_hangs 56 = .ok (.ireturn, 1) := by decide +kernel
theorem dX7_hangs_57 : decode cX7_hangs 57 = .ok (.aload_n 0, 1) := by decide +kernel
theorem dX7_hangs_58 : decode cX7_hangs 58 = .ok (.iload_n 1, 1) := by decide +kernel
theorem dX7_hangs_59 : decode cX7_hangs 59 = .ok (.iload_n 2, 1) := by decide +kernel
theorem dX7_hangs_60 : decode cX7_hangs 60 = .ok (.invokevirtual 392, 3) := by decide +kernel
theorem dX7_hangs_63 : decode cX7_hangs 63 = .ok (.ifCond .ge 10, 3) := by decide +kernel
theorem dX7_hangs_66 : decode cX7_hangs 66 = .ok (.aload_n 0, 1) := by decide +kernel
theorem dX7_hangs_67 : decode cX7_hangs 67 = .ok (.iload_n 1, 1) := by decide +kernel
theorem dX7_hangs_68 : decode cX7_hangs 68 = .ok (.iload_n 2, 1) := by decide +kernel
theorem dX7_hangs_69 : decode cX7_hangs 69 = .ok (.invokevirtual 392, 3) := by decide +kernel
theorem dX7_hangs_72 : decode cX7_hangs 72 = .ok (.ireturn, 1) := by decide +kernel
theorem dX7_hangs_73 : decode cX7_hangs 73 = .ok (.aload_n 0, 1) := by decide +kernel
theorem dX7_hangs_74 : decode cX7_hangs 74 = .ok (.iload_n 1, 1) := by decide +kernel
theorem dX7_hangs_75 : decode cX7_hangs 75 = .ok (.bipush 10, 2) := by decide +kernel
theorem dX7_hangs_77 : decode cX7_hangs 77 = .ok (.iload_n 3, 1) := by decide +kernel
theorem dX7_hangs_78 : decode cX7_hangs 78 = .ok (.imul, 1) := by decide +kernel
theorem dX7_hangs_79 : decode cX7_hangs 79 = .ok (.invokevirtual 395, 3) := by decide +kernel
theorem dX7_hangs_82 : decode cX7_hangs 82 = .ok (.ifCond .ne 6, 3) := by decide +kernel
theorem dX7_hangs_85 : decode cX7_hangs 85 = .ok (.bipush (-12), 2) := by decide +kernel
theorem dX7_hangs_87 : decode cX7_hangs 87 = .ok (.ireturn, 1) := by decide +kernel
theorem dX7_hangs_88 : decode cX7_hangs 88 = .ok (.aload_n 0, 1) := by decide +kernel
theorem dX7_hangs_89 : decode cX7_hangs 89 = .ok (.getfield 108, 3) := by decide +kernel
theorem dX7_hangs_92 : decode cX7_hangs 92 = .ok (.bipush 12, 2) := by decide +kernel
theorem dX7_hangs_94 : decode cX7_hangs 94 = .ok (.iload_n 1, 1) := by decide +kernel
theorem dX7_hangs_95 : decode cX7_hangs 95 = .ok (.imul, 1) := by decide +kernel
theorem dX7_hangs_96 : decode cX7_hangs 96 = .ok (.iload_n 2, 1) := by decide +kernel
theorem dX7_hangs_97 : decode cX7_hangs 97 = .ok (.iadd, 1) := by decide +kernel
theorem dX7_hangs_98 : decode cX7_hangs 98 = .ok (.bipush 10, 2) := by decide +kernel
theorem dX7_hangs_100 : decode cX7_hangs 100 = .ok (.iload_n 3, 1) := by decide +kernel
theorem dX7_hangs_101 : decode cX7_hangs 101 = .ok (.imul, 1) := by decide +kernel
theorem dX7_hangs_102 : decode cX7_hangs 102 = .ok (.iload 4, 2) := by decide +kernel
theorem dX7_hangs_104 : decode cX7_hangs 104 = .ok (.iadd, 1) := by decide +kernel
theorem dX7_hangs_105 : decode cX7_hangs 105 = .ok (.iastore, 1) := by decide +kernel
theorem dX7_hangs_106 : decode cX7_hangs 106 = .ok (.iconst 1, 1) := by decide +kernel
theorem dX7_hangs_107 : decode cX7_hangs 107 = .ok (.ireturn, 1) := by decide +kernel
set_option maxRecDepth 20000 in
theorem ggX7_coat_X7_isPeg : GoodIn wsX7_coat wsX7_isPeg := goodIn_r _ [6, 7, 8, 9, 5, 10] (by decide +kernel) (by decide +kernel)
set_option maxRecDepth 20000 in
theorem gX7_coat_X7_isPeg : GoodIn wsX7_coat (va_wsS RX7 389 yX7_isPeg wsX7_isPeg) := goodIn_app (goodIn_of _ (by decide +kernel)) ggX7_coat_X7_isPeg
set_option maxRecDepth 20000 in
theorem ggX7_coat_X7_refuse : GoodIn wsX7_coat wsX7_refuse := goodIn_r _ [14, 15, 22, 23, 24, 25, 26, 27, 28, 29, 30, 31, 32, 33, 34, 35, 36, 37, 38, 39, 40, 41, 42, 43, 44, 45, 46, 47, 48, 49, 50, 51, 52, 53, 54, 55, 56, 57, 58, 59, 60, 61, 62, 63, 64, 65, 66, 67, 68, 69, 70, 71, 72, 73, 74] (by decide +kernel) (by decide +kernel)
set_option maxRecDepth 20000 in
theorem gX7_coat_X7_refuse : GoodIn wsX7_coat (wsV RX7 219 RX7 yX7_refuse wsX7_refuse) := goodIn_app (goodIn_of _ (by decide +kernel)) ggX7_coat_X7_refuse
set_option maxRecDepth 20000 in
theorem ggX7_coat_X7_wrongPlace : GoodIn wsX7_coat wsX7_wrongPlace := goodIn_r _ [19, 20, 21, 8, 9, 5, 10, 22, 23, 24, 25, 26, 27, 28, 29, 30, 31, 32, 33, 34, 35, 36, 37, 38, 39, 40, 41, 42, 43, 44, 45, 46, 47, 48, 49, 50, 51, 52, 53, 54, 55, 56, 57, 58, 59, 60, 61, 62, 63, 64, 65, 66, 67, 68, 69, 70, 71, 72, 73, 74] (by decide +kernel) (by decide +kernel)
set_option maxRecDepth 20000 in
theorem gX7_coat_X7_wrongPlace : GoodIn wsX7_coat (wsV RX7 392 RX7 yX7_wrongPlace wsX7_wrongPlace) := goodIn_app (goodIn_of _ (by decide +kernel)) ggX7_coat_X7_wrongPlace
theorem dX7_coat_0 : decode cX7_coat 0 = .ok (.aload_n 0, 1) := by decide +kernel
theorem dX7_coat_1 : decode cX7_coat 1 = .ok (.iconst 0, 1) := by decide +kernel
theorem dX7_coat_2 : decode cX7_coat 2 = .ok (.putfield 114, 3) := by decide +kernel
theorem dX7_coat_5 : decode cX7_coat 5 = .ok (.iload_n 1, 1) := by decide +kernel
theorem dX7_coat_6 : decode cX7_coat 6 = .ok (.invokestatic 389, 3) := by decide +kernel
theorem dX7_coat_9 : decode cX7_coat 9 = .ok (.ifCond .ne 9, 3) := by decide +kernel
theorem dX7_coat_12 : decode cX7_coat 12 = .ok (.aload_n 0, 1) := by decide +kernel
theorem dX7_coat_13 : decode cX7_coat 13 = .ok (.iconst (-1), 1) := by decide +kernel
theorem dX7_coat_14 : decode cX7_coat 14 = .ok (.invokevirtual 219, 3) := by decide +kernel
theorem dX7_coat_17 : decode cX7_coat 17 = .ok (.ireturn, 1) := by decide +kernel
theorem dX7_coat_18 : decode cX7_coat 18 = .ok (.aload_n 0, 1) := by decide +kernel
theorem dX7_coat_19 : decode cX7_coat 19 = .ok (.iload_n 1, 1) := by decide +kernel
theorem dX7_coat_20 : decode cX7_coat 20 = .ok (.iload_n 2, 1) := by decide +kernel
theorem dX7_coat_21 : decode cX7_coat 21 = .ok (.invokevirtual 392, 3) := by decide +kernel
theorem dX7_coat_24 : decode cX7_coat 24 = .ok (.ifCond .ge 10, 3) := by decide +kernel
theorem dX7_coat_27 : decode cX7_coat 27 = .ok (.aload_n 0, 1) := by decide +kernel
theorem dX7_coat_28 : decode cX7_coat 28 = .ok (.iload_n 1, 1) := by decide +kernel
theorem dX7_coat_29 : decode cX7_coat 29 = .ok (.iload_n 2, 1) := by decide +kernel
theorem dX7_coat_30 : decode cX7_coat 30 = .ok (.invokevirtual 392, 3) := by decide +kernel
theorem dX7_coat_33 : decode cX7_coat 33 = .ok (.ireturn, 1) := by decide +kernel
theorem dX7_coat_34 : decode cX7_coat 34 = .ok (.aload_n 0, 1) := by decide +kernel
theorem dX7_coat_35 : decode cX7_coat 35 = .ok (.getfield 108, 3) := by decide +kernel
theorem dX7_coat_38 : decode cX7_coat 38 = .ok (.bipush 12, 2) := by decide +kernel
theorem dX7_coat_40 : decode cX7_coat 40 = .ok (.iload_n 1, 1) := by decide +kernel
theorem dX7_coat_41 : decode cX7_coat 41 = .ok (.imul, 1) := by decide +kernel
theorem dX7_coat_42 : decode cX7_coat 42 = .ok (.iload_n 2, 1) := by decide +kernel
theorem dX7_coat_43 : decode cX7_coat 43 = .ok (.iadd, 1) := by decide +kernel
theorem dX7_coat_44 : decode cX7_coat 44 = .ok (.iaload, 1) := by decide +kernel
theorem dX7_coat_45 : decode cX7_coat 45 = .ok (.ifCond .ge 8, 3) := by decide +kernel
theorem dX7_coat_48 : decode cX7_coat 48 = .ok (.bipush (-15), 2) := by decide +kernel
theorem dX7_coat_50 : decode cX7_coat 50 = .ok (.goto 14, 3) := by decide +kernel
theorem dX7_coat_53 : decode cX7_coat 53 = .ok (.aload_n 0, 1) := by decide +kernel
theorem dX7_coat_54 : decode cX7_coat 54 = .ok (.getfield 108, 3) := by decide +kernel
theorem dX7_coat_57 : decode cX7_coat 57 = .ok (.bipush 12, 2) := by decide +kernel
theorem dX7_coat_59 : decode cX7_coat 59 = .ok (.iload_n 1, 1) := by decide +kernel
theorem dX7_coat_60 : decode cX7_coat 60 = .ok (.imul, 1) := by decide +kernel
theorem dX7_coat_61 : decode cX7_coat 61 = .ok (.iload_n 2, 1) := by decide +kernel
theorem dX7_coat_62 : decode cX7_coat 62 = .ok (.iadd, 1) := by decide +kernel
theorem dX7_coat_63 : decode cX7_coat 63 = .ok (.iaload, 1) := by decide +kernel
theorem dX7_coat_64 : decode cX7_coat 64 = .ok (.ireturn, 1) := by decide +kernel
set_option maxRecDepth 20000 in
theorem ggX7_wears_X7_isSitter : GoodIn wsX7_wears wsX7_isSitter := goodIn_r _ [8, 9, 10, 11, 7, 12, 66, 67, 68, 69, 70, 71, 72, 73, 74, 75, 76, 77, 78, 79, 80, 81, 82, 83, 84, 85, 86, 87, 88, 89, 90, 91, 92, 93, 94, 95, 96, 97, 98, 99, 100, 101, 102, 103, 104, 105, 106, 107, 108, 109, 110, 111, 112, 113, 114, 115, 116, 117, 118] (by decide +kernel) (by decide +kernel)
set_option maxRecDepth 20000 in
theorem gX7_wears_X7_isSitter : GoodIn wsX7_wears (wsV RX7 323 RX7 yX7_isSitter wsX7_isSitter) := goodIn_app (goodIn_of _ (by decide +kernel)) ggX7_wears_X7_isSitter
set_option maxRecDepth 20000 in
theorem ggX7_wears_X7_isPeg : GoodIn wsX7_wears wsX7_isPeg := goodIn_r _ [15, 16, 10, 11, 7, 12] (by decide +kernel) (by decide +kernel)
set_option maxRecDepth 20000 in
theorem gX7_wears_X7_isPeg : GoodIn wsX7_wears (va_wsS RX7 389 yX7_isPeg wsX7_isPeg) := goodIn_app (goodIn_of _ (by decide +kernel)) ggX7_wears_X7_isPeg
set_option maxRecDepth 20000 in
theorem ggX7_wears_X7_refuse : GoodIn wsX7_wears wsX7_refuse := goodIn_r _ [20, 21, 66, 67, 68, 69, 70, 71, 72, 73, 74, 75, 76, 77, 78, 79, 80, 81, 82, 83, 84, 85, 86, 87, 88, 89, 90, 91, 92, 93, 94, 95, 96, 97, 98, 99, 100, 101, 102, 103, 104, 105, 106, 107, 108, 109, 110, 111, 112, 113, 114, 115, 116, 117, 118] (by decide +kernel) (by decide +kernel)
set_option maxRecDepth 20000 in
theorem gX7_wears_X7_refuse : GoodIn wsX7_wears (wsV RX7 219 RX7 yX7_refuse wsX7_refuse) := goodIn_app (goodIn_of _ (by decide +kernel)) ggX7_wears_X7_refuse
set_option maxRecDepth 20000 in
theorem ggX7_wears_X7_wrongPlace : GoodIn wsX7_wears wsX7_wrongPlace := goodIn_r _ [25, 26, 27, 10, 11, 7, 12, 66, 67, 68, 69, 70, 71, 72, 73, 74, 75, 76, 77, 78, 79, 80, 81, 82, 83, 84, 85, 86, 87, 88, 89, 90, 91, 92, 93, 94, 95, 96, 97, 98, 99, 100, 101, 102, 103, 104, 105, 106, 107, 108, 109, 110, 111, 112, 113, 114, 115, 116, 117, 118] (by decide +kernel) (by decide +kernel)
set_option maxRecDepth 20000 in
theorem gX7_wears_X7_wrongPlace : GoodIn wsX7_wears (wsV RX7 392 RX7 yX7_wrongPlace wsX7_wrongPlace) := goodIn_app (goodIn_of _ (by decide +kernel)) ggX7_wears_X7_wrongPlace
set_option maxRecDepth 20000 in
theorem ggX7_wears_X7_keepTurn : GoodIn wsX7_wears wsX7_keepTurn := goodIn_r _ [31, 32, 33, 34, 35, 36, 37, 38, 39, 7, 40, 41, 42, 43, 44, 9, 45, 46, 47, 48, 49, 50, 51, 52, 53, 3, 54, 55, 56, 57, 58, 59, 60, 61, 62, 66, 67, 68, 69, 70, 71, 72, 73, 74, 75, 76, 77, 78, 79, 80, 81, 82, 83, 84, 85, 86, 87, 88, 89, 90, 91, 92, 93, 94, 95, 96, 97, 98, 99, 100, 101, 102, 103, 104, 105, 106, 107, 108, 109, 110, 111, 112, 113, 114, 115, 116, 117, 118] (by decide +kernel) (by decide +kernel)
set_option maxRecDepth 20000 in
theorem gX7_wears_X7_keepTurn : GoodIn wsX7_wears (wsV RX7 338 RX7 yX7_keepTurn wsX7_keepTurn) := goodIn_app (goodIn_of _ (by decide +kernel)) ggX7_wears_X7_keepTurn
set_option maxRecDepth 20000 in
theorem ggX7_wears_X7_held : GoodIn wsX7_wears wsX7_held := goodIn_r _ [65] (by decide +kernel) (by decide +kernel)
set_option maxRecDepth 20000 in
theorem gX7_wears_X7_held : GoodIn wsX7_wears (va_wsS RX7 133 yX7_held wsX7_held) := goodIn_app (goodIn_of _ (by decide +kernel)) ggX7_wears_X7_held
theorem dX7_wears_0 : decode cX7_wears 0 = .ok (.aload_n 0, 1) := by decide +kernel
theorem dX7_wears_1 : decode cX7_wears 1 = .ok (.iconst 0, 1) := by decide +kernel
theorem dX7_wears_2 : decode cX7_wears 2 = .ok (.putfield 114, 3) := by decide +kernel
theorem dX7_wears_5 : decode cX7_wears 5 = .ok (.aload_n 0, 1) := by decide +kernel
theorem dX7_wears_6 : decode cX7_wears 6 = .ok (.iload_n 1, 1) := by decide +kernel
theorem dX7_wears_7 : decode cX7_wears 7 = .ok (.invokevirtual 323, 3) := by decide +kernel
theorem dX7_wears_10 : decode cX7_wears 10 = .ok (.ifCond .eq 10, 3) := by decide +kernel
theorem dX7_wears_13 : decode cX7_wears 13 = .ok (.iload_n 2, 1) := by decide +kernel
theorem dX7_wears_14 : decode cX7_wears 14 = .ok (.invokestatic 389, 3) := by decide +kernel
theorem dX7_wears_17 : decode cX7_wears 17 = .ok (.ifCond .ne 9, 3) := by decide +kernel
theorem dX7_wears_20 : decode cX7_wears 20 = .ok (.aload_n 0, 1) := by decide +kernel
theorem dX7_wears_21 : decode cX7_wears 21 = .ok (.iconst (-1), 1) := by decide +kernel
theorem dX7_wears_22 : decode cX7_wears 22 = .ok (.invokevirtual 219, 3) := by decide +kernel
theorem dX7_wears_25 : decode cX7_wears 25 = .ok (.ireturn, 1) := by decide +kernel
theorem dX7_wears_26 : decode cX7_wears 26 = .ok (.aload_n 0, 1) := by decide +kernel
theorem dX7_wears_27 : decode cX7_wears 27 = .ok (.iload_n 2, 1) := by decide +kernel
theorem dX7_wears_28 : decode cX7_wears 28 = .ok (.iload_n 3, 1) := by decide +kernel
theorem dX7_wears_29 : decode cX7_wears 29 = .ok (.invokevirtual 392, 3) := by decide +kernel
theorem dX7_wears_32 : decode cX7_wears 32 = .ok (.ifCond .ge 10, 3) := by decide +kernel
theorem dX7_wears_35 : decode cX7_wears 35 = .ok (.aload_n 0, 1) := by decide +kernel
theorem dX7_wears_36 : decode cX7_wears 36 = .ok (.iload_n 2, 1) := by decide +kernel
theorem dX7_wears_37 : decode cX7_wears 37 = .ok (.iload_n 3, 1) := by decide +kernel
theorem dX7_wears_38 : decode cX7_wears 38 = .ok (.invokevirtual 392, 3) := by decide +kernel
theorem dX7_wears_41 : decode cX7_wears 41 = .ok (.ireturn, 1) := by decide +kernel
theorem dX7_wears_42 : decode cX7_wears 42 = .ok (.aload_n 0, 1) := by decide +kernel
theorem dX7_wears_43 : decode cX7_wears 43 = .ok (.getfield 108, 3) := by decide +kernel
theorem dX7_wears_46 : decode cX7_wears 46 = .ok (.bipush 12, 2) := by decide +kernel
theorem dX7_wears_48 : decode cX7_wears 48 = .ok (.iload_n 2, 1) := by decide +kernel
theorem dX7_wears_49 : decode cX7_wears 49 = .ok (.imul, 1) := by decide +kernel
theorem dX7_wears_50 : decode cX7_wears 50 = .ok (.iload_n 3, 1) := by decide +kernel
theorem dX7_wears_51 : decode cX7_wears 51 = .ok (.iadd, 1) := by decide +kernel
theorem dX7_wears_52 : decode cX7_wears 52 = .ok (.iaload, 1) := by decide +kernel
theorem dX7_wears_53 : decode cX7_wears 53 = .ok (.istore 4, 2) := by decide +kernel
theorem dX7_wears_55 : decode cX7_wears 55 = .ok (.iload 4, 2) := by decide +kernel
theorem dX7_wears_57 : decode cX7_wears 57 = .ok (.ifCond .ge 6, 3) := by decide +kernel
theorem dX7_wears_60 : decode cX7_wears 60 = .ok (.bipush (-15), 2) := by decide +kernel
theorem dX7_wears_62 : decode cX7_wears 62 = .ok (.ireturn, 1) := by decide +kernel
theorem dX7_wears_63 : decode cX7_wears 63 = .ok (.aload_n 0, 1) := by decide +kernel
theorem dX7_wears_64 : decode cX7_wears 64 = .ok (.invokevirtual 338, 3) := by decide +kernel
theorem dX7_wears_67 : decode cX7_wears 67 = .ok (.aload_n 0, 1) := by decide +kernel
theorem dX7_wears_68 : decode cX7_wears 68 = .ok (.getfield 35, 3) := by decide +kernel
theorem dX7_wears_71 : decode cX7_wears 71 = .ok (.iload_n 1, 1) := by decide +kernel
theorem dX7_wears_72 : decode cX7_wears 72 = .ok (.aload_n 0, 1) := by decide +kernel
theorem dX7_wears_73 : decode cX7_wears 73 = .ok (.getfield 35, 3) := by decide +kernel
theorem dX7_wears_76 : decode cX7_wears 76 = .ok (.iload_n 1, 1) := by decide +kernel
theorem dX7_wears_77 : decode cX7_wears 77 = .ok (.iaload, 1) := by decide +kernel
theorem dX7_wears_78 : decode cX7_wears 78 = .ok (.iload 4, 2) := by decide +kernel
theorem dX7_wears_80 : decode cX7_wears 80 = .ok (.bipush 10, 2) := by decide +kernel
theorem dX7_wears_82 : decode cX7_wears 82 = .ok (.irem, 1) := by decide +kernel
theorem dX7_wears_83 : decode cX7_wears 83 = .ok (.iload 4, 2) := by decide +kernel
theorem dX7_wears_85 : decode cX7_wears 85 = .ok (.bipush 10, 2) := by decide +kernel
theorem dX7_wears_87 : decode cX7_wears 87 = .ok (.idiv, 1) := by decide +kernel
theorem dX7_wears_88 : decode cX7_wears 88 = .ok (.imul, 1) := by decide +kernel
theorem dX7_wears_89 : decode cX7_wears 89 = .ok (.iadd, 1) := by decide +kernel
theorem dX7_wears_90 : decode cX7_wears 90 = .ok (.bipush 9, 2) := by decide +kernel
theorem dX7_wears_92 : decode cX7_wears 92 = .ok (.invokestatic 133, 3) := by decide +kernel
theorem dX7_wears_95 : decode cX7_wears 95 = .ok (.iastore, 1) := by decide +kernel
theorem dX7_wears_96 : decode cX7_wears 96 = .ok (.aload_n 0, 1) := by decide +kernel
theorem dX7_wears_97 : decode cX7_wears 97 = .ok (.getfield 108, 3) := by decide +kernel
theorem dX7_wears_100 : decode cX7_wears 100 = .ok (.bipush 12, 2) := by decide +kernel
theorem dX7_wears_102 : decode cX7_wears 102 = .ok (.iload_n 2, 1) := by decide +kernel
theorem dX7_wears_103 : decode cX7_wears 103 = .ok (.imul, 1) := by decide +kernel
theorem dX7_wears_104 : decode cX7_wears 104 = .ok (.iload_n 3, 1) := by decide +kernel
theorem dX7_wears_105 : decode cX7_wears 105 = .ok (.iadd, 1) := by decide +kernel
theorem dX7_wears_106 : decode cX7_wears 106 = .ok (.iconst (-1), 1) := by decide +kernel
theorem dX7_wears_107 : decode cX7_wears 107 = .ok (.iastore, 1) := by decide +kernel
theorem dX7_wears_108 : decode cX7_wears 108 = .ok (.aload_n 0, 1) := by decide +kernel
theorem dX7_wears_109 : decode cX7_wears 109 = .ok (.getfield 35, 3) := by decide +kernel
theorem dX7_wears_112 : decode cX7_wears 112 = .ok (.iload_n 1, 1) := by decide +kernel
theorem dX7_wears_113 : decode cX7_wears 113 = .ok (.iaload, 1) := by decide +kernel
theorem dX7_wears_114 : decode cX7_wears 114 = .ok (.ireturn, 1) := by decide +kernel
set_option maxRecDepth 20000 in
theorem ggX7_moves_X7_isPeg : GoodIn wsX7_moves wsX7_isPeg := goodIn_r _ [9, 10, 11, 12, 8, 13] (by decide +kernel) (by decide +kernel)
set_option maxRecDepth 20000 in
theorem gX7_moves_X7_isPeg : GoodIn wsX7_moves (va_wsS RX7 389 yX7_isPeg wsX7_isPeg) := goodIn_app (goodIn_of _ (by decide +kernel)) ggX7_moves_X7_isPeg
set_option maxRecDepth 20000 in
theorem ggX7_moves_X7_refuse : GoodIn wsX7_moves wsX7_refuse := goodIn_r _ [17, 18, 24, 25, 26, 27, 28, 29, 30, 31, 32, 33, 34, 35, 36, 37, 38, 39, 40, 41, 42, 43, 44, 45, 46, 47, 48, 49, 50, 51, 52, 53, 54, 55, 56, 57, 58, 59, 60, 61, 62, 63, 64, 65, 66, 67, 68, 69, 70, 71, 72, 73, 74, 75, 76] (by decide +kernel) (by decide +kernel)
set_option maxRecDepth 20000 in
theorem gX7_moves_X7_refuse : GoodIn wsX7_moves (wsV RX7 219 RX7 yX7_refuse wsX7_refuse) := goodIn_app (goodIn_of _ (by decide +kernel)) ggX7_moves_X7_refuse
set_option maxRecDepth 20000 in
theorem ggX7_moves_X7_takes : GoodIn wsX7_moves wsX7_takes := goodIn_r _ [22, 23, 24, 25, 26, 27, 28, 29, 30, 31, 32, 33, 34, 35, 36, 37, 38, 39, 40, 41, 42, 43, 44, 45, 46, 47, 48, 49, 50, 51, 52, 53, 54, 55, 56, 57, 58, 59, 60, 61, 62, 63, 64, 65, 66, 67, 68, 69, 70, 71, 72, 73, 74, 75, 76] (by decide +kernel) (by decide +kernel)
set_option maxRecDepth 20000 in
theorem gX7_moves_X7_takes : GoodIn wsX7_moves (wsV RX7 395 RX7 yX7_takes wsX7_takes) := goodIn_app (goodIn_of _ (by decide +kernel)) ggX7_moves_X7_takes
theorem dX7_moves_0 : decode cX7_moves 0 = .ok (.aload_n 0, 1) := by decide +kernel
theorem dX7_moves_1 : decode cX7_moves 1 = .ok (.iconst 0, 1) := by decide +kernel
theorem dX7_moves_2 : decode cX7_moves 2 = .ok (.putfield 114, 3) := by decide +kernel
theorem dX7_moves_5 : decode cX7_moves 5 = .ok (.iload_n 1, 1) := by decide +kernel
theorem dX7_moves_6 : decode cX7_moves 6 = .ok (.invokestatic 389, 3) := by decide +kernel
theorem dX7_moves_9 : decode cX7_moves 9 = .ok (.ifCond .eq 10, 3) := by decide +kernel
theorem dX7_moves_12 : decode cX7_moves 12 = .ok (.iload_n 3, 1) := by decide +kernel
theorem dX7_moves_13 : decode cX7_moves 13 = .ok (.invokestatic 389, 3) := by decide +kernel
theorem dX7_moves_16 : decode cX7_moves 16 = .ok (.ifCond .ne 9, 3) := by decide +kernel
theorem dX7_moves_19 : decode cX7_moves 19 = .ok (.aload_n 0, 1) := by decide +kernel
theorem dX7_moves_20 : decode cX7_moves 20 = .ok (.iconst (-1), 1) := by decide +kernel
theorem dX7_moves_21 : decode cX7_moves 21 = .ok (.invokevirtual 219, 3) := by decide +kernel
theorem dX7_moves_24 : decode cX7_moves 24 = .ok (.ireturn, 1) := by decide +kernel
theorem dX7_moves_25 : decode cX7_moves 25 = .ok (.aload_n 0, 1) := by decide +kernel
theorem dX7_moves_26 : decode cX7_moves 26 = .ok (.getfield 104, 3) := by decide +kernel
theorem dX7_moves_29 : decode cX7_moves 29 = .ok (.iload_n 1, 1) := by decide +kernel
theorem dX7_moves_30 : decode cX7_moves 30 = .ok (.baload, 1) := by decide +kernel
theorem dX7_moves_31 : decode cX7_moves 31 = .ok (.ifCond .eq 12, 3) := by decide +kernel
theorem dX7_moves_34 : decode cX7_moves 34 = .ok (.aload_n 0, 1) := by decide +kernel
theorem dX7_moves_35 : decode cX7_moves 35 = .ok (.getfield 104, 3) := by decide +kernel
theorem dX7_moves_38 : decode cX7_moves 38 = .ok (.iload_n 3, 1) := by decide +kernel
theorem dX7_moves_39 : decode cX7_moves 39 = .ok (.baload, 1) := by decide +kernel
theorem dX7_moves_40 : decode cX7_moves 40 = .ok (.ifCond .ne 6, 3) := by decide +kernel
theorem dX7_moves_43 : decode cX7_moves 43 = .ok (.bipush (-11), 2) := by decide +kernel
theorem dX7_moves_45 : decode cX7_moves 45 = .ok (.ireturn, 1) := by decide +kernel
theorem dX7_moves_46 : decode cX7_moves 46 = .ok (.iload 5, 2) := by decide +kernel
theorem dX7_moves_48 : decode cX7_moves 48 = .ok (.ifCond .lt 47, 3) := by decide +kernel
theorem dX7_moves_51 : decode cX7_moves 51 = .ok (.iload_n 2, 1) := by decide +kernel
theorem dX7_moves_52 : decode cX7_moves 52 = .ok (.ifCond .lt 43, 3) := by decide +kernel
theorem dX7_moves_55 : decode cX7_moves 55 = .ok (.iload 4, 2) := by decide +kernel
theorem dX7_moves_57 : decode cX7_moves 57 = .ok (.ifCond .lt 38, 3) := by decide +kernel
theorem dX7_moves_60 : decode cX7_moves 60 = .ok (.iload_n 2, 1) := by decide +kernel
theorem dX7_moves_61 : decode cX7_moves 61 = .ok (.i2l, 1) := by decide +kernel
theorem dX7_moves_62 : decode cX7_moves 62 = .ok (.iload 5, 2) := by decide +kernel
theorem dX7_moves_64 : decode cX7_moves 64 = .ok (.i2l, 1) := by decide +kernel
theorem dX7_moves_65 : decode cX7_moves 65 = .ok (.ladd, 1) := by decide +kernel
theorem dX7_moves_66 : decode cX7_moves 66 = .ok (.aload_n 0, 1) := by decide +kernel
theorem dX7_moves_67 : decode cX7_moves 67 = .ok (.getfield 101, 3) := by decide +kernel
theorem dX7_moves_70 : decode cX7_moves 70 = .ok (.iload_n 1, 1) := by decide +kernel
theorem dX7_moves_71 : decode cX7_moves 71 = .ok (.iaload, 1) := by decide +kernel
theorem dX7_moves_72 : decode cX7_moves 72 = .ok (.i2l, 1) := by decide +kernel
theorem dX7_moves_73 : decode cX7_moves 73 = .ok (.lcmp, 1) := by decide +kernel
theorem dX7_moves_74 : decode cX7_moves 74 = .ok (.ifCond .gt 21, 3) := by decide +kernel
theorem dX7_moves_77 : decode cX7_moves 77 = .ok (.iload 4, 2) := by decide +kernel
theorem dX7_moves_79 : decode cX7_moves 79 = .ok (.i2l, 1) := by decide +kernel
theorem dX7_moves_80 : decode cX7_moves 80 = .ok (.iload 5, 2) := by decide +kernel
theorem dX7_moves_82 : decode cX7_moves 82 = .ok (.i2l, 1) := by decide +kernel
theorem dX7_moves_83 : decode cX7_moves 83 = .ok (.ladd, 1) := by decide +kernel
theorem dX7_moves_84 : decode cX7_moves 84 = .ok (.aload_n 0, 1) := by decide +kernel
theorem dX7_moves_85 : decode cX7_moves 85 = .ok (.getfield 101, 3) := by decide +kernel
theorem dX7_moves_88 : decode cX7_moves 88 = .ok (.iload_n 3, 1) := by decide +kernel
theorem dX7_moves_89 : decode cX7_moves 89 = .ok (.iaload, 1) := by decide +kernel
theorem dX7_moves_90 : decode cX7_moves 90 = .ok (.i2l, 1) := by decide +kernel
theorem dX7_moves_91 : decode cX7_moves 91 = .ok (.lcmp, 1) := by decide +kernel
theorem dX7_moves_92 : decode cX7_moves 92 = .ok (.ifCond .le 6, 3) := by decide +kernel
theorem dX7_moves_95 : decode cX7_moves 95 = .ok (.bipush (-13), 2) := by decide +kernel
theorem dX7_moves_97 : decode cX7_moves 97 = .ok (.ireturn, 1) := by decide +kernel
theorem dX7_moves_98 : decode cX7_moves 98 = .ok (.iconst 0, 1) := by decide +kernel
theorem dX7_moves_99 : decode cX7_moves 99 = .ok (.istore 6, 2) := by decide +kernel
theorem dX7_moves_101 : decode cX7_moves 101 = .ok (.iload 6, 2) := by decide +kernel
theorem dX7_moves_103 : decode cX7_moves 103 = .ok (.iload 5, 2) := by decide +kernel
theorem dX7_moves_105 : decode cX7_moves 105 = .ok (.if_icmp .ge 30, 3) := by decide +kernel
theorem dX7_moves_108 : decode cX7_moves 108 = .ok (.aload_n 0, 1) := by decide +kernel
theorem dX7_moves_109 : decode cX7_moves 109 = .ok (.getfield 111, 3) := by decide +kernel
theorem dX7_moves_112 : decode cX7_moves 112 = .ok (.iload 6, 2) := by decide +kernel
theorem dX7_moves_114 : decode cX7_moves 114 = .ok (.aload_n 0, 1) := by decide +kernel
theorem dX7_moves_115 : decode cX7_moves 115 = .ok (.getfield 108, 3) := by decide +kernel
theorem dX7_moves_118 : decode cX7_moves 118 = .ok (.bipush 12, 2) := by decide +kernel
theorem dX7_moves_120 : decode cX7_moves 120 = .ok (.iload_n 1, 1) := by decide +kernel
theorem dX7_moves_121 : decode cX7_moves 121 = .ok (.imul, 1) := by decide +kernel
theorem dX7_moves_122 : decode cX7_moves 122 = .ok (.iload_n 2, 1) := by decide +kernel
theorem dX7_moves_123 : decode cX7_moves 123 = .ok (.iadd, 1) := by decide +kernel
theorem dX7_moves_124 : decode cX7_moves 124 = .ok (.iload 6, 2) := by decide +kernel
theorem dX7_moves_126 : decode cX7_moves 126 = .ok (.iadd, 1) := by decide +kernel
theorem dX7_moves_127 : decode cX7_moves 127 = .ok (.iaload, 1) := by decide +kernel
theorem dX7_moves_128 : decode cX7_moves 128 = .ok (.iastore, 1) := by decide +kernel
theorem dX7_moves_129 : decode cX7_moves 129 = .ok (.iinc 6 1, 3) := by decide +kernel
theorem dX7_moves_132 : decode cX7_moves 132 = .ok (.goto (-31), 3) := by decide +kernel
theorem dX7_moves_135 : decode cX7_moves 135 = .ok (.iconst 0, 1) := by decide +kernel
theorem dX7_moves_136 : decode cX7_moves 136 = .ok (.istore 6, 2) := by decide +kernel
theorem dX7_moves_138 : decode cX7_moves 138 = .ok (.iload 6, 2) := by decide +kernel
theorem dX7_moves_140 : decode cX7_moves 140 = .ok (.iload 5, 2) := by decide +kernel
theorem dX7_moves_142 : decode cX7_moves 142 = .ok (.if_icmp .ge 49, 3) := by decide +kernel
theorem dX7_moves_145 : decode cX7_moves 145 = .ok (.aload_n 0, 1) := by decide +kernel
theorem dX7_moves_146 : decode cX7_moves 146 = .ok (.iload_n 3, 1) := by decide +kernel
theorem dX7_moves_147 : decode cX7_moves 147 = .ok (.aload_n 0, 1) := by decide +kernel
theorem dX7_moves_148 : decode cX7_moves 148 = .ok (.getfield 111, 3) := by decide +kernel
theorem dX7_moves_151 : decode cX7_moves 151 = .ok (.iload 6, 2) := by decide +kernel
theorem dX7_moves_153 : decode cX7_moves 153 = .ok (.iaload, 1) := by decide +kernel
theorem dX7_moves_154 : decode cX7_moves 154 = .ok (.invokevirtual 395, 3) := by decide +kernel
theorem dX7_moves_157 : decode cX7_moves 157 = .ok (.ifCond .ne 6, 3) := by decide +kernel
theorem dX7_moves_160 : decode cX7_moves 160 = .ok (.bipush (-12), 2) := by decide +kernel
theorem dX7_moves_162 : decode cX7_moves 162 = .ok (.ireturn, 1) := by decide +kernel
theorem dX7_moves_163 : decode cX7_moves 163 = .ok (.aload_n 0, 1) := by decide +kernel
theorem dX7_moves_164 : decode cX7_moves 164 = .ok (.getfield 108, 3) := by decide +kernel
theorem dX7_moves_167 : decode cX7_moves 167 = .ok (.bipush 12, 2) := by decide +kernel
theorem dX7_moves_169 : decode cX7_moves 169 = .ok (.iload_n 3, 1) := by decide +kernel
theorem dX7_moves_170 : decode cX7_moves 170 = .ok (.imul, 1) := by decide +kernel
theorem dX7_moves_171 : decode cX7_moves 171 = .ok (.iload 4, 2) := by decide +kernel
theorem dX7_moves_173 : decode cX7_moves 173 = .ok (.iadd, 1) := by decide +kernel
theorem dX7_moves_174 : decode cX7_moves 174 = .ok (.iload 6, 2) := by decide +kernel
theorem dX7_moves_176 : decode cX7_moves 176 = .ok (.iadd, 1) := by decide +kernel
theorem dX7_moves_177 : decode cX7_moves 177 = .ok (.aload_n 0, 1) := by decide +kernel
theorem dX7_moves_178 : decode cX7_moves 178 = .ok (.getfield 111, 3) := by decide +kernel
theorem dX7_moves_181 : decode cX7_moves 181 = .ok (.iload 6, 2) := by decide +kernel
theorem dX7_moves_183 : decode cX7_moves 183 = .ok (.iaload, 1) := by decide +kernel
theorem dX7_moves_184 : decode cX7_moves 184 = .ok (.iastore, 1) := by decide +kernel
theorem dX7_moves_185 : decode cX7_moves 185 = .ok (.iinc 6 1, 3) := by decide +kernel
theorem dX7_moves_188 : decode cX7_moves 188 = .ok (.goto (-50), 3) := by decide +kernel
theorem dX7_moves_191 : decode cX7_moves 191 = .ok (.iload 5, 2) := by decide +kernel
theorem dX7_moves_193 : decode cX7_moves 193 = .ok (.ireturn, 1) := by decide +kernel
set_option maxRecDepth 20000 in
theorem ggX7_row_X7_wrongNumber : GoodIn wsX7_row wsX7_wrongNumber := goodIn_r _ [7] (by decide +kernel) (by decide +kernel)
set_option maxRecDepth 20000 in
theorem gX7_row_X7_wrongNumber : GoodIn wsX7_row (va_wsS RX7 347 yX7_wrongNumber wsX7_wrongNumber) := goodIn_app (goodIn_of _ (by decide +kernel)) ggX7_row_X7_wrongNumber
set_option maxRecDepth 20000 in
theorem ggX7_row_X7_refuse : GoodIn wsX7_row wsX7_refuse := goodIn_r _ [11, 12, 13, 14, 15, 16, 17, 18, 19, 20, 21, 22, 23, 24, 25, 26, 27, 28, 29, 30, 31, 32, 33, 34, 35, 36, 37, 38, 39, 40, 41, 42, 43, 44, 45, 46, 47, 48, 49, 50, 51, 52, 53, 54, 55, 56, 57, 58, 59, 60, 61, 62, 63, 64, 65] (by decide +kernel) (by decide +kernel)
set_option maxRecDepth 20000 in
theorem gX7_row_X7_refuse : GoodIn wsX7_row (wsV RX7 219 RX7 yX7_refuse wsX7_refuse) := goodIn_app (goodIn_of _ (by decide +kernel)) ggX7_row_X7_refuse
theorem dX7_row_0 : decode cX7_row 0 = .ok (.aload_n 0, 1) := by decide +kernel
theorem dX7_row_1 : decode cX7_row 1 = .ok (.iconst 0, 1) := by decide +kernel
theorem dX7_row_2 : decode cX7_row 2 = .ok (.putfield 114, 3) := by decide +kernel
theorem dX7_row_5 : decode cX7_row 5 = .ok (.iload_n 1, 1) := by decide +kernel
theorem dX7_row_6 : decode cX7_row 6 = .ok (.iconst 0, 1) := by decide +kernel
theorem dX7_row_7 : decode cX7_row 7 = .ok (.bipush 99, 2) := by decide +kernel
theorem dX7_row_9 : decode cX7_row 9 = .ok (.invokestatic 347, 3) := by decide +kernel
theorem dX7_row_12 : decode cX7_row 12 = .ok (.istore_n 2, 1) := by decide +kernel
theorem dX7_row_13 : decode cX7_row 13 = .ok (.iload_n 2, 1) := by decide +kernel
theorem dX7_row_14 : decode cX7_row 14 = .ok (.ifCond .ne 17, 3) := by decide +kernel
theorem dX7_row_17 : decode cX7_row 17 = .ok (.aload_n 0, 1) := by decide +kernel
theorem dX7_row_18 : decode cX7_row 18 = .ok (.getfield 366, 3) := by decide +kernel
theorem dX7_row_21 : decode cX7_row 21 = .ok (.bipush 12, 2) := by decide +kernel
theorem dX7_row_23 : decode cX7_row 23 = .ok (.if_icmp .ne 8, 3) := by decide +kernel
theorem dX7_row_26 : decode cX7_row 26 = .ok (.bipush (-6), 2) := by decide +kernel
theorem dX7_row_28 : decode cX7_row 28 = .ok (.goto 4, 3) := by decide +kernel
theorem dX7_row_31 : decode cX7_row 31 = .ok (.iload_n 2, 1) := by decide +kernel
theorem dX7_row_32 : decode cX7_row 32 = .ok (.istore_n 2, 1) := by decide +kernel
theorem dX7_row_33 : decode cX7_row 33 = .ok (.iload_n 2, 1) := by decide +kernel
theorem dX7_row_34 : decode cX7_row 34 = .ok (.ifCond .ge 9, 3) := by decide +kernel
theorem dX7_row_37 : decode cX7_row 37 = .ok (.aload_n 0, 1) := by decide +kernel
theorem dX7_row_38 : decode cX7_row 38 = .ok (.iload_n 2, 1) := by decide +kernel
theorem dX7_row_39 : decode cX7_row 39 = .ok (.invokevirtual 219, 3) := by decide +kernel
theorem dX7_row_42 : decode cX7_row 42 = .ok (.ireturn, 1) := by decide +kernel
theorem dX7_row_43 : decode cX7_row 43 = .ok (.aload_n 0, 1) := by decide +kernel
theorem dX7_row_44 : decode cX7_row 44 = .ok (.getfield 92, 3) := by decide +kernel
theorem dX7_row_47 : decode cX7_row 47 = .ok (.aload_n 0, 1) := by decide +kernel
theorem dX7_row_48 : decode cX7_row 48 = .ok (.getfield 366, 3) := by decide +kernel
theorem dX7_row_51 : decode cX7_row 51 = .ok (.iload_n 1, 1) := by decide +kernel
theorem dX7_row_52 : decode cX7_row 52 = .ok (.iastore, 1) := by decide +kernel
theorem dX7_row_53 : decode cX7_row 53 = .ok (.aload_n 0, 1) := by decide +kernel
theorem dX7_row_54 : decode cX7_row 54 = .ok (.dup, 1) := by decide +kernel
theorem dX7_row_55 : decode cX7_row 55 = .ok (.getfield 366, 3) := by decide +kernel
theorem dX7_row_58 : decode cX7_row 58 = .ok (.iconst 1, 1) := by decide +kernel
theorem dX7_row_59 : decode cX7_row 59 = .ok (.iadd, 1) := by decide +kernel
theorem dX7_row_60 : decode cX7_row 60 = .ok (.putfield 366, 3) := by decide +kernel
theorem dX7_row_63 : decode cX7_row 63 = .ok (.aload_n 0, 1) := by decide +kernel
theorem dX7_row_64 : decode cX7_row 64 = .ok (.getfield 366, 3) := by decide +kernel
theorem dX7_row_67 : decode cX7_row 67 = .ok (.ireturn, 1) := by decide +kernel
theorem dX7_judge_0 : decode cX7_judge 0 = .ok (.aload_n 0, 1) := by decide +kernel
theorem dX7_judge_1 : decode cX7_judge 1 = .ok (.iconst 0, 1) := by decide +kernel
theorem dX7_judge_2 : decode cX7_judge 2 = .ok (.putfield 114, 3) := by decide +kernel
theorem dX7_judge_5 : decode cX7_judge 5 = .ok (.bipush (-9), 2) := by decide +kernel
theorem dX7_judge_7 : decode cX7_judge 7 = .ok (.istore_n 1, 1) := by decide +kernel
theorem dX7_judge_8 : decode cX7_judge 8 = .ok (.aload_n 0, 1) := by decide +kernel
theorem dX7_judge_9 : decode cX7_judge 9 = .ok (.getfield 366, 3) := by decide +kernel
theorem dX7_judge_12 : decode cX7_judge 12 = .ok (.iconst 1, 1) := by decide +kernel
theorem dX7_judge_13 : decode cX7_judge 13 = .ok (.isub, 1) := by decide +kernel
theorem dX7_judge_14 : decode cX7_judge 14 = .ok (.istore_n 2, 1) := by decide +kernel
theorem dX7_judge_15 : decode cX7_judge 15 = .ok (.iload_n 2, 1) := by decide +kernel
theorem dX7_judge_16 : decode cX7_judge 16 = .ok (.ifCond .lt 59, 3) := by decide +kernel
theorem dX7_judge_19 : decode cX7_judge 19 = .ok (.iload_n 2, 1) := by decide +kernel
theorem dX7_judge_20 : decode cX7_judge 20 = .ok (.aload_n 0, 1) := by decide +kernel
theorem dX7_judge_21 : decode cX7_judge 21 = .ok (.getfield 126, 3) := by decide +kernel
theorem dX7_judge_24 : decode cX7_judge 24 = .ok (.if_icmp .lt 7, 3) := by decide +kernel
theorem dX7_judge_27 : decode cX7_judge 27 = .ok (.iconst (-1), 1) := by decide +kernel
theorem dX7_judge_28 : decode cX7_judge 28 = .ok (.goto 24, 3) := by decide +kernel
theorem dX7_judge_31 : decode cX7_judge 31 = .ok (.aload_n 0, 1) := by decide +kernel
theorem dX7_judge_32 : decode cX7_judge 32 = .ok (.getfield 38, 3) := by decide +kernel
theorem dX7_judge_35 : decode cX7_judge 35 = .ok (.iload_n 2, 1) := by decide +kernel
theorem dX7_judge_36 : decode cX7_judge 36 = .ok (.iaload, 1) := by decide +kernel
theorem dX7_judge_37 : decode cX7_judge 37 = .ok (.iconst 1, 1) := by decide +kernel
theorem dX7_judge_38 : decode cX7_judge 38 = .ok (.if_icmp .ne 12, 3) := by decide +kernel
theorem dX7_judge_41 : decode cX7_judge 41 = .ok (.aload_n 0, 1) := by decide +kernel
theorem dX7_judge_42 : decode cX7_judge 42 = .ok (.getfield 32, 3) := by decide +kernel
theorem dX7_judge_45 : decode cX7_judge 45 = .ok (.iload_n 2, 1) := by decide +kernel
theorem dX7_judge_46 : decode cX7_judge 46 = .ok (.iaload, 1) := by decide +kernel
theorem dX7_judge_47 : decode cX7_judge 47 = .ok (.goto 5, 3) := by decide +kernel
theorem dX7_judge_50 : decode cX7_judge 50 = .ok (.bipush 36, 2) := by decide +kernel
theorem dX7_judge_52 : decode cX7_judge 52 = .ok (.istore_n 3, 1) := by decide +kernel
theorem dX7_judge_53 : decode cX7_judge 53 = .ok (.aload_n 0, 1) := by decide +kernel
theorem dX7_judge_54 : decode cX7_judge 54 = .ok (.getfield 92, 3) := by decide +kernel
theorem dX7_judge_57 : decode cX7_judge 57 = .ok (.iload_n 2, 1) := by decide +kernel
theorem dX7_judge_58 : decode cX7_judge 58 = .ok (.iaload, 1) := by decide +kernel
theorem dX7_judge_59 : decode cX7_judge 59 = .ok (.iload_n 3, 1) := by decide +kernel
theorem dX7_judge_60 : decode cX7_judge 60 = .ok (.if_icmp .eq 7, 3) := by decide +kernel
theorem dX7_judge_63 : decode cX7_judge 63 = .ok (.iload_n 2, 1) := by decide +kernel
theorem dX7_judge_64 : decode cX7_judge 64 = .ok (.goto 4, 3) := by decide +kernel
theorem dX7_judge_67 : decode cX7_judge 67 = .ok (.iload_n 1, 1) := by decide +kernel
theorem dX7_judge_68 : decode cX7_judge 68 = .ok (.istore_n 1, 1) := by decide +kernel
theorem dX7_judge_69 : decode cX7_judge 69 = .ok (.iinc 2 (-1), 3) := by decide +kernel
theorem dX7_judge_72 : decode cX7_judge 72 = .ok (.goto (-57), 3) := by decide +kernel
theorem dX7_judge_75 : decode cX7_judge 75 = .ok (.aload_n 0, 1) := by decide +kernel
theorem dX7_judge_76 : decode cX7_judge 76 = .ok (.iconst 0, 1) := by decide +kernel
theorem dX7_judge_77 : decode cX7_judge 77 = .ok (.putfield 366, 3) := by decide +kernel
theorem dX7_judge_80 : decode cX7_judge 80 = .ok (.iload_n 1, 1) := by decide +kernel
theorem dX7_judge_81 : decode cX7_judge 81 = .ok (.ireturn, 1) := by decide +kernel
theorem dX7_clear_0 : decode cX7_clear 0 = .ok (.aload_n 0, 1) := by decide +kernel
theorem dX7_clear_1 : decode cX7_clear 1 = .ok (.iconst 0, 1) := by decide +kernel
theorem dX7_clear_2 : decode cX7_clear 2 = .ok (.putfield 114, 3) := by decide +kernel
theorem dX7_clear_5 : decode cX7_clear 5 = .ok (.aload_n 0, 1) := by decide +kernel
theorem dX7_clear_6 : decode cX7_clear 6 = .ok (.getfield 366, 3) := by decide +kernel
theorem dX7_clear_9 : decode cX7_clear 9 = .ok (.istore_n 1, 1) := by decide +kernel
theorem dX7_clear_10 : decode cX7_clear 10 = .ok (.aload_n 0, 1) := by decide +kernel
theorem dX7_clear_11 : decode cX7_clear 11 = .ok (.iconst 0, 1) := by decide +kernel
theorem dX7_clear_12 : decode cX7_clear 12 = .ok (.putfield 366, 3) := by decide +kernel
theorem dX7_clear_15 : decode cX7_clear 15 = .ok (.iload_n 1, 1) := by decide +kernel
theorem dX7_clear_16 : decode cX7_clear 16 = .ok (.ireturn, 1) := by decide +kernel
theorem dX7_drawBelow_0 : decode cX7_drawBelow 0 = .ok (.aload_n 0, 1) := by decide +kernel
theorem dX7_drawBelow_1 : decode cX7_drawBelow 1 = .ok (.aload_n 0, 1) := by decide +kernel
theorem dX7_drawBelow_2 : decode cX7_drawBelow 2 = .ok (.getfield 398, 3) := by decide +kernel
theorem dX7_drawBelow_5 : decode cX7_drawBelow 5 = .ok (.ldc_w 401, 3) := by decide +kernel
theorem dX7_drawBelow_8 : decode cX7_drawBelow 8 = .ok (.imul, 1) := by decide +kernel
theorem dX7_drawBelow_9 : decode cX7_drawBelow 9 = .ok (.sipush 12345, 3) := by decide +kernel
theorem dX7_drawBelow_12 : decode cX7_drawBelow 12 = .ok (.iadd, 1) := by decide +kernel
theorem dX7_drawBelow_13 : decode cX7_drawBelow 13 = .ok (.putfield 398, 3) := by decide +kernel
theorem dX7_drawBelow_16 : decode cX7_drawBelow 16 = .ok (.aload_n 0, 1) := by decide +kernel
theorem dX7_drawBelow_17 : decode cX7_drawBelow 17 = .ok (.getfield 398, 3) := by decide +kernel
theorem dX7_drawBelow_20 : decode cX7_drawBelow 20 = .ok (.ldc_w 402, 3) := by decide +kernel
theorem dX7_drawBelow_23 : decode cX7_drawBelow 23 = .ok (.iand, 1) := by decide +kernel
theorem dX7_drawBelow_24 : decode cX7_drawBelow 24 = .ok (.ldc_w 403, 3) := by decide +kernel
theorem dX7_drawBelow_27 : decode cX7_drawBelow 27 = .ok (.idiv, 1) := by decide +kernel
theorem dX7_drawBelow_28 : decode cX7_drawBelow 28 = .ok (.iload_n 1, 1) := by decide +kernel
theorem dX7_drawBelow_29 : decode cX7_drawBelow 29 = .ok (.irem, 1) := by decide +kernel
theorem dX7_drawBelow_30 : decode cX7_drawBelow 30 = .ok (.ireturn, 1) := by decide +kernel
set_option maxRecDepth 20000 in
theorem ggX7_lots_X7_wrongNumber : GoodIn wsX7_lots wsX7_wrongNumber := goodIn_r _ [9] (by decide +kernel) (by decide +kernel)
set_option maxRecDepth 20000 in
theorem gX7_lots_X7_wrongNumber : GoodIn wsX7_lots (va_wsS RX7 347 yX7_wrongNumber wsX7_wrongNumber) := goodIn_app (goodIn_of _ (by decide +kernel)) ggX7_lots_X7_wrongNumber
set_option maxRecDepth 20000 in
theorem ggX7_lots_X7_in : GoodIn wsX7_lots wsX7_in := goodIn_r _ [12] (by decide +kernel) (by decide +kernel)
set_option maxRecDepth 20000 in
theorem gX7_lots_X7_in : GoodIn wsX7_lots (va_wsS RX7 122 yX7_in wsX7_in) := goodIn_app (goodIn_of _ (by decide +kernel)) ggX7_lots_X7_in
set_option maxRecDepth 20000 in
theorem ggX7_lots_X7_refuse : GoodIn wsX7_lots wsX7_refuse := goodIn_r _ [16, 17, 146, 147, 148, 149, 150, 151, 152, 153, 154, 155, 156, 157, 158, 159, 160, 161, 162, 163, 164, 165, 166, 167, 168, 169, 170, 171, 172, 173, 174, 175, 176, 177, 178, 179, 180, 181, 182, 183, 184, 185, 186, 187, 188, 189, 190, 191, 192, 193, 194, 195, 196, 197, 198] (by decide +kernel) (by decide +kernel)
set_option maxRecDepth 20000 in
theorem gX7_lots_X7_refuse : GoodIn wsX7_lots (wsV RX7 219 RX7 yX7_refuse wsX7_refuse) := goodIn_app (goodIn_of _ (by decide +kernel)) ggX7_lots_X7_refuse
set_option maxRecDepth 20000 in
theorem ggX7_lots_X7_think : GoodIn wsX7_lots wsX7_think := goodIn_r _ [21, 22, 23, 24, 25, 26, 8, 27, 28, 29, 30, 4, 31, 32, 33, 3, 34, 35, 36, 5, 37, 38, 39, 40, 41, 42, 43, 44, 45, 46, 47, 48, 146, 147, 148, 149, 150, 151, 152, 153, 154, 155, 156, 157, 158, 159, 160, 161, 162, 163, 164, 165, 166, 167, 168, 169, 170, 171, 172, 173, 174, 175, 176, 177, 178, 179, 180, 181, 182, 183, 184, 185, 186, 187, 188, 189, 190, 191, 192, 193, 194, 195, 196, 197, 198] (by decide +kernel) (by decide +kernel)
set_option maxRecDepth 20000 in
theorem gX7_lots_X7_think : GoodIn wsX7_lots (wsV RX7 289 RX7 yX7_think wsX7_think) := goodIn_app (goodIn_of _ (by decide +kernel)) ggX7_lots_X7_think
set_option maxRecDepth 20000 in
theorem ggX7_lots_X7_drawBelow : GoodIn wsX7_lots wsX7_drawBelow := goodIn_r _ [52, 2, 53, 54, 55, 146, 147, 148, 149, 150, 151, 152, 153, 154, 155, 156, 157, 158, 159, 160, 161, 162, 163, 164, 165, 166, 167, 168, 169, 170, 171, 172, 173, 174, 175, 176, 177, 178, 179, 180, 181, 182, 183, 184, 185, 186, 187, 188, 189, 190, 191, 192, 193, 194, 195, 196, 197, 198] (by decide +kernel) (by decide +kernel)
set_option maxRecDepth 20000 in
theorem gX7_lots_X7_drawBelow : GoodIn wsX7_lots (wsV RX7 404 RX7 yX7_drawBelow wsX7_drawBelow) := goodIn_app (goodIn_of _ (by decide +kernel)) ggX7_lots_X7_drawBelow
set_option maxRecDepth 20000 in
theorem ggX7_lots_X7_goTurns : GoodIn wsX7_lots wsX7_goTurns := goodIn_r _ [59, 60, 61, 62, 8, 63, 33, 44, 32, 41, 42, 4, 64, 31, 40, 38, 39, 65, 66, 67, 68, 69, 70, 71, 72, 73, 74, 75, 76, 77, 78, 79, 36, 37, 80, 81, 82, 83, 35, 34, 84, 85, 86, 87, 88, 89, 90, 5, 3, 91, 92, 93, 94, 95, 96, 97, 10, 11, 12, 98, 99, 100, 101, 102, 103, 104, 105, 43, 106, 107, 108, 109, 110, 111, 112, 113, 114, 115, 116, 117, 118, 119, 120, 121, 122, 123, 124, 125, 126, 127, 128, 129, 130, 131, 132, 133, 134, 146, 147, 148, 149, 150, 151, 152, 153, 154, 155, 156, 157, 158, 159, 160, 161, 162, 163, 164, 165, 166, 167, 168, 169, 170, 171, 172, 173, 174, 175, 176, 177, 178, 179, 180, 181, 182, 183, 184, 185, 186, 187, 188, 189, 190, 191, 192, 193, 194, 195, 196, 197, 198] (by decide +kernel) (by decide +kernel)
set_option maxRecDepth 20000 in
theorem gX7_lots_X7_goTurns : GoodIn wsX7_lots (wsV RX7 263 RX7 yX7_goTurns wsX7_goTurns) := goodIn_app (goodIn_of _ (by decide +kernel)) ggX7_lots_X7_goTurns
set_option maxRecDepth 20000 in
theorem ggX7_lots_X7_onBits : GoodIn wsX7_lots wsX7_onBits := goodIn_r _ [138, 31, 40, 146, 147, 148, 149, 150, 151, 152, 153, 154, 155, 156, 157, 158, 159, 160, 161, 162, 163, 164, 165, 166, 167, 168, 169, 170, 171, 172, 173, 174, 175, 176, 177, 178, 179, 180, 181, 182, 183, 184, 185, 186, 187, 188, 189, 190, 191, 192, 193, 194, 195, 196, 197, 198] (by decide +kernel) (by decide +kernel)
set_option maxRecDepth 20000 in
theorem gX7_lots_X7_onBits : GoodIn wsX7_lots (wsV RX7 352 RX7 yX7_onBits wsX7_onBits) := goodIn_app (goodIn_of _ (by decide +kernel)) ggX7_lots_X7_onBits
set_option maxRecDepth 20000 in
theorem ggX7_lots_X7_onesOf : GoodIn wsX7_lots wsX7_onesOf := goodIn_r _ [141] (by decide +kernel) (by decide +kernel)
set_option maxRecDepth 20000 in
theorem gX7_lots_X7_onesOf : GoodIn wsX7_lots (va_wsS RX7 363 yX7_onesOf wsX7_onesOf) := goodIn_app (goodIn_of _ (by decide +kernel)) ggX7_lots_X7_onesOf
set_option maxRecDepth 20000 in
theorem ggX7_lots_X7_again : GoodIn wsX7_lots wsX7_again := goodIn_r _ [145, 22, 23, 24, 25, 26, 8, 27, 28, 29, 30, 4, 31, 32, 33, 3, 34, 35, 36, 5, 37, 38, 39, 40, 41, 42, 43, 44, 45, 46, 47, 48, 146, 147, 148, 149, 150, 151, 152, 153, 154, 155, 156, 157, 158, 159, 160, 161, 162, 163, 164, 165, 166, 167, 168, 169, 170, 171, 172, 173, 174, 175, 176, 177, 178, 179, 180, 181, 182, 183, 184, 185, 186, 187, 188, 189, 190, 191, 192, 193, 194, 195, 196, 197, 198] (by decide +kernel) (by decide +kernel)
set_option maxRecDepth 20000 in
theorem gX7_lots_X7_again : GoodIn wsX7_lots (wsV RX7 295 RX7 yX7_again wsX7_again) := goodIn_app (goodIn_of _ (by decide +kernel)) ggX7_lots_X7_again
theorem dX7_lots_0 : decode cX7_lots 0 = .ok (.aload_n 0, 1) := by decide +kernel
theorem dX7_lots_1 : decode cX7_lots 1 = .ok (.iconst 0, 1) := by decide +kernel
theorem dX7_lots_2 : decode cX7_lots 2 = .ok (.putfield 114, 3) := by decide +kernel
theorem dX7_lots_5 : decode cX7_lots 5 = .ok (.iload_n 1, 1) := by decide +kernel
theorem dX7_lots_6 : decode cX7_lots 6 = .ok (.iconst 1, 1) := by decide +kernel
theorem dX7_lots_7 : decode cX7_lots 7 = .ok (.bipush 20, 2) := by decide +kernel
theorem dX7_lots_9 : decode cX7_lots 9 = .ok (.invokestatic 347, 3) := by decide +kernel
theorem dX7_lots_12 : decode cX7_lots 12 = .ok (.istore 4, 2) := by decide +kernel
theorem dX7_lots_14 : decode cX7_lots 14 = .ok (.iload 4, 2) := by decide +kernel
theorem dX7_lots_16 : decode cX7_lots 16 = .ok (.ifCond .ne 18, 3) := by decide +kernel
theorem dX7_lots_19 : decode cX7_lots 19 = .ok (.iload_n 3, 1) := by decide +kernel
theorem dX7_lots_20 : decode cX7_lots 20 = .ok (.i2l, 1) := by decide +kernel
theorem dX7_lots_21 : decode cX7_lots 21 = .ok (.lconst 0, 1) := by decide +kernel
theorem dX7_lots_22 : decode cX7_lots 22 = .ok (.lconst 1, 1) := by decide +kernel
theorem dX7_lots_23 : decode cX7_lots 23 = .ok (.invokestatic 122, 3) := by decide +kernel
theorem dX7_lots_26 : decode cX7_lots 26 = .ok (.ifCond .ne 8, 3) := by decide +kernel
theorem dX7_lots_29 : decode cX7_lots 29 = .ok (.bipush (-2), 2) := by decide +kernel
theorem dX7_lots_31 : decode cX7_lots 31 = .ok (.goto 5, 3) := by decide +kernel
theorem dX7_lots_34 : decode cX7_lots 34 = .ok (.iload 4, 2) := by decide +kernel
theorem dX7_lots_36 : decode cX7_lots 36 = .ok (.istore 4, 2) := by decide +kernel
theorem dX7_lots_38 : decode cX7_lots 38 = .ok (.iload 4, 2) := by decide +kernel
theorem dX7_lots_40 : decode cX7_lots 40 = .ok (.ifCond .ge 10, 3) := by decide +kernel
theorem dX7_lots_43 : decode cX7_lots 43 = .ok (.aload_n 0, 1) := by decide +kernel
theorem dX7_lots_44 : decode cX7_lots 44 = .ok (.iload 4, 2) := by decide +kernel
theorem dX7_lots_46 : decode cX7_lots 46 = .ok (.invokevirtual 219, 3) := by decide +kernel
theorem dX7_lots_49 : decode cX7_lots 49 = .ok (.ireturn, 1) := by decide +kernel
theorem dX7_lots_50 : decode cX7_lots 50 = .ok (.aload_n 0, 1) := by decide +kernel
theorem dX7_lots_51 : decode cX7_lots 51 = .ok (.iload_n 2, 1) := by decide +kernel
theorem dX7_lots_52 : decode cX7_lots 52 = .ok (.putfield 398, 3) := by decide +kernel
theorem dX7_lots_55 : decode cX7_lots 55 = .ok (.iconst 0, 1) := by decide +kernel
theorem dX7_lots_56 : decode cX7_lots 56 = .ok (.istore 5, 2) := by decide +kernel
theorem dX7_lots_58 : decode cX7_lots 58 = .ok (.aload_n 0, 1) := by decide +kernel
theorem dX7_lots_59 : decode cX7_lots 59 = .ok (.getfield 182, 3) := by decide +kernel
theorem dX7_lots_62 : decode cX7_lots 62 = .ok (.istore 6, 2) := by decide +kernel
theorem dX7_lots_64 : decode cX7_lots 64 = .ok (.aload_n 0, 1) := by decide +kernel
theorem dX7_lots_65 : decode cX7_lots 65 = .ok (.invokevirtual 289, 3) := by decide +kernel
theorem dX7_lots_68 : decode cX7_lots 68 = .ok (.iconst 0, 1) := by decide +kernel
theorem dX7_lots_69 : decode cX7_lots 69 = .ok (.istore 7, 2) := by decide +kernel
theorem dX7_lots_71 : decode cX7_lots 71 = .ok (.iload 7, 2) := by decide +kernel
theorem dX7_lots_73 : decode cX7_lots 73 = .ok (.iload_n 1, 1) := by decide +kernel
theorem dX7_lots_74 : decode cX7_lots 74 = .ok (.if_icmp .ge 75, 3) := by decide +kernel
theorem dX7_lots_77 : decode cX7_lots 77 = .ok (.iconst 0, 1) := by decide +kernel
theorem dX7_lots_78 : decode cX7_lots 78 = .ok (.istore 8, 2) := by decide +kernel
theorem dX7_lots_80 : decode cX7_lots 80 = .ok (.iload 8, 2) := by decide +kernel
theorem dX7_lots_82 : decode cX7_lots 82 = .ok (.aload_n 0, 1) := by decide +kernel
theorem dX7_lots_83 : decode cX7_lots 83 = .ok (.getfield 119, 3) := by decide +kernel
theorem dX7_lots_86 : decode cX7_lots 86 = .ok (.if_icmp .ge 21, 3) := by decide +kernel
theorem dX7_lots_89 : decode cX7_lots 89 = .ok (.aload_n 0, 1) := by decide +kernel
theorem dX7_lots_90 : decode cX7_lots 90 = .ok (.getfield 26, 3) := by decide +kernel
theorem dX7_lots_93 : decode cX7_lots 93 = .ok (.iload 8, 2) := by decide +kernel
theorem dX7_lots_95 : decode cX7_lots 95 = .ok (.aload_n 0, 1) := by decide +kernel
theorem dX7_lots_96 : decode cX7_lots 96 = .ok (.iconst 4, 1) := by decide +kernel
theorem dX7_lots_97 : decode cX7_lots 97 = .ok (.invokevirtual 404, 3) := by decide +kernel
theorem dX7_lots_100 : decode cX7_lots 100 = .ok (.iastore, 1) := by decide +kernel
theorem dX7_lots_101 : decode cX7_lots 101 = .ok (.iinc 8 1, 3) := by decide +kernel
theorem dX7_lots_104 : decode cX7_lots 104 = .ok (.goto (-24), 3) := by decide +kernel
theorem dX7_lots_107 : decode cX7_lots 107 = .ok (.aload_n 0, 1) := by decide +kernel
theorem dX7_lots_108 : decode cX7_lots 108 = .ok (.bipush 10, 2) := by decide +kernel
theorem dX7_lots_110 : decode cX7_lots 110 = .ok (.invokevirtual 263, 3) := by decide +kernel
theorem dX7_lots_113 : decode cX7_lots 113 = .ok (.iload 5, 2) := by decide +kernel
theorem dX7_lots_115 : decode cX7_lots 115 = .ok (.iload_n 3, 1) := by decide +kernel
theorem dX7_lots_116 : decode cX7_lots 116 = .ok (.ifCond .ne 13, 3) := by decide +kernel
theorem dX7_lots_119 : decode cX7_lots 119 = .ok (.aload_n 0, 1) := by decide +kernel
theorem dX7_lots_120 : decode cX7_lots 120 = .ok (.getfield 182, 3) := by decide +kernel
theorem dX7_lots_123 : decode cX7_lots 123 = .ok (.iload 6, 2) := by decide +kernel
theorem dX7_lots_125 : decode cX7_lots 125 = .ok (.isub, 1) := by decide +kernel
theorem dX7_lots_126 : decode cX7_lots 126 = .ok (.goto 10, 3) := by decide +kernel
theorem dX7_lots_129 : decode cX7_lots 129 = .ok (.aload_n 0, 1) := by decide +kernel
theorem dX7_lots_130 : decode cX7_lots 130 = .ok (.invokevirtual 352, 3) := by decide +kernel
theorem dX7_lots_133 : decode cX7_lots 133 = .ok (.invokestatic 363, 3) := by decide +kernel
theorem dX7_lots_136 : decode cX7_lots 136 = .ok (.iadd, 1) := by decide +kernel
theorem dX7_lots_137 : decode cX7_lots 137 = .ok (.istore 5, 2) := by decide +kernel
theorem dX7_lots_139 : decode cX7_lots 139 = .ok (.aload_n 0, 1) := by decide +kernel
theorem dX7_lots_140 : decode cX7_lots 140 = .ok (.invokevirtual 295, 3) := by decide +kernel
theorem dX7_lots_143 : decode cX7_lots 143 = .ok (.iinc 7 1, 3) := by decide +kernel
theorem dX7_lots_146 : decode cX7_lots 146 = .ok (.goto (-75), 3) := by decide +kernel
theorem dX7_lots_149 : decode cX7_lots 149 = .ok (.iload 5, 2) := by decide +kernel
theorem dX7_lots_151 : decode cX7_lots 151 = .ok (.ireturn, 1) := by decide +kernel
theorem dX7_shutMany_0 : decode cX7_shutMany 0 = .ok (.iconst 0, 1) := by decide +kernel
theorem dX7_shutMany_1 : decode cX7_shutMany 1 = .ok (.istore_n 1, 1) := by decide +kernel
theorem dX7_shutMany_2 : decode cX7_shutMany 2 = .ok (.iconst 0, 1) := by decide +kernel
theorem dX7_shutMany_3 : decode cX7_shutMany 3 = .ok (.istore_n 2, 1) := by decide +kernel
theorem dX7_shutMany_4 : decode cX7_shutMany 4 = .ok (.iload_n 2, 1) := by decide +kernel
theorem dX7_shutMany_5 : decode cX7_shutMany 5 = .ok (.bipush 36, 2) := by decide +kernel
theorem dX7_shutMany_7 : decode cX7_shutMany 7 = .ok (.if_icmp .ge 18, 3) := by decide +kernel
theorem dX7_shutMany_10 : decode cX7_shutMany 10 = .ok (.iload_n 1, 1) := by decide +kernel
theorem dX7_shutMany_11 : decode cX7_shutMany 11 = .ok (.aload_n 0, 1) := by decide +kernel
theorem dX7_shutMany_12 : decode cX7_shutMany 12 = .ok (.getfield 13, 3) := by decide +kernel
theorem dX7_shutMany_15 : decode cX7_shutMany 15 = .ok (.iload_n 2, 1) := by decide +kernel
theorem dX7_shutMany_16 : decode cX7_shutMany 16 = .ok (.iaload, 1) := by decide +kernel
theorem dX7_shutMany_17 : decode cX7_shutMany 17 = .ok (.iadd, 1) := by decide +kernel
theorem dX7_shutMany_18 : decode cX7_shutMany 18 = .ok (.istore_n 1, 1) := by decide +kernel
theorem dX7_shutMany_19 : decode cX7_shutMany 19 = .ok (.iinc 2 1, 3) := by decide +kernel
theorem dX7_shutMany_22 : decode cX7_shutMany 22 = .ok (.goto (-18), 3) := by decide +kernel
theorem dX7_shutMany_25 : decode cX7_shutMany 25 = .ok (.iload_n 1, 1) := by decide +kernel
theorem dX7_shutMany_26 : decode cX7_shutMany 26 = .ok (.ireturn, 1) := by decide +kernel
set_option maxRecDepth 20000 in
theorem ggX7_count_X7_onBits : GoodIn wsX7_count wsX7_onBits := goodIn_r _ [17, 3, 18, 27, 28, 29, 30, 31, 32, 33, 34, 35, 36, 37, 38, 39, 40, 41, 42, 43, 44, 45, 46, 47, 48, 49, 50, 51, 52, 53, 54, 55, 56, 57, 58, 59, 60, 61, 62, 63, 64, 65, 66, 67, 68, 69, 70, 71, 72, 73, 74, 75, 76, 77, 78, 79] (by decide +kernel) (by decide +kernel)
set_option maxRecDepth 20000 in
theorem gX7_count_X7_onBits : GoodIn wsX7_count (wsV RX7 352 RX7 yX7_onBits wsX7_onBits) := goodIn_app (goodIn_of _ (by decide +kernel)) ggX7_count_X7_onBits
set_option maxRecDepth 20000 in
theorem ggX7_count_X7_shutMany : GoodIn wsX7_count wsX7_shutMany := goodIn_r _ [22, 23, 27, 28, 29, 30, 31, 32, 33, 34, 35, 36, 37, 38, 39, 40, 41, 42, 43, 44, 45, 46, 47, 48, 49, 50, 51, 52, 53, 54, 55, 56, 57, 58, 59, 60, 61, 62, 63, 64, 65, 66, 67, 68, 69, 70, 71, 72, 73, 74, 75, 76, 77, 78, 79] (by decide +kernel) (by decide +kernel)
set_option maxRecDepth 20000 in
theorem gX7_count_X7_shutMany : GoodIn wsX7_count (wsV RX7 407 RX7 yX7_shutMany wsX7_shutMany) := goodIn_app (goodIn_of _ (by decide +kernel)) ggX7_count_X7_shutMany
set_option maxRecDepth 20000 in
theorem ggX7_count_X7_in : GoodIn wsX7_count wsX7_in := goodIn_r _ [26] (by decide +kernel) (by decide +kernel)
set_option maxRecDepth 20000 in
theorem gX7_count_X7_in : GoodIn wsX7_count (va_wsS RX7 122 yX7_in wsX7_in) := goodIn_app (goodIn_of _ (by decide +kernel)) ggX7_count_X7_in
theorem dX7_count_0 : decode cX7_count 0 = .ok (.aload_n 0, 1) := by decide +kernel
theorem dX7_count_1 : decode cX7_count 1 = .ok (.iconst 0, 1) := by decide +kernel
theorem dX7_count_2 : decode cX7_count 2 = .ok (.putfield 114, 3) := by decide +kernel
theorem dX7_count_5 : decode cX7_count 5 = .ok (.iload_n 1, 1) := by decide +kernel
theorem dX7_count_6 : decode cX7_count 6 = .ok (.tableswitch 104 0 9 #[54, 59, 64, 69, 74, 79, 84, 89, 94, 99], 54) := by decide +kernel
theorem dX7_count_60 : decode cX7_count 60 = .ok (.aload_n 0, 1) := by decide +kernel
theorem dX7_count_61 : decode cX7_count 61 = .ok (.getfield 119, 3) := by decide +kernel
theorem dX7_count_64 : decode cX7_count 64 = .ok (.ireturn, 1) := by decide +kernel
theorem dX7_count_65 : decode cX7_count 65 = .ok (.aload_n 0, 1) := by decide +kernel
theorem dX7_count_66 : decode cX7_count 66 = .ok (.getfield 126, 3) := by decide +kernel
theorem dX7_count_69 : decode cX7_count 69 = .ok (.ireturn, 1) := by decide +kernel
theorem dX7_count_70 : decode cX7_count 70 = .ok (.aload_n 0, 1) := by decide +kernel
theorem dX7_count_71 : decode cX7_count 71 = .ok (.getfield 148, 3) := by decide +kernel
theorem dX7_count_74 : decode cX7_count 74 = .ok (.ireturn, 1) := by decide +kernel
theorem dX7_count_75 : decode cX7_count 75 = .ok (.aload_n 0, 1) := by decide +kernel
theorem dX7_count_76 : decode cX7_count 76 = .ok (.getfield 182, 3) := by decide +kernel
theorem dX7_count_79 : decode cX7_count 79 = .ok (.ireturn, 1) := by decide +kernel
theorem dX7_count_80 : decode cX7_count 80 = .ok (.aload_n 0, 1) := by decide +kernel
theorem dX7_count_81 : decode cX7_count 81 = .ok (.invokevirtual 352, 3) := by decide +kernel
theorem dX7_count_84 : decode cX7_count 84 = .ok (.ireturn, 1) := by decide +kernel
theorem dX7_count_85 : decode cX7_count 85 = .ok (.aload_n 0, 1) := by decide +kernel
theorem dX7_count_86 : decode cX7_count 86 = .ok (.getfield 199, 3) := by decide +kernel
theorem dX7_count_89 : decode cX7_count 89 = .ok (.ireturn, 1) := by decide +kernel
theorem dX7_count_90 : decode cX7_count 90 = .ok (.aload_n 0, 1) := by decide +kernel
theorem dX7_count_91 : decode cX7_count 91 = .ok (.invokevirtual 407, 3) := by decide +kernel
theorem dX7_count_94 : decode cX7_count 94 = .ok (.ireturn, 1) := by decide +kernel
theorem dX7_count_95 : decode cX7_count 95 = .ok (.aload_n 0, 1) := by decide +kernel
theorem dX7_count_96 : decode cX7_count 96 = .ok (.getfield 222, 3) := by decide +kernel
theorem dX7_count_99 : decode cX7_count 99 = .ok (.ireturn, 1) := by decide +kernel
theorem dX7_count_100 : decode cX7_count 100 = .ok (.aload_n 0, 1) := by decide +kernel
theorem dX7_count_101 : decode cX7_count 101 = .ok (.getfield 366, 3) := by decide +kernel
theorem dX7_count_104 : decode cX7_count 104 = .ok (.ireturn, 1) := by decide +kernel
theorem dX7_count_105 : decode cX7_count 105 = .ok (.aload_n 0, 1) := by decide +kernel
theorem dX7_count_106 : decode cX7_count 106 = .ok (.getfield 298, 3) := by decide +kernel
theorem dX7_count_109 : decode cX7_count 109 = .ok (.ireturn, 1) := by decide +kernel
theorem dX7_count_110 : decode cX7_count 110 = .ok (.iload_n 1, 1) := by decide +kernel
theorem dX7_count_111 : decode cX7_count 111 = .ok (.i2l, 1) := by decide +kernel
theorem dX7_count_112 : decode cX7_count 112 = .ok (.ldc2_w 410, 3) := by decide +kernel
theorem dX7_count_115 : decode cX7_count 115 = .ok (.ldc2_w 412, 3) := by decide +kernel
theorem dX7_count_118 : decode cX7_count 118 = .ok (.invokestatic 122, 3) := by decide +kernel
theorem dX7_count_121 : decode cX7_count 121 = .ok (.ifCond .eq 15, 3) := by decide +kernel
theorem dX7_count_124 : decode cX7_count 124 = .ok (.aload_n 0, 1) := by decide +kernel
theorem dX7_count_125 : decode cX7_count 125 = .ok (.getfield 47, 3) := by decide +kernel
theorem dX7_count_128 : decode cX7_count 128 = .ok (.iload_n 1, 1) := by decide +kernel
theorem dX7_count_129 : decode cX7_count 129 = .ok (.bipush 10, 2) := by decide +kernel
theorem dX7_count_131 : decode cX7_count 131 = .ok (.isub, 1) := by decide +kernel
theorem dX7_count_132 : decode cX7_count 132 = .ok (.iaload, 1) := by decide +kernel
theorem dX7_count_133 : decode cX7_count 133 = .ok (.goto 5, 3) := by decide +kernel
theorem dX7_count_136 : decode cX7_count 136 = .ok (.bipush (-9), 2) := by decide +kernel
theorem dX7_count_138 : decode cX7_count 138 = .ok (.ireturn, 1) := by decide +kernel
