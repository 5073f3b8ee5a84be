theorem dX7_init_0 : decode cX7_init 0 = .ok (.aload_n 0, 1) := by decide +kernel
theorem dX7_init_1 : decode cX7_init 1 = .ok (.invokespecial 1, 3) := by decide +kernel
theorem dX7_init_4 : decode cX7_init 4 = .ok (.aload_n 0, 1) := by decide +kernel
theorem dX7_init_5 : decode cX7_init 5 = .ok (.bipush 36, 2) := by decide +kernel
theorem dX7_init_7 : decode cX7_init 7 = .ok (.newarray .float, 2) := by decide +kernel
theorem dX7_init_9 : decode cX7_init 9 = .ok (.putfield 7, 3) := by decide +kernel
theorem dX7_init_12 : decode cX7_init 12 = .ok (.aload_n 0, 1) := by decide +kernel
theorem dX7_init_13 : decode cX7_init 13 = .ok (.bipush 36, 2) := by decide +kernel
theorem dX7_init_15 : decode cX7_init 15 = .ok (.newarray .int, 2) := by decide +kernel
theorem dX7_init_17 : decode cX7_init 17 = .ok (.putfield 13, 3) := by decide +kernel
theorem dX7_init_20 : decode cX7_init 20 = .ok (.aload_n 0, 1) := by decide +kernel
theorem dX7_init_21 : decode cX7_init 21 = .ok (.iconst 5, 1) := by decide +kernel
theorem dX7_init_22 : decode cX7_init 22 = .ok (.newarray .int, 2) := by decide +kernel
theorem dX7_init_24 : decode cX7_init 24 = .ok (.putfield 17, 3) := by decide +kernel
theorem dX7_init_27 : decode cX7_init 27 = .ok (.aload_n 0, 1) := by decide +kernel
theorem dX7_init_28 : decode cX7_init 28 = .ok (.iconst 5, 1) := by decide +kernel
theorem dX7_init_29 : decode cX7_init 29 = .ok (.newarray .int, 2) := by decide +kernel
theorem dX7_init_31 : decode cX7_init 31 = .ok (.putfield 20, 3) := by decide +kernel
theorem dX7_init_34 : decode cX7_init 34 = .ok (.aload_n 0, 1) := by decide +kernel
theorem dX7_init_35 : decode cX7_init 35 = .ok (.iconst 5, 1) := by decide +kernel
theorem dX7_init_36 : decode cX7_init 36 = .ok (.newarray .int, 2) := by decide +kernel
theorem dX7_init_38 : decode cX7_init 38 = .ok (.putfield 23, 3) := by decide +kernel
theorem dX7_init_41 : decode cX7_init 41 = .ok (.aload_n 0, 1) := by decide +kernel
theorem dX7_init_42 : decode cX7_init 42 = .ok (.iconst 5, 1) := by decide +kernel
theorem dX7_init_43 : decode cX7_init 43 = .ok (.newarray .int, 2) := by decide +kernel
theorem dX7_init_45 : decode cX7_init 45 = .ok (.putfield 26, 3) := by decide +kernel
theorem dX7_init_48 : decode cX7_init 48 = .ok (.aload_n 0, 1) := by decide +kernel
theorem dX7_init_49 : decode cX7_init 49 = .ok (.iconst 5, 1) := by decide +kernel
theorem dX7_init_50 : decode cX7_init 50 = .ok (.newarray .int, 2) := by decide +kernel
theorem dX7_init_52 : decode cX7_init 52 = .ok (.putfield 29, 3) := by decide +kernel
theorem dX7_init_55 : decode cX7_init 55 = .ok (.aload_n 0, 1) := by decide +kernel
theorem dX7_init_56 : decode cX7_init 56 = .ok (.bipush 6, 2) := by decide +kernel
theorem dX7_init_58 : decode cX7_init 58 = .ok (.newarray .int, 2) := by decide +kernel
theorem dX7_init_60 : decode cX7_init 60 = .ok (.putfield 32, 3) := by decide +kernel
theorem dX7_init_63 : decode cX7_init 63 = .ok (.aload_n 0, 1) := by decide +kernel
theorem dX7_init_64 : decode cX7_init 64 = .ok (.bipush 6, 2) := by decide +kernel
theorem dX7_init_66 : decode cX7_init 66 = .ok (.newarray .int, 2) := by decide +kernel
theorem dX7_init_68 : decode cX7_init 68 = .ok (.putfield 35, 3) := by decide +kernel
theorem dX7_init_71 : decode cX7_init 71 = .ok (.aload_n 0, 1) := by decide +kernel
theorem dX7_init_72 : decode cX7_init 72 = .ok (.bipush 6, 2) := by decide +kernel
theorem dX7_init_74 : decode cX7_init 74 = .ok (.newarray .int, 2) := by decide +kernel
theorem dX7_init_76 : decode cX7_init 76 = .ok (.putfield 38, 3) := by decide +kernel
theorem dX7_init_79 : decode cX7_init 79 = .ok (.aload_n 0, 1) := by decide +kernel
theorem dX7_init_80 : decode cX7_init 80 = .ok (.bipush 6, 2) := by decide +kernel
theorem dX7_init_82 : decode cX7_init 82 = .ok (.newarray .int, 2) := by decide +kernel
theorem dX7_init_84 : decode cX7_init 84 = .ok (.putfield 41, 3) := by decide +kernel
theorem dX7_init_87 : decode cX7_init 87 = .ok (.aload_n 0, 1) := by decide +kernel
theorem dX7_init_88 : decode cX7_init 88 = .ok (.bipush 6, 2) := by decide +kernel
theorem dX7_init_90 : decode cX7_init 90 = .ok (.newarray .int, 2) := by decide +kernel
theorem dX7_init_92 : decode cX7_init 92 = .ok (.putfield 44, 3) := by decide +kernel
theorem dX7_init_95 : decode cX7_init 95 = .ok (.aload_n 0, 1) := by decide +kernel
theorem dX7_init_96 : decode cX7_init 96 = .ok (.bipush 7, 2) := by decide +kernel
theorem dX7_init_98 : decode cX7_init 98 = .ok (.newarray .int, 2) := by decide +kernel
theorem dX7_init_100 : decode cX7_init 100 = .ok (.putfield 47, 3) := by decide +kernel
theorem dX7_init_103 : decode cX7_init 103 = .ok (.aload_n 0, 1) := by decide +kernel
theorem dX7_init_104 : decode cX7_init 104 = .ok (.bipush 96, 2) := by decide +kernel
theorem dX7_init_106 : decode cX7_init 106 = .ok (.newarray .int, 2) := by decide +kernel
theorem dX7_init_108 : decode cX7_init 108 = .ok (.putfield 50, 3) := by decide +kernel
theorem dX7_init_111 : decode cX7_init 111 = .ok (.aload_n 0, 1) := by decide +kernel
theorem dX7_init_112 : decode cX7_init 112 = .ok (.bipush 49, 2) := by decide +kernel
theorem dX7_init_114 : decode cX7_init 114 = .ok (.newarray .int, 2) := by decide +kernel
theorem dX7_init_116 : decode cX7_init 116 = .ok (.putfield 53, 3) := by decide +kernel
theorem dX7_init_119 : decode cX7_init 119 = .ok (.aload_n 0, 1) := by decide +kernel
theorem dX7_init_120 : decode cX7_init 120 = .ok (.bipush 49, 2) := by decide +kernel
theorem dX7_init_122 : decode cX7_init 122 = .ok (.newarray .int, 2) := by decide +kernel
theorem dX7_init_124 : decode cX7_init 124 = .ok (.putfield 56, 3) := by decide +kernel
theorem dX7_init_127 : decode cX7_init 127 = .ok (.aload_n 0, 1) := by decide +kernel
theorem dX7_init_128 : decode cX7_init 128 = .ok (.sipush 196, 3) := by decide +kernel
theorem dX7_init_131 : decode cX7_init 131 = .ok (.newarray .int, 2) := by decide +kernel
theorem dX7_init_133 : decode cX7_init 133 = .ok (.putfield 59, 3) := by decide +kernel
theorem dX7_init_136 : decode cX7_init 136 = .ok (.aload_n 0, 1) := by decide +kernel
theorem dX7_init_137 : decode cX7_init 137 = .ok (.bipush 96, 2) := by decide +kernel
theorem dX7_init_139 : decode cX7_init 139 = .ok (.newarray .int, 2) := by decide +kernel
theorem dX7_init_141 : decode cX7_init 141 = .ok (.putfield 62, 3) := by decide +kernel
theorem dX7_init_144 : decode cX7_init 144 = .ok (.aload_n 0, 1) := by decide +kernel
theorem dX7_init_145 : decode cX7_init 145 = .ok (.bipush 96, 2) := by decide +kernel
theorem dX7_init_147 : decode cX7_init 147 = .ok (.newarray .int, 2) := by decide +kernel
theorem dX7_init_149 : decode cX7_init 149 = .ok (.putfield 65, 3) := by decide +kernel
theorem dX7_init_152 : decode cX7_init 152 = .ok (.aload_n 0, 1) := by decide +kernel
theorem dX7_init_153 : decode cX7_init 153 = .ok (.bipush 96, 2) := by decide +kernel
theorem dX7_init_155 : decode cX7_init 155 = .ok (.newarray .int, 2) := by decide +kernel
theorem dX7_init_157 : decode cX7_init 157 = .ok (.putfield 68, 3) := by decide +kernel
theorem dX7_init_160 : decode cX7_init 160 = .ok (.aload_n 0, 1) := by decide +kernel
theorem dX7_init_161 : decode cX7_init 161 = .ok (.bipush 36, 2) := by decide +kernel
theorem dX7_init_163 : decode cX7_init 163 = .ok (.newarray .float, 2) := by decide +kernel
theorem dX7_init_165 : decode cX7_init 165 = .ok (.putfield 71, 3) := by decide +kernel
theorem dX7_init_168 : decode cX7_init 168 = .ok (.aload_n 0, 1) := by decide +kernel
theorem dX7_init_169 : decode cX7_init 169 = .ok (.bipush 96, 2) := by decide +kernel
theorem dX7_init_171 : decode cX7_init 171 = .ok (.newarray .int, 2) := by decide +kernel
theorem dX7_init_173 : decode cX7_init 173 = .ok (.putfield 74, 3) := by decide +kernel
theorem dX7_init_176 : decode cX7_init 176 = .ok (.aload_n 0, 1) := by decide +kernel
theorem dX7_init_177 : decode cX7_init 177 = .ok (.bipush 36, 2) := by decide +kernel
theorem dX7_init_179 : decode cX7_init 179 = .ok (.newarray .float, 2) := by decide +kernel
theorem dX7_init_181 : decode cX7_init 181 = .ok (.putfield 77, 3) := by decide +kernel
theorem dX7_init_184 : decode cX7_init 184 = .ok (.aload_n 0, 1) := by decide +kernel
theorem dX7_init_185 : decode cX7_init 185 = .ok (.sipush 768, 3) := by decide +kernel
theorem dX7_init_188 : decode cX7_init 188 = .ok (.newarray .int, 2) := by decide +kernel
theorem dX7_init_190 : decode cX7_init 190 = .ok (.putfield 80, 3) := by decide +kernel
theorem dX7_init_193 : decode cX7_init 193 = .ok (.aload_n 0, 1) := by decide +kernel
theorem dX7_init_194 : decode cX7_init 194 = .ok (.sipush 288, 3) := by decide +kernel
theorem dX7_init_197 : decode cX7_init 197 = .ok (.newarray .float, 2) := by decide +kernel
theorem dX7_init_199 : decode cX7_init 199 = .ok (.putfield 83, 3) := by decide +kernel
theorem dX7_init_202 : decode cX7_init 202 = .ok (.aload_n 0, 1) := by decide +kernel
theorem dX7_init_203 : decode cX7_init 203 = .ok (.bipush 96, 2) := by decide +kernel
theorem dX7_init_205 : decode cX7_init 205 = .ok (.newarray .int, 2) := by decide +kernel
theorem dX7_init_207 : decode cX7_init 207 = .ok (.putfield 86, 3) := by decide +kernel
theorem dX7_init_210 : decode cX7_init 210 = .ok (.aload_n 0, 1) := by decide +kernel
theorem dX7_init_211 : decode cX7_init 211 = .ok (.bipush 36, 2) := by decide +kernel
theorem dX7_init_213 : decode cX7_init 213 = .ok (.newarray .float, 2) := by decide +kernel
theorem dX7_init_215 : decode cX7_init 215 = .ok (.putfield 89, 3) := by decide +kernel
theorem dX7_init_218 : decode cX7_init 218 = .ok (.aload_n 0, 1) := by decide +kernel
theorem dX7_init_219 : decode cX7_init 219 = .ok (.bipush 12, 2) := by decide +kernel
theorem dX7_init_221 : decode cX7_init 221 = .ok (.newarray .int, 2) := by decide +kernel
theorem dX7_init_223 : decode cX7_init 223 = .ok (.putfield 92, 3) := by decide +kernel
theorem dX7_init_226 : decode cX7_init 226 = .ok (.aload_n 0, 1) := by decide +kernel
theorem dX7_init_227 : decode cX7_init 227 = .ok (.bipush 8, 2) := by decide +kernel
theorem dX7_init_229 : decode cX7_init 229 = .ok (.newarray .int, 2) := by decide +kernel
theorem dX7_init_231 : decode cX7_init 231 = .ok (.putfield 95, 3) := by decide +kernel
theorem dX7_init_234 : decode cX7_init 234 = .ok (.aload_n 0, 1) := by decide +kernel
theorem dX7_init_235 : decode cX7_init 235 = .ok (.iconst 3, 1) := by decide +kernel
theorem dX7_init_236 : decode cX7_init 236 = .ok (.newarray .int, 2) := by decide +kernel
theorem dX7_init_238 : decode cX7_init 238 = .ok (.putfield 98, 3) := by decide +kernel
theorem dX7_init_241 : decode cX7_init 241 = .ok (.aload_n 0, 1) := by decide +kernel
theorem dX7_init_242 : decode cX7_init 242 = .ok (.iconst 3, 1) := by decide +kernel
theorem dX7_init_243 : decode cX7_init 243 = .ok (.newarray .int, 2) := by decide +kernel
theorem dX7_init_245 : decode cX7_init 245 = .ok (.putfield 101, 3) := by decide +kernel
theorem dX7_init_248 : decode cX7_init 248 = .ok (.aload_n 0, 1) := by decide +kernel
theorem dX7_init_249 : decode cX7_init 249 = .ok (.iconst 3, 1) := by decide +kernel
theorem dX7_init_250 : decode cX7_init 250 = .ok (.newarray .boolean, 2) := by decide +kernel
theorem dX7_init_252 : decode cX7_init 252 = .ok (.putfield 104, 3) := by decide +kernel
theorem dX7_init_255 : decode cX7_init 255 = .ok (.aload_n 0, 1) := by decide +kernel
theorem dX7_init_256 : decode cX7_init 256 = .ok (.bipush 36, 2) := by decide +kernel
theorem dX7_init_258 : decode cX7_init 258 = .ok (.newarray .int, 2) := by decide +kernel
theorem dX7_init_260 : decode cX7_init 260 = .ok (.putfield 108, 3) := by decide +kernel
theorem dX7_init_263 : decode cX7_init 263 = .ok (.aload_n 0, 1) := by decide +kernel
theorem dX7_init_264 : decode cX7_init 264 = .ok (.bipush 12, 2) := by decide +kernel
theorem dX7_init_266 : decode cX7_init 266 = .ok (.newarray .int, 2) := by decide +kernel
theorem dX7_init_268 : decode cX7_init 268 = .ok (.putfield 111, 3) := by decide +kernel
theorem dX7_init_271 : decode cX7_init 271 = .ok (.aload_n 0, 1) := by decide +kernel
theorem dX7_init_272 : decode cX7_init 272 = .ok (.iconst 0, 1) := by decide +kernel
theorem dX7_init_273 : decode cX7_init 273 = .ok (.putfield 114, 3) := by decide +kernel
theorem dX7_init_276 : decode cX7_init 276 = .ok (.iconst 0, 1) := by decide +kernel
theorem dX7_init_277 : decode cX7_init 277 = .ok (.istore_n 1, 1) := by decide +kernel
theorem dX7_init_278 : decode cX7_init 278 = .ok (.iload_n 1, 1) := by decide +kernel
theorem dX7_init_279 : decode cX7_init 279 = .ok (.bipush 36, 2) := by decide +kernel
theorem dX7_init_281 : decode cX7_init 281 = .ok (.if_icmp .ge 17, 3) := by decide +kernel
theorem dX7_init_284 : decode cX7_init 284 = .ok (.aload_n 0, 1) := by decide +kernel
theorem dX7_init_285 : decode cX7_init 285 = .ok (.getfield 7, 3) := by decide +kernel
theorem dX7_init_288 : decode cX7_init 288 = .ok (.iload_n 1, 1) := by decide +kernel
theorem dX7_init_289 : decode cX7_init 289 = .ok (.ldc 118, 2) := by decide +kernel
theorem dX7_init_291 : decode cX7_init 291 = .ok (.fastore, 1) := by decide +kernel
theorem dX7_init_292 : decode cX7_init 292 = .ok (.iinc 1 1, 3) := by decide +kernel
theorem dX7_init_295 : decode cX7_init 295 = .ok (.goto (-17), 3) := by decide +kernel
theorem dX7_init_298 : decode cX7_init 298 = .ok (.return_, 1) := by decide +kernel
theorem dX7_in_0 : decode cX7_in 0 = .ok (.lload_n 0, 1) := by decide +kernel
theorem dX7_in_1 : decode cX7_in 1 = .ok (.lload_n 2, 1) := by decide +kernel
theorem dX7_in_2 : decode cX7_in 2 = .ok (.lcmp, 1) := by decide +kernel
theorem dX7_in_3 : decode cX7_in 3 = .ok (.ifCond .lt 14, 3) := by decide +kernel
theorem dX7_in_6 : decode cX7_in 6 = .ok (.lload_n 0, 1) := by decide +kernel
theorem dX7_in_7 : decode cX7_in 7 = .ok (.lload 4, 2) := by decide +kernel
theorem dX7_in_9 : decode cX7_in 9 = .ok (.lcmp, 1) := by decide +kernel
theorem dX7_in_10 : decode cX7_in 10 = .ok (.ifCond .gt 7, 3) := by decide +kernel
theorem dX7_in_13 : decode cX7_in 13 = .ok (.iconst 1, 1) := by decide +kernel
theorem dX7_in_14 : decode cX7_in 14 = .ok (.goto 4, 3) := by decide +kernel
theorem dX7_in_17 : decode cX7_in 17 = .ok (.iconst 0, 1) := by decide +kernel
theorem dX7_in_18 : decode cX7_in 18 = .ok (.ireturn, 1) := by decide +kernel
theorem dX7_refuse_0 : decode cX7_refuse 0 = .ok (.aload_n 0, 1) := by decide +kernel
theorem dX7_refuse_1 : decode cX7_refuse 1 = .ok (.getfield 47, 3) := by decide +kernel
theorem dX7_refuse_4 : decode cX7_refuse 4 = .ok (.iload_n 1, 1) := by decide +kernel
theorem dX7_refuse_5 : decode cX7_refuse 5 = .ok (.ineg, 1) := by decide +kernel
theorem dX7_refuse_6 : decode cX7_refuse 6 = .ok (.dup2, 1) := by decide +kernel
theorem dX7_refuse_7 : decode cX7_refuse 7 = .ok (.iaload, 1) := by decide +kernel
theorem dX7_refuse_8 : decode cX7_refuse 8 = .ok (.iconst 1, 1) := by decide +kernel
theorem dX7_refuse_9 : decode cX7_refuse 9 = .ok (.iadd, 1) := by decide +kernel
theorem dX7_refuse_10 : decode cX7_refuse 10 = .ok (.iastore, 1) := by decide +kernel
theorem dX7_refuse_11 : decode cX7_refuse 11 = .ok (.iload_n 1, 1) := by decide +kernel
theorem dX7_refuse_12 : decode cX7_refuse 12 = .ok (.ireturn, 1) := by decide +kernel
set_option maxRecDepth 20000 in
theorem ggX7_isAir_X7_in : GoodIn wsX7_isAir wsX7_in := goodIn_r _ [5] (by decide +kernel) (by decide +kernel)
set_option maxRecDepth 20000 in
theorem gX7_isAir_X7_in : GoodIn wsX7_isAir (va_wsS RX7 122 yX7_in wsX7_in) := goodIn_app (goodIn_of _ (by decide +kernel)) ggX7_isAir_X7_in
theorem dX7_isAir_0 : decode cX7_isAir 0 = .ok (.iload_n 1, 1) := by decide +kernel
theorem dX7_isAir_1 : decode cX7_isAir 1 = .ok (.i2l, 1) := by decide +kernel
theorem dX7_isAir_2 : decode cX7_isAir 2 = .ok (.lconst 0, 1) := by decide +kernel
theorem dX7_isAir_3 : decode cX7_isAir 3 = .ok (.aload_n 0, 1) := by decide +kernel
theorem dX7_isAir_4 : decode cX7_isAir 4 = .ok (.getfield 119, 3) := by decide +kernel
theorem dX7_isAir_7 : decode cX7_isAir 7 = .ok (.iconst 1, 1) := by decide +kernel
theorem dX7_isAir_8 : decode cX7_isAir 8 = .ok (.isub, 1) := by decide +kernel
theorem dX7_isAir_9 : decode cX7_isAir 9 = .ok (.i2l, 1) := by decide +kernel
theorem dX7_isAir_10 : decode cX7_isAir 10 = .ok (.invokestatic 122, 3) := by decide +kernel
theorem dX7_isAir_13 : decode cX7_isAir 13 = .ok (.ireturn, 1) := by decide +kernel
set_option maxRecDepth 20000 in
theorem ggX7_isSitter_X7_in : GoodIn wsX7_isSitter wsX7_in := goodIn_r _ [5] (by decide +kernel) (by decide +kernel)
set_option maxRecDepth 20000 in
theorem gX7_isSitter_X7_in : GoodIn wsX7_isSitter (va_wsS RX7 122 yX7_in wsX7_in) := goodIn_app (goodIn_of _ (by decide +kernel)) ggX7_isSitter_X7_in
theorem dX7_isSitter_0 : decode cX7_isSitter 0 = .ok (.iload_n 1, 1) := by decide +kernel
theorem dX7_isSitter_1 : decode cX7_isSitter 1 = .ok (.i2l, 1) := by decide +kernel
theorem dX7_isSitter_2 : decode cX7_isSitter 2 = .ok (.lconst 0, 1) := by decide +kernel
theorem dX7_isSitter_3 : decode cX7_isSitter 3 = .ok (.aload_n 0, 1) := by decide +kernel
theorem dX7_isSitter_4 : decode cX7_isSitter 4 = .ok (.getfield 126, 3) := by decide +kernel
theorem dX7_isSitter_7 : decode cX7_isSitter 7 = .ok (.iconst 1, 1) := by decide +kernel
theorem dX7_isSitter_8 : decode cX7_isSitter 8 = .ok (.isub, 1) := by decide +kernel
theorem dX7_isSitter_9 : decode cX7_isSitter 9 = .ok (.i2l, 1) := by decide +kernel
theorem dX7_isSitter_10 : decode cX7_isSitter 10 = .ok (.invokestatic 122, 3) := by decide +kernel
theorem dX7_isSitter_13 : decode cX7_isSitter 13 = .ok (.ireturn, 1) := by decide +kernel
set_option maxRecDepth 20000 in
theorem ggX7_isCell_X7_in : GoodIn wsX7_isCell wsX7_in := goodIn_r _ [5] (by decide +kernel) (by decide +kernel)
set_option maxRecDepth 20000 in
theorem gX7_isCell_X7_in : GoodIn wsX7_isCell (va_wsS RX7 122 yX7_in wsX7_in) := goodIn_app (goodIn_of _ (by decide +kernel)) ggX7_isCell_X7_in
theorem dX7_isCell_0 : decode cX7_isCell 0 = .ok (.iload_n 0, 1) := by decide +kernel
theorem dX7_isCell_1 : decode cX7_isCell 1 = .ok (.i2l, 1) := by decide +kernel
theorem dX7_isCell_2 : decode cX7_isCell 2 = .ok (.lconst 0, 1) := by decide +kernel
theorem dX7_isCell_3 : decode cX7_isCell 3 = .ok (.ldc2_w 129, 3) := by decide +kernel
theorem dX7_isCell_6 : decode cX7_isCell 6 = .ok (.invokestatic 122, 3) := by decide +kernel
theorem dX7_isCell_9 : decode cX7_isCell 9 = .ok (.ireturn, 1) := by decide +kernel
theorem dX7_wrongNumber_0 : decode cX7_wrongNumber 0 = .ok (.iload_n 0, 1) := by decide +kernel
theorem dX7_wrongNumber_1 : decode cX7_wrongNumber 1 = .ok (.iload_n 1, 1) := by decide +kernel
theorem dX7_wrongNumber_2 : decode cX7_wrongNumber 2 = .ok (.if_icmp .ge 8, 3) := by decide +kernel
theorem dX7_wrongNumber_5 : decode cX7_wrongNumber 5 = .ok (.bipush (-4), 2) := by decide +kernel
theorem dX7_wrongNumber_7 : decode cX7_wrongNumber 7 = .ok (.goto 14, 3) := by decide +kernel
theorem dX7_wrongNumber_10 : decode cX7_wrongNumber 10 = .ok (.iload_n 0, 1) := by decide +kernel
theorem dX7_wrongNumber_11 : decode cX7_wrongNumber 11 = .ok (.iload_n 2, 1) := by decide +kernel
theorem dX7_wrongNumber_12 : decode cX7_wrongNumber 12 = .ok (.if_icmp .le 8, 3) := by decide +kernel
theorem dX7_wrongNumber_15 : decode cX7_wrongNumber 15 = .ok (.bipush (-6), 2) := by decide +kernel
theorem dX7_wrongNumber_17 : decode cX7_wrongNumber 17 = .ok (.goto 4, 3) := by decide +kernel
theorem dX7_wrongNumber_20 : decode cX7_wrongNumber 20 = .ok (.iconst 0, 1) := by decide +kernel
theorem dX7_wrongNumber_21 : decode cX7_wrongNumber 21 = .ok (.ireturn, 1) := by decide +kernel
theorem dX7_hasBit_0 : decode cX7_hasBit 0 = .ok (.iload_n 0, 1) := by decide +kernel
theorem dX7_hasBit_1 : decode cX7_hasBit 1 = .ok (.iload_n 1, 1) := by decide +kernel
theorem dX7_hasBit_2 : decode cX7_hasBit 2 = .ok (.ishr, 1) := by decide +kernel
theorem dX7_hasBit_3 : decode cX7_hasBit 3 = .ok (.iconst 1, 1) := by decide +kernel
theorem dX7_hasBit_4 : decode cX7_hasBit 4 = .ok (.iand, 1) := by decide +kernel
theorem dX7_hasBit_5 : decode cX7_hasBit 5 = .ok (.iconst 1, 1) := by decide +kernel
theorem dX7_hasBit_6 : decode cX7_hasBit 6 = .ok (.if_icmp .ne 7, 3) := by decide +kernel
theorem dX7_hasBit_9 : decode cX7_hasBit 9 = .ok (.iconst 1, 1) := by decide +kernel
theorem dX7_hasBit_10 : decode cX7_hasBit 10 = .ok (.goto 4, 3) := by decide +kernel
theorem dX7_hasBit_13 : decode cX7_hasBit 13 = .ok (.iconst 0, 1) := by decide +kernel
theorem dX7_hasBit_14 : decode cX7_hasBit 14 = .ok (.ireturn, 1) := by decide +kernel
theorem dX7_onesOf_0 : decode cX7_onesOf 0 = .ok (.iconst 0, 1) := by decide +kernel
theorem dX7_onesOf_1 : decode cX7_onesOf 1 = .ok (.istore_n 1, 1) := by decide +kernel
theorem dX7_onesOf_2 : decode cX7_onesOf 2 = .ok (.iload_n 0, 1) := by decide +kernel
theorem dX7_onesOf_3 : decode cX7_onesOf 3 = .ok (.istore_n 2, 1) := by decide +kernel
theorem dX7_onesOf_4 : decode cX7_onesOf 4 = .ok (.iload_n 2, 1) := by decide +kernel
theorem dX7_onesOf_5 : decode cX7_onesOf 5 = .ok (.ifCond .eq 15, 3) := by decide +kernel
theorem dX7_onesOf_8 : decode cX7_onesOf 8 = .ok (.iinc 1 1, 3) := by decide +kernel
theorem dX7_onesOf_11 : decode cX7_onesOf 11 = .ok (.iload_n 2, 1) := by decide +kernel
theorem dX7_onesOf_12 : decode cX7_onesOf 12 = .ok (.iload_n 2, 1) := by decide +kernel
theorem dX7_onesOf_13 : decode cX7_onesOf 13 = .ok (.iconst 1, 1) := by decide +kernel
theorem dX7_onesOf_14 : decode cX7_onesOf 14 = .ok (.isub, 1) := by decide +kernel
theorem dX7_onesOf_15 : decode cX7_onesOf 15 = .ok (.iand, 1) := by decide +kernel
theorem dX7_onesOf_16 : decode cX7_onesOf 16 = .ok (.istore_n 2, 1) := by decide +kernel
theorem dX7_onesOf_17 : decode cX7_onesOf 17 = .ok (.goto (-13), 3) := by decide +kernel
theorem dX7_onesOf_20 : decode cX7_onesOf 20 = .ok (.iload_n 1, 1) := by decide +kernel
theorem dX7_onesOf_21 : decode cX7_onesOf 21 = .ok (.ireturn, 1) := by decide +kernel
theorem dX7_held_0 : decode cX7_held 0 = .ok (.iload_n 0, 1) := by decide +kernel
theorem dX7_held_1 : decode cX7_held 1 = .ok (.ifCond .ge 7, 3) := by decide +kernel
theorem dX7_held_4 : decode cX7_held 4 = .ok (.iconst 0, 1) := by decide +kernel
theorem dX7_held_5 : decode cX7_held 5 = .ok (.goto 13, 3) := by decide +kernel
theorem dX7_held_8 : decode cX7_held 8 = .ok (.iload_n 0, 1) := by decide +kernel
theorem dX7_held_9 : decode cX7_held 9 = .ok (.iload_n 1, 1) := by decide +kernel
theorem dX7_held_10 : decode cX7_held 10 = .ok (.if_icmp .le 7, 3) := by decide +kernel
theorem dX7_held_13 : decode cX7_held 13 = .ok (.iload_n 1, 1) := by decide +kernel
theorem dX7_held_14 : decode cX7_held 14 = .ok (.goto 4, 3) := by decide +kernel
theorem dX7_held_17 : decode cX7_held 17 = .ok (.iload_n 0, 1) := by decide +kernel
theorem dX7_held_18 : decode cX7_held 18 = .ok (.ireturn, 1) := by decide +kernel
theorem dX7_heldWarm_0 : decode cX7_heldWarm 0 = .ok (.fload_n 0, 1) := by decide +kernel
theorem dX7_heldWarm_1 : decode cX7_heldWarm 1 = .ok (.ldc 131, 2) := by decide +kernel
theorem dX7_heldWarm_3 : decode cX7_heldWarm 3 = .ok (.fcmp .l, 1) := by decide +kernel
theorem dX7_heldWarm_4 : decode cX7_heldWarm 4 = .ok (.ifCond .le 8, 3) := by decide +kernel
theorem dX7_heldWarm_7 : decode cX7_heldWarm 7 = .ok (.ldc 131, 2) := by decide +kernel
theorem dX7_heldWarm_9 : decode cX7_heldWarm 9 = .ok (.goto 16, 3) := by decide +kernel
theorem dX7_heldWarm_12 : decode cX7_heldWarm 12 = .ok (.fload_n 0, 1) := by decide +kernel
theorem dX7_heldWarm_13 : decode cX7_heldWarm 13 = .ok (.ldc 132, 2) := by decide +kernel
theorem dX7_heldWarm_15 : decode cX7_heldWarm 15 = .ok (.fcmp .g, 1) := by decide +kernel
theorem dX7_heldWarm_16 : decode cX7_heldWarm 16 = .ok (.ifCond .ge 8, 3) := by decide +kernel
theorem dX7_heldWarm_19 : decode cX7_heldWarm 19 = .ok (.ldc 132, 2) := by decide +kernel
theorem dX7_heldWarm_21 : decode cX7_heldWarm 21 = .ok (.goto 4, 3) := by decide +kernel
theorem dX7_heldWarm_24 : decode cX7_heldWarm 24 = .ok (.fload_n 0, 1) := by decide +kernel
theorem dX7_heldWarm_25 : decode cX7_heldWarm 25 = .ok (.freturn, 1) := by decide +kernel
set_option maxRecDepth 20000 in
theorem ggX7_leapsOf_X7_held : GoodIn wsX7_leapsOf wsX7_held := goodIn_r _ [6] (by decide +kernel) (by decide +kernel)
set_option maxRecDepth 20000 in
theorem gX7_leapsOf_X7_held : GoodIn wsX7_leapsOf (va_wsS RX7 133 yX7_held wsX7_held) := goodIn_app (goodIn_of _ (by decide +kernel)) ggX7_leapsOf_X7_held
theorem dX7_leapsOf_0 : decode cX7_leapsOf 0 = .ok (.aload_n 0, 1) := by decide +kernel
theorem dX7_leapsOf_1 : decode cX7_leapsOf 1 = .ok (.getfield 20, 3) := by decide +kernel
theorem dX7_leapsOf_4 : decode cX7_leapsOf 4 = .ok (.iload_n 1, 1) := by decide +kernel
theorem dX7_leapsOf_5 : decode cX7_leapsOf 5 = .ok (.iaload, 1) := by decide +kernel
theorem dX7_leapsOf_6 : decode cX7_leapsOf 6 = .ok (.istore_n 2, 1) := by decide +kernel
theorem dX7_leapsOf_7 : decode cX7_leapsOf 7 = .ok (.iload_n 2, 1) := by decide +kernel
theorem dX7_leapsOf_8 : decode cX7_leapsOf 8 = .ok (.iconst 3, 1) := by decide +kernel
theorem dX7_leapsOf_9 : decode cX7_leapsOf 9 = .ok (.idiv, 1) := by decide +kernel
theorem dX7_leapsOf_10 : decode cX7_leapsOf 10 = .ok (.iconst 1, 1) := by decide +kernel
theorem dX7_leapsOf_11 : decode cX7_leapsOf 11 = .ok (.iadd, 1) := by decide +kernel
theorem dX7_leapsOf_12 : decode cX7_leapsOf 12 = .ok (.istore_n 3, 1) := by decide +kernel
theorem dX7_leapsOf_13 : decode cX7_leapsOf 13 = .ok (.aload_n 0, 1) := by decide +kernel
theorem dX7_leapsOf_14 : decode cX7_leapsOf 14 = .ok (.getfield 17, 3) := by decide +kernel
theorem dX7_leapsOf_17 : decode cX7_leapsOf 17 = .ok (.iload_n 1, 1) := by decide +kernel
theorem dX7_leapsOf_18 : decode cX7_leapsOf 18 = .ok (.iaload, 1) := by decide +kernel
theorem dX7_leapsOf_19 : decode cX7_leapsOf 19 = .ok (.tableswitch 70 1 7 #[41, 70, 43, 47, 49, 53, 59], 41) := by decide +kernel
theorem dX7_leapsOf_60 : decode cX7_leapsOf 60 = .ok (.iload_n 3, 1) := by decide +kernel
theorem dX7_leapsOf_61 : decode cX7_leapsOf 61 = .ok (.ireturn, 1) := by decide +kernel
theorem dX7_leapsOf_62 : decode cX7_leapsOf 62 = .ok (.iconst 2, 1) := by decide +kernel
theorem dX7_leapsOf_63 : decode cX7_leapsOf 63 = .ok (.iload_n 3, 1) := by decide +kernel
theorem dX7_leapsOf_64 : decode cX7_leapsOf 64 = .ok (.imul, 1) := by decide +kernel
theorem dX7_leapsOf_65 : decode cX7_leapsOf 65 = .ok (.ireturn, 1) := by decide +kernel
theorem dX7_leapsOf_66 : decode cX7_leapsOf 66 = .ok (.iconst 0, 1) := by decide +kernel
theorem dX7_leapsOf_67 : decode cX7_leapsOf 67 = .ok (.ireturn, 1) := by decide +kernel
theorem dX7_leapsOf_68 : decode cX7_leapsOf 68 = .ok (.iload_n 2, 1) := by decide +kernel
theorem dX7_leapsOf_69 : decode cX7_leapsOf 69 = .ok (.iconst 2, 1) := by decide +kernel
theorem dX7_leapsOf_70 : decode cX7_leapsOf 70 = .ok (.idiv, 1) := by decide +kernel
theorem dX7_leapsOf_71 : decode cX7_leapsOf 71 = .ok (.ireturn, 1) := by decide +kernel
theorem dX7_leapsOf_72 : decode cX7_leapsOf 72 = .ok (.iconst 2, 1) := by decide +kernel
theorem dX7_leapsOf_73 : decode cX7_leapsOf 73 = .ok (.iload_n 3, 1) := by decide +kernel
theorem dX7_leapsOf_74 : decode cX7_leapsOf 74 = .ok (.imul, 1) := by decide +kernel
theorem dX7_leapsOf_75 : decode cX7_leapsOf 75 = .ok (.iconst 1, 1) := by decide +kernel
theorem dX7_leapsOf_76 : decode cX7_leapsOf 76 = .ok (.iadd, 1) := by decide +kernel
theorem dX7_leapsOf_77 : decode cX7_leapsOf 77 = .ok (.ireturn, 1) := by decide +kernel
theorem dX7_leapsOf_78 : decode cX7_leapsOf 78 = .ok (.iload_n 2, 1) := by decide +kernel
theorem dX7_leapsOf_79 : decode cX7_leapsOf 79 = .ok (.iconst 2, 1) := by decide +kernel
theorem dX7_leapsOf_80 : decode cX7_leapsOf 80 = .ok (.idiv, 1) := by decide +kernel
theorem dX7_leapsOf_81 : decode cX7_leapsOf 81 = .ok (.iconst 1, 1) := by decide +kernel
theorem dX7_leapsOf_82 : decode cX7_leapsOf 82 = .ok (.isub, 1) := by decide +kernel
theorem dX7_leapsOf_83 : decode cX7_leapsOf 83 = .ok (.bipush 9, 2) := by decide +kernel
theorem dX7_leapsOf_85 : decode cX7_leapsOf 85 = .ok (.invokestatic 133, 3) := by decide +kernel
theorem dX7_leapsOf_88 : decode cX7_leapsOf 88 = .ok (.ireturn, 1) := by decide +kernel
theorem dX7_leapsOf_89 : decode cX7_leapsOf 89 = .ok (.iconst 1, 1) := by decide +kernel
theorem dX7_leapsOf_90 : decode cX7_leapsOf 90 = .ok (.ireturn, 1) := by decide +kernel
theorem dX7_gustOf_0 : decode cX7_gustOf 0 = .ok (.fload_n 0, 1) := by decide +kernel
theorem dX7_gustOf_1 : decode cX7_gustOf 1 = .ok (.ldc 137, 2) := by decide +kernel
theorem dX7_gustOf_3 : decode cX7_gustOf 3 = .ok (.fmul, 1) := by decide +kernel
theorem dX7_gustOf_4 : decode cX7_gustOf 4 = .ok (.fstore_n 1, 1) := by decide +kernel
theorem dX7_gustOf_5 : decode cX7_gustOf 5 = .ok (.fload_n 1, 1) := by decide +kernel
theorem dX7_gustOf_6 : decode cX7_gustOf 6 = .ok (.ldc 138, 2) := by decide +kernel
theorem dX7_gustOf_8 : decode cX7_gustOf 8 = .ok (.fsub, 1) := by decide +kernel
theorem dX7_gustOf_9 : decode cX7_gustOf 9 = .ok (.freturn, 1) := by decide +kernel
theorem dX7_sighOf_0 : decode cX7_sighOf 0 = .ok (.iload_n 2, 1) := by decide +kernel
theorem dX7_sighOf_1 : decode cX7_sighOf 1 = .ok (.i2f, 1) := by decide +kernel
theorem dX7_sighOf_2 : decode cX7_sighOf 2 = .ok (.ldc 139, 2) := by decide +kernel
theorem dX7_sighOf_4 : decode cX7_sighOf 4 = .ok (.fmul, 1) := by decide +kernel
theorem dX7_sighOf_5 : decode cX7_sighOf 5 = .ok (.fstore_n 3, 1) := by decide +kernel
theorem dX7_sighOf_6 : decode cX7_sighOf 6 = .ok (.fload_n 1, 1) := by decide +kernel
theorem dX7_sighOf_7 : decode cX7_sighOf 7 = .ok (.fload_n 3, 1) := by decide +kernel
theorem dX7_sighOf_8 : decode cX7_sighOf 8 = .ok (.fsub, 1) := by decide +kernel
theorem dX7_sighOf_9 : decode cX7_sighOf 9 = .ok (.freturn, 1) := by decide +kernel
set_option maxRecDepth 20000 in
theorem ggX7_chilled_X7_gustOf : GoodIn wsX7_chilled wsX7_gustOf := goodIn_r _ [7, 3, 2] (by decide +kernel) (by decide +kernel)
set_option maxRecDepth 20000 in
theorem gX7_chilled_X7_gustOf : GoodIn wsX7_chilled (va_wsS RX7 140 yX7_gustOf wsX7_gustOf) := goodIn_app (goodIn_of _ (by decide +kernel)) ggX7_chilled_X7_gustOf
set_option maxRecDepth 20000 in
theorem ggX7_chilled_X7_sighOf : GoodIn wsX7_chilled wsX7_sighOf := goodIn_r _ [11, 12] (by decide +kernel) (by decide +kernel)
set_option maxRecDepth 20000 in
theorem gX7_chilled_X7_sighOf : GoodIn wsX7_chilled (wsV RX7 144 RX7 yX7_sighOf wsX7_sighOf) := goodIn_app (goodIn_of _ (by decide +kernel)) ggX7_chilled_X7_sighOf
theorem dX7_chilled_0 : decode cX7_chilled 0 = .ok (.fload_n 3, 1) := by decide +kernel
theorem dX7_chilled_1 : decode cX7_chilled 1 = .ok (.invokestatic 140, 3) := by decide +kernel
theorem dX7_chilled_4 : decode cX7_chilled 4 = .ok (.invokestatic 140, 3) := by decide +kernel
theorem dX7_chilled_7 : decode cX7_chilled 7 = .ok (.fstore 4, 2) := by decide +kernel
theorem dX7_chilled_9 : decode cX7_chilled 9 = .ok (.aload_n 0, 1) := by decide +kernel
theorem dX7_chilled_10 : decode cX7_chilled 10 = .ok (.fload_n 3, 1) := by decide +kernel
theorem dX7_chilled_11 : decode cX7_chilled 11 = .ok (.iload_n 2, 1) := by decide +kernel
theorem dX7_chilled_12 : decode cX7_chilled 12 = .ok (.invokevirtual 144, 3) := by decide +kernel
theorem dX7_chilled_15 : decode cX7_chilled 15 = .ok (.fstore 5, 2) := by decide +kernel
theorem dX7_chilled_17 : decode cX7_chilled 17 = .ok (.fload_n 3, 1) := by decide +kernel
theorem dX7_chilled_18 : decode cX7_chilled 18 = .ok (.iload_n 2, 1) := by decide +kernel
theorem dX7_chilled_19 : decode cX7_chilled 19 = .ok (.iconst 1, 1) := by decide +kernel
theorem dX7_chilled_20 : decode cX7_chilled 20 = .ok (.iadd, 1) := by decide +kernel
theorem dX7_chilled_21 : decode cX7_chilled 21 = .ok (.i2f, 1) := by decide +kernel
theorem dX7_chilled_22 : decode cX7_chilled 22 = .ok (.fdiv, 1) := by decide +kernel
theorem dX7_chilled_23 : decode cX7_chilled 23 = .ok (.fstore 6, 2) := by decide +kernel
theorem dX7_chilled_25 : decode cX7_chilled 25 = .ok (.iload_n 1, 1) := by decide +kernel
theorem dX7_chilled_26 : decode cX7_chilled 26 = .ok (.tableswitch 92 1 7 #[42, 47, 50, 53, 58, 61, 81], 42) := by decide +kernel
theorem dX7_chilled_68 : decode cX7_chilled 68 = .ok (.fload_n 3, 1) := by decide +kernel
theorem dX7_chilled_69 : decode cX7_chilled 69 = .ok (.invokestatic 140, 3) := by decide +kernel
theorem dX7_chilled_72 : decode cX7_chilled 72 = .ok (.freturn, 1) := by decide +kernel
theorem dX7_chilled_73 : decode cX7_chilled 73 = .ok (.fload 5, 2) := by decide +kernel
theorem dX7_chilled_75 : decode cX7_chilled 75 = .ok (.freturn, 1) := by decide +kernel
theorem dX7_chilled_76 : decode cX7_chilled 76 = .ok (.fload 4, 2) := by decide +kernel
theorem dX7_chilled_78 : decode cX7_chilled 78 = .ok (.freturn, 1) := by decide +kernel
theorem dX7_chilled_79 : decode cX7_chilled 79 = .ok (.fload 5, 2) := by decide +kernel
theorem dX7_chilled_81 : decode cX7_chilled 81 = .ok (.f2i, 1) := by decide +kernel
theorem dX7_chilled_82 : decode cX7_chilled 82 = .ok (.i2f, 1) := by decide +kernel
theorem dX7_chilled_83 : decode cX7_chilled 83 = .ok (.freturn, 1) := by decide +kernel
theorem dX7_chilled_84 : decode cX7_chilled 84 = .ok (.fload 6, 2) := by decide +kernel
theorem dX7_chilled_86 : decode cX7_chilled 86 = .ok (.freturn, 1) := by decide +kernel
theorem dX7_chilled_87 : decode cX7_chilled 87 = .ok (.aload_n 0, 1) := by decide +kernel
theorem dX7_chilled_88 : decode cX7_chilled 88 = .ok (.getfield 148, 3) := by decide +kernel
theorem dX7_chilled_91 : decode cX7_chilled 91 = .ok (.iconst 2, 1) := by decide +kernel
theorem dX7_chilled_92 : decode cX7_chilled 92 = .ok (.irem, 1) := by decide +kernel
theorem dX7_chilled_93 : decode cX7_chilled 93 = .ok (.iconst 1, 1) := by decide +kernel
theorem dX7_chilled_94 : decode cX7_chilled 94 = .ok (.if_icmp .ne 10, 3) := by decide +kernel
theorem dX7_chilled_97 : decode cX7_chilled 97 = .ok (.fload 4, 2) := by decide +kernel
theorem dX7_chilled_99 : decode cX7_chilled 99 = .ok (.fconst 1, 1) := by decide +kernel
theorem dX7_chilled_100 : decode cX7_chilled 100 = .ok (.fsub, 1) := by decide +kernel
theorem dX7_chilled_101 : decode cX7_chilled 101 = .ok (.goto 5, 3) := by decide +kernel
theorem dX7_chilled_104 : decode cX7_chilled 104 = .ok (.fload 4, 2) := by decide +kernel
theorem dX7_chilled_106 : decode cX7_chilled 106 = .ok (.freturn, 1) := by decide +kernel
theorem dX7_chilled_107 : decode cX7_chilled 107 = .ok (.fload_n 3, 1) := by decide +kernel
theorem dX7_chilled_108 : decode cX7_chilled 108 = .ok (.ldc 138, 2) := by decide +kernel
theorem dX7_chilled_110 : decode cX7_chilled 110 = .ok (.fmul, 1) := by decide +kernel
theorem dX7_chilled_111 : decode cX7_chilled 111 = .ok (.fload 6, 2) := by decide +kernel
theorem dX7_chilled_113 : decode cX7_chilled 113 = .ok (.ldc 138, 2) := by decide +kernel
theorem dX7_chilled_115 : decode cX7_chilled 115 = .ok (.fmul, 1) := by decide +kernel
theorem dX7_chilled_116 : decode cX7_chilled 116 = .ok (.fadd, 1) := by decide +kernel
theorem dX7_chilled_117 : decode cX7_chilled 117 = .ok (.freturn, 1) := by decide +kernel
theorem dX7_chilled_118 : decode cX7_chilled 118 = .ok (.fload_n 3, 1) := by decide +kernel
theorem dX7_chilled_119 : decode cX7_chilled 119 = .ok (.ldc 137, 2) := by decide +kernel
theorem dX7_chilled_121 : decode cX7_chilled 121 = .ok (.fmul, 1) := by decide +kernel
theorem dX7_chilled_122 : decode cX7_chilled 122 = .ok (.freturn, 1) := by decide +kernel
theorem dX7_stepped_0 : decode cX7_stepped 0 = .ok (.iload_n 0, 1) := by decide +kernel
theorem dX7_stepped_1 : decode cX7_stepped 1 = .ok (.tableswitch 93 0 5 #[39, 48, 55, 62, 69, 81], 39) := by decide +kernel
theorem dX7_stepped_40 : decode cX7_stepped 40 = .ok (.fload_n 2, 1) := by decide +kernel
theorem dX7_stepped_41 : decode cX7_stepped 41 = .ok (.fload_n 1, 1) := by decide +kernel
theorem dX7_stepped_42 : decode cX7_stepped 42 = .ok (.fload_n 2, 1) := by decide +kernel
theorem dX7_stepped_43 : decode cX7_stepped 43 = .ok (.fsub, 1) := by decide +kernel
theorem dX7_stepped_44 : decode cX7_stepped 44 = .ok (.ldc 139, 2) := by decide +kernel
theorem dX7_stepped_46 : decode cX7_stepped 46 = .ok (.fmul, 1) := by decide +kernel
theorem dX7_stepped_47 : decode cX7_stepped 47 = .ok (.fadd, 1) := by decide +kernel
theorem dX7_stepped_48 : decode cX7_stepped 48 = .ok (.freturn, 1) := by decide +kernel
theorem dX7_stepped_49 : decode cX7_stepped 49 = .ok (.fload_n 2, 1) := by decide +kernel
theorem dX7_stepped_50 : decode cX7_stepped 50 = .ok (.fload_n 1, 1) := by decide +kernel
theorem dX7_stepped_51 : decode cX7_stepped 51 = .ok (.ldc 118, 2) := by decide +kernel
theorem dX7_stepped_53 : decode cX7_stepped 53 = .ok (.fdiv, 1) := by decide +kernel
theorem dX7_stepped_54 : decode cX7_stepped 54 = .ok (.fmul, 1) := by decide +kernel
theorem dX7_stepped_55 : decode cX7_stepped 55 = .ok (.freturn, 1) := by decide +kernel
theorem dX7_stepped_56 : decode cX7_stepped 56 = .ok (.fload_n 2, 1) := by decide +kernel
theorem dX7_stepped_57 : decode cX7_stepped 57 = .ok (.fload_n 1, 1) := by decide +kernel
theorem dX7_stepped_58 : decode cX7_stepped 58 = .ok (.ldc 151, 2) := by decide +kernel
theorem dX7_stepped_60 : decode cX7_stepped 60 = .ok (.fdiv, 1) := by decide +kernel
theorem dX7_stepped_61 : decode cX7_stepped 61 = .ok (.fadd, 1) := by decide +kernel
theorem dX7_stepped_62 : decode cX7_stepped 62 = .ok (.freturn, 1) := by decide +kernel
theorem dX7_stepped_63 : decode cX7_stepped 63 = .ok (.fload_n 2, 1) := by decide +kernel
theorem dX7_stepped_64 : decode cX7_stepped 64 = .ok (.fload_n 1, 1) := by decide +kernel
theorem dX7_stepped_65 : decode cX7_stepped 65 = .ok (.ldc 151, 2) := by decide +kernel
theorem dX7_stepped_67 : decode cX7_stepped 67 = .ok (.fdiv, 1) := by decide +kernel
theorem dX7_stepped_68 : decode cX7_stepped 68 = .ok (.fsub, 1) := by decide +kernel
theorem dX7_stepped_69 : decode cX7_stepped 69 = .ok (.freturn, 1) := by decide +kernel
theorem dX7_stepped_70 : decode cX7_stepped 70 = .ok (.fload_n 2, 1) := by decide +kernel
theorem dX7_stepped_71 : decode cX7_stepped 71 = .ok (.fload_n 1, 1) := by decide +kernel
theorem dX7_stepped_72 : decode cX7_stepped 72 = .ok (.fcmp .g, 1) := by decide +kernel
theorem dX7_stepped_73 : decode cX7_stepped 73 = .ok (.ifCond .ge 7, 3) := by decide +kernel
theorem dX7_stepped_76 : decode cX7_stepped 76 = .ok (.fload_n 1, 1) := by decide +kernel
theorem dX7_stepped_77 : decode cX7_stepped 77 = .ok (.goto 4, 3) := by decide +kernel
theorem dX7_stepped_80 : decode cX7_stepped 80 = .ok (.fload_n 2, 1) := by decide +kernel
theorem dX7_stepped_81 : decode cX7_stepped 81 = .ok (.freturn, 1) := by decide +kernel
theorem dX7_stepped_82 : decode cX7_stepped 82 = .ok (.fload_n 2, 1) := by decide +kernel
theorem dX7_stepped_83 : decode cX7_stepped 83 = .ok (.fload_n 1, 1) := by decide +kernel
theorem dX7_stepped_84 : decode cX7_stepped 84 = .ok (.fcmp .l, 1) := by decide +kernel
theorem dX7_stepped_85 : decode cX7_stepped 85 = .ok (.ifCond .le 7, 3) := by decide +kernel
theorem dX7_stepped_88 : decode cX7_stepped 88 = .ok (.fload_n 1, 1) := by decide +kernel
theorem dX7_stepped_89 : decode cX7_stepped 89 = .ok (.goto 4, 3) := by decide +kernel
theorem dX7_stepped_92 : decode cX7_stepped 92 = .ok (.fload_n 2, 1) := by decide +kernel
theorem dX7_stepped_93 : decode cX7_stepped 93 = .ok (.freturn, 1) := by decide +kernel
theorem dX7_stepped_94 : decode cX7_stepped 94 = .ok (.fload_n 2, 1) := by decide +kernel
theorem dX7_stepped_95 : decode cX7_stepped 95 = .ok (.f2i, 1) := by decide +kernel
theorem dX7_stepped_96 : decode cX7_stepped 96 = .ok (.i2f, 1) := by decide +kernel
theorem dX7_stepped_97 : decode cX7_stepped 97 = .ok (.freturn, 1) := by decide +kernel
theorem dX7_airOn_0 : decode cX7_airOn 0 = .ok (.bipush (-9), 2) := by decide +kernel
theorem dX7_airOn_2 : decode cX7_airOn 2 = .ok (.istore_n 2, 1) := by decide +kernel
theorem dX7_airOn_3 : decode cX7_airOn 3 = .ok (.aload_n 0, 1) := by decide +kernel
theorem dX7_airOn_4 : decode cX7_airOn 4 = .ok (.getfield 119, 3) := by decide +kernel
theorem dX7_airOn_7 : decode cX7_airOn 7 = .ok (.iconst 1, 1) := by decide +kernel
theorem dX7_airOn_8 : decode cX7_airOn 8 = .ok (.isub, 1) := by decide +kernel
theorem dX7_airOn_9 : decode cX7_airOn 9 = .ok (.istore_n 3, 1) := by decide +kernel
theorem dX7_airOn_10 : decode cX7_airOn 10 = .ok (.iload_n 3, 1) := by decide +kernel
theorem dX7_airOn_11 : decode cX7_airOn 11 = .ok (.ifCond .lt 25, 3) := by decide +kernel
theorem dX7_airOn_14 : decode cX7_airOn 14 = .ok (.aload_n 0, 1) := by decide +kernel
theorem dX7_airOn_15 : decode cX7_airOn 15 = .ok (.getfield 23, 3) := by decide +kernel
theorem dX7_airOn_18 : decode cX7_airOn 18 = .ok (.iload_n 3, 1) := by decide +kernel
theorem dX7_airOn_19 : decode cX7_airOn 19 = .ok (.iaload, 1) := by decide +kernel
theorem dX7_airOn_20 : decode cX7_airOn 20 = .ok (.iload_n 1, 1) := by decide +kernel
theorem dX7_airOn_21 : decode cX7_airOn 21 = .ok (.if_icmp .ne 7, 3) := by decide +kernel
theorem dX7_airOn_24 : decode cX7_airOn 24 = .ok (.iload_n 3, 1) := by decide +kernel
theorem dX7_airOn_25 : decode cX7_airOn 25 = .ok (.goto 4, 3) := by decide +kernel
theorem dX7_airOn_28 : decode cX7_airOn 28 = .ok (.iload_n 2, 1) := by decide +kernel
theorem dX7_airOn_29 : decode cX7_airOn 29 = .ok (.istore_n 2, 1) := by decide +kernel
theorem dX7_airOn_30 : decode cX7_airOn 30 = .ok (.iinc 3 (-1), 3) := by decide +kernel
theorem dX7_airOn_33 : decode cX7_airOn 33 = .ok (.goto (-23), 3) := by decide +kernel
theorem dX7_airOn_36 : decode cX7_airOn 36 = .ok (.iload_n 2, 1) := by decide +kernel
theorem dX7_airOn_37 : decode cX7_airOn 37 = .ok (.ireturn, 1) := by decide +kernel
theorem dX7_sitterOn_0 : decode cX7_sitterOn 0 = .ok (.bipush (-9), 2) := by decide +kernel
theorem dX7_sitterOn_2 : decode cX7_sitterOn 2 = .ok (.istore_n 2, 1) := by decide +kernel
theorem dX7_sitterOn_3 : decode cX7_sitterOn 3 = .ok (.aload_n 0, 1) := by decide +kernel
theorem dX7_sitterOn_4 : decode cX7_sitterOn 4 = .ok (.getfield 126, 3) := by decide +kernel
theorem dX7_sitterOn_7 : decode cX7_sitterOn 7 = .ok (.iconst 1, 1) := by decide +kernel
theorem dX7_sitterOn_8 : decode cX7_sitterOn 8 = .ok (.isub, 1) := by decide +kernel
theorem dX7_sitterOn_9 : decode cX7_sitterOn 9 = .ok (.istore_n 3, 1) := by decide +kernel
theorem dX7_sitterOn_10 : decode cX7_sitterOn 10 = .ok (.iload_n 3, 1) := by decide +kernel
theorem dX7_sitterOn_11 : decode cX7_sitterOn 11 = .ok (.ifCond .lt 35, 3) := by decide +kernel
theorem dX7_sitterOn_14 : decode cX7_sitterOn 14 = .ok (.aload_n 0, 1) := by decide +kernel
theorem dX7_sitterOn_15 : decode cX7_sitterOn 15 = .ok (.getfield 32, 3) := by decide +kernel
theorem dX7_sitterOn_18 : decode cX7_sitterOn 18 = .ok (.iload_n 3, 1) := by decide +kernel
theorem dX7_sitterOn_19 : decode cX7_sitterOn 19 = .ok (.iaload, 1) := by decide +kernel
theorem dX7_sitterOn_20 : decode cX7_sitterOn 20 = .ok (.iload_n 1, 1) := by decide +kernel
theorem dX7_sitterOn_21 : decode cX7_sitterOn 21 = .ok (.if_icmp .ne 17, 3) := by decide +kernel
theorem dX7_sitterOn_24 : decode cX7_sitterOn 24 = .ok (.aload_n 0, 1) := by decide +kernel
theorem dX7_sitterOn_25 : decode cX7_sitterOn 25 = .ok (.getfield 38, 3) := by decide +kernel
theorem dX7_sitterOn_28 : decode cX7_sitterOn 28 = .ok (.iload_n 3, 1) := by decide +kernel
theorem dX7_sitterOn_29 : decode cX7_sitterOn 29 = .ok (.iaload, 1) := by decide +kernel
theorem dX7_sitterOn_30 : decode cX7_sitterOn 30 = .ok (.iconst 1, 1) := by decide +kernel
theorem dX7_sitterOn_31 : decode cX7_sitterOn 31 = .ok (.if_icmp .ne 7, 3) := by decide +kernel
theorem dX7_sitterOn_34 : decode cX7_sitterOn 34 = .ok (.iload_n 3, 1) := by decide +kernel
theorem dX7_sitterOn_35 : decode cX7_sitterOn 35 = .ok (.goto 4, 3) := by decide +kernel
theorem dX7_sitterOn_38 : decode cX7_sitterOn 38 = .ok (.iload_n 2, 1) := by decide +kernel
theorem dX7_sitterOn_39 : decode cX7_sitterOn 39 = .ok (.istore_n 2, 1) := by decide +kernel
theorem dX7_sitterOn_40 : decode cX7_sitterOn 40 = .ok (.iinc 3 (-1), 3) := by decide +kernel
theorem dX7_sitterOn_43 : decode cX7_sitterOn 43 = .ok (.goto (-33), 3) := by decide +kernel
theorem dX7_sitterOn_46 : decode cX7_sitterOn 46 = .ok (.iload_n 2, 1) := by decide +kernel
theorem dX7_sitterOn_47 : decode cX7_sitterOn 47 = .ok (.ireturn, 1) := by decide +kernel
set_option maxRecDepth 20000 in
theorem ggX7_isEmpty_X7_airOn : GoodIn wsX7_isEmpty wsX7_airOn := goodIn_r _ [5, 6, 7, 15, 16, 17, 18, 19, 20, 21, 22, 23, 24, 25, 26, 27, 28, 29, 30, 31, 32, 33, 34, 35, 36, 37, 38, 39, 40, 41, 42, 43, 44, 45, 46, 47, 48, 49, 50, 51, 52, 53, 54, 55, 56, 57, 58, 59, 60, 61, 62, 63, 64, 65, 66, 67] (by decide +kernel) (by decide +kernel)
set_option maxRecDepth 20000 in
theorem gX7_isEmpty_X7_airOn : GoodIn wsX7_isEmpty (wsV RX7 152 RX7 yX7_airOn wsX7_airOn) := goodIn_app (goodIn_of _ (by decide +kernel)) ggX7_isEmpty_X7_airOn
set_option maxRecDepth 20000 in
theorem ggX7_isEmpty_X7_sitterOn : GoodIn wsX7_isEmpty wsX7_sitterOn := goodIn_r _ [11, 12, 13, 14, 15, 16, 17, 18, 19, 20, 21, 22, 23, 24, 25, 26, 27, 28, 29, 30, 31, 32, 33, 34, 35, 36, 37, 38, 39, 40, 41, 42, 43, 44, 45, 46, 47, 48, 49, 50, 51, 52, 53, 54, 55, 56, 57, 58, 59, 60, 61, 62, 63, 64, 65, 66, 67] (by decide +kernel) (by decide +kernel)
set_option maxRecDepth 20000 in
theorem gX7_isEmpty_X7_sitterOn : GoodIn wsX7_isEmpty (wsV RX7 156 RX7 yX7_sitterOn wsX7_sitterOn) := goodIn_app (goodIn_of _ (by decide +kernel)) ggX7_isEmpty_X7_sitterOn
theorem dX7_isEmpty_0 : decode cX7_isEmpty 0 = .ok (.aload_n 0, 1) := by decide +kernel
theorem dX7_isEmpty_1 : decode cX7_isEmpty 1 = .ok (.iload_n 1, 1) := by decide +kernel
theorem dX7_isEmpty_2 : decode cX7_isEmpty 2 = .ok (.invokevirtual 152, 3) := by decide +kernel
theorem dX7_isEmpty_5 : decode cX7_isEmpty 5 = .ok (.ifCond .ge 15, 3) := by decide +kernel
theorem dX7_isEmpty_8 : decode cX7_isEmpty 8 = .ok (.aload_n 0, 1) := by decide +kernel
theorem dX7_isEmpty_9 : decode cX7_isEmpty 9 = .ok (.iload_n 1, 1) := by decide +kernel
theorem dX7_isEmpty_10 : decode cX7_isEmpty 10 = .ok (.invokevirtual 156, 3) := by decide +kernel
theorem dX7_isEmpty_13 : decode cX7_isEmpty 13 = .ok (.ifCond .ge 7, 3) := by decide +kernel
theorem dX7_isEmpty_16 : decode cX7_isEmpty 16 = .ok (.iconst 1, 1) := by decide +kernel
theorem dX7_isEmpty_17 : decode cX7_isEmpty 17 = .ok (.goto 4, 3) := by decide +kernel
theorem dX7_isEmpty_20 : decode cX7_isEmpty 20 = .ok (.iconst 0, 1) := by decide +kernel
theorem dX7_isEmpty_21 : decode cX7_isEmpty 21 = .ok (.ireturn, 1) := by decide +kernel
set_option maxRecDepth 20000 in
theorem ggX7_isFree_X7_isEmpty : GoodIn wsX7_isFree wsX7_isEmpty := goodIn_r _ [6, 7, 8, 9, 5, 10, 11, 12, 13, 14, 15, 16, 17, 18, 19, 20, 21, 22, 23, 24, 25, 26, 27, 28, 29, 30, 31, 32, 33, 34, 35, 36, 37, 38, 39, 40, 41, 42, 43, 44, 45, 46, 47, 48, 49, 50, 51, 52, 53, 54, 55, 56, 57, 58, 59, 60, 61, 62, 63, 64, 65, 66, 67, 68, 69, 70, 71, 72] (by decide +kernel) (by decide +kernel)
set_option maxRecDepth 20000 in
theorem gX7_isFree_X7_isEmpty : GoodIn wsX7_isFree (wsV RX7 159 RX7 yX7_isEmpty wsX7_isEmpty) := goodIn_app (goodIn_of _ (by decide +kernel)) ggX7_isFree_X7_isEmpty
theorem dX7_isFree_0 : decode cX7_isFree 0 = .ok (.aload_n 0, 1) := by decide +kernel
theorem dX7_isFree_1 : decode cX7_isFree 1 = .ok (.getfield 13, 3) := by decide +kernel
theorem dX7_isFree_4 : decode cX7_isFree 4 = .ok (.iload_n 1, 1) := by decide +kernel
theorem dX7_isFree_5 : decode cX7_isFree 5 = .ok (.iaload, 1) := by decide +kernel
theorem dX7_isFree_6 : decode cX7_isFree 6 = .ok (.ifCond .ne 15, 3) := by decide +kernel
theorem dX7_isFree_9 : decode cX7_isFree 9 = .ok (.aload_n 0, 1) := by decide +kernel
theorem dX7_isFree_10 : decode cX7_isFree 10 = .ok (.iload_n 1, 1) := by decide +kernel
theorem dX7_isFree_11 : decode cX7_isFree 11 = .ok (.invokevirtual 159, 3) := by decide +kernel
theorem dX7_isFree_14 : decode cX7_isFree 14 = .ok (.ifCond .eq 7, 3) := by decide +kernel
theorem dX7_isFree_17 : decode cX7_isFree 17 = .ok (.iconst 1, 1) := by decide +kernel
theorem dX7_isFree_18 : decode cX7_isFree 18 = .ok (.goto 4, 3) := by decide +kernel
theorem dX7_isFree_21 : decode cX7_isFree 21 = .ok (.iconst 0, 1) := by decide +kernel
theorem dX7_isFree_22 : decode cX7_isFree 22 = .ok (.ireturn, 1) := by decide +kernel
set_option maxRecDepth 20000 in
theorem ggX7_awayOf_X7_in : GoodIn wsX7_awayOf wsX7_in := goodIn_r _ [5] (by decide +kernel) (by decide +kernel)
set_option maxRecDepth 20000 in
theorem gX7_awayOf_X7_in : GoodIn wsX7_awayOf (va_wsS RX7 122 yX7_in wsX7_in) := goodIn_app (goodIn_of _ (by decide +kernel)) ggX7_awayOf_X7_in
theorem dX7_awayOf_0 : decode cX7_awayOf 0 = .ok (.iload_n 0, 1) := by decide +kernel
theorem dX7_awayOf_1 : decode cX7_awayOf 1 = .ok (.bipush 6, 2) := by decide +kernel
theorem dX7_awayOf_3 : decode cX7_awayOf 3 = .ok (.idiv, 1) := by decide +kernel
theorem dX7_awayOf_4 : decode cX7_awayOf 4 = .ok (.iload_n 1, 1) := by decide +kernel
theorem dX7_awayOf_5 : decode cX7_awayOf 5 = .ok (.iconst 1, 1) := by decide +kernel
theorem dX7_awayOf_6 : decode cX7_awayOf 6 = .ok (.if_icmp .eq 8, 3) := by decide +kernel
theorem dX7_awayOf_9 : decode cX7_awayOf 9 = .ok (.iload_n 1, 1) := by decide +kernel
theorem dX7_awayOf_10 : decode cX7_awayOf 10 = .ok (.iconst 2, 1) := by decide +kernel
theorem dX7_awayOf_11 : decode cX7_awayOf 11 = .ok (.if_icmp .ne 7, 3) := by decide +kernel
theorem dX7_awayOf_14 : decode cX7_awayOf 14 = .ok (.iload_n 2, 1) := by decide +kernel
theorem dX7_awayOf_15 : decode cX7_awayOf 15 = .ok (.goto 5, 3) := by decide +kernel
theorem dX7_awayOf_18 : decode cX7_awayOf 18 = .ok (.iload_n 2, 1) := by decide +kernel
theorem dX7_awayOf_19 : decode cX7_awayOf 19 = .ok (.ineg, 1) := by decide +kernel
theorem dX7_awayOf_20 : decode cX7_awayOf 20 = .ok (.iadd, 1) := by decide +kernel
theorem dX7_awayOf_21 : decode cX7_awayOf 21 = .ok (.istore_n 3, 1) := by decide +kernel
theorem dX7_awayOf_22 : decode cX7_awayOf 22 = .ok (.iload_n 0, 1) := by decide +kernel
theorem dX7_awayOf_23 : decode cX7_awayOf 23 = .ok (.bipush 6, 2) := by decide +kernel
theorem dX7_awayOf_25 : decode cX7_awayOf 25 = .ok (.irem, 1) := by decide +kernel
theorem dX7_awayOf_26 : decode cX7_awayOf 26 = .ok (.iload_n 1, 1) := by decide +kernel
theorem dX7_awayOf_27 : decode cX7_awayOf 27 = .ok (.iconst 2, 1) := by decide +kernel
theorem dX7_awayOf_28 : decode cX7_awayOf 28 = .ok (.if_icmp .ge 7, 3) := by decide +kernel
theorem dX7_awayOf_31 : decode cX7_awayOf 31 = .ok (.iload_n 2, 1) := by decide +kernel
theorem dX7_awayOf_32 : decode cX7_awayOf 32 = .ok (.goto 5, 3) := by decide +kernel
theorem dX7_awayOf_35 : decode cX7_awayOf 35 = .ok (.iload_n 2, 1) := by decide +kernel
theorem dX7_awayOf_36 : decode cX7_awayOf 36 = .ok (.ineg, 1) := by decide +kernel
theorem dX7_awayOf_37 : decode cX7_awayOf 37 = .ok (.iadd, 1) := by decide +kernel
theorem dX7_awayOf_38 : decode cX7_awayOf 38 = .ok (.istore 4, 2) := by decide +kernel
theorem dX7_awayOf_40 : decode cX7_awayOf 40 = .ok (.iload_n 3, 1) := by decide +kernel
theorem dX7_awayOf_41 : decode cX7_awayOf 41 = .ok (.i2l, 1) := by decide +kernel
theorem dX7_awayOf_42 : decode cX7_awayOf 42 = .ok (.lconst 0, 1) := by decide +kernel
theorem dX7_awayOf_43 : decode cX7_awayOf 43 = .ok (.ldc2_w 163, 3) := by decide +kernel
theorem dX7_awayOf_46 : decode cX7_awayOf 46 = .ok (.invokestatic 122, 3) := by decide +kernel
theorem dX7_awayOf_49 : decode cX7_awayOf 49 = .ok (.ifCond .eq 26, 3) := by decide +kernel
theorem dX7_awayOf_52 : decode cX7_awayOf 52 = .ok (.iload 4, 2) := by decide +kernel
theorem dX7_awayOf_54 : decode cX7_awayOf 54 = .ok (.i2l, 1) := by decide +kernel
theorem dX7_awayOf_55 : decode cX7_awayOf 55 = .ok (.lconst 0, 1) := by decide +kernel
theorem dX7_awayOf_56 : decode cX7_awayOf 56 = .ok (.ldc2_w 163, 3) := by decide +kernel
theorem dX7_awayOf_59 : decode cX7_awayOf 59 = .ok (.invokestatic 122, 3) := by decide +kernel
theorem dX7_awayOf_62 : decode cX7_awayOf 62 = .ok (.ifCond .eq 13, 3) := by decide +kernel
theorem dX7_awayOf_65 : decode cX7_awayOf 65 = .ok (.bipush 6, 2) := by decide +kernel
theorem dX7_awayOf_67 : decode cX7_awayOf 67 = .ok (.iload_n 3, 1) := by decide +kernel
theorem dX7_awayOf_68 : decode cX7_awayOf 68 = .ok (.imul, 1) := by decide +kernel
theorem dX7_awayOf_69 : decode cX7_awayOf 69 = .ok (.iload 4, 2) := by decide +kernel
theorem dX7_awayOf_71 : decode cX7_awayOf 71 = .ok (.iadd, 1) := by decide +kernel
theorem dX7_awayOf_72 : decode cX7_awayOf 72 = .ok (.goto 4, 3) := by decide +kernel
theorem dX7_awayOf_75 : decode cX7_awayOf 75 = .ok (.iconst (-1), 1) := by decide +kernel
theorem dX7_awayOf_76 : decode cX7_awayOf 76 = .ok (.ireturn, 1) := by decide +kernel
theorem dX7_onBits_0 : decode cX7_onBits 0 = .ok (.iconst 0, 1) := by decide +kernel
theorem dX7_onBits_1 : decode cX7_onBits 1 = .ok (.istore_n 1, 1) := by decide +kernel
theorem dX7_onBits_2 : decode cX7_onBits 2 = .ok (.iconst 0, 1) := by decide +kernel
theorem dX7_onBits_3 : decode cX7_onBits 3 = .ok (.istore_n 2, 1) := by decide +kernel
theorem dX7_onBits_4 : decode cX7_onBits 4 = .ok (.iload_n 2, 1) := by decide +kernel
theorem dX7_onBits_5 : decode cX7_onBits 5 = .ok (.aload_n 0, 1) := by decide +kernel
theorem dX7_onBits_6 : decode cX7_onBits 6 = .ok (.getfield 126, 3) := by decide +kernel
theorem dX7_onBits_9 : decode cX7_onBits 9 = .ok (.if_icmp .ge 20, 3) := by decide +kernel
theorem dX7_onBits_12 : decode cX7_onBits 12 = .ok (.iload_n 1, 1) := by decide +kernel
theorem dX7_onBits_13 : decode cX7_onBits 13 = .ok (.aload_n 0, 1) := by decide +kernel
theorem dX7_onBits_14 : decode cX7_onBits 14 = .ok (.getfield 38, 3) := by decide +kernel
theorem dX7_onBits_17 : decode cX7_onBits 17 = .ok (.iload_n 2, 1) := by decide +kernel
theorem dX7_onBits_18 : decode cX7_onBits 18 = .ok (.iaload, 1) := by decide +kernel
theorem dX7_onBits_19 : decode cX7_onBits 19 = .ok (.iload_n 2, 1) := by decide +kernel
theorem dX7_onBits_20 : decode cX7_onBits 20 = .ok (.ishl, 1) := by decide +kernel
theorem dX7_onBits_21 : decode cX7_onBits 21 = .ok (.ior, 1) := by decide +kernel
theorem dX7_onBits_22 : decode cX7_onBits 22 = .ok (.istore_n 1, 1) := by decide +kernel
theorem dX7_onBits_23 : decode cX7_onBits 23 = .ok (.iinc 2 1, 3) := by decide +kernel
theorem dX7_onBits_26 : decode cX7_onBits 26 = .ok (.goto (-22), 3) := by decide +kernel
theorem dX7_onBits_29 : decode cX7_onBits 29 = .ok (.iload_n 1, 1) := by decide +kernel
theorem dX7_onBits_30 : decode cX7_onBits 30 = .ok (.ireturn, 1) := by decide +kernel
set_option maxRecDepth 20000 in
theorem ggX7_airComes_X7_chilled : GoodIn wsX7_airComes wsX7_chilled := goodIn_r _ [10, 11, 12, 13, 14, 15, 9, 16, 17, 18, 19, 20, 21, 27, 28, 29, 30, 31, 32, 33, 34, 35, 36, 37, 38, 39, 40, 41, 42, 43, 44, 45, 46, 47, 48, 49, 50, 51, 52, 53, 54, 55, 56, 57, 58, 59, 60, 61, 62, 63, 64, 65, 66, 67, 68, 69, 70, 71, 72, 73, 74, 75, 76, 77, 78, 79] (by decide +kernel) (by decide +kernel)
set_option maxRecDepth 20000 in
theorem gX7_airComes_X7_chilled : GoodIn wsX7_airComes (wsV RX7 165 RX7 yX7_chilled wsX7_chilled) := goodIn_app (goodIn_of _ (by decide +kernel)) ggX7_airComes_X7_chilled
set_option maxRecDepth 20000 in
theorem ggX7_airComes_X7_heldWarm : GoodIn wsX7_airComes wsX7_heldWarm := goodIn_r _ [24, 25, 26] (by decide +kernel) (by decide +kernel)
set_option maxRecDepth 20000 in
theorem gX7_airComes_X7_heldWarm : GoodIn wsX7_airComes (va_wsS RX7 169 yX7_heldWarm wsX7_heldWarm) := goodIn_app (goodIn_of _ (by decide +kernel)) ggX7_airComes_X7_heldWarm
theorem dX7_airComes_0 : decode cX7_airComes 0 = .ok (.aload_n 0, 1) := by decide +kernel
theorem dX7_airComes_1 : decode cX7_airComes 1 = .ok (.getfield 23, 3) := by decide +kernel
theorem dX7_airComes_4 : decode cX7_airComes 4 = .ok (.iload_n 1, 1) := by decide +kernel
theorem dX7_airComes_5 : decode cX7_airComes 5 = .ok (.iload_n 2, 1) := by decide +kernel
theorem dX7_airComes_6 : decode cX7_airComes 6 = .ok (.iastore, 1) := by decide +kernel
theorem dX7_airComes_7 : decode cX7_airComes 7 = .ok (.aload_n 0, 1) := by decide +kernel
theorem dX7_airComes_8 : decode cX7_airComes 8 = .ok (.getfield 26, 3) := by decide +kernel
theorem dX7_airComes_11 : decode cX7_airComes 11 = .ok (.iload_n 1, 1) := by decide +kernel
theorem dX7_airComes_12 : decode cX7_airComes 12 = .ok (.iload_n 3, 1) := by decide +kernel
theorem dX7_airComes_13 : decode cX7_airComes 13 = .ok (.iastore, 1) := by decide +kernel
theorem dX7_airComes_14 : decode cX7_airComes 14 = .ok (.aload_n 0, 1) := by decide +kernel
theorem dX7_airComes_15 : decode cX7_airComes 15 = .ok (.getfield 7, 3) := by decide +kernel
theorem dX7_airComes_18 : decode cX7_airComes 18 = .ok (.iload_n 2, 1) := by decide +kernel
theorem dX7_airComes_19 : decode cX7_airComes 19 = .ok (.aload_n 0, 1) := by decide +kernel
theorem dX7_airComes_20 : decode cX7_airComes 20 = .ok (.aload_n 0, 1) := by decide +kernel
theorem dX7_airComes_21 : decode cX7_airComes 21 = .ok (.getfield 17, 3) := by decide +kernel
theorem dX7_airComes_24 : decode cX7_airComes 24 = .ok (.iload_n 1, 1) := by decide +kernel
theorem dX7_airComes_25 : decode cX7_airComes 25 = .ok (.iaload, 1) := by decide +kernel
theorem dX7_airComes_26 : decode cX7_airComes 26 = .ok (.aload_n 0, 1) := by decide +kernel
theorem dX7_airComes_27 : decode cX7_airComes 27 = .ok (.getfield 20, 3) := by decide +kernel
theorem dX7_airComes_30 : decode cX7_airComes 30 = .ok (.iload_n 1, 1) := by decide +kernel
theorem dX7_airComes_31 : decode cX7_airComes 31 = .ok (.iaload, 1) := by decide +kernel
theorem dX7_airComes_32 : decode cX7_airComes 32 = .ok (.aload_n 0, 1) := by decide +kernel
theorem dX7_airComes_33 : decode cX7_airComes 33 = .ok (.getfield 7, 3) := by decide +kernel
theorem dX7_airComes_36 : decode cX7_airComes 36 = .ok (.iload_n 2, 1) := by decide +kernel
theorem dX7_airComes_37 : decode cX7_airComes 37 = .ok (.faload, 1) := by decide +kernel
theorem dX7_airComes_38 : decode cX7_airComes 38 = .ok (.invokevirtual 165, 3) := by decide +kernel
theorem dX7_airComes_41 : decode cX7_airComes 41 = .ok (.invokestatic 169, 3) := by decide +kernel
theorem dX7_airComes_44 : decode cX7_airComes 44 = .ok (.fastore, 1) := by decide +kernel
theorem dX7_airComes_45 : decode cX7_airComes 45 = .ok (.return_, 1) := by decide +kernel
theorem dX7_triesOf_0 : decode cX7_triesOf 0 = .ok (.iload_n 0, 1) := by decide +kernel
theorem dX7_triesOf_1 : decode cX7_triesOf 1 = .ok (.iconst 1, 1) := by decide +kernel
theorem dX7_triesOf_2 : decode cX7_triesOf 2 = .ok (.if_icmp .ne 7, 3) := by decide +kernel
theorem dX7_triesOf_5 : decode cX7_triesOf 5 = .ok (.iconst 4, 1) := by decide +kernel
theorem dX7_triesOf_6 : decode cX7_triesOf 6 = .ok (.goto 4, 3) := by decide +kernel
theorem dX7_triesOf_9 : decode cX7_triesOf 9 = .ok (.iconst 2, 1) := by decide +kernel
theorem dX7_triesOf_10 : decode cX7_triesOf 10 = .ok (.ireturn, 1) := by decide +kernel
set_option maxRecDepth 20000 in
theorem ggX7_leapsOnce_X7_triesOf : GoodIn wsX7_leapsOnce wsX7_triesOf := goodIn_r _ [10] (by decide +kernel) (by decide +kernel)
set_option maxRecDepth 20000 in
theorem gX7_leapsOnce_X7_triesOf : GoodIn wsX7_leapsOnce (va_wsS RX7 172 yX7_triesOf wsX7_triesOf) := goodIn_app (goodIn_of _ (by decide +kernel)) ggX7_leapsOnce_X7_triesOf
set_option maxRecDepth 20000 in
theorem ggX7_leapsOnce_X7_awayOf : GoodIn wsX7_leapsOnce wsX7_awayOf := goodIn_r _ [13, 14, 15, 16, 9, 17] (by decide +kernel) (by decide +kernel)
set_option maxRecDepth 20000 in
theorem gX7_leapsOnce_X7_awayOf : GoodIn wsX7_leapsOnce (va_wsS RX7 175 yX7_awayOf wsX7_awayOf) := goodIn_app (goodIn_of _ (by decide +kernel)) ggX7_leapsOnce_X7_awayOf
set_option maxRecDepth 20000 in
theorem ggX7_leapsOnce_X7_sitterOn : GoodIn wsX7_leapsOnce wsX7_sitterOn := goodIn_r _ [21, 22, 23, 5, 68, 69, 70, 71, 72, 73, 74, 75, 76, 77, 78, 79, 80, 81, 82, 83, 84, 85, 86, 87, 88, 89, 90, 91, 92, 93, 94, 95, 96, 97, 98, 99, 100, 101, 102, 103, 104, 105, 106, 107, 108, 109, 110, 111, 112, 113, 114, 115, 116, 117, 118, 119, 120] (by decide +kernel) (by decide +kernel)
set_option maxRecDepth 20000 in
theorem gX7_leapsOnce_X7_sitterOn : GoodIn wsX7_leapsOnce (wsV RX7 156 RX7 yX7_sitterOn wsX7_sitterOn) := goodIn_app (goodIn_of _ (by decide +kernel)) ggX7_leapsOnce_X7_sitterOn
set_option maxRecDepth 20000 in
theorem ggX7_leapsOnce_X7_isFree : GoodIn wsX7_leapsOnce wsX7_isFree := goodIn_r _ [27, 28, 29, 30, 31, 9, 32, 33, 34, 35, 36, 37, 3, 18, 19, 20, 21, 22, 23, 5, 68, 69, 70, 71, 72, 73, 74, 75, 76, 77, 78, 79, 80, 81, 82, 83, 84, 85, 86, 87, 88, 89, 90, 91, 92, 93, 94, 95, 96, 97, 98, 99, 100, 101, 102, 103, 104, 105, 106, 107, 108, 109, 110, 111, 112, 113, 114, 115, 116, 117, 118, 119, 120] (by decide +kernel) (by decide +kernel)
set_option maxRecDepth 20000 in
theorem gX7_leapsOnce_X7_isFree : GoodIn wsX7_leapsOnce (wsV RX7 179 RX7 yX7_isFree wsX7_isFree) := goodIn_app (goodIn_of _ (by decide +kernel)) ggX7_leapsOnce_X7_isFree
set_option maxRecDepth 20000 in
theorem ggX7_leapsOnce_X7_held : GoodIn wsX7_leapsOnce wsX7_held := goodIn_r _ [40] (by decide +kernel) (by decide +kernel)
set_option maxRecDepth 20000 in
theorem gX7_leapsOnce_X7_held : GoodIn wsX7_leapsOnce (va_wsS RX7 133 yX7_held wsX7_held) := goodIn_app (goodIn_of _ (by decide +kernel)) ggX7_leapsOnce_X7_held
set_option maxRecDepth 20000 in
theorem ggX7_leapsOnce_X7_airComes : GoodIn wsX7_leapsOnce wsX7_airComes := goodIn_r _ [44, 3, 2, 45, 46, 47, 48, 49, 50, 9, 51, 52, 53, 54, 55, 56, 57, 58, 59, 60, 61, 62, 63, 64, 65, 66, 67, 68, 69, 70, 71, 72, 73, 74, 75, 76, 77, 78, 79, 80, 81, 82, 83, 84, 85, 86, 87, 88, 89, 90, 91, 92, 93, 94, 95, 96, 97, 98, 99, 100, 101, 102, 103, 104, 105, 106, 107, 108, 109, 110, 111, 112, 113, 114, 115, 116, 117, 118, 119, 120] (by decide +kernel) (by decide +kernel)
set_option maxRecDepth 20000 in
theorem gX7_leapsOnce_X7_airComes : GoodIn wsX7_leapsOnce (wsV RX7 185 RX7 yX7_airComes wsX7_airComes) := goodIn_app (goodIn_of _ (by decide +kernel)) ggX7_leapsOnce_X7_airComes
theorem dX7_leapsOnce_0 : decode cX7_leapsOnce 0 = .ok (.iconst 0, 1) := by decide +kernel
theorem dX7_leapsOnce_1 : decode cX7_leapsOnce 1 = .ok (.istore_n 2, 1) := by decide +kernel
theorem dX7_leapsOnce_2 : decode cX7_leapsOnce 2 = .ok (.iload_n 2, 1) := by decide +kernel
theorem dX7_leapsOnce_3 : decode cX7_leapsOnce 3 = .ok (.aload_n 0, 1) := by decide +kernel
theorem dX7_leapsOnce_4 : decode cX7_leapsOnce 4 = .ok (.getfield 29, 3) := by decide +kernel
theorem dX7_leapsOnce_7 : decode cX7_leapsOnce 7 = .ok (.iload_n 1, 1) := by decide +kernel
theorem dX7_leapsOnce_8 : decode cX7_leapsOnce 8 = .ok (.iaload, 1) := by decide +kernel
theorem dX7_leapsOnce_9 : decode cX7_leapsOnce 9 = .ok (.invokestatic 172, 3) := by decide +kernel
theorem dX7_leapsOnce_12 : decode cX7_leapsOnce 12 = .ok (.if_icmp .ge 147, 3) := by decide +kernel
theorem dX7_leapsOnce_15 : decode cX7_leapsOnce 15 = .ok (.aload_n 0, 1) := by decide +kernel
theorem dX7_leapsOnce_16 : decode cX7_leapsOnce 16 = .ok (.getfield 26, 3) := by decide +kernel
theorem dX7_leapsOnce_19 : decode cX7_leapsOnce 19 = .ok (.iload_n 1, 1) := by decide +kernel
theorem dX7_leapsOnce_20 : decode cX7_leapsOnce 20 = .ok (.iaload, 1) := by decide +kernel
theorem dX7_leapsOnce_21 : decode cX7_leapsOnce 21 = .ok (.iload_n 2, 1) := by decide +kernel
theorem dX7_leapsOnce_22 : decode cX7_leapsOnce 22 = .ok (.iadd, 1) := by decide +kernel
theorem dX7_leapsOnce_23 : decode cX7_leapsOnce 23 = .ok (.iconst 4, 1) := by decide +kernel
theorem dX7_leapsOnce_24 : decode cX7_leapsOnce 24 = .ok (.irem, 1) := by decide +kernel
theorem dX7_leapsOnce_25 : decode cX7_leapsOnce 25 = .ok (.istore_n 3, 1) := by decide +kernel
theorem dX7_leapsOnce_26 : decode cX7_leapsOnce 26 = .ok (.aload_n 0, 1) := by decide +kernel
theorem dX7_leapsOnce_27 : decode cX7_leapsOnce 27 = .ok (.getfield 23, 3) := by decide +kernel
theorem dX7_leapsOnce_30 : decode cX7_leapsOnce 30 = .ok (.iload_n 1, 1) := by decide +kernel
theorem dX7_leapsOnce_31 : decode cX7_leapsOnce 31 = .ok (.iaload, 1) := by decide +kernel
theorem dX7_leapsOnce_32 : decode cX7_leapsOnce 32 = .ok (.iload_n 3, 1) := by decide +kernel
theorem dX7_leapsOnce_33 : decode cX7_leapsOnce 33 = .ok (.iconst 1, 1) := by decide +kernel
theorem dX7_leapsOnce_34 : decode cX7_leapsOnce 34 = .ok (.invokestatic 175, 3) := by decide +kernel
theorem dX7_leapsOnce_37 : decode cX7_leapsOnce 37 = .ok (.istore 4, 2) := by decide +kernel
theorem dX7_leapsOnce_39 : decode cX7_leapsOnce 39 = .ok (.aload_n 0, 1) := by decide +kernel
theorem dX7_leapsOnce_40 : decode cX7_leapsOnce 40 = .ok (.getfield 23, 3) := by decide +kernel
theorem dX7_leapsOnce_43 : decode cX7_leapsOnce 43 = .ok (.iload_n 1, 1) := by decide +kernel
theorem dX7_leapsOnce_44 : decode cX7_leapsOnce 44 = .ok (.iaload, 1) := by decide +kernel
theorem dX7_leapsOnce_45 : decode cX7_leapsOnce 45 = .ok (.iload_n 3, 1) := by decide +kernel
theorem dX7_leapsOnce_46 : decode cX7_leapsOnce 46 = .ok (.iconst 2, 1) := by decide +kernel
theorem dX7_leapsOnce_47 : decode cX7_leapsOnce 47 = .ok (.invokestatic 175, 3) := by decide +kernel
theorem dX7_leapsOnce_50 : decode cX7_leapsOnce 50 = .ok (.istore 5, 2) := by decide +kernel
theorem dX7_leapsOnce_52 : decode cX7_leapsOnce 52 = .ok (.iload 5, 2) := by decide +kernel
theorem dX7_leapsOnce_54 : decode cX7_leapsOnce 54 = .ok (.ifCond .ge 8, 3) := by decide +kernel
theorem dX7_leapsOnce_57 : decode cX7_leapsOnce 57 = .ok (.bipush (-9), 2) := by decide +kernel
theorem dX7_leapsOnce_59 : decode cX7_leapsOnce 59 = .ok (.goto 9, 3) := by decide +kernel
theorem dX7_leapsOnce_62 : decode cX7_leapsOnce 62 = .ok (.aload_n 0, 1) := by decide +kernel
theorem dX7_leapsOnce_63 : decode cX7_leapsOnce 63 = .ok (.iload 4, 2) := by decide +kernel
theorem dX7_leapsOnce_65 : decode cX7_leapsOnce 65 = .ok (.invokevirtual 156, 3) := by decide +kernel
theorem dX7_leapsOnce_68 : decode cX7_leapsOnce 68 = .ok (.istore 6, 2) := by decide +kernel
theorem dX7_leapsOnce_70 : decode cX7_leapsOnce 70 = .ok (.iload 6, 2) := by decide +kernel
theorem dX7_leapsOnce_72 : decode cX7_leapsOnce 72 = .ok (.ifCond .lt 81, 3) := by decide +kernel
theorem dX7_leapsOnce_75 : decode cX7_leapsOnce 75 = .ok (.aload_n 0, 1) := by decide +kernel
theorem dX7_leapsOnce_76 : decode cX7_leapsOnce 76 = .ok (.iload 5, 2) := by decide +kernel
theorem dX7_leapsOnce_78 : decode cX7_leapsOnce 78 = .ok (.invokevirtual 179, 3) := by decide +kernel
theorem dX7_leapsOnce_81 : decode cX7_leapsOnce 81 = .ok (.ifCond .eq 72, 3) := by decide +kernel
theorem dX7_leapsOnce_84 : decode cX7_leapsOnce 84 = .ok (.aload_n 0, 1) := by decide +kernel
theorem dX7_leapsOnce_85 : decode cX7_leapsOnce 85 = .ok (.aload_n 0, 1) := by decide +kernel
theorem dX7_leapsOnce_86 : decode cX7_leapsOnce 86 = .ok (.getfield 182, 3) := by decide +kernel
theorem dX7_leapsOnce_89 : decode cX7_leapsOnce 89 = .ok (.iconst 1, 1) := by decide +kernel
theorem dX7_leapsOnce_90 : decode cX7_leapsOnce 90 = .ok (.iadd, 1) := by decide +kernel
theorem dX7_leapsOnce_91 : decode cX7_leapsOnce 91 = .ok (.sipush 9999, 3) := by decide +kernel
theorem dX7_leapsOnce_94 : decode cX7_leapsOnce 94 = .ok (.invokestatic 133, 3) := by decide +kernel
theorem dX7_leapsOnce_97 : decode cX7_leapsOnce 97 = .ok (.putfield 182, 3) := by decide +kernel
theorem dX7_leapsOnce_100 : decode cX7_leapsOnce 100 = .ok (.aload_n 0, 1) := by decide +kernel
theorem dX7_leapsOnce_101 : decode cX7_leapsOnce 101 = .ok (.getfield 38, 3) := by decide +kernel
theorem dX7_leapsOnce_104 : decode cX7_leapsOnce 104 = .ok (.iload 6, 2) := by decide +kernel
theorem dX7_leapsOnce_106 : decode cX7_leapsOnce 106 = .ok (.aload_n 0, 1) := by decide +kernel
theorem dX7_leapsOnce_107 : decode cX7_leapsOnce 107 = .ok (.getfield 35, 3) := by decide +kernel
theorem dX7_leapsOnce_110 : decode cX7_leapsOnce 110 = .ok (.iload 6, 2) := by decide +kernel
theorem dX7_leapsOnce_112 : decode cX7_leapsOnce 112 = .ok (.iaload, 1) := by decide +kernel
theorem dX7_leapsOnce_113 : decode cX7_leapsOnce 113 = .ok (.ifCond .ne 7, 3) := by decide +kernel
theorem dX7_leapsOnce_116 : decode cX7_leapsOnce 116 = .ok (.iconst 0, 1) := by decide +kernel
theorem dX7_leapsOnce_117 : decode cX7_leapsOnce 117 = .ok (.goto 4, 3) := by decide +kernel
theorem dX7_leapsOnce_120 : decode cX7_leapsOnce 120 = .ok (.iconst 1, 1) := by decide +kernel
theorem dX7_leapsOnce_121 : decode cX7_leapsOnce 121 = .ok (.iastore, 1) := by decide +kernel
theorem dX7_leapsOnce_122 : decode cX7_leapsOnce 122 = .ok (.aload_n 0, 1) := by decide +kernel
theorem dX7_leapsOnce_123 : decode cX7_leapsOnce 123 = .ok (.getfield 35, 3) := by decide +kernel
theorem dX7_leapsOnce_126 : decode cX7_leapsOnce 126 = .ok (.iload 6, 2) := by decide +kernel
theorem dX7_leapsOnce_128 : decode cX7_leapsOnce 128 = .ok (.aload_n 0, 1) := by decide +kernel
theorem dX7_leapsOnce_129 : decode cX7_leapsOnce 129 = .ok (.getfield 35, 3) := by decide +kernel
theorem dX7_leapsOnce_132 : decode cX7_leapsOnce 132 = .ok (.iload 6, 2) := by decide +kernel
theorem dX7_leapsOnce_134 : decode cX7_leapsOnce 134 = .ok (.iaload, 1) := by decide +kernel
theorem dX7_leapsOnce_135 : decode cX7_leapsOnce 135 = .ok (.iconst 1, 1) := by decide +kernel
theorem dX7_leapsOnce_136 : decode cX7_leapsOnce 136 = .ok (.isub, 1) := by decide +kernel
theorem dX7_leapsOnce_137 : decode cX7_leapsOnce 137 = .ok (.bipush 9, 2) := by decide +kernel
theorem dX7_leapsOnce_139 : decode cX7_leapsOnce 139 = .ok (.invokestatic 133, 3) := by decide +kernel
theorem dX7_leapsOnce_142 : decode cX7_leapsOnce 142 = .ok (.iastore, 1) := by decide +kernel
theorem dX7_leapsOnce_143 : decode cX7_leapsOnce 143 = .ok (.aload_n 0, 1) := by decide +kernel
theorem dX7_leapsOnce_144 : decode cX7_leapsOnce 144 = .ok (.iload_n 1, 1) := by decide +kernel
theorem dX7_leapsOnce_145 : decode cX7_leapsOnce 145 = .ok (.iload 5, 2) := by decide +kernel
theorem dX7_leapsOnce_147 : decode cX7_leapsOnce 147 = .ok (.iload_n 3, 1) := by decide +kernel
theorem dX7_leapsOnce_148 : decode cX7_leapsOnce 148 = .ok (.invokevirtual 185, 3) := by decide +kernel
theorem dX7_leapsOnce_151 : decode cX7_leapsOnce 151 = .ok (.iconst 1, 1) := by decide +kernel
theorem dX7_leapsOnce_152 : decode cX7_leapsOnce 152 = .ok (.ireturn, 1) := by decide +kernel
theorem dX7_leapsOnce_153 : decode cX7_leapsOnce 153 = .ok (.iinc 2 1, 3) := by decide +kernel
theorem dX7_leapsOnce_156 : decode cX7_leapsOnce 156 = .ok (.goto (-154), 3) := by decide +kernel
theorem dX7_leapsOnce_159 : decode cX7_leapsOnce 159 = .ok (.iconst 0, 1) := by decide +kernel
theorem dX7_leapsOnce_160 : decode cX7_leapsOnce 160 = .ok (.ireturn, 1) := by decide +kernel
set_option maxRecDepth 20000 in
theorem ggX7_walks_X7_triesOf : GoodIn wsX7_walks wsX7_triesOf := goodIn_r _ [7] (by decide +kernel) (by decide +kernel)
set_option maxRecDepth 20000 in
theorem gX7_walks_X7_triesOf : GoodIn wsX7_walks (va_wsS RX7 172 yX7_triesOf wsX7_triesOf) := goodIn_app (goodIn_of _ (by decide +kernel)) ggX7_walks_X7_triesOf
set_option maxRecDepth 20000 in
theorem ggX7_walks_X7_awayOf : GoodIn wsX7_walks wsX7_awayOf := goodIn_r _ [10, 11, 12, 13, 6, 14] (by decide +kernel) (by decide +kernel)
set_option maxRecDepth 20000 in
theorem gX7_walks_X7_awayOf : GoodIn wsX7_walks (va_wsS RX7 175 yX7_awayOf wsX7_awayOf) := goodIn_app (goodIn_of _ (by decide +kernel)) ggX7_walks_X7_awayOf
set_option maxRecDepth 20000 in
theorem ggX7_walks_X7_isFree : GoodIn wsX7_walks wsX7_isFree := goodIn_r _ [18, 19, 20, 21, 22, 6, 23, 24, 25, 26, 27, 28, 3, 29, 30, 31, 32, 33, 34, 35, 63, 64, 65, 66, 67, 68, 69, 70, 71, 72, 73, 74, 75, 76, 77, 78, 79, 80, 81, 82, 83, 84, 85, 86, 87, 88, 89, 90, 91, 92, 93, 94, 95, 96, 97, 98, 99, 100, 101, 102, 103, 104, 105, 106, 107, 108, 109, 110, 111, 112, 113, 114, 115] (by decide +kernel) (by decide +kernel)
set_option maxRecDepth 20000 in
theorem gX7_walks_X7_isFree : GoodIn wsX7_walks (wsV RX7 179 RX7 yX7_isFree wsX7_isFree) := goodIn_app (goodIn_of _ (by decide +kernel)) ggX7_walks_X7_isFree
set_option maxRecDepth 20000 in
theorem ggX7_walks_X7_airComes : GoodIn wsX7_walks wsX7_airComes := goodIn_r _ [39, 3, 2, 40, 41, 42, 43, 44, 45, 6, 46, 47, 48, 49, 50, 51, 52, 53, 54, 55, 56, 57, 58, 59, 60, 61, 62, 63, 64, 65, 66, 67, 68, 69, 70, 71, 72, 73, 74, 75, 76, 77, 78, 79, 80, 81, 82, 83, 84, 85, 86, 87, 88, 89, 90, 91, 92, 93, 94, 95, 96, 97, 98, 99, 100, 101, 102, 103, 104, 105, 106, 107, 108, 109, 110, 111, 112, 113, 114, 115] (by decide +kernel) (by decide +kernel)
set_option maxRecDepth 20000 in
theorem gX7_walks_X7_airComes : GoodIn wsX7_walks (wsV RX7 185 RX7 yX7_airComes wsX7_airComes) := goodIn_app (goodIn_of _ (by decide +kernel)) ggX7_walks_X7_airComes
theorem dX7_walks_0 : decode cX7_walks 0 = .ok (.iconst 0, 1) := by decide +kernel
theorem dX7_walks_1 : decode cX7_walks 1 = .ok (.istore_n 2, 1) := by decide +kernel
theorem dX7_walks_2 : decode cX7_walks 2 = .ok (.iload_n 2, 1) := by decide +kernel
theorem dX7_walks_3 : decode cX7_walks 3 = .ok (.aload_n 0, 1) := by decide +kernel
theorem dX7_walks_4 : decode cX7_walks 4 = .ok (.getfield 29, 3) := by decide +kernel
theorem dX7_walks_7 : decode cX7_walks 7 = .ok (.iload_n 1, 1) := by decide +kernel
theorem dX7_walks_8 : decode cX7_walks 8 = .ok (.iaload, 1) := by decide +kernel
theorem dX7_walks_9 : decode cX7_walks 9 = .ok (.invokestatic 172, 3) := by decide +kernel
theorem dX7_walks_12 : decode cX7_walks 12 = .ok (.if_icmp .ge 56, 3) := by decide +kernel
theorem dX7_walks_15 : decode cX7_walks 15 = .ok (.aload_n 0, 1) := by decide +kernel
theorem dX7_walks_16 : decode cX7_walks 16 = .ok (.getfield 26, 3) := by decide +kernel
theorem dX7_walks_19 : decode cX7_walks 19 = .ok (.iload_n 1, 1) := by decide +kernel
theorem dX7_walks_20 : decode cX7_walks 20 = .ok (.iaload, 1) := by decide +kernel
theorem dX7_walks_21 : decode cX7_walks 21 = .ok (.iload_n 2, 1) := by decide +kernel
theorem dX7_walks_22 : decode cX7_walks 22 = .ok (.iadd, 1) := by decide +kernel
theorem dX7_walks_23 : decode cX7_walks 23 = .ok (.iconst 4, 1) := by decide +kernel
theorem dX7_walks_24 : decode cX7_walks 24 = .ok (.irem, 1) := by decide +kernel
theorem dX7_walks_25 : decode cX7_walks 25 = .ok (.istore_n 3, 1) := by decide +kernel
theorem dX7_walks_26 : decode cX7_walks 26 = .ok (.aload_n 0, 1) := by decide +kernel
theorem dX7_walks_27 : decode cX7_walks 27 = .ok (.getfield 23, 3) := by decide +kernel
theorem dX7_walks_30 : decode cX7_walks 30 = .ok (.iload_n 1, 1) := by decide +kernel
theorem dX7_walks_31 : decode cX7_walks 31 = .ok (.iaload, 1) := by decide +kernel
theorem dX7_walks_32 : decode cX7_walks 32 = .ok (.iload_n 3, 1) := by decide +kernel
theorem dX7_walks_33 : decode cX7_walks 33 = .ok (.iconst 1, 1) := by decide +kernel
theorem dX7_walks_34 : decode cX7_walks 34 = .ok (.invokestatic 175, 3) := by decide +kernel
theorem dX7_walks_37 : decode cX7_walks 37 = .ok (.istore 4, 2) := by decide +kernel
theorem dX7_walks_39 : decode cX7_walks 39 = .ok (.iload 4, 2) := by decide +kernel
theorem dX7_walks_41 : decode cX7_walks 41 = .ok (.ifCond .lt 21, 3) := by decide +kernel
theorem dX7_walks_44 : decode cX7_walks 44 = .ok (.aload_n 0, 1) := by decide +kernel
theorem dX7_walks_45 : decode cX7_walks 45 = .ok (.iload 4, 2) := by decide +kernel
theorem dX7_walks_47 : decode cX7_walks 47 = .ok (.invokevirtual 179, 3) := by decide +kernel
theorem dX7_walks_50 : decode cX7_walks 50 = .ok (.ifCond .eq 12, 3) := by decide +kernel
theorem dX7_walks_53 : decode cX7_walks 53 = .ok (.aload_n 0, 1) := by decide +kernel
theorem dX7_walks_54 : decode cX7_walks 54 = .ok (.iload_n 1, 1) := by decide +kernel
theorem dX7_walks_55 : decode cX7_walks 55 = .ok (.iload 4, 2) := by decide +kernel
theorem dX7_walks_57 : decode cX7_walks 57 = .ok (.iload_n 3, 1) := by decide +kernel
theorem dX7_walks_58 : decode cX7_walks 58 = .ok (.invokevirtual 185, 3) := by decide +kernel
theorem dX7_walks_61 : decode cX7_walks 61 = .ok (.return_, 1) := by decide +kernel
theorem dX7_walks_62 : decode cX7_walks 62 = .ok (.iinc 2 1, 3) := by decide +kernel
theorem dX7_walks_65 : decode cX7_walks 65 = .ok (.goto (-63), 3) := by decide +kernel
theorem dX7_walks_68 : decode cX7_walks 68 = .ok (.aload_n 0, 1) := by decide +kernel
theorem dX7_walks_69 : decode cX7_walks 69 = .ok (.getfield 26, 3) := by decide +kernel
theorem dX7_walks_72 : decode cX7_walks 72 = .ok (.iload_n 1, 1) := by decide +kernel
theorem dX7_walks_73 : decode cX7_walks 73 = .ok (.aload_n 0, 1) := by decide +kernel
theorem dX7_walks_74 : decode cX7_walks 74 = .ok (.getfield 26, 3) := by decide +kernel
theorem dX7_walks_77 : decode cX7_walks 77 = .ok (.iload_n 1, 1) := by decide +kernel
theorem dX7_walks_78 : decode cX7_walks 78 = .ok (.iaload, 1) := by decide +kernel
theorem dX7_walks_79 : decode cX7_walks 79 = .ok (.iconst 2, 1) := by decide +kernel
theorem dX7_walks_80 : decode cX7_walks 80 = .ok (.iadd, 1) := by decide +kernel
theorem dX7_walks_81 : decode cX7_walks 81 = .ok (.iconst 4, 1) := by decide +kernel
theorem dX7_walks_82 : decode cX7_walks 82 = .ok (.irem, 1) := by decide +kernel
theorem dX7_walks_83 : decode cX7_walks 83 = .ok (.iastore, 1) := by decide +kernel
theorem dX7_walks_84 : decode cX7_walks 84 = .ok (.return_, 1) := by decide +kernel
set_option maxRecDepth 20000 in
theorem ggX7_airGoes_X7_leapsOf : GoodIn wsX7_airGoes wsX7_leapsOf := goodIn_r _ [7, 8, 9, 10, 11, 6, 12, 80, 81, 82, 83, 84, 85, 86, 87, 88, 89, 90, 91, 92, 93, 94, 95, 96, 97, 98, 99, 100, 101, 102, 103, 104, 105, 106, 107, 108, 109, 110, 111, 112, 113, 114, 115, 116, 117, 118, 119, 120, 121, 122, 123, 124, 125, 126, 127, 128, 129, 130, 131, 132] (by decide +kernel) (by decide +kernel)
set_option maxRecDepth 20000 in
theorem gX7_airGoes_X7_leapsOf : GoodIn wsX7_airGoes (wsV RX7 189 RX7 yX7_leapsOf wsX7_leapsOf) := goodIn_app (goodIn_of _ (by decide +kernel)) ggX7_airGoes_X7_leapsOf
set_option maxRecDepth 20000 in
theorem ggX7_airGoes_X7_leapsOnce : GoodIn wsX7_airGoes wsX7_leapsOnce := goodIn_r _ [16, 2, 17, 1, 18, 19, 20, 21, 22, 6, 23, 24, 25, 26, 27, 28, 29, 30, 31, 32, 33, 34, 35, 36, 37, 38, 39, 40, 41, 42, 43, 44, 45, 46, 47, 48, 49, 50, 10, 11, 12, 51, 52, 53, 54, 55, 9, 8, 56, 57, 58, 59, 60, 61, 62, 63, 64, 65, 66, 67, 68, 69, 70, 71, 72, 73, 74, 75, 80, 81, 82, 83, 84, 85, 86, 87, 88, 89, 90, 91, 92, 93, 94, 95, 96, 97, 98, 99, 100, 101, 102, 103, 104, 105, 106, 107, 108, 109, 110, 111, 112, 113, 114, 115, 116, 117, 118, 119, 120, 121, 122, 123, 124, 125, 126, 127, 128, 129, 130, 131, 132] (by decide +kernel) (by decide +kernel)
set_option maxRecDepth 20000 in
theorem gX7_airGoes_X7_leapsOnce : GoodIn wsX7_airGoes (wsV RX7 192 RX7 yX7_leapsOnce wsX7_leapsOnce) := goodIn_app (goodIn_of _ (by decide +kernel)) ggX7_airGoes_X7_leapsOnce
set_option maxRecDepth 20000 in
theorem ggX7_airGoes_X7_walks : GoodIn wsX7_airGoes wsX7_walks := goodIn_r _ [79, 2, 17, 1, 21, 22, 6, 23, 24, 25, 26, 27, 28, 29, 30, 37, 38, 39, 40, 41, 42, 43, 44, 45, 46, 47, 48, 49, 50, 31, 32, 33, 34, 35, 36, 19, 51, 52, 53, 54, 55, 9, 8, 56, 57, 58, 59, 60, 61, 62, 63, 64, 65, 66, 67, 68, 69, 70, 71, 72, 73, 74, 75, 80, 81, 82, 83, 84, 85, 86, 87, 88, 89, 90, 91, 92, 93, 94, 95, 96, 97, 98, 99, 100, 101, 102, 103, 104, 105, 106, 107, 108, 109, 110, 111, 112, 113, 114, 115, 116, 117, 118, 119, 120, 121, 122, 123, 124, 125, 126, 127, 128, 129, 130, 131, 132] (by decide +kernel) (by decide +kernel)
set_option maxRecDepth 20000 in
theorem gX7_airGoes_X7_walks : GoodIn wsX7_airGoes (wsV RX7 195 RX7 yX7_walks wsX7_walks) := goodIn_app (goodIn_of _ (by decide +kernel)) ggX7_airGoes_X7_walks
theorem dX7_airGoes_0 : decode cX7_airGoes 0 = .ok (.iconst 0, 1) := by decide +kernel
theorem dX7_airGoes_1 : decode cX7_airGoes 1 = .ok (.istore_n 2, 1) := by decide +kernel
theorem dX7_airGoes_2 : decode cX7_airGoes 2 = .ok (.aload_n 0, 1) := by decide +kernel
theorem dX7_airGoes_3 : decode cX7_airGoes 3 = .ok (.iload_n 1, 1) := by decide +kernel
theorem dX7_airGoes_4 : decode cX7_airGoes 4 = .ok (.invokevirtual 189, 3) := by decide +kernel
theorem dX7_airGoes_7 : decode cX7_airGoes 7 = .ok (.istore_n 3, 1) := by decide +kernel
theorem dX7_airGoes_8 : decode cX7_airGoes 8 = .ok (.iload_n 2, 1) := by decide +kernel
theorem dX7_airGoes_9 : decode cX7_airGoes 9 = .ok (.iload_n 3, 1) := by decide +kernel
theorem dX7_airGoes_10 : decode cX7_airGoes 10 = .ok (.if_icmp .ge 17, 3) := by decide +kernel
theorem dX7_airGoes_13 : decode cX7_airGoes 13 = .ok (.aload_n 0, 1) := by decide +kernel
theorem dX7_airGoes_14 : decode cX7_airGoes 14 = .ok (.iload_n 1, 1) := by decide +kernel
theorem dX7_airGoes_15 : decode cX7_airGoes 15 = .ok (.invokevirtual 192, 3) := by decide +kernel
theorem dX7_airGoes_18 : decode cX7_airGoes 18 = .ok (.ifCond .eq 9, 3) := by decide +kernel
theorem dX7_airGoes_21 : decode cX7_airGoes 21 = .ok (.iinc 2 1, 3) := by decide +kernel
theorem dX7_airGoes_24 : decode cX7_airGoes 24 = .ok (.goto (-16), 3) := by decide +kernel
theorem dX7_airGoes_27 : decode cX7_airGoes 27 = .ok (.iload_n 2, 1) := by decide +kernel
theorem dX7_airGoes_28 : decode cX7_airGoes 28 = .ok (.ifCond .ne 8, 3) := by decide +kernel
theorem dX7_airGoes_31 : decode cX7_airGoes 31 = .ok (.aload_n 0, 1) := by decide +kernel
theorem dX7_airGoes_32 : decode cX7_airGoes 32 = .ok (.iload_n 1, 1) := by decide +kernel
theorem dX7_airGoes_33 : decode cX7_airGoes 33 = .ok (.invokevirtual 195, 3) := by decide +kernel
theorem dX7_airGoes_36 : decode cX7_airGoes 36 = .ok (.aload_n 0, 1) := by decide +kernel
theorem dX7_airGoes_37 : decode cX7_airGoes 37 = .ok (.getfield 23, 3) := by decide +kernel
theorem dX7_airGoes_40 : decode cX7_airGoes 40 = .ok (.iload_n 1, 1) := by decide +kernel
theorem dX7_airGoes_41 : decode cX7_airGoes 41 = .ok (.iaload, 1) := by decide +kernel
theorem dX7_airGoes_42 : decode cX7_airGoes 42 = .ok (.bipush 6, 2) := by decide +kernel
theorem dX7_airGoes_44 : decode cX7_airGoes 44 = .ok (.idiv, 1) := by decide +kernel
theorem dX7_airGoes_45 : decode cX7_airGoes 45 = .ok (.istore 4, 2) := by decide +kernel
theorem dX7_airGoes_47 : decode cX7_airGoes 47 = .ok (.aload_n 0, 1) := by decide +kernel
theorem dX7_airGoes_48 : decode cX7_airGoes 48 = .ok (.getfield 29, 3) := by decide +kernel
theorem dX7_airGoes_51 : decode cX7_airGoes 51 = .ok (.iload_n 1, 1) := by decide +kernel
theorem dX7_airGoes_52 : decode cX7_airGoes 52 = .ok (.iload 4, 2) := by decide +kernel
theorem dX7_airGoes_54 : decode cX7_airGoes 54 = .ok (.ifCond .eq 9, 3) := by decide +kernel
theorem dX7_airGoes_57 : decode cX7_airGoes 57 = .ok (.iload 4, 2) := by decide +kernel
theorem dX7_airGoes_59 : decode cX7_airGoes 59 = .ok (.iconst 5, 1) := by decide +kernel
theorem dX7_airGoes_60 : decode cX7_airGoes 60 = .ok (.if_icmp .ne 7, 3) := by decide +kernel
theorem dX7_airGoes_63 : decode cX7_airGoes 63 = .ok (.iconst 1, 1) := by decide +kernel
theorem dX7_airGoes_64 : decode cX7_airGoes 64 = .ok (.goto 9, 3) := by decide +kernel
theorem dX7_airGoes_67 : decode cX7_airGoes 67 = .ok (.aload_n 0, 1) := by decide +kernel
theorem dX7_airGoes_68 : decode cX7_airGoes 68 = .ok (.getfield 29, 3) := by decide +kernel
theorem dX7_airGoes_71 : decode cX7_airGoes 71 = .ok (.iload_n 1, 1) := by decide +kernel
theorem dX7_airGoes_72 : decode cX7_airGoes 72 = .ok (.iaload, 1) := by decide +kernel
theorem dX7_airGoes_73 : decode cX7_airGoes 73 = .ok (.iastore, 1) := by decide +kernel
theorem dX7_airGoes_74 : decode cX7_airGoes 74 = .ok (.return_, 1) := by decide +kernel
set_option maxRecDepth 20000 in
theorem ggX7_turnOn_X7_stepped : GoodIn wsX7_turnOn wsX7_stepped := goodIn_r _ [15, 16, 17, 18] (by decide +kernel) (by decide +kernel)
set_option maxRecDepth 20000 in
theorem gX7_turnOn_X7_stepped : GoodIn wsX7_turnOn (va_wsS RX7 202 yX7_stepped wsX7_stepped) := goodIn_app (goodIn_of _ (by decide +kernel)) ggX7_turnOn_X7_stepped
set_option maxRecDepth 20000 in
theorem ggX7_turnOn_X7_heldWarm : GoodIn wsX7_turnOn wsX7_heldWarm := goodIn_r _ [21, 22, 23] (by decide +kernel) (by decide +kernel)
set_option maxRecDepth 20000 in
theorem gX7_turnOn_X7_heldWarm : GoodIn wsX7_turnOn (va_wsS RX7 169 yX7_heldWarm wsX7_heldWarm) := goodIn_app (goodIn_of _ (by decide +kernel)) ggX7_turnOn_X7_heldWarm
set_option maxRecDepth 20000 in
theorem ggX7_turnOn_X7_airGoes : GoodIn wsX7_turnOn wsX7_airGoes := goodIn_r _ [27, 28, 29, 30, 31, 32, 14, 33, 34, 35, 36, 37, 38, 39, 40, 41, 42, 43, 44, 9, 11, 45, 46, 47, 48, 49, 50, 51, 52, 53, 54, 55, 56, 57, 58, 8, 10, 59, 60, 61, 62, 63, 64, 65, 66, 67, 68, 69, 70, 71, 6, 72, 73, 74, 75, 2, 76, 77, 78, 79, 1, 80, 81, 82, 83, 84, 85, 86, 87, 88, 16, 19, 20, 21, 22, 23, 89, 90, 91, 92, 93, 94, 95, 96, 97, 98, 99, 100, 101, 102, 103, 104, 105, 106, 107, 108, 109, 110, 111, 112, 113, 114, 115, 116, 117, 118, 119, 120, 121, 122, 123, 124, 125, 126, 127, 128, 129, 130, 131, 132, 133, 134, 135, 136, 137, 138, 139, 140, 141, 142, 143, 144, 145] (by decide +kernel) (by decide +kernel)
set_option maxRecDepth 20000 in
theorem gX7_turnOn_X7_airGoes : GoodIn wsX7_turnOn (wsV RX7 210 RX7 yX7_airGoes wsX7_airGoes) := goodIn_app (goodIn_of _ (by decide +kernel)) ggX7_turnOn_X7_airGoes
theorem dX7_turnOn_0 : decode cX7_turnOn 0 = .ok (.aload_n 0, 1) := by decide +kernel
theorem dX7_turnOn_1 : decode cX7_turnOn 1 = .ok (.dup, 1) := by decide +kernel
theorem dX7_turnOn_2 : decode cX7_turnOn 2 = .ok (.getfield 148, 3) := by decide +kernel
theorem dX7_turnOn_5 : decode cX7_turnOn 5 = .ok (.iconst 1, 1) := by decide +kernel
theorem dX7_turnOn_6 : decode cX7_turnOn 6 = .ok (.iadd, 1) := by decide +kernel
theorem dX7_turnOn_7 : decode cX7_turnOn 7 = .ok (.putfield 148, 3) := by decide +kernel
theorem dX7_turnOn_10 : decode cX7_turnOn 10 = .ok (.iconst 0, 1) := by decide +kernel
theorem dX7_turnOn_11 : decode cX7_turnOn 11 = .ok (.istore_n 1, 1) := by decide +kernel
theorem dX7_turnOn_12 : decode cX7_turnOn 12 = .ok (.iload_n 1, 1) := by decide +kernel
theorem dX7_turnOn_13 : decode cX7_turnOn 13 = .ok (.bipush 36, 2) := by decide +kernel
theorem dX7_turnOn_15 : decode cX7_turnOn 15 = .ok (.if_icmp .ge 60, 3) := by decide +kernel
theorem dX7_turnOn_18 : decode cX7_turnOn 18 = .ok (.aload_n 0, 1) := by decide +kernel
theorem dX7_turnOn_19 : decode cX7_turnOn 19 = .ok (.getfield 7, 3) := by decide +kernel
theorem dX7_turnOn_22 : decode cX7_turnOn 22 = .ok (.iload_n 1, 1) := by decide +kernel
theorem dX7_turnOn_23 : decode cX7_turnOn 23 = .ok (.faload, 1) := by decide +kernel
theorem dX7_turnOn_24 : decode cX7_turnOn 24 = .ok (.fstore_n 2, 1) := by decide +kernel
theorem dX7_turnOn_25 : decode cX7_turnOn 25 = .ok (.iconst 0, 1) := by decide +kernel
theorem dX7_turnOn_26 : decode cX7_turnOn 26 = .ok (.istore_n 3, 1) := by decide +kernel
theorem dX7_turnOn_27 : decode cX7_turnOn 27 = .ok (.iload_n 3, 1) := by decide +kernel
theorem dX7_turnOn_28 : decode cX7_turnOn 28 = .ok (.aload_n 0, 1) := by decide +kernel
theorem dX7_turnOn_29 : decode cX7_turnOn 29 = .ok (.getfield 199, 3) := by decide +kernel
theorem dX7_turnOn_32 : decode cX7_turnOn 32 = .ok (.if_icmp .ge 27, 3) := by decide +kernel
theorem dX7_turnOn_35 : decode cX7_turnOn 35 = .ok (.aload_n 0, 1) := by decide +kernel
theorem dX7_turnOn_36 : decode cX7_turnOn 36 = .ok (.getfield 41, 3) := by decide +kernel
theorem dX7_turnOn_39 : decode cX7_turnOn 39 = .ok (.iload_n 3, 1) := by decide +kernel
theorem dX7_turnOn_40 : decode cX7_turnOn 40 = .ok (.iaload, 1) := by decide +kernel
theorem dX7_turnOn_41 : decode cX7_turnOn 41 = .ok (.aload_n 0, 1) := by decide +kernel
theorem dX7_turnOn_42 : decode cX7_turnOn 42 = .ok (.getfield 44, 3) := by decide +kernel
theorem dX7_turnOn_45 : decode cX7_turnOn 45 = .ok (.iload_n 3, 1) := by decide +kernel
theorem dX7_turnOn_46 : decode cX7_turnOn 46 = .ok (.iaload, 1) := by decide +kernel
theorem dX7_turnOn_47 : decode cX7_turnOn 47 = .ok (.i2f, 1) := by decide +kernel
theorem dX7_turnOn_48 : decode cX7_turnOn 48 = .ok (.fload_n 2, 1) := by decide +kernel
theorem dX7_turnOn_49 : decode cX7_turnOn 49 = .ok (.invokestatic 202, 3) := by decide +kernel
theorem dX7_turnOn_52 : decode cX7_turnOn 52 = .ok (.fstore_n 2, 1) := by decide +kernel
theorem dX7_turnOn_53 : decode cX7_turnOn 53 = .ok (.iinc 3 1, 3) := by decide +kernel
theorem dX7_turnOn_56 : decode cX7_turnOn 56 = .ok (.goto (-29), 3) := by decide +kernel
theorem dX7_turnOn_59 : decode cX7_turnOn 59 = .ok (.aload_n 0, 1) := by decide +kernel
theorem dX7_turnOn_60 : decode cX7_turnOn 60 = .ok (.getfield 7, 3) := by decide +kernel
theorem dX7_turnOn_63 : decode cX7_turnOn 63 = .ok (.iload_n 1, 1) := by decide +kernel
theorem dX7_turnOn_64 : decode cX7_turnOn 64 = .ok (.fload_n 2, 1) := by decide +kernel
theorem dX7_turnOn_65 : decode cX7_turnOn 65 = .ok (.invokestatic 169, 3) := by decide +kernel
theorem dX7_turnOn_68 : decode cX7_turnOn 68 = .ok (.fastore, 1) := by decide +kernel
theorem dX7_turnOn_69 : decode cX7_turnOn 69 = .ok (.iinc 1 1, 3) := by decide +kernel
theorem dX7_turnOn_72 : decode cX7_turnOn 72 = .ok (.goto (-60), 3) := by decide +kernel
theorem dX7_turnOn_75 : decode cX7_turnOn 75 = .ok (.iconst 0, 1) := by decide +kernel
theorem dX7_turnOn_76 : decode cX7_turnOn 76 = .ok (.istore_n 1, 1) := by decide +kernel
theorem dX7_turnOn_77 : decode cX7_turnOn 77 = .ok (.iload_n 1, 1) := by decide +kernel
theorem dX7_turnOn_78 : decode cX7_turnOn 78 = .ok (.aload_n 0, 1) := by decide +kernel
theorem dX7_turnOn_79 : decode cX7_turnOn 79 = .ok (.getfield 119, 3) := by decide +kernel
theorem dX7_turnOn_82 : decode cX7_turnOn 82 = .ok (.if_icmp .ge 21, 3) := by decide +kernel
theorem dX7_turnOn_85 : decode cX7_turnOn 85 = .ok (.aload_n 0, 1) := by decide +kernel
theorem dX7_turnOn_86 : decode cX7_turnOn 86 = .ok (.getfield 206, 3) := by decide +kernel
theorem dX7_turnOn_89 : decode cX7_turnOn 89 = .ok (.ifCond .ne 14, 3) := by decide +kernel
theorem dX7_turnOn_92 : decode cX7_turnOn 92 = .ok (.aload_n 0, 1) := by decide +kernel
theorem dX7_turnOn_93 : decode cX7_turnOn 93 = .ok (.iload_n 1, 1) := by decide +kernel
theorem dX7_turnOn_94 : decode cX7_turnOn 94 = .ok (.invokevirtual 210, 3) := by decide +kernel
theorem dX7_turnOn_97 : decode cX7_turnOn 97 = .ok (.iinc 1 1, 3) := by decide +kernel
theorem dX7_turnOn_100 : decode cX7_turnOn 100 = .ok (.goto (-23), 3) := by decide +kernel
theorem dX7_turnOn_103 : decode cX7_turnOn 103 = .ok (.iconst 0, 1) := by decide +kernel
theorem dX7_turnOn_104 : decode cX7_turnOn 104 = .ok (.istore_n 1, 1) := by decide +kernel
theorem dX7_turnOn_105 : decode cX7_turnOn 105 = .ok (.iload_n 1, 1) := by decide +kernel
theorem dX7_turnOn_106 : decode cX7_turnOn 106 = .ok (.aload_n 0, 1) := by decide +kernel
theorem dX7_turnOn_107 : decode cX7_turnOn 107 = .ok (.getfield 126, 3) := by decide +kernel
theorem dX7_turnOn_110 : decode cX7_turnOn 110 = .ok (.if_icmp .ge 50, 3) := by decide +kernel
theorem dX7_turnOn_113 : decode cX7_turnOn 113 = .ok (.aload_n 0, 1) := by decide +kernel
theorem dX7_turnOn_114 : decode cX7_turnOn 114 = .ok (.getfield 38, 3) := by decide +kernel
theorem dX7_turnOn_117 : decode cX7_turnOn 117 = .ok (.iload_n 1, 1) := by decide +kernel
theorem dX7_turnOn_118 : decode cX7_turnOn 118 = .ok (.aload_n 0, 1) := by decide +kernel
theorem dX7_turnOn_119 : decode cX7_turnOn 119 = .ok (.getfield 7, 3) := by decide +kernel
theorem dX7_turnOn_122 : decode cX7_turnOn 122 = .ok (.aload_n 0, 1) := by decide +kernel
theorem dX7_turnOn_123 : decode cX7_turnOn 123 = .ok (.getfield 32, 3) := by decide +kernel
theorem dX7_turnOn_126 : decode cX7_turnOn 126 = .ok (.iload_n 1, 1) := by decide +kernel
theorem dX7_turnOn_127 : decode cX7_turnOn 127 = .ok (.iaload, 1) := by decide +kernel
theorem dX7_turnOn_128 : decode cX7_turnOn 128 = .ok (.faload, 1) := by decide +kernel
theorem dX7_turnOn_129 : decode cX7_turnOn 129 = .ok (.bipush 8, 2) := by decide +kernel
theorem dX7_turnOn_131 : decode cX7_turnOn 131 = .ok (.aload_n 0, 1) := by decide +kernel
theorem dX7_turnOn_132 : decode cX7_turnOn 132 = .ok (.getfield 35, 3) := by decide +kernel
theorem dX7_turnOn_135 : decode cX7_turnOn 135 = .ok (.iload_n 1, 1) := by decide +kernel
theorem dX7_turnOn_136 : decode cX7_turnOn 136 = .ok (.iaload, 1) := by decide +kernel
theorem dX7_turnOn_137 : decode cX7_turnOn 137 = .ok (.isub, 1) := by decide +kernel
theorem dX7_turnOn_138 : decode cX7_turnOn 138 = .ok (.i2f, 1) := by decide +kernel
theorem dX7_turnOn_139 : decode cX7_turnOn 139 = .ok (.fcmp .g, 1) := by decide +kernel
theorem dX7_turnOn_140 : decode cX7_turnOn 140 = .ok (.ifCond .ge 7, 3) := by decide +kernel
theorem dX7_turnOn_143 : decode cX7_turnOn 143 = .ok (.iconst 0, 1) := by decide +kernel
theorem dX7_turnOn_144 : decode cX7_turnOn 144 = .ok (.goto 9, 3) := by decide +kernel
theorem dX7_turnOn_147 : decode cX7_turnOn 147 = .ok (.aload_n 0, 1) := by decide +kernel
theorem dX7_turnOn_148 : decode cX7_turnOn 148 = .ok (.getfield 38, 3) := by decide +kernel
theorem dX7_turnOn_151 : decode cX7_turnOn 151 = .ok (.iload_n 1, 1) := by decide +kernel
theorem dX7_turnOn_152 : decode cX7_turnOn 152 = .ok (.iaload, 1) := by decide +kernel
theorem dX7_turnOn_153 : decode cX7_turnOn 153 = .ok (.iastore, 1) := by decide +kernel
theorem dX7_turnOn_154 : decode cX7_turnOn 154 = .ok (.iinc 1 1, 3) := by decide +kernel
theorem dX7_turnOn_157 : decode cX7_turnOn 157 = .ok (.goto (-52), 3) := by decide +kernel
theorem dX7_turnOn_160 : decode cX7_turnOn 160 = .ok (.return_, 1) := by decide +kernel
set_option maxRecDepth 20000 in
theorem ggX7_goTurns_X7_turnOn : GoodIn wsX7_goTurns wsX7_turnOn := goodIn_r _ [5, 6, 7, 8, 9, 10, 11, 12, 13, 14, 15, 16, 17, 18, 4, 19, 20, 21, 22, 23, 24, 25, 26, 27, 28, 29, 30, 31, 32, 33, 34, 35, 36, 37, 38, 39, 40, 41, 42, 43, 44, 45, 46, 47, 48, 49, 50, 51, 52, 53, 54, 55, 56, 57, 58, 59, 60, 61, 62, 63, 64, 65, 66, 67, 68, 69, 70, 71, 72, 73, 74, 75, 76, 77, 78, 79, 80, 81, 82, 83, 84, 85, 86, 87, 88, 89, 90, 91, 92, 93, 94, 95, 96, 97, 98, 99, 100, 101, 102, 103, 104, 105, 106, 107, 108, 109, 110, 111, 112, 113, 114, 115, 116, 117, 118, 119, 120, 121, 122, 123, 124, 125, 126, 127, 128, 129, 130, 131, 132, 133, 134, 135, 136, 137, 138, 139, 140, 141, 142, 143, 144, 145, 146, 147, 148, 149] (by decide +kernel) (by decide +kernel)
set_option maxRecDepth 20000 in
theorem gX7_goTurns_X7_turnOn : GoodIn wsX7_goTurns (wsV RX7 213 RX7 yX7_turnOn wsX7_turnOn) := goodIn_app (goodIn_of _ (by decide +kernel)) ggX7_goTurns_X7_turnOn
theorem dX7_goTurns_0 : decode cX7_goTurns 0 = .ok (.iconst 0, 1) := by decide +kernel
theorem dX7_goTurns_1 : decode cX7_goTurns 1 = .ok (.istore_n 2, 1) := by decide +kernel
theorem dX7_goTurns_2 : decode cX7_goTurns 2 = .ok (.iload_n 2, 1) := by decide +kernel
theorem dX7_goTurns_3 : decode cX7_goTurns 3 = .ok (.iload_n 1, 1) := by decide +kernel
theorem dX7_goTurns_4 : decode cX7_goTurns 4 = .ok (.if_icmp .ge 13, 3) := by decide +kernel
theorem dX7_goTurns_7 : decode cX7_goTurns 7 = .ok (.aload_n 0, 1) := by decide +kernel
theorem dX7_goTurns_8 : decode cX7_goTurns 8 = .ok (.invokevirtual 213, 3) := by decide +kernel
theorem dX7_goTurns_11 : decode cX7_goTurns 11 = .ok (.iinc 2 1, 3) := by decide +kernel
theorem dX7_goTurns_14 : decode cX7_goTurns 14 = .ok (.goto (-12), 3) := by decide +kernel
theorem dX7_goTurns_17 : decode cX7_goTurns 17 = .ok (.return_, 1) := by decide +kernel
set_option maxRecDepth 20000 in
theorem ggX7_airComesNew_X7_isCell : GoodIn wsX7_airComesNew wsX7_isCell := goodIn_r _ [10, 11, 12, 13, 9, 14] (by decide +kernel) (by decide +kernel)
set_option maxRecDepth 20000 in
theorem gX7_airComesNew_X7_isCell : GoodIn wsX7_airComesNew (va_wsS RX7 216 yX7_isCell wsX7_isCell) := goodIn_app (goodIn_of _ (by decide +kernel)) ggX7_airComesNew_X7_isCell
set_option maxRecDepth 20000 in
theorem ggX7_airComesNew_X7_isFree : GoodIn wsX7_airComesNew wsX7_isFree := goodIn_r _ [18, 19, 20, 21, 22, 9, 23, 24, 25, 26, 27, 1, 4, 28, 29, 30, 31, 32, 33, 34, 35, 36, 37, 38, 39, 40, 41, 42, 43, 44, 45, 46, 47, 48, 49, 50, 51, 52, 53, 54, 55, 56, 57, 58, 59, 60, 61, 62, 63, 64, 65, 66, 67, 68, 69, 70, 71, 72, 73, 74, 75, 76, 77, 78, 79, 80, 81, 82, 83, 84, 85, 86, 87] (by decide +kernel) (by decide +kernel)
set_option maxRecDepth 20000 in
theorem gX7_airComesNew_X7_isFree : GoodIn wsX7_airComesNew (wsV RX7 179 RX7 yX7_isFree wsX7_isFree) := goodIn_app (goodIn_of _ (by decide +kernel)) ggX7_airComesNew_X7_isFree
theorem dX7_airComesNew_0 : decode cX7_airComesNew 0 = .ok (.iload_n 1, 1) := by decide +kernel
theorem dX7_airComesNew_1 : decode cX7_airComesNew 1 = .ok (.bipush 8, 2) := by decide +kernel
theorem dX7_airComesNew_3 : decode cX7_airComesNew 3 = .ok (.if_icmp .ge 36, 3) := by decide +kernel
theorem dX7_airComesNew_6 : decode cX7_airComesNew 6 = .ok (.iload_n 3, 1) := by decide +kernel
theorem dX7_airComesNew_7 : decode cX7_airComesNew 7 = .ok (.invokestatic 216, 3) := by decide +kernel
theorem dX7_airComesNew_10 : decode cX7_airComesNew 10 = .ok (.ifCond .eq 29, 3) := by decide +kernel
theorem dX7_airComesNew_13 : decode cX7_airComesNew 13 = .ok (.iload 4, 2) := by decide +kernel
theorem dX7_airComesNew_15 : decode cX7_airComesNew 15 = .ok (.iconst 4, 1) := by decide +kernel
theorem dX7_airComesNew_16 : decode cX7_airComesNew 16 = .ok (.if_icmp .ge 23, 3) := by decide +kernel
theorem dX7_airComesNew_19 : decode cX7_airComesNew 19 = .ok (.aload_n 0, 1) := by decide +kernel
theorem dX7_airComesNew_20 : decode cX7_airComesNew 20 = .ok (.getfield 119, 3) := by decide +kernel
theorem dX7_airComesNew_23 : decode cX7_airComesNew 23 = .ok (.iconst 5, 1) := by decide +kernel
theorem dX7_airComesNew_24 : decode cX7_airComesNew 24 = .ok (.if_icmp .ge 15, 3) := by decide +kernel
theorem dX7_airComesNew_27 : decode cX7_airComesNew 27 = .ok (.aload_n 0, 1) := by decide +kernel
theorem dX7_airComesNew_28 : decode cX7_airComesNew 28 = .ok (.iload_n 3, 1) := by decide +kernel
theorem dX7_airComesNew_29 : decode cX7_airComesNew 29 = .ok (.invokevirtual 179, 3) := by decide +kernel
theorem dX7_airComesNew_32 : decode cX7_airComesNew 32 = .ok (.ifCond .eq 7, 3) := by decide +kernel
theorem dX7_airComesNew_35 : decode cX7_airComesNew 35 = .ok (.iconst 1, 1) := by decide +kernel
theorem dX7_airComesNew_36 : decode cX7_airComesNew 36 = .ok (.goto 4, 3) := by decide +kernel
theorem dX7_airComesNew_39 : decode cX7_airComesNew 39 = .ok (.iconst 0, 1) := by decide +kernel
theorem dX7_airComesNew_40 : decode cX7_airComesNew 40 = .ok (.istore 5, 2) := by decide +kernel
theorem dX7_airComesNew_42 : decode cX7_airComesNew 42 = .ok (.iload 5, 2) := by decide +kernel
theorem dX7_airComesNew_44 : decode cX7_airComesNew 44 = .ok (.ifCond .eq 64, 3) := by decide +kernel
theorem dX7_airComesNew_47 : decode cX7_airComesNew 47 = .ok (.aload_n 0, 1) := by decide +kernel
theorem dX7_airComesNew_48 : decode cX7_airComesNew 48 = .ok (.getfield 17, 3) := by decide +kernel
theorem dX7_airComesNew_51 : decode cX7_airComesNew 51 = .ok (.aload_n 0, 1) := by decide +kernel
theorem dX7_airComesNew_52 : decode cX7_airComesNew 52 = .ok (.getfield 119, 3) := by decide +kernel
theorem dX7_airComesNew_55 : decode cX7_airComesNew 55 = .ok (.iload_n 1, 1) := by decide +kernel
theorem dX7_airComesNew_56 : decode cX7_airComesNew 56 = .ok (.iastore, 1) := by decide +kernel
theorem dX7_airComesNew_57 : decode cX7_airComesNew 57 = .ok (.aload_n 0, 1) := by decide +kernel
theorem dX7_airComesNew_58 : decode cX7_airComesNew 58 = .ok (.getfield 20, 3) := by decide +kernel
theorem dX7_airComesNew_61 : decode cX7_airComesNew 61 = .ok (.aload_n 0, 1) := by decide +kernel
theorem dX7_airComesNew_62 : decode cX7_airComesNew 62 = .ok (.getfield 119, 3) := by decide +kernel
theorem dX7_airComesNew_65 : decode cX7_airComesNew 65 = .ok (.iload_n 2, 1) := by decide +kernel
theorem dX7_airComesNew_66 : decode cX7_airComesNew 66 = .ok (.iastore, 1) := by decide +kernel
theorem dX7_airComesNew_67 : decode cX7_airComesNew 67 = .ok (.aload_n 0, 1) := by decide +kernel
theorem dX7_airComesNew_68 : decode cX7_airComesNew 68 = .ok (.getfield 23, 3) := by decide +kernel
theorem dX7_airComesNew_71 : decode cX7_airComesNew 71 = .ok (.aload_n 0, 1) := by decide +kernel
theorem dX7_airComesNew_72 : decode cX7_airComesNew 72 = .ok (.getfield 119, 3) := by decide +kernel
theorem dX7_airComesNew_75 : decode cX7_airComesNew 75 = .ok (.iload_n 3, 1) := by decide +kernel
theorem dX7_airComesNew_76 : decode cX7_airComesNew 76 = .ok (.iastore, 1) := by decide +kernel
theorem dX7_airComesNew_77 : decode cX7_airComesNew 77 = .ok (.aload_n 0, 1) := by decide +kernel
theorem dX7_airComesNew_78 : decode cX7_airComesNew 78 = .ok (.getfield 26, 3) := by decide +kernel
theorem dX7_airComesNew_81 : decode cX7_airComesNew 81 = .ok (.aload_n 0, 1) := by decide +kernel
theorem dX7_airComesNew_82 : decode cX7_airComesNew 82 = .ok (.getfield 119, 3) := by decide +kernel
theorem dX7_airComesNew_85 : decode cX7_airComesNew 85 = .ok (.iload 4, 2) := by decide +kernel
theorem dX7_airComesNew_87 : decode cX7_airComesNew 87 = .ok (.iastore, 1) := by decide +kernel
theorem dX7_airComesNew_88 : decode cX7_airComesNew 88 = .ok (.aload_n 0, 1) := by decide +kernel
theorem dX7_airComesNew_89 : decode cX7_airComesNew 89 = .ok (.getfield 29, 3) := by decide +kernel
theorem dX7_airComesNew_92 : decode cX7_airComesNew 92 = .ok (.aload_n 0, 1) := by decide +kernel
theorem dX7_airComesNew_93 : decode cX7_airComesNew 93 = .ok (.getfield 119, 3) := by decide +kernel
theorem dX7_airComesNew_96 : decode cX7_airComesNew 96 = .ok (.iconst 0, 1) := by decide +kernel
theorem dX7_airComesNew_97 : decode cX7_airComesNew 97 = .ok (.iastore, 1) := by decide +kernel
theorem dX7_airComesNew_98 : decode cX7_airComesNew 98 = .ok (.aload_n 0, 1) := by decide +kernel
theorem dX7_airComesNew_99 : decode cX7_airComesNew 99 = .ok (.dup, 1) := by decide +kernel
theorem dX7_airComesNew_100 : decode cX7_airComesNew 100 = .ok (.getfield 119, 3) := by decide +kernel
theorem dX7_airComesNew_103 : decode cX7_airComesNew 103 = .ok (.iconst 1, 1) := by decide +kernel
theorem dX7_airComesNew_104 : decode cX7_airComesNew 104 = .ok (.iadd, 1) := by decide +kernel
theorem dX7_airComesNew_105 : decode cX7_airComesNew 105 = .ok (.putfield 119, 3) := by decide +kernel
theorem dX7_airComesNew_108 : decode cX7_airComesNew 108 = .ok (.iload 5, 2) := by decide +kernel
theorem dX7_airComesNew_110 : decode cX7_airComesNew 110 = .ok (.ireturn, 1) := by decide +kernel
set_option maxRecDepth 20000 in
theorem ggX7_sitterComes_X7_isCell : GoodIn wsX7_sitterComes wsX7_isCell := goodIn_r _ [8, 9, 10, 11, 7, 12] (by decide +kernel) (by decide +kernel)
set_option maxRecDepth 20000 in
theorem gX7_sitterComes_X7_isCell : GoodIn wsX7_sitterComes (va_wsS RX7 216 yX7_isCell wsX7_isCell) := goodIn_app (goodIn_of _ (by decide +kernel)) ggX7_sitterComes_X7_isCell
set_option maxRecDepth 20000 in
theorem ggX7_sitterComes_X7_isFree : GoodIn wsX7_sitterComes wsX7_isFree := goodIn_r _ [16, 17, 18, 19, 20, 7, 21, 22, 23, 24, 25, 26, 27, 28, 29, 30, 31, 1, 2, 4, 32, 33, 34, 35, 36, 37, 38, 39, 40, 41, 42, 43, 44, 45, 46, 47, 48, 49, 50, 51, 52, 53, 54, 55, 56, 57, 58, 59, 60, 61, 62, 63, 64, 65, 66, 67, 68, 69, 70, 71, 72, 73, 74, 75, 76, 77, 78, 79, 80, 81, 82, 83, 84] (by decide +kernel) (by decide +kernel)
set_option maxRecDepth 20000 in
theorem gX7_sitterComes_X7_isFree : GoodIn wsX7_sitterComes (wsV RX7 179 RX7 yX7_isFree wsX7_isFree) := goodIn_app (goodIn_of _ (by decide +kernel)) ggX7_sitterComes_X7_isFree
theorem dX7_sitterComes_0 : decode cX7_sitterComes 0 = .ok (.iload_n 1, 1) := by decide +kernel
theorem dX7_sitterComes_1 : decode cX7_sitterComes 1 = .ok (.invokestatic 216, 3) := by decide +kernel
theorem dX7_sitterComes_4 : decode cX7_sitterComes 4 = .ok (.ifCond .eq 24, 3) := by decide +kernel
theorem dX7_sitterComes_7 : decode cX7_sitterComes 7 = .ok (.aload_n 0, 1) := by decide +kernel
theorem dX7_sitterComes_8 : decode cX7_sitterComes 8 = .ok (.getfield 126, 3) := by decide +kernel
theorem dX7_sitterComes_11 : decode cX7_sitterComes 11 = .ok (.bipush 6, 2) := by decide +kernel
theorem dX7_sitterComes_13 : decode cX7_sitterComes 13 = .ok (.if_icmp .ge 15, 3) := by decide +kernel
theorem dX7_sitterComes_16 : decode cX7_sitterComes 16 = .ok (.aload_n 0, 1) := by decide +kernel
theorem dX7_sitterComes_17 : decode cX7_sitterComes 17 = .ok (.iload_n 1, 1) := by decide +kernel
theorem dX7_sitterComes_18 : decode cX7_sitterComes 18 = .ok (.invokevirtual 179, 3) := by decide +kernel
theorem dX7_sitterComes_21 : decode cX7_sitterComes 21 = .ok (.ifCond .eq 7, 3) := by decide +kernel
theorem dX7_sitterComes_24 : decode cX7_sitterComes 24 = .ok (.iconst 1, 1) := by decide +kernel
theorem dX7_sitterComes_25 : decode cX7_sitterComes 25 = .ok (.goto 4, 3) := by decide +kernel
theorem dX7_sitterComes_28 : decode cX7_sitterComes 28 = .ok (.iconst 0, 1) := by decide +kernel
theorem dX7_sitterComes_29 : decode cX7_sitterComes 29 = .ok (.istore_n 3, 1) := by decide +kernel
theorem dX7_sitterComes_30 : decode cX7_sitterComes 30 = .ok (.iload_n 3, 1) := by decide +kernel
theorem dX7_sitterComes_31 : decode cX7_sitterComes 31 = .ok (.ifCond .eq 43, 3) := by decide +kernel
theorem dX7_sitterComes_34 : decode cX7_sitterComes 34 = .ok (.aload_n 0, 1) := by decide +kernel
theorem dX7_sitterComes_35 : decode cX7_sitterComes 35 = .ok (.getfield 32, 3) := by decide +kernel
theorem dX7_sitterComes_38 : decode cX7_sitterComes 38 = .ok (.aload_n 0, 1) := by decide +kernel
theorem dX7_sitterComes_39 : decode cX7_sitterComes 39 = .ok (.getfield 126, 3) := by decide +kernel
theorem dX7_sitterComes_42 : decode cX7_sitterComes 42 = .ok (.iload_n 1, 1) := by decide +kernel
theorem dX7_sitterComes_43 : decode cX7_sitterComes 43 = .ok (.iastore, 1) := by decide +kernel
theorem dX7_sitterComes_44 : decode cX7_sitterComes 44 = .ok (.aload_n 0, 1) := by decide +kernel
theorem dX7_sitterComes_45 : decode cX7_sitterComes 45 = .ok (.getfield 35, 3) := by decide +kernel
theorem dX7_sitterComes_48 : decode cX7_sitterComes 48 = .ok (.aload_n 0, 1) := by decide +kernel
theorem dX7_sitterComes_49 : decode cX7_sitterComes 49 = .ok (.getfield 126, 3) := by decide +kernel
theorem dX7_sitterComes_52 : decode cX7_sitterComes 52 = .ok (.iload_n 2, 1) := by decide +kernel
theorem dX7_sitterComes_53 : decode cX7_sitterComes 53 = .ok (.iastore, 1) := by decide +kernel
theorem dX7_sitterComes_54 : decode cX7_sitterComes 54 = .ok (.aload_n 0, 1) := by decide +kernel
theorem dX7_sitterComes_55 : decode cX7_sitterComes 55 = .ok (.getfield 38, 3) := by decide +kernel
theorem dX7_sitterComes_58 : decode cX7_sitterComes 58 = .ok (.aload_n 0, 1) := by decide +kernel
theorem dX7_sitterComes_59 : decode cX7_sitterComes 59 = .ok (.getfield 126, 3) := by decide +kernel
theorem dX7_sitterComes_62 : decode cX7_sitterComes 62 = .ok (.iconst 1, 1) := by decide +kernel
theorem dX7_sitterComes_63 : decode cX7_sitterComes 63 = .ok (.iastore, 1) := by decide +kernel
theorem dX7_sitterComes_64 : decode cX7_sitterComes 64 = .ok (.aload_n 0, 1) := by decide +kernel
theorem dX7_sitterComes_65 : decode cX7_sitterComes 65 = .ok (.dup, 1) := by decide +kernel
theorem dX7_sitterComes_66 : decode cX7_sitterComes 66 = .ok (.getfield 126, 3) := by decide +kernel
theorem dX7_sitterComes_69 : decode cX7_sitterComes 69 = .ok (.iconst 1, 1) := by decide +kernel
theorem dX7_sitterComes_70 : decode cX7_sitterComes 70 = .ok (.iadd, 1) := by decide +kernel
theorem dX7_sitterComes_71 : decode cX7_sitterComes 71 = .ok (.putfield 126, 3) := by decide +kernel
theorem dX7_sitterComes_74 : decode cX7_sitterComes 74 = .ok (.iload_n 3, 1) := by decide +kernel
theorem dX7_sitterComes_75 : decode cX7_sitterComes 75 = .ok (.ireturn, 1) := by decide +kernel
set_option maxRecDepth 20000 in
theorem ggX7_feed_X7_refuse : GoodIn wsX7_feed wsX7_refuse := goodIn_r _ [8, 9, 10, 11, 12, 13, 14, 15, 16, 17, 18, 19, 20, 21, 22, 23, 24, 25, 26, 27, 28, 29, 30, 31, 32, 33, 34, 35, 36, 37, 38, 39, 40, 41, 42, 43, 44, 45, 46, 47, 48, 49, 50, 51, 52, 53, 54, 55, 56, 57, 58, 59, 60, 61, 62] (by decide +kernel) (by decide +kernel)
set_option maxRecDepth 20000 in
theorem gX7_feed_X7_refuse : GoodIn wsX7_feed (wsV RX7 219 RX7 yX7_refuse wsX7_refuse) := goodIn_app (goodIn_of _ (by decide +kernel)) ggX7_feed_X7_refuse
theorem dX7_feed_0 : decode cX7_feed 0 = .ok (.aload_n 0, 1) := by decide +kernel
theorem dX7_feed_1 : decode cX7_feed 1 = .ok (.iconst 0, 1) := by decide +kernel
theorem dX7_feed_2 : decode cX7_feed 2 = .ok (.putfield 114, 3) := by decide +kernel
theorem dX7_feed_5 : decode cX7_feed 5 = .ok (.iload_n 1, 1) := by decide +kernel
theorem dX7_feed_6 : decode cX7_feed 6 = .ok (.ifCond .ge 10, 3) := by decide +kernel
theorem dX7_feed_9 : decode cX7_feed 9 = .ok (.aload_n 0, 1) := by decide +kernel
theorem dX7_feed_10 : decode cX7_feed 10 = .ok (.bipush (-4), 2) := by decide +kernel
theorem dX7_feed_12 : decode cX7_feed 12 = .ok (.invokevirtual 219, 3) := by decide +kernel
theorem dX7_feed_15 : decode cX7_feed 15 = .ok (.ireturn, 1) := by decide +kernel
theorem dX7_feed_16 : decode cX7_feed 16 = .ok (.iload_n 1, 1) := by decide +kernel
theorem dX7_feed_17 : decode cX7_feed 17 = .ok (.sipush 255, 3) := by decide +kernel
theorem dX7_feed_20 : decode cX7_feed 20 = .ok (.if_icmp .gt 12, 3) := by decide +kernel
theorem dX7_feed_23 : decode cX7_feed 23 = .ok (.aload_n 0, 1) := by decide +kernel
theorem dX7_feed_24 : decode cX7_feed 24 = .ok (.getfield 222, 3) := by decide +kernel
theorem dX7_feed_27 : decode cX7_feed 27 = .ok (.bipush 96, 2) := by decide +kernel
theorem dX7_feed_29 : decode cX7_feed 29 = .ok (.if_icmp .ne 10, 3) := by decide +kernel
theorem dX7_feed_32 : decode cX7_feed 32 = .ok (.aload_n 0, 1) := by decide +kernel
theorem dX7_feed_33 : decode cX7_feed 33 = .ok (.bipush (-6), 2) := by decide +kernel
theorem dX7_feed_35 : decode cX7_feed 35 = .ok (.invokevirtual 219, 3) := by decide +kernel
theorem dX7_feed_38 : decode cX7_feed 38 = .ok (.ireturn, 1) := by decide +kernel
theorem dX7_feed_39 : decode cX7_feed 39 = .ok (.aload_n 0, 1) := by decide +kernel
theorem dX7_feed_40 : decode cX7_feed 40 = .ok (.getfield 50, 3) := by decide +kernel
theorem dX7_feed_43 : decode cX7_feed 43 = .ok (.aload_n 0, 1) := by decide +kernel
theorem dX7_feed_44 : decode cX7_feed 44 = .ok (.getfield 222, 3) := by decide +kernel
theorem dX7_feed_47 : decode cX7_feed 47 = .ok (.iload_n 1, 1) := by decide +kernel
theorem dX7_feed_48 : decode cX7_feed 48 = .ok (.iastore, 1) := by decide +kernel
theorem dX7_feed_49 : decode cX7_feed 49 = .ok (.aload_n 0, 1) := by decide +kernel
theorem dX7_feed_50 : decode cX7_feed 50 = .ok (.dup, 1) := by decide +kernel
theorem dX7_feed_51 : decode cX7_feed 51 = .ok (.getfield 222, 3) := by decide +kernel
theorem dX7_feed_54 : decode cX7_feed 54 = .ok (.iconst 1, 1) := by decide +kernel
theorem dX7_feed_55 : decode cX7_feed 55 = .ok (.iadd, 1) := by decide +kernel
theorem dX7_feed_56 : decode cX7_feed 56 = .ok (.putfield 222, 3) := by decide +kernel
theorem dX7_feed_59 : decode cX7_feed 59 = .ok (.aload_n 0, 1) := by decide +kernel
theorem dX7_feed_60 : decode cX7_feed 60 = .ok (.getfield 222, 3) := by decide +kernel
theorem dX7_feed_63 : decode cX7_feed 63 = .ok (.ireturn, 1) := by decide +kernel
theorem dX7_here_0 : decode cX7_here 0 = .ok (.aload_n 0, 1) := by decide +kernel
theorem dX7_here_1 : decode cX7_here 1 = .ok (.getfield 225, 3) := by decide +kernel
theorem dX7_here_4 : decode cX7_here 4 = .ok (.aload_n 0, 1) := by decide +kernel
theorem dX7_here_5 : decode cX7_here 5 = .ok (.getfield 222, 3) := by decide +kernel
theorem dX7_here_8 : decode cX7_here 8 = .ok (.if_icmp .ge 15, 3) := by decide +kernel
theorem dX7_here_11 : decode cX7_here 11 = .ok (.aload_n 0, 1) := by decide +kernel
theorem dX7_here_12 : decode cX7_here 12 = .ok (.getfield 50, 3) := by decide +kernel
theorem dX7_here_15 : decode cX7_here 15 = .ok (.aload_n 0, 1) := by decide +kernel
theorem dX7_here_16 : decode cX7_here 16 = .ok (.getfield 225, 3) := by decide +kernel
theorem dX7_here_19 : decode cX7_here 19 = .ok (.iaload, 1) := by decide +kernel
theorem dX7_here_20 : decode cX7_here 20 = .ok (.goto 4, 3) := by decide +kernel
theorem dX7_here_23 : decode cX7_here 23 = .ok (.iconst (-1), 1) := by decide +kernel
theorem dX7_here_24 : decode cX7_here 24 = .ok (.ireturn, 1) := by decide +kernel
set_option maxRecDepth 20000 in
theorem ggX7_readDigits_X7_here : GoodIn wsX7_readDigits wsX7_here := goodIn_r _ [10, 5, 11, 4, 15, 16, 17, 18, 19, 20, 21, 22, 23, 24, 25, 26, 27, 28, 29, 30, 31, 32, 33, 34, 35, 36, 37, 38, 39, 40, 41, 42, 43, 44, 45, 46, 47, 48, 49, 50, 51, 52, 53, 54, 55, 56, 57, 58, 59, 60, 61, 62, 63, 64, 65, 66, 67] (by decide +kernel) (by decide +kernel)
set_option maxRecDepth 20000 in
theorem gX7_readDigits_X7_here : GoodIn wsX7_readDigits (wsV RX7 231 RX7 yX7_here wsX7_here) := goodIn_app (goodIn_of _ (by decide +kernel)) ggX7_readDigits_X7_here
set_option maxRecDepth 20000 in
theorem ggX7_readDigits_X7_in : GoodIn wsX7_readDigits wsX7_in := goodIn_r _ [14] (by decide +kernel) (by decide +kernel)
set_option maxRecDepth 20000 in
theorem gX7_readDigits_X7_in : GoodIn wsX7_readDigits (va_wsS RX7 122 yX7_in wsX7_in) := goodIn_app (goodIn_of _ (by decide +kernel)) ggX7_readDigits_X7_in
theorem dX7_readDigits_0 : decode cX7_readDigits 0 = .ok (.iconst 0, 1) := by decide +kernel
theorem dX7_readDigits_1 : decode cX7_readDigits 1 = .ok (.istore_n 2, 1) := by decide +kernel
theorem dX7_readDigits_2 : decode cX7_readDigits 2 = .ok (.iconst 0, 1) := by decide +kernel
theorem dX7_readDigits_3 : decode cX7_readDigits 3 = .ok (.istore_n 3, 1) := by decide +kernel
theorem dX7_readDigits_4 : decode cX7_readDigits 4 = .ok (.iload_n 3, 1) := by decide +kernel
theorem dX7_readDigits_5 : decode cX7_readDigits 5 = .ok (.iload_n 1, 1) := by decide +kernel
theorem dX7_readDigits_6 : decode cX7_readDigits 6 = .ok (.if_icmp .ge 92, 3) := by decide +kernel
theorem dX7_readDigits_9 : decode cX7_readDigits 9 = .ok (.aload_n 0, 1) := by decide +kernel
theorem dX7_readDigits_10 : decode cX7_readDigits 10 = .ok (.aload_n 0, 1) := by decide +kernel
theorem dX7_readDigits_11 : decode cX7_readDigits 11 = .ok (.getfield 228, 3) := by decide +kernel
theorem dX7_readDigits_14 : decode cX7_readDigits 14 = .ok (.ifCond .ne 20, 3) := by decide +kernel
theorem dX7_readDigits_17 : decode cX7_readDigits 17 = .ok (.aload_n 0, 1) := by decide +kernel
theorem dX7_readDigits_18 : decode cX7_readDigits 18 = .ok (.invokevirtual 231, 3) := by decide +kernel
theorem dX7_readDigits_21 : decode cX7_readDigits 21 = .ok (.i2l, 1) := by decide +kernel
theorem dX7_readDigits_22 : decode cX7_readDigits 22 = .ok (.ldc2_w 235, 3) := by decide +kernel
theorem dX7_readDigits_25 : decode cX7_readDigits 25 = .ok (.ldc2_w 237, 3) := by decide +kernel
theorem dX7_readDigits_28 : decode cX7_readDigits 28 = .ok (.invokestatic 122, 3) := by decide +kernel
theorem dX7_readDigits_31 : decode cX7_readDigits 31 = .ok (.ifCond .ne 7, 3) := by decide +kernel
theorem dX7_readDigits_34 : decode cX7_readDigits 34 = .ok (.iconst 1, 1) := by decide +kernel
theorem dX7_readDigits_35 : decode cX7_readDigits 35 = .ok (.goto 4, 3) := by decide +kernel
theorem dX7_readDigits_38 : decode cX7_readDigits 38 = .ok (.iconst 0, 1) := by decide +kernel
theorem dX7_readDigits_39 : decode cX7_readDigits 39 = .ok (.putfield 228, 3) := by decide +kernel
theorem dX7_readDigits_42 : decode cX7_readDigits 42 = .ok (.aload_n 0, 1) := by decide +kernel
theorem dX7_readDigits_43 : decode cX7_readDigits 43 = .ok (.getfield 228, 3) := by decide +kernel
theorem dX7_readDigits_46 : decode cX7_readDigits 46 = .ok (.ifCond .eq 7, 3) := by decide +kernel
theorem dX7_readDigits_49 : decode cX7_readDigits 49 = .ok (.iconst 0, 1) := by decide +kernel
theorem dX7_readDigits_50 : decode cX7_readDigits 50 = .ok (.goto 20, 3) := by decide +kernel
theorem dX7_readDigits_53 : decode cX7_readDigits 53 = .ok (.bipush 10, 2) := by decide +kernel
theorem dX7_readDigits_55 : decode cX7_readDigits 55 = .ok (.iload_n 2, 1) := by decide +kernel
theorem dX7_readDigits_56 : decode cX7_readDigits 56 = .ok (.imul, 1) := by decide +kernel
theorem dX7_readDigits_57 : decode cX7_readDigits 57 = .ok (.aload_n 0, 1) := by decide +kernel
theorem dX7_readDigits_58 : decode cX7_readDigits 58 = .ok (.getfield 50, 3) := by decide +kernel
theorem dX7_readDigits_61 : decode cX7_readDigits 61 = .ok (.aload_n 0, 1) := by decide +kernel
theorem dX7_readDigits_62 : decode cX7_readDigits 62 = .ok (.getfield 225, 3) := by decide +kernel
theorem dX7_readDigits_65 : decode cX7_readDigits 65 = .ok (.iaload, 1) := by decide +kernel
theorem dX7_readDigits_66 : decode cX7_readDigits 66 = .ok (.iadd, 1) := by decide +kernel
theorem dX7_readDigits_67 : decode cX7_readDigits 67 = .ok (.bipush 48, 2) := by decide +kernel
theorem dX7_readDigits_69 : decode cX7_readDigits 69 = .ok (.isub, 1) := by decide +kernel
theorem dX7_readDigits_70 : decode cX7_readDigits 70 = .ok (.istore_n 2, 1) := by decide +kernel
theorem dX7_readDigits_71 : decode cX7_readDigits 71 = .ok (.aload_n 0, 1) := by decide +kernel
theorem dX7_readDigits_72 : decode cX7_readDigits 72 = .ok (.dup, 1) := by decide +kernel
theorem dX7_readDigits_73 : decode cX7_readDigits 73 = .ok (.getfield 225, 3) := by decide +kernel
theorem dX7_readDigits_76 : decode cX7_readDigits 76 = .ok (.aload_n 0, 1) := by decide +kernel
theorem dX7_readDigits_77 : decode cX7_readDigits 77 = .ok (.getfield 228, 3) := by decide +kernel
theorem dX7_readDigits_80 : decode cX7_readDigits 80 = .ok (.ifCond .eq 7, 3) := by decide +kernel
theorem dX7_readDigits_83 : decode cX7_readDigits 83 = .ok (.iconst 0, 1) := by decide +kernel
theorem dX7_readDigits_84 : decode cX7_readDigits 84 = .ok (.goto 4, 3) := by decide +kernel
theorem dX7_readDigits_87 : decode cX7_readDigits 87 = .ok (.iconst 1, 1) := by decide +kernel
theorem dX7_readDigits_88 : decode cX7_readDigits 88 = .ok (.iadd, 1) := by decide +kernel
theorem dX7_readDigits_89 : decode cX7_readDigits 89 = .ok (.putfield 225, 3) := by decide +kernel
theorem dX7_readDigits_92 : decode cX7_readDigits 92 = .ok (.iinc 3 1, 3) := by decide +kernel
theorem dX7_readDigits_95 : decode cX7_readDigits 95 = .ok (.goto (-91), 3) := by decide +kernel
theorem dX7_readDigits_98 : decode cX7_readDigits 98 = .ok (.iload_n 2, 1) := by decide +kernel
theorem dX7_readDigits_99 : decode cX7_readDigits 99 = .ok (.ireturn, 1) := by decide +kernel
theorem dX7_isLetter_0 : decode cX7_isLetter 0 = .ok (.iload_n 0, 1) := by decide +kernel
theorem dX7_isLetter_1 : decode cX7_isLetter 1 = .ok (.bipush 97, 2) := by decide +kernel
theorem dX7_isLetter_3 : decode cX7_isLetter 3 = .ok (.if_icmp .eq 33, 3) := by decide +kernel
theorem dX7_isLetter_6 : decode cX7_isLetter 6 = .ok (.iload_n 0, 1) := by decide +kernel
theorem dX7_isLetter_7 : decode cX7_isLetter 7 = .ok (.bipush 112, 2) := by decide +kernel
theorem dX7_isLetter_9 : decode cX7_isLetter 9 = .ok (.if_icmp .eq 27, 3) := by decide +kernel
theorem dX7_isLetter_12 : decode cX7_isLetter 12 = .ok (.iload_n 0, 1) := by decide +kernel
theorem dX7_isLetter_13 : decode cX7_isLetter 13 = .ok (.bipush 100, 2) := by decide +kernel
theorem dX7_isLetter_15 : decode cX7_isLetter 15 = .ok (.if_icmp .eq 21, 3) := by decide +kernel
theorem dX7_isLetter_18 : decode cX7_isLetter 18 = .ok (.iload_n 0, 1) := by decide +kernel
theorem dX7_isLetter_19 : decode cX7_isLetter 19 = .ok (.bipush 119, 2) := by decide +kernel
theorem dX7_isLetter_21 : decode cX7_isLetter 21 = .ok (.if_icmp .eq 15, 3) := by decide +kernel
theorem dX7_isLetter_24 : decode cX7_isLetter 24 = .ok (.iload_n 0, 1) := by decide +kernel
theorem dX7_isLetter_25 : decode cX7_isLetter 25 = .ok (.bipush 108, 2) := by decide +kernel
theorem dX7_isLetter_27 : decode cX7_isLetter 27 = .ok (.if_icmp .eq 9, 3) := by decide +kernel
theorem dX7_isLetter_30 : decode cX7_isLetter 30 = .ok (.iload_n 0, 1) := by decide +kernel
theorem dX7_isLetter_31 : decode cX7_isLetter 31 = .ok (.bipush 116, 2) := by decide +kernel
theorem dX7_isLetter_33 : decode cX7_isLetter 33 = .ok (.if_icmp .ne 7, 3) := by decide +kernel
theorem dX7_isLetter_36 : decode cX7_isLetter 36 = .ok (.iconst 1, 1) := by decide +kernel
theorem dX7_isLetter_37 : decode cX7_isLetter 37 = .ok (.goto 4, 3) := by decide +kernel
theorem dX7_isLetter_40 : decode cX7_isLetter 40 = .ok (.iconst 0, 1) := by decide +kernel
theorem dX7_isLetter_41 : decode cX7_isLetter 41 = .ok (.ireturn, 1) := by decide +kernel
theorem dX7_stepBySign_0 : decode cX7_stepBySign 0 = .ok (.iload_n 0, 1) := by decide +kernel
theorem dX7_stepBySign_1 : decode cX7_stepBySign 1 = .ok (.tableswitch 110 97 116 #[99, 110, 107, 110, 110, 110, 103, 110, 110, 110, 110, 105, 97, 110, 110, 110, 110, 110, 101, 95], 95) := by decide +kernel
theorem dX7_stepBySign_96 : decode cX7_stepBySign 96 = .ok (.iconst 0, 1) := by decide +kernel
theorem dX7_stepBySign_97 : decode cX7_stepBySign 97 = .ok (.ireturn, 1) := by decide +kernel
theorem dX7_stepBySign_98 : decode cX7_stepBySign 98 = .ok (.iconst 1, 1) := by decide +kernel
theorem dX7_stepBySign_99 : decode cX7_stepBySign 99 = .ok (.ireturn, 1) := by decide +kernel
theorem dX7_stepBySign_100 : decode cX7_stepBySign 100 = .ok (.iconst 2, 1) := by decide +kernel
theorem dX7_stepBySign_101 : decode cX7_stepBySign 101 = .ok (.ireturn, 1) := by decide +kernel
theorem dX7_stepBySign_102 : decode cX7_stepBySign 102 = .ok (.iconst 3, 1) := by decide +kernel
theorem dX7_stepBySign_103 : decode cX7_stepBySign 103 = .ok (.ireturn, 1) := by decide +kernel
theorem dX7_stepBySign_104 : decode cX7_stepBySign 104 = .ok (.iconst 4, 1) := by decide +kernel
theorem dX7_stepBySign_105 : decode cX7_stepBySign 105 = .ok (.ireturn, 1) := by decide +kernel
theorem dX7_stepBySign_106 : decode cX7_stepBySign 106 = .ok (.iconst 5, 1) := by decide +kernel
theorem dX7_stepBySign_107 : decode cX7_stepBySign 107 = .ok (.ireturn, 1) := by decide +kernel
theorem dX7_stepBySign_108 : decode cX7_stepBySign 108 = .ok (.bipush 6, 2) := by decide +kernel
theorem dX7_stepBySign_110 : decode cX7_stepBySign 110 = .ok (.ireturn, 1) := by decide +kernel
theorem dX7_stepBySign_111 : decode cX7_stepBySign 111 = .ok (.iconst (-1), 1) := by decide +kernel
theorem dX7_stepBySign_112 : decode cX7_stepBySign 112 = .ok (.ireturn, 1) := by decide +kernel
set_option maxRecDepth 20000 in
theorem ggX7_readSteps_X7_here : GoodIn wsX7_readSteps wsX7_here := goodIn_r _ [11, 4, 12, 13, 26, 27, 28, 29, 30, 31, 32, 33, 34, 35, 36, 37, 38, 39, 40, 41, 42, 43, 44, 45, 46, 47, 48, 49, 50, 51, 52, 53, 54, 55, 56, 57, 58, 59, 60, 61, 62, 63, 64, 65, 66, 67, 68, 69, 70, 71, 72, 73, 74, 75, 76, 77, 78] (by decide +kernel) (by decide +kernel)
set_option maxRecDepth 20000 in
theorem gX7_readSteps_X7_here : GoodIn wsX7_readSteps (wsV RX7 231 RX7 yX7_here wsX7_here) := goodIn_app (goodIn_of _ (by decide +kernel)) ggX7_readSteps_X7_here
set_option maxRecDepth 20000 in
theorem ggX7_readSteps_X7_stepBySign : GoodIn wsX7_readSteps wsX7_stepBySign := goodIn_r _ [16] (by decide +kernel) (by decide +kernel)
set_option maxRecDepth 20000 in
theorem gX7_readSteps_X7_stepBySign : GoodIn wsX7_readSteps (va_wsS RX7 242 yX7_stepBySign wsX7_stepBySign) := goodIn_app (goodIn_of _ (by decide +kernel)) ggX7_readSteps_X7_stepBySign
set_option maxRecDepth 20000 in
theorem ggX7_readSteps_X7_readDigits : GoodIn wsX7_readSteps wsX7_readDigits := goodIn_r _ [20, 3, 21, 22, 13, 4, 7, 8, 9, 10, 11, 12, 23, 24, 25, 26, 27, 28, 29, 30, 31, 32, 33, 34, 35, 36, 37, 38, 39, 40, 41, 42, 43, 44, 45, 46, 47, 48, 49, 50, 51, 52, 53, 54, 55, 56, 57, 58, 59, 60, 61, 62, 63, 64, 65, 66, 67, 68, 69, 70, 71, 72, 73, 74, 75, 76, 77, 78] (by decide +kernel) (by decide +kernel)
set_option maxRecDepth 20000 in
theorem gX7_readSteps_X7_readDigits : GoodIn wsX7_readSteps (wsV RX7 245 RX7 yX7_readDigits wsX7_readDigits) := goodIn_app (goodIn_of _ (by decide +kernel)) ggX7_readSteps_X7_readDigits
theorem dX7_readSteps_0 : decode cX7_readSteps 0 = .ok (.aload_n 0, 1) := by decide +kernel
theorem dX7_readSteps_1 : decode cX7_readSteps 1 = .ok (.getfield 59, 3) := by decide +kernel
theorem dX7_readSteps_4 : decode cX7_readSteps 4 = .ok (.iload_n 1, 1) := by decide +kernel
theorem dX7_readSteps_5 : decode cX7_readSteps 5 = .ok (.aload_n 0, 1) := by decide +kernel
theorem dX7_readSteps_6 : decode cX7_readSteps 6 = .ok (.getfield 239, 3) := by decide +kernel
theorem dX7_readSteps_9 : decode cX7_readSteps 9 = .ok (.iastore, 1) := by decide +kernel
theorem dX7_readSteps_10 : decode cX7_readSteps 10 = .ok (.aload_n 0, 1) := by decide +kernel
theorem dX7_readSteps_11 : decode cX7_readSteps 11 = .ok (.getfield 228, 3) := by decide +kernel
theorem dX7_readSteps_14 : decode cX7_readSteps 14 = .ok (.ifCond .ne 78, 3) := by decide +kernel
theorem dX7_readSteps_17 : decode cX7_readSteps 17 = .ok (.aload_n 0, 1) := by decide +kernel
theorem dX7_readSteps_18 : decode cX7_readSteps 18 = .ok (.invokevirtual 231, 3) := by decide +kernel
theorem dX7_readSteps_21 : decode cX7_readSteps 21 = .ok (.invokestatic 242, 3) := by decide +kernel
theorem dX7_readSteps_24 : decode cX7_readSteps 24 = .ok (.ifCond .lt 68, 3) := by decide +kernel
theorem dX7_readSteps_27 : decode cX7_readSteps 27 = .ok (.aload_n 0, 1) := by decide +kernel
theorem dX7_readSteps_28 : decode cX7_readSteps 28 = .ok (.invokevirtual 231, 3) := by decide +kernel
theorem dX7_readSteps_31 : decode cX7_readSteps 31 = .ok (.invokestatic 242, 3) := by decide +kernel
theorem dX7_readSteps_34 : decode cX7_readSteps 34 = .ok (.istore_n 2, 1) := by decide +kernel
theorem dX7_readSteps_35 : decode cX7_readSteps 35 = .ok (.aload_n 0, 1) := by decide +kernel
theorem dX7_readSteps_36 : decode cX7_readSteps 36 = .ok (.dup, 1) := by decide +kernel
theorem dX7_readSteps_37 : decode cX7_readSteps 37 = .ok (.getfield 225, 3) := by decide +kernel
theorem dX7_readSteps_40 : decode cX7_readSteps 40 = .ok (.iconst 1, 1) := by decide +kernel
theorem dX7_readSteps_41 : decode cX7_readSteps 41 = .ok (.iadd, 1) := by decide +kernel
theorem dX7_readSteps_42 : decode cX7_readSteps 42 = .ok (.putfield 225, 3) := by decide +kernel
theorem dX7_readSteps_45 : decode cX7_readSteps 45 = .ok (.aload_n 0, 1) := by decide +kernel
theorem dX7_readSteps_46 : decode cX7_readSteps 46 = .ok (.getfield 62, 3) := by decide +kernel
theorem dX7_readSteps_49 : decode cX7_readSteps 49 = .ok (.aload_n 0, 1) := by decide +kernel
theorem dX7_readSteps_50 : decode cX7_readSteps 50 = .ok (.getfield 239, 3) := by decide +kernel
theorem dX7_readSteps_53 : decode cX7_readSteps 53 = .ok (.iload_n 2, 1) := by decide +kernel
theorem dX7_readSteps_54 : decode cX7_readSteps 54 = .ok (.iastore, 1) := by decide +kernel
theorem dX7_readSteps_55 : decode cX7_readSteps 55 = .ok (.aload_n 0, 1) := by decide +kernel
theorem dX7_readSteps_56 : decode cX7_readSteps 56 = .ok (.getfield 65, 3) := by decide +kernel
theorem dX7_readSteps_59 : decode cX7_readSteps 59 = .ok (.aload_n 0, 1) := by decide +kernel
theorem dX7_readSteps_60 : decode cX7_readSteps 60 = .ok (.getfield 239, 3) := by decide +kernel
theorem dX7_readSteps_63 : decode cX7_readSteps 63 = .ok (.iload_n 2, 1) := by decide +kernel
theorem dX7_readSteps_64 : decode cX7_readSteps 64 = .ok (.bipush 6, 2) := by decide +kernel
theorem dX7_readSteps_66 : decode cX7_readSteps 66 = .ok (.if_icmp .ne 7, 3) := by decide +kernel
theorem dX7_readSteps_69 : decode cX7_readSteps 69 = .ok (.iconst 0, 1) := by decide +kernel
theorem dX7_readSteps_70 : decode cX7_readSteps 70 = .ok (.goto 8, 3) := by decide +kernel
theorem dX7_readSteps_73 : decode cX7_readSteps 73 = .ok (.aload_n 0, 1) := by decide +kernel
theorem dX7_readSteps_74 : decode cX7_readSteps 74 = .ok (.iconst 2, 1) := by decide +kernel
theorem dX7_readSteps_75 : decode cX7_readSteps 75 = .ok (.invokevirtual 245, 3) := by decide +kernel
theorem dX7_readSteps_78 : decode cX7_readSteps 78 = .ok (.iastore, 1) := by decide +kernel
theorem dX7_readSteps_79 : decode cX7_readSteps 79 = .ok (.aload_n 0, 1) := by decide +kernel
theorem dX7_readSteps_80 : decode cX7_readSteps 80 = .ok (.dup, 1) := by decide +kernel
theorem dX7_readSteps_81 : decode cX7_readSteps 81 = .ok (.getfield 239, 3) := by decide +kernel
theorem dX7_readSteps_84 : decode cX7_readSteps 84 = .ok (.iconst 1, 1) := by decide +kernel
theorem dX7_readSteps_85 : decode cX7_readSteps 85 = .ok (.iadd, 1) := by decide +kernel
theorem dX7_readSteps_86 : decode cX7_readSteps 86 = .ok (.putfield 239, 3) := by decide +kernel
theorem dX7_readSteps_89 : decode cX7_readSteps 89 = .ok (.goto (-79), 3) := by decide +kernel
theorem dX7_readSteps_92 : decode cX7_readSteps 92 = .ok (.aload_n 0, 1) := by decide +kernel
theorem dX7_readSteps_93 : decode cX7_readSteps 93 = .ok (.getfield 59, 3) := by decide +kernel
theorem dX7_readSteps_96 : decode cX7_readSteps 96 = .ok (.iload_n 1, 1) := by decide +kernel
theorem dX7_readSteps_97 : decode cX7_readSteps 97 = .ok (.iconst 1, 1) := by decide +kernel
theorem dX7_readSteps_98 : decode cX7_readSteps 98 = .ok (.iadd, 1) := by decide +kernel
theorem dX7_readSteps_99 : decode cX7_readSteps 99 = .ok (.aload_n 0, 1) := by decide +kernel
theorem dX7_readSteps_100 : decode cX7_readSteps 100 = .ok (.getfield 239, 3) := by decide +kernel
theorem dX7_readSteps_103 : decode cX7_readSteps 103 = .ok (.aload_n 0, 1) := by decide +kernel
theorem dX7_readSteps_104 : decode cX7_readSteps 104 = .ok (.getfield 59, 3) := by decide +kernel
theorem dX7_readSteps_107 : decode cX7_readSteps 107 = .ok (.iload_n 1, 1) := by decide +kernel
theorem dX7_readSteps_108 : decode cX7_readSteps 108 = .ok (.iaload, 1) := by decide +kernel
theorem dX7_readSteps_109 : decode cX7_readSteps 109 = .ok (.isub, 1) := by decide +kernel
theorem dX7_readSteps_110 : decode cX7_readSteps 110 = .ok (.iastore, 1) := by decide +kernel
theorem dX7_readSteps_111 : decode cX7_readSteps 111 = .ok (.return_, 1) := by decide +kernel
set_option maxRecDepth 20000 in
theorem ggX7_readNumbers_X7_readSteps : GoodIn wsX7_readNumbers wsX7_readSteps := goodIn_r _ [6, 1, 7, 8, 9, 10, 11, 12, 13, 14, 5, 15, 16, 17, 18, 19, 20, 21, 22, 23, 24, 25, 26, 27, 28, 29, 30, 31, 32, 33, 34, 35, 36, 37, 38, 39, 40, 41, 42, 43, 44, 45, 46, 47, 48, 49, 50, 51, 52, 53, 54, 55, 56, 57, 58, 59, 60, 61, 62, 63, 64, 65, 66, 67, 68, 69, 70, 71, 72, 73, 74, 75, 76, 77, 78, 79, 80, 81, 82] (by decide +kernel) (by decide +kernel)
set_option maxRecDepth 20000 in
theorem gX7_readNumbers_X7_readSteps : GoodIn wsX7_readNumbers (wsV RX7 248 RX7 yX7_readSteps wsX7_readSteps) := goodIn_app (goodIn_of _ (by decide +kernel)) ggX7_readNumbers_X7_readSteps
set_option maxRecDepth 20000 in
theorem ggX7_readNumbers_X7_readDigits : GoodIn wsX7_readNumbers wsX7_readDigits := goodIn_r _ [24, 8, 25, 26, 17, 9, 12, 13, 14, 5, 15, 16, 27, 28, 29, 30, 31, 32, 33, 34, 35, 36, 37, 38, 39, 40, 41, 42, 43, 44, 45, 46, 47, 48, 49, 50, 51, 52, 53, 54, 55, 56, 57, 58, 59, 60, 61, 62, 63, 64, 65, 66, 67, 68, 69, 70, 71, 72, 73, 74, 75, 76, 77, 78, 79, 80, 81, 82] (by decide +kernel) (by decide +kernel)
set_option maxRecDepth 20000 in
theorem gX7_readNumbers_X7_readDigits : GoodIn wsX7_readNumbers (wsV RX7 245 RX7 yX7_readDigits wsX7_readDigits) := goodIn_app (goodIn_of _ (by decide +kernel)) ggX7_readNumbers_X7_readDigits
theorem dX7_readNumbers_0 : decode cX7_readNumbers 0 = .ok (.iload_n 1, 1) := by decide +kernel
theorem dX7_readNumbers_1 : decode cX7_readNumbers 1 = .ok (.bipush 108, 2) := by decide +kernel
theorem dX7_readNumbers_3 : decode cX7_readNumbers 3 = .ok (.if_icmp .ne 9, 3) := by decide +kernel
theorem dX7_readNumbers_6 : decode cX7_readNumbers 6 = .ok (.aload_n 0, 1) := by decide +kernel
theorem dX7_readNumbers_7 : decode cX7_readNumbers 7 = .ok (.iload_n 2, 1) := by decide +kernel
theorem dX7_readNumbers_8 : decode cX7_readNumbers 8 = .ok (.invokevirtual 248, 3) := by decide +kernel
theorem dX7_readNumbers_11 : decode cX7_readNumbers 11 = .ok (.return_, 1) := by decide +kernel
theorem dX7_readNumbers_12 : decode cX7_readNumbers 12 = .ok (.aload_n 0, 1) := by decide +kernel
theorem dX7_readNumbers_13 : decode cX7_readNumbers 13 = .ok (.getfield 59, 3) := by decide +kernel
theorem dX7_readNumbers_16 : decode cX7_readNumbers 16 = .ok (.iload_n 2, 1) := by decide +kernel
theorem dX7_readNumbers_17 : decode cX7_readNumbers 17 = .ok (.aload_n 0, 1) := by decide +kernel
theorem dX7_readNumbers_18 : decode cX7_readNumbers 18 = .ok (.iload_n 1, 1) := by decide +kernel
theorem dX7_readNumbers_19 : decode cX7_readNumbers 19 = .ok (.bipush 97, 2) := by decide +kernel
theorem dX7_readNumbers_21 : decode cX7_readNumbers 21 = .ok (.if_icmp .ne 7, 3) := by decide +kernel
theorem dX7_readNumbers_24 : decode cX7_readNumbers 24 = .ok (.iconst 1, 1) := by decide +kernel
theorem dX7_readNumbers_25 : decode cX7_readNumbers 25 = .ok (.goto 4, 3) := by decide +kernel
theorem dX7_readNumbers_28 : decode cX7_readNumbers 28 = .ok (.iconst 2, 1) := by decide +kernel
theorem dX7_readNumbers_29 : decode cX7_readNumbers 29 = .ok (.invokevirtual 245, 3) := by decide +kernel
theorem dX7_readNumbers_32 : decode cX7_readNumbers 32 = .ok (.iastore, 1) := by decide +kernel
theorem dX7_readNumbers_33 : decode cX7_readNumbers 33 = .ok (.aload_n 0, 1) := by decide +kernel
theorem dX7_readNumbers_34 : decode cX7_readNumbers 34 = .ok (.getfield 59, 3) := by decide +kernel
theorem dX7_readNumbers_37 : decode cX7_readNumbers 37 = .ok (.iload_n 2, 1) := by decide +kernel
theorem dX7_readNumbers_38 : decode cX7_readNumbers 38 = .ok (.iconst 1, 1) := by decide +kernel
theorem dX7_readNumbers_39 : decode cX7_readNumbers 39 = .ok (.iadd, 1) := by decide +kernel
theorem dX7_readNumbers_40 : decode cX7_readNumbers 40 = .ok (.aload_n 0, 1) := by decide +kernel
theorem dX7_readNumbers_41 : decode cX7_readNumbers 41 = .ok (.iload_n 1, 1) := by decide +kernel
theorem dX7_readNumbers_42 : decode cX7_readNumbers 42 = .ok (.bipush 97, 2) := by decide +kernel
theorem dX7_readNumbers_44 : decode cX7_readNumbers 44 = .ok (.if_icmp .eq 9, 3) := by decide +kernel
theorem dX7_readNumbers_47 : decode cX7_readNumbers 47 = .ok (.iload_n 1, 1) := by decide +kernel
theorem dX7_readNumbers_48 : decode cX7_readNumbers 48 = .ok (.bipush 112, 2) := by decide +kernel
theorem dX7_readNumbers_50 : decode cX7_readNumbers 50 = .ok (.if_icmp .ne 7, 3) := by decide +kernel
theorem dX7_readNumbers_53 : decode cX7_readNumbers 53 = .ok (.iconst 1, 1) := by decide +kernel
theorem dX7_readNumbers_54 : decode cX7_readNumbers 54 = .ok (.goto 14, 3) := by decide +kernel
theorem dX7_readNumbers_57 : decode cX7_readNumbers 57 = .ok (.iload_n 1, 1) := by decide +kernel
theorem dX7_readNumbers_58 : decode cX7_readNumbers 58 = .ok (.bipush 119, 2) := by decide +kernel
theorem dX7_readNumbers_60 : decode cX7_readNumbers 60 = .ok (.if_icmp .ne 7, 3) := by decide +kernel
theorem dX7_readNumbers_63 : decode cX7_readNumbers 63 = .ok (.iconst 2, 1) := by decide +kernel
theorem dX7_readNumbers_64 : decode cX7_readNumbers 64 = .ok (.goto 4, 3) := by decide +kernel
theorem dX7_readNumbers_67 : decode cX7_readNumbers 67 = .ok (.iconst 0, 1) := by decide +kernel
theorem dX7_readNumbers_68 : decode cX7_readNumbers 68 = .ok (.invokevirtual 245, 3) := by decide +kernel
theorem dX7_readNumbers_71 : decode cX7_readNumbers 71 = .ok (.iastore, 1) := by decide +kernel
theorem dX7_readNumbers_72 : decode cX7_readNumbers 72 = .ok (.aload_n 0, 1) := by decide +kernel
theorem dX7_readNumbers_73 : decode cX7_readNumbers 73 = .ok (.getfield 59, 3) := by decide +kernel
theorem dX7_readNumbers_76 : decode cX7_readNumbers 76 = .ok (.iload_n 2, 1) := by decide +kernel
theorem dX7_readNumbers_77 : decode cX7_readNumbers 77 = .ok (.iconst 2, 1) := by decide +kernel
theorem dX7_readNumbers_78 : decode cX7_readNumbers 78 = .ok (.iadd, 1) := by decide +kernel
theorem dX7_readNumbers_79 : decode cX7_readNumbers 79 = .ok (.aload_n 0, 1) := by decide +kernel
theorem dX7_readNumbers_80 : decode cX7_readNumbers 80 = .ok (.iload_n 1, 1) := by decide +kernel
theorem dX7_readNumbers_81 : decode cX7_readNumbers 81 = .ok (.bipush 97, 2) := by decide +kernel
theorem dX7_readNumbers_83 : decode cX7_readNumbers 83 = .ok (.if_icmp .ne 7, 3) := by decide +kernel
theorem dX7_readNumbers_86 : decode cX7_readNumbers 86 = .ok (.iconst 2, 1) := by decide +kernel
theorem dX7_readNumbers_87 : decode cX7_readNumbers 87 = .ok (.goto 4, 3) := by decide +kernel
theorem dX7_readNumbers_90 : decode cX7_readNumbers 90 = .ok (.iconst 0, 1) := by decide +kernel
theorem dX7_readNumbers_91 : decode cX7_readNumbers 91 = .ok (.invokevirtual 245, 3) := by decide +kernel
theorem dX7_readNumbers_94 : decode cX7_readNumbers 94 = .ok (.iastore, 1) := by decide +kernel
theorem dX7_readNumbers_95 : decode cX7_readNumbers 95 = .ok (.aload_n 0, 1) := by decide +kernel
theorem dX7_readNumbers_96 : decode cX7_readNumbers 96 = .ok (.getfield 59, 3) := by decide +kernel
theorem dX7_readNumbers_99 : decode cX7_readNumbers 99 = .ok (.iload_n 2, 1) := by decide +kernel
theorem dX7_readNumbers_100 : decode cX7_readNumbers 100 = .ok (.iconst 3, 1) := by decide +kernel
theorem dX7_readNumbers_101 : decode cX7_readNumbers 101 = .ok (.iadd, 1) := by decide +kernel
theorem dX7_readNumbers_102 : decode cX7_readNumbers 102 = .ok (.aload_n 0, 1) := by decide +kernel
theorem dX7_readNumbers_103 : decode cX7_readNumbers 103 = .ok (.iload_n 1, 1) := by decide +kernel
theorem dX7_readNumbers_104 : decode cX7_readNumbers 104 = .ok (.bipush 97, 2) := by decide +kernel
theorem dX7_readNumbers_106 : decode cX7_readNumbers 106 = .ok (.if_icmp .ne 7, 3) := by decide +kernel
theorem dX7_readNumbers_109 : decode cX7_readNumbers 109 = .ok (.iconst 1, 1) := by decide +kernel
theorem dX7_readNumbers_110 : decode cX7_readNumbers 110 = .ok (.goto 4, 3) := by decide +kernel
theorem dX7_readNumbers_113 : decode cX7_readNumbers 113 = .ok (.iconst 0, 1) := by decide +kernel
theorem dX7_readNumbers_114 : decode cX7_readNumbers 114 = .ok (.invokevirtual 245, 3) := by decide +kernel
theorem dX7_readNumbers_117 : decode cX7_readNumbers 117 = .ok (.iastore, 1) := by decide +kernel
theorem dX7_readNumbers_118 : decode cX7_readNumbers 118 = .ok (.return_, 1) := by decide +kernel
set_option maxRecDepth 20000 in
theorem ggX7_readStatement_X7_here : GoodIn wsX7_readStatement wsX7_here := goodIn_r _ [10, 3, 11, 12, 40, 41, 42, 43, 44, 45, 46, 47, 48, 49, 50, 51, 52, 53, 54, 55, 56, 57, 58, 59, 60, 61, 62, 63, 64, 65, 66, 67, 68, 69, 70, 71, 72, 73, 74, 75, 76, 77, 78, 79, 80, 81, 82, 83, 84, 85, 86, 87, 88, 89, 90, 91, 92] (by decide +kernel) (by decide +kernel)
set_option maxRecDepth 20000 in
theorem gX7_readStatement_X7_here : GoodIn wsX7_readStatement (wsV RX7 231 RX7 yX7_here wsX7_here) := goodIn_app (goodIn_of _ (by decide +kernel)) ggX7_readStatement_X7_here
set_option maxRecDepth 20000 in
theorem ggX7_readStatement_X7_isLetter : GoodIn wsX7_readStatement wsX7_isLetter := goodIn_r _ [15] (by decide +kernel) (by decide +kernel)
set_option maxRecDepth 20000 in
theorem gX7_readStatement_X7_isLetter : GoodIn wsX7_readStatement (va_wsS RX7 254 yX7_isLetter wsX7_isLetter) := goodIn_app (goodIn_of _ (by decide +kernel)) ggX7_readStatement_X7_isLetter
set_option maxRecDepth 20000 in
theorem ggX7_readStatement_X7_readNumbers : GoodIn wsX7_readStatement wsX7_readNumbers := goodIn_r _ [19, 20, 21, 22, 23, 9, 24, 25, 5, 3, 26, 27, 6, 7, 8, 10, 11, 12, 28, 29, 30, 31, 32, 33, 34, 35, 36, 37, 38, 39, 40, 41, 42, 43, 44, 45, 46, 47, 48, 49, 50, 51, 52, 53, 54, 55, 56, 57, 58, 59, 60, 61, 62, 63, 64, 65, 66, 67, 68, 69, 70, 71, 72, 73, 74, 75, 76, 77, 78, 79, 80, 81, 82, 83, 84, 85, 86, 87, 88, 89, 90, 91, 92] (by decide +kernel) (by decide +kernel)
set_option maxRecDepth 20000 in
theorem gX7_readStatement_X7_readNumbers : GoodIn wsX7_readStatement (wsV RX7 257 RX7 yX7_readNumbers wsX7_readNumbers) := goodIn_app (goodIn_of _ (by decide +kernel)) ggX7_readStatement_X7_readNumbers
theorem dX7_readStatement_0 : decode cX7_readStatement 0 = .ok (.aload_n 0, 1) := by decide +kernel
theorem dX7_readStatement_1 : decode cX7_readStatement 1 = .ok (.getfield 251, 3) := by decide +kernel
theorem dX7_readStatement_4 : decode cX7_readStatement 4 = .ok (.istore_n 1, 1) := by decide +kernel
theorem dX7_readStatement_5 : decode cX7_readStatement 5 = .ok (.aload_n 0, 1) := by decide +kernel
theorem dX7_readStatement_6 : decode cX7_readStatement 6 = .ok (.invokevirtual 231, 3) := by decide +kernel
theorem dX7_readStatement_9 : decode cX7_readStatement 9 = .ok (.istore_n 2, 1) := by decide +kernel
theorem dX7_readStatement_10 : decode cX7_readStatement 10 = .ok (.aload_n 0, 1) := by decide +kernel
theorem dX7_readStatement_11 : decode cX7_readStatement 11 = .ok (.getfield 53, 3) := by decide +kernel
theorem dX7_readStatement_14 : decode cX7_readStatement 14 = .ok (.iload_n 1, 1) := by decide +kernel
theorem dX7_readStatement_15 : decode cX7_readStatement 15 = .ok (.aload_n 0, 1) := by decide +kernel
theorem dX7_readStatement_16 : decode cX7_readStatement 16 = .ok (.getfield 225, 3) := by decide +kernel
theorem dX7_readStatement_19 : decode cX7_readStatement 19 = .ok (.iastore, 1) := by decide +kernel
theorem dX7_readStatement_20 : decode cX7_readStatement 20 = .ok (.aload_n 0, 1) := by decide +kernel
theorem dX7_readStatement_21 : decode cX7_readStatement 21 = .ok (.getfield 56, 3) := by decide +kernel
theorem dX7_readStatement_24 : decode cX7_readStatement 24 = .ok (.iload_n 1, 1) := by decide +kernel
theorem dX7_readStatement_25 : decode cX7_readStatement 25 = .ok (.iload_n 2, 1) := by decide +kernel
theorem dX7_readStatement_26 : decode cX7_readStatement 26 = .ok (.iastore, 1) := by decide +kernel
theorem dX7_readStatement_27 : decode cX7_readStatement 27 = .ok (.aload_n 0, 1) := by decide +kernel
theorem dX7_readStatement_28 : decode cX7_readStatement 28 = .ok (.aload_n 0, 1) := by decide +kernel
theorem dX7_readStatement_29 : decode cX7_readStatement 29 = .ok (.getfield 228, 3) := by decide +kernel
theorem dX7_readStatement_32 : decode cX7_readStatement 32 = .ok (.ifCond .ne 10, 3) := by decide +kernel
theorem dX7_readStatement_35 : decode cX7_readStatement 35 = .ok (.iload_n 2, 1) := by decide +kernel
theorem dX7_readStatement_36 : decode cX7_readStatement 36 = .ok (.invokestatic 254, 3) := by decide +kernel
theorem dX7_readStatement_39 : decode cX7_readStatement 39 = .ok (.ifCond .ne 7, 3) := by decide +kernel
theorem dX7_readStatement_42 : decode cX7_readStatement 42 = .ok (.iconst 1, 1) := by decide +kernel
theorem dX7_readStatement_43 : decode cX7_readStatement 43 = .ok (.goto 4, 3) := by decide +kernel
theorem dX7_readStatement_46 : decode cX7_readStatement 46 = .ok (.iconst 0, 1) := by decide +kernel
theorem dX7_readStatement_47 : decode cX7_readStatement 47 = .ok (.putfield 228, 3) := by decide +kernel
theorem dX7_readStatement_50 : decode cX7_readStatement 50 = .ok (.aload_n 0, 1) := by decide +kernel
theorem dX7_readStatement_51 : decode cX7_readStatement 51 = .ok (.dup, 1) := by decide +kernel
theorem dX7_readStatement_52 : decode cX7_readStatement 52 = .ok (.getfield 225, 3) := by decide +kernel
theorem dX7_readStatement_55 : decode cX7_readStatement 55 = .ok (.aload_n 0, 1) := by decide +kernel
theorem dX7_readStatement_56 : decode cX7_readStatement 56 = .ok (.getfield 228, 3) := by decide +kernel
theorem dX7_readStatement_59 : decode cX7_readStatement 59 = .ok (.ifCond .eq 7, 3) := by decide +kernel
theorem dX7_readStatement_62 : decode cX7_readStatement 62 = .ok (.iconst 0, 1) := by decide +kernel
theorem dX7_readStatement_63 : decode cX7_readStatement 63 = .ok (.goto 4, 3) := by decide +kernel
theorem dX7_readStatement_66 : decode cX7_readStatement 66 = .ok (.iconst 1, 1) := by decide +kernel
theorem dX7_readStatement_67 : decode cX7_readStatement 67 = .ok (.iadd, 1) := by decide +kernel
theorem dX7_readStatement_68 : decode cX7_readStatement 68 = .ok (.putfield 225, 3) := by decide +kernel
theorem dX7_readStatement_71 : decode cX7_readStatement 71 = .ok (.aload_n 0, 1) := by decide +kernel
theorem dX7_readStatement_72 : decode cX7_readStatement 72 = .ok (.getfield 228, 3) := by decide +kernel
theorem dX7_readStatement_75 : decode cX7_readStatement 75 = .ok (.ifCond .ne 11, 3) := by decide +kernel
theorem dX7_readStatement_78 : decode cX7_readStatement 78 = .ok (.aload_n 0, 1) := by decide +kernel
theorem dX7_readStatement_79 : decode cX7_readStatement 79 = .ok (.iload_n 2, 1) := by decide +kernel
theorem dX7_readStatement_80 : decode cX7_readStatement 80 = .ok (.iconst 4, 1) := by decide +kernel
theorem dX7_readStatement_81 : decode cX7_readStatement 81 = .ok (.iload_n 1, 1) := by decide +kernel
theorem dX7_readStatement_82 : decode cX7_readStatement 82 = .ok (.imul, 1) := by decide +kernel
theorem dX7_readStatement_83 : decode cX7_readStatement 83 = .ok (.invokevirtual 257, 3) := by decide +kernel
theorem dX7_readStatement_86 : decode cX7_readStatement 86 = .ok (.aload_n 0, 1) := by decide +kernel
theorem dX7_readStatement_87 : decode cX7_readStatement 87 = .ok (.aload_n 0, 1) := by decide +kernel
theorem dX7_readStatement_88 : decode cX7_readStatement 88 = .ok (.getfield 228, 3) := by decide +kernel
theorem dX7_readStatement_91 : decode cX7_readStatement 91 = .ok (.ifCond .ne 12, 3) := by decide +kernel
theorem dX7_readStatement_94 : decode cX7_readStatement 94 = .ok (.aload_n 0, 1) := by decide +kernel
theorem dX7_readStatement_95 : decode cX7_readStatement 95 = .ok (.invokevirtual 231, 3) := by decide +kernel
theorem dX7_readStatement_98 : decode cX7_readStatement 98 = .ok (.bipush 59, 2) := by decide +kernel
theorem dX7_readStatement_100 : decode cX7_readStatement 100 = .ok (.if_icmp .eq 7, 3) := by decide +kernel
theorem dX7_readStatement_103 : decode cX7_readStatement 103 = .ok (.iconst 1, 1) := by decide +kernel
theorem dX7_readStatement_104 : decode cX7_readStatement 104 = .ok (.goto 4, 3) := by decide +kernel
theorem dX7_readStatement_107 : decode cX7_readStatement 107 = .ok (.iconst 0, 1) := by decide +kernel
theorem dX7_readStatement_108 : decode cX7_readStatement 108 = .ok (.putfield 228, 3) := by decide +kernel
theorem dX7_readStatement_111 : decode cX7_readStatement 111 = .ok (.aload_n 0, 1) := by decide +kernel
theorem dX7_readStatement_112 : decode cX7_readStatement 112 = .ok (.dup, 1) := by decide +kernel
theorem dX7_readStatement_113 : decode cX7_readStatement 113 = .ok (.getfield 225, 3) := by decide +kernel
theorem dX7_readStatement_116 : decode cX7_readStatement 116 = .ok (.aload_n 0, 1) := by decide +kernel
theorem dX7_readStatement_117 : decode cX7_readStatement 117 = .ok (.getfield 228, 3) := by decide +kernel
theorem dX7_readStatement_120 : decode cX7_readStatement 120 = .ok (.ifCond .eq 7, 3) := by decide +kernel
theorem dX7_readStatement_123 : decode cX7_readStatement 123 = .ok (.iconst 0, 1) := by decide +kernel
theorem dX7_readStatement_124 : decode cX7_readStatement 124 = .ok (.goto 4, 3) := by decide +kernel
theorem dX7_readStatement_127 : decode cX7_readStatement 127 = .ok (.iconst 1, 1) := by decide +kernel
theorem dX7_readStatement_128 : decode cX7_readStatement 128 = .ok (.iadd, 1) := by decide +kernel
theorem dX7_readStatement_129 : decode cX7_readStatement 129 = .ok (.putfield 225, 3) := by decide +kernel
theorem dX7_readStatement_132 : decode cX7_readStatement 132 = .ok (.aload_n 0, 1) := by decide +kernel
theorem dX7_readStatement_133 : decode cX7_readStatement 133 = .ok (.dup, 1) := by decide +kernel
theorem dX7_readStatement_134 : decode cX7_readStatement 134 = .ok (.getfield 251, 3) := by decide +kernel
theorem dX7_readStatement_137 : decode cX7_readStatement 137 = .ok (.iconst 1, 1) := by decide +kernel
theorem dX7_readStatement_138 : decode cX7_readStatement 138 = .ok (.iadd, 1) := by decide +kernel
theorem dX7_readStatement_139 : decode cX7_readStatement 139 = .ok (.putfield 251, 3) := by decide +kernel
theorem dX7_readStatement_142 : decode cX7_readStatement 142 = .ok (.return_, 1) := by decide +kernel
set_option maxRecDepth 20000 in
theorem ggX7_shutTold_X7_isCell : GoodIn wsX7_shutTold wsX7_isCell := goodIn_r _ [5, 6, 7, 8, 4, 9] (by decide +kernel) (by decide +kernel)
set_option maxRecDepth 20000 in
theorem gX7_shutTold_X7_isCell : GoodIn wsX7_shutTold (va_wsS RX7 216 yX7_isCell wsX7_isCell) := goodIn_app (goodIn_of _ (by decide +kernel)) ggX7_shutTold_X7_isCell
set_option maxRecDepth 20000 in
theorem ggX7_shutTold_X7_isEmpty : GoodIn wsX7_shutTold wsX7_isEmpty := goodIn_r _ [13, 14, 15, 16, 4, 17, 18, 19, 20, 21, 22, 23, 24, 25, 26, 27, 28, 29, 30, 31, 32, 33, 34, 35, 36, 37, 38, 39, 40, 41, 42, 43, 44, 45, 46, 47, 48, 49, 50, 51, 52, 53, 54, 55, 56, 57, 58, 59, 60, 61, 62, 63, 64, 65, 66, 67, 68, 69, 70, 71, 72, 73, 74, 75, 76, 77, 78, 79] (by decide +kernel) (by decide +kernel)
set_option maxRecDepth 20000 in
theorem gX7_shutTold_X7_isEmpty : GoodIn wsX7_shutTold (wsV RX7 159 RX7 yX7_isEmpty wsX7_isEmpty) := goodIn_app (goodIn_of _ (by decide +kernel)) ggX7_shutTold_X7_isEmpty
theorem dX7_shutTold_0 : decode cX7_shutTold 0 = .ok (.iload_n 1, 1) := by decide +kernel
theorem dX7_shutTold_1 : decode cX7_shutTold 1 = .ok (.invokestatic 216, 3) := by decide +kernel
theorem dX7_shutTold_4 : decode cX7_shutTold 4 = .ok (.ifCond .eq 25, 3) := by decide +kernel
theorem dX7_shutTold_7 : decode cX7_shutTold 7 = .ok (.aload_n 0, 1) := by decide +kernel
theorem dX7_shutTold_8 : decode cX7_shutTold 8 = .ok (.getfield 13, 3) := by decide +kernel
theorem dX7_shutTold_11 : decode cX7_shutTold 11 = .ok (.iload_n 1, 1) := by decide +kernel
theorem dX7_shutTold_12 : decode cX7_shutTold 12 = .ok (.iaload, 1) := by decide +kernel
theorem dX7_shutTold_13 : decode cX7_shutTold 13 = .ok (.iconst 1, 1) := by decide +kernel
theorem dX7_shutTold_14 : decode cX7_shutTold 14 = .ok (.if_icmp .eq 11, 3) := by decide +kernel
theorem dX7_shutTold_17 : decode cX7_shutTold 17 = .ok (.aload_n 0, 1) := by decide +kernel
theorem dX7_shutTold_18 : decode cX7_shutTold 18 = .ok (.iload_n 1, 1) := by decide +kernel
theorem dX7_shutTold_19 : decode cX7_shutTold 19 = .ok (.invokevirtual 159, 3) := by decide +kernel
theorem dX7_shutTold_22 : decode cX7_shutTold 22 = .ok (.ifCond .eq 7, 3) := by decide +kernel
theorem dX7_shutTold_25 : decode cX7_shutTold 25 = .ok (.iconst 1, 1) := by decide +kernel
theorem dX7_shutTold_26 : decode cX7_shutTold 26 = .ok (.goto 4, 3) := by decide +kernel
theorem dX7_shutTold_29 : decode cX7_shutTold 29 = .ok (.iconst 0, 1) := by decide +kernel
theorem dX7_shutTold_30 : decode cX7_shutTold 30 = .ok (.istore_n 2, 1) := by decide +kernel
theorem dX7_shutTold_31 : decode cX7_shutTold 31 = .ok (.iload_n 2, 1) := by decide +kernel
theorem dX7_shutTold_32 : decode cX7_shutTold 32 = .ok (.ifCond .eq 17, 3) := by decide +kernel
theorem dX7_shutTold_35 : decode cX7_shutTold 35 = .ok (.aload_n 0, 1) := by decide +kernel
theorem dX7_shutTold_36 : decode cX7_shutTold 36 = .ok (.getfield 13, 3) := by decide +kernel
theorem dX7_shutTold_39 : decode cX7_shutTold 39 = .ok (.iload_n 1, 1) := by decide +kernel
theorem dX7_shutTold_40 : decode cX7_shutTold 40 = .ok (.iconst 1, 1) := by decide +kernel
theorem dX7_shutTold_41 : decode cX7_shutTold 41 = .ok (.aload_n 0, 1) := by decide +kernel
theorem dX7_shutTold_42 : decode cX7_shutTold 42 = .ok (.getfield 13, 3) := by decide +kernel
theorem dX7_shutTold_45 : decode cX7_shutTold 45 = .ok (.iload_n 1, 1) := by decide +kernel
theorem dX7_shutTold_46 : decode cX7_shutTold 46 = .ok (.iaload, 1) := by decide +kernel
theorem dX7_shutTold_47 : decode cX7_shutTold 47 = .ok (.isub, 1) := by decide +kernel
theorem dX7_shutTold_48 : decode cX7_shutTold 48 = .ok (.iastore, 1) := by decide +kernel
theorem dX7_shutTold_49 : decode cX7_shutTold 49 = .ok (.iload_n 2, 1) := by decide +kernel
theorem dX7_shutTold_50 : decode cX7_shutTold 50 = .ok (.ireturn, 1) := by decide +kernel
set_option maxRecDepth 20000 in
theorem ggX7_warmTold_X7_isCell : GoodIn wsX7_warmTold wsX7_isCell := goodIn_r _ [5, 6, 7, 8, 4, 9] (by decide +kernel) (by decide +kernel)
set_option maxRecDepth 20000 in
theorem gX7_warmTold_X7_isCell : GoodIn wsX7_warmTold (va_wsS RX7 216 yX7_isCell wsX7_isCell) := goodIn_app (goodIn_of _ (by decide +kernel)) ggX7_warmTold_X7_isCell
theorem dX7_warmTold_0 : decode cX7_warmTold 0 = .ok (.iload_n 1, 1) := by decide +kernel
theorem dX7_warmTold_1 : decode cX7_warmTold 1 = .ok (.invokestatic 216, 3) := by decide +kernel
theorem dX7_warmTold_4 : decode cX7_warmTold 4 = .ok (.istore_n 3, 1) := by decide +kernel
theorem dX7_warmTold_5 : decode cX7_warmTold 5 = .ok (.iload_n 3, 1) := by decide +kernel
theorem dX7_warmTold_6 : decode cX7_warmTold 6 = .ok (.ifCond .eq 11, 3) := by decide +kernel
theorem dX7_warmTold_9 : decode cX7_warmTold 9 = .ok (.aload_n 0, 1) := by decide +kernel
theorem dX7_warmTold_10 : decode cX7_warmTold 10 = .ok (.getfield 7, 3) := by decide +kernel
theorem dX7_warmTold_13 : decode cX7_warmTold 13 = .ok (.iload_n 1, 1) := by decide +kernel
theorem dX7_warmTold_14 : decode cX7_warmTold 14 = .ok (.iload_n 2, 1) := by decide +kernel
theorem dX7_warmTold_15 : decode cX7_warmTold 15 = .ok (.i2f, 1) := by decide +kernel
theorem dX7_warmTold_16 : decode cX7_warmTold 16 = .ok (.fastore, 1) := by decide +kernel
theorem dX7_warmTold_17 : decode cX7_warmTold 17 = .ok (.iload_n 3, 1) := by decide +kernel
theorem dX7_warmTold_18 : decode cX7_warmTold 18 = .ok (.ireturn, 1) := by decide +kernel
theorem dX7_hearthTold_0 : decode cX7_hearthTold 0 = .ok (.iload_n 2, 1) := by decide +kernel
theorem dX7_hearthTold_1 : decode cX7_hearthTold 1 = .ok (.bipush 6, 2) := by decide +kernel
theorem dX7_hearthTold_3 : decode cX7_hearthTold 3 = .ok (.if_icmp .gt 7, 3) := by decide +kernel
theorem dX7_hearthTold_6 : decode cX7_hearthTold 6 = .ok (.iconst 1, 1) := by decide +kernel
theorem dX7_hearthTold_7 : decode cX7_hearthTold 7 = .ok (.goto 4, 3) := by decide +kernel
theorem dX7_hearthTold_10 : decode cX7_hearthTold 10 = .ok (.iconst 0, 1) := by decide +kernel
theorem dX7_hearthTold_11 : decode cX7_hearthTold 11 = .ok (.istore_n 3, 1) := by decide +kernel
theorem dX7_hearthTold_12 : decode cX7_hearthTold 12 = .ok (.aload_n 0, 1) := by decide +kernel
theorem dX7_hearthTold_13 : decode cX7_hearthTold 13 = .ok (.iload_n 3, 1) := by decide +kernel
theorem dX7_hearthTold_14 : decode cX7_hearthTold 14 = .ok (.ifCond .eq 7, 3) := by decide +kernel
theorem dX7_hearthTold_17 : decode cX7_hearthTold 17 = .ok (.iload_n 2, 1) := by decide +kernel
theorem dX7_hearthTold_18 : decode cX7_hearthTold 18 = .ok (.goto 7, 3) := by decide +kernel
theorem dX7_hearthTold_21 : decode cX7_hearthTold 21 = .ok (.aload_n 0, 1) := by decide +kernel
theorem dX7_hearthTold_22 : decode cX7_hearthTold 22 = .ok (.getfield 199, 3) := by decide +kernel
theorem dX7_hearthTold_25 : decode cX7_hearthTold 25 = .ok (.putfield 199, 3) := by decide +kernel
theorem dX7_hearthTold_28 : decode cX7_hearthTold 28 = .ok (.iconst 0, 1) := by decide +kernel
theorem dX7_hearthTold_29 : decode cX7_hearthTold 29 = .ok (.istore 4, 2) := by decide +kernel
theorem dX7_hearthTold_31 : decode cX7_hearthTold 31 = .ok (.iload_n 3, 1) := by decide +kernel
theorem dX7_hearthTold_32 : decode cX7_hearthTold 32 = .ok (.ifCond .eq 47, 3) := by decide +kernel
theorem dX7_hearthTold_35 : decode cX7_hearthTold 35 = .ok (.iload 4, 2) := by decide +kernel
theorem dX7_hearthTold_37 : decode cX7_hearthTold 37 = .ok (.iload_n 2, 1) := by decide +kernel
theorem dX7_hearthTold_38 : decode cX7_hearthTold 38 = .ok (.if_icmp .ge 41, 3) := by decide +kernel
theorem dX7_hearthTold_41 : decode cX7_hearthTold 41 = .ok (.aload_n 0, 1) := by decide +kernel
theorem dX7_hearthTold_42 : decode cX7_hearthTold 42 = .ok (.getfield 41, 3) := by decide +kernel
theorem dX7_hearthTold_45 : decode cX7_hearthTold 45 = .ok (.iload 4, 2) := by decide +kernel
theorem dX7_hearthTold_47 : decode cX7_hearthTold 47 = .ok (.aload_n 0, 1) := by decide +kernel
theorem dX7_hearthTold_48 : decode cX7_hearthTold 48 = .ok (.getfield 62, 3) := by decide +kernel
theorem dX7_hearthTold_51 : decode cX7_hearthTold 51 = .ok (.iload_n 1, 1) := by decide +kernel
theorem dX7_hearthTold_52 : decode cX7_hearthTold 52 = .ok (.iload 4, 2) := by decide +kernel
theorem dX7_hearthTold_54 : decode cX7_hearthTold 54 = .ok (.iadd, 1) := by decide +kernel
theorem dX7_hearthTold_55 : decode cX7_hearthTold 55 = .ok (.iaload, 1) := by decide +kernel
theorem dX7_hearthTold_56 : decode cX7_hearthTold 56 = .ok (.iastore, 1) := by decide +kernel
theorem dX7_hearthTold_57 : decode cX7_hearthTold 57 = .ok (.aload_n 0, 1) := by decide +kernel
theorem dX7_hearthTold_58 : decode cX7_hearthTold 58 = .ok (.getfield 44, 3) := by decide +kernel
theorem dX7_hearthTold_61 : decode cX7_hearthTold 61 = .ok (.iload 4, 2) := by decide +kernel
theorem dX7_hearthTold_63 : decode cX7_hearthTold 63 = .ok (.aload_n 0, 1) := by decide +kernel
theorem dX7_hearthTold_64 : decode cX7_hearthTold 64 = .ok (.getfield 65, 3) := by decide +kernel
theorem dX7_hearthTold_67 : decode cX7_hearthTold 67 = .ok (.iload_n 1, 1) := by decide +kernel
theorem dX7_hearthTold_68 : decode cX7_hearthTold 68 = .ok (.iload 4, 2) := by decide +kernel
theorem dX7_hearthTold_70 : decode cX7_hearthTold 70 = .ok (.iadd, 1) := by decide +kernel
theorem dX7_hearthTold_71 : decode cX7_hearthTold 71 = .ok (.iaload, 1) := by decide +kernel
theorem dX7_hearthTold_72 : decode cX7_hearthTold 72 = .ok (.iastore, 1) := by decide +kernel
theorem dX7_hearthTold_73 : decode cX7_hearthTold 73 = .ok (.iinc 4 1, 3) := by decide +kernel
theorem dX7_hearthTold_76 : decode cX7_hearthTold 76 = .ok (.goto (-45), 3) := by decide +kernel
theorem dX7_hearthTold_79 : decode cX7_hearthTold 79 = .ok (.iload_n 3, 1) := by decide +kernel
theorem dX7_hearthTold_80 : decode cX7_hearthTold 80 = .ok (.ireturn, 1) := by decide +kernel
set_option maxRecDepth 20000 in
theorem ggX7_turnsTold_X7_in : GoodIn wsX7_turnsTold wsX7_in := goodIn_r _ [6] (by decide +kernel) (by decide +kernel)
set_option maxRecDepth 20000 in
theorem gX7_turnsTold_X7_in : GoodIn wsX7_turnsTold (va_wsS RX7 122 yX7_in wsX7_in) := goodIn_app (goodIn_of _ (by decide +kernel)) ggX7_turnsTold_X7_in
set_option maxRecDepth 20000 in
theorem ggX7_turnsTold_X7_goTurns : GoodIn wsX7_turnsTold wsX7_goTurns := goodIn_r _ [10, 11, 12, 13, 5, 14, 2, 15, 16, 17, 18, 19, 20, 21, 22, 23, 24, 25, 26, 27, 28, 29, 30, 31, 32, 33, 34, 35, 36, 37, 38, 39, 40, 41, 42, 43, 44, 45, 46, 47, 48, 49, 50, 51, 52, 53, 54, 55, 56, 57, 58, 59, 60, 61, 62, 63, 3, 4, 6, 64, 65, 66, 67, 68, 69, 70, 71, 72, 73, 74, 75, 76, 77, 78, 79, 80, 81, 82, 83, 84, 85, 86, 87, 88, 89, 90, 91, 92, 93, 94, 95, 96, 97, 98, 99, 100, 101, 102, 103, 104, 105, 106, 107, 108, 109, 110, 111, 112, 113, 114, 115, 116, 117, 118, 119, 120, 121, 122, 123, 124, 125, 126, 127, 128, 129, 130, 131, 132, 133, 134, 135, 136, 137, 138, 139, 140, 141, 142, 143, 144, 145, 146, 147, 148, 149, 150, 151, 152, 153, 154] (by decide +kernel) (by decide +kernel)
set_option maxRecDepth 20000 in
theorem gX7_turnsTold_X7_goTurns : GoodIn wsX7_turnsTold (wsV RX7 263 RX7 yX7_goTurns wsX7_goTurns) := goodIn_app (goodIn_of _ (by decide +kernel)) ggX7_turnsTold_X7_goTurns
theorem dX7_turnsTold_0 : decode cX7_turnsTold 0 = .ok (.iload_n 1, 1) := by decide +kernel
theorem dX7_turnsTold_1 : decode cX7_turnsTold 1 = .ok (.i2l, 1) := by decide +kernel
theorem dX7_turnsTold_2 : decode cX7_turnsTold 2 = .ok (.lconst 1, 1) := by decide +kernel
theorem dX7_turnsTold_3 : decode cX7_turnsTold 3 = .ok (.ldc2_w 261, 3) := by decide +kernel
theorem dX7_turnsTold_6 : decode cX7_turnsTold 6 = .ok (.invokestatic 122, 3) := by decide +kernel
theorem dX7_turnsTold_9 : decode cX7_turnsTold 9 = .ok (.ifCond .eq 19, 3) := by decide +kernel
theorem dX7_turnsTold_12 : decode cX7_turnsTold 12 = .ok (.aload_n 0, 1) := by decide +kernel
theorem dX7_turnsTold_13 : decode cX7_turnsTold 13 = .ok (.getfield 148, 3) := by decide +kernel
theorem dX7_turnsTold_16 : decode cX7_turnsTold 16 = .ok (.iload_n 1, 1) := by decide +kernel
theorem dX7_turnsTold_17 : decode cX7_turnsTold 17 = .ok (.iadd, 1) := by decide +kernel
theorem dX7_turnsTold_18 : decode cX7_turnsTold 18 = .ok (.sipush 999, 3) := by decide +kernel
theorem dX7_turnsTold_21 : decode cX7_turnsTold 21 = .ok (.if_icmp .gt 7, 3) := by decide +kernel
theorem dX7_turnsTold_24 : decode cX7_turnsTold 24 = .ok (.iconst 1, 1) := by decide +kernel
theorem dX7_turnsTold_25 : decode cX7_turnsTold 25 = .ok (.goto 4, 3) := by decide +kernel
theorem dX7_turnsTold_28 : decode cX7_turnsTold 28 = .ok (.iconst 0, 1) := by decide +kernel
theorem dX7_turnsTold_29 : decode cX7_turnsTold 29 = .ok (.istore_n 2, 1) := by decide +kernel
theorem dX7_turnsTold_30 : decode cX7_turnsTold 30 = .ok (.iload_n 2, 1) := by decide +kernel
theorem dX7_turnsTold_31 : decode cX7_turnsTold 31 = .ok (.ifCond .eq 8, 3) := by decide +kernel
theorem dX7_turnsTold_34 : decode cX7_turnsTold 34 = .ok (.aload_n 0, 1) := by decide +kernel
theorem dX7_turnsTold_35 : decode cX7_turnsTold 35 = .ok (.iload_n 1, 1) := by decide +kernel
theorem dX7_turnsTold_36 : decode cX7_turnsTold 36 = .ok (.invokevirtual 263, 3) := by decide +kernel
theorem dX7_turnsTold_39 : decode cX7_turnsTold 39 = .ok (.iload_n 2, 1) := by decide +kernel
theorem dX7_turnsTold_40 : decode cX7_turnsTold 40 = .ok (.ireturn, 1) := by decide +kernel
set_option maxRecDepth 20000 in
theorem ggX7_comesTold_X7_airComesNew : GoodIn wsX7_comesTold wsX7_airComesNew := goodIn_r _ [7, 8, 9, 10, 11, 12, 13, 14, 15, 6, 16, 17, 18, 19, 20, 21, 22, 23, 24, 25, 26, 27, 28, 29, 30, 31, 32, 33, 34, 35, 36, 37, 38, 39, 40, 134, 135, 136, 137, 138, 139, 140, 141, 142, 143, 144, 145, 146, 147, 148, 149, 150, 151, 152, 153, 154, 155, 156, 157, 158, 159, 160, 161, 162, 163, 164, 165, 166, 167, 168, 169, 170, 171, 172, 173, 174, 175, 176, 177, 178, 179, 180, 181, 182, 183, 184, 185, 186] (by decide +kernel) (by decide +kernel)
set_option maxRecDepth 20000 in
theorem gX7_comesTold_X7_airComesNew : GoodIn wsX7_comesTold (wsV RX7 266 RX7 yX7_airComesNew wsX7_airComesNew) := goodIn_app (goodIn_of _ (by decide +kernel)) ggX7_comesTold_X7_airComesNew
set_option maxRecDepth 20000 in
theorem ggX7_comesTold_X7_sitterComes : GoodIn wsX7_comesTold wsX7_sitterComes := goodIn_r _ [44, 38, 39, 45, 40, 14, 15, 6, 16, 17, 18, 19, 20, 21, 22, 23, 24, 25, 26, 27, 28, 29, 30, 31, 32, 33, 8, 11, 34, 35, 36, 37, 134, 135, 136, 137, 138, 139, 140, 141, 142, 143, 144, 145, 146, 147, 148, 149, 150, 151, 152, 153, 154, 155, 156, 157, 158, 159, 160, 161, 162, 163, 164, 165, 166, 167, 168, 169, 170, 171, 172, 173, 174, 175, 176, 177, 178, 179, 180, 181, 182, 183, 184, 185, 186] (by decide +kernel) (by decide +kernel)
set_option maxRecDepth 20000 in
theorem gX7_comesTold_X7_sitterComes : GoodIn wsX7_comesTold (wsV RX7 270 RX7 yX7_sitterComes wsX7_sitterComes) := goodIn_app (goodIn_of _ (by decide +kernel)) ggX7_comesTold_X7_sitterComes
set_option maxRecDepth 20000 in
theorem ggX7_comesTold_X7_shutTold : GoodIn wsX7_comesTold wsX7_shutTold := goodIn_r _ [49, 25, 14, 15, 6, 16, 17, 18, 19, 20, 26, 27, 28, 29, 30, 31, 32, 33, 8, 11, 34, 35, 36, 37, 38, 39, 40, 134, 135, 136, 137, 138, 139, 140, 141, 142, 143, 144, 145, 146, 147, 148, 149, 150, 151, 152, 153, 154, 155, 156, 157, 158, 159, 160, 161, 162, 163, 164, 165, 166, 167, 168, 169, 170, 171, 172, 173, 174, 175, 176, 177, 178, 179, 180, 181, 182, 183, 184, 185, 186] (by decide +kernel) (by decide +kernel)
set_option maxRecDepth 20000 in
theorem gX7_comesTold_X7_shutTold : GoodIn wsX7_comesTold (wsV RX7 274 RX7 yX7_shutTold wsX7_shutTold) := goodIn_app (goodIn_of _ (by decide +kernel)) ggX7_comesTold_X7_shutTold
set_option maxRecDepth 20000 in
theorem ggX7_comesTold_X7_warmTold : GoodIn wsX7_comesTold wsX7_warmTold := goodIn_r _ [53, 54, 14, 15, 6, 16, 17, 18, 19, 20, 134, 135, 136, 137, 138, 139, 140, 141, 142, 143, 144, 145, 146, 147, 148, 149, 150, 151, 152, 153, 154, 155, 156, 157, 158, 159, 160, 161, 162, 163, 164, 165, 166, 167, 168, 169, 170, 171, 172, 173, 174, 175, 176, 177, 178, 179, 180, 181, 182, 183, 184, 185, 186] (by decide +kernel) (by decide +kernel)
set_option maxRecDepth 20000 in
theorem gX7_comesTold_X7_warmTold : GoodIn wsX7_comesTold (wsV RX7 277 RX7 yX7_warmTold wsX7_warmTold) := goodIn_app (goodIn_of _ (by decide +kernel)) ggX7_comesTold_X7_warmTold
set_option maxRecDepth 20000 in
theorem ggX7_comesTold_X7_hearthTold : GoodIn wsX7_comesTold wsX7_hearthTold := goodIn_r _ [58, 59, 60, 61, 62, 63, 134, 135, 136, 137, 138, 139, 140, 141, 142, 143, 144, 145, 146, 147, 148, 149, 150, 151, 152, 153, 154, 155, 156, 157, 158, 159, 160, 161, 162, 163, 164, 165, 166, 167, 168, 169, 170, 171, 172, 173, 174, 175, 176, 177, 178, 179, 180, 181, 182, 183, 184, 185, 186] (by decide +kernel) (by decide +kernel)
set_option maxRecDepth 20000 in
theorem gX7_comesTold_X7_hearthTold : GoodIn wsX7_comesTold (wsV RX7 280 RX7 yX7_hearthTold wsX7_hearthTold) := goodIn_app (goodIn_of _ (by decide +kernel)) ggX7_comesTold_X7_hearthTold
set_option maxRecDepth 20000 in
theorem ggX7_comesTold_X7_turnsTold : GoodIn wsX7_comesTold wsX7_turnsTold := goodIn_r _ [67, 68, 69, 18, 19, 6, 20, 70, 71, 72, 73, 74, 75, 76, 77, 54, 59, 60, 62, 8, 78, 38, 40, 39, 45, 79, 80, 81, 82, 83, 84, 85, 86, 87, 88, 89, 90, 91, 92, 93, 11, 13, 94, 95, 96, 97, 10, 9, 98, 99, 100, 101, 102, 103, 104, 12, 105, 106, 107, 108, 109, 110, 111, 112, 34, 35, 36, 37, 21, 22, 23, 24, 25, 26, 27, 28, 29, 30, 31, 32, 33, 113, 114, 115, 116, 117, 118, 119, 120, 121, 122, 123, 124, 125, 126, 127, 128, 129, 130, 131, 132, 133, 134, 135, 136, 137, 138, 139, 140, 141, 142, 143, 144, 145, 146, 147, 148, 149, 150, 151, 152, 153, 154, 155, 156, 157, 158, 159, 160, 161, 162, 163, 164, 165, 166, 167, 168, 169, 170, 171, 172, 173, 174, 175, 176, 177, 178, 179, 180, 181, 182, 183, 184, 185, 186] (by decide +kernel) (by decide +kernel)
set_option maxRecDepth 20000 in
theorem gX7_comesTold_X7_turnsTold : GoodIn wsX7_comesTold (wsV RX7 283 RX7 yX7_turnsTold wsX7_turnsTold) := goodIn_app (goodIn_of _ (by decide +kernel)) ggX7_comesTold_X7_turnsTold
theorem dX7_comesTold_0 : decode cX7_comesTold 0 = .ok (.aload_n 0, 1) := by decide +kernel
theorem dX7_comesTold_1 : decode cX7_comesTold 1 = .ok (.getfield 59, 3) := by decide +kernel
theorem dX7_comesTold_4 : decode cX7_comesTold 4 = .ok (.iconst 4, 1) := by decide +kernel
theorem dX7_comesTold_5 : decode cX7_comesTold 5 = .ok (.iload_n 1, 1) := by decide +kernel
theorem dX7_comesTold_6 : decode cX7_comesTold 6 = .ok (.imul, 1) := by decide +kernel
theorem dX7_comesTold_7 : decode cX7_comesTold 7 = .ok (.iaload, 1) := by decide +kernel
theorem dX7_comesTold_8 : decode cX7_comesTold 8 = .ok (.istore_n 2, 1) := by decide +kernel
theorem dX7_comesTold_9 : decode cX7_comesTold 9 = .ok (.aload_n 0, 1) := by decide +kernel
theorem dX7_comesTold_10 : decode cX7_comesTold 10 = .ok (.getfield 59, 3) := by decide +kernel
theorem dX7_comesTold_13 : decode cX7_comesTold 13 = .ok (.iconst 4, 1) := by decide +kernel
theorem dX7_comesTold_14 : decode cX7_comesTold 14 = .ok (.iload_n 1, 1) := by decide +kernel
theorem dX7_comesTold_15 : decode cX7_comesTold 15 = .ok (.imul, 1) := by decide +kernel
theorem dX7_comesTold_16 : decode cX7_comesTold 16 = .ok (.iconst 1, 1) := by decide +kernel
theorem dX7_comesTold_17 : decode cX7_comesTold 17 = .ok (.iadd, 1) := by decide +kernel
theorem dX7_comesTold_18 : decode cX7_comesTold 18 = .ok (.iaload, 1) := by decide +kernel
theorem dX7_comesTold_19 : decode cX7_comesTold 19 = .ok (.istore_n 3, 1) := by decide +kernel
theorem dX7_comesTold_20 : decode cX7_comesTold 20 = .ok (.aload_n 0, 1) := by decide +kernel
theorem dX7_comesTold_21 : decode cX7_comesTold 21 = .ok (.getfield 56, 3) := by decide +kernel
theorem dX7_comesTold_24 : decode cX7_comesTold 24 = .ok (.iload_n 1, 1) := by decide +kernel
theorem dX7_comesTold_25 : decode cX7_comesTold 25 = .ok (.iaload, 1) := by decide +kernel
theorem dX7_comesTold_26 : decode cX7_comesTold 26 = .ok (.lookupswitch 104 #[(97, 50), (100, 84), (108, 97), (112, 77), (119, 90)], 50) := by decide +kernel
theorem dX7_comesTold_76 : decode cX7_comesTold 76 = .ok (.aload_n 0, 1) := by decide +kernel
theorem dX7_comesTold_77 : decode cX7_comesTold 77 = .ok (.iload_n 2, 1) := by decide +kernel
theorem dX7_comesTold_78 : decode cX7_comesTold 78 = .ok (.iload_n 3, 1) := by decide +kernel
theorem dX7_comesTold_79 : decode cX7_comesTold 79 = .ok (.aload_n 0, 1) := by decide +kernel
theorem dX7_comesTold_80 : decode cX7_comesTold 80 = .ok (.getfield 59, 3) := by decide +kernel
theorem dX7_comesTold_83 : decode cX7_comesTold 83 = .ok (.iconst 4, 1) := by decide +kernel
theorem dX7_comesTold_84 : decode cX7_comesTold 84 = .ok (.iload_n 1, 1) := by decide +kernel
theorem dX7_comesTold_85 : decode cX7_comesTold 85 = .ok (.imul, 1) := by decide +kernel
theorem dX7_comesTold_86 : decode cX7_comesTold 86 = .ok (.iconst 2, 1) := by decide +kernel
theorem dX7_comesTold_87 : decode cX7_comesTold 87 = .ok (.iadd, 1) := by decide +kernel
theorem dX7_comesTold_88 : decode cX7_comesTold 88 = .ok (.iaload, 1) := by decide +kernel
theorem dX7_comesTold_89 : decode cX7_comesTold 89 = .ok (.aload_n 0, 1) := by decide +kernel
theorem dX7_comesTold_90 : decode cX7_comesTold 90 = .ok (.getfield 59, 3) := by decide +kernel
theorem dX7_comesTold_93 : decode cX7_comesTold 93 = .ok (.iconst 4, 1) := by decide +kernel
theorem dX7_comesTold_94 : decode cX7_comesTold 94 = .ok (.iload_n 1, 1) := by decide +kernel
theorem dX7_comesTold_95 : decode cX7_comesTold 95 = .ok (.imul, 1) := by decide +kernel
theorem dX7_comesTold_96 : decode cX7_comesTold 96 = .ok (.iconst 3, 1) := by decide +kernel
theorem dX7_comesTold_97 : decode cX7_comesTold 97 = .ok (.iadd, 1) := by decide +kernel
theorem dX7_comesTold_98 : decode cX7_comesTold 98 = .ok (.iaload, 1) := by decide +kernel
theorem dX7_comesTold_99 : decode cX7_comesTold 99 = .ok (.invokevirtual 266, 3) := by decide +kernel
theorem dX7_comesTold_102 : decode cX7_comesTold 102 = .ok (.ireturn, 1) := by decide +kernel
theorem dX7_comesTold_103 : decode cX7_comesTold 103 = .ok (.aload_n 0, 1) := by decide +kernel
theorem dX7_comesTold_104 : decode cX7_comesTold 104 = .ok (.iload_n 2, 1) := by decide +kernel
theorem dX7_comesTold_105 : decode cX7_comesTold 105 = .ok (.iload_n 3, 1) := by decide +kernel
theorem dX7_comesTold_106 : decode cX7_comesTold 106 = .ok (.invokevirtual 270, 3) := by decide +kernel
theorem dX7_comesTold_109 : decode cX7_comesTold 109 = .ok (.ireturn, 1) := by decide +kernel
theorem dX7_comesTold_110 : decode cX7_comesTold 110 = .ok (.aload_n 0, 1) := by decide +kernel
theorem dX7_comesTold_111 : decode cX7_comesTold 111 = .ok (.iload_n 2, 1) := by decide +kernel
theorem dX7_comesTold_112 : decode cX7_comesTold 112 = .ok (.invokevirtual 274, 3) := by decide +kernel
theorem dX7_comesTold_115 : decode cX7_comesTold 115 = .ok (.ireturn, 1) := by decide +kernel
theorem dX7_comesTold_116 : decode cX7_comesTold 116 = .ok (.aload_n 0, 1) := by decide +kernel
theorem dX7_comesTold_117 : decode cX7_comesTold 117 = .ok (.iload_n 2, 1) := by decide +kernel
theorem dX7_comesTold_118 : decode cX7_comesTold 118 = .ok (.iload_n 3, 1) := by decide +kernel
theorem dX7_comesTold_119 : decode cX7_comesTold 119 = .ok (.invokevirtual 277, 3) := by decide +kernel
theorem dX7_comesTold_122 : decode cX7_comesTold 122 = .ok (.ireturn, 1) := by decide +kernel
theorem dX7_comesTold_123 : decode cX7_comesTold 123 = .ok (.aload_n 0, 1) := by decide +kernel
theorem dX7_comesTold_124 : decode cX7_comesTold 124 = .ok (.iload_n 2, 1) := by decide +kernel
theorem dX7_comesTold_125 : decode cX7_comesTold 125 = .ok (.iload_n 3, 1) := by decide +kernel
theorem dX7_comesTold_126 : decode cX7_comesTold 126 = .ok (.invokevirtual 280, 3) := by decide +kernel
theorem dX7_comesTold_129 : decode cX7_comesTold 129 = .ok (.ireturn, 1) := by decide +kernel
theorem dX7_comesTold_130 : decode cX7_comesTold 130 = .ok (.aload_n 0, 1) := by decide +kernel
theorem dX7_comesTold_131 : decode cX7_comesTold 131 = .ok (.iload_n 2, 1) := by decide +kernel
theorem dX7_comesTold_132 : decode cX7_comesTold 132 = .ok (.invokevirtual 283, 3) := by decide +kernel
theorem dX7_comesTold_135 : decode cX7_comesTold 135 = .ok (.ireturn, 1) := by decide +kernel
set_option maxRecDepth 20000 in
theorem ggX7_house_X7_readStatement : GoodIn wsX7_house wsX7_readStatement := goodIn_r _ [13, 4, 7, 2, 14, 3, 15, 16, 17, 12, 18, 6, 19, 20, 21, 22, 23, 24, 25, 26, 27, 28, 29, 30, 31, 5, 32, 33, 34, 35, 36, 37, 38, 39, 40, 41, 42, 43, 44, 45, 196, 197, 198, 199, 200, 201, 202, 203, 204, 205, 206, 207, 208, 209, 210, 211, 212, 213, 214, 215, 216, 217, 218, 219, 220, 221, 222, 223, 224, 225, 226, 227, 228, 229, 230, 231, 232, 233, 234, 235, 236, 237, 238, 239, 240, 241, 242, 243, 244, 245, 246, 247, 248] (by decide +kernel) (by decide +kernel)
set_option maxRecDepth 20000 in
theorem gX7_house_X7_readStatement : GoodIn wsX7_house (wsV RX7 286 RX7 yX7_readStatement wsX7_readStatement) := goodIn_app (goodIn_of _ (by decide +kernel)) ggX7_house_X7_readStatement
set_option maxRecDepth 20000 in
theorem ggX7_house_X7_think : GoodIn wsX7_house wsX7_think := goodIn_r _ [49, 50, 51, 52, 53, 54, 12, 55, 56, 57, 58, 59, 60, 61, 62, 63, 64, 65, 66, 67, 68, 69, 70, 71, 72, 73, 74, 75, 76, 77, 78, 79, 196, 197, 198, 199, 200, 201, 202, 203, 204, 205, 206, 207, 208, 209, 210, 211, 212, 213, 214, 215, 216, 217, 218, 219, 220, 221, 222, 223, 224, 225, 226, 227, 228, 229, 230, 231, 232, 233, 234, 235, 236, 237, 238, 239, 240, 241, 242, 243, 244, 245, 246, 247, 248] (by decide +kernel) (by decide +kernel)
set_option maxRecDepth 20000 in
theorem gX7_house_X7_think : GoodIn wsX7_house (wsV RX7 289 RX7 yX7_think wsX7_think) := goodIn_app (goodIn_of _ (by decide +kernel)) ggX7_house_X7_think
set_option maxRecDepth 20000 in
theorem ggX7_house_X7_comesTold : GoodIn wsX7_house wsX7_comesTold := goodIn_r _ [83, 27, 14, 84, 85, 86, 12, 87, 59, 64, 65, 66, 67, 68, 88, 89, 90, 91, 43, 44, 45, 92, 93, 94, 95, 74, 96, 97, 98, 99, 100, 101, 102, 103, 104, 105, 106, 107, 60, 69, 71, 108, 109, 110, 111, 70, 112, 113, 114, 115, 116, 117, 118, 119, 75, 120, 121, 122, 123, 61, 72, 32, 73, 33, 124, 125, 126, 127, 128, 62, 129, 130, 131, 132, 133, 134, 135, 136, 137, 138, 139, 140, 141, 142, 143, 144, 145, 146, 147, 148, 149, 150, 151, 152, 153, 154, 155, 156, 157, 158, 159, 160, 161, 162, 163, 63, 164, 165, 166, 167, 168, 169, 170, 171, 172, 173, 174, 175, 176, 177, 178, 179, 180, 181, 182, 183, 184, 185, 186, 187, 188, 189, 190, 191, 196, 197, 198, 199, 200, 201, 202, 203, 204, 205, 206, 207, 208, 209, 210, 211, 212, 213, 214, 215, 216, 217, 218, 219, 220, 221, 222, 223, 224, 225, 226, 227, 228, 229, 230, 231, 232, 233, 234, 235, 236, 237, 238, 239, 240, 241, 242, 243, 244, 245, 246, 247, 248] (by decide +kernel) (by decide +kernel)
set_option maxRecDepth 20000 in
theorem gX7_house_X7_comesTold : GoodIn wsX7_house (wsV RX7 292 RX7 yX7_comesTold wsX7_comesTold) := goodIn_app (goodIn_of _ (by decide +kernel)) ggX7_house_X7_comesTold
set_option maxRecDepth 20000 in
theorem ggX7_house_X7_again : GoodIn wsX7_house wsX7_again := goodIn_r _ [195, 50, 51, 52, 53, 54, 12, 55, 56, 57, 58, 59, 60, 61, 62, 63, 64, 65, 66, 67, 68, 69, 70, 71, 72, 73, 74, 75, 76, 77, 78, 79, 196, 197, 198, 199, 200, 201, 202, 203, 204, 205, 206, 207, 208, 209, 210, 211, 212, 213, 214, 215, 216, 217, 218, 219, 220, 221, 222, 223, 224, 225, 226, 227, 228, 229, 230, 231, 232, 233, 234, 235, 236, 237, 238, 239, 240, 241, 242, 243, 244, 245, 246, 247, 248] (by decide +kernel) (by decide +kernel)
set_option maxRecDepth 20000 in
theorem gX7_house_X7_again : GoodIn wsX7_house (wsV RX7 295 RX7 yX7_again wsX7_again) := goodIn_app (goodIn_of _ (by decide +kernel)) ggX7_house_X7_again
theorem dX7_house_0 : decode cX7_house 0 = .ok (.aload_n 0, 1) := by decide +kernel
theorem dX7_house_1 : decode cX7_house 1 = .ok (.iconst 0, 1) := by decide +kernel
theorem dX7_house_2 : decode cX7_house 2 = .ok (.putfield 114, 3) := by decide +kernel
theorem dX7_house_5 : decode cX7_house 5 = .ok (.aload_n 0, 1) := by decide +kernel
theorem dX7_house_6 : decode cX7_house 6 = .ok (.iconst 0, 1) := by decide +kernel
theorem dX7_house_7 : decode cX7_house 7 = .ok (.putfield 225, 3) := by decide +kernel
theorem dX7_house_10 : decode cX7_house 10 = .ok (.aload_n 0, 1) := by decide +kernel
theorem dX7_house_11 : decode cX7_house 11 = .ok (.iconst 0, 1) := by decide +kernel
theorem dX7_house_12 : decode cX7_house 12 = .ok (.putfield 228, 3) := by decide +kernel
theorem dX7_house_15 : decode cX7_house 15 = .ok (.aload_n 0, 1) := by decide +kernel
theorem dX7_house_16 : decode cX7_house 16 = .ok (.iconst 0, 1) := by decide +kernel
theorem dX7_house_17 : decode cX7_house 17 = .ok (.putfield 251, 3) := by decide +kernel
theorem dX7_house_20 : decode cX7_house 20 = .ok (.aload_n 0, 1) := by decide +kernel
theorem dX7_house_21 : decode cX7_house 21 = .ok (.iconst 0, 1) := by decide +kernel
theorem dX7_house_22 : decode cX7_house 22 = .ok (.putfield 239, 3) := by decide +kernel
theorem dX7_house_25 : decode cX7_house 25 = .ok (.aload_n 0, 1) := by decide +kernel
theorem dX7_house_26 : decode cX7_house 26 = .ok (.getfield 228, 3) := by decide +kernel
theorem dX7_house_29 : decode cX7_house 29 = .ok (.ifCond .ne 28, 3) := by decide +kernel
theorem dX7_house_32 : decode cX7_house 32 = .ok (.aload_n 0, 1) := by decide +kernel
theorem dX7_house_33 : decode cX7_house 33 = .ok (.getfield 251, 3) := by decide +kernel
theorem dX7_house_36 : decode cX7_house 36 = .ok (.ifCond .eq 14, 3) := by decide +kernel
theorem dX7_house_39 : decode cX7_house 39 = .ok (.aload_n 0, 1) := by decide +kernel
theorem dX7_house_40 : decode cX7_house 40 = .ok (.getfield 225, 3) := by decide +kernel
theorem dX7_house_43 : decode cX7_house 43 = .ok (.aload_n 0, 1) := by decide +kernel
theorem dX7_house_44 : decode cX7_house 44 = .ok (.getfield 222, 3) := by decide +kernel
theorem dX7_house_47 : decode cX7_house 47 = .ok (.if_icmp .ge 10, 3) := by decide +kernel
theorem dX7_house_50 : decode cX7_house 50 = .ok (.aload_n 0, 1) := by decide +kernel
theorem dX7_house_51 : decode cX7_house 51 = .ok (.invokevirtual 286, 3) := by decide +kernel
theorem dX7_house_54 : decode cX7_house 54 = .ok (.goto (-29), 3) := by decide +kernel
theorem dX7_house_57 : decode cX7_house 57 = .ok (.aload_n 0, 1) := by decide +kernel
theorem dX7_house_58 : decode cX7_house 58 = .ok (.iconst 0, 1) := by decide +kernel
theorem dX7_house_59 : decode cX7_house 59 = .ok (.putfield 222, 3) := by decide +kernel
theorem dX7_house_62 : decode cX7_house 62 = .ok (.aload_n 0, 1) := by decide +kernel
theorem dX7_house_63 : decode cX7_house 63 = .ok (.getfield 228, 3) := by decide +kernel
theorem dX7_house_66 : decode cX7_house 66 = .ok (.ifCond .eq 12, 3) := by decide +kernel
theorem dX7_house_69 : decode cX7_house 69 = .ok (.sipush (-1000), 3) := by decide +kernel
theorem dX7_house_72 : decode cX7_house 72 = .ok (.aload_n 0, 1) := by decide +kernel
theorem dX7_house_73 : decode cX7_house 73 = .ok (.getfield 225, 3) := by decide +kernel
theorem dX7_house_76 : decode cX7_house 76 = .ok (.isub, 1) := by decide +kernel
theorem dX7_house_77 : decode cX7_house 77 = .ok (.ireturn, 1) := by decide +kernel
theorem dX7_house_78 : decode cX7_house 78 = .ok (.aload_n 0, 1) := by decide +kernel
theorem dX7_house_79 : decode cX7_house 79 = .ok (.invokevirtual 289, 3) := by decide +kernel
theorem dX7_house_82 : decode cX7_house 82 = .ok (.iconst 0, 1) := by decide +kernel
theorem dX7_house_83 : decode cX7_house 83 = .ok (.istore_n 1, 1) := by decide +kernel
theorem dX7_house_84 : decode cX7_house 84 = .ok (.iload_n 1, 1) := by decide +kernel
theorem dX7_house_85 : decode cX7_house 85 = .ok (.aload_n 0, 1) := by decide +kernel
theorem dX7_house_86 : decode cX7_house 86 = .ok (.getfield 251, 3) := by decide +kernel
theorem dX7_house_89 : decode cX7_house 89 = .ok (.if_icmp .ge 32, 3) := by decide +kernel
theorem dX7_house_92 : decode cX7_house 92 = .ok (.aload_n 0, 1) := by decide +kernel
theorem dX7_house_93 : decode cX7_house 93 = .ok (.iload_n 1, 1) := by decide +kernel
theorem dX7_house_94 : decode cX7_house 94 = .ok (.invokevirtual 292, 3) := by decide +kernel
theorem dX7_house_97 : decode cX7_house 97 = .ok (.ifCond .ne 18, 3) := by decide +kernel
theorem dX7_house_100 : decode cX7_house 100 = .ok (.aload_n 0, 1) := by decide +kernel
theorem dX7_house_101 : decode cX7_house 101 = .ok (.invokevirtual 295, 3) := by decide +kernel
theorem dX7_house_104 : decode cX7_house 104 = .ok (.sipush (-2000), 3) := by decide +kernel
theorem dX7_house_107 : decode cX7_house 107 = .ok (.aload_n 0, 1) := by decide +kernel
theorem dX7_house_108 : decode cX7_house 108 = .ok (.getfield 53, 3) := by decide +kernel
theorem dX7_house_111 : decode cX7_house 111 = .ok (.iload_n 1, 1) := by decide +kernel
theorem dX7_house_112 : decode cX7_house 112 = .ok (.iaload, 1) := by decide +kernel
theorem dX7_house_113 : decode cX7_house 113 = .ok (.isub, 1) := by decide +kernel
theorem dX7_house_114 : decode cX7_house 114 = .ok (.ireturn, 1) := by decide +kernel
theorem dX7_house_115 : decode cX7_house 115 = .ok (.iinc 1 1, 3) := by decide +kernel
theorem dX7_house_118 : decode cX7_house 118 = .ok (.goto (-34), 3) := by decide +kernel
theorem dX7_house_121 : decode cX7_house 121 = .ok (.aload_n 0, 1) := by decide +kernel
theorem dX7_house_122 : decode cX7_house 122 = .ok (.iconst 0, 1) := by decide +kernel
theorem dX7_house_123 : decode cX7_house 123 = .ok (.putfield 298, 3) := by decide +kernel
theorem dX7_house_126 : decode cX7_house 126 = .ok (.aload_n 0, 1) := by decide +kernel
theorem dX7_house_127 : decode cX7_house 127 = .ok (.getfield 251, 3) := by decide +kernel
theorem dX7_house_130 : decode cX7_house 130 = .ok (.ireturn, 1) := by decide +kernel
theorem dX7_carry_0 : decode cX7_carry 0 = .ok (.aload_n 0, 1) := by decide +kernel
theorem dX7_carry_1 : decode cX7_carry 1 = .ok (.getfield 301, 3) := by decide +kernel
theorem dX7_carry_4 : decode cX7_carry 4 = .ok (.ifCond .eq 13, 3) := by decide +kernel
theorem dX7_carry_7 : decode cX7_carry 7 = .ok (.aload_n 0, 1) := by decide +kernel
theorem dX7_carry_8 : decode cX7_carry 8 = .ok (.getfield 304, 3) := by decide +kernel
theorem dX7_carry_11 : decode cX7_carry 11 = .ok (.aload_n 0, 1) := by decide +kernel
theorem dX7_carry_12 : decode cX7_carry 12 = .ok (.getfield 307, 3) := by decide +kernel
theorem dX7_carry_15 : decode cX7_carry 15 = .ok (.iload_n 1, 1) := by decide +kernel
theorem dX7_carry_16 : decode cX7_carry 16 = .ok (.iastore, 1) := by decide +kernel
theorem dX7_carry_17 : decode cX7_carry 17 = .ok (.aload_n 0, 1) := by decide +kernel
theorem dX7_carry_18 : decode cX7_carry 18 = .ok (.dup, 1) := by decide +kernel
theorem dX7_carry_19 : decode cX7_carry 19 = .ok (.getfield 307, 3) := by decide +kernel
theorem dX7_carry_22 : decode cX7_carry 22 = .ok (.iconst 1, 1) := by decide +kernel
theorem dX7_carry_23 : decode cX7_carry 23 = .ok (.iadd, 1) := by decide +kernel
theorem dX7_carry_24 : decode cX7_carry 24 = .ok (.putfield 307, 3) := by decide +kernel
theorem dX7_carry_27 : decode cX7_carry 27 = .ok (.aload_n 0, 1) := by decide +kernel
theorem dX7_carry_28 : decode cX7_carry 28 = .ok (.getfield 304, 3) := by decide +kernel
theorem dX7_carry_31 : decode cX7_carry 31 = .ok (.aload_n 0, 1) := by decide +kernel
theorem dX7_carry_32 : decode cX7_carry 32 = .ok (.getfield 307, 3) := by decide +kernel
theorem dX7_carry_35 : decode cX7_carry 35 = .ok (.iconst 1, 1) := by decide +kernel
theorem dX7_carry_36 : decode cX7_carry 36 = .ok (.isub, 1) := by decide +kernel
theorem dX7_carry_37 : decode cX7_carry 37 = .ok (.iaload, 1) := by decide +kernel
theorem dX7_carry_38 : decode cX7_carry 38 = .ok (.ireturn, 1) := by decide +kernel
set_option maxRecDepth 20000 in
theorem ggX7_carryAll_X7_carry : GoodIn wsX7_carryAll wsX7_carry := goodIn_r _ [25, 2, 1, 3, 26, 27, 28, 29, 30, 31, 32, 33, 34, 35, 36, 37, 38, 39, 40, 41, 42, 43, 44, 45, 46, 47, 48, 49, 50, 51, 52, 53, 54, 55, 56, 57, 58, 59, 60, 61, 62, 63, 64, 65, 66, 67, 68, 69, 70, 71, 72, 73, 74, 75, 76, 77, 78] (by decide +kernel) (by decide +kernel)
set_option maxRecDepth 20000 in
theorem gX7_carryAll_X7_carry : GoodIn wsX7_carryAll (wsV RX7 310 RX7 yX7_carry wsX7_carry) := goodIn_app (goodIn_of _ (by decide +kernel)) ggX7_carryAll_X7_carry
theorem dX7_carryAll_0 : decode cX7_carryAll 0 = .ok (.aload_n 0, 1) := by decide +kernel
theorem dX7_carryAll_1 : decode cX7_carryAll 1 = .ok (.aload_n 1, 1) := by decide +kernel
theorem dX7_carryAll_2 : decode cX7_carryAll 2 = .ok (.putfield 304, 3) := by decide +kernel
theorem dX7_carryAll_5 : decode cX7_carryAll 5 = .ok (.aload_n 0, 1) := by decide +kernel
theorem dX7_carryAll_6 : decode cX7_carryAll 6 = .ok (.iload_n 3, 1) := by decide +kernel
theorem dX7_carryAll_7 : decode cX7_carryAll 7 = .ok (.putfield 301, 3) := by decide +kernel
theorem dX7_carryAll_10 : decode cX7_carryAll 10 = .ok (.aload_n 0, 1) := by decide +kernel
theorem dX7_carryAll_11 : decode cX7_carryAll 11 = .ok (.iconst 0, 1) := by decide +kernel
theorem dX7_carryAll_12 : decode cX7_carryAll 12 = .ok (.putfield 307, 3) := by decide +kernel
theorem dX7_carryAll_15 : decode cX7_carryAll 15 = .ok (.aload_n 0, 1) := by decide +kernel
theorem dX7_carryAll_16 : decode cX7_carryAll 16 = .ok (.aload_n 0, 1) := by decide +kernel
theorem dX7_carryAll_17 : decode cX7_carryAll 17 = .ok (.aload_n 0, 1) := by decide +kernel
theorem dX7_carryAll_18 : decode cX7_carryAll 18 = .ok (.getfield 119, 3) := by decide +kernel
theorem dX7_carryAll_21 : decode cX7_carryAll 21 = .ok (.invokevirtual 310, 3) := by decide +kernel
theorem dX7_carryAll_24 : decode cX7_carryAll 24 = .ok (.putfield 119, 3) := by decide +kernel
theorem dX7_carryAll_27 : decode cX7_carryAll 27 = .ok (.aload_n 0, 1) := by decide +kernel
theorem dX7_carryAll_28 : decode cX7_carryAll 28 = .ok (.aload_n 0, 1) := by decide +kernel
theorem dX7_carryAll_29 : decode cX7_carryAll 29 = .ok (.aload_n 0, 1) := by decide +kernel
theorem dX7_carryAll_30 : decode cX7_carryAll 30 = .ok (.getfield 126, 3) := by decide +kernel
theorem dX7_carryAll_33 : decode cX7_carryAll 33 = .ok (.invokevirtual 310, 3) := by decide +kernel
theorem dX7_carryAll_36 : decode cX7_carryAll 36 = .ok (.putfield 126, 3) := by decide +kernel
theorem dX7_carryAll_39 : decode cX7_carryAll 39 = .ok (.aload_n 0, 1) := by decide +kernel
theorem dX7_carryAll_40 : decode cX7_carryAll 40 = .ok (.aload_n 0, 1) := by decide +kernel
theorem dX7_carryAll_41 : decode cX7_carryAll 41 = .ok (.aload_n 0, 1) := by decide +kernel
theorem dX7_carryAll_42 : decode cX7_carryAll 42 = .ok (.getfield 199, 3) := by decide +kernel
theorem dX7_carryAll_45 : decode cX7_carryAll 45 = .ok (.invokevirtual 310, 3) := by decide +kernel
theorem dX7_carryAll_48 : decode cX7_carryAll 48 = .ok (.putfield 199, 3) := by decide +kernel
theorem dX7_carryAll_51 : decode cX7_carryAll 51 = .ok (.aload_n 0, 1) := by decide +kernel
theorem dX7_carryAll_52 : decode cX7_carryAll 52 = .ok (.aload_n 0, 1) := by decide +kernel
theorem dX7_carryAll_53 : decode cX7_carryAll 53 = .ok (.aload_n 0, 1) := by decide +kernel
theorem dX7_carryAll_54 : decode cX7_carryAll 54 = .ok (.getfield 148, 3) := by decide +kernel
theorem dX7_carryAll_57 : decode cX7_carryAll 57 = .ok (.invokevirtual 310, 3) := by decide +kernel
theorem dX7_carryAll_60 : decode cX7_carryAll 60 = .ok (.putfield 148, 3) := by decide +kernel
theorem dX7_carryAll_63 : decode cX7_carryAll 63 = .ok (.aload_n 0, 1) := by decide +kernel
theorem dX7_carryAll_64 : decode cX7_carryAll 64 = .ok (.aload_n 0, 1) := by decide +kernel
theorem dX7_carryAll_65 : decode cX7_carryAll 65 = .ok (.aload_n 0, 1) := by decide +kernel
theorem dX7_carryAll_66 : decode cX7_carryAll 66 = .ok (.getfield 182, 3) := by decide +kernel
theorem dX7_carryAll_69 : decode cX7_carryAll 69 = .ok (.invokevirtual 310, 3) := by decide +kernel
theorem dX7_carryAll_72 : decode cX7_carryAll 72 = .ok (.putfield 182, 3) := by decide +kernel
theorem dX7_carryAll_75 : decode cX7_carryAll 75 = .ok (.iconst 0, 1) := by decide +kernel
theorem dX7_carryAll_76 : decode cX7_carryAll 76 = .ok (.istore 4, 2) := by decide +kernel
theorem dX7_carryAll_78 : decode cX7_carryAll 78 = .ok (.iload 4, 2) := by decide +kernel
theorem dX7_carryAll_80 : decode cX7_carryAll 80 = .ok (.iconst 5, 1) := by decide +kernel
theorem dX7_carryAll_81 : decode cX7_carryAll 81 = .ok (.if_icmp .ge 99, 3) := by decide +kernel
theorem dX7_carryAll_84 : decode cX7_carryAll 84 = .ok (.aload_n 0, 1) := by decide +kernel
theorem dX7_carryAll_85 : decode cX7_carryAll 85 = .ok (.getfield 17, 3) := by decide +kernel
theorem dX7_carryAll_88 : decode cX7_carryAll 88 = .ok (.iload 4, 2) := by decide +kernel
theorem dX7_carryAll_90 : decode cX7_carryAll 90 = .ok (.aload_n 0, 1) := by decide +kernel
theorem dX7_carryAll_91 : decode cX7_carryAll 91 = .ok (.aload_n 0, 1) := by decide +kernel
theorem dX7_carryAll_92 : decode cX7_carryAll 92 = .ok (.getfield 17, 3) := by decide +kernel
theorem dX7_carryAll_95 : decode cX7_carryAll 95 = .ok (.iload 4, 2) := by decide +kernel
theorem dX7_carryAll_97 : decode cX7_carryAll 97 = .ok (.iaload, 1) := by decide +kernel
theorem dX7_carryAll_98 : decode cX7_carryAll 98 = .ok (.invokevirtual 310, 3) := by decide +kernel
theorem dX7_carryAll_101 : decode cX7_carryAll 101 = .ok (.iastore, 1) := by decide +kernel
theorem dX7_carryAll_102 : decode cX7_carryAll 102 = .ok (.aload_n 0, 1) := by decide +kernel
theorem dX7_carryAll_103 : decode cX7_carryAll 103 = .ok (.getfield 20, 3) := by decide +kernel
theorem dX7_carryAll_106 : decode cX7_carryAll 106 = .ok (.iload 4, 2) := by decide +kernel
theorem dX7_carryAll_108 : decode cX7_carryAll 108 = .ok (.aload_n 0, 1) := by decide +kernel
theorem dX7_carryAll_109 : decode cX7_carryAll 109 = .ok (.aload_n 0, 1) := by decide +kernel
theorem dX7_carryAll_110 : decode cX7_carryAll 110 = .ok (.getfield 20, 3) := by decide +kernel
theorem dX7_carryAll_113 : decode cX7_carryAll 113 = .ok (.iload 4, 2) := by decide +kernel
theorem dX7_carryAll_115 : decode cX7_carryAll 115 = .ok (.iaload, 1) := by decide +kernel
theorem dX7_carryAll_116 : decode cX7_carryAll 116 = .ok (.invokevirtual 310, 3) := by decide +kernel
theorem dX7_carryAll_119 : decode cX7_carryAll 119 = .ok (.iastore, 1) := by decide +kernel
theorem dX7_carryAll_120 : decode cX7_carryAll 120 = .ok (.aload_n 0, 1) := by decide +kernel
theorem dX7_carryAll_121 : decode cX7_carryAll 121 = .ok (.getfield 23, 3) := by decide +kernel
theorem dX7_carryAll_124 : decode cX7_carryAll 124 = .ok (.iload 4, 2) := by decide +kernel
theorem dX7_carryAll_126 : decode cX7_carryAll 126 = .ok (.aload_n 0, 1) := by decide +kernel
theorem dX7_carryAll_127 : decode cX7_carryAll 127 = .ok (.aload_n 0, 1) := by decide +kernel
theorem dX7_carryAll_128 : decode cX7_carryAll 128 = .ok (.getfield 23, 3) := by decide +kernel
theorem dX7_carryAll_131 : decode cX7_carryAll 131 = .ok (.iload 4, 2) := by decide +kernel
theorem dX7_carryAll_133 : decode cX7_carryAll 133 = .ok (.iaload, 1) := by decide +kernel
theorem dX7_carryAll_134 : decode cX7_carryAll 134 = .ok (.invokevirtual 310, 3) := by decide +kernel
theorem dX7_carryAll_137 : decode cX7_carryAll 137 = .ok (.iastore, 1) := by decide +kernel
theorem dX7_carryAll_138 : decode cX7_carryAll 138 = .ok (.aload_n 0, 1) := by decide +kernel
theorem dX7_carryAll_139 : decode cX7_carryAll 139 = .ok (.getfield 26, 3) := by decide +kernel
theorem dX7_carryAll_142 : decode cX7_carryAll 142 = .ok (.iload 4, 2) := by decide +kernel
theorem dX7_carryAll_144 : decode cX7_carryAll 144 = .ok (.aload_n 0, 1) := by decide +kernel
theorem dX7_carryAll_145 : decode cX7_carryAll 145 = .ok (.aload_n 0, 1) := by decide +kernel
theorem dX7_carryAll_146 : decode cX7_carryAll 146 = .ok (.getfield 26, 3) := by decide +kernel
theorem dX7_carryAll_149 : decode cX7_carryAll 149 = .ok (.iload 4, 2) := by decide +kernel
theorem dX7_carryAll_151 : decode cX7_carryAll 151 = .ok (.iaload, 1) := by decide +kernel
theorem dX7_carryAll_152 : decode cX7_carryAll 152 = .ok (.invokevirtual 310, 3) := by decide +kernel
theorem dX7_carryAll_155 : decode cX7_carryAll 155 = .ok (.iastore, 1) := by decide +kernel
theorem dX7_carryAll_156 : decode cX7_carryAll 156 = .ok (.aload_n 0, 1) := by decide +kernel
theorem dX7_carryAll_157 : decode cX7_carryAll 157 = .ok (.getfield 29, 3) := by decide +kernel
theorem dX7_carryAll_160 : decode cX7_carryAll 160 = .ok (.iload 4, 2) := by decide +kernel
theorem dX7_carryAll_162 : decode cX7_carryAll 162 = .ok (.aload_n 0, 1) := by decide +kernel
theorem dX7_carryAll_163 : decode cX7_carryAll 163 = .ok (.aload_n 0, 1) := by decide +kernel
theorem dX7_carryAll_164 : decode cX7_carryAll 164 = .ok (.getfield 29, 3) := by decide +kernel
theorem dX7_carryAll_167 : decode cX7_carryAll 167 = .ok (.iload 4, 2) := by decide +kernel
theorem dX7_carryAll_169 : decode cX7_carryAll 169 = .ok (.iaload, 1) := by decide +kernel
theorem dX7_carryAll_170 : decode cX7_carryAll 170 = .ok (.invokevirtual 310, 3) := by decide +kernel
theorem dX7_carryAll_173 : decode cX7_carryAll 173 = .ok (.iastore, 1) := by decide +kernel
theorem dX7_carryAll_174 : decode cX7_carryAll 174 = .ok (.iinc 4 1, 3) := by decide +kernel
theorem dX7_carryAll_177 : decode cX7_carryAll 177 = .ok (.goto (-99), 3) := by decide +kernel
theorem dX7_carryAll_180 : decode cX7_carryAll 180 = .ok (.iconst 0, 1) := by decide +kernel
theorem dX7_carryAll_181 : decode cX7_carryAll 181 = .ok (.istore 4, 2) := by decide +kernel
theorem dX7_carryAll_183 : decode cX7_carryAll 183 = .ok (.iload 4, 2) := by decide +kernel
theorem dX7_carryAll_185 : decode cX7_carryAll 185 = .ok (.bipush 6, 2) := by decide +kernel
theorem dX7_carryAll_187 : decode cX7_carryAll 187 = .ok (.if_icmp .ge 99, 3) := by decide +kernel
theorem dX7_carryAll_190 : decode cX7_carryAll 190 = .ok (.aload_n 0, 1) := by decide +kernel
theorem dX7_carryAll_191 : decode cX7_carryAll 191 = .ok (.getfield 32, 3) := by decide +kernel
theorem dX7_carryAll_194 : decode cX7_carryAll 194 = .ok (.iload 4, 2) := by decide +kernel
theorem dX7_carryAll_196 : decode cX7_carryAll 196 = .ok (.aload_n 0, 1) := by decide +kernel
theorem dX7_carryAll_197 : decode cX7_carryAll 197 = .ok (.aload_n 0, 1) := by decide +kernel
theorem dX7_carryAll_198 : decode cX7_carryAll 198 = .ok (.getfield 32, 3) := by decide +kernel
theorem dX7_carryAll_201 : decode cX7_carryAll 201 = .ok (.iload 4, 2) := by decide +kernel
theorem dX7_carryAll_203 : decode cX7_carryAll 203 = .ok (.iaload, 1) := by decide +kernel
theorem dX7_carryAll_204 : decode cX7_carryAll 204 = .ok (.invokevirtual 310, 3) := by decide +kernel
theorem dX7_carryAll_207 : decode cX7_carryAll 207 = .ok (.iastore, 1) := by decide +kernel
theorem dX7_carryAll_208 : decode cX7_carryAll 208 = .ok (.aload_n 0, 1) := by decide +kernel
theorem dX7_carryAll_209 : decode cX7_carryAll 209 = .ok (.getfield 35, 3) := by decide +kernel
theorem dX7_carryAll_212 : decode cX7_carryAll 212 = .ok (.iload 4, 2) := by decide +kernel
theorem dX7_carryAll_214 : decode cX7_carryAll 214 = .ok (.aload_n 0, 1) := by decide +kernel
theorem dX7_carryAll_215 : decode cX7_carryAll 215 = .ok (.aload_n 0, 1) := by decide +kernel
theorem dX7_carryAll_216 : decode cX7_carryAll 216 = .ok (.getfield 35, 3) := by decide +kernel
theorem dX7_carryAll_219 : decode cX7_carryAll 219 = .ok (.iload 4, 2) := by decide +kernel
theorem dX7_carryAll_221 : decode cX7_carryAll 221 = .ok (.iaload, 1) := by decide +kernel
theorem dX7_carryAll_222 : decode cX7_carryAll 222 = .ok (.invokevirtual 310, 3) := by decide +kernel
theorem dX7_carryAll_225 : decode cX7_carryAll 225 = .ok (.iastore, 1) := by decide +kernel
theorem dX7_carryAll_226 : decode cX7_carryAll 226 = .ok (.aload_n 0, 1) := by decide +kernel
theorem dX7_carryAll_227 : decode cX7_carryAll 227 = .ok (.getfield 38, 3) := by decide +kernel
theorem dX7_carryAll_230 : decode cX7_carryAll 230 = .ok (.iload 4, 2) := by decide +kernel
theorem dX7_carryAll_232 : decode cX7_carryAll 232 = .ok (.aload_n 0, 1) := by decide +kernel
theorem dX7_carryAll_233 : decode cX7_carryAll 233 = .ok (.aload_n 0, 1) := by decide +kernel
theorem dX7_carryAll_234 : decode cX7_carryAll 234 = .ok (.getfield 38, 3) := by decide +kernel
theorem dX7_carryAll_237 : decode cX7_carryAll 237 = .ok (.iload 4, 2) := by decide +kernel
theorem dX7_carryAll_239 : decode cX7_carryAll 239 = .ok (.iaload, 1) := by decide +kernel
theorem dX7_carryAll_240 : decode cX7_carryAll 240 = .ok (.invokevirtual 310, 3) := by decide +kernel
theorem dX7_carryAll_243 : decode cX7_carryAll 243 = .ok (.iastore, 1) := by decide +kernel
theorem dX7_carryAll_244 : decode cX7_carryAll 244 = .ok (.aload_n 0, 1) := by decide +kernel
theorem dX7_carryAll_245 : decode cX7_carryAll 245 = .ok (.getfield 41, 3) := by decide +kernel
theorem dX7_carryAll_248 : decode cX7_carryAll 248 = .ok (.iload 4, 2) := by decide +kernel
theorem dX7_carryAll_250 : decode cX7_carryAll 250 = .ok (.aload_n 0, 1) := by decide +kernel
theorem dX7_carryAll_251 : decode cX7_carryAll 251 = .ok (.aload_n 0, 1) := by decide +kernel
theorem dX7_carryAll_252 : decode cX7_carryAll 252 = .ok (.getfield 41, 3) := by decide +kernel
theorem dX7_carryAll_255 : decode cX7_carryAll 255 = .ok (.iload 4, 2) := by decide +kernel
theorem dX7_carryAll_257 : decode cX7_carryAll 257 = .ok (.iaload, 1) := by decide +kernel
theorem dX7_carryAll_258 : decode cX7_carryAll 258 = .ok (.invokevirtual 310, 3) := by decide +kernel
theorem dX7_carryAll_261 : decode cX7_carryAll 261 = .ok (.iastore, 1) := by decide +kernel
theorem dX7_carryAll_262 : decode cX7_carryAll 262 = .ok (.aload_n 0, 1) := by decide +kernel
theorem dX7_carryAll_263 : decode cX7_carryAll 263 = .ok (.getfield 44, 3) := by decide +kernel
theorem dX7_carryAll_266 : decode cX7_carryAll 266 = .ok (.iload 4, 2) := by decide +kernel
theorem dX7_carryAll_268 : decode cX7_carryAll 268 = .ok (.aload_n 0, 1) := by decide +kernel
theorem dX7_carryAll_269 : decode cX7_carryAll 269 = .ok (.aload_n 0, 1) := by decide +kernel
theorem dX7_carryAll_270 : decode cX7_carryAll 270 = .ok (.getfield 44, 3) := by decide +kernel
theorem dX7_carryAll_273 : decode cX7_carryAll 273 = .ok (.iload 4, 2) := by decide +kernel
theorem dX7_carryAll_275 : decode cX7_carryAll 275 = .ok (.iaload, 1) := by decide +kernel
theorem dX7_carryAll_276 : decode cX7_carryAll 276 = .ok (.invokevirtual 310, 3) := by decide +kernel
