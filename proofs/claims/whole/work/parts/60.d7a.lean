theorem dX7_init_0 : decode cX7_init 0 = .ok (.aload_n 0, 1) := by decide +kernel
theorem dX7_init_1 : decode cX7_init 1 = .ok (.invokespecial 1, 3) := by decide +kernel
theorem dX7_init_4 : decode cX7_init 4 = .ok (.aload_n 0, 1) := by decide +kernel
theorem dX7_init_5 : decode cX7_init 5 = .ok (.bipush 36, 2) := by decide +kernel
theorem dX7_init_7 : decode cX7_init 7 = .ok (.newarray .float, 2) := by decide +kernel
theorem dX7_init_9 : decode cX7_init 9 = .ok (.putfield 7, 3) := by decide +kernel
theorem dX7_init_12 : decode cX7_init 12 = .ok (.aload_n 0, 1) := by decide +kernel
theorem dX7_init_13 : decode cX7_init 13 = .ok (.bipush 36, 2) := by decide +kernel
theorem dX7_init_15 : decode cX7_init 15 = .ok (.newarray .int, 2) := by decide +kernel
theorem dX7_init_17 : decode cX7_init 17 = .ok (.putfield 13, 3) := by decide +kernel
theorem dX7_init_20 : decode cX7_init 20 = .ok (.aload_n 0, 1) := by decide +kernel
theorem dX7_init_21 : decode cX7_init 21 = .ok (.iconst 5, 1) := by decide +kernel
theorem dX7_init_22 : decode cX7_init 22 = .ok (.newarray .int, 2) := by decide +kernel
theorem dX7_init_24 : decode cX7_init 24 = .ok (.putfield 17, 3) := by decide +kernel
theorem dX7_init_27 : decode cX7_init 27 = .ok (.aload_n 0, 1) := by decide +kernel
theorem dX7_init_28 : decode cX7_init 28 = .ok (.iconst 5, 1) := by decide +kernel
theorem dX7_init_29 : decode cX7_init 29 = .ok (.newarray .int, 2) := by decide +kernel
theorem dX7_init_31 : decode cX7_init 31 = .ok (.putfield 20, 3) := by decide +kernel
theorem dX7_init_34 : decode cX7_init 34 = .ok (.aload_n 0, 1) := by decide +kernel
theorem dX7_init_35 : decode cX7_init 35 = .ok (.iconst 5, 1) := by decide +kernel
theorem dX7_init_36 : decode cX7_init 36 = .ok (.newarray .int, 2) := by decide +kernel
theorem dX7_init_38 : decode cX7_init 38 = .ok (.putfield 23, 3) := by decide +kernel
theorem dX7_init_41 : decode cX7_init 41 = .ok (.aload_n 0, 1) := by decide +kernel
theorem dX7_init_42 : decode cX7_init 42 = .ok (.iconst 5, 1) := by decide +kernel
theorem dX7_init_43 : decode cX7_init 43 = .ok (.newarray .int, 2) := by decide +kernel
theorem dX7_init_45 : decode cX7_init 45 = .ok (.putfield 26, 3) := by decide +kernel
theorem dX7_init_48 : decode cX7_init 48 = .ok (.aload_n 0, 1) := by decide +kernel
theorem dX7_init_49 : decode cX7_init 49 = .ok (.iconst 5, 1) := by decide +kernel
theorem dX7_init_50 : decode cX7_init 50 = .ok (.newarray .int, 2) := by decide +kernel
theorem dX7_init_52 : decode cX7_init 52 = .ok (.putfield 29, 3) := by decide +kernel
theorem dX7_init_55 : decode cX7_init 55 = .ok (.aload_n 0, 1) := by decide +kernel
theorem dX7_init_56 : decode cX7_init 56 = .ok (.bipush 6, 2) := by decide +kernel
theorem dX7_init_58 : decode cX7_init 58 = .ok (.newarray .int, 2) := by decide +kernel
theorem dX7_init_60 : decode cX7_init 60 = .ok (.putfield 32, 3) := by decide +kernel
theorem dX7_init_63 : decode cX7_init 63 = .ok (.aload_n 0, 1) := by decide +kernel
theorem dX7_init_64 : decode cX7_init 64 = .ok (.bipush 6, 2) := by decide +kernel
theorem dX7_init_66 : decode cX7_init 66 = .ok (.newarray .int, 2) := by decide +kernel
theorem dX7_init_68 : decode cX7_init 68 = .ok (.putfield 35, 3) := by decide +kernel
theorem dX7_init_71 : decode cX7_init 71 = .ok (.aload_n 0, 1) := by decide +kernel
theorem dX7_init_72 : decode cX7_init 72 = .ok (.bipush 6, 2) := by decide +kernel
theorem dX7_init_74 : decode cX7_init 74 = .ok (.newarray .int, 2) := by decide +kernel
theorem dX7_init_76 : decode cX7_init 76 = .ok (.putfield 38, 3) := by decide +kernel
theorem dX7_init_79 : decode cX7_init 79 = .ok (.aload_n 0, 1) := by decide +kernel
theorem dX7_init_80 : decode cX7_init 80 = .ok (.bipush 6, 2) := by decide +kernel
theorem dX7_init_82 : decode cX7_init 82 = .ok (.newarray .int, 2) := by decide +kernel
theorem dX7_init_84 : decode cX7_init 84 = .ok (.putfield 41, 3) := by decide +kernel
theorem dX7_init_87 : decode cX7_init 87 = .ok (.aload_n 0, 1) := by decide +kernel
theorem dX7_init_88 : decode cX7_init 88 = .ok (.bipush 6, 2) := by decide +kernel
theorem dX7_init_90 : decode cX7_init 90 = .ok (.newarray .int, 2) := by decide +kernel
theorem dX7_init_92 : decode cX7_init 92 = .ok (.putfield 44, 3) := by decide +kernel
theorem dX7_init_95 : decode cX7_init 95 = .ok (.aload_n 0, 1) := by decide +kernel
theorem dX7_init_96 : decode cX7_init 96 = .ok (.bipush 7, 2) := by decide +kernel
theorem dX7_init_98 : decode cX7_init 98 = .ok (.newarray .int, 2) := by decide +kernel
theorem dX7_init_100 : decode cX7_init 100 = .ok (.putfield 47, 3) := by decide +kernel
theorem dX7_init_103 : decode cX7_init 103 = .ok (.aload_n 0, 1) := by decide +kernel
theorem dX7_init_104 : decode cX7_init 104 = .ok (.bipush 96, 2) := by decide +kernel
theorem dX7_init_106 : decode cX7_init 106 = .ok (.newarray .int, 2) := by decide +kernel
theorem dX7_init_108 : decode cX7_init 108 = .ok (.putfield 50, 3) := by decide +kernel
theorem dX7_init_111 : decode cX7_init 111 = .ok (.aload_n 0, 1) := by decide +kernel
theorem dX7_init_112 : decode cX7_init 112 = .ok (.bipush 49, 2) := by decide +kernel
theorem dX7_init_114 : decode cX7_init 114 = .ok (.newarray .int, 2) := by decide +kernel
theorem dX7_init_116 : decode cX7_init 116 = .ok (.putfield 53, 3) := by decide +kernel
theorem dX7_init_119 : decode cX7_init 119 = .ok (.aload_n 0, 1) := by decide +kernel
theorem dX7_init_120 : decode cX7_init 120 = .ok (.bipush 49, 2) := by decide +kernel
theorem dX7_init_122 : decode cX7_init 122 = .ok (.newarray .int, 2) := by decide +kernel
theorem dX7_init_124 : decode cX7_init 124 = .ok (.putfield 56, 3) := by decide +kernel
theorem dX7_init_127 : decode cX7_init 127 = .ok (.aload_n 0, 1) := by decide +kernel
theorem dX7_init_128 : decode cX7_init 128 = .ok (.sipush 196, 3) := by decide +kernel
theorem dX7_init_131 : decode cX7_init 131 = .ok (.newarray .int, 2) := by decide +kernel
theorem dX7_init_133 : decode cX7_init 133 = .ok (.putfield 59, 3) := by decide +kernel
theorem dX7_init_136 : decode cX7_init 136 = .ok (.aload_n 0, 1) := by decide +kernel
theorem dX7_init_137 : decode cX7_init 137 = .ok (.bipush 96, 2) := by decide +kernel
theorem dX7_init_139 : decode cX7_init 139 = .ok (.newarray .int, 2) := by decide +kernel
theorem dX7_init_141 : decode cX7_init 141 = .ok (.putfield 62, 3) := by decide +kernel
theorem dX7_init_144 : decode cX7_init 144 = .ok (.aload_n 0, 1) := by decide +kernel
theorem dX7_init_145 : decode cX7_init 145 = .ok (.bipush 96, 2) := by decide +kernel
theorem dX7_init_147 : decode cX7_init 147 = .ok (.newarray .int, 2) := by decide +kernel
theorem dX7_init_149 : decode cX7_init 149 = .ok (.putfield 65, 3) := by decide +kernel
theorem dX7_init_152 : decode cX7_init 152 = .ok (.aload_n 0, 1) := by decide +kernel
theorem dX7_init_153 : decode cX7_init 153 = .ok (.bipush 96, 2) := by decide +kernel
theorem dX7_init_155 : decode cX7_init 155 = .ok (.newarray .int, 2) := by decide +kernel
theorem dX7_init_157 : decode cX7_init 157 = .ok (.putfield 68, 3) := by decide +kernel
theorem dX7_init_160 : decode cX7_init 160 = .ok (.aload_n 0, 1) := by decide +kernel
theorem dX7_init_161 : decode cX7_init 161 = .ok (.bipush 36, 2) := by decide +kernel
theorem dX7_init_163 : decode cX7_init 163 = .ok (.newarray .float, 2) := by decide +kernel
theorem dX7_init_165 : decode cX7_init 165 = .ok (.putfield 71, 3) := by decide +kernel
theorem dX7_init_168 : decode cX7_init 168 = .ok (.aload_n 0, 1) := by decide +kernel
theorem dX7_init_169 : decode cX7_init 169 = .ok (.bipush 96, 2) := by decide +kernel
theorem dX7_init_171 : decode cX7_init 171 = .ok (.newarray .int, 2) := by decide +kernel
theorem dX7_init_173 : decode cX7_init 173 = .ok (.putfield 74, 3) := by decide +kernel
theorem dX7_init_176 : decode cX7_init 176 = .ok (.aload_n 0, 1) := by decide +kernel
theorem dX7_init_177 : decode cX7_init 177 = .ok (.bipush 36, 2) := by decide +kernel
theorem dX7_init_179 : decode cX7_init 179 = .ok (.newarray .float, 2) := by decide +kernel
theorem dX7_init_181 : decode cX7_init 181 = .ok (.putfield 77, 3) := by decide +kernel
theorem dX7_init_184 : decode cX7_init 184 = .ok (.aload_n 0, 1) := by decide +kernel
theorem dX7_init_185 : decode cX7_init 185 = .ok (.sipush 768, 3) := by decide +kernel
theorem dX7_init_188 : decode cX7_init 188 = .ok (.newarray .int, 2) := by decide +kernel
theorem dX7_init_190 : decode cX7_init 190 = .ok (.putfield 80, 3) := by decide +kernel
theorem dX7_init_193 : decode cX7_init 193 = .ok (.aload_n 0, 1) := by decide +kernel
theorem dX7_init_194 : decode cX7_init 194 = .ok (.sipush 288, 3) := by decide +kernel
theorem dX7_init_197 : decode cX7_init 197 = .ok (.newarray .float, 2) := by decide +kernel
theorem dX7_init_199 : decode cX7_init 199 = .ok (.putfield 83, 3) := by decide +kernel
theorem dX7_init_202 : decode cX7_init 202 = .ok (.aload_n 0, 1) := by decide +kernel
theorem dX7_init_203 : decode cX7_init 203 = .ok (.bipush 96, 2) := by decide +kernel
theorem dX7_init_205 : decode cX7_init 205 = .ok (.newarray .int, 2) := by decide +kernel
theorem dX7_init_207 : decode cX7_init 207 = .ok (.putfield 86, 3) := by decide +kernel
theorem dX7_init_210 : decode cX7_init 210 = .ok (.aload_n 0, 1) := by decide +kernel
theorem dX7_init_211 : decode cX7_init 211 = .ok (.bipush 36, 2) := by decide +kernel
theorem dX7_init_213 : decode cX7_init 213 = .ok (.newarray .float, 2) := by decide +kernel
theorem dX7_init_215 : decode cX7_init 215 = .ok (.putfield 89, 3) := by decide +kernel
theorem dX7_init_218 : decode cX7_init 218 = .ok (.aload_n 0, 1) := by decide +kernel
theorem dX7_init_219 : decode cX7_init 219 = .ok (.bipush 12, 2) := by decide +kernel
theorem dX7_init_221 : decode cX7_init 221 = .ok (.newarray .int, 2) := by decide +kernel
theorem dX7_init_223 : decode cX7_init 223 = .ok (.putfield 92, 3) := by decide +kernel
theorem dX7_init_226 : decode cX7_init 226 = .ok (.aload_n 0, 1) := by decide +kernel
theorem dX7_init_227 : decode cX7_init 227 = .ok (.bipush 8, 2) := by decide +kernel
theorem dX7_init_229 : decode cX7_init 229 = .ok (.newarray .int, 2) := by decide +kernel
theorem dX7_init_231 : decode cX7_init 231 = .ok (.putfield 95, 3) := by decide +kernel
theorem dX7_init_234 : decode cX7_init 234 = .ok (.aload_n 0, 1) := by decide +kernel
theorem dX7_init_235 : decode cX7_init 235 = .ok (.iconst 3, 1) := by decide +kernel
theorem dX7_init_236 : decode cX7_init 236 = .ok (.newarray .int, 2) := by decide +kernel
theorem dX7_init_238 : decode cX7_init 238 = .ok (.putfield 98, 3) := by decide +kernel
theorem dX7_init_241 : decode cX7_init 241 = .ok (.aload_n 0, 1) := by decide +kernel
theorem dX7_init_242 : decode cX7_init 242 = .ok (.iconst 3, 1) := by decide +kernel
theorem dX7_init_243 : decode cX7_init 243 = .ok (.newarray .int, 2) := by decide +kernel
theorem dX7_init_245 : decode cX7_init 245 = .ok (.putfield 101, 3) := by decide +kernel
theorem dX7_init_248 : decode cX7_init 248 = .ok (.aload_n 0, 1) := by decide +kernel
theorem dX7_init_249 : decode cX7_init 249 = .ok (.iconst 3, 1) := by decide +kernel
theorem dX7_init_250 : decode cX7_init 250 = .ok (.newarray .boolean, 2) := by decide +kernel
theorem dX7_init_252 : decode cX7_init 252 = .ok (.putfield 104, 3) := by decide +kernel
theorem dX7_init_255 : decode cX7_init 255 = .ok (.aload_n 0, 1) := by decide +kernel
theorem dX7_init_256 : decode cX7_init 256 = .ok (.bipush 36, 2) := by decide +kernel
theorem dX7_init_258 : decode cX7_init 258 = .ok (.newarray .int, 2) := by decide +kernel
theorem dX7_init_260 : decode cX7_init 260 = .ok (.putfield 108, 3) := by decide +kernel
theorem dX7_init_263 : decode cX7_init 263 = .ok (.aload_n 0, 1) := by decide +kernel
theorem dX7_init_264 : decode cX7_init 264 = .ok (.bipush 12, 2) := by decide +kernel
theorem dX7_init_266 : decode cX7_init 266 = .ok (.newarray .int, 2) := by decide +kernel
theorem dX7_init_268 : decode cX7_init 268 = .ok (.putfield 111, 3) := by decide +kernel
theorem dX7_init_271 : decode cX7_init 271 = .ok (.aload_n 0, 1) := by decide +kernel
theorem dX7_init_272 : decode cX7_init 272 = .ok (.iconst 0, 1) := by decide +kernel
theorem dX7_init_273 : decode cX7_init 273 = .ok (.putfield 114, 3) := by decide +kernel
theorem dX7_init_276 : decode cX7_init 276 = .ok (.iconst 0, 1) := by decide +kernel
theorem dX7_init_277 : decode cX7_init 277 = .ok (.istore_n 1, 1) := by decide +kernel
theorem dX7_init_278 : decode cX7_init 278 = .ok (.iload_n 1, 1) := by decide +kernel
theorem dX7_init_279 : decode cX7_init 279 = .ok (.bipush 36, 2) := by decide +kernel
theorem dX7_init_281 : decode cX7_init 281 = .ok (.if_icmp .ge 17, 3) := by decide +kernel
theorem dX7_init_284 : decode cX7_init 284 = .ok (.aload_n 0, 1) := by decide +kernel
theorem dX7_init_285 : decode cX7_init 285 = .ok (.getfield 7, 3) := by decide +kernel
theorem dX7_init_288 : decode cX7_init 288 = .ok (.iload_n 1, 1) := by decide +kernel
theorem dX7_init_289 : decode cX7_init 289 = .ok (.ldc 118, 2) := by decide +kernel
theorem dX7_init_291 : decode cX7_init 291 = .ok (.fastore, 1) := by decide +kernel
theorem dX7_init_292 : decode cX7_init 292 = .ok (.iinc 1 1, 3) := by decide +kernel
theorem dX7_init_295 : decode cX7_init 295 = .ok (.goto (-17), 3) := by decide +kernel
theorem dX7_init_298 : decode cX7_init 298 = .ok (.return_, 1) := by decide +kernel
theorem dX7_in_0 : decode cX7_in 0 = .ok (.lload_n 0, 1) := by decide +kernel
theorem dX7_in_1 : decode cX7_in 1 = .ok (.lload_n 2, 1) := by decide +kernel
theorem dX7_in_2 : decode cX7_in 2 = .ok (.lcmp, 1) := by decide +kernel
theorem dX7_in_3 : decode cX7_in 3 = .ok (.ifCond .lt 14, 3) := by decide +kernel
theorem dX7_in_6 : decode cX7_in 6 = .ok (.lload_n 0, 1) := by decide +kernel
theorem dX7_in_7 : decode cX7_in 7 = .ok (.lload 4, 2) := by decide +kernel
theorem dX7_in_9 : decode cX7_in 9 = .ok (.lcmp, 1) := by decide +kernel
theorem dX7_in_10 : decode cX7_in 10 = .ok (.ifCond .gt 7, 3) := by decide +kernel
theorem dX7_in_13 : decode cX7_in 13 = .ok (.iconst 1, 1) := by decide +kernel
theorem dX7_in_14 : decode cX7_in 14 = .ok (.goto 4, 3) := by decide +kernel
theorem dX7_in_17 : decode cX7_in 17 = .ok (.iconst 0, 1) := by decide +kernel
theorem dX7_in_18 : decode cX7_in 18 = .ok (.ireturn, 1) := by decide +kernel
theorem dX7_refuse_0 : decode cX7_refuse 0 = .ok (.aload_n 0, 1) := by decide +kernel
theorem dX7_refuse_1 : decode cX7_refuse 1 = .ok (.getfield 47, 3) := by decide +kernel
theorem dX7_refuse_4 : decode cX7_refuse 4 = .ok (.iload_n 1, 1) := by decide +kernel
theorem dX7_refuse_5 : decode cX7_refuse 5 = .ok (.ineg, 1) := by decide +kernel
theorem dX7_refuse_6 : decode cX7_refuse 6 = .ok (.dup2, 1) := by decide +kernel
theorem dX7_refuse_7 : decode cX7_refuse 7 = .ok (.iaload, 1) := by decide +kernel
theorem dX7_refuse_8 : decode cX7_refuse 8 = .ok (.iconst 1, 1) := by decide +kernel
theorem dX7_refuse_9 : decode cX7_refuse 9 = .ok (.iadd, 1) := by decide +kernel
theorem dX7_refuse_10 : decode cX7_refuse 10 = .ok (.iastore, 1) := by decide +kernel
theorem dX7_refuse_11 : decode cX7_refuse 11 = .ok (.iload_n 1, 1) := by decide +kernel
theorem dX7_refuse_12 : decode cX7_refuse 12 = .ok (.ireturn, 1) := by decide +kernel
theorem dX7_isAir_0 : decode cX7_isAir 0 = .ok (.iload_n 1, 1) := by decide +kernel
theorem dX7_isAir_1 : decode cX7_isAir 1 = .ok (.i2l, 1) := by decide +kernel
theorem dX7_isAir_2 : decode cX7_isAir 2 = .ok (.lconst 0, 1) := by decide +kernel
theorem dX7_isAir_3 : decode cX7_isAir 3 = .ok (.aload_n 0, 1) := by decide +kernel
theorem dX7_isAir_4 : decode cX7_isAir 4 = .ok (.getfield 119, 3) := by decide +kernel
theorem dX7_isAir_7 : decode cX7_isAir 7 = .ok (.iconst 1, 1) := by decide +kernel
theorem dX7_isAir_8 : decode cX7_isAir 8 = .ok (.isub, 1) := by decide +kernel
theorem dX7_isAir_9 : decode cX7_isAir 9 = .ok (.i2l, 1) := by decide +kernel
theorem dX7_isAir_10 : decode cX7_isAir 10 = .ok (.invokestatic 122, 3) := by decide +kernel
theorem dX7_isAir_13 : decode cX7_isAir 13 = .ok (.ireturn, 1) := by decide +kernel
theorem dX7_isSitter_0 : decode cX7_isSitter 0 = .ok (.iload_n 1, 1) := by decide +kernel
theorem dX7_isSitter_1 : decode cX7_isSitter 1 = .ok (.i2l, 1) := by decide +kernel
theorem dX7_isSitter_2 : decode cX7_isSitter 2 = .ok (.lconst 0, 1) := by decide +kernel
theorem dX7_isSitter_3 : decode cX7_isSitter 3 = .ok (.aload_n 0, 1) := by decide +kernel
theorem dX7_isSitter_4 : decode cX7_isSitter 4 = .ok (.getfield 126, 3) := by decide +kernel
theorem dX7_isSitter_7 : decode cX7_isSitter 7 = .ok (.iconst 1, 1) := by decide +kernel
theorem dX7_isSitter_8 : decode cX7_isSitter 8 = .ok (.isub, 1) := by decide +kernel
theorem dX7_isSitter_9 : decode cX7_isSitter 9 = .ok (.i2l, 1) := by decide +kernel
theorem dX7_isSitter_10 : decode cX7_isSitter 10 = .ok (.invokestatic 122, 3) := by decide +kernel
theorem dX7_isSitter_13 : decode cX7_isSitter 13 = .ok (.ireturn, 1) := by decide +kernel
theorem dX7_isCell_0 : decode cX7_isCell 0 = .ok (.iload_n 0, 1) := by decide +kernel
theorem dX7_isCell_1 : decode cX7_isCell 1 = .ok (.i2l, 1) := by decide +kernel
theorem dX7_isCell_2 : decode cX7_isCell 2 = .ok (.lconst 0, 1) := by decide +kernel
theorem dX7_isCell_3 : decode cX7_isCell 3 = .ok (.ldc2_w 129, 3) := by decide +kernel
theorem dX7_isCell_6 : decode cX7_isCell 6 = .ok (.invokestatic 122, 3) := by decide +kernel
theorem dX7_isCell_9 : decode cX7_isCell 9 = .ok (.ireturn, 1) := by decide +kernel
theorem dX7_wrongNumber_0 : decode cX7_wrongNumber 0 = .ok (.iload_n 0, 1) := by decide +kernel
theorem dX7_wrongNumber_1 : decode cX7_wrongNumber 1 = .ok (.iload_n 1, 1) := by decide +kernel
theorem dX7_wrongNumber_2 : decode cX7_wrongNumber 2 = .ok (.if_icmp .ge 8, 3) := by decide +kernel
theorem dX7_wrongNumber_5 : decode cX7_wrongNumber 5 = .ok (.bipush (-4), 2) := by decide +kernel
theorem dX7_wrongNumber_7 : decode cX7_wrongNumber 7 = .ok (.goto 14, 3) := by decide +kernel
theorem dX7_wrongNumber_10 : decode cX7_wrongNumber 10 = .ok (.iload_n 0, 1) := by decide +kernel
theorem dX7_wrongNumber_11 : decode cX7_wrongNumber 11 = .ok (.iload_n 2, 1) := by decide +kernel
theorem dX7_wrongNumber_12 : decode cX7_wrongNumber 12 = .ok (.if_icmp .le 8, 3) := by decide +kernel
theorem dX7_wrongNumber_15 : decode cX7_wrongNumber 15 = .ok (.bipush (-6), 2) := by decide +kernel
theorem dX7_wrongNumber_17 : decode cX7_wrongNumber 17 = .ok (.goto 4, 3) := by decide +kernel
theorem dX7_wrongNumber_20 : decode cX7_wrongNumber 20 = .ok (.iconst 0, 1) := by decide +kernel
theorem dX7_wrongNumber_21 : decode cX7_wrongNumber 21 = .ok (.ireturn, 1) := by decide +kernel
theorem dX7_hasBit_0 : decode cX7_hasBit 0 = .ok (.iload_n 0, 1) := by decide +kernel
theorem dX7_hasBit_1 : decode cX7_hasBit 1 = .ok (.iload_n 1, 1) := by decide +kernel
theorem dX7_hasBit_2 : decode cX7_hasBit 2 = .ok (.ishr, 1) := by decide +kernel
theorem dX7_hasBit_3 : decode cX7_hasBit 3 = .ok (.iconst 1, 1) := by decide +kernel
theorem dX7_hasBit_4 : decode cX7_hasBit 4 = .ok (.iand, 1) := by decide +kernel
theorem dX7_hasBit_5 : decode cX7_hasBit 5 = .ok (.iconst 1, 1) := by decide +kernel
theorem dX7_hasBit_6 : decode cX7_hasBit 6 = .ok (.if_icmp .ne 7, 3) := by decide +kernel
theorem dX7_hasBit_9 : decode cX7_hasBit 9 = .ok (.iconst 1, 1) := by decide +kernel
theorem dX7_hasBit_10 : decode cX7_hasBit 10 = .ok (.goto 4, 3) := by decide +kernel
theorem dX7_hasBit_13 : decode cX7_hasBit 13 = .ok (.iconst 0, 1) := by decide +kernel
theorem dX7_hasBit_14 : decode cX7_hasBit 14 = .ok (.ireturn, 1) := by decide +kernel
theorem dX7_onesOf_0 : decode cX7_onesOf 0 = .ok (.iconst 0, 1) := by decide +kernel
theorem dX7_onesOf_1 : decode cX7_onesOf 1 = .ok (.istore_n 1, 1) := by decide +kernel
theorem dX7_onesOf_2 : decode cX7_onesOf 2 = .ok (.iload_n 0, 1) := by decide +kernel
theorem dX7_onesOf_3 : decode cX7_onesOf 3 = .ok (.istore_n 2, 1) := by decide +kernel
theorem dX7_onesOf_4 : decode cX7_onesOf 4 = .ok (.iload_n 2, 1) := by decide +kernel
theorem dX7_onesOf_5 : decode cX7_onesOf 5 = .ok (.ifCond .eq 15, 3) := by decide +kernel
theorem dX7_onesOf_8 : decode cX7_onesOf 8 = .ok (.iinc 1 1, 3) := by decide +kernel
theorem dX7_onesOf_11 : decode cX7_onesOf 11 = .ok (.iload_n 2, 1) := by decide +kernel
theorem dX7_onesOf_12 : decode cX7_onesOf 12 = .ok (.iload_n 2, 1) := by decide +kernel
theorem dX7_onesOf_13 : decode cX7_onesOf 13 = .ok (.iconst 1, 1) := by decide +kernel
theorem dX7_onesOf_14 : decode cX7_onesOf 14 = .ok (.isub, 1) := by decide +kernel
theorem dX7_onesOf_15 : decode cX7_onesOf 15 = .ok (.iand, 1) := by decide +kernel
theorem dX7_onesOf_16 : decode cX7_onesOf 16 = .ok (.istore_n 2, 1) := by decide +kernel
theorem dX7_onesOf_17 : decode cX7_onesOf 17 = .ok (.goto (-13), 3) := by decide +kernel
theorem dX7_onesOf_20 : decode cX7_onesOf 20 = .ok (.iload_n 1, 1) := by decide +kernel
theorem dX7_onesOf_21 : decode cX7_onesOf 21 = .ok (.ireturn, 1) := by decide +kernel
theorem dX7_held_0 : decode cX7_held 0 = .ok (.iload_n 0, 1) := by decide +kernel
theorem dX7_held_1 : decode cX7_held 1 = .ok (.ifCond .ge 7, 3) := by decide +kernel
theorem dX7_held_4 : decode cX7_held 4 = .ok (.iconst 0, 1) := by decide +kernel
theorem dX7_held_5 : decode cX7_held 5 = .ok (.goto 13, 3) := by decide +kernel
theorem dX7_held_8 : decode cX7_held 8 = .ok (.iload_n 0, 1) := by decide +kernel
theorem dX7_held_9 : decode cX7_held 9 = .ok (.iload_n 1, 1) := by decide +kernel
theorem dX7_held_10 : decode cX7_held 10 = .ok (.if_icmp .le 7, 3) := by decide +kernel
theorem dX7_held_13 : decode cX7_held 13 = .ok (.iload_n 1, 1) := by decide +kernel
theorem dX7_held_14 : decode cX7_held 14 = .ok (.goto 4, 3) := by decide +kernel
theorem dX7_held_17 : decode cX7_held 17 = .ok (.iload_n 0, 1) := by decide +kernel
theorem dX7_held_18 : decode cX7_held 18 = .ok (.ireturn, 1) := by decide +kernel
theorem dX7_heldWarm_0 : decode cX7_heldWarm 0 = .ok (.fload_n 0, 1) := by decide +kernel
theorem dX7_heldWarm_1 : decode cX7_heldWarm 1 = .ok (.ldc 131, 2) := by decide +kernel
theorem dX7_heldWarm_3 : decode cX7_heldWarm 3 = .ok (.fcmp .l, 1) := by decide +kernel
theorem dX7_heldWarm_4 : decode cX7_heldWarm 4 = .ok (.ifCond .le 8, 3) := by decide +kernel
theorem dX7_heldWarm_7 : decode cX7_heldWarm 7 = .ok (.ldc 131, 2) := by decide +kernel
theorem dX7_heldWarm_9 : decode cX7_heldWarm 9 = .ok (.goto 16, 3) := by decide +kernel
theorem dX7_heldWarm_12 : decode cX7_heldWarm 12 = .ok (.fload_n 0, 1) := by decide +kernel
theorem dX7_heldWarm_13 : decode cX7_heldWarm 13 = .ok (.ldc 132, 2) := by decide +kernel
theorem dX7_heldWarm_15 : decode cX7_heldWarm 15 = .ok (.fcmp .g, 1) := by decide +kernel
theorem dX7_heldWarm_16 : decode cX7_heldWarm 16 = .ok (.ifCond .ge 8, 3) := by decide +kernel
theorem dX7_heldWarm_19 : decode cX7_heldWarm 19 = .ok (.ldc 132, 2) := by decide +kernel
theorem dX7_heldWarm_21 : decode cX7_heldWarm 21 = .ok (.goto 4, 3) := by decide +kernel
theorem dX7_heldWarm_24 : decode cX7_heldWarm 24 = .ok (.fload_n 0, 1) := by decide +kernel
theorem dX7_heldWarm_25 : decode cX7_heldWarm 25 = .ok (.freturn, 1) := by decide +kernel
theorem dX7_leapsOf_0 : decode cX7_leapsOf 0 = .ok (.aload_n 0, 1) := by decide +kernel
theorem dX7_leapsOf_1 : decode cX7_leapsOf 1 = .ok (.getfield 20, 3) := by decide +kernel
theorem dX7_leapsOf_4 : decode cX7_leapsOf 4 = .ok (.iload_n 1, 1) := by decide +kernel
theorem dX7_leapsOf_5 : decode cX7_leapsOf 5 = .ok (.iaload, 1) := by decide +kernel
theorem dX7_leapsOf_6 : decode cX7_leapsOf 6 = .ok (.istore_n 2, 1) := by decide +kernel
theorem dX7_leapsOf_7 : decode cX7_leapsOf 7 = .ok (.iload_n 2, 1) := by decide +kernel
theorem dX7_leapsOf_8 : decode cX7_leapsOf 8 = .ok (.iconst 3, 1) := by decide +kernel
theorem dX7_leapsOf_9 : decode cX7_leapsOf 9 = .ok (.idiv, 1) := by decide +kernel
theorem dX7_leapsOf_10 : decode cX7_leapsOf 10 = .ok (.iconst 1, 1) := by decide +kernel
theorem dX7_leapsOf_11 : decode cX7_leapsOf 11 = .ok (.iadd, 1) := by decide +kernel
theorem dX7_leapsOf_12 : decode cX7_leapsOf 12 = .ok (.istore_n 3, 1) := by decide +kernel
theorem dX7_leapsOf_13 : decode cX7_leapsOf 13 = .ok (.aload_n 0, 1) := by decide +kernel
theorem dX7_leapsOf_14 : decode cX7_leapsOf 14 = .ok (.getfield 17, 3) := by decide +kernel
theorem dX7_leapsOf_17 : decode cX7_leapsOf 17 = .ok (.iload_n 1, 1) := by decide +kernel
theorem dX7_leapsOf_18 : decode cX7_leapsOf 18 = .ok (.iaload, 1) := by decide +kernel
theorem dX7_leapsOf_19 : decode cX7_leapsOf 19 = .ok (.tableswitch 70 1 7 #[41, 70, 43, 47, 49, 53, 59], 41) := by decide +kernel
theorem dX7_leapsOf_60 : decode cX7_leapsOf 60 = .ok (.iload_n 3, 1) := by decide +kernel
theorem dX7_leapsOf_61 : decode cX7_leapsOf 61 = .ok (.ireturn, 1) := by decide +kernel
theorem dX7_leapsOf_62 : decode cX7_leapsOf 62 = .ok (.iconst 2, 1) := by decide +kernel
theorem dX7_leapsOf_63 : decode cX7_leapsOf 63 = .ok (.iload_n 3, 1) := by decide +kernel
theorem dX7_leapsOf_64 : decode cX7_leapsOf 64 = .ok (.imul, 1) := by decide +kernel
theorem dX7_leapsOf_65 : decode cX7_leapsOf 65 = .ok (.ireturn, 1) := by decide +kernel
theorem dX7_leapsOf_66 : decode cX7_leapsOf 66 = .ok (.iconst 0, 1) := by decide +kernel
theorem dX7_leapsOf_67 : decode cX7_leapsOf 67 = .ok (.ireturn, 1) := by decide +kernel
theorem dX7_leapsOf_68 : decode cX7_leapsOf 68 = .ok (.iload_n 2, 1) := by decide +kernel
theorem dX7_leapsOf_69 : decode cX7_leapsOf 69 = .ok (.iconst 2, 1) := by decide +kernel
theorem dX7_leapsOf_70 : decode cX7_leapsOf 70 = .ok (.idiv, 1) := by decide +kernel
theorem dX7_leapsOf_71 : decode cX7_leapsOf 71 = .ok (.ireturn, 1) := by decide +kernel
theorem dX7_leapsOf_72 : decode cX7_leapsOf 72 = .ok (.iconst 2, 1) := by decide +kernel
theorem dX7_leapsOf_73 : decode cX7_leapsOf 73 = .ok (.iload_n 3, 1) := by decide +kernel
theorem dX7_leapsOf_74 : decode cX7_leapsOf 74 = .ok (.imul, 1) := by decide +kernel
theorem dX7_leapsOf_75 : decode cX7_leapsOf 75 = .ok (.iconst 1, 1) := by decide +kernel
theorem dX7_leapsOf_76 : decode cX7_leapsOf 76 = .ok (.iadd, 1) := by decide +kernel
theorem dX7_leapsOf_77 : decode cX7_leapsOf 77 = .ok (.ireturn, 1) := by decide +kernel
theorem dX7_leapsOf_78 : decode cX7_leapsOf 78 = .ok (.iload_n 2, 1) := by decide +kernel
theorem dX7_leapsOf_79 : decode cX7_leapsOf 79 = .ok (.iconst 2, 1) := by decide +kernel
theorem dX7_leapsOf_80 : decode cX7_leapsOf 80 = .ok (.idiv, 1) := by decide +kernel
theorem dX7_leapsOf_81 : decode cX7_leapsOf 81 = .ok (.iconst 1, 1) := by decide +kernel
theorem dX7_leapsOf_82 : decode cX7_leapsOf 82 = .ok (.isub, 1) := by decide +kernel
theorem dX7_leapsOf_83 : decode cX7_leapsOf 83 = .ok (.bipush 9, 2) := by decide +kernel
theorem dX7_leapsOf_85 : decode cX7_leapsOf 85 = .ok (.invokestatic 133, 3) := by decide +kernel
theorem dX7_leapsOf_88 : decode cX7_leapsOf 88 = .ok (.ireturn, 1) := by decide +kernel
theorem dX7_leapsOf_89 : decode cX7_leapsOf 89 = .ok (.iconst 1, 1) := by decide +kernel
theorem dX7_leapsOf_90 : decode cX7_leapsOf 90 = .ok (.ireturn, 1) := by decide +kernel
theorem dX7_gustOf_0 : decode cX7_gustOf 0 = .ok (.fload_n 0, 1) := by decide +kernel
theorem dX7_gustOf_1 : decode cX7_gustOf 1 = .ok (.ldc 137, 2) := by decide +kernel
theorem dX7_gustOf_3 : decode cX7_gustOf 3 = .ok (.fmul, 1) := by decide +kernel
theorem dX7_gustOf_4 : decode cX7_gustOf 4 = .ok (.fstore_n 1, 1) := by decide +kernel
theorem dX7_gustOf_5 : decode cX7_gustOf 5 = .ok (.fload_n 1, 1) := by decide +kernel
theorem dX7_gustOf_6 : decode cX7_gustOf 6 = .ok (.ldc 138, 2) := by decide +kernel
theorem dX7_gustOf_8 : decode cX7_gustOf 8 = .ok (.fsub, 1) := by decide +kernel
theorem dX7_gustOf_9 : decode cX7_gustOf 9 = .ok (.freturn, 1) := by decide +kernel
theorem dX7_sighOf_0 : decode cX7_sighOf 0 = .ok (.iload_n 2, 1) := by decide +kernel
theorem dX7_sighOf_1 : decode cX7_sighOf 1 = .ok (.i2f, 1) := by decide +kernel
theorem dX7_sighOf_2 : decode cX7_sighOf 2 = .ok (.ldc 139, 2) := by decide +kernel
theorem dX7_sighOf_4 : decode cX7_sighOf 4 = .ok (.fmul, 1) := by decide +kernel
theorem dX7_sighOf_5 : decode cX7_sighOf 5 = .ok (.fstore_n 3, 1) := by decide +kernel
theorem dX7_sighOf_6 : decode cX7_sighOf 6 = .ok (.fload_n 1, 1) := by decide +kernel
theorem dX7_sighOf_7 : decode cX7_sighOf 7 = .ok (.fload_n 3, 1) := by decide +kernel
theorem dX7_sighOf_8 : decode cX7_sighOf 8 = .ok (.fsub, 1) := by decide +kernel
theorem dX7_sighOf_9 : decode cX7_sighOf 9 = .ok (.freturn, 1) := by decide +kernel
theorem dX7_chilled_0 : decode cX7_chilled 0 = .ok (.fload_n 3, 1) := by decide +kernel
theorem dX7_chilled_1 : decode cX7_chilled 1 = .ok (.invokestatic 140, 3) := by decide +kernel
theorem dX7_chilled_4 : decode cX7_chilled 4 = .ok (.invokestatic 140, 3) := by decide +kernel
theorem dX7_chilled_7 : decode cX7_chilled 7 = .ok (.fstore 4, 2) := by decide +kernel
theorem dX7_chilled_9 : decode cX7_chilled 9 = .ok (.aload_n 0, 1) := by decide +kernel
theorem dX7_chilled_10 : decode cX7_chilled 10 = .ok (.fload_n 3, 1) := by decide +kernel
theorem dX7_chilled_11 : decode cX7_chilled 11 = .ok (.iload_n 2, 1) := by decide +kernel
theorem dX7_chilled_12 : decode cX7_chilled 12 = .ok (.invokevirtual 144, 3) := by decide +kernel
theorem dX7_chilled_15 : decode cX7_chilled 15 = .ok (.fstore 5, 2) := by decide +kernel
theorem dX7_chilled_17 : decode cX7_chilled 17 = .ok (.fload_n 3, 1) := by decide +kernel
theorem dX7_chilled_18 : decode cX7_chilled 18 = .ok (.iload_n 2, 1) := by decide +kernel
theorem dX7_chilled_19 : decode cX7_chilled 19 = .ok (.iconst 1, 1) := by decide +kernel
theorem dX7_chilled_20 : decode cX7_chilled 20 = .ok (.iadd, 1) := by decide +kernel
theorem dX7_chilled_21 : decode cX7_chilled 21 = .ok (.i2f, 1) := by decide +kernel
theorem dX7_chilled_22 : decode cX7_chilled 22 = .ok (.fdiv, 1) := by decide +kernel
theorem dX7_chilled_23 : decode cX7_chilled 23 = .ok (.fstore 6, 2) := by decide +kernel
theorem dX7_chilled_25 : decode cX7_chilled 25 = .ok (.iload_n 1, 1) := by decide +kernel
theorem dX7_chilled_26 : decode cX7_chilled 26 = .ok (.tableswitch 92 1 7 #[42, 47, 50, 53, 58, 61, 81], 42) := by decide +kernel
theorem dX7_chilled_68 : decode cX7_chilled 68 = .ok (.fload_n 3, 1) := by decide +kernel
theorem dX7_chilled_69 : decode cX7_chilled 69 = .ok (.invokestatic 140, 3) := by decide +kernel
theorem dX7_chilled_72 : decode cX7_chilled 72 = .ok (.freturn, 1) := by decide +kernel
theorem dX7_chilled_73 : decode cX7_chilled 73 = .ok (.fload 5, 2) := by decide +kernel
theorem dX7_chilled_75 : decode cX7_chilled 75 = .ok (.freturn, 1) := by decide +kernel
theorem dX7_chilled_76 : decode cX7_chilled 76 = .ok (.fload 4, 2) := by decide +kernel
theorem dX7_chilled_78 : decode cX7_chilled 78 = .ok (.freturn, 1) := by decide +kernel
theorem dX7_chilled_79 : decode cX7_chilled 79 = .ok (.fload 5, 2) := by decide +kernel
theorem dX7_chilled_81 : decode cX7_chilled 81 = .ok (.f2i, 1) := by decide +kernel
theorem dX7_chilled_82 : decode cX7_chilled 82 = .ok (.i2f, 1) := by decide +kernel
theorem dX7_chilled_83 : decode cX7_chilled 83 = .ok (.freturn, 1) := by decide +kernel
theorem dX7_chilled_84 : decode cX7_chilled 84 = .ok (.fload 6, 2) := by decide +kernel
theorem dX7_chilled_86 : decode cX7_chilled 86 = .ok (.freturn, 1) := by decide +kernel
theorem dX7_chilled_87 : decode cX7_chilled 87 = .ok (.aload_n 0, 1) := by decide +kernel
theorem dX7_chilled_88 : decode cX7_chilled 88 = .ok (.getfield 148, 3) := by decide +kernel
theorem dX7_chilled_91 : decode cX7_chilled 91 = .ok (.iconst 2, 1) := by decide +kernel
theorem dX7_chilled_92 : decode cX7_chilled 92 = .ok (.irem, 1) := by decide +kernel
theorem dX7_chilled_93 : decode cX7_chilled 93 = .ok (.iconst 1, 1) := by decide +kernel
theorem dX7_chilled_94 : decode cX7_chilled 94 = .ok (.if_icmp .ne 10, 3) := by decide +kernel
theorem dX7_chilled_97 : decode cX7_chilled 97 = .ok (.fload 4, 2) := by decide +kernel
theorem dX7_chilled_99 : decode cX7_chilled 99 = .ok (.fconst 1, 1) := by decide +kernel
theorem dX7_chilled_100 : decode cX7_chilled 100 = .ok (.fsub, 1) := by decide +kernel
theorem dX7_chilled_101 : decode cX7_chilled 101 = .ok (.goto 5, 3) := by decide +kernel
theorem dX7_chilled_104 : decode cX7_chilled 104 = .ok (.fload 4, 2) := by decide +kernel
theorem dX7_chilled_106 : decode cX7_chilled 106 = .ok (.freturn, 1) := by decide +kernel
theorem dX7_chilled_107 : decode cX7_chilled 107 = .ok (.fload_n 3, 1) := by decide +kernel
theorem dX7_chilled_108 : decode cX7_chilled 108 = .ok (.ldc 138, 2) := by decide +kernel
theorem dX7_chilled_110 : decode cX7_chilled 110 = .ok (.fmul, 1) := by decide +kernel
theorem dX7_chilled_111 : decode cX7_chilled 111 = .ok (.fload 6, 2) := by decide +kernel
theorem dX7_chilled_113 : decode cX7_chilled 113 = .ok (.ldc 138, 2) := by decide +kernel
theorem dX7_chilled_115 : decode cX7_chilled 115 = .ok (.fmul, 1) := by decide +kernel
theorem dX7_chilled_116 : decode cX7_chilled 116 = .ok (.fadd, 1) := by decide +kernel
theorem dX7_chilled_117 : decode cX7_chilled 117 = .ok (.freturn, 1) := by decide +kernel
theorem dX7_chilled_118 : decode cX7_chilled 118 = .ok (.fload_n 3, 1) := by decide +kernel
theorem dX7_chilled_119 : decode cX7_chilled 119 = .ok (.ldc 137, 2) := by decide +kernel
theorem dX7_chilled_121 : decode cX7_chilled 121 = .ok (.fmul, 1) := by decide +kernel
theorem dX7_chilled_122 : decode cX7_chilled 122 = .ok (.freturn, 1) := by decide +kernel
theorem dX7_stepped_0 : decode cX7_stepped 0 = .ok (.iload_n 0, 1) := by decide +kernel
theorem dX7_stepped_1 : decode cX7_stepped 1 = .ok (.tableswitch 93 0 5 #[39, 48, 55, 62, 69, 81], 39) := by decide +kernel
theorem dX7_stepped_40 : decode cX7_stepped 40 = .ok (.fload_n 2, 1) := by decide +kernel
theorem dX7_stepped_41 : decode cX7_stepped 41 = .ok (.fload_n 1, 1) := by decide +kernel
theorem dX7_stepped_42 : decode cX7_stepped 42 = .ok (.fload_n 2, 1) := by decide +kernel
theorem dX7_stepped_43 : decode cX7_stepped 43 = .ok (.fsub, 1) := by decide +kernel
theorem dX7_stepped_44 : decode cX7_stepped 44 = .ok (.ldc 139, 2) := by decide +kernel
theorem dX7_stepped_46 : decode cX7_stepped 46 = .ok (.fmul, 1) := by decide +kernel
theorem dX7_stepped_47 : decode cX7_stepped 47 = .ok (.fadd, 1) := by decide +kernel
theorem dX7_stepped_48 : decode cX7_stepped 48 = .ok (.freturn, 1) := by decide +kernel
theorem dX7_stepped_49 : decode cX7_stepped 49 = .ok (.fload_n 2, 1) := by decide +kernel
theorem dX7_stepped_50 : decode cX7_stepped 50 = .ok (.fload_n 1, 1) := by decide +kernel
theorem dX7_stepped_51 : decode cX7_stepped 51 = .ok (.ldc 118, 2) := by decide +kernel
theorem dX7_stepped_53 : decode cX7_stepped 53 = .ok (.fdiv, 1) := by decide +kernel
theorem dX7_stepped_54 : decode cX7_stepped 54 = .ok (.fmul, 1) := by decide +kernel
theorem dX7_stepped_55 : decode cX7_stepped 55 = .ok (.freturn, 1) := by decide +kernel
theorem dX7_stepped_56 : decode cX7_stepped 56 = .ok (.fload_n 2, 1) := by decide +kernel
theorem dX7_stepped_57 : decode cX7_stepped 57 = .ok (.fload_n 1, 1) := by decide +kernel
theorem dX7_stepped_58 : decode cX7_stepped 58 = .ok (.ldc 151, 2) := by decide +kernel
theorem dX7_stepped_60 : decode cX7_stepped 60 = .ok (.fdiv, 1) := by decide +kernel
theorem dX7_stepped_61 : decode cX7_stepped 61 = .ok (.fadd, 1) := by decide +kernel
theorem dX7_stepped_62 : decode cX7_stepped 62 = .ok (.freturn, 1) := by decide +kernel
theorem dX7_stepped_63 : decode cX7_stepped 63 = .ok (.fload_n 2, 1) := by decide +kernel
theorem dX7_stepped_64 : decode cX7_stepped 64 = .ok (.fload_n 1, 1) := by decide +kernel
theorem dX7_stepped_65 : decode cX7_stepped 65 = .ok (.ldc 151, 2) := by decide +kernel
theorem dX7_stepped_67 : decode cX7_stepped 67 = .ok (.fdiv, 1) := by decide +kernel
theorem dX7_stepped_68 : decode cX7_stepped 68 = .ok (.fsub, 1) := by decide +kernel
theorem dX7_stepped_69 : decode cX7_stepped 69 = .ok (.freturn, 1) := by decide +kernel
theorem dX7_stepped_70 : decode cX7_stepped 70 = .ok (.fload_n 2, 1) := by decide +kernel
theorem dX7_stepped_71 : decode cX7_stepped 71 = .ok (.fload_n 1, 1) := by decide +kernel
theorem dX7_stepped_72 : decode cX7_stepped 72 = .ok (.fcmp .g, 1) := by decide +kernel
theorem dX7_stepped_73 : decode cX7_stepped 73 = .ok (.ifCond .ge 7, 3) := by decide +kernel
theorem dX7_stepped_76 : decode cX7_stepped 76 = .ok (.fload_n 1, 1) := by decide +kernel
theorem dX7_stepped_77 : decode cX7_stepped 77 = .ok (.goto 4, 3) := by decide +kernel
theorem dX7_stepped_80 : decode cX7_stepped 80 = .ok (.fload_n 2, 1) := by decide +kernel
theorem dX7_stepped_81 : decode cX7_stepped 81 = .ok (.freturn, 1) := by decide +kernel
theorem dX7_stepped_82 : decode cX7_stepped 82 = .ok (.fload_n 2, 1) := by decide +kernel
theorem dX7_stepped_83 : decode cX7_stepped 83 = .ok (.fload_n 1, 1) := by decide +kernel
theorem dX7_stepped_84 : decode cX7_stepped 84 = .ok (.fcmp .l, 1) := by decide +kernel
theorem dX7_stepped_85 : decode cX7_stepped 85 = .ok (.ifCond .le 7, 3) := by decide +kernel
theorem dX7_stepped_88 : decode cX7_stepped 88 = .ok (.fload_n 1, 1) := by decide +kernel
theorem dX7_stepped_89 : decode cX7_stepped 89 = .ok (.goto 4, 3) := by decide +kernel
theorem dX7_stepped_92 : decode cX7_stepped 92 = .ok (.fload_n 2, 1) := by decide +kernel
theorem dX7_stepped_93 : decode cX7_stepped 93 = .ok (.freturn, 1) := by decide +kernel
theorem dX7_stepped_94 : decode cX7_stepped 94 = .ok (.fload_n 2, 1) := by decide +kernel
theorem dX7_stepped_95 : decode cX7_stepped 95 = .ok (.f2i, 1) := by decide +kernel
theorem dX7_stepped_96 : decode cX7_stepped 96 = .ok (.i2f, 1) := by decide +kernel
theorem dX7_stepped_97 : decode cX7_stepped 97 = .ok (.freturn, 1) := by decide +kernel
theorem dX7_airOn_0 : decode cX7_airOn 0 = .ok (.bipush (-9), 2) := by decide +kernel
theorem dX7_airOn_2 : decode cX7_airOn 2 = .ok (.istore_n 2, 1) := by decide +kernel
theorem dX7_airOn_3 : decode cX7_airOn 3 = .ok (.aload_n 0, 1) := by decide +kernel
theorem dX7_airOn_4 : decode cX7_airOn 4 = .ok (.getfield 119, 3) := by decide +kernel
theorem dX7_airOn_7 : decode cX7_airOn 7 = .ok (.iconst 1, 1) := by decide +kernel
theorem dX7_airOn_8 : decode cX7_airOn 8 = .ok (.isub, 1) := by decide +kernel
theorem dX7_airOn_9 : decode cX7_airOn 9 = .ok (.istore_n 3, 1) := by decide +kernel
theorem dX7_airOn_10 : decode cX7_airOn 10 = .ok (.iload_n 3, 1) := by decide +kernel
theorem dX7_airOn_11 : decode cX7_airOn 11 = .ok (.ifCond .lt 25, 3) := by decide +kernel
theorem dX7_airOn_14 : decode cX7_airOn 14 = .ok (.aload_n 0, 1) := by decide +kernel
theorem dX7_airOn_15 : decode cX7_airOn 15 = .ok (.getfield 23, 3) := by decide +kernel
theorem dX7_airOn_18 : decode cX7_airOn 18 = .ok (.iload_n 3, 1) := by decide +kernel
theorem dX7_airOn_19 : decode cX7_airOn 19 = .ok (.iaload, 1) := by decide +kernel
theorem dX7_airOn_20 : decode cX7_airOn 20 = .ok (.iload_n 1, 1) := by decide +kernel
theorem dX7_airOn_21 : decode cX7_airOn 21 = .ok (.if_icmp .ne 7, 3) := by decide +kernel
theorem dX7_airOn_24 : decode cX7_airOn 24 = .ok (.iload_n 3, 1) := by decide +kernel
theorem dX7_airOn_25 : decode cX7_airOn 25 = .ok (.goto 4, 3) := by decide +kernel
theorem dX7_airOn_28 : decode cX7_airOn 28 = .ok (.iload_n 2, 1) := by decide +kernel
theorem dX7_airOn_29 : decode cX7_airOn 29 = .ok (.istore_n 2, 1) := by decide +kernel
theorem dX7_airOn_30 : decode cX7_airOn 30 = .ok (.iinc 3 (-1), 3) := by decide +kernel
theorem dX7_airOn_33 : decode cX7_airOn 33 = .ok (.goto (-23), 3) := by decide +kernel
theorem dX7_airOn_36 : decode cX7_airOn 36 = .ok (.iload_n 2, 1) := by decide +kernel
theorem dX7_airOn_37 : decode cX7_airOn 37 = .ok (.ireturn, 1) := by decide +kernel
theorem dX7_sitterOn_0 : decode cX7_sitterOn 0 = .ok (.bipush (-9), 2) := by decide +kernel
theorem dX7_sitterOn_2 : decode cX7_sitterOn 2 = .ok (.istore_n 2, 1) := by decide +kernel
theorem dX7_sitterOn_3 : decode cX7_sitterOn 3 = .ok (.aload_n 0, 1) := by decide +kernel
theorem dX7_sitterOn_4 : decode cX7_sitterOn 4 = .ok (.getfield 126, 3) := by decide +kernel
theorem dX7_sitterOn_7 : decode cX7_sitterOn 7 = .ok (.iconst 1, 1) := by decide +kernel
theorem dX7_sitterOn_8 : decode cX7_sitterOn 8 = .ok (.isub, 1) := by decide +kernel
theorem dX7_sitterOn_9 : decode cX7_sitterOn 9 = .ok (.istore_n 3, 1) := by decide +kernel
theorem dX7_sitterOn_10 : decode cX7_sitterOn 10 = .ok (.iload_n 3, 1) := by decide +kernel
theorem dX7_sitterOn_11 : decode cX7_sitterOn 11 = .ok (.ifCond .lt 35, 3) := by decide +kernel
theorem dX7_sitterOn_14 : decode cX7_sitterOn 14 = .ok (.aload_n 0, 1) := by decide +kernel
theorem dX7_sitterOn_15 : decode cX7_sitterOn 15 = .ok (.getfield 32, 3) := by decide +kernel
theorem dX7_sitterOn_18 : decode cX7_sitterOn 18 = .ok (.iload_n 3, 1) := by decide +kernel
theorem dX7_sitterOn_19 : decode cX7_sitterOn 19 = .ok (.iaload, 1) := by decide +kernel
theorem dX7_sitterOn_20 : decode cX7_sitterOn 20 = .ok (.iload_n 1, 1) := by decide +kernel
theorem dX7_sitterOn_21 : decode cX7_sitterOn 21 = .ok (.if_icmp .ne 17, 3) := by decide +kernel
theorem dX7_sitterOn_24 : decode cX7_sitterOn 24 = .ok (.aload_n 0, 1) := by decide +kernel
theorem dX7_sitterOn_25 : decode cX7_sitterOn 25 = .ok (.getfield 38, 3) := by decide +kernel
theorem dX7_sitterOn_28 : decode cX7_sitterOn 28 = .ok (.iload_n 3, 1) := by decide +kernel
theorem dX7_sitterOn_29 : decode cX7_sitterOn 29 = .ok (.iaload, 1) := by decide +kernel
theorem dX7_sitterOn_30 : decode cX7_sitterOn 30 = .ok (.iconst 1, 1) := by decide +kernel
theorem dX7_sitterOn_31 : decode cX7_sitterOn 31 = .ok (.if_icmp .ne 7, 3) := by decide +kernel
theorem dX7_sitterOn_34 : decode cX7_sitterOn 34 = .ok (.iload_n 3, 1) := by decide +kernel
theorem dX7_sitterOn_35 : decode cX7_sitterOn 35 = .ok (.goto 4, 3) := by decide +kernel
theorem dX7_sitterOn_38 : decode cX7_sitterOn 38 = .ok (.iload_n 2, 1) := by decide +kernel
theorem dX7_sitterOn_39 : decode cX7_sitterOn 39 = .ok (.istore_n 2, 1) := by decide +kernel
theorem dX7_sitterOn_40 : decode cX7_sitterOn 40 = .ok (.iinc 3 (-1), 3) := by decide +kernel
theorem dX7_sitterOn_43 : decode cX7_sitterOn 43 = .ok (.goto (-33), 3) := by decide +kernel
theorem dX7_sitterOn_46 : decode cX7_sitterOn 46 = .ok (.iload_n 2, 1) := by decide +kernel
theorem dX7_sitterOn_47 : decode cX7_sitterOn 47 = .ok (.ireturn, 1) := by decide +kernel
theorem dX7_isEmpty_0 : decode cX7_isEmpty 0 = .ok (.aload_n 0, 1) := by decide +kernel
theorem dX7_isEmpty_1 : decode cX7_isEmpty 1 = .ok (.iload_n 1, 1) := by decide +kernel
theorem dX7_isEmpty_2 : decode cX7_isEmpty 2 = .ok (.invokevirtual 152, 3) := by decide +kernel
theorem dX7_isEmpty_5 : decode cX7_isEmpty 5 = .ok (.ifCond .ge 15, 3) := by decide +kernel
theorem dX7_isEmpty_8 : decode cX7_isEmpty 8 = .ok (.aload_n 0, 1) := by decide +kernel
theorem dX7_isEmpty_9 : decode cX7_isEmpty 9 = .ok (.iload_n 1, 1) := by decide +kernel
theorem dX7_isEmpty_10 : decode cX7_isEmpty 10 = .ok (.invokevirtual 156, 3) := by decide +kernel
theorem dX7_isEmpty_13 : decode cX7_isEmpty 13 = .ok (.ifCond .ge 7, 3) := by decide +kernel
theorem dX7_isEmpty_16 : decode cX7_isEmpty 16 = .ok (.iconst 1, 1) := by decide +kernel
theorem dX7_isEmpty_17 : decode cX7_isEmpty 17 = .ok (.goto 4, 3) := by decide +kernel
theorem dX7_isEmpty_20 : decode cX7_isEmpty 20 = .ok (.iconst 0, 1) := by decide +kernel
theorem dX7_isEmpty_21 : decode cX7_isEmpty 21 = .ok (.ireturn, 1) := by decide +kernel
theorem dX7_isFree_0 : decode cX7_isFree 0 = .ok (.aload_n 0, 1) := by decide +kernel
theorem dX7_isFree_1 : decode cX7_isFree 1 = .ok (.getfield 13, 3) := by decide +kernel
theorem dX7_isFree_4 : decode cX7_isFree 4 = .ok (.iload_n 1, 1) := by decide +kernel
theorem dX7_isFree_5 : decode cX7_isFree 5 = .ok (.iaload, 1) := by decide +kernel
theorem dX7_isFree_6 : decode cX7_isFree 6 = .ok (.ifCond .ne 15, 3) := by decide +kernel
theorem dX7_isFree_9 : decode cX7_isFree 9 = .ok (.aload_n 0, 1) := by decide +kernel
theorem dX7_isFree_10 : decode cX7_isFree 10 = .ok (.iload_n 1, 1) := by decide +kernel
theorem dX7_isFree_11 : decode cX7_isFree 11 = .ok (.invokevirtual 159, 3) := by decide +kernel
theorem dX7_isFree_14 : decode cX7_isFree 14 = .ok (.ifCond .eq 7, 3) := by decide +kernel
theorem dX7_isFree_17 : decode cX7_isFree 17 = .ok (.iconst 1, 1) := by decide +kernel
theorem dX7_isFree_18 : decode cX7_isFree 18 = .ok (.goto 4, 3) := by decide +kernel
theorem dX7_isFree_21 : decode cX7_isFree 21 = .ok (.iconst 0, 1) := by decide +kernel
theorem dX7_isFree_22 : decode cX7_isFree 22 = .ok (.ireturn, 1) := by decide +kernel
theorem dX7_awayOf_0 : decode cX7_awayOf 0 = .ok (.iload_n 0, 1) := by decide +kernel
theorem dX7_awayOf_1 : decode cX7_awayOf 1 = .ok (.bipush 6, 2) := by decide +kernel
theorem dX7_awayOf_3 : decode cX7_awayOf 3 = .ok (.idiv, 1) := by decide +kernel
theorem dX7_awayOf_4 : decode cX7_awayOf 4 = .ok (.iload_n 1, 1) := by decide +kernel
theorem dX7_awayOf_5 : decode cX7_awayOf 5 = .ok (.iconst 1, 1) := by decide +kernel
theorem dX7_awayOf_6 : decode cX7_awayOf 6 = .ok (.if_icmp .eq 8, 3) := by decide +kernel
theorem dX7_awayOf_9 : decode cX7_awayOf 9 = .ok (.iload_n 1, 1) := by decide +kernel
theorem dX7_awayOf_10 : decode cX7_awayOf 10 = .ok (.iconst 2, 1) := by decide +kernel
theorem dX7_awayOf_11 : decode cX7_awayOf 11 = .ok (.if_icmp .ne 7, 3) := by decide +kernel
theorem dX7_awayOf_14 : decode cX7_awayOf 14 = .ok (.iload_n 2, 1) := by decide +kernel
theorem dX7_awayOf_15 : decode cX7_awayOf 15 = .ok (.goto 5, 3) := by decide +kernel
theorem dX7_awayOf_18 : decode cX7_awayOf 18 = .ok (.iload_n 2, 1) := by decide +kernel
theorem dX7_awayOf_19 : decode cX7_awayOf 19 = .ok (.ineg, 1) := by decide +kernel
theorem dX7_awayOf_20 : decode cX7_awayOf 20 = .ok (.iadd, 1) := by decide +kernel
theorem dX7_awayOf_21 : decode cX7_awayOf 21 = .ok (.istore_n 3, 1) := by decide +kernel
theorem dX7_awayOf_22 : decode cX7_awayOf 22 = .ok (.iload_n 0, 1) := by decide +kernel
theorem dX7_awayOf_23 : decode cX7_awayOf 23 = .ok (.bipush 6, 2) := by decide +kernel
theorem dX7_awayOf_25 : decode cX7_awayOf 25 = .ok (.irem, 1) := by decide +kernel
theorem dX7_awayOf_26 : decode cX7_awayOf 26 = .ok (.iload_n 1, 1) := by decide +kernel
theorem dX7_awayOf_27 : decode cX7_awayOf 27 = .ok (.iconst 2, 1) := by decide +kernel
theorem dX7_awayOf_28 : decode cX7_awayOf 28 = .ok (.if_icmp .ge 7, 3) := by decide +kernel
theorem dX7_awayOf_31 : decode cX7_awayOf 31 = .ok (.iload_n 2, 1) := by decide +kernel
theorem dX7_awayOf_32 : decode cX7_awayOf 32 = .ok (.goto 5, 3) := by decide +kernel
theorem dX7_awayOf_35 : decode cX7_awayOf 35 = .ok (.iload_n 2, 1) := by decide +kernel
theorem dX7_awayOf_36 : decode cX7_awayOf 36 = .ok (.ineg, 1) := by decide +kernel
theorem dX7_awayOf_37 : decode cX7_awayOf 37 = .ok (.iadd, 1) := by decide +kernel
theorem dX7_awayOf_38 : decode cX7_awayOf 38 = .ok (.istore 4, 2) := by decide +kernel
theorem dX7_awayOf_40 : decode cX7_awayOf 40 = .ok (.iload_n 3, 1) := by decide +kernel
theorem dX7_awayOf_41 : decode cX7_awayOf 41 = .ok (.i2l, 1) := by decide +kernel
theorem dX7_awayOf_42 : decode cX7_awayOf 42 = .ok (.lconst 0, 1) := by decide +kernel
theorem dX7_awayOf_43 : decode cX7_awayOf 43 = .ok (.ldc2_w 163, 3) := by decide +kernel
theorem dX7_awayOf_46 : decode cX7_awayOf 46 = .ok (.invokestatic 122, 3) := by decide +kernel
theorem dX7_awayOf_49 : decode cX7_awayOf 49 = .ok (.ifCond .eq 26, 3) := by decide +kernel
theorem dX7_awayOf_52 : decode cX7_awayOf 52 = .ok (.iload 4, 2) := by decide +kernel
theorem dX7_awayOf_54 : decode cX7_awayOf 54 = .ok (.i2l, 1) := by decide +kernel
theorem dX7_awayOf_55 : decode cX7_awayOf 55 = .ok (.lconst 0, 1) := by decide +kernel
theorem dX7_awayOf_56 : decode cX7_awayOf 56 = .ok (.ldc2_w 163, 3) := by decide +kernel
theorem dX7_awayOf_59 : decode cX7_awayOf 59 = .ok (.invokestatic 122, 3) := by decide +kernel
theorem dX7_awayOf_62 : decode cX7_awayOf 62 = .ok (.ifCond .eq 13, 3) := by decide +kernel
theorem dX7_awayOf_65 : decode cX7_awayOf 65 = .ok (.bipush 6, 2) := by decide +kernel
theorem dX7_awayOf_67 : decode cX7_awayOf 67 = .ok (.iload_n 3, 1) := by decide +kernel
theorem dX7_awayOf_68 : decode cX7_awayOf 68 = .ok (.imul, 1) := by decide +kernel
theorem dX7_awayOf_69 : decode cX7_awayOf 69 = .ok (.iload 4, 2) := by decide +kernel
theorem dX7_awayOf_71 : decode cX7_awayOf 71 = .ok (.iadd, 1) := by decide +kernel
theorem dX7_awayOf_72 : decode cX7_awayOf 72 = .ok (.goto 4, 3) := by decide +kernel
theorem dX7_awayOf_75 : decode cX7_awayOf 75 = .ok (.iconst (-1), 1) := by decide +kernel
theorem dX7_awayOf_76 : decode cX7_awayOf 76 = .ok (.ireturn, 1) := by decide +kernel
theorem dX7_onBits_0 : decode cX7_onBits 0 = .ok (.iconst 0, 1) := by decide +kernel
theorem dX7_onBits_1 : decode cX7_onBits 1 = .ok (.istore_n 1, 1) := by decide +kernel
theorem dX7_onBits_2 : decode cX7_onBits 2 = .ok (.iconst 0, 1) := by decide +kernel
theorem dX7_onBits_3 : decode cX7_onBits 3 = .ok (.istore_n 2, 1) := by decide +kernel
theorem dX7_onBits_4 : decode cX7_onBits 4 = .ok (.iload_n 2, 1) := by decide +kernel
theorem dX7_onBits_5 : decode cX7_onBits 5 = .ok (.aload_n 0, 1) := by decide +kernel
theorem dX7_onBits_6 : decode cX7_onBits 6 = .ok (.getfield 126, 3) := by decide +kernel
theorem dX7_onBits_9 : decode cX7_onBits 9 = .ok (.if_icmp .ge 20, 3) := by decide +kernel
theorem dX7_onBits_12 : decode cX7_onBits 12 = .ok (.iload_n 1, 1) := by decide +kernel
theorem dX7_onBits_13 : decode cX7_onBits 13 = .ok (.aload_n 0, 1) := by decide +kernel
theorem dX7_onBits_14 : decode cX7_onBits 14 = .ok (.getfield 38, 3) := by decide +kernel
theorem dX7_onBits_17 : decode cX7_onBits 17 = .ok (.iload_n 2, 1) := by decide +kernel
theorem dX7_onBits_18 : decode cX7_onBits 18 = .ok (.iaload, 1) := by decide +kernel
theorem dX7_onBits_19 : decode cX7_onBits 19 = .ok (.iload_n 2, 1) := by decide +kernel
theorem dX7_onBits_20 : decode cX7_onBits 20 = .ok (.ishl, 1) := by decide +kernel
theorem dX7_onBits_21 : decode cX7_onBits 21 = .ok (.ior, 1) := by decide +kernel
theorem dX7_onBits_22 : decode cX7_onBits 22 = .ok (.istore_n 1, 1) := by decide +kernel
theorem dX7_onBits_23 : decode cX7_onBits 23 = .ok (.iinc 2 1, 3) := by decide +kernel
theorem dX7_onBits_26 : decode cX7_onBits 26 = .ok (.goto (-22), 3) := by decide +kernel
theorem dX7_onBits_29 : decode cX7_onBits 29 = .ok (.iload_n 1, 1) := by decide +kernel
theorem dX7_onBits_30 : decode cX7_onBits 30 = .ok (.ireturn, 1) := by decide +kernel
theorem dX7_airComes_0 : decode cX7_airComes 0 = .ok (.aload_n 0, 1) := by decide +kernel
theorem dX7_airComes_1 : decode cX7_airComes 1 = .ok (.getfield 23, 3) := by decide +kernel
theorem dX7_airComes_4 : decode cX7_airComes 4 = .ok (.iload_n 1, 1) := by decide +kernel
theorem dX7_airComes_5 : decode cX7_airComes 5 = .ok (.iload_n 2, 1) := by decide +kernel
theorem dX7_airComes_6 : decode cX7_airComes 6 = .ok (.iastore, 1) := by decide +kernel
theorem dX7_airComes_7 : decode cX7_airComes 7 = .ok (.aload_n 0, 1) := by decide +kernel
theorem dX7_airComes_8 : decode cX7_airComes 8 = .ok (.getfield 26, 3) := by decide +kernel
theorem dX7_airComes_11 : decode cX7_airComes 11 = .ok (.iload_n 1, 1) := by decide +kernel
theorem dX7_airComes_12 : decode cX7_airComes 12 = .ok (.iload_n 3, 1) := by decide +kernel
theorem dX7_airComes_13 : decode cX7_airComes 13 = .ok (.iastore, 1) := by decide +kernel
theorem dX7_airComes_14 : decode cX7_airComes 14 = .ok (.aload_n 0, 1) := by decide +kernel
theorem dX7_airComes_15 : decode cX7_airComes 15 = .ok (.getfield 7, 3) := by decide +kernel
theorem dX7_airComes_18 : decode cX7_airComes 18 = .ok (.iload_n 2, 1) := by decide +kernel
theorem dX7_airComes_19 : decode cX7_airComes 19 = .ok (.aload_n 0, 1) := by decide +kernel
theorem dX7_airComes_20 : decode cX7_airComes 20 = .ok (.aload_n 0, 1) := by decide +kernel
theorem dX7_airComes_21 : decode cX7_airComes 21 = .ok (.getfield 17, 3) := by decide +kernel
theorem dX7_airComes_24 : decode cX7_airComes 24 = .ok (.iload_n 1, 1) := by decide +kernel
theorem dX7_airComes_25 : decode cX7_airComes 25 = .ok (.iaload, 1) := by decide +kernel
theorem dX7_airComes_26 : decode cX7_airComes 26 = .ok (.aload_n 0, 1) := by decide +kernel
theorem dX7_airComes_27 : decode cX7_airComes 27 = .ok (.getfield 20, 3) := by decide +kernel
theorem dX7_airComes_30 : decode cX7_airComes 30 = .ok (.iload_n 1, 1) := by decide +kernel
theorem dX7_airComes_31 : decode cX7_airComes 31 = .ok (.iaload, 1) := by decide +kernel
theorem dX7_airComes_32 : decode cX7_airComes 32 = .ok (.aload_n 0, 1) := by decide +kernel
theorem dX7_airComes_33 : decode cX7_airComes 33 = .ok (.getfield 7, 3) := by decide +kernel
theorem dX7_airComes_36 : decode cX7_airComes 36 = .ok (.iload_n 2, 1) := by decide +kernel
theorem dX7_airComes_37 : decode cX7_airComes 37 = .ok (.faload, 1) := by decide +kernel
theorem dX7_airComes_38 : decode cX7_airComes 38 = .ok (.invokevirtual 165, 3) := by decide +kernel
theorem dX7_airComes_41 : decode cX7_airComes 41 = .ok (.invokestatic 169, 3) := by decide +kernel
theorem dX7_airComes_44 : decode cX7_airComes 44 = .ok (.fastore, 1) := by decide +kernel
theorem dX7_airComes_45 : decode cX7_airComes 45 = .ok (.return_, 1) := by decide +kernel
theorem dX7_triesOf_0 : decode cX7_triesOf 0 = .ok (.iload_n 0, 1) := by decide +kernel
theorem dX7_triesOf_1 : decode cX7_triesOf 1 = .ok (.iconst 1, 1) := by decide +kernel
theorem dX7_triesOf_2 : decode cX7_triesOf 2 = .ok (.if_icmp .ne 7, 3) := by decide +kernel
theorem dX7_triesOf_5 : decode cX7_triesOf 5 = .ok (.iconst 4, 1) := by decide +kernel
theorem dX7_triesOf_6 : decode cX7_triesOf 6 = .ok (.goto 4, 3) := by decide +kernel
theorem dX7_triesOf_9 : decode cX7_triesOf 9 = .ok (.iconst 2, 1) := by decide +kernel
theorem dX7_triesOf_10 : decode cX7_triesOf 10 = .ok (.ireturn, 1) := by decide +kernel
theorem dX7_leapsOnce_0 : decode cX7_leapsOnce 0 = .ok (.iconst 0, 1) := by decide +kernel
theorem dX7_leapsOnce_1 : decode cX7_leapsOnce 1 = .ok (.istore_n 2, 1) := by decide +kernel
theorem dX7_leapsOnce_2 : decode cX7_leapsOnce 2 = .ok (.iload_n 2, 1) := by decide +kernel
theorem dX7_leapsOnce_3 : decode cX7_leapsOnce 3 = .ok (.aload_n 0, 1) := by decide +kernel
theorem dX7_leapsOnce_4 : decode cX7_leapsOnce 4 = .ok (.getfield 29, 3) := by decide +kernel
theorem dX7_leapsOnce_7 : decode cX7_leapsOnce 7 = .ok (.iload_n 1, 1) := by decide +kernel
theorem dX7_leapsOnce_8 : decode cX7_leapsOnce 8 = .ok (.iaload, 1) := by decide +kernel
theorem dX7_leapsOnce_9 : decode cX7_leapsOnce 9 = .ok (.invokestatic 172, 3) := by decide +kernel
theorem dX7_leapsOnce_12 : decode cX7_leapsOnce 12 = .ok (.if_icmp .ge 147, 3) := by decide +kernel
theorem dX7_leapsOnce_15 : decode cX7_leapsOnce 15 = .ok (.aload_n 0, 1) := by decide +kernel
theorem dX7_leapsOnce_16 : decode cX7_leapsOnce 16 = .ok (.getfield 26, 3) := by decide +kernel
theorem dX7_leapsOnce_19 : decode cX7_leapsOnce 19 = .ok (.iload_n 1, 1) := by decide +kernel
theorem dX7_leapsOnce_20 : decode cX7_leapsOnce 20 = .ok (.iaload, 1) := by decide +kernel
theorem dX7_leapsOnce_21 : decode cX7_leapsOnce 21 = .ok (.iload_n 2, 1) := by decide +kernel
theorem dX7_leapsOnce_22 : decode cX7_leapsOnce 22 = .ok (.iadd, 1) := by decide +kernel
theorem dX7_leapsOnce_23 : decode cX7_leapsOnce 23 = .ok (.iconst 4, 1) := by decide +kernel
theorem dX7_leapsOnce_24 : decode cX7_leapsOnce 24 = .ok (.irem, 1) := by decide +kernel
theorem dX7_leapsOnce_25 : decode cX7_leapsOnce 25 = .ok (.istore_n 3, 1) := by decide +kernel
theorem dX7_leapsOnce_26 : decode cX7_leapsOnce 26 = .ok (.aload_n 0, 1) := by decide +kernel
theorem dX7_leapsOnce_27 : decode cX7_leapsOnce 27 = .ok (.getfield 23, 3) := by decide +kernel
theorem dX7_leapsOnce_30 : decode cX7_leapsOnce 30 = .ok (.iload_n 1, 1) := by decide +kernel
theorem dX7_leapsOnce_31 : decode cX7_leapsOnce 31 = .ok (.iaload, 1) := by decide +kernel
theorem dX7_leapsOnce_32 : decode cX7_leapsOnce 32 = .ok (.iload_n 3, 1) := by decide +kernel
theorem dX7_leapsOnce_33 : decode cX7_leapsOnce 33 = .ok (.iconst 1, 1) := by decide +kernel
theorem dX7_leapsOnce_34 : decode cX7_leapsOnce 34 = .ok (.invokestatic 175, 3) := by decide +kernel
theorem dX7_leapsOnce_37 : decode cX7_leapsOnce 37 = .ok (.istore 4, 2) := by decide +kernel
theorem dX7_leapsOnce_39 : decode cX7_leapsOnce 39 = .ok (.aload_n 0, 1) := by decide +kernel
theorem dX7_leapsOnce_40 : decode cX7_leapsOnce 40 = .ok (.getfield 23, 3) := by decide +kernel
theorem dX7_leapsOnce_43 : decode cX7_leapsOnce 43 = .ok (.iload_n 1, 1) := by decide +kernel
theorem dX7_leapsOnce_44 : decode cX7_leapsOnce 44 = .ok (.iaload, 1) := by decide +kernel
theorem dX7_leapsOnce_45 : decode cX7_leapsOnce 45 = .ok (.iload_n 3, 1) := by decide +kernel
theorem dX7_leapsOnce_46 : decode cX7_leapsOnce 46 = .ok (.iconst 2, 1) := by decide +kernel
theorem dX7_leapsOnce_47 : decode cX7_leapsOnce 47 = .ok (.invokestatic 175, 3) := by decide +kernel
theorem dX7_leapsOnce_50 : decode cX7_leapsOnce 50 = .ok (.istore 5, 2) := by decide +kernel
theorem dX7_leapsOnce_52 : decode cX7_leapsOnce 52 = .ok (.iload 5, 2) := by decide +kernel
theorem dX7_leapsOnce_54 : decode cX7_leapsOnce 54 = .ok (.ifCond .ge 8, 3) := by decide +kernel
theorem dX7_leapsOnce_57 : decode cX7_leapsOnce 57 = .ok (.bipush (-9), 2) := by decide +kernel
theorem dX7_leapsOnce_59 : decode cX7_leapsOnce 59 = .ok (.goto 9, 3) := by decide +kernel
theorem dX7_leapsOnce_62 : decode cX7_leapsOnce 62 = .ok (.aload_n 0, 1) := by decide +kernel
theorem dX7_leapsOnce_63 : decode cX7_leapsOnce 63 = .ok (.iload 4, 2) := by decide +kernel
theorem dX7_leapsOnce_65 : decode cX7_leapsOnce 65 = .ok (.invokevirtual 156, 3) := by decide +kernel
theorem dX7_leapsOnce_68 : decode cX7_leapsOnce 68 = .ok (.istore 6, 2) := by decide +kernel
theorem dX7_leapsOnce_70 : decode cX7_leapsOnce 70 = .ok (.iload 6, 2) := by decide +kernel
theorem dX7_leapsOnce_72 : decode cX7_leapsOnce 72 = .ok (.ifCond .lt 81, 3) := by decide +kernel
theorem dX7_leapsOnce_75 : decode cX7_leapsOnce 75 = .ok (.aload_n 0, 1) := by decide +kernel
theorem dX7_leapsOnce_76 : decode cX7_leapsOnce 76 = .ok (.iload 5, 2) := by decide +kernel
theorem dX7_leapsOnce_78 : decode cX7_leapsOnce 78 = .ok (.invokevirtual 179, 3) := by decide +kernel
theorem dX7_leapsOnce_81 : decode cX7_leapsOnce 81 = .ok (.ifCond .eq 72, 3) := by decide +kernel
theorem dX7_leapsOnce_84 : decode cX7_leapsOnce 84 = .ok (.aload_n 0, 1) := by decide +kernel
theorem dX7_leapsOnce_85 : decode cX7_leapsOnce 85 = .ok (.aload_n 0, 1) := by decide +kernel
theorem dX7_leapsOnce_86 : decode cX7_leapsOnce 86 = .ok (.getfield 182, 3) := by decide +kernel
theorem dX7_leapsOnce_89 : decode cX7_leapsOnce 89 = .ok (.iconst 1, 1) := by decide +kernel
theorem dX7_leapsOnce_90 : decode cX7_leapsOnce 90 = .ok (.iadd, 1) := by decide +kernel
theorem dX7_leapsOnce_91 : decode cX7_leapsOnce 91 = .ok (.sipush 9999, 3) := by decide +kernel
theorem dX7_leapsOnce_94 : decode cX7_leapsOnce 94 = .ok (.invokestatic 133, 3) := by decide +kernel
theorem dX7_leapsOnce_97 : decode cX7_leapsOnce 97 = .ok (.putfield 182, 3) := by decide +kernel
theorem dX7_leapsOnce_100 : decode cX7_leapsOnce 100 = .ok (.aload_n 0, 1) := by decide +kernel
theorem dX7_leapsOnce_101 : decode cX7_leapsOnce 101 = .ok (.getfield 38, 3) := by decide +kernel
theorem dX7_leapsOnce_104 : decode cX7_leapsOnce 104 = .ok (.iload 6, 2) := by decide +kernel
theorem dX7_leapsOnce_106 : decode cX7_leapsOnce 106 = .ok (.aload_n 0, 1) := by decide +kernel
theorem dX7_leapsOnce_107 : decode cX7_leapsOnce 107 = .ok (.getfield 35, 3) := by decide +kernel
theorem dX7_leapsOnce_110 : decode cX7_leapsOnce 110 = .ok (.iload 6, 2) := by decide +kernel
theorem dX7_leapsOnce_112 : decode cX7_leapsOnce 112 = .ok (.iaload, 1) := by decide +kernel
theorem dX7_leapsOnce_113 : decode cX7_leapsOnce 113 = .ok (.ifCond .ne 7, 3) := by decide +kernel
theorem dX7_leapsOnce_116 : decode cX7_leapsOnce 116 = .ok (.iconst 0, 1) := by decide +kernel
theorem dX7_leapsOnce_117 : decode cX7_leapsOnce 117 = .ok (.goto 4, 3) := by decide +kernel
theorem dX7_leapsOnce_120 : decode cX7_leapsOnce 120 = .ok (.iconst 1, 1) := by decide +kernel
theorem dX7_leapsOnce_121 : decode cX7_leapsOnce 121 = .ok (.iastore, 1) := by decide +kernel
theorem dX7_leapsOnce_122 : decode cX7_leapsOnce 122 = .ok (.aload_n 0, 1) := by decide +kernel
theorem dX7_leapsOnce_123 : decode cX7_leapsOnce 123 = .ok (.getfield 35, 3) := by decide +kernel
theorem dX7_leapsOnce_126 : decode cX7_leapsOnce 126 = .ok (.iload 6, 2) := by decide +kernel
theorem dX7_leapsOnce_128 : decode cX7_leapsOnce 128 = .ok (.aload_n 0, 1) := by decide +kernel
theorem dX7_leapsOnce_129 : decode cX7_leapsOnce 129 = .ok (.getfield 35, 3) := by decide +kernel
theorem dX7_leapsOnce_132 : decode cX7_leapsOnce 132 = .ok (.iload 6, 2) := by decide +kernel
theorem dX7_leapsOnce_134 : decode cX7_leapsOnce 134 = .ok (.iaload, 1) := by decide +kernel
theorem dX7_leapsOnce_135 : decode cX7_leapsOnce 135 = .ok (.iconst 1, 1) := by decide +kernel
theorem dX7_leapsOnce_136 : decode cX7_leapsOnce 136 = .ok (.isub, 1) := by decide +kernel
theorem dX7_leapsOnce_137 : decode cX7_leapsOnce 137 = .ok (.bipush 9, 2) := by decide +kernel
theorem dX7_leapsOnce_139 : decode cX7_leapsOnce 139 = .ok (.invokestatic 133, 3) := by decide +kernel
theorem dX7_leapsOnce_142 : decode cX7_leapsOnce 142 = .ok (.iastore, 1) := by decide +kernel
theorem dX7_leapsOnce_143 : decode cX7_leapsOnce 143 = .ok (.aload_n 0, 1) := by decide +kernel
theorem dX7_leapsOnce_144 : decode cX7_leapsOnce 144 = .ok (.iload_n 1, 1) := by decide +kernel
theorem dX7_leapsOnce_145 : decode cX7_leapsOnce 145 = .ok (.iload 5, 2) := by decide +kernel
theorem dX7_leapsOnce_147 : decode cX7_leapsOnce 147 = .ok (.iload_n 3, 1) := by decide +kernel
theorem dX7_leapsOnce_148 : decode cX7_leapsOnce 148 = .ok (.invokevirtual 185, 3) := by decide +kernel
theorem dX7_leapsOnce_151 : decode cX7_leapsOnce 151 = .ok (.iconst 1, 1) := by decide +kernel
theorem dX7_leapsOnce_152 : decode cX7_leapsOnce 152 = .ok (.ireturn, 1) := by decide +kernel
theorem dX7_leapsOnce_153 : decode cX7_leapsOnce 153 = .ok (.iinc 2 1, 3) := by decide +kernel
theorem dX7_leapsOnce_156 : decode cX7_leapsOnce 156 = .ok (.goto (-154), 3) := by decide +kernel
theorem dX7_leapsOnce_159 : decode cX7_leapsOnce 159 = .ok (.iconst 0, 1) := by decide +kernel
theorem dX7_leapsOnce_160 : decode cX7_leapsOnce 160 = .ok (.ireturn, 1) := by decide +kernel
theorem dX7_walks_0 : decode cX7_walks 0 = .ok (.iconst 0, 1) := by decide +kernel
theorem dX7_walks_1 : decode cX7_walks 1 = .ok (.istore_n 2, 1) := by decide +kernel
theorem dX7_walks_2 : decode cX7_walks 2 = .ok (.iload_n 2, 1) := by decide +kernel
theorem dX7_walks_3 : decode cX7_walks 3 = .ok (.aload_n 0, 1) := by decide +kernel
theorem dX7_walks_4 : decode cX7_walks 4 = .ok (.getfield 29, 3) := by decide +kernel
theorem dX7_walks_7 : decode cX7_walks 7 = .ok (.iload_n 1, 1) := by decide +kernel
theorem dX7_walks_8 : decode cX7_walks 8 = .ok (.iaload, 1) := by decide +kernel
theorem dX7_walks_9 : decode cX7_walks 9 = .ok (.invokestatic 172, 3) := by decide +kernel
theorem dX7_walks_12 : decode cX7_walks 12 = .ok (.if_icmp .ge 56, 3) := by decide +kernel
theorem dX7_walks_15 : decode cX7_walks 15 = .ok (.aload_n 0, 1) := by decide +kernel
theorem dX7_walks_16 : decode cX7_walks 16 = .ok (.getfield 26, 3) := by decide +kernel
theorem dX7_walks_19 : decode cX7_walks 19 = .ok (.iload_n 1, 1) := by decide +kernel
theorem dX7_walks_20 : decode cX7_walks 20 = .ok (.iaload, 1) := by decide +kernel
theorem dX7_walks_21 : decode cX7_walks 21 = .ok (.iload_n 2, 1) := by decide +kernel
theorem dX7_walks_22 : decode cX7_walks 22 = .ok (.iadd, 1) := by decide +kernel
theorem dX7_walks_23 : decode cX7_walks 23 = .ok (.iconst 4, 1) := by decide +kernel
theorem dX7_walks_24 : decode cX7_walks 24 = .ok (.irem, 1) := by decide +kernel
theorem dX7_walks_25 : decode cX7_walks 25 = .ok (.istore_n 3, 1) := by decide +kernel
theorem dX7_walks_26 : decode cX7_walks 26 = .ok (.aload_n 0, 1) := by decide +kernel
theorem dX7_walks_27 : decode cX7_walks 27 = .ok (.getfield 23, 3) := by decide +kernel
theorem dX7_walks_30 : decode cX7_walks 30 = .ok (.iload_n 1, 1) := by decide +kernel
theorem dX7_walks_31 : decode cX7_walks 31 = .ok (.iaload, 1) := by decide +kernel
theorem dX7_walks_32 : decode cX7_walks 32 = .ok (.iload_n 3, 1) := by decide +kernel
theorem dX7_walks_33 : decode cX7_walks 33 = .ok (.iconst 1, 1) := by decide +kernel
theorem dX7_walks_34 : decode cX7_walks 34 = .ok (.invokestatic 175, 3) := by decide +kernel
theorem dX7_walks_37 : decode cX7_walks 37 = .ok (.istore 4, 2) := by decide +kernel
theorem dX7_walks_39 : decode cX7_walks 39 = .ok (.iload 4, 2) := by decide +kernel
theorem dX7_walks_41 : decode cX7_walks 41 = .ok (.ifCond .lt 21, 3) := by decide +kernel
theorem dX7_walks_44 : decode cX7_walks 44 = .ok (.aload_n 0, 1) := by decide +kernel
theorem dX7_walks_45 : decode cX7_walks 45 = .ok (.iload 4, 2) := by decide +kernel
theorem dX7_walks_47 : decode cX7_walks 47 = .ok (.invokevirtual 179, 3) := by decide +kernel
theorem dX7_walks_50 : decode cX7_walks 50 = .ok (.ifCond .eq 12, 3) := by decide +kernel
theorem dX7_walks_53 : decode cX7_walks 53 = .ok (.aload_n 0, 1) := by decide +kernel
theorem dX7_walks_54 : decode cX7_walks 54 = .ok (.iload_n 1, 1) := by decide +kernel
theorem dX7_walks_55 : decode cX7_walks 55 = .ok (.iload 4, 2) := by decide +kernel
theorem dX7_walks_57 : decode cX7_walks 57 = .ok (.iload_n 3, 1) := by decide +kernel
theorem dX7_walks_58 : decode cX7_walks 58 = .ok (.invokevirtual 185, 3) := by decide +kernel
theorem dX7_walks_61 : decode cX7_walks 61 = .ok (.return_, 1) := by decide +kernel
theorem dX7_walks_62 : decode cX7_walks 62 = .ok (.iinc 2 1, 3) := by decide +kernel
theorem dX7_walks_65 : decode cX7_walks 65 = .ok (.goto (-63), 3) := by decide +kernel
theorem dX7_walks_68 : decode cX7_walks 68 = .ok (.aload_n 0, 1) := by decide +kernel
theorem dX7_walks_69 : decode cX7_walks 69 = .ok (.getfield 26, 3) := by decide +kernel
theorem dX7_walks_72 : decode cX7_walks 72 = .ok (.iload_n 1, 1) := by decide +kernel
theorem dX7_walks_73 : decode cX7_walks 73 = .ok (.aload_n 0, 1) := by decide +kernel
theorem dX7_walks_74 : decode cX7_walks 74 = .ok (.getfield 26, 3) := by decide +kernel
theorem dX7_walks_77 : decode cX7_walks 77 = .ok (.iload_n 1, 1) := by decide +kernel
theorem dX7_walks_78 : decode cX7_walks 78 = .ok (.iaload, 1) := by decide +kernel
theorem dX7_walks_79 : decode cX7_walks 79 = .ok (.iconst 2, 1) := by decide +kernel
theorem dX7_walks_80 : decode cX7_walks 80 = .ok (.iadd, 1) := by decide +kernel
theorem dX7_walks_81 : decode cX7_walks 81 = .ok (.iconst 4, 1) := by decide +kernel
theorem dX7_walks_82 : decode cX7_walks 82 = .ok (.irem, 1) := by decide +kernel
theorem dX7_walks_83 : decode cX7_walks 83 = .ok (.iastore, 1) := by decide +kernel
theorem dX7_walks_84 : decode cX7_walks 84 = .ok (.return_, 1) := by decide +kernel
theorem dX7_airGoes_0 : decode cX7_airGoes 0 = .ok (.iconst 0, 1) := by decide +kernel
theorem dX7_airGoes_1 : decode cX7_airGoes 1 = .ok (.istore_n 2, 1) := by decide +kernel
theorem dX7_airGoes_2 : decode cX7_airGoes 2 = .ok (.aload_n 0, 1) := by decide +kernel
theorem dX7_airGoes_3 : decode cX7_airGoes 3 = .ok (.iload_n 1, 1) := by decide +kernel
theorem dX7_airGoes_4 : decode cX7_airGoes 4 = .ok (.invokevirtual 189, 3) := by decide +kernel
theorem dX7_airGoes_7 : decode cX7_airGoes 7 = .ok (.istore_n 3, 1) := by decide +kernel
theorem dX7_airGoes_8 : decode cX7_airGoes 8 = .ok (.iload_n 2, 1) := by decide +kernel
theorem dX7_airGoes_9 : decode cX7_airGoes 9 = .ok (.iload_n 3, 1) := by decide +kernel
theorem dX7_airGoes_10 : decode cX7_airGoes 10 = .ok (.if_icmp .ge 17, 3) := by decide +kernel
theorem dX7_airGoes_13 : decode cX7_airGoes 13 = .ok (.aload_n 0, 1) := by decide +kernel
theorem dX7_airGoes_14 : decode cX7_airGoes 14 = .ok (.iload_n 1, 1) := by decide +kernel
theorem dX7_airGoes_15 : decode cX7_airGoes 15 = .ok (.invokevirtual 192, 3) := by decide +kernel
theorem dX7_airGoes_18 : decode cX7_airGoes 18 = .ok (.ifCond .eq 9, 3) := by decide +kernel
theorem dX7_airGoes_21 : decode cX7_airGoes 21 = .ok (.iinc 2 1, 3) := by decide +kernel
theorem dX7_airGoes_24 : decode cX7_airGoes 24 = .ok (.goto (-16), 3) := by decide +kernel
theorem dX7_airGoes_27 : decode cX7_airGoes 27 = .ok (.iload_n 2, 1) := by decide +kernel
theorem dX7_airGoes_28 : decode cX7_airGoes 28 = .ok (.ifCond .ne 8, 3) := by decide +kernel
theorem dX7_airGoes_31 : decode cX7_airGoes 31 = .ok (.aload_n 0, 1) := by decide +kernel
theorem dX7_airGoes_32 : decode cX7_airGoes 32 = .ok (.iload_n 1, 1) := by decide +kernel
theorem dX7_airGoes_33 : decode cX7_airGoes 33 = .ok (.invokevirtual 195, 3) := by decide +kernel
theorem dX7_airGoes_36 : decode cX7_airGoes 36 = .ok (.aload_n 0, 1) := by decide +kernel
theorem dX7_airGoes_37 : decode cX7_airGoes 37 = .ok (.getfield 23, 3) := by decide +kernel
theorem dX7_airGoes_40 : decode cX7_airGoes 40 = .ok (.iload_n 1, 1) := by decide +kernel
theorem dX7_airGoes_41 : decode cX7_airGoes 41 = .ok (.iaload, 1) := by decide +kernel
theorem dX7_airGoes_42 : decode cX7_airGoes 42 = .ok (.bipush 6, 2) := by decide +kernel
theorem dX7_airGoes_44 : decode cX7_airGoes 44 = .ok (.idiv, 1) := by decide +kernel
theorem dX7_airGoes_45 : decode cX7_airGoes 45 = .ok (.istore 4, 2) := by decide +kernel
theorem dX7_airGoes_47 : decode cX7_airGoes 47 = .ok (.aload_n 0, 1) := by decide +kernel
theorem dX7_airGoes_48 : decode cX7_airGoes 48 = .ok (.getfield 29, 3) := by decide +kernel
theorem dX7_airGoes_51 : decode cX7_airGoes 51 = .ok (.iload_n 1, 1) := by decide +kernel
theorem dX7_airGoes_52 : decode cX7_airGoes 52 = .ok (.iload 4, 2) := by decide +kernel
theorem dX7_airGoes_54 : decode cX7_airGoes 54 = .ok (.ifCond .eq 9, 3) := by decide +kernel
theorem dX7_airGoes_57 : decode cX7_airGoes 57 = .ok (.iload 4, 2) := by decide +kernel
theorem dX7_airGoes_59 : decode cX7_airGoes 59 = .ok (.iconst 5, 1) := by decide +kernel
theorem dX7_airGoes_60 : decode cX7_airGoes 60 = .ok (.if_icmp .ne 7, 3) := by decide +kernel
theorem dX7_airGoes_63 : decode cX7_airGoes 63 = .ok (.iconst 1, 1) := by decide +kernel
theorem dX7_airGoes_64 : decode cX7_airGoes 64 = .ok (.goto 9, 3) := by decide +kernel
theorem dX7_airGoes_67 : decode cX7_airGoes 67 = .ok (.aload_n 0, 1) := by decide +kernel
theorem dX7_airGoes_68 : decode cX7_airGoes 68 = .ok (.getfield 29, 3) := by decide +kernel
theorem dX7_airGoes_71 : decode cX7_airGoes 71 = .ok (.iload_n 1, 1) := by decide +kernel
theorem dX7_airGoes_72 : decode cX7_airGoes 72 = .ok (.iaload, 1) := by decide +kernel
theorem dX7_airGoes_73 : decode cX7_airGoes 73 = .ok (.iastore, 1) := by decide +kernel
theorem dX7_airGoes_74 : decode cX7_airGoes 74 = .ok (.return_, 1) := by decide +kernel
theorem dX7_turnOn_0 : decode cX7_turnOn 0 = .ok (.aload_n 0, 1) := by decide +kernel
theorem dX7_turnOn_1 : decode cX7_turnOn 1 = .ok (.dup, 1) := by decide +kernel
theorem dX7_turnOn_2 : decode cX7_turnOn 2 = .ok (.getfield 148, 3) := by decide +kernel
theorem dX7_turnOn_5 : decode cX7_turnOn 5 = .ok (.iconst 1, 1) := by decide +kernel
theorem dX7_turnOn_6 : decode cX7_turnOn 6 = .ok (.iadd, 1) := by decide +kernel
theorem dX7_turnOn_7 : decode cX7_turnOn 7 = .ok (.putfield 148, 3) := by decide +kernel
theorem dX7_turnOn_10 : decode cX7_turnOn 10 = .ok (.iconst 0, 1) := by decide +kernel
theorem dX7_turnOn_11 : decode cX7_turnOn 11 = .ok (.istore_n 1, 1) := by decide +kernel
theorem dX7_turnOn_12 : decode cX7_turnOn 12 = .ok (.iload_n 1, 1) := by decide +kernel
theorem dX7_turnOn_13 : decode cX7_turnOn 13 = .ok (.bipush 36, 2) := by decide +kernel
theorem dX7_turnOn_15 : decode cX7_turnOn 15 = .ok (.if_icmp .ge 60, 3) := by decide +kernel
theorem dX7_turnOn_18 : decode cX7_turnOn 18 = .ok (.aload_n 0, 1) := by decide +kernel
theorem dX7_turnOn_19 : decode cX7_turnOn 19 = .ok (.getfield 7, 3) := by decide +kernel
theorem dX7_turnOn_22 : decode cX7_turnOn 22 = .ok (.iload_n 1, 1) := by decide +kernel
theorem dX7_turnOn_23 : decode cX7_turnOn 23 = .ok (.faload, 1) := by decide +kernel
theorem dX7_turnOn_24 : decode cX7_turnOn 24 = .ok (.fstore_n 2, 1) := by decide +kernel
theorem dX7_turnOn_25 : decode cX7_turnOn 25 = .ok (.iconst 0, 1) := by decide +kernel
theorem dX7_turnOn_26 : decode cX7_turnOn 26 = .ok (.istore_n 3, 1) := by decide +kernel
theorem dX7_turnOn_27 : decode cX7_turnOn 27 = .ok (.iload_n 3, 1) := by decide +kernel
theorem dX7_turnOn_28 : decode cX7_turnOn 28 = .ok (.aload_n 0, 1) := by decide +kernel
theorem dX7_turnOn_29 : decode cX7_turnOn 29 = .ok (.getfield 199, 3) := by decide +kernel
theorem dX7_turnOn_32 : decode cX7_turnOn 32 = .ok (.if_icmp .ge 27, 3) := by decide +kernel
theorem dX7_turnOn_35 : decode cX7_turnOn 35 = .ok (.aload_n 0, 1) := by decide +kernel
theorem dX7_turnOn_36 : decode cX7_turnOn 36 = .ok (.getfield 41, 3) := by decide +kernel
theorem dX7_turnOn_39 : decode cX7_turnOn 39 = .ok (.iload_n 3, 1) := by decide +kernel
theorem dX7_turnOn_40 : decode cX7_turnOn 40 = .ok (.iaload, 1) := by decide +kernel
theorem dX7_turnOn_41 : decode cX7_turnOn 41 = .ok (.aload_n 0, 1) := by decide +kernel
theorem dX7_turnOn_42 : decode cX7_turnOn 42 = .ok (.getfield 44, 3) := by decide +kernel
theorem dX7_turnOn_45 : decode cX7_turnOn 45 = .ok (.iload_n 3, 1) := by decide +kernel
theorem dX7_turnOn_46 : decode cX7_turnOn 46 = .ok (.iaload, 1) := by decide +kernel
theorem dX7_turnOn_47 : decode cX7_turnOn 47 = .ok (.i2f, 1) := by decide +kernel
theorem dX7_turnOn_48 : decode cX7_turnOn 48 = .ok (.fload_n 2, 1) := by decide +kernel
theorem dX7_turnOn_49 : decode cX7_turnOn 49 = .ok (.invokestatic 202, 3) := by decide +kernel
theorem dX7_turnOn_52 : decode cX7_turnOn 52 = .ok (.fstore_n 2, 1) := by decide +kernel
theorem dX7_turnOn_53 : decode cX7_turnOn 53 = .ok (.iinc 3 1, 3) := by decide +kernel
theorem dX7_turnOn_56 : decode cX7_turnOn 56 = .ok (.goto (-29), 3) := by decide +kernel
theorem dX7_turnOn_59 : decode cX7_turnOn 59 = .ok (.aload_n 0, 1) := by decide +kernel
theorem dX7_turnOn_60 : decode cX7_turnOn 60 = .ok (.getfield 7, 3) := by decide +kernel
theorem dX7_turnOn_63 : decode cX7_turnOn 63 = .ok (.iload_n 1, 1) := by decide +kernel
theorem dX7_turnOn_64 : decode cX7_turnOn 64 = .ok (.fload_n 2, 1) := by decide +kernel
theorem dX7_turnOn_65 : decode cX7_turnOn 65 = .ok (.invokestatic 169, 3) := by decide +kernel
theorem dX7_turnOn_68 : decode cX7_turnOn 68 = .ok (.fastore, 1) := by decide +kernel
theorem dX7_turnOn_69 : decode cX7_turnOn 69 = .ok (.iinc 1 1, 3) := by decide +kernel
theorem dX7_turnOn_72 : decode cX7_turnOn 72 = .ok (.goto (-60), 3) := by decide +kernel
theorem dX7_turnOn_75 : decode cX7_turnOn 75 = .ok (.iconst 0, 1) := by decide +kernel
theorem dX7_turnOn_76 : decode cX7_turnOn 76 = .ok (.istore_n 1, 1) := by decide +kernel
theorem dX7_turnOn_77 : decode cX7_turnOn 77 = .ok (.iload_n 1, 1) := by decide +kernel
theorem dX7_turnOn_78 : decode cX7_turnOn 78 = .ok (.aload_n 0, 1) := by decide +kernel
theorem dX7_turnOn_79 : decode cX7_turnOn 79 = .ok (.getfield 119, 3) := by decide +kernel
theorem dX7_turnOn_82 : decode cX7_turnOn 82 = .ok (.if_icmp .ge 21, 3) := by decide +kernel
theorem dX7_turnOn_85 : decode cX7_turnOn 85 = .ok (.aload_n 0, 1) := by decide +kernel
theorem dX7_turnOn_86 : decode cX7_turnOn 86 = .ok (.getfield 206, 3) := by decide +kernel
theorem dX7_turnOn_89 : decode cX7_turnOn 89 = .ok (.ifCond .ne 14, 3) := by decide +kernel
theorem dX7_turnOn_92 : decode cX7_turnOn 92 = .ok (.aload_n 0, 1) := by decide +kernel
theorem dX7_turnOn_93 : decode cX7_turnOn 93 = .ok (.iload_n 1, 1) := by decide +kernel
theorem dX7_turnOn_94 : decode cX7_turnOn 94 = .ok (.invokevirtual 210, 3) := by decide +kernel
theorem dX7_turnOn_97 : decode cX7_turnOn 97 = .ok (.iinc 1 1, 3) := by decide +kernel
theorem dX7_turnOn_100 : decode cX7_turnOn 100 = .ok (.goto (-23), 3) := by decide +kernel
theorem dX7_turnOn_103 : decode cX7_turnOn 103 = .ok (.iconst 0, 1) := by decide +kernel
theorem dX7_turnOn_104 : decode cX7_turnOn 104 = .ok (.istore_n 1, 1) := by decide +kernel
theorem dX7_turnOn_105 : decode cX7_turnOn 105 = .ok (.iload_n 1, 1) := by decide +kernel
theorem dX7_turnOn_106 : decode cX7_turnOn 106 = .ok (.aload_n 0, 1) := by decide +kernel
theorem dX7_turnOn_107 : decode cX7_turnOn 107 = .ok (.getfield 126, 3) := by decide +kernel
theorem dX7_turnOn_110 : decode cX7_turnOn 110 = .ok (.if_icmp .ge 50, 3) := by decide +kernel
theorem dX7_turnOn_113 : decode cX7_turnOn 113 = .ok (.aload_n 0, 1) := by decide +kernel
theorem dX7_turnOn_114 : decode cX7_turnOn 114 = .ok (.getfield 38, 3) := by decide +kernel
theorem dX7_turnOn_117 : decode cX7_turnOn 117 = .ok (.iload_n 1, 1) := by decide +kernel
theorem dX7_turnOn_118 : decode cX7_turnOn 118 = .ok (.aload_n 0, 1) := by decide +kernel
theorem dX7_turnOn_119 : decode cX7_turnOn 119 = .ok (.getfield 7, 3) := by decide +kernel
theorem dX7_turnOn_122 : decode cX7_turnOn 122 = .ok (.aload_n 0, 1) := by decide +kernel
theorem dX7_turnOn_123 : decode cX7_turnOn 123 = .ok (.getfield 32, 3) := by decide +kernel
theorem dX7_turnOn_126 : decode cX7_turnOn 126 = .ok (.iload_n 1, 1) := by decide +kernel
theorem dX7_turnOn_127 : decode cX7_turnOn 127 = .ok (.iaload, 1) := by decide +kernel
theorem dX7_turnOn_128 : decode cX7_turnOn 128 = .ok (.faload, 1) := by decide +kernel
theorem dX7_turnOn_129 : decode cX7_turnOn 129 = .ok (.bipush 8, 2) := by decide +kernel
theorem dX7_turnOn_131 : decode cX7_turnOn 131 = .ok (.aload_n 0, 1) := by decide +kernel
theorem dX7_turnOn_132 : decode cX7_turnOn 132 = .ok (.getfield 35, 3) := by decide +kernel
theorem dX7_turnOn_135 : decode cX7_turnOn 135 = .ok (.iload_n 1, 1) := by decide +kernel
theorem dX7_turnOn_136 : decode cX7_turnOn 136 = .ok (.iaload, 1) := by decide +kernel
theorem dX7_turnOn_137 : decode cX7_turnOn 137 = .ok (.isub, 1) := by decide +kernel
theorem dX7_turnOn_138 : decode cX7_turnOn 138 = .ok (.i2f, 1) := by decide +kernel
theorem dX7_turnOn_139 : decode cX7_turnOn 139 = .ok (.fcmp .g, 1) := by decide +kernel
theorem dX7_turnOn_140 : decode cX7_turnOn 140 = .ok (.ifCond .ge 7, 3) := by decide +kernel
theorem dX7_turnOn_143 : decode cX7_turnOn 143 = .ok (.iconst 0, 1) := by decide +kernel
theorem dX7_turnOn_144 : decode cX7_turnOn 144 = .ok (.goto 9, 3) := by decide +kernel
theorem dX7_turnOn_147 : decode cX7_turnOn 147 = .ok (.aload_n 0, 1) := by decide +kernel
theorem dX7_turnOn_148 : decode cX7_turnOn 148 = .ok (.getfield 38, 3) := by decide +kernel
theorem dX7_turnOn_151 : decode cX7_turnOn 151 = .ok (.iload_n 1, 1) := by decide +kernel
theorem dX7_turnOn_152 : decode cX7_turnOn 152 = .ok (.iaload, 1) := by decide +kernel
theorem dX7_turnOn_153 : decode cX7_turnOn 153 = .ok (.iastore, 1) := by decide +kernel
theorem dX7_turnOn_154 : decode cX7_turnOn 154 = .ok (.iinc 1 1, 3) := by decide +kernel
theorem dX7_turnOn_157 : decode cX7_turnOn 157 = .ok (.goto (-52), 3) := by decide +kernel
theorem dX7_turnOn_160 : decode cX7_turnOn 160 = .ok (.return_, 1) := by decide +kernel
theorem dX7_goTurns_0 : decode cX7_goTurns 0 = .ok (.iconst 0, 1) := by decide +kernel
theorem dX7_goTurns_1 : decode cX7_goTurns 1 = .ok (.istore_n 2, 1) := by decide +kernel
theorem dX7_goTurns_2 : decode cX7_goTurns 2 = .ok (.iload_n 2, 1) := by decide +kernel
theorem dX7_goTurns_3 : decode cX7_goTurns 3 = .ok (.iload_n 1, 1) := by decide +kernel
theorem dX7_goTurns_4 : decode cX7_goTurns 4 = .ok (.if_icmp .ge 13, 3) := by decide +kernel
theorem dX7_goTurns_7 : decode cX7_goTurns 7 = .ok (.aload_n 0, 1) := by decide +kernel
theorem dX7_goTurns_8 : decode cX7_goTurns 8 = .ok (.invokevirtual 213, 3) := by decide +kernel
theorem dX7_goTurns_11 : decode cX7_goTurns 11 = .ok (.iinc 2 1, 3) := by decide +kernel
theorem dX7_goTurns_14 : decode cX7_goTurns 14 = .ok (.goto (-12), 3) := by decide +kernel
theorem dX7_goTurns_17 : decode cX7_goTurns 17 = .ok (.return_, 1) := by decide +kernel
theorem dX7_airComesNew_0 : decode cX7_airComesNew 0 = .ok (.iload_n 1, 1) := by decide +kernel
theorem dX7_airComesNew_1 : decode cX7_airComesNew 1 = .ok (.bipush 8, 2) := by decide +kernel
theorem dX7_airComesNew_3 : decode cX7_airComesNew 3 = .ok (.if_icmp .ge 36, 3) := by decide +kernel
theorem dX7_airComesNew_6 : decode cX7_airComesNew 6 = .ok (.iload_n 3, 1) := by decide +kernel
theorem dX7_airComesNew_7 : decode cX7_airComesNew 7 = .ok (.invokestatic 216, 3) := by decide +kernel
theorem dX7_airComesNew_10 : decode cX7_airComesNew 10 = .ok (.ifCond .eq 29, 3) := by decide +kernel
theorem dX7_airComesNew_13 : decode cX7_airComesNew 13 = .ok (.iload 4, 2) := by decide +kernel
theorem dX7_airComesNew_15 : decode cX7_airComesNew 15 = .ok (.iconst 4, 1) := by decide +kernel
theorem dX7_airComesNew_16 : decode cX7_airComesNew 16 = .ok (.if_icmp .ge 23, 3) := by decide +kernel
theorem dX7_airComesNew_19 : decode cX7_airComesNew 19 = .ok (.aload_n 0, 1) := by decide +kernel
theorem dX7_airComesNew_20 : decode cX7_airComesNew 20 = .ok (.getfield 119, 3) := by decide +kernel
theorem dX7_airComesNew_23 : decode cX7_airComesNew 23 = .ok (.iconst 5, 1) := by decide +kernel
theorem dX7_airComesNew_24 : decode cX7_airComesNew 24 = .ok (.if_icmp .ge 15, 3) := by decide +kernel
theorem dX7_airComesNew_27 : decode cX7_airComesNew 27 = .ok (.aload_n 0, 1) := by decide +kernel
theorem dX7_airComesNew_28 : decode cX7_airComesNew 28 = .ok (.iload_n 3, 1) := by decide +kernel
theorem dX7_airComesNew_29 : decode cX7_airComesNew 29 = .ok (.invokevirtual 179, 3) := by decide +kernel
theorem dX7_airComesNew_32 : decode cX7_airComesNew 32 = .ok (.ifCond .eq 7, 3) := by decide +kernel
theorem dX7_airComesNew_35 : decode cX7_airComesNew 35 = .ok (.iconst 1, 1) := by decide +kernel
theorem dX7_airComesNew_36 : decode cX7_airComesNew 36 = .ok (.goto 4, 3) := by decide +kernel
theorem dX7_airComesNew_39 : decode cX7_airComesNew 39 = .ok (.iconst 0, 1) := by decide +kernel
theorem dX7_airComesNew_40 : decode cX7_airComesNew 40 = .ok (.istore 5, 2) := by decide +kernel
theorem dX7_airComesNew_42 : decode cX7_airComesNew 42 = .ok (.iload 5, 2) := by decide +kernel
theorem dX7_airComesNew_44 : decode cX7_airComesNew 44 = .ok (.ifCond .eq 64, 3) := by decide +kernel
theorem dX7_airComesNew_47 : decode cX7_airComesNew 47 = .ok (.aload_n 0, 1) := by decide +kernel
theorem dX7_airComesNew_48 : decode cX7_airComesNew 48 = .ok (.getfield 17, 3) := by decide +kernel
theorem dX7_airComesNew_51 : decode cX7_airComesNew 51 = .ok (.aload_n 0, 1) := by decide +kernel
theorem dX7_airComesNew_52 : decode cX7_airComesNew 52 = .ok (.getfield 119, 3) := by decide +kernel
theorem dX7_airComesNew_55 : decode cX7_airComesNew 55 = .ok (.iload_n 1, 1) := by decide +kernel
theorem dX7_airComesNew_56 : decode cX7_airComesNew 56 = .ok (.iastore, 1) := by decide +kernel
theorem dX7_airComesNew_57 : decode cX7_airComesNew 57 = .ok (.aload_n 0, 1) := by decide +kernel
theorem dX7_airComesNew_58 : decode cX7_airComesNew 58 = .ok (.getfield 20, 3) := by decide +kernel
theorem dX7_airComesNew_61 : decode cX7_airComesNew 61 = .ok (.aload_n 0, 1) := by decide +kernel
theorem dX7_airComesNew_62 : decode cX7_airComesNew 62 = .ok (.getfield 119, 3) := by decide +kernel
theorem dX7_airComesNew_65 : decode cX7_airComesNew 65 = .ok (.iload_n 2, 1) := by decide +kernel
theorem dX7_airComesNew_66 : decode cX7_airComesNew 66 = .ok (.iastore, 1) := by decide +kernel
theorem dX7_airComesNew_67 : decode cX7_airComesNew 67 = .ok (.aload_n 0, 1) := by decide +kernel
theorem dX7_airComesNew_68 : decode cX7_airComesNew 68 = .ok (.getfield 23, 3) := by decide +kernel
theorem dX7_airComesNew_71 : decode cX7_airComesNew 71 = .ok (.aload_n 0, 1) := by decide +kernel
theorem dX7_airComesNew_72 : decode cX7_airComesNew 72 = .ok (.getfield 119, 3) := by decide +kernel
theorem dX7_airComesNew_75 : decode cX7_airComesNew 75 = .ok (.iload_n 3, 1) := by decide +kernel
theorem dX7_airComesNew_76 : decode cX7_airComesNew 76 = .ok (.iastore, 1) := by decide +kernel
theorem dX7_airComesNew_77 : decode cX7_airComesNew 77 = .ok (.aload_n 0, 1) := by decide +kernel
theorem dX7_airComesNew_78 : decode cX7_airComesNew 78 = .ok (.getfield 26, 3) := by decide +kernel
theorem dX7_airComesNew_81 : decode cX7_airComesNew 81 = .ok (.aload_n 0, 1) := by decide +kernel
theorem dX7_airComesNew_82 : decode cX7_airComesNew 82 = .ok (.getfield 119, 3) := by decide +kernel
theorem dX7_airComesNew_85 : decode cX7_airComesNew 85 = .ok (.iload 4, 2) := by decide +kernel
theorem dX7_airComesNew_87 : decode cX7_airComesNew 87 = .ok (.iastore, 1) := by decide +kernel
theorem dX7_airComesNew_88 : decode cX7_airComesNew 88 = .ok (.aload_n 0, 1) := by decide +kernel
theorem dX7_airComesNew_89 : decode cX7_airComesNew 89 = .ok (.getfield 29, 3) := by decide +kernel
theorem dX7_airComesNew_92 : decode cX7_airComesNew 92 = .ok (.aload_n 0, 1) := by decide +kernel
theorem dX7_airComesNew_93 : decode cX7_airComesNew 93 = .ok (.getfield 119, 3) := by decide +kernel
theorem dX7_airComesNew_96 : decode cX7_airComesNew 96 = .ok (.iconst 0, 1) := by decide +kernel
theorem dX7_airComesNew_97 : decode cX7_airComesNew 97 = .ok (.iastore, 1) := by decide +kernel
theorem dX7_airComesNew_98 : decode cX7_airComesNew 98 = .ok (.aload_n 0, 1) := by decide +kernel
theorem dX7_airComesNew_99 : decode cX7_airComesNew 99 = .ok (.dup, 1) := by decide +kernel
theorem dX7_airComesNew_100 : decode cX7_airComesNew 100 = .ok (.getfield 119, 3) := by decide +kernel
theorem dX7_airComesNew_103 : decode cX7_airComesNew 103 = .ok (.iconst 1, 1) := by decide +kernel
theorem dX7_airComesNew_104 : decode cX7_airComesNew 104 = .ok (.iadd, 1) := by decide +kernel
theorem dX7_airComesNew_105 : decode cX7_airComesNew 105 = .ok (.putfield 119, 3) := by decide +kernel
theorem dX7_airComesNew_108 : decode cX7_airComesNew 108 = .ok (.iload 5, 2) := by decide +kernel
theorem dX7_airComesNew_110 : decode cX7_airComesNew 110 = .ok (.ireturn, 1) := by decide +kernel
theorem dX7_sitterComes_0 : decode cX7_sitterComes 0 = .ok (.iload_n 1, 1) := by decide +kernel
theorem dX7_sitterComes_1 : decode cX7_sitterComes 1 = .ok (.invokestatic 216, 3) := by decide +kernel
theorem dX7_sitterComes_4 : decode cX7_sitterComes 4 = .ok (.ifCond .eq 24, 3) := by decide +kernel
theorem dX7_sitterComes_7 : decode cX7_sitterComes 7 = .ok (.aload_n 0, 1) := by decide +kernel
theorem dX7_sitterComes_8 : decode cX7_sitterComes 8 = .ok (.getfield 126, 3) := by decide +kernel
theorem dX7_sitterComes_11 : decode cX7_sitterComes 11 = .ok (.bipush 6, 2) := by decide +kernel
theorem dX7_sitterComes_13 : decode cX7_sitterComes 13 = .ok (.if_icmp .ge 15, 3) := by decide +kernel
theorem dX7_sitterComes_16 : decode cX7_sitterComes 16 = .ok (.aload_n 0, 1) := by decide +kernel
theorem dX7_sitterComes_17 : decode cX7_sitterComes 17 = .ok (.iload_n 1, 1) := by decide +kernel
theorem dX7_sitterComes_18 : decode cX7_sitterComes 18 = .ok (.invokevirtual 179, 3) := by decide +kernel
theorem dX7_sitterComes_21 : decode cX7_sitterComes 21 = .ok (.ifCond .eq 7, 3) := by decide +kernel
theorem dX7_sitterComes_24 : decode cX7_sitterComes 24 = .ok (.iconst 1, 1) := by decide +kernel
theorem dX7_sitterComes_25 : decode cX7_sitterComes 25 = .ok (.goto 4, 3) := by decide +kernel
theorem dX7_sitterComes_28 : decode cX7_sitterComes 28 = .ok (.iconst 0, 1) := by decide +kernel
theorem dX7_sitterComes_29 : decode cX7_sitterComes 29 = .ok (.istore_n 3, 1) := by decide +kernel
theorem dX7_sitterComes_30 : decode cX7_sitterComes 30 = .ok (.iload_n 3, 1) := by decide +kernel
theorem dX7_sitterComes_31 : decode cX7_sitterComes 31 = .ok (.ifCond .eq 43, 3) := by decide +kernel
theorem dX7_sitterComes_34 : decode cX7_sitterComes 34 = .ok (.aload_n 0, 1) := by decide +kernel
theorem dX7_sitterComes_35 : decode cX7_sitterComes 35 = .ok (.getfield 32, 3) := by decide +kernel
theorem dX7_sitterComes_38 : decode cX7_sitterComes 38 = .ok (.aload_n 0, 1) := by decide +kernel
theorem dX7_sitterComes_39 : decode cX7_sitterComes 39 = .ok (.getfield 126, 3) := by decide +kernel
theorem dX7_sitterComes_42 : decode cX7_sitterComes 42 = .ok (.iload_n 1, 1) := by decide +kernel
theorem dX7_sitterComes_43 : decode cX7_sitterComes 43 = .ok (.iastore, 1) := by decide +kernel
theorem dX7_sitterComes_44 : decode cX7_sitterComes 44 = .ok (.aload_n 0, 1) := by decide +kernel
theorem dX7_sitterComes_45 : decode cX7_sitterComes 45 = .ok (.getfield 35, 3) := by decide +kernel
theorem dX7_sitterComes_48 : decode cX7_sitterComes 48 = .ok (.aload_n 0, 1) := by decide +kernel
theorem dX7_sitterComes_49 : decode cX7_sitterComes 49 = .ok (.getfield 126, 3) := by decide +kernel
theorem dX7_sitterComes_52 : decode cX7_sitterComes 52 = .ok (.iload_n 2, 1) := by decide +kernel
theorem dX7_sitterComes_53 : decode cX7_sitterComes 53 = .ok (.iastore, 1) := by decide +kernel
theorem dX7_sitterComes_54 : decode cX7_sitterComes 54 = .ok (.aload_n 0, 1) := by decide +kernel
theorem dX7_sitterComes_55 : decode cX7_sitterComes 55 = .ok (.getfield 38, 3) := by decide +kernel
theorem dX7_sitterComes_58 : decode cX7_sitterComes 58 = .ok (.aload_n 0, 1) := by decide +kernel
theorem dX7_sitterComes_59 : decode cX7_sitterComes 59 = .ok (.getfield 126, 3) := by decide +kernel
theorem dX7_sitterComes_62 : decode cX7_sitterComes 62 = .ok (.iconst 1, 1) := by decide +kernel
theorem dX7_sitterComes_63 : decode cX7_sitterComes 63 = .ok (.iastore, 1) := by decide +kernel
theorem dX7_sitterComes_64 : decode cX7_sitterComes 64 = .ok (.aload_n 0, 1) := by decide +kernel
theorem dX7_sitterComes_65 : decode cX7_sitterComes 65 = .ok (.dup, 1) := by decide +kernel
theorem dX7_sitterComes_66 : decode cX7_sitterComes 66 = .ok (.getfield 126, 3) := by decide +kernel
theorem dX7_sitterComes_69 : decode cX7_sitterComes 69 = .ok (.iconst 1, 1) := by decide +kernel
theorem dX7_sitterComes_70 : decode cX7_sitterComes 70 = .ok (.iadd, 1) := by decide +kernel
theorem dX7_sitterComes_71 : decode cX7_sitterComes 71 = .ok (.putfield 126, 3) := by decide +kernel
theorem dX7_sitterComes_74 : decode cX7_sitterComes 74 = .ok (.iload_n 3, 1) := by decide +kernel
theorem dX7_sitterComes_75 : decode cX7_sitterComes 75 = .ok (.ireturn, 1) := by decide +kernel
theorem dX7_feed_0 : decode cX7_feed 0 = .ok (.aload_n 0, 1) := by decide +kernel
theorem dX7_feed_1 : decode cX7_feed 1 = .ok (.iconst 0, 1) := by decide +kernel
theorem dX7_feed_2 : decode cX7_feed 2 = .ok (.putfield 114, 3) := by decide +kernel
theorem dX7_feed_5 : decode cX7_feed 5 = .ok (.iload_n 1, 1) := by decide +kernel
theorem dX7_feed_6 : decode cX7_feed 6 = .ok (.ifCond .ge 10, 3) := by decide +kernel
theorem dX7_feed_9 : decode cX7_feed 9 = .ok (.aload_n 0, 1) := by decide +kernel
theorem dX7_feed_10 : decode cX7_feed 10 = .ok (.bipush (-4), 2) := by decide +kernel
theorem dX7_feed_12 : decode cX7_feed 12 = .ok (.invokevirtual 219, 3) := by decide +kernel
theorem dX7_feed_15 : decode cX7_feed 15 = .ok (.ireturn, 1) := by decide +kernel
theorem dX7_feed_16 : decode cX7_feed 16 = .ok (.iload_n 1, 1) := by decide +kernel
theorem dX7_feed_17 : decode cX7_feed 17 = .ok (.sipush 255, 3) := by decide +kernel
theorem dX7_feed_20 : decode cX7_feed 20 = .ok (.if_icmp .gt 12, 3) := by decide +kernel
theorem dX7_feed_23 : decode cX7_feed 23 = .ok (.aload_n 0, 1) := by decide +kernel
theorem dX7_feed_24 : decode cX7_feed 24 = .ok (.getfield 222, 3) := by decide +kernel
theorem dX7_feed_27 : decode cX7_feed 27 = .ok (.bipush 96, 2) := by decide +kernel
theorem dX7_feed_29 : decode cX7_feed 29 = .ok (.if_icmp .ne 10, 3) := by decide +kernel
theorem dX7_feed_32 : decode cX7_feed 32 = .ok (.aload_n 0, 1) := by decide +kernel
theorem dX7_feed_33 : decode cX7_feed 33 = .ok (.bipush (-6), 2) := by decide +kernel
theorem dX7_feed_35 : decode cX7_feed 35 = .ok (.invokevirtual 219, 3) := by decide +kernel
theorem dX7_feed_38 : decode cX7_feed 38 = .ok (.ireturn, 1) := by decide +kernel
theorem dX7_feed_39 : decode cX7_feed 39 = .ok (.aload_n 0, 1) := by decide +kernel
theorem dX7_feed_40 : decode cX7_feed 40 = .ok (.getfield 50, 3) := by decide +kernel
theorem dX7_feed_43 : decode cX7_feed 43 = .ok (.aload_n 0, 1) := by decide +kernel
theorem dX7_feed_44 : decode cX7_feed 44 = .ok (.getfield 222, 3) := by decide +kernel
theorem dX7_feed_47 : decode cX7_feed 47 = .ok (.iload_n 1, 1) := by decide +kernel
