theorem dX5_mayHaveWon_6 : decode cX5_mayHaveWon 6 = .ok (.if_icmp .ne 7, 3) := by decide +kernel
theorem dX5_mayHaveWon_9 : decode cX5_mayHaveWon 9 = .ok (.iconst 1, 1) := by decide +kernel
theorem dX5_mayHaveWon_10 : decode cX5_mayHaveWon 10 = .ok (.goto 4, 3) := by decide +kernel
theorem dX5_mayHaveWon_13 : decode cX5_mayHaveWon 13 = .ok (.iconst 0, 1) := by decide +kernel
theorem dX5_mayHaveWon_14 : decode cX5_mayHaveWon 14 = .ok (.ireturn, 1) := by decide +kernel
theorem dX5_mayHaveWon_15 : decode cX5_mayHaveWon 15 = .ok (.iload_n 1, 1) := by decide +kernel
theorem dX5_mayHaveWon_16 : decode cX5_mayHaveWon 16 = .ok (.invokestatic 90, 3) := by decide +kernel
theorem dX5_mayHaveWon_19 : decode cX5_mayHaveWon 19 = .ok (.ifCond .eq 16, 3) := by decide +kernel
theorem dX5_mayHaveWon_22 : decode cX5_mayHaveWon 22 = .ok (.iload_n 0, 1) := by decide +kernel
theorem dX5_mayHaveWon_23 : decode cX5_mayHaveWon 23 = .ok (.iload_n 1, 1) := by decide +kernel
theorem dX5_mayHaveWon_24 : decode cX5_mayHaveWon 24 = .ok (.ishr, 1) := by decide +kernel
theorem dX5_mayHaveWon_25 : decode cX5_mayHaveWon 25 = .ok (.iconst 1, 1) := by decide +kernel
theorem dX5_mayHaveWon_26 : decode cX5_mayHaveWon 26 = .ok (.iand, 1) := by decide +kernel
theorem dX5_mayHaveWon_27 : decode cX5_mayHaveWon 27 = .ok (.iconst 1, 1) := by decide +kernel
theorem dX5_mayHaveWon_28 : decode cX5_mayHaveWon 28 = .ok (.if_icmp .ne 7, 3) := by decide +kernel
theorem dX5_mayHaveWon_31 : decode cX5_mayHaveWon 31 = .ok (.iconst 1, 1) := by decide +kernel
theorem dX5_mayHaveWon_32 : decode cX5_mayHaveWon 32 = .ok (.goto 4, 3) := by decide +kernel
theorem dX5_mayHaveWon_35 : decode cX5_mayHaveWon 35 = .ok (.iconst 0, 1) := by decide +kernel
theorem dX5_mayHaveWon_36 : decode cX5_mayHaveWon 36 = .ok (.ireturn, 1) := by decide +kernel
theorem dX6_init_0 : decode cX6_init 0 = .ok (.aload_n 0, 1) := by decide +kernel
theorem dX6_init_1 : decode cX6_init 1 = .ok (.invokespecial 1, 3) := by decide +kernel
theorem dX6_init_4 : decode cX6_init 4 = .ok (.aload_n 0, 1) := by decide +kernel
theorem dX6_init_5 : decode cX6_init 5 = .ok (.bipush 10, 2) := by decide +kernel
theorem dX6_init_7 : decode cX6_init 7 = .ok (.newarray .int, 2) := by decide +kernel
theorem dX6_init_9 : decode cX6_init 9 = .ok (.putfield 7, 3) := by decide +kernel
theorem dX6_init_12 : decode cX6_init 12 = .ok (.aload_n 0, 1) := by decide +kernel
theorem dX6_init_13 : decode cX6_init 13 = .ok (.bipush 10, 2) := by decide +kernel
theorem dX6_init_15 : decode cX6_init 15 = .ok (.newarray .int, 2) := by decide +kernel
theorem dX6_init_17 : decode cX6_init 17 = .ok (.putfield 13, 3) := by decide +kernel
theorem dX6_init_20 : decode cX6_init 20 = .ok (.aload_n 0, 1) := by decide +kernel
theorem dX6_init_21 : decode cX6_init 21 = .ok (.bipush 12, 2) := by decide +kernel
theorem dX6_init_23 : decode cX6_init 23 = .ok (.newarray .int, 2) := by decide +kernel
theorem dX6_init_25 : decode cX6_init 25 = .ok (.putfield 16, 3) := by decide +kernel
theorem dX6_init_28 : decode cX6_init 28 = .ok (.aload_n 0, 1) := by decide +kernel
theorem dX6_init_29 : decode cX6_init 29 = .ok (.bipush 60, 2) := by decide +kernel
theorem dX6_init_31 : decode cX6_init 31 = .ok (.newarray .int, 2) := by decide +kernel
theorem dX6_init_33 : decode cX6_init 33 = .ok (.putfield 19, 3) := by decide +kernel
theorem dX6_init_36 : decode cX6_init 36 = .ok (.aload_n 0, 1) := by decide +kernel
theorem dX6_init_37 : decode cX6_init 37 = .ok (.bipush 12, 2) := by decide +kernel
theorem dX6_init_39 : decode cX6_init 39 = .ok (.newarray .int, 2) := by decide +kernel
theorem dX6_init_41 : decode cX6_init 41 = .ok (.putfield 22, 3) := by decide +kernel
theorem dX6_init_44 : decode cX6_init 44 = .ok (.aload_n 0, 1) := by decide +kernel
theorem dX6_init_45 : decode cX6_init 45 = .ok (.bipush 12, 2) := by decide +kernel
theorem dX6_init_47 : decode cX6_init 47 = .ok (.newarray .int, 2) := by decide +kernel
theorem dX6_init_49 : decode cX6_init 49 = .ok (.putfield 25, 3) := by decide +kernel
theorem dX6_init_52 : decode cX6_init 52 = .ok (.aload_n 0, 1) := by decide +kernel
theorem dX6_init_53 : decode cX6_init 53 = .ok (.bipush 12, 2) := by decide +kernel
theorem dX6_init_55 : decode cX6_init 55 = .ok (.newarray .int, 2) := by decide +kernel
theorem dX6_init_57 : decode cX6_init 57 = .ok (.putfield 28, 3) := by decide +kernel
theorem dX6_init_60 : decode cX6_init 60 = .ok (.aload_n 0, 1) := by decide +kernel
theorem dX6_init_61 : decode cX6_init 61 = .ok (.bipush 12, 2) := by decide +kernel
theorem dX6_init_63 : decode cX6_init 63 = .ok (.newarray .int, 2) := by decide +kernel
theorem dX6_init_65 : decode cX6_init 65 = .ok (.putfield 31, 3) := by decide +kernel
theorem dX6_init_68 : decode cX6_init 68 = .ok (.aload_n 0, 1) := by decide +kernel
theorem dX6_init_69 : decode cX6_init 69 = .ok (.iconst 4, 1) := by decide +kernel
theorem dX6_init_70 : decode cX6_init 70 = .ok (.putfield 34, 3) := by decide +kernel
theorem dX6_init_73 : decode cX6_init 73 = .ok (.aload_n 0, 1) := by decide +kernel
theorem dX6_init_74 : decode cX6_init 74 = .ok (.bipush 80, 2) := by decide +kernel
theorem dX6_init_76 : decode cX6_init 76 = .ok (.newarray .int, 2) := by decide +kernel
theorem dX6_init_78 : decode cX6_init 78 = .ok (.putfield 38, 3) := by decide +kernel
theorem dX6_init_81 : decode cX6_init 81 = .ok (.aload_n 0, 1) := by decide +kernel
theorem dX6_init_82 : decode cX6_init 82 = .ok (.bipush 80, 2) := by decide +kernel
theorem dX6_init_84 : decode cX6_init 84 = .ok (.newarray .int, 2) := by decide +kernel
theorem dX6_init_86 : decode cX6_init 86 = .ok (.putfield 41, 3) := by decide +kernel
theorem dX6_init_89 : decode cX6_init 89 = .ok (.aload_n 0, 1) := by decide +kernel
theorem dX6_init_90 : decode cX6_init 90 = .ok (.bipush 80, 2) := by decide +kernel
theorem dX6_init_92 : decode cX6_init 92 = .ok (.newarray .int, 2) := by decide +kernel
theorem dX6_init_94 : decode cX6_init 94 = .ok (.putfield 44, 3) := by decide +kernel
theorem dX6_init_97 : decode cX6_init 97 = .ok (.aload_n 0, 1) := by decide +kernel
theorem dX6_init_98 : decode cX6_init 98 = .ok (.bipush 80, 2) := by decide +kernel
theorem dX6_init_100 : decode cX6_init 100 = .ok (.newarray .int, 2) := by decide +kernel
theorem dX6_init_102 : decode cX6_init 102 = .ok (.putfield 47, 3) := by decide +kernel
theorem dX6_init_105 : decode cX6_init 105 = .ok (.aload_n 0, 1) := by decide +kernel
theorem dX6_init_106 : decode cX6_init 106 = .ok (.bipush 80, 2) := by decide +kernel
theorem dX6_init_108 : decode cX6_init 108 = .ok (.newarray .int, 2) := by decide +kernel
theorem dX6_init_110 : decode cX6_init 110 = .ok (.putfield 50, 3) := by decide +kernel
theorem dX6_init_113 : decode cX6_init 113 = .ok (.aload_n 0, 1) := by decide +kernel
theorem dX6_init_114 : decode cX6_init 114 = .ok (.bipush 80, 2) := by decide +kernel
theorem dX6_init_116 : decode cX6_init 116 = .ok (.newarray .int, 2) := by decide +kernel
theorem dX6_init_118 : decode cX6_init 118 = .ok (.putfield 53, 3) := by decide +kernel
theorem dX6_init_121 : decode cX6_init 121 = .ok (.aload_n 0, 1) := by decide +kernel
theorem dX6_init_122 : decode cX6_init 122 = .ok (.bipush 80, 2) := by decide +kernel
theorem dX6_init_124 : decode cX6_init 124 = .ok (.newarray .int, 2) := by decide +kernel
theorem dX6_init_126 : decode cX6_init 126 = .ok (.putfield 56, 3) := by decide +kernel
theorem dX6_init_129 : decode cX6_init 129 = .ok (.aload_n 0, 1) := by decide +kernel
theorem dX6_init_130 : decode cX6_init 130 = .ok (.bipush 80, 2) := by decide +kernel
theorem dX6_init_132 : decode cX6_init 132 = .ok (.newarray .int, 2) := by decide +kernel
theorem dX6_init_134 : decode cX6_init 134 = .ok (.putfield 59, 3) := by decide +kernel
theorem dX6_init_137 : decode cX6_init 137 = .ok (.aload_n 0, 1) := by decide +kernel
theorem dX6_init_138 : decode cX6_init 138 = .ok (.bipush 40, 2) := by decide +kernel
theorem dX6_init_140 : decode cX6_init 140 = .ok (.newarray .int, 2) := by decide +kernel
theorem dX6_init_142 : decode cX6_init 142 = .ok (.putfield 62, 3) := by decide +kernel
theorem dX6_init_145 : decode cX6_init 145 = .ok (.aload_n 0, 1) := by decide +kernel
theorem dX6_init_146 : decode cX6_init 146 = .ok (.bipush 40, 2) := by decide +kernel
theorem dX6_init_148 : decode cX6_init 148 = .ok (.newarray .int, 2) := by decide +kernel
theorem dX6_init_150 : decode cX6_init 150 = .ok (.putfield 65, 3) := by decide +kernel
theorem dX6_init_153 : decode cX6_init 153 = .ok (.aload_n 0, 1) := by decide +kernel
theorem dX6_init_154 : decode cX6_init 154 = .ok (.bipush 40, 2) := by decide +kernel
theorem dX6_init_156 : decode cX6_init 156 = .ok (.newarray .int, 2) := by decide +kernel
theorem dX6_init_158 : decode cX6_init 158 = .ok (.putfield 68, 3) := by decide +kernel
theorem dX6_init_161 : decode cX6_init 161 = .ok (.aload_n 0, 1) := by decide +kernel
theorem dX6_init_162 : decode cX6_init 162 = .ok (.sipush 1681, 3) := by decide +kernel
theorem dX6_init_165 : decode cX6_init 165 = .ok (.newarray .long, 2) := by decide +kernel
theorem dX6_init_167 : decode cX6_init 167 = .ok (.putfield 71, 3) := by decide +kernel
theorem dX6_init_170 : decode cX6_init 170 = .ok (.aload_n 0, 1) := by decide +kernel
theorem dX6_init_171 : decode cX6_init 171 = .ok (.bipush 10, 2) := by decide +kernel
theorem dX6_init_173 : decode cX6_init 173 = .ok (.newarray .int, 2) := by decide +kernel
theorem dX6_init_175 : decode cX6_init 175 = .ok (.putfield 75, 3) := by decide +kernel
theorem dX6_init_178 : decode cX6_init 178 = .ok (.aload_n 0, 1) := by decide +kernel
theorem dX6_init_179 : decode cX6_init 179 = .ok (.sipush 28672, 3) := by decide +kernel
theorem dX6_init_182 : decode cX6_init 182 = .ok (.newarray .int, 2) := by decide +kernel
theorem dX6_init_184 : decode cX6_init 184 = .ok (.putfield 78, 3) := by decide +kernel
theorem dX6_init_187 : decode cX6_init 187 = .ok (.aload_n 0, 1) := by decide +kernel
theorem dX6_init_188 : decode cX6_init 188 = .ok (.bipush 10, 2) := by decide +kernel
theorem dX6_init_190 : decode cX6_init 190 = .ok (.newarray .int, 2) := by decide +kernel
theorem dX6_init_192 : decode cX6_init 192 = .ok (.putfield 81, 3) := by decide +kernel
theorem dX6_init_195 : decode cX6_init 195 = .ok (.aload_n 0, 1) := by decide +kernel
theorem dX6_init_196 : decode cX6_init 196 = .ok (.bipush 120, 2) := by decide +kernel
theorem dX6_init_198 : decode cX6_init 198 = .ok (.newarray .int, 2) := by decide +kernel
theorem dX6_init_200 : decode cX6_init 200 = .ok (.putfield 84, 3) := by decide +kernel
theorem dX6_init_203 : decode cX6_init 203 = .ok (.aload_n 0, 1) := by decide +kernel
theorem dX6_init_204 : decode cX6_init 204 = .ok (.bipush 64, 2) := by decide +kernel
theorem dX6_init_206 : decode cX6_init 206 = .ok (.newarray .int, 2) := by decide +kernel
theorem dX6_init_208 : decode cX6_init 208 = .ok (.putfield 87, 3) := by decide +kernel
theorem dX6_init_211 : decode cX6_init 211 = .ok (.iconst 0, 1) := by decide +kernel
theorem dX6_init_212 : decode cX6_init 212 = .ok (.istore_n 1, 1) := by decide +kernel
theorem dX6_init_213 : decode cX6_init 213 = .ok (.iload_n 1, 1) := by decide +kernel
theorem dX6_init_214 : decode cX6_init 214 = .ok (.bipush 10, 2) := by decide +kernel
theorem dX6_init_216 : decode cX6_init 216 = .ok (.if_icmp .ge 27, 3) := by decide +kernel
theorem dX6_init_219 : decode cX6_init 219 = .ok (.aload_n 0, 1) := by decide +kernel
theorem dX6_init_220 : decode cX6_init 220 = .ok (.getfield 7, 3) := by decide +kernel
theorem dX6_init_223 : decode cX6_init 223 = .ok (.iload_n 1, 1) := by decide +kernel
theorem dX6_init_224 : decode cX6_init 224 = .ok (.sipush 1600, 3) := by decide +kernel
theorem dX6_init_227 : decode cX6_init 227 = .ok (.iastore, 1) := by decide +kernel
theorem dX6_init_228 : decode cX6_init 228 = .ok (.aload_n 0, 1) := by decide +kernel
theorem dX6_init_229 : decode cX6_init 229 = .ok (.getfield 13, 3) := by decide +kernel
theorem dX6_init_232 : decode cX6_init 232 = .ok (.iload_n 1, 1) := by decide +kernel
theorem dX6_init_233 : decode cX6_init 233 = .ok (.sipush 1950, 3) := by decide +kernel
theorem dX6_init_236 : decode cX6_init 236 = .ok (.iastore, 1) := by decide +kernel
theorem dX6_init_237 : decode cX6_init 237 = .ok (.iinc 1 1, 3) := by decide +kernel
theorem dX6_init_240 : decode cX6_init 240 = .ok (.goto (-27), 3) := by decide +kernel
theorem dX6_init_243 : decode cX6_init 243 = .ok (.iconst 0, 1) := by decide +kernel
theorem dX6_init_244 : decode cX6_init 244 = .ok (.istore_n 1, 1) := by decide +kernel
theorem dX6_init_245 : decode cX6_init 245 = .ok (.iload_n 1, 1) := by decide +kernel
theorem dX6_init_246 : decode cX6_init 246 = .ok (.bipush 41, 2) := by decide +kernel
theorem dX6_init_248 : decode cX6_init 248 = .ok (.if_icmp .ge 75, 3) := by decide +kernel
theorem dX6_init_251 : decode cX6_init 251 = .ok (.iconst 0, 1) := by decide +kernel
theorem dX6_init_252 : decode cX6_init 252 = .ok (.istore_n 2, 1) := by decide +kernel
theorem dX6_init_253 : decode cX6_init 253 = .ok (.iload_n 2, 1) := by decide +kernel
theorem dX6_init_254 : decode cX6_init 254 = .ok (.iload_n 1, 1) := by decide +kernel
theorem dX6_init_255 : decode cX6_init 255 = .ok (.if_icmp .gt 62, 3) := by decide +kernel
theorem dX6_init_258 : decode cX6_init 258 = .ok (.aload_n 0, 1) := by decide +kernel
theorem dX6_init_259 : decode cX6_init 259 = .ok (.getfield 71, 3) := by decide +kernel
theorem dX6_init_262 : decode cX6_init 262 = .ok (.bipush 41, 2) := by decide +kernel
theorem dX6_init_264 : decode cX6_init 264 = .ok (.iload_n 1, 1) := by decide +kernel
theorem dX6_init_265 : decode cX6_init 265 = .ok (.imul, 1) := by decide +kernel
theorem dX6_init_266 : decode cX6_init 266 = .ok (.iload_n 2, 1) := by decide +kernel
theorem dX6_init_267 : decode cX6_init 267 = .ok (.iadd, 1) := by decide +kernel
theorem dX6_init_268 : decode cX6_init 268 = .ok (.iload_n 2, 1) := by decide +kernel
theorem dX6_init_269 : decode cX6_init 269 = .ok (.ifCond .eq 8, 3) := by decide +kernel
theorem dX6_init_272 : decode cX6_init 272 = .ok (.iload_n 2, 1) := by decide +kernel
theorem dX6_init_273 : decode cX6_init 273 = .ok (.iload_n 1, 1) := by decide +kernel
theorem dX6_init_274 : decode cX6_init 274 = .ok (.if_icmp .ne 7, 3) := by decide +kernel
theorem dX6_init_277 : decode cX6_init 277 = .ok (.lconst 1, 1) := by decide +kernel
theorem dX6_init_278 : decode cX6_init 278 = .ok (.goto 32, 3) := by decide +kernel
theorem dX6_init_281 : decode cX6_init 281 = .ok (.aload_n 0, 1) := by decide +kernel
theorem dX6_init_282 : decode cX6_init 282 = .ok (.getfield 71, 3) := by decide +kernel
theorem dX6_init_285 : decode cX6_init 285 = .ok (.bipush 41, 2) := by decide +kernel
theorem dX6_init_287 : decode cX6_init 287 = .ok (.iload_n 1, 1) := by decide +kernel
theorem dX6_init_288 : decode cX6_init 288 = .ok (.iconst 1, 1) := by decide +kernel
theorem dX6_init_289 : decode cX6_init 289 = .ok (.isub, 1) := by decide +kernel
theorem dX6_init_290 : decode cX6_init 290 = .ok (.imul, 1) := by decide +kernel
theorem dX6_init_291 : decode cX6_init 291 = .ok (.iload_n 2, 1) := by decide +kernel
theorem dX6_init_292 : decode cX6_init 292 = .ok (.iadd, 1) := by decide +kernel
theorem dX6_init_293 : decode cX6_init 293 = .ok (.iconst 1, 1) := by decide +kernel
theorem dX6_init_294 : decode cX6_init 294 = .ok (.isub, 1) := by decide +kernel
theorem dX6_init_295 : decode cX6_init 295 = .ok (.laload, 1) := by decide +kernel
theorem dX6_init_296 : decode cX6_init 296 = .ok (.aload_n 0, 1) := by decide +kernel
theorem dX6_init_297 : decode cX6_init 297 = .ok (.getfield 71, 3) := by decide +kernel
theorem dX6_init_300 : decode cX6_init 300 = .ok (.bipush 41, 2) := by decide +kernel
theorem dX6_init_302 : decode cX6_init 302 = .ok (.iload_n 1, 1) := by decide +kernel
theorem dX6_init_303 : decode cX6_init 303 = .ok (.iconst 1, 1) := by decide +kernel
theorem dX6_init_304 : decode cX6_init 304 = .ok (.isub, 1) := by decide +kernel
theorem dX6_init_305 : decode cX6_init 305 = .ok (.imul, 1) := by decide +kernel
theorem dX6_init_306 : decode cX6_init 306 = .ok (.iload_n 2, 1) := by decide +kernel
theorem dX6_init_307 : decode cX6_init 307 = .ok (.iadd, 1) := by decide +kernel
theorem dX6_init_308 : decode cX6_init 308 = .ok (.laload, 1) := by decide +kernel
theorem dX6_init_309 : decode cX6_init 309 = .ok (.ladd, 1) := by decide +kernel
theorem dX6_init_310 : decode cX6_init 310 = .ok (.lastore, 1) := by decide +kernel
theorem dX6_init_311 : decode cX6_init 311 = .ok (.iinc 2 1, 3) := by decide +kernel
theorem dX6_init_314 : decode cX6_init 314 = .ok (.goto (-61), 3) := by decide +kernel
theorem dX6_init_317 : decode cX6_init 317 = .ok (.iinc 1 1, 3) := by decide +kernel
theorem dX6_init_320 : decode cX6_init 320 = .ok (.goto (-75), 3) := by decide +kernel
theorem dX6_init_323 : decode cX6_init 323 = .ok (.return_, 1) := by decide +kernel
theorem dX6_in_0 : decode cX6_in 0 = .ok (.lload_n 0, 1) := by decide +kernel
theorem dX6_in_1 : decode cX6_in 1 = .ok (.lload_n 2, 1) := by decide +kernel
theorem dX6_in_2 : decode cX6_in 2 = .ok (.lcmp, 1) := by decide +kernel
theorem dX6_in_3 : decode cX6_in 3 = .ok (.ifCond .lt 14, 3) := by decide +kernel
theorem dX6_in_6 : decode cX6_in 6 = .ok (.lload_n 0, 1) := by decide +kernel
theorem dX6_in_7 : decode cX6_in 7 = .ok (.lload 4, 2) := by decide +kernel
theorem dX6_in_9 : decode cX6_in 9 = .ok (.lcmp, 1) := by decide +kernel
theorem dX6_in_10 : decode cX6_in 10 = .ok (.ifCond .gt 7, 3) := by decide +kernel
theorem dX6_in_13 : decode cX6_in 13 = .ok (.iconst 1, 1) := by decide +kernel
theorem dX6_in_14 : decode cX6_in 14 = .ok (.goto 4, 3) := by decide +kernel
theorem dX6_in_17 : decode cX6_in 17 = .ok (.iconst 0, 1) := by decide +kernel
theorem dX6_in_18 : decode cX6_in 18 = .ok (.ireturn, 1) := by decide +kernel
set_option maxRecDepth 20000 in
theorem ggX6_isDealer_X6_in : GoodIn wsX6_isDealer wsX6_in := goodIn_r _ [5] (by decide +kernel) (by decide +kernel)
set_option maxRecDepth 20000 in
theorem gX6_isDealer_X6_in : GoodIn wsX6_isDealer (va_wsS RX6 92 yX6_in wsX6_in) := goodIn_app (goodIn_of _ (by decide +kernel)) ggX6_isDealer_X6_in
theorem dX6_isDealer_0 : decode cX6_isDealer 0 = .ok (.iload_n 0, 1) := by decide +kernel
theorem dX6_isDealer_1 : decode cX6_isDealer 1 = .ok (.i2l, 1) := by decide +kernel
theorem dX6_isDealer_2 : decode cX6_isDealer 2 = .ok (.lconst 0, 1) := by decide +kernel
theorem dX6_isDealer_3 : decode cX6_isDealer 3 = .ok (.ldc2_w 90, 3) := by decide +kernel
theorem dX6_isDealer_6 : decode cX6_isDealer 6 = .ok (.invokestatic 92, 3) := by decide +kernel
theorem dX6_isDealer_9 : decode cX6_isDealer 9 = .ok (.ireturn, 1) := by decide +kernel
set_option maxRecDepth 20000 in
theorem ggX6_work_X6_in : GoodIn wsX6_work wsX6_in := goodIn_r _ [9] (by decide +kernel) (by decide +kernel)
set_option maxRecDepth 20000 in
theorem gX6_work_X6_in : GoodIn wsX6_work (va_wsS RX6 92 yX6_in wsX6_in) := goodIn_app (goodIn_of _ (by decide +kernel)) ggX6_work_X6_in
theorem dX6_work_0 : decode cX6_work 0 = .ok (.iload_n 1, 1) := by decide +kernel
theorem dX6_work_1 : decode cX6_work 1 = .ok (.i2l, 1) := by decide +kernel
theorem dX6_work_2 : decode cX6_work 2 = .ok (.lconst 0, 1) := by decide +kernel
theorem dX6_work_3 : decode cX6_work 3 = .ok (.ldc2_w 96, 3) := by decide +kernel
theorem dX6_work_6 : decode cX6_work 6 = .ok (.invokestatic 92, 3) := by decide +kernel
theorem dX6_work_9 : decode cX6_work 9 = .ok (.ifCond .eq 30, 3) := by decide +kernel
theorem dX6_work_12 : decode cX6_work 12 = .ok (.iload_n 2, 1) := by decide +kernel
theorem dX6_work_13 : decode cX6_work 13 = .ok (.i2l, 1) := by decide +kernel
theorem dX6_work_14 : decode cX6_work 14 = .ok (.ldc2_w 98, 3) := by decide +kernel
theorem dX6_work_17 : decode cX6_work 17 = .ok (.ldc2_w 100, 3) := by decide +kernel
theorem dX6_work_20 : decode cX6_work 20 = .ok (.invokestatic 92, 3) := by decide +kernel
theorem dX6_work_23 : decode cX6_work 23 = .ok (.ifCond .eq 16, 3) := by decide +kernel
theorem dX6_work_26 : decode cX6_work 26 = .ok (.iload_n 3, 1) := by decide +kernel
theorem dX6_work_27 : decode cX6_work 27 = .ok (.i2l, 1) := by decide +kernel
theorem dX6_work_28 : decode cX6_work 28 = .ok (.iload_n 2, 1) := by decide +kernel
theorem dX6_work_29 : decode cX6_work 29 = .ok (.i2l, 1) := by decide +kernel
theorem dX6_work_30 : decode cX6_work 30 = .ok (.ldc2_w 100, 3) := by decide +kernel
theorem dX6_work_33 : decode cX6_work 33 = .ok (.invokestatic 92, 3) := by decide +kernel
theorem dX6_work_36 : decode cX6_work 36 = .ok (.ifCond .ne 6, 3) := by decide +kernel
theorem dX6_work_39 : decode cX6_work 39 = .ok (.bipush (-2), 2) := by decide +kernel
theorem dX6_work_41 : decode cX6_work 41 = .ok (.ireturn, 1) := by decide +kernel
theorem dX6_work_42 : decode cX6_work 42 = .ok (.aload_n 0, 1) := by decide +kernel
theorem dX6_work_43 : decode cX6_work 43 = .ok (.getfield 7, 3) := by decide +kernel
theorem dX6_work_46 : decode cX6_work 46 = .ok (.iload_n 1, 1) := by decide +kernel
theorem dX6_work_47 : decode cX6_work 47 = .ok (.iload_n 2, 1) := by decide +kernel
theorem dX6_work_48 : decode cX6_work 48 = .ok (.iastore, 1) := by decide +kernel
theorem dX6_work_49 : decode cX6_work 49 = .ok (.aload_n 0, 1) := by decide +kernel
theorem dX6_work_50 : decode cX6_work 50 = .ok (.getfield 13, 3) := by decide +kernel
theorem dX6_work_53 : decode cX6_work 53 = .ok (.iload_n 1, 1) := by decide +kernel
theorem dX6_work_54 : decode cX6_work 54 = .ok (.iload_n 3, 1) := by decide +kernel
theorem dX6_work_55 : decode cX6_work 55 = .ok (.iastore, 1) := by decide +kernel
theorem dX6_work_56 : decode cX6_work 56 = .ok (.iconst 1, 1) := by decide +kernel
theorem dX6_work_57 : decode cX6_work 57 = .ok (.ireturn, 1) := by decide +kernel
set_option maxRecDepth 20000 in
theorem ggX6_thing_X6_in : GoodIn wsX6_thing wsX6_in := goodIn_r _ [12] (by decide +kernel) (by decide +kernel)
set_option maxRecDepth 20000 in
theorem gX6_thing_X6_in : GoodIn wsX6_thing (va_wsS RX6 92 yX6_in wsX6_in) := goodIn_app (goodIn_of _ (by decide +kernel)) ggX6_thing_X6_in
theorem dX6_thing_0 : decode cX6_thing 0 = .ok (.iload_n 1, 1) := by decide +kernel
theorem dX6_thing_1 : decode cX6_thing 1 = .ok (.i2l, 1) := by decide +kernel
theorem dX6_thing_2 : decode cX6_thing 2 = .ok (.lconst 1, 1) := by decide +kernel
theorem dX6_thing_3 : decode cX6_thing 3 = .ok (.ldc2_w 102, 3) := by decide +kernel
theorem dX6_thing_6 : decode cX6_thing 6 = .ok (.invokestatic 92, 3) := by decide +kernel
theorem dX6_thing_9 : decode cX6_thing 9 = .ok (.ifCond .ne 6, 3) := by decide +kernel
theorem dX6_thing_12 : decode cX6_thing 12 = .ok (.bipush (-2), 2) := by decide +kernel
theorem dX6_thing_14 : decode cX6_thing 14 = .ok (.ireturn, 1) := by decide +kernel
theorem dX6_thing_15 : decode cX6_thing 15 = .ok (.aload_n 0, 1) := by decide +kernel
theorem dX6_thing_16 : decode cX6_thing 16 = .ok (.getfield 104, 3) := by decide +kernel
theorem dX6_thing_19 : decode cX6_thing 19 = .ok (.bipush 12, 2) := by decide +kernel
theorem dX6_thing_21 : decode cX6_thing 21 = .ok (.if_icmp .ne 6, 3) := by decide +kernel
theorem dX6_thing_24 : decode cX6_thing 24 = .ok (.bipush (-4), 2) := by decide +kernel
theorem dX6_thing_26 : decode cX6_thing 26 = .ok (.ireturn, 1) := by decide +kernel
theorem dX6_thing_27 : decode cX6_thing 27 = .ok (.aload_n 0, 1) := by decide +kernel
theorem dX6_thing_28 : decode cX6_thing 28 = .ok (.getfield 16, 3) := by decide +kernel
theorem dX6_thing_31 : decode cX6_thing 31 = .ok (.aload_n 0, 1) := by decide +kernel
theorem dX6_thing_32 : decode cX6_thing 32 = .ok (.getfield 104, 3) := by decide +kernel
theorem dX6_thing_35 : decode cX6_thing 35 = .ok (.iload_n 1, 1) := by decide +kernel
theorem dX6_thing_36 : decode cX6_thing 36 = .ok (.iastore, 1) := by decide +kernel
theorem dX6_thing_37 : decode cX6_thing 37 = .ok (.iconst 0, 1) := by decide +kernel
theorem dX6_thing_38 : decode cX6_thing 38 = .ok (.istore_n 2, 1) := by decide +kernel
theorem dX6_thing_39 : decode cX6_thing 39 = .ok (.iload_n 2, 1) := by decide +kernel
theorem dX6_thing_40 : decode cX6_thing 40 = .ok (.iconst 5, 1) := by decide +kernel
theorem dX6_thing_41 : decode cX6_thing 41 = .ok (.if_icmp .ge 23, 3) := by decide +kernel
theorem dX6_thing_44 : decode cX6_thing 44 = .ok (.aload_n 0, 1) := by decide +kernel
theorem dX6_thing_45 : decode cX6_thing 45 = .ok (.getfield 19, 3) := by decide +kernel
theorem dX6_thing_48 : decode cX6_thing 48 = .ok (.iconst 5, 1) := by decide +kernel
theorem dX6_thing_49 : decode cX6_thing 49 = .ok (.aload_n 0, 1) := by decide +kernel
theorem dX6_thing_50 : decode cX6_thing 50 = .ok (.getfield 104, 3) := by decide +kernel
theorem dX6_thing_53 : decode cX6_thing 53 = .ok (.imul, 1) := by decide +kernel
theorem dX6_thing_54 : decode cX6_thing 54 = .ok (.iload_n 2, 1) := by decide +kernel
theorem dX6_thing_55 : decode cX6_thing 55 = .ok (.iadd, 1) := by decide +kernel
theorem dX6_thing_56 : decode cX6_thing 56 = .ok (.iconst 0, 1) := by decide +kernel
theorem dX6_thing_57 : decode cX6_thing 57 = .ok (.iastore, 1) := by decide +kernel
theorem dX6_thing_58 : decode cX6_thing 58 = .ok (.iinc 2 1, 3) := by decide +kernel
theorem dX6_thing_61 : decode cX6_thing 61 = .ok (.goto (-22), 3) := by decide +kernel
theorem dX6_thing_64 : decode cX6_thing 64 = .ok (.aload_n 0, 1) := by decide +kernel
theorem dX6_thing_65 : decode cX6_thing 65 = .ok (.getfield 22, 3) := by decide +kernel
theorem dX6_thing_68 : decode cX6_thing 68 = .ok (.aload_n 0, 1) := by decide +kernel
theorem dX6_thing_69 : decode cX6_thing 69 = .ok (.getfield 104, 3) := by decide +kernel
theorem dX6_thing_72 : decode cX6_thing 72 = .ok (.iconst (-1), 1) := by decide +kernel
theorem dX6_thing_73 : decode cX6_thing 73 = .ok (.iastore, 1) := by decide +kernel
theorem dX6_thing_74 : decode cX6_thing 74 = .ok (.aload_n 0, 1) := by decide +kernel
theorem dX6_thing_75 : decode cX6_thing 75 = .ok (.getfield 25, 3) := by decide +kernel
theorem dX6_thing_78 : decode cX6_thing 78 = .ok (.aload_n 0, 1) := by decide +kernel
theorem dX6_thing_79 : decode cX6_thing 79 = .ok (.getfield 104, 3) := by decide +kernel
theorem dX6_thing_82 : decode cX6_thing 82 = .ok (.iconst (-1), 1) := by decide +kernel
theorem dX6_thing_83 : decode cX6_thing 83 = .ok (.iastore, 1) := by decide +kernel
theorem dX6_thing_84 : decode cX6_thing 84 = .ok (.aload_n 0, 1) := by decide +kernel
theorem dX6_thing_85 : decode cX6_thing 85 = .ok (.getfield 28, 3) := by decide +kernel
theorem dX6_thing_88 : decode cX6_thing 88 = .ok (.aload_n 0, 1) := by decide +kernel
theorem dX6_thing_89 : decode cX6_thing 89 = .ok (.getfield 104, 3) := by decide +kernel
theorem dX6_thing_92 : decode cX6_thing 92 = .ok (.iconst 0, 1) := by decide +kernel
theorem dX6_thing_93 : decode cX6_thing 93 = .ok (.iastore, 1) := by decide +kernel
theorem dX6_thing_94 : decode cX6_thing 94 = .ok (.aload_n 0, 1) := by decide +kernel
theorem dX6_thing_95 : decode cX6_thing 95 = .ok (.getfield 31, 3) := by decide +kernel
theorem dX6_thing_98 : decode cX6_thing 98 = .ok (.aload_n 0, 1) := by decide +kernel
theorem dX6_thing_99 : decode cX6_thing 99 = .ok (.getfield 104, 3) := by decide +kernel
theorem dX6_thing_102 : decode cX6_thing 102 = .ok (.iconst 0, 1) := by decide +kernel
theorem dX6_thing_103 : decode cX6_thing 103 = .ok (.iastore, 1) := by decide +kernel
theorem dX6_thing_104 : decode cX6_thing 104 = .ok (.aload_n 0, 1) := by decide +kernel
theorem dX6_thing_105 : decode cX6_thing 105 = .ok (.dup, 1) := by decide +kernel
theorem dX6_thing_106 : decode cX6_thing 106 = .ok (.getfield 104, 3) := by decide +kernel
theorem dX6_thing_109 : decode cX6_thing 109 = .ok (.iconst 1, 1) := by decide +kernel
theorem dX6_thing_110 : decode cX6_thing 110 = .ok (.iadd, 1) := by decide +kernel
theorem dX6_thing_111 : decode cX6_thing 111 = .ok (.putfield 104, 3) := by decide +kernel
theorem dX6_thing_114 : decode cX6_thing 114 = .ok (.aload_n 0, 1) := by decide +kernel
theorem dX6_thing_115 : decode cX6_thing 115 = .ok (.getfield 104, 3) := by decide +kernel
theorem dX6_thing_118 : decode cX6_thing 118 = .ok (.iconst 1, 1) := by decide +kernel
theorem dX6_thing_119 : decode cX6_thing 119 = .ok (.isub, 1) := by decide +kernel
theorem dX6_thing_120 : decode cX6_thing 120 = .ok (.ireturn, 1) := by decide +kernel
set_option maxRecDepth 20000 in
theorem ggX6_noThing_X6_in : GoodIn wsX6_noThing wsX6_in := goodIn_r _ [5] (by decide +kernel) (by decide +kernel)
set_option maxRecDepth 20000 in
theorem gX6_noThing_X6_in : GoodIn wsX6_noThing (va_wsS RX6 92 yX6_in wsX6_in) := goodIn_app (goodIn_of _ (by decide +kernel)) ggX6_noThing_X6_in
theorem dX6_noThing_0 : decode cX6_noThing 0 = .ok (.iload_n 1, 1) := by decide +kernel
theorem dX6_noThing_1 : decode cX6_noThing 1 = .ok (.i2l, 1) := by decide +kernel
theorem dX6_noThing_2 : decode cX6_noThing 2 = .ok (.lconst 0, 1) := by decide +kernel
theorem dX6_noThing_3 : decode cX6_noThing 3 = .ok (.aload_n 0, 1) := by decide +kernel
theorem dX6_noThing_4 : decode cX6_noThing 4 = .ok (.getfield 104, 3) := by decide +kernel
theorem dX6_noThing_7 : decode cX6_noThing 7 = .ok (.iconst 1, 1) := by decide +kernel
theorem dX6_noThing_8 : decode cX6_noThing 8 = .ok (.isub, 1) := by decide +kernel
theorem dX6_noThing_9 : decode cX6_noThing 9 = .ok (.i2l, 1) := by decide +kernel
theorem dX6_noThing_10 : decode cX6_noThing 10 = .ok (.invokestatic 92, 3) := by decide +kernel
theorem dX6_noThing_13 : decode cX6_noThing 13 = .ok (.ifCond .ne 7, 3) := by decide +kernel
theorem dX6_noThing_16 : decode cX6_noThing 16 = .ok (.iconst 1, 1) := by decide +kernel
theorem dX6_noThing_17 : decode cX6_noThing 17 = .ok (.goto 4, 3) := by decide +kernel
theorem dX6_noThing_20 : decode cX6_noThing 20 = .ok (.iconst 0, 1) := by decide +kernel
theorem dX6_noThing_21 : decode cX6_noThing 21 = .ok (.ireturn, 1) := by decide +kernel
set_option maxRecDepth 20000 in
theorem ggX6_part_X6_noThing : GoodIn wsX6_part wsX6_noThing := goodIn_r _ [8, 9, 10, 11, 7, 12, 13, 14, 15, 16, 17, 18, 19, 20, 21, 22, 23, 24, 25, 26, 27, 28, 29, 30, 31, 32, 33, 34, 35, 36, 37, 38, 39, 40, 41, 42, 43, 44, 45, 46, 47, 48, 49, 50] (by decide +kernel) (by decide +kernel)
set_option maxRecDepth 20000 in
theorem gX6_part_X6_noThing : GoodIn wsX6_part (wsV RX6 107 RX6 yX6_noThing wsX6_noThing) := goodIn_app (goodIn_of _ (by decide +kernel)) ggX6_part_X6_noThing
set_option maxRecDepth 20000 in
theorem ggX6_part_X6_in : GoodIn wsX6_part wsX6_in := goodIn_r _ [12] (by decide +kernel) (by decide +kernel)
set_option maxRecDepth 20000 in
theorem gX6_part_X6_in : GoodIn wsX6_part (va_wsS RX6 92 yX6_in wsX6_in) := goodIn_app (goodIn_of _ (by decide +kernel)) ggX6_part_X6_in
theorem dX6_part_0 : decode cX6_part 0 = .ok (.aload_n 0, 1) := by decide +kernel
theorem dX6_part_1 : decode cX6_part 1 = .ok (.iload_n 1, 1) := by decide +kernel
theorem dX6_part_2 : decode cX6_part 2 = .ok (.invokevirtual 107, 3) := by decide +kernel
theorem dX6_part_5 : decode cX6_part 5 = .ok (.ifCond .ne 33, 3) := by decide +kernel
theorem dX6_part_8 : decode cX6_part 8 = .ok (.iload_n 2, 1) := by decide +kernel
theorem dX6_part_9 : decode cX6_part 9 = .ok (.i2l, 1) := by decide +kernel
theorem dX6_part_10 : decode cX6_part 10 = .ok (.lconst 0, 1) := by decide +kernel
theorem dX6_part_11 : decode cX6_part 11 = .ok (.aload_n 0, 1) := by decide +kernel
theorem dX6_part_12 : decode cX6_part 12 = .ok (.getfield 16, 3) := by decide +kernel
theorem dX6_part_15 : decode cX6_part 15 = .ok (.iload_n 1, 1) := by decide +kernel
theorem dX6_part_16 : decode cX6_part 16 = .ok (.iaload, 1) := by decide +kernel
theorem dX6_part_17 : decode cX6_part 17 = .ok (.iconst 1, 1) := by decide +kernel
theorem dX6_part_18 : decode cX6_part 18 = .ok (.isub, 1) := by decide +kernel
theorem dX6_part_19 : decode cX6_part 19 = .ok (.i2l, 1) := by decide +kernel
theorem dX6_part_20 : decode cX6_part 20 = .ok (.invokestatic 92, 3) := by decide +kernel
theorem dX6_part_23 : decode cX6_part 23 = .ok (.ifCond .eq 15, 3) := by decide +kernel
theorem dX6_part_26 : decode cX6_part 26 = .ok (.iload_n 3, 1) := by decide +kernel
theorem dX6_part_27 : decode cX6_part 27 = .ok (.i2l, 1) := by decide +kernel
theorem dX6_part_28 : decode cX6_part 28 = .ok (.lconst 0, 1) := by decide +kernel
theorem dX6_part_29 : decode cX6_part 29 = .ok (.ldc2_w 111, 3) := by decide +kernel
theorem dX6_part_32 : decode cX6_part 32 = .ok (.invokestatic 92, 3) := by decide +kernel
theorem dX6_part_35 : decode cX6_part 35 = .ok (.ifCond .ne 6, 3) := by decide +kernel
theorem dX6_part_38 : decode cX6_part 38 = .ok (.bipush (-2), 2) := by decide +kernel
theorem dX6_part_40 : decode cX6_part 40 = .ok (.ireturn, 1) := by decide +kernel
theorem dX6_part_41 : decode cX6_part 41 = .ok (.aload_n 0, 1) := by decide +kernel
theorem dX6_part_42 : decode cX6_part 42 = .ok (.getfield 19, 3) := by decide +kernel
theorem dX6_part_45 : decode cX6_part 45 = .ok (.iconst 5, 1) := by decide +kernel
theorem dX6_part_46 : decode cX6_part 46 = .ok (.iload_n 1, 1) := by decide +kernel
theorem dX6_part_47 : decode cX6_part 47 = .ok (.imul, 1) := by decide +kernel
theorem dX6_part_48 : decode cX6_part 48 = .ok (.iload_n 2, 1) := by decide +kernel
theorem dX6_part_49 : decode cX6_part 49 = .ok (.iadd, 1) := by decide +kernel
theorem dX6_part_50 : decode cX6_part 50 = .ok (.iaload, 1) := by decide +kernel
theorem dX6_part_51 : decode cX6_part 51 = .ok (.istore 4, 2) := by decide +kernel
theorem dX6_part_53 : decode cX6_part 53 = .ok (.aload_n 0, 1) := by decide +kernel
theorem dX6_part_54 : decode cX6_part 54 = .ok (.getfield 19, 3) := by decide +kernel
theorem dX6_part_57 : decode cX6_part 57 = .ok (.iconst 5, 1) := by decide +kernel
theorem dX6_part_58 : decode cX6_part 58 = .ok (.iload_n 1, 1) := by decide +kernel
theorem dX6_part_59 : decode cX6_part 59 = .ok (.imul, 1) := by decide +kernel
theorem dX6_part_60 : decode cX6_part 60 = .ok (.iload_n 2, 1) := by decide +kernel
theorem dX6_part_61 : decode cX6_part 61 = .ok (.iadd, 1) := by decide +kernel
theorem dX6_part_62 : decode cX6_part 62 = .ok (.iload_n 3, 1) := by decide +kernel
theorem dX6_part_63 : decode cX6_part 63 = .ok (.iastore, 1) := by decide +kernel
theorem dX6_part_64 : decode cX6_part 64 = .ok (.iload 4, 2) := by decide +kernel
theorem dX6_part_66 : decode cX6_part 66 = .ok (.ireturn, 1) := by decide +kernel
theorem dX6_narrow_0 : decode cX6_narrow 0 = .ok (.iconst 0, 1) := by decide +kernel
theorem dX6_narrow_1 : decode cX6_narrow 1 = .ok (.istore_n 3, 1) := by decide +kernel
theorem dX6_narrow_2 : decode cX6_narrow 2 = .ok (.iload_n 3, 1) := by decide +kernel
theorem dX6_narrow_3 : decode cX6_narrow 3 = .ok (.bipush 10, 2) := by decide +kernel
theorem dX6_narrow_5 : decode cX6_narrow 5 = .ok (.if_icmp .ge 87, 3) := by decide +kernel
theorem dX6_narrow_8 : decode cX6_narrow 8 = .ok (.aload_n 0, 1) := by decide +kernel
theorem dX6_narrow_9 : decode cX6_narrow 9 = .ok (.getfield 19, 3) := by decide +kernel
theorem dX6_narrow_12 : decode cX6_narrow 12 = .ok (.iconst 5, 1) := by decide +kernel
theorem dX6_narrow_13 : decode cX6_narrow 13 = .ok (.iload_n 1, 1) := by decide +kernel
theorem dX6_narrow_14 : decode cX6_narrow 14 = .ok (.imul, 1) := by decide +kernel
theorem dX6_narrow_15 : decode cX6_narrow 15 = .ok (.iload_n 2, 1) := by decide +kernel
theorem dX6_narrow_16 : decode cX6_narrow 16 = .ok (.iadd, 1) := by decide +kernel
theorem dX6_narrow_17 : decode cX6_narrow 17 = .ok (.iaload, 1) := by decide +kernel
theorem dX6_narrow_18 : decode cX6_narrow 18 = .ok (.iload_n 3, 1) := by decide +kernel
theorem dX6_narrow_19 : decode cX6_narrow 19 = .ok (.ishr, 1) := by decide +kernel
theorem dX6_narrow_20 : decode cX6_narrow 20 = .ok (.iconst 1, 1) := by decide +kernel
theorem dX6_narrow_21 : decode cX6_narrow 21 = .ok (.iand, 1) := by decide +kernel
theorem dX6_narrow_22 : decode cX6_narrow 22 = .ok (.iconst 1, 1) := by decide +kernel
theorem dX6_narrow_23 : decode cX6_narrow 23 = .ok (.if_icmp .ne 63, 3) := by decide +kernel
theorem dX6_narrow_26 : decode cX6_narrow 26 = .ok (.aload_n 0, 1) := by decide +kernel
theorem dX6_narrow_27 : decode cX6_narrow 27 = .ok (.aload_n 0, 1) := by decide +kernel
theorem dX6_narrow_28 : decode cX6_narrow 28 = .ok (.getfield 7, 3) := by decide +kernel
theorem dX6_narrow_31 : decode cX6_narrow 31 = .ok (.iload_n 3, 1) := by decide +kernel
theorem dX6_narrow_32 : decode cX6_narrow 32 = .ok (.iaload, 1) := by decide +kernel
theorem dX6_narrow_33 : decode cX6_narrow 33 = .ok (.aload_n 0, 1) := by decide +kernel
theorem dX6_narrow_34 : decode cX6_narrow 34 = .ok (.getfield 113, 3) := by decide +kernel
theorem dX6_narrow_37 : decode cX6_narrow 37 = .ok (.if_icmp .le 12, 3) := by decide +kernel
theorem dX6_narrow_40 : decode cX6_narrow 40 = .ok (.aload_n 0, 1) := by decide +kernel
theorem dX6_narrow_41 : decode cX6_narrow 41 = .ok (.getfield 7, 3) := by decide +kernel
theorem dX6_narrow_44 : decode cX6_narrow 44 = .ok (.iload_n 3, 1) := by decide +kernel
theorem dX6_narrow_45 : decode cX6_narrow 45 = .ok (.iaload, 1) := by decide +kernel
theorem dX6_narrow_46 : decode cX6_narrow 46 = .ok (.goto 7, 3) := by decide +kernel
theorem dX6_narrow_49 : decode cX6_narrow 49 = .ok (.aload_n 0, 1) := by decide +kernel
theorem dX6_narrow_50 : decode cX6_narrow 50 = .ok (.getfield 113, 3) := by decide +kernel
theorem dX6_narrow_53 : decode cX6_narrow 53 = .ok (.putfield 113, 3) := by decide +kernel
theorem dX6_narrow_56 : decode cX6_narrow 56 = .ok (.aload_n 0, 1) := by decide +kernel
theorem dX6_narrow_57 : decode cX6_narrow 57 = .ok (.aload_n 0, 1) := by decide +kernel
theorem dX6_narrow_58 : decode cX6_narrow 58 = .ok (.getfield 13, 3) := by decide +kernel
theorem dX6_narrow_61 : decode cX6_narrow 61 = .ok (.iload_n 3, 1) := by decide +kernel
theorem dX6_narrow_62 : decode cX6_narrow 62 = .ok (.iaload, 1) := by decide +kernel
theorem dX6_narrow_63 : decode cX6_narrow 63 = .ok (.aload_n 0, 1) := by decide +kernel
theorem dX6_narrow_64 : decode cX6_narrow 64 = .ok (.getfield 116, 3) := by decide +kernel
theorem dX6_narrow_67 : decode cX6_narrow 67 = .ok (.if_icmp .ge 12, 3) := by decide +kernel
theorem dX6_narrow_70 : decode cX6_narrow 70 = .ok (.aload_n 0, 1) := by decide +kernel
theorem dX6_narrow_71 : decode cX6_narrow 71 = .ok (.getfield 13, 3) := by decide +kernel
theorem dX6_narrow_74 : decode cX6_narrow 74 = .ok (.iload_n 3, 1) := by decide +kernel
theorem dX6_narrow_75 : decode cX6_narrow 75 = .ok (.iaload, 1) := by decide +kernel
theorem dX6_narrow_76 : decode cX6_narrow 76 = .ok (.goto 7, 3) := by decide +kernel
theorem dX6_narrow_79 : decode cX6_narrow 79 = .ok (.aload_n 0, 1) := by decide +kernel
theorem dX6_narrow_80 : decode cX6_narrow 80 = .ok (.getfield 116, 3) := by decide +kernel
theorem dX6_narrow_83 : decode cX6_narrow 83 = .ok (.putfield 116, 3) := by decide +kernel
theorem dX6_narrow_86 : decode cX6_narrow 86 = .ok (.iinc 3 1, 3) := by decide +kernel
theorem dX6_narrow_89 : decode cX6_narrow 89 = .ok (.goto (-87), 3) := by decide +kernel
theorem dX6_narrow_92 : decode cX6_narrow 92 = .ok (.return_, 1) := by decide +kernel
theorem dX6_allYears_0 : decode cX6_allYears 0 = .ok (.aload_n 0, 1) := by decide +kernel
theorem dX6_allYears_1 : decode cX6_allYears 1 = .ok (.sipush 1600, 3) := by decide +kernel
theorem dX6_allYears_4 : decode cX6_allYears 4 = .ok (.putfield 113, 3) := by decide +kernel
theorem dX6_allYears_7 : decode cX6_allYears 7 = .ok (.aload_n 0, 1) := by decide +kernel
theorem dX6_allYears_8 : decode cX6_allYears 8 = .ok (.sipush 1950, 3) := by decide +kernel
theorem dX6_allYears_11 : decode cX6_allYears 11 = .ok (.putfield 116, 3) := by decide +kernel
theorem dX6_allYears_14 : decode cX6_allYears 14 = .ok (.return_, 1) := by decide +kernel
set_option maxRecDepth 20000 in
theorem ggX6_span_X6_noThing : GoodIn wsX6_span wsX6_noThing := goodIn_r _ [8, 9, 10, 11, 7, 12, 24, 25, 26, 27, 28, 29, 30, 31, 32, 33, 34, 35, 36, 37, 38, 39, 40, 41, 42, 43, 44, 45, 46, 47, 48, 49, 50, 51, 52, 53, 54, 55, 56, 57, 58, 59, 60, 61] (by decide +kernel) (by decide +kernel)
set_option maxRecDepth 20000 in
theorem gX6_span_X6_noThing : GoodIn wsX6_span (wsV RX6 107 RX6 yX6_noThing wsX6_noThing) := goodIn_app (goodIn_of _ (by decide +kernel)) ggX6_span_X6_noThing
set_option maxRecDepth 20000 in
theorem ggX6_span_X6_in : GoodIn wsX6_span wsX6_in := goodIn_r _ [12] (by decide +kernel) (by decide +kernel)
set_option maxRecDepth 20000 in
theorem gX6_span_X6_in : GoodIn wsX6_span (va_wsS RX6 92 yX6_in wsX6_in) := goodIn_app (goodIn_of _ (by decide +kernel)) ggX6_span_X6_in
set_option maxRecDepth 20000 in
theorem ggX6_span_X6_allYears : GoodIn wsX6_span wsX6_allYears := goodIn_r _ [16, 2, 3, 24, 25, 26, 27, 28, 29, 30, 31, 32, 33, 34, 35, 36, 37, 38, 39, 40, 41, 42, 43, 44, 45, 46, 47, 48, 49, 50, 51, 52, 53, 54, 55, 56, 57, 58, 59, 60, 61] (by decide +kernel) (by decide +kernel)
set_option maxRecDepth 20000 in
theorem gX6_span_X6_allYears : GoodIn wsX6_span (wsV RX6 119 RX6 yX6_allYears wsX6_allYears) := goodIn_app (goodIn_of _ (by decide +kernel)) ggX6_span_X6_allYears
set_option maxRecDepth 20000 in
theorem ggX6_span_X6_narrow : GoodIn wsX6_span wsX6_narrow := goodIn_r _ [20, 21, 22, 2, 23, 3, 24, 25, 26, 27, 28, 29, 30, 31, 32, 33, 34, 35, 36, 37, 38, 39, 40, 41, 42, 43, 44, 45, 46, 47, 48, 49, 50, 51, 52, 53, 54, 55, 56, 57, 58, 59, 60, 61] (by decide +kernel) (by decide +kernel)
set_option maxRecDepth 20000 in
theorem gX6_span_X6_narrow : GoodIn wsX6_span (wsV RX6 122 RX6 yX6_narrow wsX6_narrow) := goodIn_app (goodIn_of _ (by decide +kernel)) ggX6_span_X6_narrow
theorem dX6_span_0 : decode cX6_span 0 = .ok (.aload_n 0, 1) := by decide +kernel
theorem dX6_span_1 : decode cX6_span 1 = .ok (.iload_n 1, 1) := by decide +kernel
theorem dX6_span_2 : decode cX6_span 2 = .ok (.invokevirtual 107, 3) := by decide +kernel
theorem dX6_span_5 : decode cX6_span 5 = .ok (.ifCond .ne 31, 3) := by decide +kernel
theorem dX6_span_8 : decode cX6_span 8 = .ok (.iload_n 2, 1) := by decide +kernel
theorem dX6_span_9 : decode cX6_span 9 = .ok (.i2l, 1) := by decide +kernel
theorem dX6_span_10 : decode cX6_span 10 = .ok (.lconst 0, 1) := by decide +kernel
theorem dX6_span_11 : decode cX6_span 11 = .ok (.aload_n 0, 1) := by decide +kernel
theorem dX6_span_12 : decode cX6_span 12 = .ok (.getfield 16, 3) := by decide +kernel
theorem dX6_span_15 : decode cX6_span 15 = .ok (.iload_n 1, 1) := by decide +kernel
theorem dX6_span_16 : decode cX6_span 16 = .ok (.iaload, 1) := by decide +kernel
theorem dX6_span_17 : decode cX6_span 17 = .ok (.iconst 1, 1) := by decide +kernel
theorem dX6_span_18 : decode cX6_span 18 = .ok (.isub, 1) := by decide +kernel
theorem dX6_span_19 : decode cX6_span 19 = .ok (.i2l, 1) := by decide +kernel
theorem dX6_span_20 : decode cX6_span 20 = .ok (.invokestatic 92, 3) := by decide +kernel
theorem dX6_span_23 : decode cX6_span 23 = .ok (.ifCond .eq 13, 3) := by decide +kernel
theorem dX6_span_26 : decode cX6_span 26 = .ok (.iload_n 3, 1) := by decide +kernel
theorem dX6_span_27 : decode cX6_span 27 = .ok (.i2l, 1) := by decide +kernel
theorem dX6_span_28 : decode cX6_span 28 = .ok (.lconst 0, 1) := by decide +kernel
theorem dX6_span_29 : decode cX6_span 29 = .ok (.lconst 1, 1) := by decide +kernel
theorem dX6_span_30 : decode cX6_span 30 = .ok (.invokestatic 92, 3) := by decide +kernel
theorem dX6_span_33 : decode cX6_span 33 = .ok (.ifCond .ne 6, 3) := by decide +kernel
theorem dX6_span_36 : decode cX6_span 36 = .ok (.bipush (-2), 2) := by decide +kernel
theorem dX6_span_38 : decode cX6_span 38 = .ok (.ireturn, 1) := by decide +kernel
theorem dX6_span_39 : decode cX6_span 39 = .ok (.aload_n 0, 1) := by decide +kernel
theorem dX6_span_40 : decode cX6_span 40 = .ok (.invokevirtual 119, 3) := by decide +kernel
theorem dX6_span_43 : decode cX6_span 43 = .ok (.aload_n 0, 1) := by decide +kernel
theorem dX6_span_44 : decode cX6_span 44 = .ok (.iload_n 1, 1) := by decide +kernel
theorem dX6_span_45 : decode cX6_span 45 = .ok (.iload_n 2, 1) := by decide +kernel
theorem dX6_span_46 : decode cX6_span 46 = .ok (.invokevirtual 122, 3) := by decide +kernel
theorem dX6_span_49 : decode cX6_span 49 = .ok (.aload_n 0, 1) := by decide +kernel
theorem dX6_span_50 : decode cX6_span 50 = .ok (.getfield 113, 3) := by decide +kernel
theorem dX6_span_53 : decode cX6_span 53 = .ok (.aload_n 0, 1) := by decide +kernel
theorem dX6_span_54 : decode cX6_span 54 = .ok (.getfield 116, 3) := by decide +kernel
theorem dX6_span_57 : decode cX6_span 57 = .ok (.if_icmp .le 7, 3) := by decide +kernel
theorem dX6_span_60 : decode cX6_span 60 = .ok (.iconst (-1), 1) := by decide +kernel
theorem dX6_span_61 : decode cX6_span 61 = .ok (.goto 18, 3) := by decide +kernel
theorem dX6_span_64 : decode cX6_span 64 = .ok (.iload_n 3, 1) := by decide +kernel
theorem dX6_span_65 : decode cX6_span 65 = .ok (.ifCond .ne 10, 3) := by decide +kernel
theorem dX6_span_68 : decode cX6_span 68 = .ok (.aload_n 0, 1) := by decide +kernel
theorem dX6_span_69 : decode cX6_span 69 = .ok (.getfield 113, 3) := by decide +kernel
theorem dX6_span_72 : decode cX6_span 72 = .ok (.goto 7, 3) := by decide +kernel
theorem dX6_span_75 : decode cX6_span 75 = .ok (.aload_n 0, 1) := by decide +kernel
theorem dX6_span_76 : decode cX6_span 76 = .ok (.getfield 116, 3) := by decide +kernel
theorem dX6_span_79 : decode cX6_span 79 = .ok (.ireturn, 1) := by decide +kernel
theorem dX6_bits_0 : decode cX6_bits 0 = .ok (.iconst 0, 1) := by decide +kernel
theorem dX6_bits_1 : decode cX6_bits 1 = .ok (.istore_n 1, 1) := by decide +kernel
theorem dX6_bits_2 : decode cX6_bits 2 = .ok (.iconst 0, 1) := by decide +kernel
theorem dX6_bits_3 : decode cX6_bits 3 = .ok (.istore_n 2, 1) := by decide +kernel
theorem dX6_bits_4 : decode cX6_bits 4 = .ok (.iload_n 2, 1) := by decide +kernel
theorem dX6_bits_5 : decode cX6_bits 5 = .ok (.bipush 16, 2) := by decide +kernel
theorem dX6_bits_7 : decode cX6_bits 7 = .ok (.if_icmp .ge 17, 3) := by decide +kernel
theorem dX6_bits_10 : decode cX6_bits 10 = .ok (.iload_n 1, 1) := by decide +kernel
theorem dX6_bits_11 : decode cX6_bits 11 = .ok (.iload_n 0, 1) := by decide +kernel
theorem dX6_bits_12 : decode cX6_bits 12 = .ok (.iload_n 2, 1) := by decide +kernel
theorem dX6_bits_13 : decode cX6_bits 13 = .ok (.ishr, 1) := by decide +kernel
theorem dX6_bits_14 : decode cX6_bits 14 = .ok (.iconst 1, 1) := by decide +kernel
theorem dX6_bits_15 : decode cX6_bits 15 = .ok (.iand, 1) := by decide +kernel
theorem dX6_bits_16 : decode cX6_bits 16 = .ok (.iadd, 1) := by decide +kernel
theorem dX6_bits_17 : decode cX6_bits 17 = .ok (.istore_n 1, 1) := by decide +kernel
theorem dX6_bits_18 : decode cX6_bits 18 = .ok (.iinc 2 1, 3) := by decide +kernel
theorem dX6_bits_21 : decode cX6_bits 21 = .ok (.goto (-17), 3) := by decide +kernel
theorem dX6_bits_24 : decode cX6_bits 24 = .ok (.iload_n 1, 1) := by decide +kernel
theorem dX6_bits_25 : decode cX6_bits 25 = .ok (.ireturn, 1) := by decide +kernel
set_option maxRecDepth 20000 in
theorem ggX6_findApart_X6_allYears : GoodIn wsX6_findApart wsX6_allYears := goodIn_r _ [8, 2, 3, 19, 20, 21, 22, 23, 24, 25, 26, 27, 28, 29, 30, 31, 32, 33, 34, 35, 36, 37, 38, 39, 40, 41, 42, 43, 44, 45, 46, 47, 48, 49, 50, 51, 52, 53, 54, 55, 56] (by decide +kernel) (by decide +kernel)
set_option maxRecDepth 20000 in
theorem gX6_findApart_X6_allYears : GoodIn wsX6_findApart (wsV RX6 119 RX6 yX6_allYears wsX6_allYears) := goodIn_app (goodIn_of _ (by decide +kernel)) ggX6_findApart_X6_allYears
set_option maxRecDepth 20000 in
theorem ggX6_findApart_X6_narrow : GoodIn wsX6_findApart wsX6_narrow := goodIn_r _ [12, 13, 14, 2, 15, 3, 19, 20, 21, 22, 23, 24, 25, 26, 27, 28, 29, 30, 31, 32, 33, 34, 35, 36, 37, 38, 39, 40, 41, 42, 43, 44, 45, 46, 47, 48, 49, 50, 51, 52, 53, 54, 55, 56] (by decide +kernel) (by decide +kernel)
set_option maxRecDepth 20000 in
theorem gX6_findApart_X6_narrow : GoodIn wsX6_findApart (wsV RX6 122 RX6 yX6_narrow wsX6_narrow) := goodIn_app (goodIn_of _ (by decide +kernel)) ggX6_findApart_X6_narrow
set_option maxRecDepth 20000 in
theorem ggX6_findApart_X6_bits : GoodIn wsX6_findApart wsX6_bits := goodIn_r _ [18] (by decide +kernel) (by decide +kernel)
set_option maxRecDepth 20000 in
theorem gX6_findApart_X6_bits : GoodIn wsX6_findApart (va_wsS RX6 126 yX6_bits wsX6_bits) := goodIn_app (goodIn_of _ (by decide +kernel)) ggX6_findApart_X6_bits
theorem dX6_findApart_0 : decode cX6_findApart 0 = .ok (.iconst (-1), 1) := by decide +kernel
theorem dX6_findApart_1 : decode cX6_findApart 1 = .ok (.istore_n 2, 1) := by decide +kernel
theorem dX6_findApart_2 : decode cX6_findApart 2 = .ok (.iconst 0, 1) := by decide +kernel
theorem dX6_findApart_3 : decode cX6_findApart 3 = .ok (.istore_n 3, 1) := by decide +kernel
theorem dX6_findApart_4 : decode cX6_findApart 4 = .ok (.iload_n 3, 1) := by decide +kernel
theorem dX6_findApart_5 : decode cX6_findApart 5 = .ok (.iconst 1, 1) := by decide +kernel
theorem dX6_findApart_6 : decode cX6_findApart 6 = .ok (.aload_n 0, 1) := by decide +kernel
theorem dX6_findApart_7 : decode cX6_findApart 7 = .ok (.getfield 16, 3) := by decide +kernel
theorem dX6_findApart_10 : decode cX6_findApart 10 = .ok (.iload_n 1, 1) := by decide +kernel
theorem dX6_findApart_11 : decode cX6_findApart 11 = .ok (.iaload, 1) := by decide +kernel
theorem dX6_findApart_12 : decode cX6_findApart 12 = .ok (.ishl, 1) := by decide +kernel
theorem dX6_findApart_13 : decode cX6_findApart 13 = .ok (.iconst 1, 1) := by decide +kernel
theorem dX6_findApart_14 : decode cX6_findApart 14 = .ok (.isub, 1) := by decide +kernel
theorem dX6_findApart_15 : decode cX6_findApart 15 = .ok (.if_icmp .ge 77, 3) := by decide +kernel
theorem dX6_findApart_18 : decode cX6_findApart 18 = .ok (.aload_n 0, 1) := by decide +kernel
theorem dX6_findApart_19 : decode cX6_findApart 19 = .ok (.invokevirtual 119, 3) := by decide +kernel
theorem dX6_findApart_22 : decode cX6_findApart 22 = .ok (.iconst 0, 1) := by decide +kernel
theorem dX6_findApart_23 : decode cX6_findApart 23 = .ok (.istore 4, 2) := by decide +kernel
theorem dX6_findApart_25 : decode cX6_findApart 25 = .ok (.iload 4, 2) := by decide +kernel
theorem dX6_findApart_27 : decode cX6_findApart 27 = .ok (.aload_n 0, 1) := by decide +kernel
theorem dX6_findApart_28 : decode cX6_findApart 28 = .ok (.getfield 16, 3) := by decide +kernel
theorem dX6_findApart_31 : decode cX6_findApart 31 = .ok (.iload_n 1, 1) := by decide +kernel
theorem dX6_findApart_32 : decode cX6_findApart 32 = .ok (.iaload, 1) := by decide +kernel
theorem dX6_findApart_33 : decode cX6_findApart 33 = .ok (.if_icmp .ge 25, 3) := by decide +kernel
theorem dX6_findApart_36 : decode cX6_findApart 36 = .ok (.iload_n 3, 1) := by decide +kernel
theorem dX6_findApart_37 : decode cX6_findApart 37 = .ok (.iload 4, 2) := by decide +kernel
theorem dX6_findApart_39 : decode cX6_findApart 39 = .ok (.ishr, 1) := by decide +kernel
theorem dX6_findApart_40 : decode cX6_findApart 40 = .ok (.iconst 1, 1) := by decide +kernel
theorem dX6_findApart_41 : decode cX6_findApart 41 = .ok (.iand, 1) := by decide +kernel
theorem dX6_findApart_42 : decode cX6_findApart 42 = .ok (.ifCond .ne 10, 3) := by decide +kernel
theorem dX6_findApart_45 : decode cX6_findApart 45 = .ok (.aload_n 0, 1) := by decide +kernel
theorem dX6_findApart_46 : decode cX6_findApart 46 = .ok (.iload_n 1, 1) := by decide +kernel
theorem dX6_findApart_47 : decode cX6_findApart 47 = .ok (.iload 4, 2) := by decide +kernel
theorem dX6_findApart_49 : decode cX6_findApart 49 = .ok (.invokevirtual 122, 3) := by decide +kernel
theorem dX6_findApart_52 : decode cX6_findApart 52 = .ok (.iinc 4 1, 3) := by decide +kernel
theorem dX6_findApart_55 : decode cX6_findApart 55 = .ok (.goto (-30), 3) := by decide +kernel
theorem dX6_findApart_58 : decode cX6_findApart 58 = .ok (.aload_n 0, 1) := by decide +kernel
theorem dX6_findApart_59 : decode cX6_findApart 59 = .ok (.getfield 113, 3) := by decide +kernel
theorem dX6_findApart_62 : decode cX6_findApart 62 = .ok (.aload_n 0, 1) := by decide +kernel
theorem dX6_findApart_63 : decode cX6_findApart 63 = .ok (.getfield 116, 3) := by decide +kernel
theorem dX6_findApart_66 : decode cX6_findApart 66 = .ok (.if_icmp .gt 20, 3) := by decide +kernel
theorem dX6_findApart_69 : decode cX6_findApart 69 = .ok (.iload_n 2, 1) := by decide +kernel
theorem dX6_findApart_70 : decode cX6_findApart 70 = .ok (.ifCond .lt 14, 3) := by decide +kernel
theorem dX6_findApart_73 : decode cX6_findApart 73 = .ok (.iload_n 3, 1) := by decide +kernel
theorem dX6_findApart_74 : decode cX6_findApart 74 = .ok (.invokestatic 126, 3) := by decide +kernel
theorem dX6_findApart_77 : decode cX6_findApart 77 = .ok (.iload_n 2, 1) := by decide +kernel
theorem dX6_findApart_78 : decode cX6_findApart 78 = .ok (.invokestatic 126, 3) := by decide +kernel
theorem dX6_findApart_81 : decode cX6_findApart 81 = .ok (.if_icmp .ge 5, 3) := by decide +kernel
theorem dX6_findApart_84 : decode cX6_findApart 84 = .ok (.iload_n 3, 1) := by decide +kernel
theorem dX6_findApart_85 : decode cX6_findApart 85 = .ok (.istore_n 2, 1) := by decide +kernel
theorem dX6_findApart_86 : decode cX6_findApart 86 = .ok (.iinc 3 1, 3) := by decide +kernel
theorem dX6_findApart_89 : decode cX6_findApart 89 = .ok (.goto (-85), 3) := by decide +kernel
theorem dX6_findApart_92 : decode cX6_findApart 92 = .ok (.aload_n 0, 1) := by decide +kernel
theorem dX6_findApart_93 : decode cX6_findApart 93 = .ok (.invokevirtual 119, 3) := by decide +kernel
theorem dX6_findApart_96 : decode cX6_findApart 96 = .ok (.iconst 0, 1) := by decide +kernel
theorem dX6_findApart_97 : decode cX6_findApart 97 = .ok (.istore_n 3, 1) := by decide +kernel
theorem dX6_findApart_98 : decode cX6_findApart 98 = .ok (.iload_n 3, 1) := by decide +kernel
theorem dX6_findApart_99 : decode cX6_findApart 99 = .ok (.aload_n 0, 1) := by decide +kernel
theorem dX6_findApart_100 : decode cX6_findApart 100 = .ok (.getfield 16, 3) := by decide +kernel
theorem dX6_findApart_103 : decode cX6_findApart 103 = .ok (.iload_n 1, 1) := by decide +kernel
theorem dX6_findApart_104 : decode cX6_findApart 104 = .ok (.iaload, 1) := by decide +kernel
theorem dX6_findApart_105 : decode cX6_findApart 105 = .ok (.if_icmp .ge 27, 3) := by decide +kernel
theorem dX6_findApart_108 : decode cX6_findApart 108 = .ok (.iload_n 2, 1) := by decide +kernel
theorem dX6_findApart_109 : decode cX6_findApart 109 = .ok (.ifCond .lt 23, 3) := by decide +kernel
theorem dX6_findApart_112 : decode cX6_findApart 112 = .ok (.iload_n 2, 1) := by decide +kernel
theorem dX6_findApart_113 : decode cX6_findApart 113 = .ok (.iload_n 3, 1) := by decide +kernel
theorem dX6_findApart_114 : decode cX6_findApart 114 = .ok (.ishr, 1) := by decide +kernel
theorem dX6_findApart_115 : decode cX6_findApart 115 = .ok (.iconst 1, 1) := by decide +kernel
theorem dX6_findApart_116 : decode cX6_findApart 116 = .ok (.iand, 1) := by decide +kernel
theorem dX6_findApart_117 : decode cX6_findApart 117 = .ok (.ifCond .ne 9, 3) := by decide +kernel
theorem dX6_findApart_120 : decode cX6_findApart 120 = .ok (.aload_n 0, 1) := by decide +kernel
theorem dX6_findApart_121 : decode cX6_findApart 121 = .ok (.iload_n 1, 1) := by decide +kernel
theorem dX6_findApart_122 : decode cX6_findApart 122 = .ok (.iload_n 3, 1) := by decide +kernel
theorem dX6_findApart_123 : decode cX6_findApart 123 = .ok (.invokevirtual 122, 3) := by decide +kernel
theorem dX6_findApart_126 : decode cX6_findApart 126 = .ok (.iinc 3 1, 3) := by decide +kernel
theorem dX6_findApart_129 : decode cX6_findApart 129 = .ok (.goto (-31), 3) := by decide +kernel
theorem dX6_findApart_132 : decode cX6_findApart 132 = .ok (.iload_n 2, 1) := by decide +kernel
theorem dX6_findApart_133 : decode cX6_findApart 133 = .ok (.ireturn, 1) := by decide +kernel
set_option maxRecDepth 20000 in
theorem ggX6_apart_X6_noThing : GoodIn wsX6_apart wsX6_noThing := goodIn_r _ [5, 6, 7, 8, 4, 9, 31, 32, 33, 34, 35, 36, 37, 38, 39, 40, 41, 42, 43, 44, 45, 46, 47, 48, 49, 50, 51, 52, 53, 54, 55, 56, 57, 58, 59, 60, 61, 62, 63, 64, 65, 66, 67, 68] (by decide +kernel) (by decide +kernel)
set_option maxRecDepth 20000 in
theorem gX6_apart_X6_noThing : GoodIn wsX6_apart (wsV RX6 107 RX6 yX6_noThing wsX6_noThing) := goodIn_app (goodIn_of _ (by decide +kernel)) ggX6_apart_X6_noThing
set_option maxRecDepth 20000 in
theorem ggX6_apart_X6_findApart : GoodIn wsX6_apart wsX6_findApart := goodIn_r _ [13, 14, 15, 16, 17, 18, 19, 4, 20, 21, 22, 23, 24, 25, 26, 27, 28, 29, 30, 31, 32, 33, 34, 35, 36, 37, 38, 39, 40, 41, 42, 43, 44, 45, 46, 47, 48, 49, 50, 51, 52, 53, 54, 55, 56, 57, 58, 59, 60, 61, 62, 63, 64, 65, 66, 67, 68] (by decide +kernel) (by decide +kernel)
set_option maxRecDepth 20000 in
theorem gX6_apart_X6_findApart : GoodIn wsX6_apart (wsV RX6 130 RX6 yX6_findApart wsX6_findApart) := goodIn_app (goodIn_of _ (by decide +kernel)) ggX6_apart_X6_findApart
theorem dX6_apart_0 : decode cX6_apart 0 = .ok (.aload_n 0, 1) := by decide +kernel
theorem dX6_apart_1 : decode cX6_apart 1 = .ok (.iload_n 1, 1) := by decide +kernel
theorem dX6_apart_2 : decode cX6_apart 2 = .ok (.invokevirtual 107, 3) := by decide +kernel
theorem dX6_apart_5 : decode cX6_apart 5 = .ok (.ifCond .eq 8, 3) := by decide +kernel
theorem dX6_apart_8 : decode cX6_apart 8 = .ok (.bipush (-2), 2) := by decide +kernel
theorem dX6_apart_10 : decode cX6_apart 10 = .ok (.goto 8, 3) := by decide +kernel
theorem dX6_apart_13 : decode cX6_apart 13 = .ok (.aload_n 0, 1) := by decide +kernel
theorem dX6_apart_14 : decode cX6_apart 14 = .ok (.iload_n 1, 1) := by decide +kernel
theorem dX6_apart_15 : decode cX6_apart 15 = .ok (.invokevirtual 130, 3) := by decide +kernel
theorem dX6_apart_18 : decode cX6_apart 18 = .ok (.ireturn, 1) := by decide +kernel
set_option maxRecDepth 20000 in
theorem ggX6_date_X6_noThing : GoodIn wsX6_date wsX6_noThing := goodIn_r _ [7, 8, 9, 10, 6, 11, 31, 32, 33, 34, 35, 36, 37, 38, 39, 40, 41, 42, 43, 44, 45, 46, 47, 48, 49, 50, 51, 52, 53, 54, 55, 56, 57, 58, 59, 60, 61, 62, 63, 64, 65, 66, 67, 68] (by decide +kernel) (by decide +kernel)
set_option maxRecDepth 20000 in
theorem gX6_date_X6_noThing : GoodIn wsX6_date (wsV RX6 107 RX6 yX6_noThing wsX6_noThing) := goodIn_app (goodIn_of _ (by decide +kernel)) ggX6_date_X6_noThing
set_option maxRecDepth 20000 in
theorem ggX6_date_X6_in : GoodIn wsX6_date wsX6_in := goodIn_r _ [11] (by decide +kernel) (by decide +kernel)
set_option maxRecDepth 20000 in
theorem gX6_date_X6_in : GoodIn wsX6_date (va_wsS RX6 92 yX6_in wsX6_in) := goodIn_app (goodIn_of _ (by decide +kernel)) ggX6_date_X6_in
set_option maxRecDepth 20000 in
theorem ggX6_date_X6_findApart : GoodIn wsX6_date wsX6_findApart := goodIn_r _ [15, 16, 1, 2, 17, 18, 19, 6, 20, 21, 22, 23, 24, 25, 26, 27, 28, 29, 30, 31, 32, 33, 34, 35, 36, 37, 38, 39, 40, 41, 42, 43, 44, 45, 46, 47, 48, 49, 50, 51, 52, 53, 54, 55, 56, 57, 58, 59, 60, 61, 62, 63, 64, 65, 66, 67, 68] (by decide +kernel) (by decide +kernel)
set_option maxRecDepth 20000 in
theorem gX6_date_X6_findApart : GoodIn wsX6_date (wsV RX6 130 RX6 yX6_findApart wsX6_findApart) := goodIn_app (goodIn_of _ (by decide +kernel)) ggX6_date_X6_findApart
theorem dX6_date_0 : decode cX6_date 0 = .ok (.aload_n 0, 1) := by decide +kernel
theorem dX6_date_1 : decode cX6_date 1 = .ok (.iload_n 1, 1) := by decide +kernel
theorem dX6_date_2 : decode cX6_date 2 = .ok (.invokevirtual 107, 3) := by decide +kernel
theorem dX6_date_5 : decode cX6_date 5 = .ok (.ifCond .ne 13, 3) := by decide +kernel
theorem dX6_date_8 : decode cX6_date 8 = .ok (.iload_n 2, 1) := by decide +kernel
theorem dX6_date_9 : decode cX6_date 9 = .ok (.i2l, 1) := by decide +kernel
theorem dX6_date_10 : decode cX6_date 10 = .ok (.lconst 0, 1) := by decide +kernel
theorem dX6_date_11 : decode cX6_date 11 = .ok (.lconst 1, 1) := by decide +kernel
theorem dX6_date_12 : decode cX6_date 12 = .ok (.invokestatic 92, 3) := by decide +kernel
theorem dX6_date_15 : decode cX6_date 15 = .ok (.ifCond .ne 6, 3) := by decide +kernel
theorem dX6_date_18 : decode cX6_date 18 = .ok (.bipush (-2), 2) := by decide +kernel
theorem dX6_date_20 : decode cX6_date 20 = .ok (.ireturn, 1) := by decide +kernel
theorem dX6_date_21 : decode cX6_date 21 = .ok (.aload_n 0, 1) := by decide +kernel
theorem dX6_date_22 : decode cX6_date 22 = .ok (.iload_n 1, 1) := by decide +kernel
theorem dX6_date_23 : decode cX6_date 23 = .ok (.invokevirtual 130, 3) := by decide +kernel
theorem dX6_date_26 : decode cX6_date 26 = .ok (.istore_n 3, 1) := by decide +kernel
theorem dX6_date_27 : decode cX6_date 27 = .ok (.iload_n 3, 1) := by decide +kernel
theorem dX6_date_28 : decode cX6_date 28 = .ok (.ifCond .ge 7, 3) := by decide +kernel
theorem dX6_date_31 : decode cX6_date 31 = .ok (.iconst (-1), 1) := by decide +kernel
theorem dX6_date_32 : decode cX6_date 32 = .ok (.goto 18, 3) := by decide +kernel
theorem dX6_date_35 : decode cX6_date 35 = .ok (.iload_n 2, 1) := by decide +kernel
theorem dX6_date_36 : decode cX6_date 36 = .ok (.ifCond .ne 10, 3) := by decide +kernel
theorem dX6_date_39 : decode cX6_date 39 = .ok (.aload_n 0, 1) := by decide +kernel
theorem dX6_date_40 : decode cX6_date 40 = .ok (.getfield 113, 3) := by decide +kernel
theorem dX6_date_43 : decode cX6_date 43 = .ok (.goto 7, 3) := by decide +kernel
theorem dX6_date_46 : decode cX6_date 46 = .ok (.aload_n 0, 1) := by decide +kernel
theorem dX6_date_47 : decode cX6_date 47 = .ok (.getfield 116, 3) := by decide +kernel
theorem dX6_date_50 : decode cX6_date 50 = .ok (.ireturn, 1) := by decide +kernel
set_option maxRecDepth 20000 in
theorem ggX6_hold_X6_noThing : GoodIn wsX6_hold wsX6_noThing := goodIn_r _ [9, 10, 11, 12, 8, 13, 14, 15, 16, 17, 18, 19, 20, 21, 22, 23, 24, 25, 26, 27, 28, 29, 30, 31, 32, 33, 34, 35, 36, 37, 38, 39, 40, 41, 42, 43, 44, 45, 46, 47, 48, 49, 50, 51] (by decide +kernel) (by decide +kernel)
set_option maxRecDepth 20000 in
theorem gX6_hold_X6_noThing : GoodIn wsX6_hold (wsV RX6 107 RX6 yX6_noThing wsX6_noThing) := goodIn_app (goodIn_of _ (by decide +kernel)) ggX6_hold_X6_noThing
set_option maxRecDepth 20000 in
theorem ggX6_hold_X6_in : GoodIn wsX6_hold wsX6_in := goodIn_r _ [13] (by decide +kernel) (by decide +kernel)
set_option maxRecDepth 20000 in
theorem gX6_hold_X6_in : GoodIn wsX6_hold (va_wsS RX6 92 yX6_in wsX6_in) := goodIn_app (goodIn_of _ (by decide +kernel)) ggX6_hold_X6_in
theorem dX6_hold_0 : decode cX6_hold 0 = .ok (.aload_n 0, 1) := by decide +kernel
theorem dX6_hold_1 : decode cX6_hold 1 = .ok (.iload_n 1, 1) := by decide +kernel
theorem dX6_hold_2 : decode cX6_hold 2 = .ok (.invokevirtual 107, 3) := by decide +kernel
theorem dX6_hold_5 : decode cX6_hold 5 = .ok (.ifCond .ne 17, 3) := by decide +kernel
theorem dX6_hold_8 : decode cX6_hold 8 = .ok (.iload_n 2, 1) := by decide +kernel
theorem dX6_hold_9 : decode cX6_hold 9 = .ok (.i2l, 1) := by decide +kernel
theorem dX6_hold_10 : decode cX6_hold 10 = .ok (.ldc2_w 133, 3) := by decide +kernel
theorem dX6_hold_13 : decode cX6_hold 13 = .ok (.ldc2_w 90, 3) := by decide +kernel
theorem dX6_hold_16 : decode cX6_hold 16 = .ok (.invokestatic 92, 3) := by decide +kernel
theorem dX6_hold_19 : decode cX6_hold 19 = .ok (.ifCond .ne 6, 3) := by decide +kernel
theorem dX6_hold_22 : decode cX6_hold 22 = .ok (.bipush (-2), 2) := by decide +kernel
theorem dX6_hold_24 : decode cX6_hold 24 = .ok (.ireturn, 1) := by decide +kernel
theorem dX6_hold_25 : decode cX6_hold 25 = .ok (.aload_n 0, 1) := by decide +kernel
theorem dX6_hold_26 : decode cX6_hold 26 = .ok (.getfield 22, 3) := by decide +kernel
theorem dX6_hold_29 : decode cX6_hold 29 = .ok (.iload_n 1, 1) := by decide +kernel
theorem dX6_hold_30 : decode cX6_hold 30 = .ok (.iaload, 1) := by decide +kernel
theorem dX6_hold_31 : decode cX6_hold 31 = .ok (.istore_n 3, 1) := by decide +kernel
theorem dX6_hold_32 : decode cX6_hold 32 = .ok (.aload_n 0, 1) := by decide +kernel
theorem dX6_hold_33 : decode cX6_hold 33 = .ok (.getfield 22, 3) := by decide +kernel
theorem dX6_hold_36 : decode cX6_hold 36 = .ok (.iload_n 1, 1) := by decide +kernel
theorem dX6_hold_37 : decode cX6_hold 37 = .ok (.iload_n 2, 1) := by decide +kernel
theorem dX6_hold_38 : decode cX6_hold 38 = .ok (.iastore, 1) := by decide +kernel
theorem dX6_hold_39 : decode cX6_hold 39 = .ok (.aload_n 0, 1) := by decide +kernel
theorem dX6_hold_40 : decode cX6_hold 40 = .ok (.getfield 25, 3) := by decide +kernel
theorem dX6_hold_43 : decode cX6_hold 43 = .ok (.iload_n 1, 1) := by decide +kernel
theorem dX6_hold_44 : decode cX6_hold 44 = .ok (.iconst (-1), 1) := by decide +kernel
theorem dX6_hold_45 : decode cX6_hold 45 = .ok (.iastore, 1) := by decide +kernel
theorem dX6_hold_46 : decode cX6_hold 46 = .ok (.iload_n 3, 1) := by decide +kernel
theorem dX6_hold_47 : decode cX6_hold 47 = .ok (.ireturn, 1) := by decide +kernel
set_option maxRecDepth 20000 in
theorem ggX6_holder_X6_noThing : GoodIn wsX6_holder wsX6_noThing := goodIn_r _ [6, 7, 8, 9, 5, 10, 11, 12, 13, 14, 15, 16, 17, 18, 19, 20, 21, 22, 23, 24, 25, 26, 27, 28, 29, 30, 31, 32, 33, 34, 35, 36, 37, 38, 39, 40, 41, 42, 43, 44, 45, 46, 47, 48] (by decide +kernel) (by decide +kernel)
set_option maxRecDepth 20000 in
theorem gX6_holder_X6_noThing : GoodIn wsX6_holder (wsV RX6 107 RX6 yX6_noThing wsX6_noThing) := goodIn_app (goodIn_of _ (by decide +kernel)) ggX6_holder_X6_noThing
theorem dX6_holder_0 : decode cX6_holder 0 = .ok (.aload_n 0, 1) := by decide +kernel
theorem dX6_holder_1 : decode cX6_holder 1 = .ok (.iload_n 1, 1) := by decide +kernel
theorem dX6_holder_2 : decode cX6_holder 2 = .ok (.invokevirtual 107, 3) := by decide +kernel
theorem dX6_holder_5 : decode cX6_holder 5 = .ok (.ifCond .eq 8, 3) := by decide +kernel
theorem dX6_holder_8 : decode cX6_holder 8 = .ok (.bipush (-2), 2) := by decide +kernel
theorem dX6_holder_10 : decode cX6_holder 10 = .ok (.goto 9, 3) := by decide +kernel
theorem dX6_holder_13 : decode cX6_holder 13 = .ok (.aload_n 0, 1) := by decide +kernel
theorem dX6_holder_14 : decode cX6_holder 14 = .ok (.getfield 22, 3) := by decide +kernel
theorem dX6_holder_17 : decode cX6_holder 17 = .ok (.iload_n 1, 1) := by decide +kernel
theorem dX6_holder_18 : decode cX6_holder 18 = .ok (.iaload, 1) := by decide +kernel
theorem dX6_holder_19 : decode cX6_holder 19 = .ok (.ireturn, 1) := by decide +kernel
set_option maxRecDepth 20000 in
theorem ggX6_hours_X6_in : GoodIn wsX6_hours wsX6_in := goodIn_r _ [6] (by decide +kernel) (by decide +kernel)
set_option maxRecDepth 20000 in
theorem gX6_hours_X6_in : GoodIn wsX6_hours (va_wsS RX6 92 yX6_in wsX6_in) := goodIn_app (goodIn_of _ (by decide +kernel)) ggX6_hours_X6_in
theorem dX6_hours_0 : decode cX6_hours 0 = .ok (.iload_n 1, 1) := by decide +kernel
theorem dX6_hours_1 : decode cX6_hours 1 = .ok (.i2l, 1) := by decide +kernel
theorem dX6_hours_2 : decode cX6_hours 2 = .ok (.lconst 1, 1) := by decide +kernel
theorem dX6_hours_3 : decode cX6_hours 3 = .ok (.ldc2_w 135, 3) := by decide +kernel
theorem dX6_hours_6 : decode cX6_hours 6 = .ok (.invokestatic 92, 3) := by decide +kernel
theorem dX6_hours_9 : decode cX6_hours 9 = .ok (.ifCond .ne 6, 3) := by decide +kernel
theorem dX6_hours_12 : decode cX6_hours 12 = .ok (.bipush (-2), 2) := by decide +kernel
theorem dX6_hours_14 : decode cX6_hours 14 = .ok (.ireturn, 1) := by decide +kernel
theorem dX6_hours_15 : decode cX6_hours 15 = .ok (.aload_n 0, 1) := by decide +kernel
theorem dX6_hours_16 : decode cX6_hours 16 = .ok (.dup, 1) := by decide +kernel
theorem dX6_hours_17 : decode cX6_hours 17 = .ok (.getfield 34, 3) := by decide +kernel
theorem dX6_hours_20 : decode cX6_hours 20 = .ok (.iload_n 1, 1) := by decide +kernel
theorem dX6_hours_21 : decode cX6_hours 21 = .ok (.iadd, 1) := by decide +kernel
theorem dX6_hours_22 : decode cX6_hours 22 = .ok (.putfield 34, 3) := by decide +kernel
theorem dX6_hours_25 : decode cX6_hours 25 = .ok (.aload_n 0, 1) := by decide +kernel
theorem dX6_hours_26 : decode cX6_hours 26 = .ok (.getfield 34, 3) := by decide +kernel
theorem dX6_hours_29 : decode cX6_hours 29 = .ok (.ireturn, 1) := by decide +kernel
theorem dX6_wasSoldNow_0 : decode cX6_wasSoldNow 0 = .ok (.iconst 0, 1) := by decide +kernel
theorem dX6_wasSoldNow_1 : decode cX6_wasSoldNow 1 = .ok (.istore_n 2, 1) := by decide +kernel
theorem dX6_wasSoldNow_2 : decode cX6_wasSoldNow 2 = .ok (.iconst 0, 1) := by decide +kernel
theorem dX6_wasSoldNow_3 : decode cX6_wasSoldNow 3 = .ok (.istore_n 3, 1) := by decide +kernel
theorem dX6_wasSoldNow_4 : decode cX6_wasSoldNow 4 = .ok (.iload_n 3, 1) := by decide +kernel
theorem dX6_wasSoldNow_5 : decode cX6_wasSoldNow 5 = .ok (.aload_n 0, 1) := by decide +kernel
theorem dX6_wasSoldNow_6 : decode cX6_wasSoldNow 6 = .ok (.getfield 137, 3) := by decide +kernel
theorem dX6_wasSoldNow_9 : decode cX6_wasSoldNow 9 = .ok (.if_icmp .ge 42, 3) := by decide +kernel
theorem dX6_wasSoldNow_12 : decode cX6_wasSoldNow 12 = .ok (.iload_n 2, 1) := by decide +kernel
theorem dX6_wasSoldNow_13 : decode cX6_wasSoldNow 13 = .ok (.ifCond .ne 26, 3) := by decide +kernel
theorem dX6_wasSoldNow_16 : decode cX6_wasSoldNow 16 = .ok (.aload_n 0, 1) := by decide +kernel
theorem dX6_wasSoldNow_17 : decode cX6_wasSoldNow 17 = .ok (.getfield 38, 3) := by decide +kernel
theorem dX6_wasSoldNow_20 : decode cX6_wasSoldNow 20 = .ok (.iload_n 3, 1) := by decide +kernel
theorem dX6_wasSoldNow_21 : decode cX6_wasSoldNow 21 = .ok (.iaload, 1) := by decide +kernel
theorem dX6_wasSoldNow_22 : decode cX6_wasSoldNow 22 = .ok (.iload_n 1, 1) := by decide +kernel
theorem dX6_wasSoldNow_23 : decode cX6_wasSoldNow 23 = .ok (.if_icmp .ne 20, 3) := by decide +kernel
theorem dX6_wasSoldNow_26 : decode cX6_wasSoldNow 26 = .ok (.aload_n 0, 1) := by decide +kernel
theorem dX6_wasSoldNow_27 : decode cX6_wasSoldNow 27 = .ok (.getfield 50, 3) := by decide +kernel
theorem dX6_wasSoldNow_30 : decode cX6_wasSoldNow 30 = .ok (.iload_n 3, 1) := by decide +kernel
theorem dX6_wasSoldNow_31 : decode cX6_wasSoldNow 31 = .ok (.iaload, 1) := by decide +kernel
theorem dX6_wasSoldNow_32 : decode cX6_wasSoldNow 32 = .ok (.aload_n 0, 1) := by decide +kernel
theorem dX6_wasSoldNow_33 : decode cX6_wasSoldNow 33 = .ok (.getfield 34, 3) := by decide +kernel
theorem dX6_wasSoldNow_36 : decode cX6_wasSoldNow 36 = .ok (.if_icmp .ne 7, 3) := by decide +kernel
theorem dX6_wasSoldNow_39 : decode cX6_wasSoldNow 39 = .ok (.iconst 1, 1) := by decide +kernel
theorem dX6_wasSoldNow_40 : decode cX6_wasSoldNow 40 = .ok (.goto 4, 3) := by decide +kernel
theorem dX6_wasSoldNow_43 : decode cX6_wasSoldNow 43 = .ok (.iconst 0, 1) := by decide +kernel
theorem dX6_wasSoldNow_44 : decode cX6_wasSoldNow 44 = .ok (.istore_n 2, 1) := by decide +kernel
theorem dX6_wasSoldNow_45 : decode cX6_wasSoldNow 45 = .ok (.iinc 3 1, 3) := by decide +kernel
theorem dX6_wasSoldNow_48 : decode cX6_wasSoldNow 48 = .ok (.goto (-44), 3) := by decide +kernel
theorem dX6_wasSoldNow_51 : decode cX6_wasSoldNow 51 = .ok (.iload_n 2, 1) := by decide +kernel
theorem dX6_wasSoldNow_52 : decode cX6_wasSoldNow 52 = .ok (.ireturn, 1) := by decide +kernel
set_option maxRecDepth 20000 in
theorem ggX6_sell_X6_noThing : GoodIn wsX6_sell wsX6_noThing := goodIn_r _ [19, 20, 21, 22, 18, 23, 32, 33, 34, 35, 36, 37, 38, 39, 40, 41, 42, 43, 44, 45, 46, 47, 48, 49, 50, 51, 52, 53, 54, 55, 56, 57, 58, 59, 60, 61, 62, 63, 64, 65, 66, 67, 68, 69] (by decide +kernel) (by decide +kernel)
set_option maxRecDepth 20000 in
theorem gX6_sell_X6_noThing : GoodIn wsX6_sell (wsV RX6 107 RX6 yX6_noThing wsX6_noThing) := goodIn_app (goodIn_of _ (by decide +kernel)) ggX6_sell_X6_noThing
set_option maxRecDepth 20000 in
theorem ggX6_sell_X6_isDealer : GoodIn wsX6_sell wsX6_isDealer := goodIn_r _ [26, 27, 21, 22, 18, 23] (by decide +kernel) (by decide +kernel)
set_option maxRecDepth 20000 in
theorem gX6_sell_X6_isDealer : GoodIn wsX6_sell (va_wsS RX6 140 yX6_isDealer wsX6_isDealer) := goodIn_app (goodIn_of _ (by decide +kernel)) ggX6_sell_X6_isDealer
set_option maxRecDepth 20000 in
theorem ggX6_sell_X6_in : GoodIn wsX6_sell wsX6_in := goodIn_r _ [23] (by decide +kernel) (by decide +kernel)
set_option maxRecDepth 20000 in
theorem gX6_sell_X6_in : GoodIn wsX6_sell (va_wsS RX6 92 yX6_in wsX6_in) := goodIn_app (goodIn_of _ (by decide +kernel)) ggX6_sell_X6_in
set_option maxRecDepth 20000 in
theorem ggX6_sell_X6_wasSoldNow : GoodIn wsX6_sell wsX6_wasSoldNow := goodIn_r _ [31, 5, 6, 10, 4, 32, 33, 34, 35, 36, 37, 38, 39, 40, 41, 42, 43, 44, 45, 46, 47, 48, 49, 50, 51, 52, 53, 54, 55, 56, 57, 58, 59, 60, 61, 62, 63, 64, 65, 66, 67, 68, 69] (by decide +kernel) (by decide +kernel)
set_option maxRecDepth 20000 in
theorem gX6_sell_X6_wasSoldNow : GoodIn wsX6_sell (wsV RX6 147 RX6 yX6_wasSoldNow wsX6_wasSoldNow) := goodIn_app (goodIn_of _ (by decide +kernel)) ggX6_sell_X6_wasSoldNow
theorem dX6_sell_0 : decode cX6_sell 0 = .ok (.aload_n 0, 1) := by decide +kernel
theorem dX6_sell_1 : decode cX6_sell 1 = .ok (.iload_n 1, 1) := by decide +kernel
theorem dX6_sell_2 : decode cX6_sell 2 = .ok (.invokevirtual 107, 3) := by decide +kernel
theorem dX6_sell_5 : decode cX6_sell 5 = .ok (.ifCond .ne 35, 3) := by decide +kernel
theorem dX6_sell_8 : decode cX6_sell 8 = .ok (.iload_n 2, 1) := by decide +kernel
theorem dX6_sell_9 : decode cX6_sell 9 = .ok (.invokestatic 140, 3) := by decide +kernel
theorem dX6_sell_12 : decode cX6_sell 12 = .ok (.ifCond .eq 28, 3) := by decide +kernel
theorem dX6_sell_15 : decode cX6_sell 15 = .ok (.iload_n 3, 1) := by decide +kernel
theorem dX6_sell_16 : decode cX6_sell 16 = .ok (.i2l, 1) := by decide +kernel
theorem dX6_sell_17 : decode cX6_sell 17 = .ok (.lconst 0, 1) := by decide +kernel
theorem dX6_sell_18 : decode cX6_sell 18 = .ok (.ldc2_w 143, 3) := by decide +kernel
theorem dX6_sell_21 : decode cX6_sell 21 = .ok (.invokestatic 92, 3) := by decide +kernel
theorem dX6_sell_24 : decode cX6_sell 24 = .ok (.ifCond .eq 16, 3) := by decide +kernel
theorem dX6_sell_27 : decode cX6_sell 27 = .ok (.iload 4, 2) := by decide +kernel
theorem dX6_sell_29 : decode cX6_sell 29 = .ok (.i2l, 1) := by decide +kernel
theorem dX6_sell_30 : decode cX6_sell 30 = .ok (.lconst 0, 1) := by decide +kernel
theorem dX6_sell_31 : decode cX6_sell 31 = .ok (.ldc2_w 145, 3) := by decide +kernel
theorem dX6_sell_34 : decode cX6_sell 34 = .ok (.invokestatic 92, 3) := by decide +kernel
theorem dX6_sell_37 : decode cX6_sell 37 = .ok (.ifCond .ne 6, 3) := by decide +kernel
theorem dX6_sell_40 : decode cX6_sell 40 = .ok (.bipush (-2), 2) := by decide +kernel
theorem dX6_sell_42 : decode cX6_sell 42 = .ok (.ireturn, 1) := by decide +kernel
theorem dX6_sell_43 : decode cX6_sell 43 = .ok (.aload_n 0, 1) := by decide +kernel
theorem dX6_sell_44 : decode cX6_sell 44 = .ok (.getfield 22, 3) := by decide +kernel
theorem dX6_sell_47 : decode cX6_sell 47 = .ok (.iload_n 1, 1) := by decide +kernel
theorem dX6_sell_48 : decode cX6_sell 48 = .ok (.iaload, 1) := by decide +kernel
theorem dX6_sell_49 : decode cX6_sell 49 = .ok (.ifCond .lt 35, 3) := by decide +kernel
theorem dX6_sell_52 : decode cX6_sell 52 = .ok (.aload_n 0, 1) := by decide +kernel
theorem dX6_sell_53 : decode cX6_sell 53 = .ok (.getfield 22, 3) := by decide +kernel
theorem dX6_sell_56 : decode cX6_sell 56 = .ok (.iload_n 1, 1) := by decide +kernel
theorem dX6_sell_57 : decode cX6_sell 57 = .ok (.iaload, 1) := by decide +kernel
theorem dX6_sell_58 : decode cX6_sell 58 = .ok (.iload_n 2, 1) := by decide +kernel
theorem dX6_sell_59 : decode cX6_sell 59 = .ok (.if_icmp .eq 25, 3) := by decide +kernel
theorem dX6_sell_62 : decode cX6_sell 62 = .ok (.iload 4, 2) := by decide +kernel
theorem dX6_sell_64 : decode cX6_sell 64 = .ok (.ifCond .eq 12, 3) := by decide +kernel
theorem dX6_sell_67 : decode cX6_sell 67 = .ok (.iload 4, 2) := by decide +kernel
theorem dX6_sell_69 : decode cX6_sell 69 = .ok (.aload_n 0, 1) := by decide +kernel
theorem dX6_sell_70 : decode cX6_sell 70 = .ok (.getfield 34, 3) := by decide +kernel
theorem dX6_sell_73 : decode cX6_sell 73 = .ok (.if_icmp .le 11, 3) := by decide +kernel
theorem dX6_sell_76 : decode cX6_sell 76 = .ok (.aload_n 0, 1) := by decide +kernel
theorem dX6_sell_77 : decode cX6_sell 77 = .ok (.iload_n 1, 1) := by decide +kernel
theorem dX6_sell_78 : decode cX6_sell 78 = .ok (.invokevirtual 147, 3) := by decide +kernel
theorem dX6_sell_81 : decode cX6_sell 81 = .ok (.ifCond .eq 6, 3) := by decide +kernel
theorem dX6_sell_84 : decode cX6_sell 84 = .ok (.bipush (-3), 2) := by decide +kernel
theorem dX6_sell_86 : decode cX6_sell 86 = .ok (.ireturn, 1) := by decide +kernel
theorem dX6_sell_87 : decode cX6_sell 87 = .ok (.aload_n 0, 1) := by decide +kernel
theorem dX6_sell_88 : decode cX6_sell 88 = .ok (.getfield 137, 3) := by decide +kernel
theorem dX6_sell_91 : decode cX6_sell 91 = .ok (.bipush 80, 2) := by decide +kernel
theorem dX6_sell_93 : decode cX6_sell 93 = .ok (.if_icmp .ne 6, 3) := by decide +kernel
theorem dX6_sell_96 : decode cX6_sell 96 = .ok (.bipush (-4), 2) := by decide +kernel
theorem dX6_sell_98 : decode cX6_sell 98 = .ok (.ireturn, 1) := by decide +kernel
theorem dX6_sell_99 : decode cX6_sell 99 = .ok (.aload_n 0, 1) := by decide +kernel
theorem dX6_sell_100 : decode cX6_sell 100 = .ok (.getfield 38, 3) := by decide +kernel
theorem dX6_sell_103 : decode cX6_sell 103 = .ok (.aload_n 0, 1) := by decide +kernel
theorem dX6_sell_104 : decode cX6_sell 104 = .ok (.getfield 137, 3) := by decide +kernel
theorem dX6_sell_107 : decode cX6_sell 107 = .ok (.iload_n 1, 1) := by decide +kernel
theorem dX6_sell_108 : decode cX6_sell 108 = .ok (.iastore, 1) := by decide +kernel
theorem dX6_sell_109 : decode cX6_sell 109 = .ok (.aload_n 0, 1) := by decide +kernel
theorem dX6_sell_110 : decode cX6_sell 110 = .ok (.getfield 41, 3) := by decide +kernel
theorem dX6_sell_113 : decode cX6_sell 113 = .ok (.aload_n 0, 1) := by decide +kernel
theorem dX6_sell_114 : decode cX6_sell 114 = .ok (.getfield 137, 3) := by decide +kernel
theorem dX6_sell_117 : decode cX6_sell 117 = .ok (.aload_n 0, 1) := by decide +kernel
theorem dX6_sell_118 : decode cX6_sell 118 = .ok (.getfield 22, 3) := by decide +kernel
theorem dX6_sell_121 : decode cX6_sell 121 = .ok (.iload_n 1, 1) := by decide +kernel
theorem dX6_sell_122 : decode cX6_sell 122 = .ok (.iaload, 1) := by decide +kernel
theorem dX6_sell_123 : decode cX6_sell 123 = .ok (.iastore, 1) := by decide +kernel
theorem dX6_sell_124 : decode cX6_sell 124 = .ok (.aload_n 0, 1) := by decide +kernel
theorem dX6_sell_125 : decode cX6_sell 125 = .ok (.getfield 44, 3) := by decide +kernel
theorem dX6_sell_128 : decode cX6_sell 128 = .ok (.aload_n 0, 1) := by decide +kernel
theorem dX6_sell_129 : decode cX6_sell 129 = .ok (.getfield 137, 3) := by decide +kernel
theorem dX6_sell_132 : decode cX6_sell 132 = .ok (.iload_n 2, 1) := by decide +kernel
theorem dX6_sell_133 : decode cX6_sell 133 = .ok (.iastore, 1) := by decide +kernel
theorem dX6_sell_134 : decode cX6_sell 134 = .ok (.aload_n 0, 1) := by decide +kernel
theorem dX6_sell_135 : decode cX6_sell 135 = .ok (.getfield 47, 3) := by decide +kernel
theorem dX6_sell_138 : decode cX6_sell 138 = .ok (.aload_n 0, 1) := by decide +kernel
theorem dX6_sell_139 : decode cX6_sell 139 = .ok (.getfield 137, 3) := by decide +kernel
theorem dX6_sell_142 : decode cX6_sell 142 = .ok (.iload_n 3, 1) := by decide +kernel
theorem dX6_sell_143 : decode cX6_sell 143 = .ok (.iastore, 1) := by decide +kernel
theorem dX6_sell_144 : decode cX6_sell 144 = .ok (.aload_n 0, 1) := by decide +kernel
theorem dX6_sell_145 : decode cX6_sell 145 = .ok (.getfield 50, 3) := by decide +kernel
theorem dX6_sell_148 : decode cX6_sell 148 = .ok (.aload_n 0, 1) := by decide +kernel
theorem dX6_sell_149 : decode cX6_sell 149 = .ok (.getfield 137, 3) := by decide +kernel
theorem dX6_sell_152 : decode cX6_sell 152 = .ok (.aload_n 0, 1) := by decide +kernel
theorem dX6_sell_153 : decode cX6_sell 153 = .ok (.getfield 34, 3) := by decide +kernel
theorem dX6_sell_156 : decode cX6_sell 156 = .ok (.iastore, 1) := by decide +kernel
theorem dX6_sell_157 : decode cX6_sell 157 = .ok (.aload_n 0, 1) := by decide +kernel
theorem dX6_sell_158 : decode cX6_sell 158 = .ok (.getfield 53, 3) := by decide +kernel
theorem dX6_sell_161 : decode cX6_sell 161 = .ok (.aload_n 0, 1) := by decide +kernel
theorem dX6_sell_162 : decode cX6_sell 162 = .ok (.getfield 137, 3) := by decide +kernel
theorem dX6_sell_165 : decode cX6_sell 165 = .ok (.iload 4, 2) := by decide +kernel
theorem dX6_sell_167 : decode cX6_sell 167 = .ok (.iastore, 1) := by decide +kernel
theorem dX6_sell_168 : decode cX6_sell 168 = .ok (.aload_n 0, 1) := by decide +kernel
theorem dX6_sell_169 : decode cX6_sell 169 = .ok (.getfield 56, 3) := by decide +kernel
theorem dX6_sell_172 : decode cX6_sell 172 = .ok (.aload_n 0, 1) := by decide +kernel
theorem dX6_sell_173 : decode cX6_sell 173 = .ok (.getfield 137, 3) := by decide +kernel
theorem dX6_sell_176 : decode cX6_sell 176 = .ok (.iconst 1, 1) := by decide +kernel
theorem dX6_sell_177 : decode cX6_sell 177 = .ok (.iastore, 1) := by decide +kernel
theorem dX6_sell_178 : decode cX6_sell 178 = .ok (.aload_n 0, 1) := by decide +kernel
theorem dX6_sell_179 : decode cX6_sell 179 = .ok (.getfield 59, 3) := by decide +kernel
theorem dX6_sell_182 : decode cX6_sell 182 = .ok (.aload_n 0, 1) := by decide +kernel
theorem dX6_sell_183 : decode cX6_sell 183 = .ok (.getfield 137, 3) := by decide +kernel
theorem dX6_sell_186 : decode cX6_sell 186 = .ok (.aload_n 0, 1) := by decide +kernel
theorem dX6_sell_187 : decode cX6_sell 187 = .ok (.getfield 25, 3) := by decide +kernel
theorem dX6_sell_190 : decode cX6_sell 190 = .ok (.iload_n 1, 1) := by decide +kernel
theorem dX6_sell_191 : decode cX6_sell 191 = .ok (.iaload, 1) := by decide +kernel
theorem dX6_sell_192 : decode cX6_sell 192 = .ok (.iastore, 1) := by decide +kernel
theorem dX6_sell_193 : decode cX6_sell 193 = .ok (.aload_n 0, 1) := by decide +kernel
theorem dX6_sell_194 : decode cX6_sell 194 = .ok (.getfield 25, 3) := by decide +kernel
theorem dX6_sell_197 : decode cX6_sell 197 = .ok (.iload_n 1, 1) := by decide +kernel
theorem dX6_sell_198 : decode cX6_sell 198 = .ok (.aload_n 0, 1) := by decide +kernel
theorem dX6_sell_199 : decode cX6_sell 199 = .ok (.getfield 137, 3) := by decide +kernel
theorem dX6_sell_202 : decode cX6_sell 202 = .ok (.iastore, 1) := by decide +kernel
theorem dX6_sell_203 : decode cX6_sell 203 = .ok (.aload_n 0, 1) := by decide +kernel
theorem dX6_sell_204 : decode cX6_sell 204 = .ok (.getfield 22, 3) := by decide +kernel
theorem dX6_sell_207 : decode cX6_sell 207 = .ok (.iload_n 1, 1) := by decide +kernel
theorem dX6_sell_208 : decode cX6_sell 208 = .ok (.iload_n 2, 1) := by decide +kernel
theorem dX6_sell_209 : decode cX6_sell 209 = .ok (.iastore, 1) := by decide +kernel
theorem dX6_sell_210 : decode cX6_sell 210 = .ok (.aload_n 0, 1) := by decide +kernel
theorem dX6_sell_211 : decode cX6_sell 211 = .ok (.dup, 1) := by decide +kernel
theorem dX6_sell_212 : decode cX6_sell 212 = .ok (.getfield 137, 3) := by decide +kernel
theorem dX6_sell_215 : decode cX6_sell 215 = .ok (.iconst 1, 1) := by decide +kernel
theorem dX6_sell_216 : decode cX6_sell 216 = .ok (.iadd, 1) := by decide +kernel
theorem dX6_sell_217 : decode cX6_sell 217 = .ok (.putfield 137, 3) := by decide +kernel
theorem dX6_sell_220 : decode cX6_sell 220 = .ok (.aload_n 0, 1) := by decide +kernel
theorem dX6_sell_221 : decode cX6_sell 221 = .ok (.getfield 137, 3) := by decide +kernel
theorem dX6_sell_224 : decode cX6_sell 224 = .ok (.iconst 1, 1) := by decide +kernel
theorem dX6_sell_225 : decode cX6_sell 225 = .ok (.isub, 1) := by decide +kernel
theorem dX6_sell_226 : decode cX6_sell 226 = .ok (.ireturn, 1) := by decide +kernel
set_option maxRecDepth 20000 in
theorem ggX6_back_X6_noThing : GoodIn wsX6_back wsX6_noThing := goodIn_r _ [13, 14, 15, 16, 12, 17, 18, 19, 20, 21, 22, 23, 24, 25, 26, 27, 28, 29, 30, 31, 32, 33, 34, 35, 36, 37, 38, 39, 40, 41, 42, 43, 44, 45, 46, 47, 48, 49, 50, 51, 52, 53, 54, 55] (by decide +kernel) (by decide +kernel)
set_option maxRecDepth 20000 in
theorem gX6_back_X6_noThing : GoodIn wsX6_back (wsV RX6 107 RX6 yX6_noThing wsX6_noThing) := goodIn_app (goodIn_of _ (by decide +kernel)) ggX6_back_X6_noThing
theorem dX6_back_0 : decode cX6_back 0 = .ok (.aload_n 0, 1) := by decide +kernel
theorem dX6_back_1 : decode cX6_back 1 = .ok (.iload_n 1, 1) := by decide +kernel
theorem dX6_back_2 : decode cX6_back 2 = .ok (.invokevirtual 107, 3) := by decide +kernel
theorem dX6_back_5 : decode cX6_back 5 = .ok (.ifCond .eq 6, 3) := by decide +kernel
theorem dX6_back_8 : decode cX6_back 8 = .ok (.bipush (-2), 2) := by decide +kernel
theorem dX6_back_10 : decode cX6_back 10 = .ok (.ireturn, 1) := by decide +kernel
theorem dX6_back_11 : decode cX6_back 11 = .ok (.aload_n 0, 1) := by decide +kernel
theorem dX6_back_12 : decode cX6_back 12 = .ok (.getfield 25, 3) := by decide +kernel
theorem dX6_back_15 : decode cX6_back 15 = .ok (.iload_n 1, 1) := by decide +kernel
theorem dX6_back_16 : decode cX6_back 16 = .ok (.iaload, 1) := by decide +kernel
theorem dX6_back_17 : decode cX6_back 17 = .ok (.istore_n 2, 1) := by decide +kernel
theorem dX6_back_18 : decode cX6_back 18 = .ok (.iload_n 2, 1) := by decide +kernel
theorem dX6_back_19 : decode cX6_back 19 = .ok (.ifCond .lt 31, 3) := by decide +kernel
theorem dX6_back_22 : decode cX6_back 22 = .ok (.aload_n 0, 1) := by decide +kernel
theorem dX6_back_23 : decode cX6_back 23 = .ok (.getfield 22, 3) := by decide +kernel
theorem dX6_back_26 : decode cX6_back 26 = .ok (.iload_n 1, 1) := by decide +kernel
theorem dX6_back_27 : decode cX6_back 27 = .ok (.iaload, 1) := by decide +kernel
theorem dX6_back_28 : decode cX6_back 28 = .ok (.aload_n 0, 1) := by decide +kernel
theorem dX6_back_29 : decode cX6_back 29 = .ok (.getfield 44, 3) := by decide +kernel
theorem dX6_back_32 : decode cX6_back 32 = .ok (.iload_n 2, 1) := by decide +kernel
theorem dX6_back_33 : decode cX6_back 33 = .ok (.iaload, 1) := by decide +kernel
theorem dX6_back_34 : decode cX6_back 34 = .ok (.if_icmp .ne 16, 3) := by decide +kernel
theorem dX6_back_37 : decode cX6_back 37 = .ok (.aload_n 0, 1) := by decide +kernel
theorem dX6_back_38 : decode cX6_back 38 = .ok (.getfield 53, 3) := by decide +kernel
theorem dX6_back_41 : decode cX6_back 41 = .ok (.iload_n 2, 1) := by decide +kernel
theorem dX6_back_42 : decode cX6_back 42 = .ok (.iaload, 1) := by decide +kernel
theorem dX6_back_43 : decode cX6_back 43 = .ok (.aload_n 0, 1) := by decide +kernel
theorem dX6_back_44 : decode cX6_back 44 = .ok (.getfield 34, 3) := by decide +kernel
theorem dX6_back_47 : decode cX6_back 47 = .ok (.if_icmp .gt 6, 3) := by decide +kernel
theorem dX6_back_50 : decode cX6_back 50 = .ok (.bipush (-3), 2) := by decide +kernel
theorem dX6_back_52 : decode cX6_back 52 = .ok (.ireturn, 1) := by decide +kernel
theorem dX6_back_53 : decode cX6_back 53 = .ok (.aload_n 0, 1) := by decide +kernel
theorem dX6_back_54 : decode cX6_back 54 = .ok (.getfield 56, 3) := by decide +kernel
theorem dX6_back_57 : decode cX6_back 57 = .ok (.iload_n 2, 1) := by decide +kernel
theorem dX6_back_58 : decode cX6_back 58 = .ok (.iconst 0, 1) := by decide +kernel
theorem dX6_back_59 : decode cX6_back 59 = .ok (.iastore, 1) := by decide +kernel
theorem dX6_back_60 : decode cX6_back 60 = .ok (.aload_n 0, 1) := by decide +kernel
theorem dX6_back_61 : decode cX6_back 61 = .ok (.getfield 22, 3) := by decide +kernel
theorem dX6_back_64 : decode cX6_back 64 = .ok (.iload_n 1, 1) := by decide +kernel
theorem dX6_back_65 : decode cX6_back 65 = .ok (.aload_n 0, 1) := by decide +kernel
theorem dX6_back_66 : decode cX6_back 66 = .ok (.getfield 41, 3) := by decide +kernel
theorem dX6_back_69 : decode cX6_back 69 = .ok (.iload_n 2, 1) := by decide +kernel
theorem dX6_back_70 : decode cX6_back 70 = .ok (.iaload, 1) := by decide +kernel
theorem dX6_back_71 : decode cX6_back 71 = .ok (.iastore, 1) := by decide +kernel
theorem dX6_back_72 : decode cX6_back 72 = .ok (.aload_n 0, 1) := by decide +kernel
theorem dX6_back_73 : decode cX6_back 73 = .ok (.getfield 25, 3) := by decide +kernel
theorem dX6_back_76 : decode cX6_back 76 = .ok (.iload_n 1, 1) := by decide +kernel
theorem dX6_back_77 : decode cX6_back 77 = .ok (.aload_n 0, 1) := by decide +kernel
theorem dX6_back_78 : decode cX6_back 78 = .ok (.getfield 59, 3) := by decide +kernel
theorem dX6_back_81 : decode cX6_back 81 = .ok (.iload_n 2, 1) := by decide +kernel
theorem dX6_back_82 : decode cX6_back 82 = .ok (.iaload, 1) := by decide +kernel
theorem dX6_back_83 : decode cX6_back 83 = .ok (.iastore, 1) := by decide +kernel
theorem dX6_back_84 : decode cX6_back 84 = .ok (.aload_n 0, 1) := by decide +kernel
theorem dX6_back_85 : decode cX6_back 85 = .ok (.getfield 22, 3) := by decide +kernel
theorem dX6_back_88 : decode cX6_back 88 = .ok (.iload_n 1, 1) := by decide +kernel
theorem dX6_back_89 : decode cX6_back 89 = .ok (.iaload, 1) := by decide +kernel
theorem dX6_back_90 : decode cX6_back 90 = .ok (.ireturn, 1) := by decide +kernel
theorem dX6_saleOf_0 : decode cX6_saleOf 0 = .ok (.iload_n 2, 1) := by decide +kernel
theorem dX6_saleOf_1 : decode cX6_saleOf 1 = .ok (.tableswitch 81 0 5 #[39, 46, 53, 60, 67, 74], 39) := by decide +kernel
theorem dX6_saleOf_40 : decode cX6_saleOf 40 = .ok (.aload_n 0, 1) := by decide +kernel
theorem dX6_saleOf_41 : decode cX6_saleOf 41 = .ok (.getfield 38, 3) := by decide +kernel
theorem dX6_saleOf_44 : decode cX6_saleOf 44 = .ok (.iload_n 1, 1) := by decide +kernel
theorem dX6_saleOf_45 : decode cX6_saleOf 45 = .ok (.iaload, 1) := by decide +kernel
theorem dX6_saleOf_46 : decode cX6_saleOf 46 = .ok (.ireturn, 1) := by decide +kernel
theorem dX6_saleOf_47 : decode cX6_saleOf 47 = .ok (.aload_n 0, 1) := by decide +kernel
theorem dX6_saleOf_48 : decode cX6_saleOf 48 = .ok (.getfield 41, 3) := by decide +kernel
theorem dX6_saleOf_51 : decode cX6_saleOf 51 = .ok (.iload_n 1, 1) := by decide +kernel
theorem dX6_saleOf_52 : decode cX6_saleOf 52 = .ok (.iaload, 1) := by decide +kernel
theorem dX6_saleOf_53 : decode cX6_saleOf 53 = .ok (.ireturn, 1) := by decide +kernel
theorem dX6_saleOf_54 : decode cX6_saleOf 54 = .ok (.aload_n 0, 1) := by decide +kernel
theorem dX6_saleOf_55 : decode cX6_saleOf 55 = .ok (.getfield 44, 3) := by decide +kernel
theorem dX6_saleOf_58 : decode cX6_saleOf 58 = .ok (.iload_n 1, 1) := by decide +kernel
theorem dX6_saleOf_59 : decode cX6_saleOf 59 = .ok (.iaload, 1) := by decide +kernel
theorem dX6_saleOf_60 : decode cX6_saleOf 60 = .ok (.ireturn, 1) := by decide +kernel
theorem dX6_saleOf_61 : decode cX6_saleOf 61 = .ok (.aload_n 0, 1) := by decide +kernel
theorem dX6_saleOf_62 : decode cX6_saleOf 62 = .ok (.getfield 47, 3) := by decide +kernel
theorem dX6_saleOf_65 : decode cX6_saleOf 65 = .ok (.iload_n 1, 1) := by decide +kernel
theorem dX6_saleOf_66 : decode cX6_saleOf 66 = .ok (.iaload, 1) := by decide +kernel
theorem dX6_saleOf_67 : decode cX6_saleOf 67 = .ok (.ireturn, 1) := by decide +kernel
theorem dX6_saleOf_68 : decode cX6_saleOf 68 = .ok (.aload_n 0, 1) := by decide +kernel
theorem dX6_saleOf_69 : decode cX6_saleOf 69 = .ok (.getfield 50, 3) := by decide +kernel
theorem dX6_saleOf_72 : decode cX6_saleOf 72 = .ok (.iload_n 1, 1) := by decide +kernel
theorem dX6_saleOf_73 : decode cX6_saleOf 73 = .ok (.iaload, 1) := by decide +kernel
theorem dX6_saleOf_74 : decode cX6_saleOf 74 = .ok (.ireturn, 1) := by decide +kernel
theorem dX6_saleOf_75 : decode cX6_saleOf 75 = .ok (.aload_n 0, 1) := by decide +kernel
theorem dX6_saleOf_76 : decode cX6_saleOf 76 = .ok (.getfield 53, 3) := by decide +kernel
theorem dX6_saleOf_79 : decode cX6_saleOf 79 = .ok (.iload_n 1, 1) := by decide +kernel
theorem dX6_saleOf_80 : decode cX6_saleOf 80 = .ok (.iaload, 1) := by decide +kernel
theorem dX6_saleOf_81 : decode cX6_saleOf 81 = .ok (.ireturn, 1) := by decide +kernel
theorem dX6_saleOf_82 : decode cX6_saleOf 82 = .ok (.aload_n 0, 1) := by decide +kernel
theorem dX6_saleOf_83 : decode cX6_saleOf 83 = .ok (.getfield 56, 3) := by decide +kernel
theorem dX6_saleOf_86 : decode cX6_saleOf 86 = .ok (.iload_n 1, 1) := by decide +kernel
theorem dX6_saleOf_87 : decode cX6_saleOf 87 = .ok (.iaload, 1) := by decide +kernel
theorem dX6_saleOf_88 : decode cX6_saleOf 88 = .ok (.ireturn, 1) := by decide +kernel
set_option maxRecDepth 20000 in
theorem ggX6_sale_X6_in : GoodIn wsX6_sale wsX6_in := goodIn_r _ [6] (by decide +kernel) (by decide +kernel)
set_option maxRecDepth 20000 in
theorem gX6_sale_X6_in : GoodIn wsX6_sale (va_wsS RX6 92 yX6_in wsX6_in) := goodIn_app (goodIn_of _ (by decide +kernel)) ggX6_sale_X6_in
set_option maxRecDepth 20000 in
theorem ggX6_sale_X6_saleOf : GoodIn wsX6_sale wsX6_saleOf := goodIn_r _ [10, 11, 12, 13, 14, 15, 16, 17, 18, 19, 20, 21, 22, 23, 24, 25, 26, 27, 28, 29, 30, 31, 32, 33, 34, 35, 36, 37, 38, 39, 40, 41, 42, 43, 44, 45, 46, 47, 48, 49, 50, 51, 52, 53, 54, 55] (by decide +kernel) (by decide +kernel)
set_option maxRecDepth 20000 in
theorem gX6_sale_X6_saleOf : GoodIn wsX6_sale (wsV RX6 152 RX6 yX6_saleOf wsX6_saleOf) := goodIn_app (goodIn_of _ (by decide +kernel)) ggX6_sale_X6_saleOf
theorem dX6_sale_0 : decode cX6_sale 0 = .ok (.iload_n 1, 1) := by decide +kernel
theorem dX6_sale_1 : decode cX6_sale 1 = .ok (.ifCond .lt 15, 3) := by decide +kernel
theorem dX6_sale_4 : decode cX6_sale 4 = .ok (.iload_n 2, 1) := by decide +kernel
theorem dX6_sale_5 : decode cX6_sale 5 = .ok (.i2l, 1) := by decide +kernel
theorem dX6_sale_6 : decode cX6_sale 6 = .ok (.lconst 0, 1) := by decide +kernel
theorem dX6_sale_7 : decode cX6_sale 7 = .ok (.ldc2_w 150, 3) := by decide +kernel
theorem dX6_sale_10 : decode cX6_sale 10 = .ok (.invokestatic 92, 3) := by decide +kernel
theorem dX6_sale_13 : decode cX6_sale 13 = .ok (.ifCond .ne 8, 3) := by decide +kernel
theorem dX6_sale_16 : decode cX6_sale 16 = .ok (.bipush (-2), 2) := by decide +kernel
theorem dX6_sale_18 : decode cX6_sale 18 = .ok (.goto 21, 3) := by decide +kernel
theorem dX6_sale_21 : decode cX6_sale 21 = .ok (.iload_n 1, 1) := by decide +kernel
theorem dX6_sale_22 : decode cX6_sale 22 = .ok (.aload_n 0, 1) := by decide +kernel
theorem dX6_sale_23 : decode cX6_sale 23 = .ok (.getfield 137, 3) := by decide +kernel
theorem dX6_sale_26 : decode cX6_sale 26 = .ok (.if_icmp .lt 7, 3) := by decide +kernel
theorem dX6_sale_29 : decode cX6_sale 29 = .ok (.iconst (-1), 1) := by decide +kernel
theorem dX6_sale_30 : decode cX6_sale 30 = .ok (.goto 9, 3) := by decide +kernel
theorem dX6_sale_33 : decode cX6_sale 33 = .ok (.aload_n 0, 1) := by decide +kernel
theorem dX6_sale_34 : decode cX6_sale 34 = .ok (.iload_n 1, 1) := by decide +kernel
theorem dX6_sale_35 : decode cX6_sale 35 = .ok (.iload_n 2, 1) := by decide +kernel
theorem dX6_sale_36 : decode cX6_sale 36 = .ok (.invokevirtual 152, 3) := by decide +kernel
theorem dX6_sale_39 : decode cX6_sale 39 = .ok (.ireturn, 1) := by decide +kernel
theorem dX6_gainOf_0 : decode cX6_gainOf 0 = .ok (.iconst 0, 1) := by decide +kernel
theorem dX6_gainOf_1 : decode cX6_gainOf 1 = .ok (.istore_n 2, 1) := by decide +kernel
theorem dX6_gainOf_2 : decode cX6_gainOf 2 = .ok (.iconst 0, 1) := by decide +kernel
theorem dX6_gainOf_3 : decode cX6_gainOf 3 = .ok (.istore_n 3, 1) := by decide +kernel
theorem dX6_gainOf_4 : decode cX6_gainOf 4 = .ok (.iload_n 3, 1) := by decide +kernel
theorem dX6_gainOf_5 : decode cX6_gainOf 5 = .ok (.aload_n 0, 1) := by decide +kernel
theorem dX6_gainOf_6 : decode cX6_gainOf 6 = .ok (.getfield 137, 3) := by decide +kernel
theorem dX6_gainOf_9 : decode cX6_gainOf 9 = .ok (.if_icmp .ge 66, 3) := by decide +kernel
theorem dX6_gainOf_12 : decode cX6_gainOf 12 = .ok (.iload_n 2, 1) := by decide +kernel
theorem dX6_gainOf_13 : decode cX6_gainOf 13 = .ok (.aload_n 0, 1) := by decide +kernel
theorem dX6_gainOf_14 : decode cX6_gainOf 14 = .ok (.getfield 56, 3) := by decide +kernel
theorem dX6_gainOf_17 : decode cX6_gainOf 17 = .ok (.iload_n 3, 1) := by decide +kernel
theorem dX6_gainOf_18 : decode cX6_gainOf 18 = .ok (.iaload, 1) := by decide +kernel
theorem dX6_gainOf_19 : decode cX6_gainOf 19 = .ok (.ifCond .ne 7, 3) := by decide +kernel
theorem dX6_gainOf_22 : decode cX6_gainOf 22 = .ok (.iconst 0, 1) := by decide +kernel
theorem dX6_gainOf_23 : decode cX6_gainOf 23 = .ok (.goto 44, 3) := by decide +kernel
theorem dX6_gainOf_26 : decode cX6_gainOf 26 = .ok (.aload_n 0, 1) := by decide +kernel
theorem dX6_gainOf_27 : decode cX6_gainOf 27 = .ok (.getfield 41, 3) := by decide +kernel
theorem dX6_gainOf_30 : decode cX6_gainOf 30 = .ok (.iload_n 3, 1) := by decide +kernel
theorem dX6_gainOf_31 : decode cX6_gainOf 31 = .ok (.iaload, 1) := by decide +kernel
theorem dX6_gainOf_32 : decode cX6_gainOf 32 = .ok (.iload_n 1, 1) := by decide +kernel
theorem dX6_gainOf_33 : decode cX6_gainOf 33 = .ok (.if_icmp .ne 12, 3) := by decide +kernel
theorem dX6_gainOf_36 : decode cX6_gainOf 36 = .ok (.aload_n 0, 1) := by decide +kernel
theorem dX6_gainOf_37 : decode cX6_gainOf 37 = .ok (.getfield 47, 3) := by decide +kernel
theorem dX6_gainOf_40 : decode cX6_gainOf 40 = .ok (.iload_n 3, 1) := by decide +kernel
theorem dX6_gainOf_41 : decode cX6_gainOf 41 = .ok (.iaload, 1) := by decide +kernel
theorem dX6_gainOf_42 : decode cX6_gainOf 42 = .ok (.goto 25, 3) := by decide +kernel
theorem dX6_gainOf_45 : decode cX6_gainOf 45 = .ok (.aload_n 0, 1) := by decide +kernel
theorem dX6_gainOf_46 : decode cX6_gainOf 46 = .ok (.getfield 44, 3) := by decide +kernel
theorem dX6_gainOf_49 : decode cX6_gainOf 49 = .ok (.iload_n 3, 1) := by decide +kernel
theorem dX6_gainOf_50 : decode cX6_gainOf 50 = .ok (.iaload, 1) := by decide +kernel
theorem dX6_gainOf_51 : decode cX6_gainOf 51 = .ok (.iload_n 1, 1) := by decide +kernel
theorem dX6_gainOf_52 : decode cX6_gainOf 52 = .ok (.if_icmp .ne 14, 3) := by decide +kernel
theorem dX6_gainOf_55 : decode cX6_gainOf 55 = .ok (.iconst 0, 1) := by decide +kernel
theorem dX6_gainOf_56 : decode cX6_gainOf 56 = .ok (.aload_n 0, 1) := by decide +kernel
theorem dX6_gainOf_57 : decode cX6_gainOf 57 = .ok (.getfield 47, 3) := by decide +kernel
theorem dX6_gainOf_60 : decode cX6_gainOf 60 = .ok (.iload_n 3, 1) := by decide +kernel
theorem dX6_gainOf_61 : decode cX6_gainOf 61 = .ok (.iaload, 1) := by decide +kernel
theorem dX6_gainOf_62 : decode cX6_gainOf 62 = .ok (.isub, 1) := by decide +kernel
theorem dX6_gainOf_63 : decode cX6_gainOf 63 = .ok (.goto 4, 3) := by decide +kernel
theorem dX6_gainOf_66 : decode cX6_gainOf 66 = .ok (.iconst 0, 1) := by decide +kernel
theorem dX6_gainOf_67 : decode cX6_gainOf 67 = .ok (.iadd, 1) := by decide +kernel
theorem dX6_gainOf_68 : decode cX6_gainOf 68 = .ok (.istore_n 2, 1) := by decide +kernel
theorem dX6_gainOf_69 : decode cX6_gainOf 69 = .ok (.iinc 3 1, 3) := by decide +kernel
theorem dX6_gainOf_72 : decode cX6_gainOf 72 = .ok (.goto (-68), 3) := by decide +kernel
theorem dX6_gainOf_75 : decode cX6_gainOf 75 = .ok (.iload_n 2, 1) := by decide +kernel
theorem dX6_gainOf_76 : decode cX6_gainOf 76 = .ok (.ireturn, 1) := by decide +kernel
set_option maxRecDepth 20000 in
theorem ggX6_gain_X6_isDealer : GoodIn wsX6_gain wsX6_isDealer := goodIn_r _ [5, 6, 7, 8, 4, 9] (by decide +kernel) (by decide +kernel)
set_option maxRecDepth 20000 in
theorem gX6_gain_X6_isDealer : GoodIn wsX6_gain (va_wsS RX6 140 yX6_isDealer wsX6_isDealer) := goodIn_app (goodIn_of _ (by decide +kernel)) ggX6_gain_X6_isDealer
set_option maxRecDepth 20000 in
theorem ggX6_gain_X6_gainOf : GoodIn wsX6_gain wsX6_gainOf := goodIn_r _ [13, 14, 15, 16, 17, 18, 19, 20, 21, 22, 23, 24, 25, 26, 27, 28, 29, 30, 31, 32, 33, 34, 35, 36, 37, 38, 39, 40, 41, 42, 43, 44, 45, 46, 47, 48, 49, 50, 51, 52, 53, 54, 55, 56] (by decide +kernel) (by decide +kernel)
set_option maxRecDepth 20000 in
theorem gX6_gain_X6_gainOf : GoodIn wsX6_gain (wsV RX6 156 RX6 yX6_gainOf wsX6_gainOf) := goodIn_app (goodIn_of _ (by decide +kernel)) ggX6_gain_X6_gainOf
theorem dX6_gain_0 : decode cX6_gain 0 = .ok (.iload_n 1, 1) := by decide +kernel
theorem dX6_gain_1 : decode cX6_gain 1 = .ok (.invokestatic 140, 3) := by decide +kernel
theorem dX6_gain_4 : decode cX6_gain 4 = .ok (.ifCond .eq 11, 3) := by decide +kernel
theorem dX6_gain_7 : decode cX6_gain 7 = .ok (.aload_n 0, 1) := by decide +kernel
theorem dX6_gain_8 : decode cX6_gain 8 = .ok (.iload_n 1, 1) := by decide +kernel
theorem dX6_gain_9 : decode cX6_gain 9 = .ok (.invokevirtual 156, 3) := by decide +kernel
theorem dX6_gain_12 : decode cX6_gain 12 = .ok (.goto 5, 3) := by decide +kernel
theorem dX6_gain_15 : decode cX6_gain 15 = .ok (.ldc 159, 2) := by decide +kernel
theorem dX6_gain_17 : decode cX6_gain 17 = .ok (.ireturn, 1) := by decide +kernel
set_option maxRecDepth 20000 in
theorem ggX6_rose_X6_noThing : GoodIn wsX6_rose wsX6_noThing := goodIn_r _ [10, 11, 12, 13, 9, 14, 15, 16, 17, 18, 19, 20, 21, 22, 23, 24, 25, 26, 27, 28, 29, 30, 31, 32, 33, 34, 35, 36, 37, 38, 39, 40, 41, 42, 43, 44, 45, 46, 47, 48, 49, 50, 51, 52] (by decide +kernel) (by decide +kernel)
set_option maxRecDepth 20000 in
theorem gX6_rose_X6_noThing : GoodIn wsX6_rose (wsV RX6 107 RX6 yX6_noThing wsX6_noThing) := goodIn_app (goodIn_of _ (by decide +kernel)) ggX6_rose_X6_noThing
theorem dX6_rose_0 : decode cX6_rose 0 = .ok (.aload_n 0, 1) := by decide +kernel
theorem dX6_rose_1 : decode cX6_rose 1 = .ok (.iload_n 1, 1) := by decide +kernel
theorem dX6_rose_2 : decode cX6_rose 2 = .ok (.invokevirtual 107, 3) := by decide +kernel
theorem dX6_rose_5 : decode cX6_rose 5 = .ok (.ifCond .eq 6, 3) := by decide +kernel
theorem dX6_rose_8 : decode cX6_rose 8 = .ok (.ldc 159, 2) := by decide +kernel
theorem dX6_rose_10 : decode cX6_rose 10 = .ok (.ireturn, 1) := by decide +kernel
theorem dX6_rose_11 : decode cX6_rose 11 = .ok (.iconst (-1), 1) := by decide +kernel
theorem dX6_rose_12 : decode cX6_rose 12 = .ok (.istore_n 2, 1) := by decide +kernel
theorem dX6_rose_13 : decode cX6_rose 13 = .ok (.iconst (-1), 1) := by decide +kernel
theorem dX6_rose_14 : decode cX6_rose 14 = .ok (.istore_n 3, 1) := by decide +kernel
theorem dX6_rose_15 : decode cX6_rose 15 = .ok (.iconst 0, 1) := by decide +kernel
theorem dX6_rose_16 : decode cX6_rose 16 = .ok (.istore 4, 2) := by decide +kernel
theorem dX6_rose_18 : decode cX6_rose 18 = .ok (.iload 4, 2) := by decide +kernel
theorem dX6_rose_20 : decode cX6_rose 20 = .ok (.aload_n 0, 1) := by decide +kernel
theorem dX6_rose_21 : decode cX6_rose 21 = .ok (.getfield 137, 3) := by decide +kernel
theorem dX6_rose_24 : decode cX6_rose 24 = .ok (.if_icmp .ge 45, 3) := by decide +kernel
theorem dX6_rose_27 : decode cX6_rose 27 = .ok (.aload_n 0, 1) := by decide +kernel
theorem dX6_rose_28 : decode cX6_rose 28 = .ok (.getfield 56, 3) := by decide +kernel
theorem dX6_rose_31 : decode cX6_rose 31 = .ok (.iload 4, 2) := by decide +kernel
theorem dX6_rose_33 : decode cX6_rose 33 = .ok (.iaload, 1) := by decide +kernel
theorem dX6_rose_34 : decode cX6_rose 34 = .ok (.iconst 1, 1) := by decide +kernel
theorem dX6_rose_35 : decode cX6_rose 35 = .ok (.if_icmp .ne 28, 3) := by decide +kernel
theorem dX6_rose_38 : decode cX6_rose 38 = .ok (.aload_n 0, 1) := by decide +kernel
theorem dX6_rose_39 : decode cX6_rose 39 = .ok (.getfield 38, 3) := by decide +kernel
theorem dX6_rose_42 : decode cX6_rose 42 = .ok (.iload 4, 2) := by decide +kernel
theorem dX6_rose_44 : decode cX6_rose 44 = .ok (.iaload, 1) := by decide +kernel
theorem dX6_rose_45 : decode cX6_rose 45 = .ok (.iload_n 1, 1) := by decide +kernel
theorem dX6_rose_46 : decode cX6_rose 46 = .ok (.if_icmp .ne 17, 3) := by decide +kernel
theorem dX6_rose_49 : decode cX6_rose 49 = .ok (.iload_n 2, 1) := by decide +kernel
theorem dX6_rose_50 : decode cX6_rose 50 = .ok (.ifCond .ge 8, 3) := by decide +kernel
theorem dX6_rose_53 : decode cX6_rose 53 = .ok (.iload 4, 2) := by decide +kernel
theorem dX6_rose_55 : decode cX6_rose 55 = .ok (.goto 4, 3) := by decide +kernel
theorem dX6_rose_58 : decode cX6_rose 58 = .ok (.iload_n 2, 1) := by decide +kernel
theorem dX6_rose_59 : decode cX6_rose 59 = .ok (.istore_n 2, 1) := by decide +kernel
theorem dX6_rose_60 : decode cX6_rose 60 = .ok (.iload 4, 2) := by decide +kernel
theorem dX6_rose_62 : decode cX6_rose 62 = .ok (.istore_n 3, 1) := by decide +kernel
theorem dX6_rose_63 : decode cX6_rose 63 = .ok (.iinc 4 1, 3) := by decide +kernel
theorem dX6_rose_66 : decode cX6_rose 66 = .ok (.goto (-48), 3) := by decide +kernel
theorem dX6_rose_69 : decode cX6_rose 69 = .ok (.iload_n 2, 1) := by decide +kernel
theorem dX6_rose_70 : decode cX6_rose 70 = .ok (.ifCond .ge 7, 3) := by decide +kernel
theorem dX6_rose_73 : decode cX6_rose 73 = .ok (.iconst 0, 1) := by decide +kernel
theorem dX6_rose_74 : decode cX6_rose 74 = .ok (.goto 16, 3) := by decide +kernel
theorem dX6_rose_77 : decode cX6_rose 77 = .ok (.aload_n 0, 1) := by decide +kernel
theorem dX6_rose_78 : decode cX6_rose 78 = .ok (.getfield 47, 3) := by decide +kernel
theorem dX6_rose_81 : decode cX6_rose 81 = .ok (.iload_n 3, 1) := by decide +kernel
theorem dX6_rose_82 : decode cX6_rose 82 = .ok (.iaload, 1) := by decide +kernel
theorem dX6_rose_83 : decode cX6_rose 83 = .ok (.aload_n 0, 1) := by decide +kernel
theorem dX6_rose_84 : decode cX6_rose 84 = .ok (.getfield 47, 3) := by decide +kernel
theorem dX6_rose_87 : decode cX6_rose 87 = .ok (.iload_n 2, 1) := by decide +kernel
theorem dX6_rose_88 : decode cX6_rose 88 = .ok (.iaload, 1) := by decide +kernel
theorem dX6_rose_89 : decode cX6_rose 89 = .ok (.isub, 1) := by decide +kernel
theorem dX6_rose_90 : decode cX6_rose 90 = .ok (.ireturn, 1) := by decide +kernel
set_option maxRecDepth 20000 in
theorem ggX6_lot_X6_in : GoodIn wsX6_lot wsX6_in := goodIn_r _ [9] (by decide +kernel) (by decide +kernel)
set_option maxRecDepth 20000 in
theorem gX6_lot_X6_in : GoodIn wsX6_lot (va_wsS RX6 92 yX6_in wsX6_in) := goodIn_app (goodIn_of _ (by decide +kernel)) ggX6_lot_X6_in
set_option maxRecDepth 20000 in
theorem ggX6_lot_X6_isDealer : GoodIn wsX6_lot wsX6_isDealer := goodIn_r _ [12, 13, 6, 7, 8, 9] (by decide +kernel) (by decide +kernel)
set_option maxRecDepth 20000 in
theorem gX6_lot_X6_isDealer : GoodIn wsX6_lot (va_wsS RX6 140 yX6_isDealer wsX6_isDealer) := goodIn_app (goodIn_of _ (by decide +kernel)) ggX6_lot_X6_isDealer
theorem dX6_lot_0 : decode cX6_lot 0 = .ok (.iload_n 1, 1) := by decide +kernel
theorem dX6_lot_1 : decode cX6_lot 1 = .ok (.i2l, 1) := by decide +kernel
theorem dX6_lot_2 : decode cX6_lot 2 = .ok (.lconst 0, 1) := by decide +kernel
theorem dX6_lot_3 : decode cX6_lot 3 = .ok (.ldc2_w 160, 3) := by decide +kernel
theorem dX6_lot_6 : decode cX6_lot 6 = .ok (.invokestatic 92, 3) := by decide +kernel
theorem dX6_lot_9 : decode cX6_lot 9 = .ok (.ifCond .eq 23, 3) := by decide +kernel
theorem dX6_lot_12 : decode cX6_lot 12 = .ok (.iload_n 2, 1) := by decide +kernel
theorem dX6_lot_13 : decode cX6_lot 13 = .ok (.i2l, 1) := by decide +kernel
theorem dX6_lot_14 : decode cX6_lot 14 = .ok (.lconst 0, 1) := by decide +kernel
theorem dX6_lot_15 : decode cX6_lot 15 = .ok (.ldc2_w 160, 3) := by decide +kernel
theorem dX6_lot_18 : decode cX6_lot 18 = .ok (.invokestatic 92, 3) := by decide +kernel
theorem dX6_lot_21 : decode cX6_lot 21 = .ok (.ifCond .eq 11, 3) := by decide +kernel
theorem dX6_lot_24 : decode cX6_lot 24 = .ok (.iload_n 2, 1) := by decide +kernel
theorem dX6_lot_25 : decode cX6_lot 25 = .ok (.iload_n 1, 1) := by decide +kernel
theorem dX6_lot_26 : decode cX6_lot 26 = .ok (.iconst (-1), 1) := by decide +kernel
theorem dX6_lot_27 : decode cX6_lot 27 = .ok (.ixor, 1) := by decide +kernel
theorem dX6_lot_28 : decode cX6_lot 28 = .ok (.iand, 1) := by decide +kernel
theorem dX6_lot_29 : decode cX6_lot 29 = .ok (.ifCond .eq 6, 3) := by decide +kernel
theorem dX6_lot_32 : decode cX6_lot 32 = .ok (.bipush (-2), 2) := by decide +kernel
theorem dX6_lot_34 : decode cX6_lot 34 = .ok (.ireturn, 1) := by decide +kernel
theorem dX6_lot_35 : decode cX6_lot 35 = .ok (.iload_n 2, 1) := by decide +kernel
theorem dX6_lot_36 : decode cX6_lot 36 = .ok (.ifCond .ne 11, 3) := by decide +kernel
theorem dX6_lot_39 : decode cX6_lot 39 = .ok (.iload_n 3, 1) := by decide +kernel
theorem dX6_lot_40 : decode cX6_lot 40 = .ok (.iconst (-1), 1) := by decide +kernel
theorem dX6_lot_41 : decode cX6_lot 41 = .ok (.if_icmp .eq 24, 3) := by decide +kernel
theorem dX6_lot_44 : decode cX6_lot 44 = .ok (.goto 18, 3) := by decide +kernel
theorem dX6_lot_47 : decode cX6_lot 47 = .ok (.iload_n 3, 1) := by decide +kernel
theorem dX6_lot_48 : decode cX6_lot 48 = .ok (.invokestatic 140, 3) := by decide +kernel
theorem dX6_lot_51 : decode cX6_lot 51 = .ok (.ifCond .eq 11, 3) := by decide +kernel
theorem dX6_lot_54 : decode cX6_lot 54 = .ok (.iload_n 2, 1) := by decide +kernel
theorem dX6_lot_55 : decode cX6_lot 55 = .ok (.iload_n 3, 1) := by decide +kernel
theorem dX6_lot_56 : decode cX6_lot 56 = .ok (.ishr, 1) := by decide +kernel
theorem dX6_lot_57 : decode cX6_lot 57 = .ok (.iconst 1, 1) := by decide +kernel
theorem dX6_lot_58 : decode cX6_lot 58 = .ok (.iand, 1) := by decide +kernel
theorem dX6_lot_59 : decode cX6_lot 59 = .ok (.ifCond .ne 6, 3) := by decide +kernel
theorem dX6_lot_62 : decode cX6_lot 62 = .ok (.bipush (-2), 2) := by decide +kernel
theorem dX6_lot_64 : decode cX6_lot 64 = .ok (.ireturn, 1) := by decide +kernel
theorem dX6_lot_65 : decode cX6_lot 65 = .ok (.aload_n 0, 1) := by decide +kernel
theorem dX6_lot_66 : decode cX6_lot 66 = .ok (.getfield 162, 3) := by decide +kernel
theorem dX6_lot_69 : decode cX6_lot 69 = .ok (.bipush 40, 2) := by decide +kernel
theorem dX6_lot_71 : decode cX6_lot 71 = .ok (.if_icmp .ne 6, 3) := by decide +kernel
theorem dX6_lot_74 : decode cX6_lot 74 = .ok (.bipush (-4), 2) := by decide +kernel
theorem dX6_lot_76 : decode cX6_lot 76 = .ok (.ireturn, 1) := by decide +kernel
theorem dX6_lot_77 : decode cX6_lot 77 = .ok (.aload_n 0, 1) := by decide +kernel
theorem dX6_lot_78 : decode cX6_lot 78 = .ok (.getfield 62, 3) := by decide +kernel
theorem dX6_lot_81 : decode cX6_lot 81 = .ok (.aload_n 0, 1) := by decide +kernel
theorem dX6_lot_82 : decode cX6_lot 82 = .ok (.getfield 162, 3) := by decide +kernel
theorem dX6_lot_85 : decode cX6_lot 85 = .ok (.iload_n 1, 1) := by decide +kernel
theorem dX6_lot_86 : decode cX6_lot 86 = .ok (.iastore, 1) := by decide +kernel
theorem dX6_lot_87 : decode cX6_lot 87 = .ok (.aload_n 0, 1) := by decide +kernel
theorem dX6_lot_88 : decode cX6_lot 88 = .ok (.getfield 65, 3) := by decide +kernel
theorem dX6_lot_91 : decode cX6_lot 91 = .ok (.aload_n 0, 1) := by decide +kernel
theorem dX6_lot_92 : decode cX6_lot 92 = .ok (.getfield 162, 3) := by decide +kernel
theorem dX6_lot_95 : decode cX6_lot 95 = .ok (.iload_n 2, 1) := by decide +kernel
theorem dX6_lot_96 : decode cX6_lot 96 = .ok (.iastore, 1) := by decide +kernel
theorem dX6_lot_97 : decode cX6_lot 97 = .ok (.aload_n 0, 1) := by decide +kernel
theorem dX6_lot_98 : decode cX6_lot 98 = .ok (.getfield 68, 3) := by decide +kernel
theorem dX6_lot_101 : decode cX6_lot 101 = .ok (.aload_n 0, 1) := by decide +kernel
theorem dX6_lot_102 : decode cX6_lot 102 = .ok (.getfield 162, 3) := by decide +kernel
theorem dX6_lot_105 : decode cX6_lot 105 = .ok (.iload_n 3, 1) := by decide +kernel
theorem dX6_lot_106 : decode cX6_lot 106 = .ok (.iastore, 1) := by decide +kernel
theorem dX6_lot_107 : decode cX6_lot 107 = .ok (.aload_n 0, 1) := by decide +kernel
theorem dX6_lot_108 : decode cX6_lot 108 = .ok (.dup, 1) := by decide +kernel
theorem dX6_lot_109 : decode cX6_lot 109 = .ok (.getfield 162, 3) := by decide +kernel
theorem dX6_lot_112 : decode cX6_lot 112 = .ok (.iconst 1, 1) := by decide +kernel
theorem dX6_lot_113 : decode cX6_lot 113 = .ok (.iadd, 1) := by decide +kernel
theorem dX6_lot_114 : decode cX6_lot 114 = .ok (.putfield 162, 3) := by decide +kernel
theorem dX6_lot_117 : decode cX6_lot 117 = .ok (.aload_n 0, 1) := by decide +kernel
theorem dX6_lot_118 : decode cX6_lot 118 = .ok (.getfield 162, 3) := by decide +kernel
theorem dX6_lot_121 : decode cX6_lot 121 = .ok (.iconst 1, 1) := by decide +kernel
theorem dX6_lot_122 : decode cX6_lot 122 = .ok (.isub, 1) := by decide +kernel
theorem dX6_lot_123 : decode cX6_lot 123 = .ok (.ireturn, 1) := by decide +kernel
theorem dX6_findBoth_0 : decode cX6_findBoth 0 = .ok (.aload_n 0, 1) := by decide +kernel
theorem dX6_findBoth_1 : decode cX6_findBoth 1 = .ok (.iconst 0, 1) := by decide +kernel
theorem dX6_findBoth_2 : decode cX6_findBoth 2 = .ok (.putfield 165, 3) := by decide +kernel
theorem dX6_findBoth_5 : decode cX6_findBoth 5 = .ok (.aload_n 0, 1) := by decide +kernel
theorem dX6_findBoth_6 : decode cX6_findBoth 6 = .ok (.iconst 0, 1) := by decide +kernel
theorem dX6_findBoth_7 : decode cX6_findBoth 7 = .ok (.putfield 168, 3) := by decide +kernel
theorem dX6_findBoth_10 : decode cX6_findBoth 10 = .ok (.aload_n 0, 1) := by decide +kernel
theorem dX6_findBoth_11 : decode cX6_findBoth 11 = .ok (.iconst 0, 1) := by decide +kernel
theorem dX6_findBoth_12 : decode cX6_findBoth 12 = .ok (.putfield 171, 3) := by decide +kernel
theorem dX6_findBoth_15 : decode cX6_findBoth 15 = .ok (.aload_n 0, 1) := by decide +kernel
theorem dX6_findBoth_16 : decode cX6_findBoth 16 = .ok (.iconst 0, 1) := by decide +kernel
theorem dX6_findBoth_17 : decode cX6_findBoth 17 = .ok (.putfield 174, 3) := by decide +kernel
theorem dX6_findBoth_20 : decode cX6_findBoth 20 = .ok (.iconst 0, 1) := by decide +kernel
theorem dX6_findBoth_21 : decode cX6_findBoth 21 = .ok (.istore_n 3, 1) := by decide +kernel
theorem dX6_findBoth_22 : decode cX6_findBoth 22 = .ok (.iload_n 3, 1) := by decide +kernel
theorem dX6_findBoth_23 : decode cX6_findBoth 23 = .ok (.aload_n 0, 1) := by decide +kernel
theorem dX6_findBoth_24 : decode cX6_findBoth 24 = .ok (.getfield 162, 3) := by decide +kernel
theorem dX6_findBoth_27 : decode cX6_findBoth 27 = .ok (.if_icmp .ge 113, 3) := by decide +kernel
theorem dX6_findBoth_30 : decode cX6_findBoth 30 = .ok (.aload_n 0, 1) := by decide +kernel
theorem dX6_findBoth_31 : decode cX6_findBoth 31 = .ok (.getfield 62, 3) := by decide +kernel
theorem dX6_findBoth_34 : decode cX6_findBoth 34 = .ok (.iload_n 3, 1) := by decide +kernel
theorem dX6_findBoth_35 : decode cX6_findBoth 35 = .ok (.iaload, 1) := by decide +kernel
theorem dX6_findBoth_36 : decode cX6_findBoth 36 = .ok (.iload_n 1, 1) := by decide +kernel
theorem dX6_findBoth_37 : decode cX6_findBoth 37 = .ok (.ishr, 1) := by decide +kernel
theorem dX6_findBoth_38 : decode cX6_findBoth 38 = .ok (.iconst 1, 1) := by decide +kernel
theorem dX6_findBoth_39 : decode cX6_findBoth 39 = .ok (.iand, 1) := by decide +kernel
theorem dX6_findBoth_40 : decode cX6_findBoth 40 = .ok (.iconst 1, 1) := by decide +kernel
theorem dX6_findBoth_41 : decode cX6_findBoth 41 = .ok (.if_icmp .ne 93, 3) := by decide +kernel
theorem dX6_findBoth_44 : decode cX6_findBoth 44 = .ok (.aload_n 0, 1) := by decide +kernel
theorem dX6_findBoth_45 : decode cX6_findBoth 45 = .ok (.getfield 62, 3) := by decide +kernel
theorem dX6_findBoth_48 : decode cX6_findBoth 48 = .ok (.iload_n 3, 1) := by decide +kernel
theorem dX6_findBoth_49 : decode cX6_findBoth 49 = .ok (.iaload, 1) := by decide +kernel
theorem dX6_findBoth_50 : decode cX6_findBoth 50 = .ok (.iload_n 2, 1) := by decide +kernel
theorem dX6_findBoth_51 : decode cX6_findBoth 51 = .ok (.ishr, 1) := by decide +kernel
theorem dX6_findBoth_52 : decode cX6_findBoth 52 = .ok (.iconst 1, 1) := by decide +kernel
theorem dX6_findBoth_53 : decode cX6_findBoth 53 = .ok (.iand, 1) := by decide +kernel
theorem dX6_findBoth_54 : decode cX6_findBoth 54 = .ok (.iconst 1, 1) := by decide +kernel
theorem dX6_findBoth_55 : decode cX6_findBoth 55 = .ok (.if_icmp .ne 79, 3) := by decide +kernel
theorem dX6_findBoth_58 : decode cX6_findBoth 58 = .ok (.aload_n 0, 1) := by decide +kernel
theorem dX6_findBoth_59 : decode cX6_findBoth 59 = .ok (.dup, 1) := by decide +kernel
theorem dX6_findBoth_60 : decode cX6_findBoth 60 = .ok (.getfield 165, 3) := by decide +kernel
theorem dX6_findBoth_63 : decode cX6_findBoth 63 = .ok (.iconst 1, 1) := by decide +kernel
theorem dX6_findBoth_64 : decode cX6_findBoth 64 = .ok (.iadd, 1) := by decide +kernel
theorem dX6_findBoth_65 : decode cX6_findBoth 65 = .ok (.putfield 165, 3) := by decide +kernel
theorem dX6_findBoth_68 : decode cX6_findBoth 68 = .ok (.aload_n 0, 1) := by decide +kernel
theorem dX6_findBoth_69 : decode cX6_findBoth 69 = .ok (.dup, 1) := by decide +kernel
theorem dX6_findBoth_70 : decode cX6_findBoth 70 = .ok (.getfield 168, 3) := by decide +kernel
theorem dX6_findBoth_73 : decode cX6_findBoth 73 = .ok (.aload_n 0, 1) := by decide +kernel
theorem dX6_findBoth_74 : decode cX6_findBoth 74 = .ok (.getfield 65, 3) := by decide +kernel
theorem dX6_findBoth_77 : decode cX6_findBoth 77 = .ok (.iload_n 3, 1) := by decide +kernel
theorem dX6_findBoth_78 : decode cX6_findBoth 78 = .ok (.iaload, 1) := by decide +kernel
theorem dX6_findBoth_79 : decode cX6_findBoth 79 = .ok (.iload_n 1, 1) := by decide +kernel
theorem dX6_findBoth_80 : decode cX6_findBoth 80 = .ok (.ishr, 1) := by decide +kernel
theorem dX6_findBoth_81 : decode cX6_findBoth 81 = .ok (.iconst 1, 1) := by decide +kernel
theorem dX6_findBoth_82 : decode cX6_findBoth 82 = .ok (.iand, 1) := by decide +kernel
theorem dX6_findBoth_83 : decode cX6_findBoth 83 = .ok (.iadd, 1) := by decide +kernel
theorem dX6_findBoth_84 : decode cX6_findBoth 84 = .ok (.putfield 168, 3) := by decide +kernel
theorem dX6_findBoth_87 : decode cX6_findBoth 87 = .ok (.aload_n 0, 1) := by decide +kernel
theorem dX6_findBoth_88 : decode cX6_findBoth 88 = .ok (.dup, 1) := by decide +kernel
theorem dX6_findBoth_89 : decode cX6_findBoth 89 = .ok (.getfield 171, 3) := by decide +kernel
theorem dX6_findBoth_92 : decode cX6_findBoth 92 = .ok (.aload_n 0, 1) := by decide +kernel
theorem dX6_findBoth_93 : decode cX6_findBoth 93 = .ok (.getfield 65, 3) := by decide +kernel
theorem dX6_findBoth_96 : decode cX6_findBoth 96 = .ok (.iload_n 3, 1) := by decide +kernel
theorem dX6_findBoth_97 : decode cX6_findBoth 97 = .ok (.iaload, 1) := by decide +kernel
theorem dX6_findBoth_98 : decode cX6_findBoth 98 = .ok (.iload_n 2, 1) := by decide +kernel
theorem dX6_findBoth_99 : decode cX6_findBoth 99 = .ok (.ishr, 1) := by decide +kernel
theorem dX6_findBoth_100 : decode cX6_findBoth 100 = .ok (.iconst 1, 1) := by decide +kernel
theorem dX6_findBoth_101 : decode cX6_findBoth 101 = .ok (.iand, 1) := by decide +kernel
theorem dX6_findBoth_102 : decode cX6_findBoth 102 = .ok (.iadd, 1) := by decide +kernel
theorem dX6_findBoth_103 : decode cX6_findBoth 103 = .ok (.putfield 171, 3) := by decide +kernel
theorem dX6_findBoth_106 : decode cX6_findBoth 106 = .ok (.aload_n 0, 1) := by decide +kernel
theorem dX6_findBoth_107 : decode cX6_findBoth 107 = .ok (.dup, 1) := by decide +kernel
theorem dX6_findBoth_108 : decode cX6_findBoth 108 = .ok (.getfield 174, 3) := by decide +kernel
theorem dX6_findBoth_111 : decode cX6_findBoth 111 = .ok (.aload_n 0, 1) := by decide +kernel
theorem dX6_findBoth_112 : decode cX6_findBoth 112 = .ok (.getfield 65, 3) := by decide +kernel
theorem dX6_findBoth_115 : decode cX6_findBoth 115 = .ok (.iload_n 3, 1) := by decide +kernel
theorem dX6_findBoth_116 : decode cX6_findBoth 116 = .ok (.iaload, 1) := by decide +kernel
theorem dX6_findBoth_117 : decode cX6_findBoth 117 = .ok (.iload_n 1, 1) := by decide +kernel
theorem dX6_findBoth_118 : decode cX6_findBoth 118 = .ok (.ishr, 1) := by decide +kernel
theorem dX6_findBoth_119 : decode cX6_findBoth 119 = .ok (.aload_n 0, 1) := by decide +kernel
theorem dX6_findBoth_120 : decode cX6_findBoth 120 = .ok (.getfield 65, 3) := by decide +kernel
theorem dX6_findBoth_123 : decode cX6_findBoth 123 = .ok (.iload_n 3, 1) := by decide +kernel
theorem dX6_findBoth_124 : decode cX6_findBoth 124 = .ok (.iaload, 1) := by decide +kernel
theorem dX6_findBoth_125 : decode cX6_findBoth 125 = .ok (.iload_n 2, 1) := by decide +kernel
theorem dX6_findBoth_126 : decode cX6_findBoth 126 = .ok (.ishr, 1) := by decide +kernel
theorem dX6_findBoth_127 : decode cX6_findBoth 127 = .ok (.iand, 1) := by decide +kernel
theorem dX6_findBoth_128 : decode cX6_findBoth 128 = .ok (.iconst 1, 1) := by decide +kernel
theorem dX6_findBoth_129 : decode cX6_findBoth 129 = .ok (.iand, 1) := by decide +kernel
theorem dX6_findBoth_130 : decode cX6_findBoth 130 = .ok (.iadd, 1) := by decide +kernel
theorem dX6_findBoth_131 : decode cX6_findBoth 131 = .ok (.putfield 174, 3) := by decide +kernel
theorem dX6_findBoth_134 : decode cX6_findBoth 134 = .ok (.iinc 3 1, 3) := by decide +kernel
theorem dX6_findBoth_137 : decode cX6_findBoth 137 = .ok (.goto (-115), 3) := by decide +kernel
theorem dX6_findBoth_140 : decode cX6_findBoth 140 = .ok (.return_, 1) := by decide +kernel
set_option maxRecDepth 20000 in
theorem ggX6_isPair_X6_isDealer : GoodIn wsX6_isPair wsX6_isDealer := goodIn_r _ [4, 5, 6, 7, 3, 8] (by decide +kernel) (by decide +kernel)
set_option maxRecDepth 20000 in
theorem gX6_isPair_X6_isDealer : GoodIn wsX6_isPair (va_wsS RX6 140 yX6_isDealer wsX6_isDealer) := goodIn_app (goodIn_of _ (by decide +kernel)) ggX6_isPair_X6_isDealer
theorem dX6_isPair_0 : decode cX6_isPair 0 = .ok (.iload_n 0, 1) := by decide +kernel
theorem dX6_isPair_1 : decode cX6_isPair 1 = .ok (.invokestatic 140, 3) := by decide +kernel
theorem dX6_isPair_4 : decode cX6_isPair 4 = .ok (.ifCond .eq 19, 3) := by decide +kernel
theorem dX6_isPair_7 : decode cX6_isPair 7 = .ok (.iload_n 1, 1) := by decide +kernel
theorem dX6_isPair_8 : decode cX6_isPair 8 = .ok (.invokestatic 140, 3) := by decide +kernel
theorem dX6_isPair_11 : decode cX6_isPair 11 = .ok (.ifCond .eq 12, 3) := by decide +kernel
theorem dX6_isPair_14 : decode cX6_isPair 14 = .ok (.iload_n 0, 1) := by decide +kernel
theorem dX6_isPair_15 : decode cX6_isPair 15 = .ok (.iload_n 1, 1) := by decide +kernel
theorem dX6_isPair_16 : decode cX6_isPair 16 = .ok (.if_icmp .eq 7, 3) := by decide +kernel
theorem dX6_isPair_19 : decode cX6_isPair 19 = .ok (.iconst 1, 1) := by decide +kernel
theorem dX6_isPair_20 : decode cX6_isPair 20 = .ok (.goto 4, 3) := by decide +kernel
