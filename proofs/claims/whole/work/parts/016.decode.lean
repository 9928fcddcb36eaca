theorem dX6_findJoined_59 : decode cX6_findJoined 59 = .ok (.getfield 78, 3) := by decide +kernel
theorem dX6_findJoined_62 : decode cX6_findJoined 62 = .ok (.sipush 4096, 3) := by decide +kernel
theorem dX6_findJoined_65 : decode cX6_findJoined 65 = .ok (.aload_n 0, 1) := by decide +kernel
theorem dX6_findJoined_66 : decode cX6_findJoined 66 = .ok (.getfield 212, 3) := by decide +kernel
theorem dX6_findJoined_69 : decode cX6_findJoined 69 = .ok (.imul, 1) := by decide +kernel
theorem dX6_findJoined_70 : decode cX6_findJoined 70 = .ok (.iload_n 1, 1) := by decide +kernel
theorem dX6_findJoined_71 : decode cX6_findJoined 71 = .ok (.iadd, 1) := by decide +kernel
theorem dX6_findJoined_72 : decode cX6_findJoined 72 = .ok (.iconst 0, 1) := by decide +kernel
theorem dX6_findJoined_73 : decode cX6_findJoined 73 = .ok (.iastore, 1) := by decide +kernel
theorem dX6_findJoined_74 : decode cX6_findJoined 74 = .ok (.iinc 1 1, 3) := by decide +kernel
theorem dX6_findJoined_77 : decode cX6_findJoined 77 = .ok (.goto (-26), 3) := by decide +kernel
theorem dX6_findJoined_80 : decode cX6_findJoined 80 = .ok (.aload_n 0, 1) := by decide +kernel
theorem dX6_findJoined_81 : decode cX6_findJoined 81 = .ok (.getfield 212, 3) := by decide +kernel
theorem dX6_findJoined_84 : decode cX6_findJoined 84 = .ok (.iconst 1, 1) := by decide +kernel
theorem dX6_findJoined_85 : decode cX6_findJoined 85 = .ok (.isub, 1) := by decide +kernel
theorem dX6_findJoined_86 : decode cX6_findJoined 86 = .ok (.istore_n 1, 1) := by decide +kernel
theorem dX6_findJoined_87 : decode cX6_findJoined 87 = .ok (.iload_n 1, 1) := by decide +kernel
theorem dX6_findJoined_88 : decode cX6_findJoined 88 = .ok (.ifCond .lt 140, 3) := by decide +kernel
theorem dX6_findJoined_91 : decode cX6_findJoined 91 = .ok (.iconst 0, 1) := by decide +kernel
theorem dX6_findJoined_92 : decode cX6_findJoined 92 = .ok (.istore_n 2, 1) := by decide +kernel
theorem dX6_findJoined_93 : decode cX6_findJoined 93 = .ok (.iload_n 2, 1) := by decide +kernel
theorem dX6_findJoined_94 : decode cX6_findJoined 94 = .ok (.sipush 4096, 3) := by decide +kernel
theorem dX6_findJoined_97 : decode cX6_findJoined 97 = .ok (.if_icmp .ge 125, 3) := by decide +kernel
theorem dX6_findJoined_100 : decode cX6_findJoined 100 = .ok (.aload_n 0, 1) := by decide +kernel
theorem dX6_findJoined_101 : decode cX6_findJoined 101 = .ok (.getfield 78, 3) := by decide +kernel
theorem dX6_findJoined_104 : decode cX6_findJoined 104 = .ok (.sipush 4096, 3) := by decide +kernel
theorem dX6_findJoined_107 : decode cX6_findJoined 107 = .ok (.iload_n 1, 1) := by decide +kernel
theorem dX6_findJoined_108 : decode cX6_findJoined 108 = .ok (.iconst 1, 1) := by decide +kernel
theorem dX6_findJoined_109 : decode cX6_findJoined 109 = .ok (.iadd, 1) := by decide +kernel
theorem dX6_findJoined_110 : decode cX6_findJoined 110 = .ok (.imul, 1) := by decide +kernel
theorem dX6_findJoined_111 : decode cX6_findJoined 111 = .ok (.iload_n 2, 1) := by decide +kernel
theorem dX6_findJoined_112 : decode cX6_findJoined 112 = .ok (.iadd, 1) := by decide +kernel
theorem dX6_findJoined_113 : decode cX6_findJoined 113 = .ok (.iaload, 1) := by decide +kernel
theorem dX6_findJoined_114 : decode cX6_findJoined 114 = .ok (.istore_n 3, 1) := by decide +kernel
theorem dX6_findJoined_115 : decode cX6_findJoined 115 = .ok (.iconst 0, 1) := by decide +kernel
theorem dX6_findJoined_116 : decode cX6_findJoined 116 = .ok (.istore 4, 2) := by decide +kernel
theorem dX6_findJoined_118 : decode cX6_findJoined 118 = .ok (.iload 4, 2) := by decide +kernel
theorem dX6_findJoined_120 : decode cX6_findJoined 120 = .ok (.aload_n 0, 1) := by decide +kernel
theorem dX6_findJoined_121 : decode cX6_findJoined 121 = .ok (.getfield 104, 3) := by decide +kernel
theorem dX6_findJoined_124 : decode cX6_findJoined 124 = .ok (.if_icmp .ge 79, 3) := by decide +kernel
theorem dX6_findJoined_127 : decode cX6_findJoined 127 = .ok (.iload_n 2, 1) := by decide +kernel
theorem dX6_findJoined_128 : decode cX6_findJoined 128 = .ok (.iload 4, 2) := by decide +kernel
theorem dX6_findJoined_130 : decode cX6_findJoined 130 = .ok (.ishr, 1) := by decide +kernel
theorem dX6_findJoined_131 : decode cX6_findJoined 131 = .ok (.iconst 1, 1) := by decide +kernel
theorem dX6_findJoined_132 : decode cX6_findJoined 132 = .ok (.iand, 1) := by decide +kernel
theorem dX6_findJoined_133 : decode cX6_findJoined 133 = .ok (.iconst 1, 1) := by decide +kernel
theorem dX6_findJoined_134 : decode cX6_findJoined 134 = .ok (.if_icmp .ne 7, 3) := by decide +kernel
theorem dX6_findJoined_137 : decode cX6_findJoined 137 = .ok (.iconst 0, 1) := by decide +kernel
theorem dX6_findJoined_138 : decode cX6_findJoined 138 = .ok (.goto 15, 3) := by decide +kernel
theorem dX6_findJoined_141 : decode cX6_findJoined 141 = .ok (.aload_n 0, 1) := by decide +kernel
theorem dX6_findJoined_142 : decode cX6_findJoined 142 = .ok (.getfield 84, 3) := by decide +kernel
theorem dX6_findJoined_145 : decode cX6_findJoined 145 = .ok (.bipush 12, 2) := by decide +kernel
theorem dX6_findJoined_147 : decode cX6_findJoined 147 = .ok (.iload_n 1, 1) := by decide +kernel
theorem dX6_findJoined_148 : decode cX6_findJoined 148 = .ok (.imul, 1) := by decide +kernel
theorem dX6_findJoined_149 : decode cX6_findJoined 149 = .ok (.iload 4, 2) := by decide +kernel
theorem dX6_findJoined_151 : decode cX6_findJoined 151 = .ok (.iadd, 1) := by decide +kernel
theorem dX6_findJoined_152 : decode cX6_findJoined 152 = .ok (.iaload, 1) := by decide +kernel
theorem dX6_findJoined_153 : decode cX6_findJoined 153 = .ok (.istore 5, 2) := by decide +kernel
theorem dX6_findJoined_155 : decode cX6_findJoined 155 = .ok (.iload 5, 2) := by decide +kernel
theorem dX6_findJoined_157 : decode cX6_findJoined 157 = .ok (.ifCond .le 40, 3) := by decide +kernel
theorem dX6_findJoined_160 : decode cX6_findJoined 160 = .ok (.iload 5, 2) := by decide +kernel
theorem dX6_findJoined_162 : decode cX6_findJoined 162 = .ok (.aload_n 0, 1) := by decide +kernel
theorem dX6_findJoined_163 : decode cX6_findJoined 163 = .ok (.getfield 78, 3) := by decide +kernel
theorem dX6_findJoined_166 : decode cX6_findJoined 166 = .ok (.sipush 4096, 3) := by decide +kernel
theorem dX6_findJoined_169 : decode cX6_findJoined 169 = .ok (.iload_n 1, 1) := by decide +kernel
theorem dX6_findJoined_170 : decode cX6_findJoined 170 = .ok (.iconst 1, 1) := by decide +kernel
theorem dX6_findJoined_171 : decode cX6_findJoined 171 = .ok (.iadd, 1) := by decide +kernel
theorem dX6_findJoined_172 : decode cX6_findJoined 172 = .ok (.imul, 1) := by decide +kernel
theorem dX6_findJoined_173 : decode cX6_findJoined 173 = .ok (.iload_n 2, 1) := by decide +kernel
theorem dX6_findJoined_174 : decode cX6_findJoined 174 = .ok (.iconst 1, 1) := by decide +kernel
theorem dX6_findJoined_175 : decode cX6_findJoined 175 = .ok (.iload 4, 2) := by decide +kernel
theorem dX6_findJoined_177 : decode cX6_findJoined 177 = .ok (.ishl, 1) := by decide +kernel
theorem dX6_findJoined_178 : decode cX6_findJoined 178 = .ok (.ior, 1) := by decide +kernel
theorem dX6_findJoined_179 : decode cX6_findJoined 179 = .ok (.iadd, 1) := by decide +kernel
theorem dX6_findJoined_180 : decode cX6_findJoined 180 = .ok (.iaload, 1) := by decide +kernel
theorem dX6_findJoined_181 : decode cX6_findJoined 181 = .ok (.iadd, 1) := by decide +kernel
theorem dX6_findJoined_182 : decode cX6_findJoined 182 = .ok (.istore 6, 2) := by decide +kernel
theorem dX6_findJoined_184 : decode cX6_findJoined 184 = .ok (.iload 6, 2) := by decide +kernel
theorem dX6_findJoined_186 : decode cX6_findJoined 186 = .ok (.iload_n 3, 1) := by decide +kernel
theorem dX6_findJoined_187 : decode cX6_findJoined 187 = .ok (.if_icmp .le 8, 3) := by decide +kernel
theorem dX6_findJoined_190 : decode cX6_findJoined 190 = .ok (.iload 6, 2) := by decide +kernel
theorem dX6_findJoined_192 : decode cX6_findJoined 192 = .ok (.goto 4, 3) := by decide +kernel
theorem dX6_findJoined_195 : decode cX6_findJoined 195 = .ok (.iload_n 3, 1) := by decide +kernel
theorem dX6_findJoined_196 : decode cX6_findJoined 196 = .ok (.istore_n 3, 1) := by decide +kernel
theorem dX6_findJoined_197 : decode cX6_findJoined 197 = .ok (.iinc 4 1, 3) := by decide +kernel
theorem dX6_findJoined_200 : decode cX6_findJoined 200 = .ok (.goto (-82), 3) := by decide +kernel
theorem dX6_findJoined_203 : decode cX6_findJoined 203 = .ok (.aload_n 0, 1) := by decide +kernel
theorem dX6_findJoined_204 : decode cX6_findJoined 204 = .ok (.getfield 78, 3) := by decide +kernel
theorem dX6_findJoined_207 : decode cX6_findJoined 207 = .ok (.sipush 4096, 3) := by decide +kernel
theorem dX6_findJoined_210 : decode cX6_findJoined 210 = .ok (.iload_n 1, 1) := by decide +kernel
theorem dX6_findJoined_211 : decode cX6_findJoined 211 = .ok (.imul, 1) := by decide +kernel
theorem dX6_findJoined_212 : decode cX6_findJoined 212 = .ok (.iload_n 2, 1) := by decide +kernel
theorem dX6_findJoined_213 : decode cX6_findJoined 213 = .ok (.iadd, 1) := by decide +kernel
theorem dX6_findJoined_214 : decode cX6_findJoined 214 = .ok (.iload_n 3, 1) := by decide +kernel
theorem dX6_findJoined_215 : decode cX6_findJoined 215 = .ok (.iastore, 1) := by decide +kernel
theorem dX6_findJoined_216 : decode cX6_findJoined 216 = .ok (.iinc 2 1, 3) := by decide +kernel
theorem dX6_findJoined_219 : decode cX6_findJoined 219 = .ok (.goto (-126), 3) := by decide +kernel
theorem dX6_findJoined_222 : decode cX6_findJoined 222 = .ok (.iinc 1 (-1), 3) := by decide +kernel
theorem dX6_findJoined_225 : decode cX6_findJoined 225 = .ok (.goto (-138), 3) := by decide +kernel
theorem dX6_findJoined_228 : decode cX6_findJoined 228 = .ok (.iconst 0, 1) := by decide +kernel
theorem dX6_findJoined_229 : decode cX6_findJoined 229 = .ok (.istore_n 1, 1) := by decide +kernel
theorem dX6_findJoined_230 : decode cX6_findJoined 230 = .ok (.iconst 0, 1) := by decide +kernel
theorem dX6_findJoined_231 : decode cX6_findJoined 231 = .ok (.istore_n 2, 1) := by decide +kernel
theorem dX6_findJoined_232 : decode cX6_findJoined 232 = .ok (.iload_n 2, 1) := by decide +kernel
theorem dX6_findJoined_233 : decode cX6_findJoined 233 = .ok (.aload_n 0, 1) := by decide +kernel
theorem dX6_findJoined_234 : decode cX6_findJoined 234 = .ok (.getfield 212, 3) := by decide +kernel
theorem dX6_findJoined_237 : decode cX6_findJoined 237 = .ok (.if_icmp .ge 152, 3) := by decide +kernel
theorem dX6_findJoined_240 : decode cX6_findJoined 240 = .ok (.aload_n 0, 1) := by decide +kernel
theorem dX6_findJoined_241 : decode cX6_findJoined 241 = .ok (.getfield 81, 3) := by decide +kernel
theorem dX6_findJoined_244 : decode cX6_findJoined 244 = .ok (.iload_n 2, 1) := by decide +kernel
theorem dX6_findJoined_245 : decode cX6_findJoined 245 = .ok (.iconst (-1), 1) := by decide +kernel
theorem dX6_findJoined_246 : decode cX6_findJoined 246 = .ok (.iastore, 1) := by decide +kernel
theorem dX6_findJoined_247 : decode cX6_findJoined 247 = .ok (.aload_n 0, 1) := by decide +kernel
theorem dX6_findJoined_248 : decode cX6_findJoined 248 = .ok (.getfield 104, 3) := by decide +kernel
theorem dX6_findJoined_251 : decode cX6_findJoined 251 = .ok (.iconst 1, 1) := by decide +kernel
theorem dX6_findJoined_252 : decode cX6_findJoined 252 = .ok (.isub, 1) := by decide +kernel
theorem dX6_findJoined_253 : decode cX6_findJoined 253 = .ok (.istore_n 3, 1) := by decide +kernel
theorem dX6_findJoined_254 : decode cX6_findJoined 254 = .ok (.iload_n 3, 1) := by decide +kernel
theorem dX6_findJoined_255 : decode cX6_findJoined 255 = .ok (.ifCond .lt 104, 3) := by decide +kernel
theorem dX6_findJoined_258 : decode cX6_findJoined 258 = .ok (.iload_n 1, 1) := by decide +kernel
theorem dX6_findJoined_259 : decode cX6_findJoined 259 = .ok (.iload_n 3, 1) := by decide +kernel
theorem dX6_findJoined_260 : decode cX6_findJoined 260 = .ok (.ishr, 1) := by decide +kernel
theorem dX6_findJoined_261 : decode cX6_findJoined 261 = .ok (.iconst 1, 1) := by decide +kernel
theorem dX6_findJoined_262 : decode cX6_findJoined 262 = .ok (.iand, 1) := by decide +kernel
theorem dX6_findJoined_263 : decode cX6_findJoined 263 = .ok (.iconst 1, 1) := by decide +kernel
theorem dX6_findJoined_264 : decode cX6_findJoined 264 = .ok (.if_icmp .ne 7, 3) := by decide +kernel
theorem dX6_findJoined_267 : decode cX6_findJoined 267 = .ok (.iconst 0, 1) := by decide +kernel
theorem dX6_findJoined_268 : decode cX6_findJoined 268 = .ok (.goto 14, 3) := by decide +kernel
theorem dX6_findJoined_271 : decode cX6_findJoined 271 = .ok (.aload_n 0, 1) := by decide +kernel
theorem dX6_findJoined_272 : decode cX6_findJoined 272 = .ok (.getfield 84, 3) := by decide +kernel
theorem dX6_findJoined_275 : decode cX6_findJoined 275 = .ok (.bipush 12, 2) := by decide +kernel
theorem dX6_findJoined_277 : decode cX6_findJoined 277 = .ok (.iload_n 2, 1) := by decide +kernel
theorem dX6_findJoined_278 : decode cX6_findJoined 278 = .ok (.imul, 1) := by decide +kernel
theorem dX6_findJoined_279 : decode cX6_findJoined 279 = .ok (.iload_n 3, 1) := by decide +kernel
theorem dX6_findJoined_280 : decode cX6_findJoined 280 = .ok (.iadd, 1) := by decide +kernel
theorem dX6_findJoined_281 : decode cX6_findJoined 281 = .ok (.iaload, 1) := by decide +kernel
theorem dX6_findJoined_282 : decode cX6_findJoined 282 = .ok (.istore 4, 2) := by decide +kernel
theorem dX6_findJoined_284 : decode cX6_findJoined 284 = .ok (.iload 4, 2) := by decide +kernel
theorem dX6_findJoined_286 : decode cX6_findJoined 286 = .ok (.ifCond .le 43, 3) := by decide +kernel
theorem dX6_findJoined_289 : decode cX6_findJoined 289 = .ok (.iload 4, 2) := by decide +kernel
theorem dX6_findJoined_291 : decode cX6_findJoined 291 = .ok (.aload_n 0, 1) := by decide +kernel
theorem dX6_findJoined_292 : decode cX6_findJoined 292 = .ok (.getfield 78, 3) := by decide +kernel
theorem dX6_findJoined_295 : decode cX6_findJoined 295 = .ok (.sipush 4096, 3) := by decide +kernel
theorem dX6_findJoined_298 : decode cX6_findJoined 298 = .ok (.iload_n 2, 1) := by decide +kernel
theorem dX6_findJoined_299 : decode cX6_findJoined 299 = .ok (.iconst 1, 1) := by decide +kernel
theorem dX6_findJoined_300 : decode cX6_findJoined 300 = .ok (.iadd, 1) := by decide +kernel
theorem dX6_findJoined_301 : decode cX6_findJoined 301 = .ok (.imul, 1) := by decide +kernel
theorem dX6_findJoined_302 : decode cX6_findJoined 302 = .ok (.iload_n 1, 1) := by decide +kernel
theorem dX6_findJoined_303 : decode cX6_findJoined 303 = .ok (.iconst 1, 1) := by decide +kernel
theorem dX6_findJoined_304 : decode cX6_findJoined 304 = .ok (.iload_n 3, 1) := by decide +kernel
theorem dX6_findJoined_305 : decode cX6_findJoined 305 = .ok (.ishl, 1) := by decide +kernel
theorem dX6_findJoined_306 : decode cX6_findJoined 306 = .ok (.ior, 1) := by decide +kernel
theorem dX6_findJoined_307 : decode cX6_findJoined 307 = .ok (.iadd, 1) := by decide +kernel
theorem dX6_findJoined_308 : decode cX6_findJoined 308 = .ok (.iaload, 1) := by decide +kernel
theorem dX6_findJoined_309 : decode cX6_findJoined 309 = .ok (.iadd, 1) := by decide +kernel
theorem dX6_findJoined_310 : decode cX6_findJoined 310 = .ok (.aload_n 0, 1) := by decide +kernel
theorem dX6_findJoined_311 : decode cX6_findJoined 311 = .ok (.getfield 78, 3) := by decide +kernel
theorem dX6_findJoined_314 : decode cX6_findJoined 314 = .ok (.sipush 4096, 3) := by decide +kernel
theorem dX6_findJoined_317 : decode cX6_findJoined 317 = .ok (.iload_n 2, 1) := by decide +kernel
theorem dX6_findJoined_318 : decode cX6_findJoined 318 = .ok (.imul, 1) := by decide +kernel
theorem dX6_findJoined_319 : decode cX6_findJoined 319 = .ok (.iload_n 1, 1) := by decide +kernel
theorem dX6_findJoined_320 : decode cX6_findJoined 320 = .ok (.iadd, 1) := by decide +kernel
theorem dX6_findJoined_321 : decode cX6_findJoined 321 = .ok (.iaload, 1) := by decide +kernel
theorem dX6_findJoined_322 : decode cX6_findJoined 322 = .ok (.if_icmp .ne 7, 3) := by decide +kernel
theorem dX6_findJoined_325 : decode cX6_findJoined 325 = .ok (.iconst 1, 1) := by decide +kernel
theorem dX6_findJoined_326 : decode cX6_findJoined 326 = .ok (.goto 4, 3) := by decide +kernel
theorem dX6_findJoined_329 : decode cX6_findJoined 329 = .ok (.iconst 0, 1) := by decide +kernel
theorem dX6_findJoined_330 : decode cX6_findJoined 330 = .ok (.istore 5, 2) := by decide +kernel
theorem dX6_findJoined_332 : decode cX6_findJoined 332 = .ok (.aload_n 0, 1) := by decide +kernel
theorem dX6_findJoined_333 : decode cX6_findJoined 333 = .ok (.getfield 81, 3) := by decide +kernel
theorem dX6_findJoined_336 : decode cX6_findJoined 336 = .ok (.iload_n 2, 1) := by decide +kernel
theorem dX6_findJoined_337 : decode cX6_findJoined 337 = .ok (.iload 5, 2) := by decide +kernel
theorem dX6_findJoined_339 : decode cX6_findJoined 339 = .ok (.ifCond .eq 7, 3) := by decide +kernel
theorem dX6_findJoined_342 : decode cX6_findJoined 342 = .ok (.iload_n 3, 1) := by decide +kernel
theorem dX6_findJoined_343 : decode cX6_findJoined 343 = .ok (.goto 9, 3) := by decide +kernel
theorem dX6_findJoined_346 : decode cX6_findJoined 346 = .ok (.aload_n 0, 1) := by decide +kernel
theorem dX6_findJoined_347 : decode cX6_findJoined 347 = .ok (.getfield 81, 3) := by decide +kernel
theorem dX6_findJoined_350 : decode cX6_findJoined 350 = .ok (.iload_n 2, 1) := by decide +kernel
theorem dX6_findJoined_351 : decode cX6_findJoined 351 = .ok (.iaload, 1) := by decide +kernel
theorem dX6_findJoined_352 : decode cX6_findJoined 352 = .ok (.iastore, 1) := by decide +kernel
theorem dX6_findJoined_353 : decode cX6_findJoined 353 = .ok (.iinc 3 (-1), 3) := by decide +kernel
theorem dX6_findJoined_356 : decode cX6_findJoined 356 = .ok (.goto (-102), 3) := by decide +kernel
theorem dX6_findJoined_359 : decode cX6_findJoined 359 = .ok (.iload_n 1, 1) := by decide +kernel
theorem dX6_findJoined_360 : decode cX6_findJoined 360 = .ok (.aload_n 0, 1) := by decide +kernel
theorem dX6_findJoined_361 : decode cX6_findJoined 361 = .ok (.getfield 81, 3) := by decide +kernel
theorem dX6_findJoined_364 : decode cX6_findJoined 364 = .ok (.iload_n 2, 1) := by decide +kernel
theorem dX6_findJoined_365 : decode cX6_findJoined 365 = .ok (.iaload, 1) := by decide +kernel
theorem dX6_findJoined_366 : decode cX6_findJoined 366 = .ok (.ifCond .ge 7, 3) := by decide +kernel
theorem dX6_findJoined_369 : decode cX6_findJoined 369 = .ok (.iconst 0, 1) := by decide +kernel
theorem dX6_findJoined_370 : decode cX6_findJoined 370 = .ok (.goto 11, 3) := by decide +kernel
theorem dX6_findJoined_373 : decode cX6_findJoined 373 = .ok (.iconst 1, 1) := by decide +kernel
theorem dX6_findJoined_374 : decode cX6_findJoined 374 = .ok (.aload_n 0, 1) := by decide +kernel
theorem dX6_findJoined_375 : decode cX6_findJoined 375 = .ok (.getfield 81, 3) := by decide +kernel
theorem dX6_findJoined_378 : decode cX6_findJoined 378 = .ok (.iload_n 2, 1) := by decide +kernel
theorem dX6_findJoined_379 : decode cX6_findJoined 379 = .ok (.iaload, 1) := by decide +kernel
theorem dX6_findJoined_380 : decode cX6_findJoined 380 = .ok (.ishl, 1) := by decide +kernel
theorem dX6_findJoined_381 : decode cX6_findJoined 381 = .ok (.ior, 1) := by decide +kernel
theorem dX6_findJoined_382 : decode cX6_findJoined 382 = .ok (.istore_n 1, 1) := by decide +kernel
theorem dX6_findJoined_383 : decode cX6_findJoined 383 = .ok (.iinc 2 1, 3) := by decide +kernel
theorem dX6_findJoined_386 : decode cX6_findJoined 386 = .ok (.goto (-154), 3) := by decide +kernel
theorem dX6_findJoined_389 : decode cX6_findJoined 389 = .ok (.return_, 1) := by decide +kernel
set_option maxRecDepth 20000 in
theorem ggX6_joined_X6_findJoined : GoodIn wsX6_joined wsX6_findJoined := goodIn_r _ [7, 1, 8, 9, 2, 10, 11, 12, 13, 6, 14, 15, 16, 17, 18, 19, 20, 21, 22, 23, 24, 25, 26, 27, 28, 29, 30, 31, 32, 33, 34, 35, 36, 37, 38, 39, 40, 41, 42, 43, 44, 45, 46, 47, 48, 49, 50, 51, 52, 53, 54, 55, 56, 57, 58] (by decide +kernel) (by decide +kernel)
set_option maxRecDepth 20000 in
theorem gX6_joined_X6_findJoined : GoodIn wsX6_joined (wsV RX6 222 RX6 yX6_findJoined wsX6_findJoined) := goodIn_app (goodIn_of _ (by decide +kernel)) ggX6_joined_X6_findJoined
theorem dX6_joined_0 : decode cX6_joined 0 = .ok (.aload_n 0, 1) := by decide +kernel
theorem dX6_joined_1 : decode cX6_joined 1 = .ok (.getfield 212, 3) := by decide +kernel
theorem dX6_joined_4 : decode cX6_joined 4 = .ok (.bipush 6, 2) := by decide +kernel
theorem dX6_joined_6 : decode cX6_joined 6 = .ok (.if_icmp .le 6, 3) := by decide +kernel
theorem dX6_joined_9 : decode cX6_joined 9 = .ok (.bipush (-3), 2) := by decide +kernel
theorem dX6_joined_11 : decode cX6_joined 11 = .ok (.ireturn, 1) := by decide +kernel
theorem dX6_joined_12 : decode cX6_joined 12 = .ok (.aload_n 0, 1) := by decide +kernel
theorem dX6_joined_13 : decode cX6_joined 13 = .ok (.invokevirtual 222, 3) := by decide +kernel
theorem dX6_joined_16 : decode cX6_joined 16 = .ok (.aload_n 0, 1) := by decide +kernel
theorem dX6_joined_17 : decode cX6_joined 17 = .ok (.getfield 78, 3) := by decide +kernel
theorem dX6_joined_20 : decode cX6_joined 20 = .ok (.iconst 0, 1) := by decide +kernel
theorem dX6_joined_21 : decode cX6_joined 21 = .ok (.iaload, 1) := by decide +kernel
theorem dX6_joined_22 : decode cX6_joined 22 = .ok (.ireturn, 1) := by decide +kernel
set_option maxRecDepth 20000 in
theorem ggX6_joinedTo_X6_in : GoodIn wsX6_joinedTo wsX6_in := goodIn_r _ [6] (by decide +kernel) (by decide +kernel)
set_option maxRecDepth 20000 in
theorem gX6_joinedTo_X6_in : GoodIn wsX6_joinedTo (va_wsS RX6 92 yX6_in wsX6_in) := goodIn_app (goodIn_of _ (by decide +kernel)) ggX6_joinedTo_X6_in
set_option maxRecDepth 20000 in
theorem ggX6_joinedTo_X6_findJoined : GoodIn wsX6_joinedTo wsX6_findJoined := goodIn_r _ [10, 1, 11, 12, 13, 2, 14, 15, 16, 5, 17, 18, 19, 20, 21, 22, 23, 24, 25, 26, 27, 28, 29, 30, 31, 32, 33, 34, 35, 36, 37, 38, 39, 40, 41, 42, 43, 44, 45, 46, 47, 48, 49, 50, 51, 52, 53, 54, 55, 56, 57, 58, 59, 60, 61] (by decide +kernel) (by decide +kernel)
set_option maxRecDepth 20000 in
theorem gX6_joinedTo_X6_findJoined : GoodIn wsX6_joinedTo (wsV RX6 222 RX6 yX6_findJoined wsX6_findJoined) := goodIn_app (goodIn_of _ (by decide +kernel)) ggX6_joinedTo_X6_findJoined
theorem dX6_joinedTo_0 : decode cX6_joinedTo 0 = .ok (.iload_n 1, 1) := by decide +kernel
theorem dX6_joinedTo_1 : decode cX6_joinedTo 1 = .ok (.i2l, 1) := by decide +kernel
theorem dX6_joinedTo_2 : decode cX6_joinedTo 2 = .ok (.lconst 0, 1) := by decide +kernel
theorem dX6_joinedTo_3 : decode cX6_joinedTo 3 = .ok (.aload_n 0, 1) := by decide +kernel
theorem dX6_joinedTo_4 : decode cX6_joinedTo 4 = .ok (.getfield 212, 3) := by decide +kernel
theorem dX6_joinedTo_7 : decode cX6_joinedTo 7 = .ok (.iconst 1, 1) := by decide +kernel
theorem dX6_joinedTo_8 : decode cX6_joinedTo 8 = .ok (.isub, 1) := by decide +kernel
theorem dX6_joinedTo_9 : decode cX6_joinedTo 9 = .ok (.i2l, 1) := by decide +kernel
theorem dX6_joinedTo_10 : decode cX6_joinedTo 10 = .ok (.invokestatic 92, 3) := by decide +kernel
theorem dX6_joinedTo_13 : decode cX6_joinedTo 13 = .ok (.ifCond .ne 6, 3) := by decide +kernel
theorem dX6_joinedTo_16 : decode cX6_joinedTo 16 = .ok (.bipush (-2), 2) := by decide +kernel
theorem dX6_joinedTo_18 : decode cX6_joinedTo 18 = .ok (.ireturn, 1) := by decide +kernel
theorem dX6_joinedTo_19 : decode cX6_joinedTo 19 = .ok (.aload_n 0, 1) := by decide +kernel
theorem dX6_joinedTo_20 : decode cX6_joinedTo 20 = .ok (.getfield 212, 3) := by decide +kernel
theorem dX6_joinedTo_23 : decode cX6_joinedTo 23 = .ok (.bipush 6, 2) := by decide +kernel
theorem dX6_joinedTo_25 : decode cX6_joinedTo 25 = .ok (.if_icmp .le 6, 3) := by decide +kernel
theorem dX6_joinedTo_28 : decode cX6_joinedTo 28 = .ok (.bipush (-3), 2) := by decide +kernel
theorem dX6_joinedTo_30 : decode cX6_joinedTo 30 = .ok (.ireturn, 1) := by decide +kernel
theorem dX6_joinedTo_31 : decode cX6_joinedTo 31 = .ok (.aload_n 0, 1) := by decide +kernel
theorem dX6_joinedTo_32 : decode cX6_joinedTo 32 = .ok (.invokevirtual 222, 3) := by decide +kernel
theorem dX6_joinedTo_35 : decode cX6_joinedTo 35 = .ok (.aload_n 0, 1) := by decide +kernel
theorem dX6_joinedTo_36 : decode cX6_joinedTo 36 = .ok (.getfield 81, 3) := by decide +kernel
theorem dX6_joinedTo_39 : decode cX6_joinedTo 39 = .ok (.iload_n 1, 1) := by decide +kernel
theorem dX6_joinedTo_40 : decode cX6_joinedTo 40 = .ok (.iaload, 1) := by decide +kernel
theorem dX6_joinedTo_41 : decode cX6_joinedTo 41 = .ok (.ireturn, 1) := by decide +kernel
set_option maxRecDepth 20000 in
theorem ggX6_owe_X6_isPair : GoodIn wsX6_owe wsX6_isPair := goodIn_r _ [6, 7, 8, 5, 9, 10, 11, 12, 13] (by decide +kernel) (by decide +kernel)
set_option maxRecDepth 20000 in
theorem gX6_owe_X6_isPair : GoodIn wsX6_owe (va_wsS RX6 177 yX6_isPair wsX6_isPair) := goodIn_app (goodIn_of _ (by decide +kernel)) ggX6_owe_X6_isPair
set_option maxRecDepth 20000 in
theorem ggX6_owe_X6_in : GoodIn wsX6_owe wsX6_in := goodIn_r _ [13] (by decide +kernel) (by decide +kernel)
set_option maxRecDepth 20000 in
theorem gX6_owe_X6_in : GoodIn wsX6_owe (va_wsS RX6 92 yX6_in wsX6_in) := goodIn_app (goodIn_of _ (by decide +kernel)) ggX6_owe_X6_in
theorem dX6_owe_0 : decode cX6_owe 0 = .ok (.iload_n 1, 1) := by decide +kernel
theorem dX6_owe_1 : decode cX6_owe 1 = .ok (.iload_n 2, 1) := by decide +kernel
theorem dX6_owe_2 : decode cX6_owe 2 = .ok (.invokestatic 177, 3) := by decide +kernel
theorem dX6_owe_5 : decode cX6_owe 5 = .ok (.ifCond .eq 15, 3) := by decide +kernel
theorem dX6_owe_8 : decode cX6_owe 8 = .ok (.iload_n 3, 1) := by decide +kernel
theorem dX6_owe_9 : decode cX6_owe 9 = .ok (.i2l, 1) := by decide +kernel
theorem dX6_owe_10 : decode cX6_owe 10 = .ok (.lconst 0, 1) := by decide +kernel
theorem dX6_owe_11 : decode cX6_owe 11 = .ok (.ldc2_w 225, 3) := by decide +kernel
theorem dX6_owe_14 : decode cX6_owe 14 = .ok (.invokestatic 92, 3) := by decide +kernel
theorem dX6_owe_17 : decode cX6_owe 17 = .ok (.ifCond .ne 6, 3) := by decide +kernel
theorem dX6_owe_20 : decode cX6_owe 20 = .ok (.bipush (-2), 2) := by decide +kernel
theorem dX6_owe_22 : decode cX6_owe 22 = .ok (.ireturn, 1) := by decide +kernel
theorem dX6_owe_23 : decode cX6_owe 23 = .ok (.aload_n 0, 1) := by decide +kernel
theorem dX6_owe_24 : decode cX6_owe 24 = .ok (.getfield 87, 3) := by decide +kernel
theorem dX6_owe_27 : decode cX6_owe 27 = .ok (.bipush 8, 2) := by decide +kernel
theorem dX6_owe_29 : decode cX6_owe 29 = .ok (.iload_n 1, 1) := by decide +kernel
theorem dX6_owe_30 : decode cX6_owe 30 = .ok (.imul, 1) := by decide +kernel
theorem dX6_owe_31 : decode cX6_owe 31 = .ok (.iload_n 2, 1) := by decide +kernel
theorem dX6_owe_32 : decode cX6_owe 32 = .ok (.iadd, 1) := by decide +kernel
theorem dX6_owe_33 : decode cX6_owe 33 = .ok (.iaload, 1) := by decide +kernel
theorem dX6_owe_34 : decode cX6_owe 34 = .ok (.istore 4, 2) := by decide +kernel
theorem dX6_owe_36 : decode cX6_owe 36 = .ok (.aload_n 0, 1) := by decide +kernel
theorem dX6_owe_37 : decode cX6_owe 37 = .ok (.getfield 87, 3) := by decide +kernel
theorem dX6_owe_40 : decode cX6_owe 40 = .ok (.bipush 8, 2) := by decide +kernel
theorem dX6_owe_42 : decode cX6_owe 42 = .ok (.iload_n 1, 1) := by decide +kernel
theorem dX6_owe_43 : decode cX6_owe 43 = .ok (.imul, 1) := by decide +kernel
theorem dX6_owe_44 : decode cX6_owe 44 = .ok (.iload_n 2, 1) := by decide +kernel
theorem dX6_owe_45 : decode cX6_owe 45 = .ok (.iadd, 1) := by decide +kernel
theorem dX6_owe_46 : decode cX6_owe 46 = .ok (.iload_n 3, 1) := by decide +kernel
theorem dX6_owe_47 : decode cX6_owe 47 = .ok (.iastore, 1) := by decide +kernel
theorem dX6_owe_48 : decode cX6_owe 48 = .ok (.iload 4, 2) := by decide +kernel
theorem dX6_owe_50 : decode cX6_owe 50 = .ok (.ireturn, 1) := by decide +kernel
theorem dX6_owed_0 : decode cX6_owed 0 = .ok (.iconst 0, 1) := by decide +kernel
theorem dX6_owed_1 : decode cX6_owed 1 = .ok (.istore_n 3, 1) := by decide +kernel
theorem dX6_owed_2 : decode cX6_owed 2 = .ok (.iconst 0, 1) := by decide +kernel
theorem dX6_owed_3 : decode cX6_owed 3 = .ok (.istore 4, 2) := by decide +kernel
theorem dX6_owed_5 : decode cX6_owed 5 = .ok (.iload 4, 2) := by decide +kernel
theorem dX6_owed_7 : decode cX6_owed 7 = .ok (.bipush 8, 2) := by decide +kernel
theorem dX6_owed_9 : decode cX6_owed 9 = .ok (.if_icmp .ge 37, 3) := by decide +kernel
theorem dX6_owed_12 : decode cX6_owed 12 = .ok (.iload_n 3, 1) := by decide +kernel
theorem dX6_owed_13 : decode cX6_owed 13 = .ok (.iload_n 2, 1) := by decide +kernel
theorem dX6_owed_14 : decode cX6_owed 14 = .ok (.iload 4, 2) := by decide +kernel
theorem dX6_owed_16 : decode cX6_owed 16 = .ok (.ishr, 1) := by decide +kernel
theorem dX6_owed_17 : decode cX6_owed 17 = .ok (.iconst 1, 1) := by decide +kernel
theorem dX6_owed_18 : decode cX6_owed 18 = .ok (.iand, 1) := by decide +kernel
theorem dX6_owed_19 : decode cX6_owed 19 = .ok (.ifCond .ne 18, 3) := by decide +kernel
theorem dX6_owed_22 : decode cX6_owed 22 = .ok (.aload_n 0, 1) := by decide +kernel
theorem dX6_owed_23 : decode cX6_owed 23 = .ok (.getfield 87, 3) := by decide +kernel
theorem dX6_owed_26 : decode cX6_owed 26 = .ok (.bipush 8, 2) := by decide +kernel
theorem dX6_owed_28 : decode cX6_owed 28 = .ok (.iload 4, 2) := by decide +kernel
theorem dX6_owed_30 : decode cX6_owed 30 = .ok (.imul, 1) := by decide +kernel
theorem dX6_owed_31 : decode cX6_owed 31 = .ok (.iload_n 1, 1) := by decide +kernel
theorem dX6_owed_32 : decode cX6_owed 32 = .ok (.iadd, 1) := by decide +kernel
theorem dX6_owed_33 : decode cX6_owed 33 = .ok (.iaload, 1) := by decide +kernel
theorem dX6_owed_34 : decode cX6_owed 34 = .ok (.goto 4, 3) := by decide +kernel
theorem dX6_owed_37 : decode cX6_owed 37 = .ok (.iconst 0, 1) := by decide +kernel
theorem dX6_owed_38 : decode cX6_owed 38 = .ok (.iadd, 1) := by decide +kernel
theorem dX6_owed_39 : decode cX6_owed 39 = .ok (.istore_n 3, 1) := by decide +kernel
theorem dX6_owed_40 : decode cX6_owed 40 = .ok (.iinc 4 1, 3) := by decide +kernel
theorem dX6_owed_43 : decode cX6_owed 43 = .ok (.goto (-38), 3) := by decide +kernel
theorem dX6_owed_46 : decode cX6_owed 46 = .ok (.iload_n 3, 1) := by decide +kernel
theorem dX6_owed_47 : decode cX6_owed 47 = .ok (.ireturn, 1) := by decide +kernel
theorem dX6_owing_0 : decode cX6_owing 0 = .ok (.iconst 0, 1) := by decide +kernel
theorem dX6_owing_1 : decode cX6_owing 1 = .ok (.istore_n 2, 1) := by decide +kernel
theorem dX6_owing_2 : decode cX6_owing 2 = .ok (.iconst 0, 1) := by decide +kernel
theorem dX6_owing_3 : decode cX6_owing 3 = .ok (.istore_n 3, 1) := by decide +kernel
theorem dX6_owing_4 : decode cX6_owing 4 = .ok (.iload_n 3, 1) := by decide +kernel
theorem dX6_owing_5 : decode cX6_owing 5 = .ok (.bipush 8, 2) := by decide +kernel
theorem dX6_owing_7 : decode cX6_owing 7 = .ok (.if_icmp .ge 23, 3) := by decide +kernel
theorem dX6_owing_10 : decode cX6_owing 10 = .ok (.iload_n 2, 1) := by decide +kernel
theorem dX6_owing_11 : decode cX6_owing 11 = .ok (.aload_n 0, 1) := by decide +kernel
theorem dX6_owing_12 : decode cX6_owing 12 = .ok (.getfield 87, 3) := by decide +kernel
theorem dX6_owing_15 : decode cX6_owing 15 = .ok (.bipush 8, 2) := by decide +kernel
theorem dX6_owing_17 : decode cX6_owing 17 = .ok (.iload_n 1, 1) := by decide +kernel
theorem dX6_owing_18 : decode cX6_owing 18 = .ok (.imul, 1) := by decide +kernel
theorem dX6_owing_19 : decode cX6_owing 19 = .ok (.iload_n 3, 1) := by decide +kernel
theorem dX6_owing_20 : decode cX6_owing 20 = .ok (.iadd, 1) := by decide +kernel
theorem dX6_owing_21 : decode cX6_owing 21 = .ok (.iaload, 1) := by decide +kernel
theorem dX6_owing_22 : decode cX6_owing 22 = .ok (.iadd, 1) := by decide +kernel
theorem dX6_owing_23 : decode cX6_owing 23 = .ok (.istore_n 2, 1) := by decide +kernel
theorem dX6_owing_24 : decode cX6_owing 24 = .ok (.iinc 3 1, 3) := by decide +kernel
theorem dX6_owing_27 : decode cX6_owing 27 = .ok (.goto (-23), 3) := by decide +kernel
theorem dX6_owing_30 : decode cX6_owing 30 = .ok (.iload_n 2, 1) := by decide +kernel
theorem dX6_owing_31 : decode cX6_owing 31 = .ok (.ireturn, 1) := by decide +kernel
set_option maxRecDepth 20000 in
theorem ggX6_net_X6_isDealer : GoodIn wsX6_net wsX6_isDealer := goodIn_r _ [5, 6, 7, 8, 4, 9] (by decide +kernel) (by decide +kernel)
set_option maxRecDepth 20000 in
theorem gX6_net_X6_isDealer : GoodIn wsX6_net (va_wsS RX6 140 yX6_isDealer wsX6_isDealer) := goodIn_app (goodIn_of _ (by decide +kernel)) ggX6_net_X6_isDealer
set_option maxRecDepth 20000 in
theorem ggX6_net_X6_owed : GoodIn wsX6_net wsX6_owed := goodIn_r _ [13, 14, 19, 20, 21, 22, 23, 24, 25, 26, 27, 28, 29, 30, 31, 32, 33, 34, 35, 36, 37, 38, 39, 40, 41, 42, 43, 44, 45, 46, 47, 48, 49, 50, 51, 52, 53, 54, 55, 56] (by decide +kernel) (by decide +kernel)
set_option maxRecDepth 20000 in
theorem gX6_net_X6_owed : GoodIn wsX6_net (wsV RX6 227 RX6 yX6_owed wsX6_owed) := goodIn_app (goodIn_of _ (by decide +kernel)) ggX6_net_X6_owed
set_option maxRecDepth 20000 in
theorem ggX6_net_X6_owing : GoodIn wsX6_net wsX6_owing := goodIn_r _ [18, 14, 19, 20, 21, 22, 23, 24, 25, 26, 27, 28, 29, 30, 31, 32, 33, 34, 35, 36, 37, 38, 39, 40, 41, 42, 43, 44, 45, 46, 47, 48, 49, 50, 51, 52, 53, 54, 55, 56] (by decide +kernel) (by decide +kernel)
set_option maxRecDepth 20000 in
theorem gX6_net_X6_owing : GoodIn wsX6_net (wsV RX6 230 RX6 yX6_owing wsX6_owing) := goodIn_app (goodIn_of _ (by decide +kernel)) ggX6_net_X6_owing
theorem dX6_net_0 : decode cX6_net 0 = .ok (.iload_n 1, 1) := by decide +kernel
theorem dX6_net_1 : decode cX6_net 1 = .ok (.invokestatic 140, 3) := by decide +kernel
theorem dX6_net_4 : decode cX6_net 4 = .ok (.ifCond .eq 18, 3) := by decide +kernel
theorem dX6_net_7 : decode cX6_net 7 = .ok (.aload_n 0, 1) := by decide +kernel
theorem dX6_net_8 : decode cX6_net 8 = .ok (.iload_n 1, 1) := by decide +kernel
theorem dX6_net_9 : decode cX6_net 9 = .ok (.iconst 0, 1) := by decide +kernel
theorem dX6_net_10 : decode cX6_net 10 = .ok (.invokevirtual 227, 3) := by decide +kernel
theorem dX6_net_13 : decode cX6_net 13 = .ok (.aload_n 0, 1) := by decide +kernel
theorem dX6_net_14 : decode cX6_net 14 = .ok (.iload_n 1, 1) := by decide +kernel
theorem dX6_net_15 : decode cX6_net 15 = .ok (.invokevirtual 230, 3) := by decide +kernel
theorem dX6_net_18 : decode cX6_net 18 = .ok (.isub, 1) := by decide +kernel
theorem dX6_net_19 : decode cX6_net 19 = .ok (.goto 5, 3) := by decide +kernel
theorem dX6_net_22 : decode cX6_net 22 = .ok (.ldc 159, 2) := by decide +kernel
theorem dX6_net_24 : decode cX6_net 24 = .ok (.ireturn, 1) := by decide +kernel
set_option maxRecDepth 20000 in
theorem ggX6_fall_X6_isDealer : GoodIn wsX6_fall wsX6_isDealer := goodIn_r _ [5, 6, 7, 8, 4, 9] (by decide +kernel) (by decide +kernel)
set_option maxRecDepth 20000 in
theorem gX6_fall_X6_isDealer : GoodIn wsX6_fall (va_wsS RX6 140 yX6_isDealer wsX6_isDealer) := goodIn_app (goodIn_of _ (by decide +kernel)) ggX6_fall_X6_isDealer
set_option maxRecDepth 20000 in
theorem ggX6_fall_X6_in : GoodIn wsX6_fall wsX6_in := goodIn_r _ [9] (by decide +kernel) (by decide +kernel)
set_option maxRecDepth 20000 in
theorem gX6_fall_X6_in : GoodIn wsX6_fall (va_wsS RX6 92 yX6_in wsX6_in) := goodIn_app (goodIn_of _ (by decide +kernel)) ggX6_fall_X6_in
set_option maxRecDepth 20000 in
theorem ggX6_fall_X6_owed : GoodIn wsX6_fall wsX6_owed := goodIn_r _ [13, 14, 19, 20, 21, 22, 23, 24, 25, 26, 27, 28, 29, 30, 31, 32, 33, 34, 35, 36, 37, 38, 39, 40, 41, 42, 43, 44, 45, 46, 47, 48, 49, 50, 51, 52, 53, 54, 55, 56] (by decide +kernel) (by decide +kernel)
set_option maxRecDepth 20000 in
theorem gX6_fall_X6_owed : GoodIn wsX6_fall (wsV RX6 227 RX6 yX6_owed wsX6_owed) := goodIn_app (goodIn_of _ (by decide +kernel)) ggX6_fall_X6_owed
set_option maxRecDepth 20000 in
theorem ggX6_fall_X6_owing : GoodIn wsX6_fall wsX6_owing := goodIn_r _ [18, 14, 19, 20, 21, 22, 23, 24, 25, 26, 27, 28, 29, 30, 31, 32, 33, 34, 35, 36, 37, 38, 39, 40, 41, 42, 43, 44, 45, 46, 47, 48, 49, 50, 51, 52, 53, 54, 55, 56] (by decide +kernel) (by decide +kernel)
set_option maxRecDepth 20000 in
theorem gX6_fall_X6_owing : GoodIn wsX6_fall (wsV RX6 230 RX6 yX6_owing wsX6_owing) := goodIn_app (goodIn_of _ (by decide +kernel)) ggX6_fall_X6_owing
theorem dX6_fall_0 : decode cX6_fall 0 = .ok (.iload_n 1, 1) := by decide +kernel
theorem dX6_fall_1 : decode cX6_fall 1 = .ok (.invokestatic 140, 3) := by decide +kernel
theorem dX6_fall_4 : decode cX6_fall 4 = .ok (.ifCond .eq 15, 3) := by decide +kernel
theorem dX6_fall_7 : decode cX6_fall 7 = .ok (.iload_n 2, 1) := by decide +kernel
theorem dX6_fall_8 : decode cX6_fall 8 = .ok (.i2l, 1) := by decide +kernel
theorem dX6_fall_9 : decode cX6_fall 9 = .ok (.lconst 0, 1) := by decide +kernel
theorem dX6_fall_10 : decode cX6_fall 10 = .ok (.ldc2_w 143, 3) := by decide +kernel
theorem dX6_fall_13 : decode cX6_fall 13 = .ok (.invokestatic 92, 3) := by decide +kernel
theorem dX6_fall_16 : decode cX6_fall 16 = .ok (.ifCond .ne 6, 3) := by decide +kernel
theorem dX6_fall_19 : decode cX6_fall 19 = .ok (.bipush (-2), 2) := by decide +kernel
theorem dX6_fall_21 : decode cX6_fall 21 = .ok (.ireturn, 1) := by decide +kernel
theorem dX6_fall_22 : decode cX6_fall 22 = .ok (.iconst 1, 1) := by decide +kernel
theorem dX6_fall_23 : decode cX6_fall 23 = .ok (.iload_n 1, 1) := by decide +kernel
theorem dX6_fall_24 : decode cX6_fall 24 = .ok (.ishl, 1) := by decide +kernel
theorem dX6_fall_25 : decode cX6_fall 25 = .ok (.istore_n 3, 1) := by decide +kernel
theorem dX6_fall_26 : decode cX6_fall 26 = .ok (.iconst 0, 1) := by decide +kernel
theorem dX6_fall_27 : decode cX6_fall 27 = .ok (.istore 4, 2) := by decide +kernel
theorem dX6_fall_29 : decode cX6_fall 29 = .ok (.iload_n 3, 1) := by decide +kernel
theorem dX6_fall_30 : decode cX6_fall 30 = .ok (.iload 4, 2) := by decide +kernel
theorem dX6_fall_32 : decode cX6_fall 32 = .ok (.if_icmp .eq 55, 3) := by decide +kernel
theorem dX6_fall_35 : decode cX6_fall 35 = .ok (.iload_n 3, 1) := by decide +kernel
theorem dX6_fall_36 : decode cX6_fall 36 = .ok (.istore 4, 2) := by decide +kernel
theorem dX6_fall_38 : decode cX6_fall 38 = .ok (.iconst 0, 1) := by decide +kernel
theorem dX6_fall_39 : decode cX6_fall 39 = .ok (.istore 5, 2) := by decide +kernel
theorem dX6_fall_41 : decode cX6_fall 41 = .ok (.iload 5, 2) := by decide +kernel
theorem dX6_fall_43 : decode cX6_fall 43 = .ok (.bipush 8, 2) := by decide +kernel
theorem dX6_fall_45 : decode cX6_fall 45 = .ok (.if_icmp .ge 39, 3) := by decide +kernel
theorem dX6_fall_48 : decode cX6_fall 48 = .ok (.iload_n 3, 1) := by decide +kernel
theorem dX6_fall_49 : decode cX6_fall 49 = .ok (.iload_n 2, 1) := by decide +kernel
theorem dX6_fall_50 : decode cX6_fall 50 = .ok (.aload_n 0, 1) := by decide +kernel
theorem dX6_fall_51 : decode cX6_fall 51 = .ok (.iload 5, 2) := by decide +kernel
theorem dX6_fall_53 : decode cX6_fall 53 = .ok (.iload 4, 2) := by decide +kernel
theorem dX6_fall_55 : decode cX6_fall 55 = .ok (.invokevirtual 227, 3) := by decide +kernel
theorem dX6_fall_58 : decode cX6_fall 58 = .ok (.iadd, 1) := by decide +kernel
theorem dX6_fall_59 : decode cX6_fall 59 = .ok (.aload_n 0, 1) := by decide +kernel
theorem dX6_fall_60 : decode cX6_fall 60 = .ok (.iload 5, 2) := by decide +kernel
theorem dX6_fall_62 : decode cX6_fall 62 = .ok (.invokevirtual 230, 3) := by decide +kernel
theorem dX6_fall_65 : decode cX6_fall 65 = .ok (.if_icmp .ge 10, 3) := by decide +kernel
theorem dX6_fall_68 : decode cX6_fall 68 = .ok (.iconst 1, 1) := by decide +kernel
theorem dX6_fall_69 : decode cX6_fall 69 = .ok (.iload 5, 2) := by decide +kernel
theorem dX6_fall_71 : decode cX6_fall 71 = .ok (.ishl, 1) := by decide +kernel
theorem dX6_fall_72 : decode cX6_fall 72 = .ok (.goto 4, 3) := by decide +kernel
theorem dX6_fall_75 : decode cX6_fall 75 = .ok (.iconst 0, 1) := by decide +kernel
theorem dX6_fall_76 : decode cX6_fall 76 = .ok (.ior, 1) := by decide +kernel
theorem dX6_fall_77 : decode cX6_fall 77 = .ok (.istore_n 3, 1) := by decide +kernel
theorem dX6_fall_78 : decode cX6_fall 78 = .ok (.iinc 5 1, 3) := by decide +kernel
theorem dX6_fall_81 : decode cX6_fall 81 = .ok (.goto (-40), 3) := by decide +kernel
theorem dX6_fall_84 : decode cX6_fall 84 = .ok (.goto (-55), 3) := by decide +kernel
theorem dX6_fall_87 : decode cX6_fall 87 = .ok (.iload_n 3, 1) := by decide +kernel
theorem dX6_fall_88 : decode cX6_fall 88 = .ok (.ireturn, 1) := by decide +kernel
theorem dX6_standing_0 : decode cX6_standing 0 = .ok (.iconst 0, 1) := by decide +kernel
theorem dX6_standing_1 : decode cX6_standing 1 = .ok (.istore_n 1, 1) := by decide +kernel
theorem dX6_standing_2 : decode cX6_standing 2 = .ok (.iconst 0, 1) := by decide +kernel
theorem dX6_standing_3 : decode cX6_standing 3 = .ok (.istore_n 2, 1) := by decide +kernel
theorem dX6_standing_4 : decode cX6_standing 4 = .ok (.iload_n 2, 1) := by decide +kernel
theorem dX6_standing_5 : decode cX6_standing 5 = .ok (.aload_n 0, 1) := by decide +kernel
theorem dX6_standing_6 : decode cX6_standing 6 = .ok (.getfield 137, 3) := by decide +kernel
theorem dX6_standing_9 : decode cX6_standing 9 = .ok (.if_icmp .ge 18, 3) := by decide +kernel
theorem dX6_standing_12 : decode cX6_standing 12 = .ok (.iload_n 1, 1) := by decide +kernel
theorem dX6_standing_13 : decode cX6_standing 13 = .ok (.aload_n 0, 1) := by decide +kernel
theorem dX6_standing_14 : decode cX6_standing 14 = .ok (.getfield 56, 3) := by decide +kernel
theorem dX6_standing_17 : decode cX6_standing 17 = .ok (.iload_n 2, 1) := by decide +kernel
theorem dX6_standing_18 : decode cX6_standing 18 = .ok (.iaload, 1) := by decide +kernel
theorem dX6_standing_19 : decode cX6_standing 19 = .ok (.iadd, 1) := by decide +kernel
theorem dX6_standing_20 : decode cX6_standing 20 = .ok (.istore_n 1, 1) := by decide +kernel
theorem dX6_standing_21 : decode cX6_standing 21 = .ok (.iinc 2 1, 3) := by decide +kernel
theorem dX6_standing_24 : decode cX6_standing 24 = .ok (.goto (-20), 3) := by decide +kernel
theorem dX6_standing_27 : decode cX6_standing 27 = .ok (.iload_n 1, 1) := by decide +kernel
theorem dX6_standing_28 : decode cX6_standing 28 = .ok (.ireturn, 1) := by decide +kernel
set_option maxRecDepth 20000 in
theorem ggX6_allDebts_X6_owing : GoodIn wsX6_allDebts wsX6_owing := goodIn_r _ [5, 6, 7, 8, 9, 10, 11, 12, 13, 14, 15, 16, 17, 18, 19, 20, 21, 22, 23, 24, 25, 26, 27, 28, 29, 30, 31, 32, 33, 34, 35, 36, 37, 38, 39, 40, 41, 42, 43, 44] (by decide +kernel) (by decide +kernel)
set_option maxRecDepth 20000 in
theorem gX6_allDebts_X6_owing : GoodIn wsX6_allDebts (wsV RX6 230 RX6 yX6_owing wsX6_owing) := goodIn_app (goodIn_of _ (by decide +kernel)) ggX6_allDebts_X6_owing
theorem dX6_allDebts_0 : decode cX6_allDebts 0 = .ok (.iconst 0, 1) := by decide +kernel
theorem dX6_allDebts_1 : decode cX6_allDebts 1 = .ok (.istore_n 1, 1) := by decide +kernel
theorem dX6_allDebts_2 : decode cX6_allDebts 2 = .ok (.iconst 0, 1) := by decide +kernel
theorem dX6_allDebts_3 : decode cX6_allDebts 3 = .ok (.istore_n 2, 1) := by decide +kernel
theorem dX6_allDebts_4 : decode cX6_allDebts 4 = .ok (.iload_n 2, 1) := by decide +kernel
theorem dX6_allDebts_5 : decode cX6_allDebts 5 = .ok (.bipush 8, 2) := by decide +kernel
theorem dX6_allDebts_7 : decode cX6_allDebts 7 = .ok (.if_icmp .ge 17, 3) := by decide +kernel
theorem dX6_allDebts_10 : decode cX6_allDebts 10 = .ok (.iload_n 1, 1) := by decide +kernel
theorem dX6_allDebts_11 : decode cX6_allDebts 11 = .ok (.aload_n 0, 1) := by decide +kernel
theorem dX6_allDebts_12 : decode cX6_allDebts 12 = .ok (.iload_n 2, 1) := by decide +kernel
theorem dX6_allDebts_13 : decode cX6_allDebts 13 = .ok (.invokevirtual 230, 3) := by decide +kernel
theorem dX6_allDebts_16 : decode cX6_allDebts 16 = .ok (.iadd, 1) := by decide +kernel
theorem dX6_allDebts_17 : decode cX6_allDebts 17 = .ok (.istore_n 1, 1) := by decide +kernel
theorem dX6_allDebts_18 : decode cX6_allDebts 18 = .ok (.iinc 2 1, 3) := by decide +kernel
theorem dX6_allDebts_21 : decode cX6_allDebts 21 = .ok (.goto (-17), 3) := by decide +kernel
theorem dX6_allDebts_24 : decode cX6_allDebts 24 = .ok (.iload_n 1, 1) := by decide +kernel
theorem dX6_allDebts_25 : decode cX6_allDebts 25 = .ok (.ireturn, 1) := by decide +kernel
set_option maxRecDepth 20000 in
theorem ggX6_count_X6_standing : GoodIn wsX6_count wsX6_standing := goodIn_r _ [10, 2, 11, 21, 22, 23, 24, 25, 26, 27, 28, 29, 30, 31, 32, 33, 34, 35, 36, 37, 38, 39, 40, 41, 42, 43, 44, 45, 46, 47, 48, 49, 50, 51, 52, 53, 54, 55, 56, 57, 58] (by decide +kernel) (by decide +kernel)
set_option maxRecDepth 20000 in
theorem gX6_count_X6_standing : GoodIn wsX6_count (wsV RX6 233 RX6 yX6_standing wsX6_standing) := goodIn_app (goodIn_of _ (by decide +kernel)) ggX6_count_X6_standing
set_option maxRecDepth 20000 in
theorem ggX6_count_X6_allDebts : GoodIn wsX6_count wsX6_allDebts := goodIn_r _ [15, 16, 17, 18, 9, 19, 20, 21, 22, 23, 24, 25, 26, 27, 28, 29, 30, 31, 32, 33, 34, 35, 36, 37, 38, 39, 40, 41, 42, 43, 44, 45, 46, 47, 48, 49, 50, 51, 52, 53, 54, 55, 56, 57, 58] (by decide +kernel) (by decide +kernel)
set_option maxRecDepth 20000 in
theorem gX6_count_X6_allDebts : GoodIn wsX6_count (wsV RX6 237 RX6 yX6_allDebts wsX6_allDebts) := goodIn_app (goodIn_of _ (by decide +kernel)) ggX6_count_X6_allDebts
theorem dX6_count_0 : decode cX6_count 0 = .ok (.iload_n 1, 1) := by decide +kernel
theorem dX6_count_1 : decode cX6_count 1 = .ok (.tableswitch 78 0 6 #[43, 48, 53, 58, 63, 68, 73], 43) := by decide +kernel
theorem dX6_count_44 : decode cX6_count 44 = .ok (.aload_n 0, 1) := by decide +kernel
theorem dX6_count_45 : decode cX6_count 45 = .ok (.getfield 104, 3) := by decide +kernel
theorem dX6_count_48 : decode cX6_count 48 = .ok (.ireturn, 1) := by decide +kernel
theorem dX6_count_49 : decode cX6_count 49 = .ok (.aload_n 0, 1) := by decide +kernel
theorem dX6_count_50 : decode cX6_count 50 = .ok (.getfield 137, 3) := by decide +kernel
theorem dX6_count_53 : decode cX6_count 53 = .ok (.ireturn, 1) := by decide +kernel
theorem dX6_count_54 : decode cX6_count 54 = .ok (.aload_n 0, 1) := by decide +kernel
theorem dX6_count_55 : decode cX6_count 55 = .ok (.invokevirtual 233, 3) := by decide +kernel
theorem dX6_count_58 : decode cX6_count 58 = .ok (.ireturn, 1) := by decide +kernel
theorem dX6_count_59 : decode cX6_count 59 = .ok (.aload_n 0, 1) := by decide +kernel
theorem dX6_count_60 : decode cX6_count 60 = .ok (.getfield 162, 3) := by decide +kernel
theorem dX6_count_63 : decode cX6_count 63 = .ok (.ireturn, 1) := by decide +kernel
theorem dX6_count_64 : decode cX6_count 64 = .ok (.aload_n 0, 1) := by decide +kernel
theorem dX6_count_65 : decode cX6_count 65 = .ok (.getfield 212, 3) := by decide +kernel
theorem dX6_count_68 : decode cX6_count 68 = .ok (.ireturn, 1) := by decide +kernel
theorem dX6_count_69 : decode cX6_count 69 = .ok (.aload_n 0, 1) := by decide +kernel
theorem dX6_count_70 : decode cX6_count 70 = .ok (.getfield 34, 3) := by decide +kernel
theorem dX6_count_73 : decode cX6_count 73 = .ok (.ireturn, 1) := by decide +kernel
theorem dX6_count_74 : decode cX6_count 74 = .ok (.aload_n 0, 1) := by decide +kernel
theorem dX6_count_75 : decode cX6_count 75 = .ok (.invokevirtual 237, 3) := by decide +kernel
theorem dX6_count_78 : decode cX6_count 78 = .ok (.ireturn, 1) := by decide +kernel
theorem dX6_count_79 : decode cX6_count 79 = .ok (.bipush (-2), 2) := by decide +kernel
theorem dX6_count_81 : decode cX6_count 81 = .ok (.ireturn, 1) := by decide +kernel
set_option maxRecDepth 20000 in
theorem ggX6_digest_X6_count : GoodIn wsX6_digest wsX6_count := goodIn_r _ [22, 5, 11, 12, 16, 23, 24, 25, 26, 21, 27, 28, 29, 30, 31, 32, 33, 34, 35, 36, 37, 56, 57, 58, 59, 60, 61, 62, 63, 64, 65, 66, 67, 68, 69, 70, 71, 72, 73, 74, 75, 76, 77, 78, 79, 80, 81, 82, 83, 84, 85, 86, 87, 88, 89, 90, 91, 92, 93] (by decide +kernel) (by decide +kernel)
set_option maxRecDepth 20000 in
theorem gX6_digest_X6_count : GoodIn wsX6_digest (wsV RX6 244 RX6 yX6_count wsX6_count) := goodIn_app (goodIn_of _ (by decide +kernel)) ggX6_digest_X6_count
set_option maxRecDepth 20000 in
theorem ggX6_digest_X6_saleOf : GoodIn wsX6_digest wsX6_saleOf := goodIn_r _ [41, 42, 43, 44, 45, 46, 47, 28, 56, 57, 58, 59, 60, 61, 62, 63, 64, 65, 66, 67, 68, 69, 70, 71, 72, 73, 74, 75, 76, 77, 78, 79, 80, 81, 82, 83, 84, 85, 86, 87, 88, 89, 90, 91, 92, 93] (by decide +kernel) (by decide +kernel)
set_option maxRecDepth 20000 in
theorem gX6_digest_X6_saleOf : GoodIn wsX6_digest (wsV RX6 152 RX6 yX6_saleOf wsX6_saleOf) := goodIn_app (goodIn_of _ (by decide +kernel)) ggX6_digest_X6_saleOf
set_option maxRecDepth 20000 in
theorem ggX6_digest_X6_gainOf : GoodIn wsX6_digest wsX6_gainOf := goodIn_r _ [51, 11, 28, 43, 45, 44, 56, 57, 58, 59, 60, 61, 62, 63, 64, 65, 66, 67, 68, 69, 70, 71, 72, 73, 74, 75, 76, 77, 78, 79, 80, 81, 82, 83, 84, 85, 86, 87, 88, 89, 90, 91, 92, 93] (by decide +kernel) (by decide +kernel)
set_option maxRecDepth 20000 in
theorem gX6_digest_X6_gainOf : GoodIn wsX6_digest (wsV RX6 156 RX6 yX6_gainOf wsX6_gainOf) := goodIn_app (goodIn_of _ (by decide +kernel)) ggX6_digest_X6_gainOf
set_option maxRecDepth 20000 in
theorem ggX6_digest_X6_owed : GoodIn wsX6_digest wsX6_owed := goodIn_r _ [55, 37, 56, 57, 58, 59, 60, 61, 62, 63, 64, 65, 66, 67, 68, 69, 70, 71, 72, 73, 74, 75, 76, 77, 78, 79, 80, 81, 82, 83, 84, 85, 86, 87, 88, 89, 90, 91, 92, 93] (by decide +kernel) (by decide +kernel)
set_option maxRecDepth 20000 in
theorem gX6_digest_X6_owed : GoodIn wsX6_digest (wsV RX6 227 RX6 yX6_owed wsX6_owed) := goodIn_app (goodIn_of _ (by decide +kernel)) ggX6_digest_X6_owed
set_option maxRecDepth 20000 in
theorem ggX6_digest_X6_owing : GoodIn wsX6_digest wsX6_owing := goodIn_r _ [36, 37, 56, 57, 58, 59, 60, 61, 62, 63, 64, 65, 66, 67, 68, 69, 70, 71, 72, 73, 74, 75, 76, 77, 78, 79, 80, 81, 82, 83, 84, 85, 86, 87, 88, 89, 90, 91, 92, 93] (by decide +kernel) (by decide +kernel)
set_option maxRecDepth 20000 in
theorem gX6_digest_X6_owing : GoodIn wsX6_digest (wsV RX6 230 RX6 yX6_owing wsX6_owing) := goodIn_app (goodIn_of _ (by decide +kernel)) ggX6_digest_X6_owing
theorem dX6_digest_0 : decode cX6_digest 0 = .ok (.ldc2_w 240, 3) := by decide +kernel
theorem dX6_digest_3 : decode cX6_digest 3 = .ok (.lstore_n 1, 1) := by decide +kernel
theorem dX6_digest_4 : decode cX6_digest 4 = .ok (.iconst 0, 1) := by decide +kernel
theorem dX6_digest_5 : decode cX6_digest 5 = .ok (.istore_n 3, 1) := by decide +kernel
theorem dX6_digest_6 : decode cX6_digest 6 = .ok (.iload_n 3, 1) := by decide +kernel
theorem dX6_digest_7 : decode cX6_digest 7 = .ok (.bipush 7, 2) := by decide +kernel
theorem dX6_digest_9 : decode cX6_digest 9 = .ok (.if_icmp .ge 22, 3) := by decide +kernel
theorem dX6_digest_12 : decode cX6_digest 12 = .ok (.ldc2_w 242, 3) := by decide +kernel
theorem dX6_digest_15 : decode cX6_digest 15 = .ok (.lload_n 1, 1) := by decide +kernel
theorem dX6_digest_16 : decode cX6_digest 16 = .ok (.lmul, 1) := by decide +kernel
theorem dX6_digest_17 : decode cX6_digest 17 = .ok (.aload_n 0, 1) := by decide +kernel
theorem dX6_digest_18 : decode cX6_digest 18 = .ok (.iload_n 3, 1) := by decide +kernel
theorem dX6_digest_19 : decode cX6_digest 19 = .ok (.invokevirtual 244, 3) := by decide +kernel
theorem dX6_digest_22 : decode cX6_digest 22 = .ok (.i2l, 1) := by decide +kernel
theorem dX6_digest_23 : decode cX6_digest 23 = .ok (.ladd, 1) := by decide +kernel
theorem dX6_digest_24 : decode cX6_digest 24 = .ok (.lstore_n 1, 1) := by decide +kernel
theorem dX6_digest_25 : decode cX6_digest 25 = .ok (.iinc 3 1, 3) := by decide +kernel
theorem dX6_digest_28 : decode cX6_digest 28 = .ok (.goto (-22), 3) := by decide +kernel
theorem dX6_digest_31 : decode cX6_digest 31 = .ok (.iconst 0, 1) := by decide +kernel
theorem dX6_digest_32 : decode cX6_digest 32 = .ok (.istore_n 3, 1) := by decide +kernel
theorem dX6_digest_33 : decode cX6_digest 33 = .ok (.iload_n 3, 1) := by decide +kernel
theorem dX6_digest_34 : decode cX6_digest 34 = .ok (.bipush 10, 2) := by decide +kernel
theorem dX6_digest_36 : decode cX6_digest 36 = .ok (.if_icmp .ge 37, 3) := by decide +kernel
theorem dX6_digest_39 : decode cX6_digest 39 = .ok (.ldc2_w 242, 3) := by decide +kernel
theorem dX6_digest_42 : decode cX6_digest 42 = .ok (.lload_n 1, 1) := by decide +kernel
theorem dX6_digest_43 : decode cX6_digest 43 = .ok (.lmul, 1) := by decide +kernel
theorem dX6_digest_44 : decode cX6_digest 44 = .ok (.aload_n 0, 1) := by decide +kernel
theorem dX6_digest_45 : decode cX6_digest 45 = .ok (.getfield 7, 3) := by decide +kernel
theorem dX6_digest_48 : decode cX6_digest 48 = .ok (.iload_n 3, 1) := by decide +kernel
theorem dX6_digest_49 : decode cX6_digest 49 = .ok (.iaload, 1) := by decide +kernel
theorem dX6_digest_50 : decode cX6_digest 50 = .ok (.i2l, 1) := by decide +kernel
theorem dX6_digest_51 : decode cX6_digest 51 = .ok (.ladd, 1) := by decide +kernel
theorem dX6_digest_52 : decode cX6_digest 52 = .ok (.lstore_n 1, 1) := by decide +kernel
theorem dX6_digest_53 : decode cX6_digest 53 = .ok (.ldc2_w 242, 3) := by decide +kernel
theorem dX6_digest_56 : decode cX6_digest 56 = .ok (.lload_n 1, 1) := by decide +kernel
theorem dX6_digest_57 : decode cX6_digest 57 = .ok (.lmul, 1) := by decide +kernel
theorem dX6_digest_58 : decode cX6_digest 58 = .ok (.aload_n 0, 1) := by decide +kernel
theorem dX6_digest_59 : decode cX6_digest 59 = .ok (.getfield 13, 3) := by decide +kernel
theorem dX6_digest_62 : decode cX6_digest 62 = .ok (.iload_n 3, 1) := by decide +kernel
theorem dX6_digest_63 : decode cX6_digest 63 = .ok (.iaload, 1) := by decide +kernel
theorem dX6_digest_64 : decode cX6_digest 64 = .ok (.i2l, 1) := by decide +kernel
theorem dX6_digest_65 : decode cX6_digest 65 = .ok (.ladd, 1) := by decide +kernel
theorem dX6_digest_66 : decode cX6_digest 66 = .ok (.lstore_n 1, 1) := by decide +kernel
theorem dX6_digest_67 : decode cX6_digest 67 = .ok (.iinc 3 1, 3) := by decide +kernel
theorem dX6_digest_70 : decode cX6_digest 70 = .ok (.goto (-37), 3) := by decide +kernel
theorem dX6_digest_73 : decode cX6_digest 73 = .ok (.iconst 0, 1) := by decide +kernel
theorem dX6_digest_74 : decode cX6_digest 74 = .ok (.istore_n 3, 1) := by decide +kernel
theorem dX6_digest_75 : decode cX6_digest 75 = .ok (.iload_n 3, 1) := by decide +kernel
theorem dX6_digest_76 : decode cX6_digest 76 = .ok (.aload_n 0, 1) := by decide +kernel
theorem dX6_digest_77 : decode cX6_digest 77 = .ok (.getfield 104, 3) := by decide +kernel
theorem dX6_digest_80 : decode cX6_digest 80 = .ok (.if_icmp .ge 104, 3) := by decide +kernel
theorem dX6_digest_83 : decode cX6_digest 83 = .ok (.ldc2_w 242, 3) := by decide +kernel
theorem dX6_digest_86 : decode cX6_digest 86 = .ok (.lload_n 1, 1) := by decide +kernel
theorem dX6_digest_87 : decode cX6_digest 87 = .ok (.lmul, 1) := by decide +kernel
theorem dX6_digest_88 : decode cX6_digest 88 = .ok (.aload_n 0, 1) := by decide +kernel
theorem dX6_digest_89 : decode cX6_digest 89 = .ok (.getfield 16, 3) := by decide +kernel
theorem dX6_digest_92 : decode cX6_digest 92 = .ok (.iload_n 3, 1) := by decide +kernel
theorem dX6_digest_93 : decode cX6_digest 93 = .ok (.iaload, 1) := by decide +kernel
theorem dX6_digest_94 : decode cX6_digest 94 = .ok (.i2l, 1) := by decide +kernel
theorem dX6_digest_95 : decode cX6_digest 95 = .ok (.ladd, 1) := by decide +kernel
theorem dX6_digest_96 : decode cX6_digest 96 = .ok (.lstore_n 1, 1) := by decide +kernel
theorem dX6_digest_97 : decode cX6_digest 97 = .ok (.iconst 0, 1) := by decide +kernel
theorem dX6_digest_98 : decode cX6_digest 98 = .ok (.istore 4, 2) := by decide +kernel
theorem dX6_digest_100 : decode cX6_digest 100 = .ok (.iload 4, 2) := by decide +kernel
theorem dX6_digest_102 : decode cX6_digest 102 = .ok (.aload_n 0, 1) := by decide +kernel
theorem dX6_digest_103 : decode cX6_digest 103 = .ok (.getfield 16, 3) := by decide +kernel
theorem dX6_digest_106 : decode cX6_digest 106 = .ok (.iload_n 3, 1) := by decide +kernel
theorem dX6_digest_107 : decode cX6_digest 107 = .ok (.iaload, 1) := by decide +kernel
theorem dX6_digest_108 : decode cX6_digest 108 = .ok (.if_icmp .ge 28, 3) := by decide +kernel
theorem dX6_digest_111 : decode cX6_digest 111 = .ok (.ldc2_w 242, 3) := by decide +kernel
theorem dX6_digest_114 : decode cX6_digest 114 = .ok (.lload_n 1, 1) := by decide +kernel
theorem dX6_digest_115 : decode cX6_digest 115 = .ok (.lmul, 1) := by decide +kernel
theorem dX6_digest_116 : decode cX6_digest 116 = .ok (.aload_n 0, 1) := by decide +kernel
theorem dX6_digest_117 : decode cX6_digest 117 = .ok (.getfield 19, 3) := by decide +kernel
theorem dX6_digest_120 : decode cX6_digest 120 = .ok (.iconst 5, 1) := by decide +kernel
theorem dX6_digest_121 : decode cX6_digest 121 = .ok (.iload_n 3, 1) := by decide +kernel
theorem dX6_digest_122 : decode cX6_digest 122 = .ok (.imul, 1) := by decide +kernel
theorem dX6_digest_123 : decode cX6_digest 123 = .ok (.iload 4, 2) := by decide +kernel
theorem dX6_digest_125 : decode cX6_digest 125 = .ok (.iadd, 1) := by decide +kernel
theorem dX6_digest_126 : decode cX6_digest 126 = .ok (.iaload, 1) := by decide +kernel
theorem dX6_digest_127 : decode cX6_digest 127 = .ok (.i2l, 1) := by decide +kernel
theorem dX6_digest_128 : decode cX6_digest 128 = .ok (.ladd, 1) := by decide +kernel
theorem dX6_digest_129 : decode cX6_digest 129 = .ok (.lstore_n 1, 1) := by decide +kernel
theorem dX6_digest_130 : decode cX6_digest 130 = .ok (.iinc 4 1, 3) := by decide +kernel
theorem dX6_digest_133 : decode cX6_digest 133 = .ok (.goto (-33), 3) := by decide +kernel
theorem dX6_digest_136 : decode cX6_digest 136 = .ok (.ldc2_w 242, 3) := by decide +kernel
theorem dX6_digest_139 : decode cX6_digest 139 = .ok (.lload_n 1, 1) := by decide +kernel
theorem dX6_digest_140 : decode cX6_digest 140 = .ok (.lmul, 1) := by decide +kernel
theorem dX6_digest_141 : decode cX6_digest 141 = .ok (.aload_n 0, 1) := by decide +kernel
theorem dX6_digest_142 : decode cX6_digest 142 = .ok (.getfield 22, 3) := by decide +kernel
theorem dX6_digest_145 : decode cX6_digest 145 = .ok (.iload_n 3, 1) := by decide +kernel
theorem dX6_digest_146 : decode cX6_digest 146 = .ok (.iaload, 1) := by decide +kernel
theorem dX6_digest_147 : decode cX6_digest 147 = .ok (.i2l, 1) := by decide +kernel
theorem dX6_digest_148 : decode cX6_digest 148 = .ok (.ladd, 1) := by decide +kernel
theorem dX6_digest_149 : decode cX6_digest 149 = .ok (.lstore_n 1, 1) := by decide +kernel
theorem dX6_digest_150 : decode cX6_digest 150 = .ok (.ldc2_w 242, 3) := by decide +kernel
theorem dX6_digest_153 : decode cX6_digest 153 = .ok (.lload_n 1, 1) := by decide +kernel
theorem dX6_digest_154 : decode cX6_digest 154 = .ok (.lmul, 1) := by decide +kernel
theorem dX6_digest_155 : decode cX6_digest 155 = .ok (.aload_n 0, 1) := by decide +kernel
theorem dX6_digest_156 : decode cX6_digest 156 = .ok (.getfield 28, 3) := by decide +kernel
theorem dX6_digest_159 : decode cX6_digest 159 = .ok (.iload_n 3, 1) := by decide +kernel
theorem dX6_digest_160 : decode cX6_digest 160 = .ok (.iaload, 1) := by decide +kernel
theorem dX6_digest_161 : decode cX6_digest 161 = .ok (.i2l, 1) := by decide +kernel
theorem dX6_digest_162 : decode cX6_digest 162 = .ok (.ladd, 1) := by decide +kernel
theorem dX6_digest_163 : decode cX6_digest 163 = .ok (.lstore_n 1, 1) := by decide +kernel
theorem dX6_digest_164 : decode cX6_digest 164 = .ok (.ldc2_w 242, 3) := by decide +kernel
theorem dX6_digest_167 : decode cX6_digest 167 = .ok (.lload_n 1, 1) := by decide +kernel
theorem dX6_digest_168 : decode cX6_digest 168 = .ok (.lmul, 1) := by decide +kernel
theorem dX6_digest_169 : decode cX6_digest 169 = .ok (.aload_n 0, 1) := by decide +kernel
theorem dX6_digest_170 : decode cX6_digest 170 = .ok (.getfield 31, 3) := by decide +kernel
theorem dX6_digest_173 : decode cX6_digest 173 = .ok (.iload_n 3, 1) := by decide +kernel
theorem dX6_digest_174 : decode cX6_digest 174 = .ok (.iaload, 1) := by decide +kernel
theorem dX6_digest_175 : decode cX6_digest 175 = .ok (.i2l, 1) := by decide +kernel
theorem dX6_digest_176 : decode cX6_digest 176 = .ok (.ladd, 1) := by decide +kernel
theorem dX6_digest_177 : decode cX6_digest 177 = .ok (.lstore_n 1, 1) := by decide +kernel
theorem dX6_digest_178 : decode cX6_digest 178 = .ok (.iinc 3 1, 3) := by decide +kernel
theorem dX6_digest_181 : decode cX6_digest 181 = .ok (.goto (-106), 3) := by decide +kernel
theorem dX6_digest_184 : decode cX6_digest 184 = .ok (.iconst 0, 1) := by decide +kernel
theorem dX6_digest_185 : decode cX6_digest 185 = .ok (.istore_n 3, 1) := by decide +kernel
theorem dX6_digest_186 : decode cX6_digest 186 = .ok (.iload_n 3, 1) := by decide +kernel
theorem dX6_digest_187 : decode cX6_digest 187 = .ok (.aload_n 0, 1) := by decide +kernel
theorem dX6_digest_188 : decode cX6_digest 188 = .ok (.getfield 137, 3) := by decide +kernel
theorem dX6_digest_191 : decode cX6_digest 191 = .ok (.if_icmp .ge 40, 3) := by decide +kernel
theorem dX6_digest_194 : decode cX6_digest 194 = .ok (.iconst 0, 1) := by decide +kernel
theorem dX6_digest_195 : decode cX6_digest 195 = .ok (.istore 4, 2) := by decide +kernel
theorem dX6_digest_197 : decode cX6_digest 197 = .ok (.iload 4, 2) := by decide +kernel
theorem dX6_digest_199 : decode cX6_digest 199 = .ok (.bipush 7, 2) := by decide +kernel
theorem dX6_digest_201 : decode cX6_digest 201 = .ok (.if_icmp .ge 24, 3) := by decide +kernel
theorem dX6_digest_204 : decode cX6_digest 204 = .ok (.ldc2_w 242, 3) := by decide +kernel
theorem dX6_digest_207 : decode cX6_digest 207 = .ok (.lload_n 1, 1) := by decide +kernel
theorem dX6_digest_208 : decode cX6_digest 208 = .ok (.lmul, 1) := by decide +kernel
theorem dX6_digest_209 : decode cX6_digest 209 = .ok (.aload_n 0, 1) := by decide +kernel
theorem dX6_digest_210 : decode cX6_digest 210 = .ok (.iload_n 3, 1) := by decide +kernel
theorem dX6_digest_211 : decode cX6_digest 211 = .ok (.iload 4, 2) := by decide +kernel
theorem dX6_digest_213 : decode cX6_digest 213 = .ok (.invokevirtual 152, 3) := by decide +kernel
theorem dX6_digest_216 : decode cX6_digest 216 = .ok (.i2l, 1) := by decide +kernel
theorem dX6_digest_217 : decode cX6_digest 217 = .ok (.ladd, 1) := by decide +kernel
theorem dX6_digest_218 : decode cX6_digest 218 = .ok (.lstore_n 1, 1) := by decide +kernel
theorem dX6_digest_219 : decode cX6_digest 219 = .ok (.iinc 4 1, 3) := by decide +kernel
theorem dX6_digest_222 : decode cX6_digest 222 = .ok (.goto (-25), 3) := by decide +kernel
theorem dX6_digest_225 : decode cX6_digest 225 = .ok (.iinc 3 1, 3) := by decide +kernel
theorem dX6_digest_228 : decode cX6_digest 228 = .ok (.goto (-42), 3) := by decide +kernel
theorem dX6_digest_231 : decode cX6_digest 231 = .ok (.iconst 0, 1) := by decide +kernel
theorem dX6_digest_232 : decode cX6_digest 232 = .ok (.istore_n 3, 1) := by decide +kernel
theorem dX6_digest_233 : decode cX6_digest 233 = .ok (.iload_n 3, 1) := by decide +kernel
theorem dX6_digest_234 : decode cX6_digest 234 = .ok (.aload_n 0, 1) := by decide +kernel
theorem dX6_digest_235 : decode cX6_digest 235 = .ok (.getfield 162, 3) := by decide +kernel
theorem dX6_digest_238 : decode cX6_digest 238 = .ok (.if_icmp .ge 51, 3) := by decide +kernel
theorem dX6_digest_241 : decode cX6_digest 241 = .ok (.ldc2_w 242, 3) := by decide +kernel
theorem dX6_digest_244 : decode cX6_digest 244 = .ok (.lload_n 1, 1) := by decide +kernel
theorem dX6_digest_245 : decode cX6_digest 245 = .ok (.lmul, 1) := by decide +kernel
theorem dX6_digest_246 : decode cX6_digest 246 = .ok (.aload_n 0, 1) := by decide +kernel
theorem dX6_digest_247 : decode cX6_digest 247 = .ok (.getfield 62, 3) := by decide +kernel
theorem dX6_digest_250 : decode cX6_digest 250 = .ok (.iload_n 3, 1) := by decide +kernel
theorem dX6_digest_251 : decode cX6_digest 251 = .ok (.iaload, 1) := by decide +kernel
theorem dX6_digest_252 : decode cX6_digest 252 = .ok (.i2l, 1) := by decide +kernel
theorem dX6_digest_253 : decode cX6_digest 253 = .ok (.ladd, 1) := by decide +kernel
theorem dX6_digest_254 : decode cX6_digest 254 = .ok (.lstore_n 1, 1) := by decide +kernel
theorem dX6_digest_255 : decode cX6_digest 255 = .ok (.ldc2_w 242, 3) := by decide +kernel
theorem dX6_digest_258 : decode cX6_digest 258 = .ok (.lload_n 1, 1) := by decide +kernel
theorem dX6_digest_259 : decode cX6_digest 259 = .ok (.lmul, 1) := by decide +kernel
theorem dX6_digest_260 : decode cX6_digest 260 = .ok (.aload_n 0, 1) := by decide +kernel
theorem dX6_digest_261 : decode cX6_digest 261 = .ok (.getfield 65, 3) := by decide +kernel
theorem dX6_digest_264 : decode cX6_digest 264 = .ok (.iload_n 3, 1) := by decide +kernel
theorem dX6_digest_265 : decode cX6_digest 265 = .ok (.iaload, 1) := by decide +kernel
theorem dX6_digest_266 : decode cX6_digest 266 = .ok (.i2l, 1) := by decide +kernel
theorem dX6_digest_267 : decode cX6_digest 267 = .ok (.ladd, 1) := by decide +kernel
theorem dX6_digest_268 : decode cX6_digest 268 = .ok (.lstore_n 1, 1) := by decide +kernel
theorem dX6_digest_269 : decode cX6_digest 269 = .ok (.ldc2_w 242, 3) := by decide +kernel
theorem dX6_digest_272 : decode cX6_digest 272 = .ok (.lload_n 1, 1) := by decide +kernel
theorem dX6_digest_273 : decode cX6_digest 273 = .ok (.lmul, 1) := by decide +kernel
theorem dX6_digest_274 : decode cX6_digest 274 = .ok (.aload_n 0, 1) := by decide +kernel
theorem dX6_digest_275 : decode cX6_digest 275 = .ok (.getfield 68, 3) := by decide +kernel
theorem dX6_digest_278 : decode cX6_digest 278 = .ok (.iload_n 3, 1) := by decide +kernel
theorem dX6_digest_279 : decode cX6_digest 279 = .ok (.iaload, 1) := by decide +kernel
theorem dX6_digest_280 : decode cX6_digest 280 = .ok (.i2l, 1) := by decide +kernel
theorem dX6_digest_281 : decode cX6_digest 281 = .ok (.ladd, 1) := by decide +kernel
theorem dX6_digest_282 : decode cX6_digest 282 = .ok (.lstore_n 1, 1) := by decide +kernel
theorem dX6_digest_283 : decode cX6_digest 283 = .ok (.iinc 3 1, 3) := by decide +kernel
theorem dX6_digest_286 : decode cX6_digest 286 = .ok (.goto (-53), 3) := by decide +kernel
theorem dX6_digest_289 : decode cX6_digest 289 = .ok (.iconst 0, 1) := by decide +kernel
theorem dX6_digest_290 : decode cX6_digest 290 = .ok (.istore_n 3, 1) := by decide +kernel
theorem dX6_digest_291 : decode cX6_digest 291 = .ok (.iload_n 3, 1) := by decide +kernel
theorem dX6_digest_292 : decode cX6_digest 292 = .ok (.aload_n 0, 1) := by decide +kernel
theorem dX6_digest_293 : decode cX6_digest 293 = .ok (.getfield 212, 3) := by decide +kernel
theorem dX6_digest_296 : decode cX6_digest 296 = .ok (.if_icmp .ge 23, 3) := by decide +kernel
theorem dX6_digest_299 : decode cX6_digest 299 = .ok (.ldc2_w 242, 3) := by decide +kernel
theorem dX6_digest_302 : decode cX6_digest 302 = .ok (.lload_n 1, 1) := by decide +kernel
theorem dX6_digest_303 : decode cX6_digest 303 = .ok (.lmul, 1) := by decide +kernel
theorem dX6_digest_304 : decode cX6_digest 304 = .ok (.aload_n 0, 1) := by decide +kernel
theorem dX6_digest_305 : decode cX6_digest 305 = .ok (.getfield 75, 3) := by decide +kernel
theorem dX6_digest_308 : decode cX6_digest 308 = .ok (.iload_n 3, 1) := by decide +kernel
theorem dX6_digest_309 : decode cX6_digest 309 = .ok (.iaload, 1) := by decide +kernel
theorem dX6_digest_310 : decode cX6_digest 310 = .ok (.i2l, 1) := by decide +kernel
theorem dX6_digest_311 : decode cX6_digest 311 = .ok (.ladd, 1) := by decide +kernel
theorem dX6_digest_312 : decode cX6_digest 312 = .ok (.lstore_n 1, 1) := by decide +kernel
theorem dX6_digest_313 : decode cX6_digest 313 = .ok (.iinc 3 1, 3) := by decide +kernel
theorem dX6_digest_316 : decode cX6_digest 316 = .ok (.goto (-25), 3) := by decide +kernel
theorem dX6_digest_319 : decode cX6_digest 319 = .ok (.iconst 0, 1) := by decide +kernel
theorem dX6_digest_320 : decode cX6_digest 320 = .ok (.istore_n 3, 1) := by decide +kernel
theorem dX6_digest_321 : decode cX6_digest 321 = .ok (.iload_n 3, 1) := by decide +kernel
theorem dX6_digest_322 : decode cX6_digest 322 = .ok (.bipush 8, 2) := by decide +kernel
theorem dX6_digest_324 : decode cX6_digest 324 = .ok (.if_icmp .ge 42, 3) := by decide +kernel
theorem dX6_digest_327 : decode cX6_digest 327 = .ok (.ldc2_w 242, 3) := by decide +kernel
theorem dX6_digest_330 : decode cX6_digest 330 = .ok (.lload_n 1, 1) := by decide +kernel
theorem dX6_digest_331 : decode cX6_digest 331 = .ok (.lmul, 1) := by decide +kernel
theorem dX6_digest_332 : decode cX6_digest 332 = .ok (.aload_n 0, 1) := by decide +kernel
theorem dX6_digest_333 : decode cX6_digest 333 = .ok (.iload_n 3, 1) := by decide +kernel
theorem dX6_digest_334 : decode cX6_digest 334 = .ok (.invokevirtual 156, 3) := by decide +kernel
theorem dX6_digest_337 : decode cX6_digest 337 = .ok (.i2l, 1) := by decide +kernel
theorem dX6_digest_338 : decode cX6_digest 338 = .ok (.ladd, 1) := by decide +kernel
theorem dX6_digest_339 : decode cX6_digest 339 = .ok (.lstore_n 1, 1) := by decide +kernel
theorem dX6_digest_340 : decode cX6_digest 340 = .ok (.ldc2_w 242, 3) := by decide +kernel
theorem dX6_digest_343 : decode cX6_digest 343 = .ok (.lload_n 1, 1) := by decide +kernel
theorem dX6_digest_344 : decode cX6_digest 344 = .ok (.lmul, 1) := by decide +kernel
theorem dX6_digest_345 : decode cX6_digest 345 = .ok (.aload_n 0, 1) := by decide +kernel
theorem dX6_digest_346 : decode cX6_digest 346 = .ok (.iload_n 3, 1) := by decide +kernel
theorem dX6_digest_347 : decode cX6_digest 347 = .ok (.iconst 0, 1) := by decide +kernel
theorem dX6_digest_348 : decode cX6_digest 348 = .ok (.invokevirtual 227, 3) := by decide +kernel
theorem dX6_digest_351 : decode cX6_digest 351 = .ok (.aload_n 0, 1) := by decide +kernel
theorem dX6_digest_352 : decode cX6_digest 352 = .ok (.iload_n 3, 1) := by decide +kernel
theorem dX6_digest_353 : decode cX6_digest 353 = .ok (.invokevirtual 230, 3) := by decide +kernel
theorem dX6_digest_356 : decode cX6_digest 356 = .ok (.isub, 1) := by decide +kernel
theorem dX6_digest_357 : decode cX6_digest 357 = .ok (.i2l, 1) := by decide +kernel
theorem dX6_digest_358 : decode cX6_digest 358 = .ok (.ladd, 1) := by decide +kernel
theorem dX6_digest_359 : decode cX6_digest 359 = .ok (.lstore_n 1, 1) := by decide +kernel
theorem dX6_digest_360 : decode cX6_digest 360 = .ok (.iinc 3 1, 3) := by decide +kernel
theorem dX6_digest_363 : decode cX6_digest 363 = .ok (.goto (-42), 3) := by decide +kernel
theorem dX6_digest_366 : decode cX6_digest 366 = .ok (.lload_n 1, 1) := by decide +kernel
theorem dX6_digest_367 : decode cX6_digest 367 = .ok (.lreturn, 1) := by decide +kernel
theorem dJ6_bitCount_0f7a4_0 : decode cJ6_bitCount_0f7a4 0 = .ok (.iload_n 0, 1) := by decide +kernel
theorem dJ6_bitCount_0f7a4_1 : decode cJ6_bitCount_0f7a4 1 = .ok (.iload_n 0, 1) := by decide +kernel
theorem dJ6_bitCount_0f7a4_2 : decode cJ6_bitCount_0f7a4 2 = .ok (.iconst 1, 1) := by decide +kernel
theorem dJ6_bitCount_0f7a4_3 : decode cJ6_bitCount_0f7a4 3 = .ok (.iushr, 1) := by decide +kernel
theorem dJ6_bitCount_0f7a4_4 : decode cJ6_bitCount_0f7a4 4 = .ok (.ldc_w 265, 3) := by decide +kernel
theorem dJ6_bitCount_0f7a4_7 : decode cJ6_bitCount_0f7a4 7 = .ok (.iand, 1) := by decide +kernel
theorem dJ6_bitCount_0f7a4_8 : decode cJ6_bitCount_0f7a4 8 = .ok (.isub, 1) := by decide +kernel
theorem dJ6_bitCount_0f7a4_9 : decode cJ6_bitCount_0f7a4 9 = .ok (.istore_n 0, 1) := by decide +kernel
theorem dJ6_bitCount_0f7a4_10 : decode cJ6_bitCount_0f7a4 10 = .ok (.iload_n 0, 1) := by decide +kernel
theorem dJ6_bitCount_0f7a4_11 : decode cJ6_bitCount_0f7a4 11 = .ok (.ldc_w 266, 3) := by decide +kernel
theorem dJ6_bitCount_0f7a4_14 : decode cJ6_bitCount_0f7a4 14 = .ok (.iand, 1) := by decide +kernel
theorem dJ6_bitCount_0f7a4_15 : decode cJ6_bitCount_0f7a4 15 = .ok (.iload_n 0, 1) := by decide +kernel
theorem dJ6_bitCount_0f7a4_16 : decode cJ6_bitCount_0f7a4 16 = .ok (.iconst 2, 1) := by decide +kernel
theorem dJ6_bitCount_0f7a4_17 : decode cJ6_bitCount_0f7a4 17 = .ok (.iushr, 1) := by decide +kernel
theorem dJ6_bitCount_0f7a4_18 : decode cJ6_bitCount_0f7a4 18 = .ok (.ldc_w 266, 3) := by decide +kernel
theorem dJ6_bitCount_0f7a4_21 : decode cJ6_bitCount_0f7a4 21 = .ok (.iand, 1) := by decide +kernel
theorem dJ6_bitCount_0f7a4_22 : decode cJ6_bitCount_0f7a4 22 = .ok (.iadd, 1) := by decide +kernel
theorem dJ6_bitCount_0f7a4_23 : decode cJ6_bitCount_0f7a4 23 = .ok (.istore_n 0, 1) := by decide +kernel
theorem dJ6_bitCount_0f7a4_24 : decode cJ6_bitCount_0f7a4 24 = .ok (.iload_n 0, 1) := by decide +kernel
theorem dJ6_bitCount_0f7a4_25 : decode cJ6_bitCount_0f7a4 25 = .ok (.iload_n 0, 1) := by decide +kernel
theorem dJ6_bitCount_0f7a4_26 : decode cJ6_bitCount_0f7a4 26 = .ok (.iconst 4, 1) := by decide +kernel
theorem dJ6_bitCount_0f7a4_27 : decode cJ6_bitCount_0f7a4 27 = .ok (.iushr, 1) := by decide +kernel
theorem dJ6_bitCount_0f7a4_28 : decode cJ6_bitCount_0f7a4 28 = .ok (.iadd, 1) := by decide +kernel
theorem dJ6_bitCount_0f7a4_29 : decode cJ6_bitCount_0f7a4 29 = .ok (.ldc_w 267, 3) := by decide +kernel
theorem dJ6_bitCount_0f7a4_32 : decode cJ6_bitCount_0f7a4 32 = .ok (.iand, 1) := by decide +kernel
theorem dJ6_bitCount_0f7a4_33 : decode cJ6_bitCount_0f7a4 33 = .ok (.istore_n 0, 1) := by decide +kernel
theorem dJ6_bitCount_0f7a4_34 : decode cJ6_bitCount_0f7a4 34 = .ok (.iload_n 0, 1) := by decide +kernel
theorem dJ6_bitCount_0f7a4_35 : decode cJ6_bitCount_0f7a4 35 = .ok (.iload_n 0, 1) := by decide +kernel
theorem dJ6_bitCount_0f7a4_36 : decode cJ6_bitCount_0f7a4 36 = .ok (.bipush 8, 2) := by decide +kernel
theorem dJ6_bitCount_0f7a4_38 : decode cJ6_bitCount_0f7a4 38 = .ok (.iushr, 1) := by decide +kernel
theorem dJ6_bitCount_0f7a4_39 : decode cJ6_bitCount_0f7a4 39 = .ok (.iadd, 1) := by decide +kernel
theorem dJ6_bitCount_0f7a4_40 : decode cJ6_bitCount_0f7a4 40 = .ok (.istore_n 0, 1) := by decide +kernel
theorem dJ6_bitCount_0f7a4_41 : decode cJ6_bitCount_0f7a4 41 = .ok (.iload_n 0, 1) := by decide +kernel
theorem dJ6_bitCount_0f7a4_42 : decode cJ6_bitCount_0f7a4 42 = .ok (.iload_n 0, 1) := by decide +kernel
theorem dJ6_bitCount_0f7a4_43 : decode cJ6_bitCount_0f7a4 43 = .ok (.bipush 16, 2) := by decide +kernel
theorem dJ6_bitCount_0f7a4_45 : decode cJ6_bitCount_0f7a4 45 = .ok (.iushr, 1) := by decide +kernel
theorem dJ6_bitCount_0f7a4_46 : decode cJ6_bitCount_0f7a4 46 = .ok (.iadd, 1) := by decide +kernel
theorem dJ6_bitCount_0f7a4_47 : decode cJ6_bitCount_0f7a4 47 = .ok (.istore_n 0, 1) := by decide +kernel
theorem dJ6_bitCount_0f7a4_48 : decode cJ6_bitCount_0f7a4 48 = .ok (.iload_n 0, 1) := by decide +kernel
theorem dJ6_bitCount_0f7a4_49 : decode cJ6_bitCount_0f7a4 49 = .ok (.bipush 63, 2) := by decide +kernel
theorem dJ6_bitCount_0f7a4_51 : decode cJ6_bitCount_0f7a4 51 = .ok (.iand, 1) := by decide +kernel
theorem dJ6_bitCount_0f7a4_52 : decode cJ6_bitCount_0f7a4 52 = .ok (.ireturn, 1) := by decide +kernel
theorem dJ9_max_7cf53_0 : decode cJ9_max_7cf53 0 = .ok (.iload_n 0, 1) := by decide +kernel
theorem dJ9_max_7cf53_1 : decode cJ9_max_7cf53 1 = .ok (.iload_n 1, 1) := by decide +kernel
theorem dJ9_max_7cf53_2 : decode cJ9_max_7cf53 2 = .ok (.if_icmp .lt 7, 3) := by decide +kernel
theorem dJ9_max_7cf53_5 : decode cJ9_max_7cf53 5 = .ok (.iload_n 0, 1) := by decide +kernel
theorem dJ9_max_7cf53_6 : decode cJ9_max_7cf53 6 = .ok (.goto 4, 3) := by decide +kernel
theorem dJ9_max_7cf53_9 : decode cJ9_max_7cf53 9 = .ok (.iload_n 1, 1) := by decide +kernel
theorem dJ9_max_7cf53_10 : decode cJ9_max_7cf53 10 = .ok (.ireturn, 1) := by decide +kernel
theorem dJ9_max_f86c9_0 : decode cJ9_max_f86c9 0 = .ok (.lload_n 0, 1) := by decide +kernel
theorem dJ9_max_f86c9_1 : decode cJ9_max_f86c9 1 = .ok (.lload_n 2, 1) := by decide +kernel
theorem dJ9_max_f86c9_2 : decode cJ9_max_f86c9 2 = .ok (.lcmp, 1) := by decide +kernel
theorem dJ9_max_f86c9_3 : decode cJ9_max_f86c9 3 = .ok (.ifCond .lt 7, 3) := by decide +kernel
theorem dJ9_max_f86c9_6 : decode cJ9_max_f86c9 6 = .ok (.lload_n 0, 1) := by decide +kernel
theorem dJ9_max_f86c9_7 : decode cJ9_max_f86c9 7 = .ok (.goto 4, 3) := by decide +kernel
theorem dJ9_max_f86c9_10 : decode cJ9_max_f86c9 10 = .ok (.lload_n 2, 1) := by decide +kernel
theorem dJ9_max_f86c9_11 : decode cJ9_max_f86c9 11 = .ok (.lreturn, 1) := by decide +kernel
theorem dJ9_min_7cf53_0 : decode cJ9_min_7cf53 0 = .ok (.iload_n 0, 1) := by decide +kernel
theorem dJ9_min_7cf53_1 : decode cJ9_min_7cf53 1 = .ok (.iload_n 1, 1) := by decide +kernel
theorem dJ9_min_7cf53_2 : decode cJ9_min_7cf53 2 = .ok (.if_icmp .gt 7, 3) := by decide +kernel
theorem dJ9_min_7cf53_5 : decode cJ9_min_7cf53 5 = .ok (.iload_n 0, 1) := by decide +kernel
theorem dJ9_min_7cf53_6 : decode cJ9_min_7cf53 6 = .ok (.goto 4, 3) := by decide +kernel
theorem dJ9_min_7cf53_9 : decode cJ9_min_7cf53 9 = .ok (.iload_n 1, 1) := by decide +kernel
theorem dJ9_min_7cf53_10 : decode cJ9_min_7cf53 10 = .ok (.ireturn, 1) := by decide +kernel
theorem dJ7_fill_53178_0 : decode cJ7_fill_53178 0 = .ok (.iconst 0, 1) := by decide +kernel
theorem dJ7_fill_53178_1 : decode cJ7_fill_53178 1 = .ok (.istore_n 2, 1) := by decide +kernel
theorem dJ7_fill_53178_2 : decode cJ7_fill_53178 2 = .ok (.aload_n 0, 1) := by decide +kernel
theorem dJ7_fill_53178_3 : decode cJ7_fill_53178 3 = .ok (.arraylength, 1) := by decide +kernel
theorem dJ7_fill_53178_4 : decode cJ7_fill_53178 4 = .ok (.istore_n 3, 1) := by decide +kernel
theorem dJ7_fill_53178_5 : decode cJ7_fill_53178 5 = .ok (.iload_n 2, 1) := by decide +kernel
theorem dJ7_fill_53178_6 : decode cJ7_fill_53178 6 = .ok (.iload_n 3, 1) := by decide +kernel
theorem dJ7_fill_53178_7 : decode cJ7_fill_53178 7 = .ok (.if_icmp .ge 13, 3) := by decide +kernel
theorem dJ7_fill_53178_10 : decode cJ7_fill_53178 10 = .ok (.aload_n 0, 1) := by decide +kernel
theorem dJ7_fill_53178_11 : decode cJ7_fill_53178 11 = .ok (.iload_n 2, 1) := by decide +kernel
theorem dJ7_fill_53178_12 : decode cJ7_fill_53178 12 = .ok (.iload_n 1, 1) := by decide +kernel
theorem dJ7_fill_53178_13 : decode cJ7_fill_53178 13 = .ok (.iastore, 1) := by decide +kernel
theorem dJ7_fill_53178_14 : decode cJ7_fill_53178 14 = .ok (.iinc 2 1, 3) := by decide +kernel
theorem dJ7_fill_53178_17 : decode cJ7_fill_53178 17 = .ok (.goto (-12), 3) := by decide +kernel
theorem dJ7_fill_53178_20 : decode cJ7_fill_53178 20 = .ok (.return_, 1) := by decide +kernel
set_option maxRecDepth 20000 in
theorem ggL_law_X5_init : GoodIn wsL_law wsX5_init := goodIn_r _ [8, 9, 10, 11, 12, 13, 14, 15, 16, 17, 18, 19, 20, 21, 22, 23, 24, 25, 26, 27, 28, 29, 30, 31, 32, 33, 34, 35, 36, 37, 38, 39, 40, 41, 42, 43, 44, 45, 46, 47, 48, 49, 50, 51, 52, 53, 54, 55, 56, 57, 58, 59, 60, 61, 62, 63, 64, 65, 66, 67, 68, 69, 70, 71, 72, 73, 74, 75, 76, 77, 776, 777, 778, 779, 780, 733, 734, 735, 736, 737, 781, 782, 783, 784, 785, 786, 787, 788, 789, 790, 791, 792, 793, 794, 795, 796, 797, 798] (by decide +kernel) (by decide +kernel)
set_option maxRecDepth 20000 in
theorem gL_law_X5_init : GoodIn wsL_law (wsX5_init) := ggL_law_X5_init
set_option maxRecDepth 20000 in
theorem ggL_law_X6_init : GoodIn wsL_law wsX6_init := goodIn_r _ [80, 81, 10, 11, 36, 82, 83, 84, 85, 86, 87, 88, 89, 90, 91, 92, 93, 94, 95, 96, 97, 98, 99, 100, 101, 102, 103, 104, 105, 106, 107, 108, 738, 739, 740, 741, 742, 743, 744, 745, 746, 747, 748, 749, 750, 751, 752, 753, 754, 755, 756, 757, 758, 759, 760, 761, 762, 763, 764, 765, 766, 767, 768, 769, 770, 771, 772, 773, 774, 775] (by decide +kernel) (by decide +kernel)
set_option maxRecDepth 20000 in
theorem gL_law_X6_init : GoodIn wsL_law (wsX6_init) := ggL_law_X6_init
set_option maxRecDepth 20000 in
theorem ggL_law_X5_work : GoodIn wsL_law wsX5_work := goodIn_r _ [112, 15, 113, 114, 2, 115, 116, 117, 118, 14, 119, 37, 38, 733, 734, 735, 736, 737, 776, 777, 778, 779, 780] (by decide +kernel) (by decide +kernel)
set_option maxRecDepth 20000 in
theorem gL_law_X5_work : GoodIn wsL_law (wsV RL 13 RX5 yX5_work wsX5_work) := goodIn_app (goodIn_of _ (by decide +kernel)) ggL_law_X5_work
set_option maxRecDepth 20000 in
theorem ggL_law_X6_work : GoodIn wsL_law wsX6_work := goodIn_r _ [123, 124, 125, 126, 82, 83, 127, 128, 5, 129, 738, 739, 740, 741, 742, 743, 744, 745, 746, 747, 748, 749, 750, 751, 752, 753, 754, 755, 756, 757, 758, 759, 760, 761, 762, 763, 764, 765, 766, 767, 768, 769, 770, 771, 772, 773, 774, 775] (by decide +kernel) (by decide +kernel)
set_option maxRecDepth 20000 in
theorem gL_law_X6_work : GoodIn wsL_law (wsV RL 17 RX6 yX6_work wsX6_work) := goodIn_app (goodIn_of _ (by decide +kernel)) ggL_law_X6_work
set_option maxRecDepth 20000 in
theorem ggL_law_X5_thing : GoodIn wsL_law wsX5_thing := goodIn_r _ [133, 15, 113, 114, 2, 115, 134, 135, 136, 14, 137, 41, 39, 733, 734, 735, 736, 737, 776, 777, 778, 779, 780] (by decide +kernel) (by decide +kernel)
set_option maxRecDepth 20000 in
theorem gL_law_X5_thing : GoodIn wsL_law (wsV RL 18 RX5 yX5_thing wsX5_thing) := goodIn_app (goodIn_of _ (by decide +kernel)) ggL_law_X5_thing
set_option maxRecDepth 20000 in
theorem ggL_law_X6_thing : GoodIn wsL_law wsX6_thing := goodIn_r _ [141, 142, 143, 84, 85, 86, 87, 88, 89, 127, 128, 5, 129, 738, 739, 740, 741, 742, 743, 744, 745, 746, 747, 748, 749, 750, 751, 752, 753, 754, 755, 756, 757, 758, 759, 760, 761, 762, 763, 764, 765, 766, 767, 768, 769, 770, 771, 772, 773, 774, 775] (by decide +kernel) (by decide +kernel)
set_option maxRecDepth 20000 in
theorem gL_law_X6_thing : GoodIn wsL_law (wsV RL 22 RX6 yX6_thing wsX6_thing) := goodIn_app (goodIn_of _ (by decide +kernel)) ggL_law_X6_thing
set_option maxRecDepth 20000 in
theorem ggL_law_X5_part : GoodIn wsL_law wsX5_part := goodIn_r _ [147, 15, 148, 149, 150, 14, 151, 39, 152, 153, 154, 155, 41, 114, 2, 115, 113, 156, 157, 158, 159, 40, 160, 161, 162, 163, 733, 734, 735, 736, 737, 776, 777, 778, 779, 780] (by decide +kernel) (by decide +kernel)
set_option maxRecDepth 20000 in
theorem gL_law_X5_part : GoodIn wsL_law (wsV RL 23 RX5 yX5_part wsX5_part) := goodIn_app (goodIn_of _ (by decide +kernel)) ggL_law_X5_part
set_option maxRecDepth 20000 in
theorem ggL_law_X6_part : GoodIn wsL_law wsX6_part := goodIn_r _ [167, 84, 168, 85, 169, 170, 171, 5, 172, 143, 127, 128, 129, 738, 739, 740, 741, 742, 743, 744, 745, 746, 747, 748, 749, 750, 751, 752, 753, 754, 755, 756, 757, 758, 759, 760, 761, 762, 763, 764, 765, 766, 767, 768, 769, 770, 771, 772, 773, 774, 775] (by decide +kernel) (by decide +kernel)
set_option maxRecDepth 20000 in
theorem gL_law_X6_part : GoodIn wsL_law (wsV RL 26 RX6 yX6_part wsX6_part) := goodIn_app (goodIn_of _ (by decide +kernel)) ggL_law_X6_part
set_option maxRecDepth 20000 in
theorem ggL_law_X5_span : GoodIn wsL_law wsX5_span := goodIn_r _ [176, 15, 148, 149, 150, 14, 151, 39, 152, 153, 154, 155, 41, 114, 2, 115, 113, 177, 161, 162, 163, 40, 178, 179, 180, 181, 37, 182, 183, 184, 185, 38, 186, 187, 188, 733, 734, 735, 736, 737, 776, 777, 778, 779, 780] (by decide +kernel) (by decide +kernel)
set_option maxRecDepth 20000 in
theorem gL_law_X5_span : GoodIn wsL_law (wsV RL 27 RX5 yX5_span wsX5_span) := goodIn_app (goodIn_of _ (by decide +kernel)) ggL_law_X5_span
set_option maxRecDepth 20000 in
theorem ggL_law_X6_span : GoodIn wsL_law wsX6_span := goodIn_r _ [192, 84, 193, 194, 169, 170, 171, 5, 172, 143, 127, 128, 129, 195, 196, 197, 198, 199, 200, 201, 202, 85, 82, 83, 738, 739, 740, 741, 742, 743, 744, 745, 746, 747, 748, 749, 750, 751, 752, 753, 754, 755, 756, 757, 758, 759, 760, 761, 762, 763, 764, 765, 766, 767, 768, 769, 770, 771, 772, 773, 774, 775] (by decide +kernel) (by decide +kernel)
set_option maxRecDepth 20000 in
theorem gL_law_X6_span : GoodIn wsL_law (wsV RL 30 RX6 yX6_span wsX6_span) := goodIn_app (goodIn_of _ (by decide +kernel)) ggL_law_X6_span
set_option maxRecDepth 20000 in
theorem ggL_law_X5_apart : GoodIn wsL_law wsX5_apart := goodIn_r _ [206, 15, 207, 153, 154, 14, 155, 41, 114, 2, 115, 208, 209, 210, 211, 39, 212, 213, 214, 215, 216, 217, 218, 219, 220, 221, 222, 160, 161, 162, 163, 40, 223, 179, 180, 181, 37, 182, 183, 184, 185, 38, 186, 187, 188, 733, 734, 735, 736, 737, 776, 777, 778, 779, 780] (by decide +kernel) (by decide +kernel)
set_option maxRecDepth 20000 in
theorem gL_law_X5_apart : GoodIn wsL_law (wsV RL 31 RX5 yX5_apart wsX5_apart) := goodIn_app (goodIn_of _ (by decide +kernel)) ggL_law_X5_apart
set_option maxRecDepth 20000 in
theorem ggL_law_X6_apart : GoodIn wsL_law wsX6_apart := goodIn_r _ [227, 169, 170, 171, 5, 172, 143, 127, 128, 129, 228, 229, 230, 231, 84, 193, 194, 195, 196, 197, 198, 199, 200, 201, 202, 85, 82, 83, 232, 233, 234, 738, 739, 740, 741, 742, 743, 744, 745, 746, 747, 748, 749, 750, 751, 752, 753, 754, 755, 756, 757, 758, 759, 760, 761, 762, 763, 764, 765, 766, 767, 768, 769, 770, 771, 772, 773, 774, 775] (by decide +kernel) (by decide +kernel)
set_option maxRecDepth 20000 in
theorem gL_law_X6_apart : GoodIn wsL_law (wsV RL 34 RX6 yX6_apart wsX6_apart) := goodIn_app (goodIn_of _ (by decide +kernel)) ggL_law_X6_apart
set_option maxRecDepth 20000 in
theorem ggL_law_X5_date : GoodIn wsL_law wsX5_date := goodIn_r _ [238, 15, 207, 153, 154, 14, 155, 41, 114, 2, 115, 113, 208, 209, 210, 211, 39, 212, 213, 214, 215, 216, 217, 218, 219, 220, 221, 222, 160, 161, 162, 163, 40, 223, 179, 180, 181, 37, 182, 183, 184, 185, 38, 186, 187, 188, 239, 178, 733, 734, 735, 736, 737, 776, 777, 778, 779, 780] (by decide +kernel) (by decide +kernel)
set_option maxRecDepth 20000 in
theorem gL_law_X5_date : GoodIn wsL_law (wsV RL 35 RX5 yX5_date wsX5_date) := goodIn_app (goodIn_of _ (by decide +kernel)) ggL_law_X5_date
set_option maxRecDepth 20000 in
theorem ggL_law_X6_date : GoodIn wsL_law wsX6_date := goodIn_r _ [243, 193, 194, 169, 170, 171, 5, 172, 143, 127, 128, 129, 228, 229, 230, 231, 84, 195, 196, 197, 198, 199, 200, 201, 202, 85, 82, 83, 232, 233, 234, 738, 739, 740, 741, 742, 743, 744, 745, 746, 747, 748, 749, 750, 751, 752, 753, 754, 755, 756, 757, 758, 759, 760, 761, 762, 763, 764, 765, 766, 767, 768, 769, 770, 771, 772, 773, 774, 775] (by decide +kernel) (by decide +kernel)
set_option maxRecDepth 20000 in
theorem gL_law_X6_date : GoodIn wsL_law (wsV RL 39 RX6 yX6_date wsX6_date) := goodIn_app (goodIn_of _ (by decide +kernel)) ggL_law_X6_date
set_option maxRecDepth 20000 in
theorem ggL_law_X5_hold : GoodIn wsL_law wsX5_hold := goodIn_r _ [247, 15, 19, 207, 153, 154, 14, 155, 41, 114, 2, 115, 113, 248, 249, 250, 18, 251, 50, 51, 733, 734, 735, 736, 737, 776, 777, 778, 779, 780, 781, 782, 783, 784, 785, 786, 787] (by decide +kernel) (by decide +kernel)
set_option maxRecDepth 20000 in
theorem gL_law_X5_hold : GoodIn wsL_law (wsV RL 40 RX5 yX5_hold wsX5_hold) := goodIn_app (goodIn_of _ (by decide +kernel)) ggL_law_X5_hold
set_option maxRecDepth 20000 in
theorem ggL_law_X6_hold : GoodIn wsL_law wsX6_hold := goodIn_r _ [255, 256, 257, 86, 87, 169, 170, 171, 5, 172, 143, 127, 128, 129, 738, 739, 740, 741, 742, 743, 744, 745, 746, 747, 748, 749, 750, 751, 752, 753, 754, 755, 756, 757, 758, 759, 760, 761, 762, 763, 764, 765, 766, 767, 768, 769, 770, 771, 772, 773, 774, 775] (by decide +kernel) (by decide +kernel)
set_option maxRecDepth 20000 in
theorem gL_law_X6_hold : GoodIn wsL_law (wsV RL 43 RX6 yX6_hold wsX6_hold) := goodIn_app (goodIn_of _ (by decide +kernel)) ggL_law_X6_hold
set_option maxRecDepth 20000 in
theorem ggL_law_X5_holder : GoodIn wsL_law wsX5_holder := goodIn_r _ [261, 15, 19, 207, 153, 154, 14, 155, 41, 114, 2, 115, 262, 263, 264, 18, 265, 50, 733, 734, 735, 736, 737, 776, 777, 778, 779, 780, 781, 782, 783, 784, 785, 786, 787] (by decide +kernel) (by decide +kernel)
set_option maxRecDepth 20000 in
theorem gL_law_X5_holder : GoodIn wsL_law (wsV RL 44 RX5 yX5_holder wsX5_holder) := goodIn_app (goodIn_of _ (by decide +kernel)) ggL_law_X5_holder
set_option maxRecDepth 20000 in
theorem ggL_law_X6_holder : GoodIn wsL_law wsX6_holder := goodIn_r _ [269, 86, 169, 170, 171, 5, 172, 143, 127, 128, 129, 738, 739, 740, 741, 742, 743, 744, 745, 746, 747, 748, 749, 750, 751, 752, 753, 754, 755, 756, 757, 758, 759, 760, 761, 762, 763, 764, 765, 766, 767, 768, 769, 770, 771, 772, 773, 774, 775] (by decide +kernel) (by decide +kernel)
set_option maxRecDepth 20000 in
theorem gL_law_X6_holder : GoodIn wsL_law (wsV RL 47 RX6 yX6_holder wsX6_holder) := goodIn_app (goodIn_of _ (by decide +kernel)) ggL_law_X6_holder
set_option maxRecDepth 20000 in
theorem ggL_law_X5_hours : GoodIn wsL_law wsX5_hours := goodIn_r _ [273, 19, 113, 114, 2, 115, 274, 275, 276, 18, 277, 56, 733, 734, 735, 736, 737, 781, 782, 783, 784, 785, 786, 787] (by decide +kernel) (by decide +kernel)
set_option maxRecDepth 20000 in
theorem gL_law_X5_hours : GoodIn wsL_law (wsV RL 48 RX5 yX5_hours wsX5_hours) := goodIn_app (goodIn_of _ (by decide +kernel)) ggL_law_X5_hours
set_option maxRecDepth 20000 in
theorem ggL_law_X6_hours : GoodIn wsL_law wsX6_hours := goodIn_r _ [281, 282, 90, 127, 128, 5, 129, 738, 739, 740, 741, 742, 743, 744, 745, 746, 747, 748, 749, 750, 751, 752, 753, 754, 755, 756, 757, 758, 759, 760, 761, 762, 763, 764, 765, 766, 767, 768, 769, 770, 771, 772, 773, 774, 775] (by decide +kernel) (by decide +kernel)
set_option maxRecDepth 20000 in
theorem gL_law_X6_hours : GoodIn wsL_law (wsV RL 51 RX6 yX6_hours wsX6_hours) := goodIn_app (goodIn_of _ (by decide +kernel)) ggL_law_X6_hours
set_option maxRecDepth 20000 in
theorem ggL_law_X5_sell : GoodIn wsL_law wsX5_sell := goodIn_r _ [286, 15, 287, 19, 207, 153, 154, 14, 155, 41, 114, 2, 115, 288, 289, 290, 113, 291, 292, 293, 18, 294, 55, 53, 50, 56, 54, 51, 52, 295, 296, 297, 298, 733, 734, 735, 736, 737, 776, 777, 778, 779, 780, 781, 782, 783, 784, 785, 786, 787] (by decide +kernel) (by decide +kernel)
set_option maxRecDepth 20000 in
theorem gL_law_X5_sell : GoodIn wsL_law (wsV RL 52 RX5 yX5_sell wsX5_sell) := goodIn_app (goodIn_of _ (by decide +kernel)) ggL_law_X5_sell
set_option maxRecDepth 20000 in
theorem ggL_law_X6_sell : GoodIn wsL_law wsX6_sell := goodIn_r _ [302, 303, 304, 86, 90, 305, 91, 92, 93, 94, 95, 96, 97, 98, 87, 169, 170, 171, 5, 172, 143, 127, 128, 129, 306, 307, 308, 257, 309, 310, 311, 312, 738, 739, 740, 741, 742, 743, 744, 745, 746, 747, 748, 749, 750, 751, 752, 753, 754, 755, 756, 757, 758, 759, 760, 761, 762, 763, 764, 765, 766, 767, 768, 769, 770, 771, 772, 773, 774, 775] (by decide +kernel) (by decide +kernel)
set_option maxRecDepth 20000 in
theorem gL_law_X6_sell : GoodIn wsL_law (wsV RL 56 RX6 yX6_sell wsX6_sell) := goodIn_app (goodIn_of _ (by decide +kernel)) ggL_law_X6_sell
set_option maxRecDepth 20000 in
theorem ggL_law_X5_back : GoodIn wsL_law wsX5_back := goodIn_r _ [316, 15, 19, 207, 153, 154, 14, 155, 41, 114, 2, 115, 317, 318, 319, 18, 320, 51, 50, 56, 53, 54, 321, 322, 323, 324, 733, 734, 735, 736, 737, 776, 777, 778, 779, 780, 781, 782, 783, 784, 785, 786, 787] (by decide +kernel) (by decide +kernel)
set_option maxRecDepth 20000 in
theorem gL_law_X5_back : GoodIn wsL_law (wsV RL 57 RX5 yX5_back wsX5_back) := goodIn_app (goodIn_of _ (by decide +kernel)) ggL_law_X5_back
set_option maxRecDepth 20000 in
theorem ggL_law_X6_back : GoodIn wsL_law wsX6_back := goodIn_r _ [328, 87, 86, 93, 96, 90, 97, 92, 98, 169, 170, 171, 5, 172, 143, 127, 128, 129, 738, 739, 740, 741, 742, 743, 744, 745, 746, 747, 748, 749, 750, 751, 752, 753, 754, 755, 756, 757, 758, 759, 760, 761, 762, 763, 764, 765, 766, 767, 768, 769, 770, 771, 772, 773, 774, 775] (by decide +kernel) (by decide +kernel)
set_option maxRecDepth 20000 in
theorem gL_law_X6_back : GoodIn wsL_law (wsV RL 60 RX6 yX6_back wsX6_back) := goodIn_app (goodIn_of _ (by decide +kernel)) ggL_law_X6_back
set_option maxRecDepth 20000 in
theorem ggL_law_X5_sale : GoodIn wsL_law wsX5_sale := goodIn_r _ [332, 19, 113, 114, 2, 115, 333, 334, 335, 18, 336, 55, 337, 322, 323, 324, 53, 733, 734, 735, 736, 737, 781, 782, 783, 784, 785, 786, 787] (by decide +kernel) (by decide +kernel)
set_option maxRecDepth 20000 in
theorem gL_law_X5_sale : GoodIn wsL_law (wsV RL 61 RX5 yX5_sale wsX5_sale) := goodIn_app (goodIn_of _ (by decide +kernel)) ggL_law_X5_sale
set_option maxRecDepth 20000 in
theorem ggL_law_X6_sale : GoodIn wsL_law wsX6_sale := goodIn_r _ [341, 342, 305, 127, 128, 5, 129, 343, 344, 345, 346, 91, 92, 93, 94, 95, 96, 97, 738, 739, 740, 741, 742, 743, 744, 745, 746, 747, 748, 749, 750, 751, 752, 753, 754, 755, 756, 757, 758, 759, 760, 761, 762, 763, 764, 765, 766, 767, 768, 769, 770, 771, 772, 773, 774, 775] (by decide +kernel) (by decide +kernel)
set_option maxRecDepth 20000 in
theorem gL_law_X6_sale : GoodIn wsL_law (wsV RL 64 RX6 yX6_sale wsX6_sale) := goodIn_app (goodIn_of _ (by decide +kernel)) ggL_law_X6_sale
set_option maxRecDepth 20000 in
theorem ggL_law_X5_gain : GoodIn wsL_law wsX5_gain := goodIn_r _ [350, 19, 351, 288, 289, 2, 290, 113, 114, 115, 352, 353, 354, 18, 355, 55, 356, 357, 358, 359, 321, 322, 323, 324, 53, 733, 734, 735, 736, 737, 781, 782, 783, 784, 785, 786, 787] (by decide +kernel) (by decide +kernel)
set_option maxRecDepth 20000 in
theorem gL_law_X5_gain : GoodIn wsL_law (wsV RL 65 RX5 yX5_gain wsX5_gain) := goodIn_app (goodIn_of _ (by decide +kernel)) ggL_law_X5_gain
set_option maxRecDepth 20000 in
theorem ggL_law_X6_gain : GoodIn wsL_law wsX6_gain := goodIn_r _ [363, 364, 306, 307, 5, 308, 257, 127, 128, 129, 365, 366, 367, 368, 305, 97, 92, 94, 93, 738, 739, 740, 741, 742, 743, 744, 745, 746, 747, 748, 749, 750, 751, 752, 753, 754, 755, 756, 757, 758, 759, 760, 761, 762, 763, 764, 765, 766, 767, 768, 769, 770, 771, 772, 773, 774, 775] (by decide +kernel) (by decide +kernel)
set_option maxRecDepth 20000 in
theorem gL_law_X6_gain : GoodIn wsL_law (wsV RL 68 RX6 yX6_gain wsX6_gain) := goodIn_app (goodIn_of _ (by decide +kernel)) ggL_law_X6_gain
set_option maxRecDepth 20000 in
theorem ggL_law_X5_rose : GoodIn wsL_law wsX5_rose := goodIn_r _ [372, 15, 19, 351, 207, 153, 154, 14, 155, 41, 114, 2, 115, 373, 374, 375, 18, 376, 55, 356, 357, 358, 359, 321, 322, 323, 324, 53, 733, 734, 735, 736, 737, 776, 777, 778, 779, 780, 781, 782, 783, 784, 785, 786, 787] (by decide +kernel) (by decide +kernel)
set_option maxRecDepth 20000 in
theorem gL_law_X5_rose : GoodIn wsL_law (wsV RL 69 RX5 yX5_rose wsX5_rose) := goodIn_app (goodIn_of _ (by decide +kernel)) ggL_law_X5_rose
set_option maxRecDepth 20000 in
theorem ggL_law_X6_rose : GoodIn wsL_law wsX6_rose := goodIn_r _ [380, 364, 305, 97, 91, 94, 169, 170, 171, 5, 172, 143, 127, 128, 129, 738, 739, 740, 741, 742, 743, 744, 745, 746, 747, 748, 749, 750, 751, 752, 753, 754, 755, 756, 757, 758, 759, 760, 761, 762, 763, 764, 765, 766, 767, 768, 769, 770, 771, 772, 773, 774, 775] (by decide +kernel) (by decide +kernel)
set_option maxRecDepth 20000 in
theorem gL_law_X6_rose : GoodIn wsL_law (wsV RL 72 RX6 yX6_rose wsX6_rose) := goodIn_app (goodIn_of _ (by decide +kernel)) ggL_law_X6_rose
set_option maxRecDepth 20000 in
theorem ggL_law_X5_lot : GoodIn wsL_law wsX5_lot := goodIn_r _ [384, 23, 113, 114, 2, 115, 385, 386, 387, 288, 289, 290, 388, 389, 390, 22, 391, 64, 61, 62, 63, 733, 734, 735, 736, 737, 788, 789, 790, 791] (by decide +kernel) (by decide +kernel)
set_option maxRecDepth 20000 in
theorem gL_law_X5_lot : GoodIn wsL_law (wsV RL 73 RX5 yX5_lot wsX5_lot) := goodIn_app (goodIn_of _ (by decide +kernel)) ggL_law_X5_lot
set_option maxRecDepth 20000 in
theorem ggL_law_X6_lot : GoodIn wsL_law wsX6_lot := goodIn_r _ [395, 396, 397, 99, 100, 101, 127, 128, 5, 129, 306, 307, 308, 257, 738, 739, 740, 741, 742, 743, 744, 745, 746, 747, 748, 749, 750, 751, 752, 753, 754, 755, 756, 757, 758, 759, 760, 761, 762, 763, 764, 765, 766, 767, 768, 769, 770, 771, 772, 773, 774, 775] (by decide +kernel) (by decide +kernel)
set_option maxRecDepth 20000 in
theorem gL_law_X6_lot : GoodIn wsL_law (wsV RL 76 RX6 yX6_lot wsX6_lot) := goodIn_app (goodIn_of _ (by decide +kernel)) ggL_law_X6_lot
set_option maxRecDepth 20000 in
theorem ggL_law_X5_both : GoodIn wsL_law wsX5_both := goodIn_r _ [401, 23, 402, 403, 2, 404, 288, 289, 290, 113, 114, 115, 405, 406, 407, 22, 408, 64, 61, 62, 733, 734, 735, 736, 737, 788, 789, 790, 791] (by decide +kernel) (by decide +kernel)
set_option maxRecDepth 20000 in
theorem gL_law_X5_both : GoodIn wsL_law (wsV RL 77 RX5 yX5_both wsX5_both) := goodIn_app (goodIn_of _ (by decide +kernel)) ggL_law_X5_both
set_option maxRecDepth 20000 in
theorem ggL_law_X6_both : GoodIn wsL_law wsX6_both := goodIn_r _ [412, 413, 414, 415, 416, 417, 418, 419, 5, 420, 306, 307, 308, 257, 127, 128, 129, 421, 422, 423, 424, 397, 99, 100, 738, 739, 740, 741, 742, 743, 744, 745, 746, 747, 748, 749, 750, 751, 752, 753, 754, 755, 756, 757, 758, 759, 760, 761, 762, 763, 764, 765, 766, 767, 768, 769, 770, 771, 772, 773, 774, 775] (by decide +kernel) (by decide +kernel)
set_option maxRecDepth 20000 in
theorem gL_law_X6_both : GoodIn wsL_law (wsV RL 80 RX6 yX6_both wsX6_both) := goodIn_app (goodIn_of _ (by decide +kernel)) ggL_law_X6_both
set_option maxRecDepth 20000 in
theorem ggL_law_X5_chance : GoodIn wsL_law wsX5_chance := goodIn_r _ [428, 429, 23, 430, 431, 184, 432, 402, 403, 2, 404, 288, 289, 290, 113, 114, 115, 433, 434, 435, 22, 436, 437, 183, 185, 438, 406, 407, 408, 64, 61, 62, 439, 440, 441, 442, 443, 444, 445, 446, 447, 448, 733, 734, 735, 736, 737, 788, 789, 790, 791] (by decide +kernel) (by decide +kernel)
set_option maxRecDepth 20000 in
theorem gL_law_X5_chance : GoodIn wsL_law (wsV RL 81 RX5 yX5_chance wsX5_chance) := goodIn_app (goodIn_of _ (by decide +kernel)) ggL_law_X5_chance
set_option maxRecDepth 20000 in
theorem ggL_law_X6_chance : GoodIn wsL_law wsX6_chance := goodIn_r _ [452, 453, 454, 455, 418, 419, 5, 420, 306, 307, 308, 257, 127, 128, 129, 456, 457, 458, 459, 417, 415, 414, 416, 421, 422, 423, 424, 397, 99, 100, 460, 461, 462, 463, 103, 464, 465, 466, 738, 739, 740, 741, 742, 743, 744, 745, 746, 747, 748, 749, 750, 751, 752, 753, 754, 755, 756, 757, 758, 759, 760, 761, 762, 763, 764, 765, 766, 767, 768, 769, 770, 771, 772, 773, 774, 775] (by decide +kernel) (by decide +kernel)
set_option maxRecDepth 20000 in
theorem gL_law_X6_chance : GoodIn wsL_law (wsV RL 85 RX6 yX6_chance wsX6_chance) := goodIn_app (goodIn_of _ (by decide +kernel)) ggL_law_X6_chance
set_option maxRecDepth 20000 in
theorem ggL_law_X5_shyest : GoodIn wsL_law wsX5_shyest := goodIn_r _ [470, 23, 471, 472, 473, 22, 474, 475, 434, 435, 436, 437, 183, 184, 185, 438, 406, 407, 408, 64, 61, 62, 439, 440, 441, 476, 443, 444, 445, 477, 478, 479, 480, 733, 734, 735, 736, 737, 788, 789, 790, 791] (by decide +kernel) (by decide +kernel)
set_option maxRecDepth 20000 in
theorem gL_law_X5_shyest : GoodIn wsL_law (wsV RL 86 RX5 yX5_shyest wsX5_shyest) := goodIn_app (goodIn_of _ (by decide +kernel)) ggL_law_X5_shyest
set_option maxRecDepth 20000 in
theorem ggL_law_X6_shyest : GoodIn wsL_law wsX6_shyest := goodIn_r _ [484, 454, 455, 456, 457, 458, 5, 459, 417, 415, 414, 416, 421, 422, 423, 424, 397, 99, 100, 460, 461, 462, 463, 103, 127, 128, 129, 464, 465, 466, 485, 486, 487, 738, 739, 740, 741, 742, 743, 744, 745, 746, 747, 748, 749, 750, 751, 752, 753, 754, 755, 756, 757, 758, 759, 760, 761, 762, 763, 764, 765, 766, 767, 768, 769, 770, 771, 772, 773, 774, 775] (by decide +kernel) (by decide +kernel)
set_option maxRecDepth 20000 in
theorem gL_law_X6_shyest : GoodIn wsL_law (wsV RL 90 RX6 yX6_shyest wsX6_shyest) := goodIn_app (goodIn_of _ (by decide +kernel)) ggL_law_X6_shyest
set_option maxRecDepth 20000 in
theorem ggL_law_X5_inside : GoodIn wsL_law wsX5_inside := goodIn_r _ [491, 287, 113, 114, 2, 115, 492, 213, 214, 215, 216, 217, 218] (by decide +kernel) (by decide +kernel)
set_option maxRecDepth 20000 in
theorem gL_law_X5_inside : GoodIn wsL_law (wsV RL 91 RX5 yX5_inside wsX5_inside) := goodIn_app (goodIn_of _ (by decide +kernel)) ggL_law_X5_inside
set_option maxRecDepth 20000 in
theorem ggL_law_X6_inside : GoodIn wsL_law wsX6_inside := goodIn_r _ [496, 396, 303, 127, 128, 5, 129, 232, 233, 234] (by decide +kernel) (by decide +kernel)
set_option maxRecDepth 20000 in
theorem gL_law_X6_inside : GoodIn wsL_law (wsV RL 94 RX6 yX6_inside wsX6_inside) := goodIn_app (goodIn_of _ (by decide +kernel)) ggL_law_X6_inside
set_option maxRecDepth 20000 in
theorem ggL_law_X5_entry : GoodIn wsL_law wsX5_entry := goodIn_r _ [500, 27, 113, 114, 2, 115, 501, 502, 503, 26, 504, 73, 68, 733, 734, 735, 736, 737, 792, 793, 794, 795, 796, 797] (by decide +kernel) (by decide +kernel)
set_option maxRecDepth 20000 in
theorem gL_law_X5_entry : GoodIn wsL_law (wsV RL 95 RX5 yX5_entry wsX5_entry) := goodIn_app (goodIn_of _ (by decide +kernel)) ggL_law_X5_entry
set_option maxRecDepth 20000 in
theorem ggL_law_X6_entry : GoodIn wsL_law wsX6_entry := goodIn_r _ [508, 509, 510, 104, 127, 128, 5, 129, 738, 739, 740, 741, 742, 743, 744, 745, 746, 747, 748, 749, 750, 751, 752, 753, 754, 755, 756, 757, 758, 759, 760, 761, 762, 763, 764, 765, 766, 767, 768, 769, 770, 771, 772, 773, 774, 775] (by decide +kernel) (by decide +kernel)
set_option maxRecDepth 20000 in
theorem gL_law_X6_entry : GoodIn wsL_law (wsV RL 98 RX6 yX6_entry wsX6_entry) := goodIn_app (goodIn_of _ (by decide +kernel)) ggL_law_X6_entry
set_option maxRecDepth 20000 in
theorem ggL_law_X5_mark : GoodIn wsL_law wsX5_mark := goodIn_r _ [514, 15, 27, 207, 153, 154, 14, 155, 41, 114, 2, 115, 113, 515, 516, 517, 26, 518, 69, 70, 733, 734, 735, 736, 737, 776, 777, 778, 779, 780, 792, 793, 794, 795, 796, 797] (by decide +kernel) (by decide +kernel)
set_option maxRecDepth 20000 in
theorem gL_law_X5_mark : GoodIn wsL_law (wsV RL 99 RX5 yX5_mark wsX5_mark) := goodIn_app (goodIn_of _ (by decide +kernel)) ggL_law_X5_mark
set_option maxRecDepth 20000 in
theorem ggL_law_X6_mark : GoodIn wsL_law wsX6_mark := goodIn_r _ [522, 523, 524, 88, 89, 169, 170, 171, 5, 172, 143, 127, 128, 129, 738, 739, 740, 741, 742, 743, 744, 745, 746, 747, 748, 749, 750, 751, 752, 753, 754, 755, 756, 757, 758, 759, 760, 761, 762, 763, 764, 765, 766, 767, 768, 769, 770, 771, 772, 773, 774, 775] (by decide +kernel) (by decide +kernel)
set_option maxRecDepth 20000 in
theorem gL_law_X6_mark : GoodIn wsL_law (wsV RL 102 RX6 yX6_mark wsX6_mark) := goodIn_app (goodIn_of _ (by decide +kernel)) ggL_law_X6_mark
set_option maxRecDepth 20000 in
theorem ggL_law_X5_score : GoodIn wsL_law wsX5_score := goodIn_r _ [528, 27, 15, 529, 530, 531, 26, 532, 73, 114, 2, 115, 207, 153, 154, 14, 155, 41, 533, 534, 535, 536, 68, 69, 70, 537, 213, 214, 215, 216, 217, 218, 733, 734, 735, 736, 737, 792, 793, 794, 795, 796, 797, 776, 777, 778, 779, 780] (by decide +kernel) (by decide +kernel)
set_option maxRecDepth 20000 in
theorem gL_law_X5_score : GoodIn wsL_law (wsV RL 103 RX5 yX5_score wsX5_score) := goodIn_app (goodIn_of _ (by decide +kernel)) ggL_law_X5_score
set_option maxRecDepth 20000 in
theorem ggL_law_X6_score : GoodIn wsL_law wsX6_score := goodIn_r _ [541, 510, 127, 128, 5, 129, 169, 170, 171, 172, 143, 542, 543, 544, 545, 104, 88, 89, 232, 233, 234, 738, 739, 740, 741, 742, 743, 744, 745, 746, 747, 748, 749, 750, 751, 752, 753, 754, 755, 756, 757, 758, 759, 760, 761, 762, 763, 764, 765, 766, 767, 768, 769, 770, 771, 772, 773, 774, 775] (by decide +kernel) (by decide +kernel)
set_option maxRecDepth 20000 in
theorem gL_law_X6_score : GoodIn wsL_law (wsV RL 106 RX6 yX6_score wsX6_score) := goodIn_app (goodIn_of _ (by decide +kernel)) ggL_law_X6_score
set_option maxRecDepth 20000 in
theorem ggL_law_X5_joined : GoodIn wsL_law wsX5_joined := goodIn_r _ [549, 27, 15, 550, 551, 552, 26, 553, 73, 554, 555, 556, 14, 557, 41, 558, 559, 560, 561, 562, 187, 184, 188, 71, 563, 43, 44, 45, 564, 565, 566, 567, 72, 568, 569, 570, 530, 531, 532, 114, 2, 115, 571, 534, 535, 536, 68, 69, 70, 537, 213, 214, 215, 216, 217, 218, 572, 573, 574, 575, 576, 183, 185, 577, 578, 579, 733, 734, 735, 736, 737, 792, 793, 794, 795, 796, 797, 776, 777, 778, 779, 780] (by decide +kernel) (by decide +kernel)
set_option maxRecDepth 20000 in
theorem gL_law_X5_joined : GoodIn wsL_law (wsV RL 107 RX5 yX5_joined wsX5_joined) := goodIn_app (goodIn_of _ (by decide +kernel)) ggL_law_X5_joined
set_option maxRecDepth 20000 in
theorem ggL_law_X6_joined : GoodIn wsL_law wsX6_joined := goodIn_r _ [583, 510, 105, 584, 585, 586, 5, 587, 143, 107, 106, 542, 543, 544, 545, 104, 88, 89, 232, 233, 234, 738, 739, 740, 741, 742, 743, 744, 745, 746, 747, 748, 749, 750, 751, 752, 753, 754, 755, 756, 757, 758, 759, 760, 761, 762, 763, 764, 765, 766, 767, 768, 769, 770, 771, 772, 773, 774, 775] (by decide +kernel) (by decide +kernel)
set_option maxRecDepth 20000 in
theorem gL_law_X6_joined : GoodIn wsL_law (wsV RL 110 RX6 yX6_joined wsX6_joined) := goodIn_app (goodIn_of _ (by decide +kernel)) ggL_law_X6_joined
set_option maxRecDepth 20000 in
theorem ggL_law_X5_joinedTo : GoodIn wsL_law wsX5_joinedTo := goodIn_r _ [591, 27, 15, 529, 530, 531, 26, 532, 73, 114, 2, 115, 550, 551, 552, 553, 554, 555, 556, 14, 557, 41, 558, 559, 560, 561, 562, 187, 184, 188, 71, 563, 43, 44, 45, 564, 565, 566, 567, 72, 568, 569, 570, 571, 534, 535, 536, 68, 69, 70, 537, 213, 214, 215, 216, 217, 218, 572, 573, 574, 575, 576, 183, 185, 592, 593, 594, 733, 734, 735, 736, 737, 792, 793, 794, 795, 796, 797, 776, 777, 778, 779, 780] (by decide +kernel) (by decide +kernel)
set_option maxRecDepth 20000 in
theorem gL_law_X5_joinedTo : GoodIn wsL_law (wsV RL 111 RX5 yX5_joinedTo wsX5_joinedTo) := goodIn_app (goodIn_of _ (by decide +kernel)) ggL_law_X5_joinedTo
set_option maxRecDepth 20000 in
theorem ggL_law_X6_joinedTo : GoodIn wsL_law wsX6_joinedTo := goodIn_r _ [598, 510, 106, 127, 128, 5, 129, 584, 585, 586, 587, 143, 107, 105, 542, 543, 544, 545, 104, 88, 89, 232, 233, 234, 738, 739, 740, 741, 742, 743, 744, 745, 746, 747, 748, 749, 750, 751, 752, 753, 754, 755, 756, 757, 758, 759, 760, 761, 762, 763, 764, 765, 766, 767, 768, 769, 770, 771, 772, 773, 774, 775] (by decide +kernel) (by decide +kernel)
set_option maxRecDepth 20000 in
theorem gL_law_X6_joinedTo : GoodIn wsL_law (wsV RL 114 RX6 yX6_joinedTo wsX6_joinedTo) := goodIn_app (goodIn_of _ (by decide +kernel)) ggL_law_X6_joinedTo
set_option maxRecDepth 20000 in
theorem ggL_law_X5_owe : GoodIn wsL_law wsX5_owe := goodIn_r _ [602, 31, 402, 403, 2, 404, 288, 289, 290, 113, 114, 115, 603, 604, 605, 30, 606, 77, 733, 734, 735, 736, 737, 798] (by decide +kernel) (by decide +kernel)
set_option maxRecDepth 20000 in
theorem gL_law_X5_owe : GoodIn wsL_law (wsV RL 115 RX5 yX5_owe wsX5_owe) := goodIn_app (goodIn_of _ (by decide +kernel)) ggL_law_X5_owe
set_option maxRecDepth 20000 in
theorem ggL_law_X6_owe : GoodIn wsL_law wsX6_owe := goodIn_r _ [610, 611, 108, 418, 419, 5, 420, 306, 307, 308, 257, 127, 128, 129, 738, 739, 740, 741, 742, 743, 744, 745, 746, 747, 748, 749, 750, 751, 752, 753, 754, 755, 756, 757, 758, 759, 760, 761, 762, 763, 764, 765, 766, 767, 768, 769, 770, 771, 772, 773, 774, 775] (by decide +kernel) (by decide +kernel)
