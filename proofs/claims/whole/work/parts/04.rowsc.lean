theorem dX6_doStep_50 : decode cX6_doStep 50 = .ok (.iconst 3, 1) := by decide +kernel
theorem dX6_doStep_51 : decode cX6_doStep 51 = .ok (.invokevirtual 127, 3) := by decide +kernel
theorem dX6_doStep_54 : decode cX6_doStep 54 = .ok (.istore 7, 2) := by decide +kernel
theorem dX6_doStep_56 : decode cX6_doStep 56 = .ok (.aload_n 0, 1) := by decide +kernel
theorem dX6_doStep_57 : decode cX6_doStep 57 = .ok (.dup, 1) := by decide +kernel
theorem dX6_doStep_58 : decode cX6_doStep 58 = .ok (.getfield 189, 3) := by decide +kernel
theorem dX6_doStep_61 : decode cX6_doStep 61 = .ok (.iconst 1, 1) := by decide +kernel
theorem dX6_doStep_62 : decode cX6_doStep 62 = .ok (.iadd, 1) := by decide +kernel
theorem dX6_doStep_63 : decode cX6_doStep 63 = .ok (.putfield 189, 3) := by decide +kernel
theorem dX6_doStep_66 : decode cX6_doStep 66 = .ok (.aload_n 0, 1) := by decide +kernel
theorem dX6_doStep_67 : decode cX6_doStep 67 = .ok (.dup, 1) := by decide +kernel
theorem dX6_doStep_68 : decode cX6_doStep 68 = .ok (.getfield 131, 3) := by decide +kernel
theorem dX6_doStep_71 : decode cX6_doStep 71 = .ok (.aload_n 0, 1) := by decide +kernel
theorem dX6_doStep_72 : decode cX6_doStep 72 = .ok (.getfield 61, 3) := by decide +kernel
theorem dX6_doStep_75 : decode cX6_doStep 75 = .ok (.iload_n 1, 1) := by decide +kernel
theorem dX6_doStep_76 : decode cX6_doStep 76 = .ok (.iaload, 1) := by decide +kernel
theorem dX6_doStep_77 : decode cX6_doStep 77 = .ok (.ifCond .ne 9, 3) := by decide +kernel
theorem dX6_doStep_80 : decode cX6_doStep 80 = .ok (.ldc2_w 192, 3) := by decide +kernel
theorem dX6_doStep_83 : decode cX6_doStep 83 = .ok (.goto 20, 3) := by decide +kernel
theorem dX6_doStep_86 : decode cX6_doStep 86 = .ok (.aload_n 0, 1) := by decide +kernel
theorem dX6_doStep_87 : decode cX6_doStep 87 = .ok (.getfield 61, 3) := by decide +kernel
theorem dX6_doStep_90 : decode cX6_doStep 90 = .ok (.iload_n 1, 1) := by decide +kernel
theorem dX6_doStep_91 : decode cX6_doStep 91 = .ok (.iaload, 1) := by decide +kernel
theorem dX6_doStep_92 : decode cX6_doStep 92 = .ok (.iconst 1, 1) := by decide +kernel
theorem dX6_doStep_93 : decode cX6_doStep 93 = .ok (.if_icmp .ne 9, 3) := by decide +kernel
theorem dX6_doStep_96 : decode cX6_doStep 96 = .ok (.ldc2_w 194, 3) := by decide +kernel
theorem dX6_doStep_99 : decode cX6_doStep 99 = .ok (.goto 4, 3) := by decide +kernel
theorem dX6_doStep_102 : decode cX6_doStep 102 = .ok (.lconst 1, 1) := by decide +kernel
theorem dX6_doStep_103 : decode cX6_doStep 103 = .ok (.ladd, 1) := by decide +kernel
theorem dX6_doStep_104 : decode cX6_doStep 104 = .ok (.putfield 131, 3) := by decide +kernel
theorem dX6_doStep_107 : decode cX6_doStep 107 = .ok (.iload 4, 2) := by decide +kernel
theorem dX6_doStep_109 : decode cX6_doStep 109 = .ok (.iconst 5, 1) := by decide +kernel
theorem dX6_doStep_110 : decode cX6_doStep 110 = .ok (.if_icmp .ne 12, 3) := by decide +kernel
theorem dX6_doStep_113 : decode cX6_doStep 113 = .ok (.aload_n 0, 1) := by decide +kernel
theorem dX6_doStep_114 : decode cX6_doStep 114 = .ok (.iload_n 2, 1) := by decide +kernel
theorem dX6_doStep_115 : decode cX6_doStep 115 = .ok (.iload_n 3, 1) := by decide +kernel
theorem dX6_doStep_116 : decode cX6_doStep 116 = .ok (.invokevirtual 196, 3) := by decide +kernel
theorem dX6_doStep_119 : decode cX6_doStep 119 = .ok (.goto 261, 3) := by decide +kernel
theorem dX6_doStep_122 : decode cX6_doStep 122 = .ok (.iload 4, 2) := by decide +kernel
theorem dX6_doStep_124 : decode cX6_doStep 124 = .ok (.bipush 7, 2) := by decide +kernel
theorem dX6_doStep_126 : decode cX6_doStep 126 = .ok (.if_icmp .ne 12, 3) := by decide +kernel
theorem dX6_doStep_129 : decode cX6_doStep 129 = .ok (.aload_n 0, 1) := by decide +kernel
theorem dX6_doStep_130 : decode cX6_doStep 130 = .ok (.iload 5, 2) := by decide +kernel
theorem dX6_doStep_132 : decode cX6_doStep 132 = .ok (.invokevirtual 199, 3) := by decide +kernel
theorem dX6_doStep_135 : decode cX6_doStep 135 = .ok (.goto 245, 3) := by decide +kernel
theorem dX6_doStep_138 : decode cX6_doStep 138 = .ok (.iload 4, 2) := by decide +kernel
theorem dX6_doStep_140 : decode cX6_doStep 140 = .ok (.bipush 8, 2) := by decide +kernel
theorem dX6_doStep_142 : decode cX6_doStep 142 = .ok (.if_icmp .ne 22, 3) := by decide +kernel
theorem dX6_doStep_145 : decode cX6_doStep 145 = .ok (.aload_n 0, 1) := by decide +kernel
theorem dX6_doStep_146 : decode cX6_doStep 146 = .ok (.aload_n 0, 1) := by decide +kernel
theorem dX6_doStep_147 : decode cX6_doStep 147 = .ok (.iload 5, 2) := by decide +kernel
theorem dX6_doStep_149 : decode cX6_doStep 149 = .ok (.invokevirtual 163, 3) := by decide +kernel
theorem dX6_doStep_152 : decode cX6_doStep 152 = .ok (.aload_n 0, 1) := by decide +kernel
theorem dX6_doStep_153 : decode cX6_doStep 153 = .ok (.iload 5, 2) := by decide +kernel
theorem dX6_doStep_155 : decode cX6_doStep 155 = .ok (.invokevirtual 182, 3) := by decide +kernel
theorem dX6_doStep_158 : decode cX6_doStep 158 = .ok (.invokevirtual 202, 3) := by decide +kernel
theorem dX6_doStep_161 : decode cX6_doStep 161 = .ok (.goto 219, 3) := by decide +kernel
theorem dX6_doStep_164 : decode cX6_doStep 164 = .ok (.iload 4, 2) := by decide +kernel
theorem dX6_doStep_166 : decode cX6_doStep 166 = .ok (.bipush 6, 2) := by decide +kernel
theorem dX6_doStep_168 : decode cX6_doStep 168 = .ok (.if_icmp .ne 59, 3) := by decide +kernel
theorem dX6_doStep_171 : decode cX6_doStep 171 = .ok (.aload_n 0, 1) := by decide +kernel
theorem dX6_doStep_172 : decode cX6_doStep 172 = .ok (.iload 5, 2) := by decide +kernel
theorem dX6_doStep_174 : decode cX6_doStep 174 = .ok (.iload 6, 2) := by decide +kernel
theorem dX6_doStep_176 : decode cX6_doStep 176 = .ok (.invokevirtual 205, 3) := by decide +kernel
theorem dX6_doStep_179 : decode cX6_doStep 179 = .ok (.ifCond .ne 11, 3) := by decide +kernel
theorem dX6_doStep_182 : decode cX6_doStep 182 = .ok (.aload_n 0, 1) := by decide +kernel
theorem dX6_doStep_183 : decode cX6_doStep 183 = .ok (.iconst 1, 1) := by decide +kernel
theorem dX6_doStep_184 : decode cX6_doStep 184 = .ok (.putfield 176, 3) := by decide +kernel
theorem dX6_doStep_187 : decode cX6_doStep 187 = .ok (.goto 193, 3) := by decide +kernel
theorem dX6_doStep_190 : decode cX6_doStep 190 = .ok (.aload_n 0, 1) := by decide +kernel
theorem dX6_doStep_191 : decode cX6_doStep 191 = .ok (.iload 5, 2) := by decide +kernel
theorem dX6_doStep_193 : decode cX6_doStep 193 = .ok (.invokevirtual 182, 3) := by decide +kernel
theorem dX6_doStep_196 : decode cX6_doStep 196 = .ok (.aload_n 0, 1) := by decide +kernel
theorem dX6_doStep_197 : decode cX6_doStep 197 = .ok (.iload 6, 2) := by decide +kernel
theorem dX6_doStep_199 : decode cX6_doStep 199 = .ok (.invokevirtual 182, 3) := by decide +kernel
theorem dX6_doStep_202 : decode cX6_doStep 202 = .ok (.if_icmp .ge 12, 3) := by decide +kernel
theorem dX6_doStep_205 : decode cX6_doStep 205 = .ok (.aload_n 0, 1) := by decide +kernel
theorem dX6_doStep_206 : decode cX6_doStep 206 = .ok (.iload 7, 2) := by decide +kernel
theorem dX6_doStep_208 : decode cX6_doStep 208 = .ok (.invokevirtual 199, 3) := by decide +kernel
theorem dX6_doStep_211 : decode cX6_doStep 211 = .ok (.goto 169, 3) := by decide +kernel
theorem dX6_doStep_214 : decode cX6_doStep 214 = .ok (.aload_n 0, 1) := by decide +kernel
theorem dX6_doStep_215 : decode cX6_doStep 215 = .ok (.getfield 58, 3) := by decide +kernel
theorem dX6_doStep_218 : decode cX6_doStep 218 = .ok (.iload_n 1, 1) := by decide +kernel
theorem dX6_doStep_219 : decode cX6_doStep 219 = .ok (.dup2, 1) := by decide +kernel
theorem dX6_doStep_220 : decode cX6_doStep 220 = .ok (.iaload, 1) := by decide +kernel
theorem dX6_doStep_221 : decode cX6_doStep 221 = .ok (.iconst 1, 1) := by decide +kernel
theorem dX6_doStep_222 : decode cX6_doStep 222 = .ok (.iadd, 1) := by decide +kernel
theorem dX6_doStep_223 : decode cX6_doStep 223 = .ok (.iastore, 1) := by decide +kernel
theorem dX6_doStep_224 : decode cX6_doStep 224 = .ok (.goto 156, 3) := by decide +kernel
theorem dX6_doStep_227 : decode cX6_doStep 227 = .ok (.iload 4, 2) := by decide +kernel
theorem dX6_doStep_229 : decode cX6_doStep 229 = .ok (.iconst 1, 1) := by decide +kernel
theorem dX6_doStep_230 : decode cX6_doStep 230 = .ok (.if_icmp .lt 28, 3) := by decide +kernel
theorem dX6_doStep_233 : decode cX6_doStep 233 = .ok (.iload 4, 2) := by decide +kernel
theorem dX6_doStep_235 : decode cX6_doStep 235 = .ok (.iconst 3, 1) := by decide +kernel
theorem dX6_doStep_236 : decode cX6_doStep 236 = .ok (.if_icmp .gt 22, 3) := by decide +kernel
theorem dX6_doStep_239 : decode cX6_doStep 239 = .ok (.aload_n 0, 1) := by decide +kernel
theorem dX6_doStep_240 : decode cX6_doStep 240 = .ok (.iload 6, 2) := by decide +kernel
theorem dX6_doStep_242 : decode cX6_doStep 242 = .ok (.iload 7, 2) := by decide +kernel
theorem dX6_doStep_244 : decode cX6_doStep 244 = .ok (.invokevirtual 205, 3) := by decide +kernel
theorem dX6_doStep_247 : decode cX6_doStep 247 = .ok (.ifCond .ne 11, 3) := by decide +kernel
theorem dX6_doStep_250 : decode cX6_doStep 250 = .ok (.aload_n 0, 1) := by decide +kernel
theorem dX6_doStep_251 : decode cX6_doStep 251 = .ok (.iconst 1, 1) := by decide +kernel
theorem dX6_doStep_252 : decode cX6_doStep 252 = .ok (.putfield 176, 3) := by decide +kernel
theorem dX6_doStep_255 : decode cX6_doStep 255 = .ok (.goto 125, 3) := by decide +kernel
theorem dX6_doStep_258 : decode cX6_doStep 258 = .ok (.iload 4, 2) := by decide +kernel
theorem dX6_doStep_260 : decode cX6_doStep 260 = .ok (.ifCond .ne 13, 3) := by decide +kernel
theorem dX6_doStep_263 : decode cX6_doStep 263 = .ok (.aload_n 0, 1) := by decide +kernel
theorem dX6_doStep_264 : decode cX6_doStep 264 = .ok (.iload_n 1, 1) := by decide +kernel
theorem dX6_doStep_265 : decode cX6_doStep 265 = .ok (.iload 5, 2) := by decide +kernel
theorem dX6_doStep_267 : decode cX6_doStep 267 = .ok (.iconst (-1), 1) := by decide +kernel
theorem dX6_doStep_268 : decode cX6_doStep 268 = .ok (.iload 6, 2) := by decide +kernel
theorem dX6_doStep_270 : decode cX6_doStep 270 = .ok (.invokevirtual 148, 3) := by decide +kernel
theorem dX6_doStep_273 : decode cX6_doStep 273 = .ok (.iload 4, 2) := by decide +kernel
theorem dX6_doStep_275 : decode cX6_doStep 275 = .ok (.iconst 4, 1) := by decide +kernel
theorem dX6_doStep_276 : decode cX6_doStep 276 = .ok (.if_icmp .ne 13, 3) := by decide +kernel
theorem dX6_doStep_279 : decode cX6_doStep 279 = .ok (.aload_n 0, 1) := by decide +kernel
theorem dX6_doStep_280 : decode cX6_doStep 280 = .ok (.iload_n 1, 1) := by decide +kernel
theorem dX6_doStep_281 : decode cX6_doStep 281 = .ok (.iload 5, 2) := by decide +kernel
theorem dX6_doStep_283 : decode cX6_doStep 283 = .ok (.iload 6, 2) := by decide +kernel
theorem dX6_doStep_285 : decode cX6_doStep 285 = .ok (.iconst 0, 1) := by decide +kernel
theorem dX6_doStep_286 : decode cX6_doStep 286 = .ok (.invokevirtual 148, 3) := by decide +kernel
theorem dX6_doStep_289 : decode cX6_doStep 289 = .ok (.iload 4, 2) := by decide +kernel
theorem dX6_doStep_291 : decode cX6_doStep 291 = .ok (.iconst 1, 1) := by decide +kernel
theorem dX6_doStep_292 : decode cX6_doStep 292 = .ok (.if_icmp .ne 24, 3) := by decide +kernel
theorem dX6_doStep_295 : decode cX6_doStep 295 = .ok (.aload_n 0, 1) := by decide +kernel
theorem dX6_doStep_296 : decode cX6_doStep 296 = .ok (.iload_n 1, 1) := by decide +kernel
theorem dX6_doStep_297 : decode cX6_doStep 297 = .ok (.iload 5, 2) := by decide +kernel
theorem dX6_doStep_299 : decode cX6_doStep 299 = .ok (.iconst (-1), 1) := by decide +kernel
theorem dX6_doStep_300 : decode cX6_doStep 300 = .ok (.aload_n 0, 1) := by decide +kernel
theorem dX6_doStep_301 : decode cX6_doStep 301 = .ok (.iload 6, 2) := by decide +kernel
theorem dX6_doStep_303 : decode cX6_doStep 303 = .ok (.invokevirtual 182, 3) := by decide +kernel
theorem dX6_doStep_306 : decode cX6_doStep 306 = .ok (.aload_n 0, 1) := by decide +kernel
theorem dX6_doStep_307 : decode cX6_doStep 307 = .ok (.iload 7, 2) := by decide +kernel
theorem dX6_doStep_309 : decode cX6_doStep 309 = .ok (.invokevirtual 182, 3) := by decide +kernel
theorem dX6_doStep_312 : decode cX6_doStep 312 = .ok (.iadd, 1) := by decide +kernel
theorem dX6_doStep_313 : decode cX6_doStep 313 = .ok (.invokevirtual 148, 3) := by decide +kernel
theorem dX6_doStep_316 : decode cX6_doStep 316 = .ok (.iload 4, 2) := by decide +kernel
theorem dX6_doStep_318 : decode cX6_doStep 318 = .ok (.iconst 2, 1) := by decide +kernel
theorem dX6_doStep_319 : decode cX6_doStep 319 = .ok (.if_icmp .ne 24, 3) := by decide +kernel
theorem dX6_doStep_322 : decode cX6_doStep 322 = .ok (.aload_n 0, 1) := by decide +kernel
theorem dX6_doStep_323 : decode cX6_doStep 323 = .ok (.iload_n 1, 1) := by decide +kernel
theorem dX6_doStep_324 : decode cX6_doStep 324 = .ok (.iload 5, 2) := by decide +kernel
theorem dX6_doStep_326 : decode cX6_doStep 326 = .ok (.iconst (-1), 1) := by decide +kernel
theorem dX6_doStep_327 : decode cX6_doStep 327 = .ok (.aload_n 0, 1) := by decide +kernel
theorem dX6_doStep_328 : decode cX6_doStep 328 = .ok (.iload 6, 2) := by decide +kernel
theorem dX6_doStep_330 : decode cX6_doStep 330 = .ok (.invokevirtual 182, 3) := by decide +kernel
theorem dX6_doStep_333 : decode cX6_doStep 333 = .ok (.aload_n 0, 1) := by decide +kernel
theorem dX6_doStep_334 : decode cX6_doStep 334 = .ok (.iload 7, 2) := by decide +kernel
theorem dX6_doStep_336 : decode cX6_doStep 336 = .ok (.invokevirtual 182, 3) := by decide +kernel
theorem dX6_doStep_339 : decode cX6_doStep 339 = .ok (.isub, 1) := by decide +kernel
theorem dX6_doStep_340 : decode cX6_doStep 340 = .ok (.invokevirtual 148, 3) := by decide +kernel
theorem dX6_doStep_343 : decode cX6_doStep 343 = .ok (.iload 4, 2) := by decide +kernel
theorem dX6_doStep_345 : decode cX6_doStep 345 = .ok (.iconst 3, 1) := by decide +kernel
theorem dX6_doStep_346 : decode cX6_doStep 346 = .ok (.if_icmp .ne 24, 3) := by decide +kernel
theorem dX6_doStep_349 : decode cX6_doStep 349 = .ok (.aload_n 0, 1) := by decide +kernel
theorem dX6_doStep_350 : decode cX6_doStep 350 = .ok (.iload_n 1, 1) := by decide +kernel
theorem dX6_doStep_351 : decode cX6_doStep 351 = .ok (.iload 5, 2) := by decide +kernel
theorem dX6_doStep_353 : decode cX6_doStep 353 = .ok (.iconst (-1), 1) := by decide +kernel
theorem dX6_doStep_354 : decode cX6_doStep 354 = .ok (.aload_n 0, 1) := by decide +kernel
theorem dX6_doStep_355 : decode cX6_doStep 355 = .ok (.iload 6, 2) := by decide +kernel
theorem dX6_doStep_357 : decode cX6_doStep 357 = .ok (.invokevirtual 182, 3) := by decide +kernel
theorem dX6_doStep_360 : decode cX6_doStep 360 = .ok (.aload_n 0, 1) := by decide +kernel
theorem dX6_doStep_361 : decode cX6_doStep 361 = .ok (.iload 7, 2) := by decide +kernel
theorem dX6_doStep_363 : decode cX6_doStep 363 = .ok (.invokevirtual 182, 3) := by decide +kernel
theorem dX6_doStep_366 : decode cX6_doStep 366 = .ok (.imul, 1) := by decide +kernel
theorem dX6_doStep_367 : decode cX6_doStep 367 = .ok (.invokevirtual 148, 3) := by decide +kernel
theorem dX6_doStep_370 : decode cX6_doStep 370 = .ok (.aload_n 0, 1) := by decide +kernel
theorem dX6_doStep_371 : decode cX6_doStep 371 = .ok (.getfield 58, 3) := by decide +kernel
theorem dX6_doStep_374 : decode cX6_doStep 374 = .ok (.iload_n 1, 1) := by decide +kernel
theorem dX6_doStep_375 : decode cX6_doStep 375 = .ok (.dup2, 1) := by decide +kernel
theorem dX6_doStep_376 : decode cX6_doStep 376 = .ok (.iaload, 1) := by decide +kernel
theorem dX6_doStep_377 : decode cX6_doStep 377 = .ok (.iconst 1, 1) := by decide +kernel
theorem dX6_doStep_378 : decode cX6_doStep 378 = .ok (.iadd, 1) := by decide +kernel
theorem dX6_doStep_379 : decode cX6_doStep 379 = .ok (.iastore, 1) := by decide +kernel
theorem dX6_doStep_380 : decode cX6_doStep 380 = .ok (.return_, 1) := by decide +kernel
theorem dX6_run_0 : decode cX6_run 0 = .ok (.aload_n 0, 1) := by decide +kernel
theorem dX6_run_1 : decode cX6_run 1 = .ok (.iconst 0, 1) := by decide +kernel
theorem dX6_run_2 : decode cX6_run 2 = .ok (.putfield 73, 3) := by decide +kernel
theorem dX6_run_5 : decode cX6_run 5 = .ok (.aload_n 0, 1) := by decide +kernel
theorem dX6_run_6 : decode cX6_run 6 = .ok (.iload_n 1, 1) := by decide +kernel
theorem dX6_run_7 : decode cX6_run 7 = .ok (.invokevirtual 103, 3) := by decide +kernel
theorem dX6_run_10 : decode cX6_run 10 = .ok (.ifCond .ne 9, 3) := by decide +kernel
theorem dX6_run_13 : decode cX6_run 13 = .ok (.aload_n 0, 1) := by decide +kernel
theorem dX6_run_14 : decode cX6_run 14 = .ok (.iconst 1, 1) := by decide +kernel
theorem dX6_run_15 : decode cX6_run 15 = .ok (.invokevirtual 86, 3) := by decide +kernel
theorem dX6_run_18 : decode cX6_run 18 = .ok (.ireturn, 1) := by decide +kernel
theorem dX6_run_19 : decode cX6_run 19 = .ok (.iload_n 3, 1) := by decide +kernel
theorem dX6_run_20 : decode cX6_run 20 = .ok (.ifCond .lt 10, 3) := by decide +kernel
theorem dX6_run_23 : decode cX6_run 23 = .ok (.iload_n 3, 1) := by decide +kernel
theorem dX6_run_24 : decode cX6_run 24 = .ok (.sipush 2000, 3) := by decide +kernel
theorem dX6_run_27 : decode cX6_run 27 = .ok (.if_icmp .le 9, 3) := by decide +kernel
theorem dX6_run_30 : decode cX6_run 30 = .ok (.aload_n 0, 1) := by decide +kernel
theorem dX6_run_31 : decode cX6_run 31 = .ok (.iconst 2, 1) := by decide +kernel
theorem dX6_run_32 : decode cX6_run 32 = .ok (.invokevirtual 86, 3) := by decide +kernel
theorem dX6_run_35 : decode cX6_run 35 = .ok (.ireturn, 1) := by decide +kernel
theorem dX6_run_36 : decode cX6_run 36 = .ok (.aload_n 0, 1) := by decide +kernel
theorem dX6_run_37 : decode cX6_run 37 = .ok (.iconst (-1), 1) := by decide +kernel
theorem dX6_run_38 : decode cX6_run 38 = .ok (.putfield 70, 3) := by decide +kernel
theorem dX6_run_41 : decode cX6_run 41 = .ok (.aload_n 0, 1) := by decide +kernel
theorem dX6_run_42 : decode cX6_run 42 = .ok (.iconst 0, 1) := by decide +kernel
theorem dX6_run_43 : decode cX6_run 43 = .ok (.putfield 166, 3) := by decide +kernel
theorem dX6_run_46 : decode cX6_run 46 = .ok (.aload_n 0, 1) := by decide +kernel
theorem dX6_run_47 : decode cX6_run 47 = .ok (.iconst 0, 1) := by decide +kernel
theorem dX6_run_48 : decode cX6_run 48 = .ok (.putfield 176, 3) := by decide +kernel
theorem dX6_run_51 : decode cX6_run 51 = .ok (.aload_n 0, 1) := by decide +kernel
theorem dX6_run_52 : decode cX6_run 52 = .ok (.lconst 0, 1) := by decide +kernel
theorem dX6_run_53 : decode cX6_run 53 = .ok (.putfield 131, 3) := by decide +kernel
theorem dX6_run_56 : decode cX6_run 56 = .ok (.aload_n 0, 1) := by decide +kernel
theorem dX6_run_57 : decode cX6_run 57 = .ok (.iconst 0, 1) := by decide +kernel
theorem dX6_run_58 : decode cX6_run 58 = .ok (.putfield 189, 3) := by decide +kernel
theorem dX6_run_61 : decode cX6_run 61 = .ok (.aload_n 0, 1) := by decide +kernel
theorem dX6_run_62 : decode cX6_run 62 = .ok (.iconst 0, 1) := by decide +kernel
theorem dX6_run_63 : decode cX6_run 63 = .ok (.putfield 152, 3) := by decide +kernel
theorem dX6_run_66 : decode cX6_run 66 = .ok (.aload_n 0, 1) := by decide +kernel
theorem dX6_run_67 : decode cX6_run 67 = .ok (.iconst 0, 1) := by decide +kernel
theorem dX6_run_68 : decode cX6_run 68 = .ok (.putfield 145, 3) := by decide +kernel
theorem dX6_run_71 : decode cX6_run 71 = .ok (.aload_n 0, 1) := by decide +kernel
theorem dX6_run_72 : decode cX6_run 72 = .ok (.iload_n 1, 1) := by decide +kernel
theorem dX6_run_73 : decode cX6_run 73 = .ok (.iconst (-1), 1) := by decide +kernel
theorem dX6_run_74 : decode cX6_run 74 = .ok (.iload_n 2, 1) := by decide +kernel
theorem dX6_run_75 : decode cX6_run 75 = .ok (.invokevirtual 185, 3) := by decide +kernel
theorem dX6_run_78 : decode cX6_run 78 = .ok (.aload_n 0, 1) := by decide +kernel
theorem dX6_run_79 : decode cX6_run 79 = .ok (.getfield 145, 3) := by decide +kernel
theorem dX6_run_82 : decode cX6_run 82 = .ok (.ifCond .le 66, 3) := by decide +kernel
theorem dX6_run_85 : decode cX6_run 85 = .ok (.aload_n 0, 1) := by decide +kernel
theorem dX6_run_86 : decode cX6_run 86 = .ok (.getfield 176, 3) := by decide +kernel
theorem dX6_run_89 : decode cX6_run 89 = .ok (.ifCond .ne 59, 3) := by decide +kernel
theorem dX6_run_92 : decode cX6_run 92 = .ok (.aload_n 0, 1) := by decide +kernel
theorem dX6_run_93 : decode cX6_run 93 = .ok (.getfield 189, 3) := by decide +kernel
theorem dX6_run_96 : decode cX6_run 96 = .ok (.iload_n 3, 1) := by decide +kernel
theorem dX6_run_97 : decode cX6_run 97 = .ok (.if_icmp .ne 5, 3) := by decide +kernel
theorem dX6_run_100 : decode cX6_run 100 = .ok (.iconst 1, 1) := by decide +kernel
theorem dX6_run_101 : decode cX6_run 101 = .ok (.ireturn, 1) := by decide +kernel
theorem dX6_run_102 : decode cX6_run 102 = .ok (.aload_n 0, 1) := by decide +kernel
theorem dX6_run_103 : decode cX6_run 103 = .ok (.aload_n 0, 1) := by decide +kernel
theorem dX6_run_104 : decode cX6_run 104 = .ok (.getfield 55, 3) := by decide +kernel
theorem dX6_run_107 : decode cX6_run 107 = .ok (.aload_n 0, 1) := by decide +kernel
theorem dX6_run_108 : decode cX6_run 108 = .ok (.getfield 145, 3) := by decide +kernel
theorem dX6_run_111 : decode cX6_run 111 = .ok (.iconst 1, 1) := by decide +kernel
theorem dX6_run_112 : decode cX6_run 112 = .ok (.isub, 1) := by decide +kernel
theorem dX6_run_113 : decode cX6_run 113 = .ok (.iaload, 1) := by decide +kernel
theorem dX6_run_114 : decode cX6_run 114 = .ok (.aload_n 0, 1) := by decide +kernel
theorem dX6_run_115 : decode cX6_run 115 = .ok (.getfield 58, 3) := by decide +kernel
theorem dX6_run_118 : decode cX6_run 118 = .ok (.aload_n 0, 1) := by decide +kernel
theorem dX6_run_119 : decode cX6_run 119 = .ok (.getfield 145, 3) := by decide +kernel
theorem dX6_run_122 : decode cX6_run 122 = .ok (.iconst 1, 1) := by decide +kernel
theorem dX6_run_123 : decode cX6_run 123 = .ok (.isub, 1) := by decide +kernel
theorem dX6_run_124 : decode cX6_run 124 = .ok (.iaload, 1) := by decide +kernel
theorem dX6_run_125 : decode cX6_run 125 = .ok (.invokevirtual 124, 3) := by decide +kernel
theorem dX6_run_128 : decode cX6_run 128 = .ok (.iconst (-1), 1) := by decide +kernel
theorem dX6_run_129 : decode cX6_run 129 = .ok (.if_icmp .ne 12, 3) := by decide +kernel
theorem dX6_run_132 : decode cX6_run 132 = .ok (.aload_n 0, 1) := by decide +kernel
theorem dX6_run_133 : decode cX6_run 133 = .ok (.iconst (-1), 1) := by decide +kernel
theorem dX6_run_134 : decode cX6_run 134 = .ok (.iconst 0, 1) := by decide +kernel
theorem dX6_run_135 : decode cX6_run 135 = .ok (.invokevirtual 202, 3) := by decide +kernel
theorem dX6_run_138 : decode cX6_run 138 = .ok (.goto (-60), 3) := by decide +kernel
theorem dX6_run_141 : decode cX6_run 141 = .ok (.aload_n 0, 1) := by decide +kernel
theorem dX6_run_142 : decode cX6_run 142 = .ok (.invokevirtual 209, 3) := by decide +kernel
theorem dX6_run_145 : decode cX6_run 145 = .ok (.goto (-67), 3) := by decide +kernel
theorem dX6_run_148 : decode cX6_run 148 = .ok (.aload_n 0, 1) := by decide +kernel
theorem dX6_run_149 : decode cX6_run 149 = .ok (.getfield 176, 3) := by decide +kernel
theorem dX6_run_152 : decode cX6_run 152 = .ok (.ifCond .le 7, 3) := by decide +kernel
theorem dX6_run_155 : decode cX6_run 155 = .ok (.iconst 2, 1) := by decide +kernel
theorem dX6_run_156 : decode cX6_run 156 = .ok (.goto 4, 3) := by decide +kernel
theorem dX6_run_159 : decode cX6_run 159 = .ok (.iconst 0, 1) := by decide +kernel
theorem dX6_run_160 : decode cX6_run 160 = .ok (.ireturn, 1) := by decide +kernel
theorem dX6_result_0 : decode cX6_result 0 = .ok (.aload_n 0, 1) := by decide +kernel
theorem dX6_result_1 : decode cX6_result 1 = .ok (.iconst 0, 1) := by decide +kernel
theorem dX6_result_2 : decode cX6_result 2 = .ok (.putfield 73, 3) := by decide +kernel
theorem dX6_result_5 : decode cX6_result 5 = .ok (.aload_n 0, 1) := by decide +kernel
theorem dX6_result_6 : decode cX6_result 6 = .ok (.getfield 70, 3) := by decide +kernel
theorem dX6_result_9 : decode cX6_result 9 = .ok (.iconst (-1), 1) := by decide +kernel
theorem dX6_result_10 : decode cX6_result 10 = .ok (.if_icmp .ne 10, 3) := by decide +kernel
theorem dX6_result_13 : decode cX6_result 13 = .ok (.aload_n 0, 1) := by decide +kernel
theorem dX6_result_14 : decode cX6_result 14 = .ok (.getfield 166, 3) := by decide +kernel
theorem dX6_result_17 : decode cX6_result 17 = .ok (.goto 4, 3) := by decide +kernel
theorem dX6_result_20 : decode cX6_result 20 = .ok (.iconst 0, 1) := by decide +kernel
theorem dX6_result_21 : decode cX6_result 21 = .ok (.ireturn, 1) := by decide +kernel
theorem dX6_resultClass_0 : decode cX6_resultClass 0 = .ok (.aload_n 0, 1) := by decide +kernel
theorem dX6_resultClass_1 : decode cX6_resultClass 1 = .ok (.iconst 0, 1) := by decide +kernel
theorem dX6_resultClass_2 : decode cX6_resultClass 2 = .ok (.putfield 73, 3) := by decide +kernel
theorem dX6_resultClass_5 : decode cX6_resultClass 5 = .ok (.aload_n 0, 1) := by decide +kernel
theorem dX6_resultClass_6 : decode cX6_resultClass 6 = .ok (.getfield 70, 3) := by decide +kernel
theorem dX6_resultClass_9 : decode cX6_resultClass 9 = .ok (.ireturn, 1) := by decide +kernel
theorem dX6_error_0 : decode cX6_error 0 = .ok (.aload_n 0, 1) := by decide +kernel
theorem dX6_error_1 : decode cX6_error 1 = .ok (.iconst 0, 1) := by decide +kernel
theorem dX6_error_2 : decode cX6_error 2 = .ok (.putfield 73, 3) := by decide +kernel
theorem dX6_error_5 : decode cX6_error 5 = .ok (.aload_n 0, 1) := by decide +kernel
theorem dX6_error_6 : decode cX6_error 6 = .ok (.getfield 176, 3) := by decide +kernel
theorem dX6_error_9 : decode cX6_error 9 = .ok (.ireturn, 1) := by decide +kernel
theorem dX6_cost_0 : decode cX6_cost 0 = .ok (.aload_n 0, 1) := by decide +kernel
theorem dX6_cost_1 : decode cX6_cost 1 = .ok (.iconst 0, 1) := by decide +kernel
theorem dX6_cost_2 : decode cX6_cost 2 = .ok (.putfield 73, 3) := by decide +kernel
theorem dX6_cost_5 : decode cX6_cost 5 = .ok (.aload_n 0, 1) := by decide +kernel
theorem dX6_cost_6 : decode cX6_cost 6 = .ok (.getfield 131, 3) := by decide +kernel
theorem dX6_cost_9 : decode cX6_cost 9 = .ok (.lreturn, 1) := by decide +kernel
theorem dX6_steps_0 : decode cX6_steps 0 = .ok (.aload_n 0, 1) := by decide +kernel
theorem dX6_steps_1 : decode cX6_steps 1 = .ok (.iconst 0, 1) := by decide +kernel
theorem dX6_steps_2 : decode cX6_steps 2 = .ok (.putfield 73, 3) := by decide +kernel
theorem dX6_steps_5 : decode cX6_steps 5 = .ok (.aload_n 0, 1) := by decide +kernel
theorem dX6_steps_6 : decode cX6_steps 6 = .ok (.getfield 189, 3) := by decide +kernel
theorem dX6_steps_9 : decode cX6_steps 9 = .ok (.ireturn, 1) := by decide +kernel
theorem dX6_depth_0 : decode cX6_depth 0 = .ok (.aload_n 0, 1) := by decide +kernel
theorem dX6_depth_1 : decode cX6_depth 1 = .ok (.iconst 0, 1) := by decide +kernel
theorem dX6_depth_2 : decode cX6_depth 2 = .ok (.putfield 73, 3) := by decide +kernel
theorem dX6_depth_5 : decode cX6_depth 5 = .ok (.aload_n 0, 1) := by decide +kernel
theorem dX6_depth_6 : decode cX6_depth 6 = .ok (.getfield 152, 3) := by decide +kernel
theorem dX6_depth_9 : decode cX6_depth 9 = .ok (.ireturn, 1) := by decide +kernel
theorem dX6_total_0 : decode cX6_total 0 = .ok (.aload_n 0, 1) := by decide +kernel
theorem dX6_total_1 : decode cX6_total 1 = .ok (.iconst 0, 1) := by decide +kernel
theorem dX6_total_2 : decode cX6_total 2 = .ok (.putfield 73, 3) := by decide +kernel
theorem dX6_total_5 : decode cX6_total 5 = .ok (.iload_n 1, 1) := by decide +kernel
theorem dX6_total_6 : decode cX6_total 6 = .ok (.ifCond .lt 17, 3) := by decide +kernel
theorem dX6_total_9 : decode cX6_total 9 = .ok (.iload_n 1, 1) := by decide +kernel
theorem dX6_total_10 : decode cX6_total 10 = .ok (.iconst 3, 1) := by decide +kernel
theorem dX6_total_11 : decode cX6_total 11 = .ok (.if_icmp .gt 12, 3) := by decide +kernel
theorem dX6_total_14 : decode cX6_total 14 = .ok (.aload_n 0, 1) := by decide +kernel
theorem dX6_total_15 : decode cX6_total 15 = .ok (.getfield 51, 3) := by decide +kernel
theorem dX6_total_18 : decode cX6_total 18 = .ok (.iload_n 1, 1) := by decide +kernel
theorem dX6_total_19 : decode cX6_total 19 = .ok (.laload, 1) := by decide +kernel
theorem dX6_total_20 : decode cX6_total 20 = .ok (.goto 9, 3) := by decide +kernel
theorem dX6_total_23 : decode cX6_total 23 = .ok (.aload_n 0, 1) := by decide +kernel
theorem dX6_total_24 : decode cX6_total 24 = .ok (.iconst 1, 1) := by decide +kernel
theorem dX6_total_25 : decode cX6_total 25 = .ok (.invokevirtual 86, 3) := by decide +kernel
theorem dX6_total_28 : decode cX6_total 28 = .ok (.i2l, 1) := by decide +kernel
theorem dX6_total_29 : decode cX6_total 29 = .ok (.lreturn, 1) := by decide +kernel
theorem dX6_tier_0 : decode cX6_tier 0 = .ok (.aload_n 0, 1) := by decide +kernel
theorem dX6_tier_1 : decode cX6_tier 1 = .ok (.iconst 0, 1) := by decide +kernel
theorem dX6_tier_2 : decode cX6_tier 2 = .ok (.putfield 73, 3) := by decide +kernel
theorem dX6_tier_5 : decode cX6_tier 5 = .ok (.aload_n 0, 1) := by decide +kernel
theorem dX6_tier_6 : decode cX6_tier 6 = .ok (.iload_n 1, 1) := by decide +kernel
theorem dX6_tier_7 : decode cX6_tier 7 = .ok (.invokevirtual 103, 3) := by decide +kernel
theorem dX6_tier_10 : decode cX6_tier 10 = .ok (.ifCond .eq 12, 3) := by decide +kernel
theorem dX6_tier_13 : decode cX6_tier 13 = .ok (.aload_n 0, 1) := by decide +kernel
theorem dX6_tier_14 : decode cX6_tier 14 = .ok (.getfield 32, 3) := by decide +kernel
theorem dX6_tier_17 : decode cX6_tier 17 = .ok (.iload_n 1, 1) := by decide +kernel
theorem dX6_tier_18 : decode cX6_tier 18 = .ok (.iaload, 1) := by decide +kernel
theorem dX6_tier_19 : decode cX6_tier 19 = .ok (.goto 8, 3) := by decide +kernel
theorem dX6_tier_22 : decode cX6_tier 22 = .ok (.aload_n 0, 1) := by decide +kernel
theorem dX6_tier_23 : decode cX6_tier 23 = .ok (.iconst 1, 1) := by decide +kernel
theorem dX6_tier_24 : decode cX6_tier 24 = .ok (.invokevirtual 86, 3) := by decide +kernel
theorem dX6_tier_27 : decode cX6_tier 27 = .ok (.ireturn, 1) := by decide +kernel
theorem dX6_heat_0 : decode cX6_heat 0 = .ok (.aload_n 0, 1) := by decide +kernel
theorem dX6_heat_1 : decode cX6_heat 1 = .ok (.iconst 0, 1) := by decide +kernel
theorem dX6_heat_2 : decode cX6_heat 2 = .ok (.putfield 73, 3) := by decide +kernel
theorem dX6_heat_5 : decode cX6_heat 5 = .ok (.aload_n 0, 1) := by decide +kernel
theorem dX6_heat_6 : decode cX6_heat 6 = .ok (.iload_n 1, 1) := by decide +kernel
theorem dX6_heat_7 : decode cX6_heat 7 = .ok (.invokevirtual 103, 3) := by decide +kernel
theorem dX6_heat_10 : decode cX6_heat 10 = .ok (.ifCond .eq 12, 3) := by decide +kernel
theorem dX6_heat_13 : decode cX6_heat 13 = .ok (.aload_n 0, 1) := by decide +kernel
theorem dX6_heat_14 : decode cX6_heat 14 = .ok (.getfield 35, 3) := by decide +kernel
theorem dX6_heat_17 : decode cX6_heat 17 = .ok (.iload_n 1, 1) := by decide +kernel
theorem dX6_heat_18 : decode cX6_heat 18 = .ok (.iaload, 1) := by decide +kernel
theorem dX6_heat_19 : decode cX6_heat 19 = .ok (.goto 8, 3) := by decide +kernel
theorem dX6_heat_22 : decode cX6_heat 22 = .ok (.aload_n 0, 1) := by decide +kernel
theorem dX6_heat_23 : decode cX6_heat 23 = .ok (.iconst 1, 1) := by decide +kernel
theorem dX6_heat_24 : decode cX6_heat 24 = .ok (.invokevirtual 86, 3) := by decide +kernel
theorem dX6_heat_27 : decode cX6_heat 27 = .ok (.ireturn, 1) := by decide +kernel
theorem dX6_disappointments_0 : decode cX6_disappointments 0 = .ok (.aload_n 0, 1) := by decide +kernel
theorem dX6_disappointments_1 : decode cX6_disappointments 1 = .ok (.iconst 0, 1) := by decide +kernel
theorem dX6_disappointments_2 : decode cX6_disappointments 2 = .ok (.putfield 73, 3) := by decide +kernel
theorem dX6_disappointments_5 : decode cX6_disappointments 5 = .ok (.aload_n 0, 1) := by decide +kernel
theorem dX6_disappointments_6 : decode cX6_disappointments 6 = .ok (.iload_n 1, 1) := by decide +kernel
theorem dX6_disappointments_7 : decode cX6_disappointments 7 = .ok (.invokevirtual 103, 3) := by decide +kernel
theorem dX6_disappointments_10 : decode cX6_disappointments 10 = .ok (.ifCond .eq 12, 3) := by decide +kernel
theorem dX6_disappointments_13 : decode cX6_disappointments 13 = .ok (.aload_n 0, 1) := by decide +kernel
theorem dX6_disappointments_14 : decode cX6_disappointments 14 = .ok (.getfield 38, 3) := by decide +kernel
theorem dX6_disappointments_17 : decode cX6_disappointments 17 = .ok (.iload_n 1, 1) := by decide +kernel
theorem dX6_disappointments_18 : decode cX6_disappointments 18 = .ok (.iaload, 1) := by decide +kernel
theorem dX6_disappointments_19 : decode cX6_disappointments 19 = .ok (.goto 8, 3) := by decide +kernel
theorem dX6_disappointments_22 : decode cX6_disappointments 22 = .ok (.aload_n 0, 1) := by decide +kernel
theorem dX6_disappointments_23 : decode cX6_disappointments 23 = .ok (.iconst 1, 1) := by decide +kernel
theorem dX6_disappointments_24 : decode cX6_disappointments 24 = .ok (.invokevirtual 86, 3) := by decide +kernel
theorem dX6_disappointments_27 : decode cX6_disappointments 27 = .ok (.ireturn, 1) := by decide +kernel
theorem dX6_isSend_0 : decode cX6_isSend 0 = .ok (.aload_n 0, 1) := by decide +kernel
theorem dX6_isSend_1 : decode cX6_isSend 1 = .ok (.iload_n 1, 1) := by decide +kernel
theorem dX6_isSend_2 : decode cX6_isSend 2 = .ok (.invokevirtual 103, 3) := by decide +kernel
theorem dX6_isSend_5 : decode cX6_isSend 5 = .ok (.ifCond .eq 31, 3) := by decide +kernel
theorem dX6_isSend_8 : decode cX6_isSend 8 = .ok (.iload_n 2, 1) := by decide +kernel
theorem dX6_isSend_9 : decode cX6_isSend 9 = .ok (.ifCond .lt 27, 3) := by decide +kernel
theorem dX6_isSend_12 : decode cX6_isSend 12 = .ok (.iload_n 2, 1) := by decide +kernel
theorem dX6_isSend_13 : decode cX6_isSend 13 = .ok (.aload_n 0, 1) := by decide +kernel
theorem dX6_isSend_14 : decode cX6_isSend 14 = .ok (.getfield 16, 3) := by decide +kernel
theorem dX6_isSend_17 : decode cX6_isSend 17 = .ok (.iload_n 1, 1) := by decide +kernel
theorem dX6_isSend_18 : decode cX6_isSend 18 = .ok (.iaload, 1) := by decide +kernel
theorem dX6_isSend_19 : decode cX6_isSend 19 = .ok (.if_icmp .ge 17, 3) := by decide +kernel
theorem dX6_isSend_22 : decode cX6_isSend 22 = .ok (.aload_n 0, 1) := by decide +kernel
theorem dX6_isSend_23 : decode cX6_isSend 23 = .ok (.iload_n 1, 1) := by decide +kernel
theorem dX6_isSend_24 : decode cX6_isSend 24 = .ok (.iload_n 2, 1) := by decide +kernel
theorem dX6_isSend_25 : decode cX6_isSend 25 = .ok (.invokevirtual 124, 3) := by decide +kernel
theorem dX6_isSend_28 : decode cX6_isSend 28 = .ok (.iconst 5, 1) := by decide +kernel
theorem dX6_isSend_29 : decode cX6_isSend 29 = .ok (.if_icmp .ne 7, 3) := by decide +kernel
theorem dX6_isSend_32 : decode cX6_isSend 32 = .ok (.iconst 1, 1) := by decide +kernel
theorem dX6_isSend_33 : decode cX6_isSend 33 = .ok (.goto 4, 3) := by decide +kernel
theorem dX6_isSend_36 : decode cX6_isSend 36 = .ok (.iconst 0, 1) := by decide +kernel
theorem dX6_isSend_37 : decode cX6_isSend 37 = .ok (.ireturn, 1) := by decide +kernel
theorem dX6_metAt_0 : decode cX6_metAt 0 = .ok (.bipush 20, 2) := by decide +kernel
theorem dX6_metAt_2 : decode cX6_metAt 2 = .ok (.iload_n 1, 1) := by decide +kernel
theorem dX6_metAt_3 : decode cX6_metAt 3 = .ok (.imul, 1) := by decide +kernel
theorem dX6_metAt_4 : decode cX6_metAt 4 = .ok (.iload_n 2, 1) := by decide +kernel
theorem dX6_metAt_5 : decode cX6_metAt 5 = .ok (.iadd, 1) := by decide +kernel
theorem dX6_metAt_6 : decode cX6_metAt 6 = .ok (.istore_n 3, 1) := by decide +kernel
theorem dX6_metAt_7 : decode cX6_metAt 7 = .ok (.aload_n 0, 1) := by decide +kernel
theorem dX6_metAt_8 : decode cX6_metAt 8 = .ok (.getfield 47, 3) := by decide +kernel
theorem dX6_metAt_11 : decode cX6_metAt 11 = .ok (.iload_n 3, 1) := by decide +kernel
theorem dX6_metAt_12 : decode cX6_metAt 12 = .ok (.baload, 1) := by decide +kernel
theorem dX6_metAt_13 : decode cX6_metAt 13 = .ok (.ifCond .eq 7, 3) := by decide +kernel
theorem dX6_metAt_16 : decode cX6_metAt 16 = .ok (.iconst 4, 1) := by decide +kernel
theorem dX6_metAt_17 : decode cX6_metAt 17 = .ok (.goto 9, 3) := by decide +kernel
theorem dX6_metAt_20 : decode cX6_metAt 20 = .ok (.aload_n 0, 1) := by decide +kernel
theorem dX6_metAt_21 : decode cX6_metAt 21 = .ok (.getfield 41, 3) := by decide +kernel
theorem dX6_metAt_24 : decode cX6_metAt 24 = .ok (.iload_n 3, 1) := by decide +kernel
theorem dX6_metAt_25 : decode cX6_metAt 25 = .ok (.iaload, 1) := by decide +kernel
theorem dX6_metAt_26 : decode cX6_metAt 26 = .ok (.ireturn, 1) := by decide +kernel
theorem dX6_met_0 : decode cX6_met 0 = .ok (.aload_n 0, 1) := by decide +kernel
theorem dX6_met_1 : decode cX6_met 1 = .ok (.iconst 0, 1) := by decide +kernel
theorem dX6_met_2 : decode cX6_met 2 = .ok (.putfield 73, 3) := by decide +kernel
theorem dX6_met_5 : decode cX6_met 5 = .ok (.aload_n 0, 1) := by decide +kernel
theorem dX6_met_6 : decode cX6_met 6 = .ok (.iload_n 1, 1) := by decide +kernel
theorem dX6_met_7 : decode cX6_met 7 = .ok (.iload_n 2, 1) := by decide +kernel
theorem dX6_met_8 : decode cX6_met 8 = .ok (.invokevirtual 212, 3) := by decide +kernel
theorem dX6_met_11 : decode cX6_met 11 = .ok (.ifCond .eq 12, 3) := by decide +kernel
theorem dX6_met_14 : decode cX6_met 14 = .ok (.aload_n 0, 1) := by decide +kernel
theorem dX6_met_15 : decode cX6_met 15 = .ok (.iload_n 1, 1) := by decide +kernel
theorem dX6_met_16 : decode cX6_met 16 = .ok (.iload_n 2, 1) := by decide +kernel
theorem dX6_met_17 : decode cX6_met 17 = .ok (.invokevirtual 215, 3) := by decide +kernel
theorem dX6_met_20 : decode cX6_met 20 = .ok (.goto 8, 3) := by decide +kernel
theorem dX6_met_23 : decode cX6_met 23 = .ok (.aload_n 0, 1) := by decide +kernel
theorem dX6_met_24 : decode cX6_met 24 = .ok (.iconst 1, 1) := by decide +kernel
theorem dX6_met_25 : decode cX6_met 25 = .ok (.invokevirtual 86, 3) := by decide +kernel
theorem dX6_met_28 : decode cX6_met 28 = .ok (.ireturn, 1) := by decide +kernel
theorem dX6_metClass_0 : decode cX6_metClass 0 = .ok (.aload_n 0, 1) := by decide +kernel
theorem dX6_metClass_1 : decode cX6_metClass 1 = .ok (.iconst 0, 1) := by decide +kernel
theorem dX6_metClass_2 : decode cX6_metClass 2 = .ok (.putfield 73, 3) := by decide +kernel
theorem dX6_metClass_5 : decode cX6_metClass 5 = .ok (.aload_n 0, 1) := by decide +kernel
theorem dX6_metClass_6 : decode cX6_metClass 6 = .ok (.iload_n 1, 1) := by decide +kernel
theorem dX6_metClass_7 : decode cX6_metClass 7 = .ok (.iload_n 2, 1) := by decide +kernel
theorem dX6_metClass_8 : decode cX6_metClass 8 = .ok (.invokevirtual 212, 3) := by decide +kernel
theorem dX6_metClass_11 : decode cX6_metClass 11 = .ok (.ifCond .eq 22, 3) := by decide +kernel
theorem dX6_metClass_14 : decode cX6_metClass 14 = .ok (.iload_n 3, 1) := by decide +kernel
theorem dX6_metClass_15 : decode cX6_metClass 15 = .ok (.ifCond .lt 18, 3) := by decide +kernel
theorem dX6_metClass_18 : decode cX6_metClass 18 = .ok (.iload_n 3, 1) := by decide +kernel
theorem dX6_metClass_19 : decode cX6_metClass 19 = .ok (.aload_n 0, 1) := by decide +kernel
theorem dX6_metClass_20 : decode cX6_metClass 20 = .ok (.getfield 41, 3) := by decide +kernel
theorem dX6_metClass_23 : decode cX6_metClass 23 = .ok (.bipush 20, 2) := by decide +kernel
theorem dX6_metClass_25 : decode cX6_metClass 25 = .ok (.iload_n 1, 1) := by decide +kernel
theorem dX6_metClass_26 : decode cX6_metClass 26 = .ok (.imul, 1) := by decide +kernel
theorem dX6_metClass_27 : decode cX6_metClass 27 = .ok (.iload_n 2, 1) := by decide +kernel
theorem dX6_metClass_28 : decode cX6_metClass 28 = .ok (.iadd, 1) := by decide +kernel
theorem dX6_metClass_29 : decode cX6_metClass 29 = .ok (.iaload, 1) := by decide +kernel
theorem dX6_metClass_30 : decode cX6_metClass 30 = .ok (.if_icmp .lt 9, 3) := by decide +kernel
theorem dX6_metClass_33 : decode cX6_metClass 33 = .ok (.aload_n 0, 1) := by decide +kernel
theorem dX6_metClass_34 : decode cX6_metClass 34 = .ok (.iconst 1, 1) := by decide +kernel
theorem dX6_metClass_35 : decode cX6_metClass 35 = .ok (.invokevirtual 86, 3) := by decide +kernel
theorem dX6_metClass_38 : decode cX6_metClass 38 = .ok (.ireturn, 1) := by decide +kernel
theorem dX6_metClass_39 : decode cX6_metClass 39 = .ok (.aload_n 0, 1) := by decide +kernel
theorem dX6_metClass_40 : decode cX6_metClass 40 = .ok (.getfield 44, 3) := by decide +kernel
theorem dX6_metClass_43 : decode cX6_metClass 43 = .ok (.iconst 3, 1) := by decide +kernel
theorem dX6_metClass_44 : decode cX6_metClass 44 = .ok (.bipush 20, 2) := by decide +kernel
theorem dX6_metClass_46 : decode cX6_metClass 46 = .ok (.iload_n 1, 1) := by decide +kernel
theorem dX6_metClass_47 : decode cX6_metClass 47 = .ok (.imul, 1) := by decide +kernel
theorem dX6_metClass_48 : decode cX6_metClass 48 = .ok (.iload_n 2, 1) := by decide +kernel
theorem dX6_metClass_49 : decode cX6_metClass 49 = .ok (.iadd, 1) := by decide +kernel
theorem dX6_metClass_50 : decode cX6_metClass 50 = .ok (.imul, 1) := by decide +kernel
theorem dX6_metClass_51 : decode cX6_metClass 51 = .ok (.iload_n 3, 1) := by decide +kernel
theorem dX6_metClass_52 : decode cX6_metClass 52 = .ok (.iadd, 1) := by decide +kernel
theorem dX6_metClass_53 : decode cX6_metClass 53 = .ok (.iaload, 1) := by decide +kernel
theorem dX6_metClass_54 : decode cX6_metClass 54 = .ok (.ireturn, 1) := by decide +kernel
theorem dX6_digest_0 : decode cX6_digest 0 = .ok (.aload_n 0, 1) := by decide +kernel
theorem dX6_digest_1 : decode cX6_digest 1 = .ok (.iconst 0, 1) := by decide +kernel
theorem dX6_digest_2 : decode cX6_digest 2 = .ok (.putfield 73, 3) := by decide +kernel
theorem dX6_digest_5 : decode cX6_digest 5 = .ok (.ldc2_w 218, 3) := by decide +kernel
theorem dX6_digest_8 : decode cX6_digest 8 = .ok (.aload_n 0, 1) := by decide +kernel
theorem dX6_digest_9 : decode cX6_digest 9 = .ok (.getfield 76, 3) := by decide +kernel
theorem dX6_digest_12 : decode cX6_digest 12 = .ok (.i2l, 1) := by decide +kernel
theorem dX6_digest_13 : decode cX6_digest 13 = .ok (.ladd, 1) := by decide +kernel
theorem dX6_digest_14 : decode cX6_digest 14 = .ok (.ldc2_w 220, 3) := by decide +kernel
theorem dX6_digest_17 : decode cX6_digest 17 = .ok (.lmul, 1) := by decide +kernel
theorem dX6_digest_18 : decode cX6_digest 18 = .ok (.aload_n 0, 1) := by decide +kernel
theorem dX6_digest_19 : decode cX6_digest 19 = .ok (.getfield 79, 3) := by decide +kernel
theorem dX6_digest_22 : decode cX6_digest 22 = .ok (.i2l, 1) := by decide +kernel
theorem dX6_digest_23 : decode cX6_digest 23 = .ok (.ladd, 1) := by decide +kernel
theorem dX6_digest_24 : decode cX6_digest 24 = .ok (.lstore_n 1, 1) := by decide +kernel
theorem dX6_digest_25 : decode cX6_digest 25 = .ok (.iconst 0, 1) := by decide +kernel
theorem dX6_digest_26 : decode cX6_digest 26 = .ok (.istore_n 3, 1) := by decide +kernel
theorem dX6_digest_27 : decode cX6_digest 27 = .ok (.iload_n 3, 1) := by decide +kernel
theorem dX6_digest_28 : decode cX6_digest 28 = .ok (.aload_n 0, 1) := by decide +kernel
theorem dX6_digest_29 : decode cX6_digest 29 = .ok (.getfield 79, 3) := by decide +kernel
theorem dX6_digest_32 : decode cX6_digest 32 = .ok (.if_icmp .ge 105, 3) := by decide +kernel
theorem dX6_digest_35 : decode cX6_digest 35 = .ok (.lload_n 1, 1) := by decide +kernel
theorem dX6_digest_36 : decode cX6_digest 36 = .ok (.ldc2_w 220, 3) := by decide +kernel
theorem dX6_digest_39 : decode cX6_digest 39 = .ok (.lmul, 1) := by decide +kernel
theorem dX6_digest_40 : decode cX6_digest 40 = .ok (.aload_n 0, 1) := by decide +kernel
theorem dX6_digest_41 : decode cX6_digest 41 = .ok (.getfield 16, 3) := by decide +kernel
theorem dX6_digest_44 : decode cX6_digest 44 = .ok (.iload_n 3, 1) := by decide +kernel
theorem dX6_digest_45 : decode cX6_digest 45 = .ok (.iaload, 1) := by decide +kernel
theorem dX6_digest_46 : decode cX6_digest 46 = .ok (.i2l, 1) := by decide +kernel
theorem dX6_digest_47 : decode cX6_digest 47 = .ok (.ladd, 1) := by decide +kernel
theorem dX6_digest_48 : decode cX6_digest 48 = .ok (.ldc2_w 220, 3) := by decide +kernel
theorem dX6_digest_51 : decode cX6_digest 51 = .ok (.lmul, 1) := by decide +kernel
theorem dX6_digest_52 : decode cX6_digest 52 = .ok (.aload_n 0, 1) := by decide +kernel
theorem dX6_digest_53 : decode cX6_digest 53 = .ok (.getfield 32, 3) := by decide +kernel
theorem dX6_digest_56 : decode cX6_digest 56 = .ok (.iload_n 3, 1) := by decide +kernel
theorem dX6_digest_57 : decode cX6_digest 57 = .ok (.iaload, 1) := by decide +kernel
theorem dX6_digest_58 : decode cX6_digest 58 = .ok (.i2l, 1) := by decide +kernel
theorem dX6_digest_59 : decode cX6_digest 59 = .ok (.ladd, 1) := by decide +kernel
theorem dX6_digest_60 : decode cX6_digest 60 = .ok (.ldc2_w 220, 3) := by decide +kernel
theorem dX6_digest_63 : decode cX6_digest 63 = .ok (.lmul, 1) := by decide +kernel
theorem dX6_digest_64 : decode cX6_digest 64 = .ok (.aload_n 0, 1) := by decide +kernel
theorem dX6_digest_65 : decode cX6_digest 65 = .ok (.getfield 35, 3) := by decide +kernel
theorem dX6_digest_68 : decode cX6_digest 68 = .ok (.iload_n 3, 1) := by decide +kernel
theorem dX6_digest_69 : decode cX6_digest 69 = .ok (.iaload, 1) := by decide +kernel
theorem dX6_digest_70 : decode cX6_digest 70 = .ok (.i2l, 1) := by decide +kernel
theorem dX6_digest_71 : decode cX6_digest 71 = .ok (.ladd, 1) := by decide +kernel
theorem dX6_digest_72 : decode cX6_digest 72 = .ok (.ldc2_w 220, 3) := by decide +kernel
theorem dX6_digest_75 : decode cX6_digest 75 = .ok (.lmul, 1) := by decide +kernel
theorem dX6_digest_76 : decode cX6_digest 76 = .ok (.aload_n 0, 1) := by decide +kernel
theorem dX6_digest_77 : decode cX6_digest 77 = .ok (.getfield 38, 3) := by decide +kernel
theorem dX6_digest_80 : decode cX6_digest 80 = .ok (.iload_n 3, 1) := by decide +kernel
theorem dX6_digest_81 : decode cX6_digest 81 = .ok (.iaload, 1) := by decide +kernel
theorem dX6_digest_82 : decode cX6_digest 82 = .ok (.i2l, 1) := by decide +kernel
theorem dX6_digest_83 : decode cX6_digest 83 = .ok (.ladd, 1) := by decide +kernel
theorem dX6_digest_84 : decode cX6_digest 84 = .ok (.lstore_n 1, 1) := by decide +kernel
theorem dX6_digest_85 : decode cX6_digest 85 = .ok (.iconst 0, 1) := by decide +kernel
theorem dX6_digest_86 : decode cX6_digest 86 = .ok (.istore 4, 2) := by decide +kernel
theorem dX6_digest_88 : decode cX6_digest 88 = .ok (.iload 4, 2) := by decide +kernel
theorem dX6_digest_90 : decode cX6_digest 90 = .ok (.aload_n 0, 1) := by decide +kernel
theorem dX6_digest_91 : decode cX6_digest 91 = .ok (.getfield 16, 3) := by decide +kernel
theorem dX6_digest_94 : decode cX6_digest 94 = .ok (.iload_n 3, 1) := by decide +kernel
theorem dX6_digest_95 : decode cX6_digest 95 = .ok (.iaload, 1) := by decide +kernel
theorem dX6_digest_96 : decode cX6_digest 96 = .ok (.if_icmp .ge 35, 3) := by decide +kernel
theorem dX6_digest_99 : decode cX6_digest 99 = .ok (.aload_n 0, 1) := by decide +kernel
theorem dX6_digest_100 : decode cX6_digest 100 = .ok (.iload_n 3, 1) := by decide +kernel
theorem dX6_digest_101 : decode cX6_digest 101 = .ok (.iload 4, 2) := by decide +kernel
theorem dX6_digest_103 : decode cX6_digest 103 = .ok (.invokevirtual 124, 3) := by decide +kernel
theorem dX6_digest_106 : decode cX6_digest 106 = .ok (.iconst 5, 1) := by decide +kernel
theorem dX6_digest_107 : decode cX6_digest 107 = .ok (.if_icmp .ne 18, 3) := by decide +kernel
theorem dX6_digest_110 : decode cX6_digest 110 = .ok (.lload_n 1, 1) := by decide +kernel
theorem dX6_digest_111 : decode cX6_digest 111 = .ok (.ldc2_w 220, 3) := by decide +kernel
theorem dX6_digest_114 : decode cX6_digest 114 = .ok (.lmul, 1) := by decide +kernel
theorem dX6_digest_115 : decode cX6_digest 115 = .ok (.aload_n 0, 1) := by decide +kernel
theorem dX6_digest_116 : decode cX6_digest 116 = .ok (.iload_n 3, 1) := by decide +kernel
theorem dX6_digest_117 : decode cX6_digest 117 = .ok (.iload 4, 2) := by decide +kernel
theorem dX6_digest_119 : decode cX6_digest 119 = .ok (.invokevirtual 215, 3) := by decide +kernel
theorem dX6_digest_122 : decode cX6_digest 122 = .ok (.i2l, 1) := by decide +kernel
theorem dX6_digest_123 : decode cX6_digest 123 = .ok (.ladd, 1) := by decide +kernel
theorem dX6_digest_124 : decode cX6_digest 124 = .ok (.lstore_n 1, 1) := by decide +kernel
theorem dX6_digest_125 : decode cX6_digest 125 = .ok (.iinc 4 1, 3) := by decide +kernel
theorem dX6_digest_128 : decode cX6_digest 128 = .ok (.goto (-40), 3) := by decide +kernel
theorem dX6_digest_131 : decode cX6_digest 131 = .ok (.iinc 3 1, 3) := by decide +kernel
theorem dX6_digest_134 : decode cX6_digest 134 = .ok (.goto (-107), 3) := by decide +kernel
theorem dX6_digest_137 : decode cX6_digest 137 = .ok (.lload_n 1, 1) := by decide +kernel
theorem dX6_digest_138 : decode cX6_digest 138 = .ok (.ldc2_w 220, 3) := by decide +kernel
theorem dX6_digest_141 : decode cX6_digest 141 = .ok (.lmul, 1) := by decide +kernel
theorem dX6_digest_142 : decode cX6_digest 142 = .ok (.aload_n 0, 1) := by decide +kernel
theorem dX6_digest_143 : decode cX6_digest 143 = .ok (.getfield 131, 3) := by decide +kernel
theorem dX6_digest_146 : decode cX6_digest 146 = .ok (.ladd, 1) := by decide +kernel
theorem dX6_digest_147 : decode cX6_digest 147 = .ok (.ldc2_w 220, 3) := by decide +kernel
theorem dX6_digest_150 : decode cX6_digest 150 = .ok (.lmul, 1) := by decide +kernel
theorem dX6_digest_151 : decode cX6_digest 151 = .ok (.aload_n 0, 1) := by decide +kernel
theorem dX6_digest_152 : decode cX6_digest 152 = .ok (.getfield 189, 3) := by decide +kernel
theorem dX6_digest_155 : decode cX6_digest 155 = .ok (.i2l, 1) := by decide +kernel
theorem dX6_digest_156 : decode cX6_digest 156 = .ok (.ladd, 1) := by decide +kernel
theorem dX6_digest_157 : decode cX6_digest 157 = .ok (.ldc2_w 220, 3) := by decide +kernel
theorem dX6_digest_160 : decode cX6_digest 160 = .ok (.lmul, 1) := by decide +kernel
theorem dX6_digest_161 : decode cX6_digest 161 = .ok (.aload_n 0, 1) := by decide +kernel
theorem dX6_digest_162 : decode cX6_digest 162 = .ok (.getfield 176, 3) := by decide +kernel
theorem dX6_digest_165 : decode cX6_digest 165 = .ok (.i2l, 1) := by decide +kernel
theorem dX6_digest_166 : decode cX6_digest 166 = .ok (.ladd, 1) := by decide +kernel
theorem dX6_digest_167 : decode cX6_digest 167 = .ok (.lreturn, 1) := by decide +kernel
theorem dJ9_max_7cf53_0 : decode cJ9_max_7cf53 0 = .ok (.iload_n 0, 1) := by decide +kernel
theorem dJ9_max_7cf53_1 : decode cJ9_max_7cf53 1 = .ok (.iload_n 1, 1) := by decide +kernel
theorem dJ9_max_7cf53_2 : decode cJ9_max_7cf53 2 = .ok (.if_icmp .lt 7, 3) := by decide +kernel
theorem dJ9_max_7cf53_5 : decode cJ9_max_7cf53 5 = .ok (.iload_n 0, 1) := by decide +kernel
theorem dJ9_max_7cf53_6 : decode cJ9_max_7cf53 6 = .ok (.goto 4, 3) := by decide +kernel
theorem dJ9_max_7cf53_9 : decode cJ9_max_7cf53 9 = .ok (.iload_n 1, 1) := by decide +kernel
theorem dJ9_max_7cf53_10 : decode cJ9_max_7cf53 10 = .ok (.ireturn, 1) := by decide +kernel
theorem dJ9_min_7cf53_0 : decode cJ9_min_7cf53 0 = .ok (.iload_n 0, 1) := by decide +kernel
theorem dJ9_min_7cf53_1 : decode cJ9_min_7cf53 1 = .ok (.iload_n 1, 1) := by decide +kernel
theorem dJ9_min_7cf53_2 : decode cJ9_min_7cf53 2 = .ok (.if_icmp .gt 7, 3) := by decide +kernel
theorem dJ9_min_7cf53_5 : decode cJ9_min_7cf53 5 = .ok (.iload_n 0, 1) := by decide +kernel
theorem dJ9_min_7cf53_6 : decode cJ9_min_7cf53 6 = .ok (.goto 4, 3) := by decide +kernel
theorem dJ9_min_7cf53_9 : decode cJ9_min_7cf53 9 = .ok (.iload_n 1, 1) := by decide +kernel
theorem dJ9_min_7cf53_10 : decode cJ9_min_7cf53 10 = .ok (.ireturn, 1) := by decide +kernel
theorem dJxa1e45_init_da8c8_0 : decode cJxa1e45_init_da8c8 0 = .ok (.aload_n 0, 1) := by decide +kernel
theorem dJxa1e45_init_da8c8_1 : decode cJxa1e45_init_da8c8 1 = .ok (.invokespecial 1, 3) := by decide +kernel
theorem dJxa1e45_init_da8c8_4 : decode cJxa1e45_init_da8c8 4 = .ok (.return_, 1) := by decide +kernel
theorem dJxc12de_init_da8c8_0 : decode cJxc12de_init_da8c8 0 = .ok (.aload_n 0, 1) := by decide +kernel
theorem dJxc12de_init_da8c8_1 : decode cJxc12de_init_da8c8 1 = .ok (.invokespecial 1, 3) := by decide +kernel
theorem dJxc12de_init_da8c8_4 : decode cJxc12de_init_da8c8 4 = .ok (.aload_n 0, 1) := by decide +kernel
theorem dJxc12de_init_da8c8_5 : decode cJxc12de_init_da8c8 5 = .ok (.iconst 0, 1) := by decide +kernel
theorem dJxc12de_init_da8c8_6 : decode cJxc12de_init_da8c8 6 = .ok (.putfield 7, 3) := by decide +kernel
theorem dJxc12de_init_da8c8_9 : decode cJxc12de_init_da8c8 9 = .ok (.return_, 1) := by decide +kernel
theorem dJx4a65c_init_da8c8_0 : decode cJx4a65c_init_da8c8 0 = .ok (.aload_n 0, 1) := by decide +kernel
theorem dJx4a65c_init_da8c8_1 : decode cJx4a65c_init_da8c8 1 = .ok (.invokespecial 1, 3) := by decide +kernel
theorem dJx4a65c_init_da8c8_4 : decode cJx4a65c_init_da8c8 4 = .ok (.aload_n 0, 1) := by decide +kernel
theorem dJx4a65c_init_da8c8_5 : decode cJx4a65c_init_da8c8 5 = .ok (.getstatic 39, 3) := by decide +kernel
theorem dJx4a65c_init_da8c8_8 : decode cJx4a65c_init_da8c8 8 = .ok (.putfield 9, 3) := by decide +kernel
theorem dJx4a65c_init_da8c8_11 : decode cJx4a65c_init_da8c8 11 = .ok (.return_, 1) := by decide +kernel
theorem dJx4a65c_grow_92f84_0 : decode cJx4a65c_grow_92f84 0 = .ok (.aload_n 0, 1) := by decide +kernel
theorem dJx4a65c_grow_92f84_1 : decode cJx4a65c_grow_92f84 1 = .ok (.getfield 9, 3) := by decide +kernel
theorem dJx4a65c_grow_92f84_4 : decode cJx4a65c_grow_92f84 4 = .ok (.arraylength, 1) := by decide +kernel
theorem dJx4a65c_grow_92f84_5 : decode cJx4a65c_grow_92f84 5 = .ok (.istore_n 2, 1) := by decide +kernel
theorem dJx4a65c_grow_92f84_6 : decode cJx4a65c_grow_92f84 6 = .ok (.iload_n 2, 1) := by decide +kernel
theorem dJx4a65c_grow_92f84_7 : decode cJx4a65c_grow_92f84 7 = .ok (.ifCond .gt 13, 3) := by decide +kernel
theorem dJx4a65c_grow_92f84_10 : decode cJx4a65c_grow_92f84 10 = .ok (.aload_n 0, 1) := by decide +kernel
theorem dJx4a65c_grow_92f84_11 : decode cJx4a65c_grow_92f84 11 = .ok (.getfield 9, 3) := by decide +kernel
theorem dJx4a65c_grow_92f84_14 : decode cJx4a65c_grow_92f84 14 = .ok (.getstatic 39, 3) := by decide +kernel
theorem dJx4a65c_grow_92f84_17 : decode cJx4a65c_grow_92f84 17 = .ok (.if_acmp .eq 28, 3) := by decide +kernel
theorem dJx4a65c_grow_92f84_20 : decode cJx4a65c_grow_92f84 20 = .ok (.iload_n 2, 1) := by decide +kernel
theorem dJx4a65c_grow_92f84_21 : decode cJx4a65c_grow_92f84 21 = .ok (.iload_n 1, 1) := by decide +kernel
theorem dJx4a65c_grow_92f84_22 : decode cJx4a65c_grow_92f84 22 = .ok (.iload_n 2, 1) := by decide +kernel
theorem dJx4a65c_grow_92f84_23 : decode cJx4a65c_grow_92f84 23 = .ok (.isub, 1) := by decide +kernel
theorem dJx4a65c_grow_92f84_24 : decode cJx4a65c_grow_92f84 24 = .ok (.iload_n 2, 1) := by decide +kernel
theorem dJx4a65c_grow_92f84_25 : decode cJx4a65c_grow_92f84 25 = .ok (.iconst 1, 1) := by decide +kernel
theorem dJx4a65c_grow_92f84_26 : decode cJx4a65c_grow_92f84 26 = .ok (.ishr, 1) := by decide +kernel
theorem dJx4a65c_grow_92f84_27 : decode cJx4a65c_grow_92f84 27 = .ok (.invokestatic 73, 3) := by decide +kernel
theorem dJx4a65c_grow_92f84_30 : decode cJx4a65c_grow_92f84 30 = .ok (.istore_n 3, 1) := by decide +kernel
theorem dJx4a65c_grow_92f84_31 : decode cJx4a65c_grow_92f84 31 = .ok (.aload_n 0, 1) := by decide +kernel
theorem dJx4a65c_grow_92f84_32 : decode cJx4a65c_grow_92f84 32 = .ok (.aload_n 0, 1) := by decide +kernel
theorem dJx4a65c_grow_92f84_33 : decode cJx4a65c_grow_92f84 33 = .ok (.getfield 9, 3) := by decide +kernel
theorem dJx4a65c_grow_92f84_36 : decode cJx4a65c_grow_92f84 36 = .ok (.iload_n 3, 1) := by decide +kernel
theorem dJx4a65c_grow_92f84_37 : decode cJx4a65c_grow_92f84 37 = .ok (.invokestatic 66, 3) := by decide +kernel
theorem dJx4a65c_grow_92f84_40 : decode cJx4a65c_grow_92f84 40 = .ok (.dup_x1, 1) := by decide +kernel
theorem dJx4a65c_grow_92f84_41 : decode cJx4a65c_grow_92f84 41 = .ok (.putfield 9, 3) := by decide +kernel
theorem dJx4a65c_grow_92f84_44 : decode cJx4a65c_grow_92f84 44 = .ok (.areturn, 1) := by decide +kernel
theorem dJx4a65c_grow_92f84_45 : decode cJx4a65c_grow_92f84 45 = .ok (.aload_n 0, 1) := by decide +kernel
theorem dJx4a65c_grow_92f84_46 : decode cJx4a65c_grow_92f84 46 = .ok (.bipush 10, 2) := by decide +kernel
theorem dJx4a65c_grow_92f84_48 : decode cJx4a65c_grow_92f84 48 = .ok (.iload_n 1, 1) := by decide +kernel
theorem dJx4a65c_grow_92f84_49 : decode cJx4a65c_grow_92f84 49 = .ok (.invokestatic 79, 3) := by decide +kernel
theorem dJx4a65c_grow_92f84_52 : decode cJx4a65c_grow_92f84 52 = .ok (.anewarray 7, 3) := by decide +kernel
theorem dJx4a65c_grow_92f84_55 : decode cJx4a65c_grow_92f84 55 = .ok (.dup_x1, 1) := by decide +kernel
theorem dJx4a65c_grow_92f84_56 : decode cJx4a65c_grow_92f84 56 = .ok (.putfield 9, 3) := by decide +kernel
theorem dJx4a65c_grow_92f84_59 : decode cJx4a65c_grow_92f84 59 = .ok (.areturn, 1) := by decide +kernel
theorem dJx4a65c_grow_d5877_0 : decode cJx4a65c_grow_d5877 0 = .ok (.aload_n 0, 1) := by decide +kernel
theorem dJx4a65c_grow_d5877_1 : decode cJx4a65c_grow_d5877 1 = .ok (.aload_n 0, 1) := by decide +kernel
theorem dJx4a65c_grow_d5877_2 : decode cJx4a65c_grow_d5877 2 = .ok (.getfield 48, 3) := by decide +kernel
theorem dJx4a65c_grow_d5877_5 : decode cJx4a65c_grow_d5877 5 = .ok (.iconst 1, 1) := by decide +kernel
theorem dJx4a65c_grow_d5877_6 : decode cJx4a65c_grow_d5877 6 = .ok (.iadd, 1) := by decide +kernel
theorem dJx4a65c_grow_d5877_7 : decode cJx4a65c_grow_d5877 7 = .ok (.invokevirtual 69, 3) := by decide +kernel
theorem dJx4a65c_grow_d5877_10 : decode cJx4a65c_grow_d5877 10 = .ok (.areturn, 1) := by decide +kernel
theorem dJx4a65c_size_8abf5_0 : decode cJx4a65c_size_8abf5 0 = .ok (.aload_n 0, 1) := by decide +kernel
theorem dJx4a65c_size_8abf5_1 : decode cJx4a65c_size_8abf5 1 = .ok (.getfield 48, 3) := by decide +kernel
theorem dJx4a65c_size_8abf5_4 : decode cJx4a65c_size_8abf5 4 = .ok (.ireturn, 1) := by decide +kernel
theorem dJx4a65c_elementData_915e3_0 : decode cJx4a65c_elementData_915e3 0 = .ok (.aload_n 0, 1) := by decide +kernel
theorem dJx4a65c_elementData_915e3_1 : decode cJx4a65c_elementData_915e3 1 = .ok (.getfield 9, 3) := by decide +kernel
theorem dJx4a65c_elementData_915e3_4 : decode cJx4a65c_elementData_915e3 4 = .ok (.iload_n 1, 1) := by decide +kernel
theorem dJx4a65c_elementData_915e3_5 : decode cJx4a65c_elementData_915e3 5 = .ok (.aaload, 1) := by decide +kernel
theorem dJx4a65c_elementData_915e3_6 : decode cJx4a65c_elementData_915e3 6 = .ok (.areturn, 1) := by decide +kernel
theorem dJx4a65c_get_915e3_0 : decode cJx4a65c_get_915e3 0 = .ok (.iload_n 1, 1) := by decide +kernel
theorem dJx4a65c_get_915e3_1 : decode cJx4a65c_get_915e3 1 = .ok (.aload_n 0, 1) := by decide +kernel
theorem dJx4a65c_get_915e3_2 : decode cJx4a65c_get_915e3 2 = .ok (.getfield 48, 3) := by decide +kernel
theorem dJx4a65c_get_915e3_5 : decode cJx4a65c_get_915e3 5 = .ok (.invokestatic 118, 3) := by decide +kernel
theorem dJx4a65c_get_915e3_8 : decode cJx4a65c_get_915e3 8 = .ok (.pop, 1) := by decide +kernel
theorem dJx4a65c_get_915e3_9 : decode cJx4a65c_get_915e3 9 = .ok (.aload_n 0, 1) := by decide +kernel
theorem dJx4a65c_get_915e3_10 : decode cJx4a65c_get_915e3 10 = .ok (.iload_n 1, 1) := by decide +kernel
theorem dJx4a65c_get_915e3_11 : decode cJx4a65c_get_915e3 11 = .ok (.invokevirtual 123, 3) := by decide +kernel
theorem dJx4a65c_get_915e3_14 : decode cJx4a65c_get_915e3 14 = .ok (.areturn, 1) := by decide +kernel
theorem dJx4a65c_add_72be8_0 : decode cJx4a65c_add_72be8 0 = .ok (.iload_n 3, 1) := by decide +kernel
theorem dJx4a65c_add_72be8_1 : decode cJx4a65c_add_72be8 1 = .ok (.aload_n 2, 1) := by decide +kernel
theorem dJx4a65c_add_72be8_2 : decode cJx4a65c_add_72be8 2 = .ok (.arraylength, 1) := by decide +kernel
theorem dJx4a65c_add_72be8_3 : decode cJx4a65c_add_72be8 3 = .ok (.if_icmp .ne 8, 3) := by decide +kernel
theorem dJx4a65c_add_72be8_6 : decode cJx4a65c_add_72be8 6 = .ok (.aload_n 0, 1) := by decide +kernel
theorem dJx4a65c_add_72be8_7 : decode cJx4a65c_add_72be8 7 = .ok (.invokevirtual 129, 3) := by decide +kernel
theorem dJx4a65c_add_72be8_10 : decode cJx4a65c_add_72be8 10 = .ok (.astore_n 2, 1) := by decide +kernel
theorem dJx4a65c_add_72be8_11 : decode cJx4a65c_add_72be8 11 = .ok (.aload_n 2, 1) := by decide +kernel
theorem dJx4a65c_add_72be8_12 : decode cJx4a65c_add_72be8 12 = .ok (.iload_n 3, 1) := by decide +kernel
theorem dJx4a65c_add_72be8_13 : decode cJx4a65c_add_72be8 13 = .ok (.aload_n 1, 1) := by decide +kernel
theorem dJx4a65c_add_72be8_14 : decode cJx4a65c_add_72be8 14 = .ok (.aastore, 1) := by decide +kernel
theorem dJx4a65c_add_72be8_15 : decode cJx4a65c_add_72be8 15 = .ok (.aload_n 0, 1) := by decide +kernel
theorem dJx4a65c_add_72be8_16 : decode cJx4a65c_add_72be8 16 = .ok (.iload_n 3, 1) := by decide +kernel
theorem dJx4a65c_add_72be8_17 : decode cJx4a65c_add_72be8 17 = .ok (.iconst 1, 1) := by decide +kernel
theorem dJx4a65c_add_72be8_18 : decode cJx4a65c_add_72be8 18 = .ok (.iadd, 1) := by decide +kernel
theorem dJx4a65c_add_72be8_19 : decode cJx4a65c_add_72be8 19 = .ok (.putfield 48, 3) := by decide +kernel
theorem dJx4a65c_add_72be8_22 : decode cJx4a65c_add_72be8 22 = .ok (.return_, 1) := by decide +kernel
theorem dJx4a65c_add_9ea2d_0 : decode cJx4a65c_add_9ea2d 0 = .ok (.aload_n 0, 1) := by decide +kernel
theorem dJx4a65c_add_9ea2d_1 : decode cJx4a65c_add_9ea2d 1 = .ok (.dup, 1) := by decide +kernel
theorem dJx4a65c_add_9ea2d_2 : decode cJx4a65c_add_9ea2d 2 = .ok (.getfield 63, 3) := by decide +kernel
theorem dJx4a65c_add_9ea2d_5 : decode cJx4a65c_add_9ea2d 5 = .ok (.iconst 1, 1) := by decide +kernel
theorem dJx4a65c_add_9ea2d_6 : decode cJx4a65c_add_9ea2d 6 = .ok (.iadd, 1) := by decide +kernel
theorem dJx4a65c_add_9ea2d_7 : decode cJx4a65c_add_9ea2d 7 = .ok (.putfield 63, 3) := by decide +kernel
theorem dJx4a65c_add_9ea2d_10 : decode cJx4a65c_add_9ea2d 10 = .ok (.aload_n 0, 1) := by decide +kernel
theorem dJx4a65c_add_9ea2d_11 : decode cJx4a65c_add_9ea2d 11 = .ok (.aload_n 1, 1) := by decide +kernel
theorem dJx4a65c_add_9ea2d_12 : decode cJx4a65c_add_9ea2d 12 = .ok (.aload_n 0, 1) := by decide +kernel
theorem dJx4a65c_add_9ea2d_13 : decode cJx4a65c_add_9ea2d 13 = .ok (.getfield 9, 3) := by decide +kernel
theorem dJx4a65c_add_9ea2d_16 : decode cJx4a65c_add_9ea2d 16 = .ok (.aload_n 0, 1) := by decide +kernel
theorem dJx4a65c_add_9ea2d_17 : decode cJx4a65c_add_9ea2d 17 = .ok (.getfield 48, 3) := by decide +kernel
theorem dJx4a65c_add_9ea2d_20 : decode cJx4a65c_add_9ea2d 20 = .ok (.invokevirtual 131, 3) := by decide +kernel
theorem dJx4a65c_add_9ea2d_23 : decode cJx4a65c_add_9ea2d 23 = .ok (.iconst 1, 1) := by decide +kernel
theorem dJx4a65c_add_9ea2d_24 : decode cJx4a65c_add_9ea2d 24 = .ok (.ireturn, 1) := by decide +kernel
theorem dJ7_fill_53178_0 : decode cJ7_fill_53178 0 = .ok (.iconst 0, 1) := by decide +kernel
theorem dJ7_fill_53178_1 : decode cJ7_fill_53178 1 = .ok (.istore_n 2, 1) := by decide +kernel
theorem dJ7_fill_53178_2 : decode cJ7_fill_53178 2 = .ok (.aload_n 0, 1) := by decide +kernel
theorem dJ7_fill_53178_3 : decode cJ7_fill_53178 3 = .ok (.arraylength, 1) := by decide +kernel
theorem dJ7_fill_53178_4 : decode cJ7_fill_53178 4 = .ok (.istore_n 3, 1) := by decide +kernel
theorem dJ7_fill_53178_5 : decode cJ7_fill_53178 5 = .ok (.iload_n 2, 1) := by decide +kernel
theorem dJ7_fill_53178_6 : decode cJ7_fill_53178 6 = .ok (.iload_n 3, 1) := by decide +kernel
theorem dJ7_fill_53178_7 : decode cJ7_fill_53178 7 = .ok (.if_icmp .ge 13, 3) := by decide +kernel
theorem dJ7_fill_53178_10 : decode cJ7_fill_53178 10 = .ok (.aload_n 0, 1) := by decide +kernel
theorem dJ7_fill_53178_11 : decode cJ7_fill_53178 11 = .ok (.iload_n 2, 1) := by decide +kernel
theorem dJ7_fill_53178_12 : decode cJ7_fill_53178 12 = .ok (.iload_n 1, 1) := by decide +kernel
theorem dJ7_fill_53178_13 : decode cJ7_fill_53178 13 = .ok (.iastore, 1) := by decide +kernel
theorem dJ7_fill_53178_14 : decode cJ7_fill_53178 14 = .ok (.iinc 2 1, 3) := by decide +kernel
theorem dJ7_fill_53178_17 : decode cJ7_fill_53178 17 = .ok (.goto (-12), 3) := by decide +kernel
theorem dJ7_fill_53178_20 : decode cJ7_fill_53178 20 = .ok (.return_, 1) := by decide +kernel
theorem dJ7_copyOf_1904c_0 : decode cJ7_copyOf_1904c 0 = .ok (.aload_n 0, 1) := by decide +kernel
theorem dJ7_copyOf_1904c_1 : decode cJ7_copyOf_1904c 1 = .ok (.iload_n 1, 1) := by decide +kernel
theorem dJ7_copyOf_1904c_2 : decode cJ7_copyOf_1904c 2 = .ok (.aload_n 0, 1) := by decide +kernel
theorem dJ7_copyOf_1904c_3 : decode cJ7_copyOf_1904c 3 = .ok (.invokevirtual 86, 3) := by decide +kernel
theorem dJ7_copyOf_1904c_6 : decode cJ7_copyOf_1904c 6 = .ok (.invokestatic 300, 3) := by decide +kernel
theorem dJ7_copyOf_1904c_9 : decode cJ7_copyOf_1904c 9 = .ok (.areturn, 1) := by decide +kernel
theorem dJ7_copyOf_6403c_0 : decode cJ7_copyOf_6403c 0 = .ok (.aload_n 2, 1) := by decide +kernel
theorem dJ7_copyOf_6403c_1 : decode cJ7_copyOf_6403c 1 = .ok (.ldc 110, 2) := by decide +kernel
theorem dJ7_copyOf_6403c_3 : decode cJ7_copyOf_6403c 3 = .ok (.if_acmp .ne 10, 3) := by decide +kernel
theorem dJ7_copyOf_6403c_6 : decode cJ7_copyOf_6403c 6 = .ok (.iload_n 1, 1) := by decide +kernel
theorem dJ7_copyOf_6403c_7 : decode cJ7_copyOf_6403c 7 = .ok (.anewarray 2, 3) := by decide +kernel
theorem dJ7_copyOf_6403c_10 : decode cJ7_copyOf_6403c 10 = .ok (.goto 14, 3) := by decide +kernel
theorem dJ7_copyOf_6403c_13 : decode cJ7_copyOf_6403c 13 = .ok (.aload_n 2, 1) := by decide +kernel
theorem dJ7_copyOf_6403c_14 : decode cJ7_copyOf_6403c 14 = .ok (.invokevirtual 90, 3) := by decide +kernel
theorem dJ7_copyOf_6403c_17 : decode cJ7_copyOf_6403c 17 = .ok (.iload_n 1, 1) := by decide +kernel
theorem dJ7_copyOf_6403c_18 : decode cJ7_copyOf_6403c 18 = .ok (.invokestatic 95, 3) := by decide +kernel
theorem dJ7_copyOf_6403c_21 : decode cJ7_copyOf_6403c 21 = .ok (.checkcast 110, 3) := by decide +kernel
theorem dJ7_copyOf_6403c_24 : decode cJ7_copyOf_6403c 24 = .ok (.astore_n 3, 1) := by decide +kernel
theorem dJ7_copyOf_6403c_25 : decode cJ7_copyOf_6403c 25 = .ok (.aload_n 0, 1) := by decide +kernel
theorem dJ7_copyOf_6403c_26 : decode cJ7_copyOf_6403c 26 = .ok (.iconst 0, 1) := by decide +kernel
theorem dJ7_copyOf_6403c_27 : decode cJ7_copyOf_6403c 27 = .ok (.aload_n 3, 1) := by decide +kernel
theorem dJ7_copyOf_6403c_28 : decode cJ7_copyOf_6403c 28 = .ok (.iconst 0, 1) := by decide +kernel
theorem dJ7_copyOf_6403c_29 : decode cJ7_copyOf_6403c 29 = .ok (.aload_n 0, 1) := by decide +kernel
theorem dJ7_copyOf_6403c_30 : decode cJ7_copyOf_6403c 30 = .ok (.arraylength, 1) := by decide +kernel
theorem dJ7_copyOf_6403c_31 : decode cJ7_copyOf_6403c 31 = .ok (.iload_n 1, 1) := by decide +kernel
theorem dJ7_copyOf_6403c_32 : decode cJ7_copyOf_6403c 32 = .ok (.invokestatic 304, 3) := by decide +kernel
theorem dJ7_copyOf_6403c_35 : decode cJ7_copyOf_6403c 35 = .ok (.invokestatic 150, 3) := by decide +kernel
theorem dJ7_copyOf_6403c_38 : decode cJ7_copyOf_6403c 38 = .ok (.aload_n 3, 1) := by decide +kernel
theorem dJ7_copyOf_6403c_39 : decode cJ7_copyOf_6403c 39 = .ok (.areturn, 1) := by decide +kernel
theorem dJ15_checkIndex_7cf53_0 : decode cJ15_checkIndex_7cf53 0 = .ok (.iload_n 0, 1) := by decide +kernel
theorem dJ15_checkIndex_7cf53_1 : decode cJ15_checkIndex_7cf53 1 = .ok (.iload_n 1, 1) := by decide +kernel
theorem dJ15_checkIndex_7cf53_2 : decode cJ15_checkIndex_7cf53 2 = .ok (.aconst_null, 1) := by decide +kernel
theorem dJ15_checkIndex_7cf53_3 : decode cJ15_checkIndex_7cf53 3 = .ok (.invokestatic 105, 3) := by decide +kernel
theorem dJ15_checkIndex_7cf53_6 : decode cJ15_checkIndex_7cf53 6 = .ok (.ireturn, 1) := by decide +kernel
theorem dJ8_newLength_cabcc_0 : decode cJ8_newLength_cabcc 0 = .ok (.iload_n 0, 1) := by decide +kernel
theorem dJ8_newLength_cabcc_1 : decode cJ8_newLength_cabcc 1 = .ok (.iload_n 1, 1) := by decide +kernel
theorem dJ8_newLength_cabcc_2 : decode cJ8_newLength_cabcc 2 = .ok (.iload_n 2, 1) := by decide +kernel
theorem dJ8_newLength_cabcc_3 : decode cJ8_newLength_cabcc 3 = .ok (.invokestatic 194, 3) := by decide +kernel
theorem dJ8_newLength_cabcc_6 : decode cJ8_newLength_cabcc 6 = .ok (.iadd, 1) := by decide +kernel
theorem dJ8_newLength_cabcc_7 : decode cJ8_newLength_cabcc 7 = .ok (.istore_n 3, 1) := by decide +kernel
theorem dJ8_newLength_cabcc_8 : decode cJ8_newLength_cabcc 8 = .ok (.iconst 0, 1) := by decide +kernel
theorem dJ8_newLength_cabcc_9 : decode cJ8_newLength_cabcc 9 = .ok (.iload_n 3, 1) := by decide +kernel
theorem dJ8_newLength_cabcc_10 : decode cJ8_newLength_cabcc 10 = .ok (.if_icmp .ge 11, 3) := by decide +kernel
theorem dJ8_newLength_cabcc_13 : decode cJ8_newLength_cabcc 13 = .ok (.iload_n 3, 1) := by decide +kernel
theorem dJ8_newLength_cabcc_14 : decode cJ8_newLength_cabcc 14 = .ok (.ldc 200, 2) := by decide +kernel
theorem dJ8_newLength_cabcc_16 : decode cJ8_newLength_cabcc 16 = .ok (.if_icmp .gt 5, 3) := by decide +kernel
theorem dJ8_newLength_cabcc_19 : decode cJ8_newLength_cabcc 19 = .ok (.iload_n 3, 1) := by decide +kernel
theorem dJ8_newLength_cabcc_20 : decode cJ8_newLength_cabcc 20 = .ok (.ireturn, 1) := by decide +kernel
theorem dJ8_newLength_cabcc_21 : decode cJ8_newLength_cabcc 21 = .ok (.iload_n 0, 1) := by decide +kernel
theorem dJ8_newLength_cabcc_22 : decode cJ8_newLength_cabcc 22 = .ok (.iload_n 1, 1) := by decide +kernel
theorem dJ8_newLength_cabcc_23 : decode cJ8_newLength_cabcc 23 = .ok (.invokestatic 201, 3) := by decide +kernel
theorem dJ8_newLength_cabcc_26 : decode cJ8_newLength_cabcc 26 = .ok (.ireturn, 1) := by decide +kernel
theorem dJ8_hugeLength_7cf53_0 : decode cJ8_hugeLength_7cf53 0 = .ok (.iload_n 0, 1) := by decide +kernel
theorem dJ8_hugeLength_7cf53_1 : decode cJ8_hugeLength_7cf53 1 = .ok (.iload_n 1, 1) := by decide +kernel
theorem dJ8_hugeLength_7cf53_2 : decode cJ8_hugeLength_7cf53 2 = .ok (.iadd, 1) := by decide +kernel
theorem dJ8_hugeLength_7cf53_3 : decode cJ8_hugeLength_7cf53 3 = .ok (.istore_n 2, 1) := by decide +kernel
theorem dJ8_hugeLength_7cf53_4 : decode cJ8_hugeLength_7cf53 4 = .ok (.iload_n 2, 1) := by decide +kernel
theorem dJ8_hugeLength_7cf53_5 : decode cJ8_hugeLength_7cf53 5 = .ok (.ifCond .ge 44, 3) := by decide +kernel
theorem dJ8_hugeLength_7cf53_8 : decode cJ8_hugeLength_7cf53 8 = .ok (.new 204, 3) := by decide +kernel
theorem dJ8_hugeLength_7cf53_11 : decode cJ8_hugeLength_7cf53 11 = .ok (.dup, 1) := by decide +kernel
theorem dJ8_hugeLength_7cf53_12 : decode cJ8_hugeLength_7cf53 12 = .ok (.new 89, 3) := by decide +kernel
theorem dJ8_hugeLength_7cf53_15 : decode cJ8_hugeLength_7cf53 15 = .ok (.dup, 1) := by decide +kernel
theorem dJ8_hugeLength_7cf53_16 : decode cJ8_hugeLength_7cf53 16 = .ok (.invokespecial 91, 3) := by decide +kernel
theorem dJ8_hugeLength_7cf53_19 : decode cJ8_hugeLength_7cf53 19 = .ok (.ldc 206, 2) := by decide +kernel
theorem dJ8_hugeLength_7cf53_21 : decode cJ8_hugeLength_7cf53 21 = .ok (.invokevirtual 94, 3) := by decide +kernel
theorem dJ8_hugeLength_7cf53_24 : decode cJ8_hugeLength_7cf53 24 = .ok (.iload_n 0, 1) := by decide +kernel
theorem dJ8_hugeLength_7cf53_25 : decode cJ8_hugeLength_7cf53 25 = .ok (.invokevirtual 98, 3) := by decide +kernel
theorem dJ8_hugeLength_7cf53_28 : decode cJ8_hugeLength_7cf53 28 = .ok (.ldc 208, 2) := by decide +kernel
theorem dJ8_hugeLength_7cf53_30 : decode cJ8_hugeLength_7cf53 30 = .ok (.invokevirtual 94, 3) := by decide +kernel
theorem dJ8_hugeLength_7cf53_33 : decode cJ8_hugeLength_7cf53 33 = .ok (.iload_n 1, 1) := by decide +kernel
theorem dJ8_hugeLength_7cf53_34 : decode cJ8_hugeLength_7cf53 34 = .ok (.invokevirtual 98, 3) := by decide +kernel
theorem dJ8_hugeLength_7cf53_37 : decode cJ8_hugeLength_7cf53 37 = .ok (.ldc 210, 2) := by decide +kernel
theorem dJ8_hugeLength_7cf53_39 : decode cJ8_hugeLength_7cf53 39 = .ok (.invokevirtual 94, 3) := by decide +kernel
theorem dJ8_hugeLength_7cf53_42 : decode cJ8_hugeLength_7cf53 42 = .ok (.invokevirtual 101, 3) := by decide +kernel
theorem dJ8_hugeLength_7cf53_45 : decode cJ8_hugeLength_7cf53 45 = .ok (.invokespecial 212, 3) := by decide +kernel
theorem dJ8_hugeLength_7cf53_48 : decode cJ8_hugeLength_7cf53 48 = .ok (.athrow, 1) := by decide +kernel
theorem dJ8_hugeLength_7cf53_49 : decode cJ8_hugeLength_7cf53 49 = .ok (.iload_n 2, 1) := by decide +kernel
theorem dJ8_hugeLength_7cf53_50 : decode cJ8_hugeLength_7cf53 50 = .ok (.ldc 200, 2) := by decide +kernel
theorem dJ8_hugeLength_7cf53_52 : decode cJ8_hugeLength_7cf53 52 = .ok (.if_icmp .gt 6, 3) := by decide +kernel
theorem dJ8_hugeLength_7cf53_55 : decode cJ8_hugeLength_7cf53 55 = .ok (.ldc 200, 2) := by decide +kernel
theorem dJ8_hugeLength_7cf53_57 : decode cJ8_hugeLength_7cf53 57 = .ok (.ireturn, 1) := by decide +kernel
theorem dJ8_hugeLength_7cf53_58 : decode cJ8_hugeLength_7cf53 58 = .ok (.iload_n 2, 1) := by decide +kernel
theorem dJ8_hugeLength_7cf53_59 : decode cJ8_hugeLength_7cf53 59 = .ok (.ireturn, 1) := by decide +kernel
theorem dJ3_checkIndex_8e157_0 : decode cJ3_checkIndex_8e157 0 = .ok (.iload_n 0, 1) := by decide +kernel
theorem dJ3_checkIndex_8e157_1 : decode cJ3_checkIndex_8e157 1 = .ok (.ifCond .lt 8, 3) := by decide +kernel
theorem dJ3_checkIndex_8e157_4 : decode cJ3_checkIndex_8e157 4 = .ok (.iload_n 0, 1) := by decide +kernel
theorem dJ3_checkIndex_8e157_5 : decode cJ3_checkIndex_8e157 5 = .ok (.iload_n 1, 1) := by decide +kernel
theorem dJ3_checkIndex_8e157_6 : decode cJ3_checkIndex_8e157 6 = .ok (.if_icmp .lt 10, 3) := by decide +kernel
theorem dJ3_checkIndex_8e157_9 : decode cJ3_checkIndex_8e157 9 = .ok (.aload_n 2, 1) := by decide +kernel
theorem dJ3_checkIndex_8e157_10 : decode cJ3_checkIndex_8e157 10 = .ok (.iload_n 0, 1) := by decide +kernel
theorem dJ3_checkIndex_8e157_11 : decode cJ3_checkIndex_8e157 11 = .ok (.iload_n 1, 1) := by decide +kernel
theorem dJ3_checkIndex_8e157_12 : decode cJ3_checkIndex_8e157 12 = .ok (.invokestatic 95, 3) := by decide +kernel
theorem dJ3_checkIndex_8e157_15 : decode cJ3_checkIndex_8e157 15 = .ok (.athrow, 1) := by decide +kernel
theorem dJ3_checkIndex_8e157_16 : decode cJ3_checkIndex_8e157 16 = .ok (.iload_n 0, 1) := by decide +kernel
theorem dJ3_checkIndex_8e157_17 : decode cJ3_checkIndex_8e157 17 = .ok (.ireturn, 1) := by decide +kernel
theorem dL_addClass_0 : decode cL_addClass 0 = .ok (.aload_n 2, 1) := by decide +kernel
theorem dL_addClass_1 : decode cL_addClass 1 = .ok (.iconst 0, 1) := by decide +kernel
theorem dL_addClass_2 : decode cL_addClass 2 = .ok (.aload_n 0, 1) := by decide +kernel
theorem dL_addClass_3 : decode cL_addClass 3 = .ok (.iload_n 1, 1) := by decide +kernel
theorem dL_addClass_4 : decode cL_addClass 4 = .ok (.invokevirtual 7, 3) := by decide +kernel
theorem dL_addClass_7 : decode cL_addClass 7 = .ok (.i2l, 1) := by decide +kernel
theorem dL_addClass_8 : decode cL_addClass 8 = .ok (.lastore, 1) := by decide +kernel
theorem dL_addClass_9 : decode cL_addClass 9 = .ok (.goto 9, 3) := by decide +kernel
theorem dL_addClass_12 : decode cL_addClass 12 = .ok (.astore_n 3, 1) := by decide +kernel
theorem dL_addClass_13 : decode cL_addClass 13 = .ok (.iconst 1, 1) := by decide +kernel
theorem dL_addClass_14 : decode cL_addClass 14 = .ok (.ireturn, 1) := by decide +kernel
theorem dL_addClass_15 : decode cL_addClass 15 = .ok (.astore_n 3, 1) := by decide +kernel
theorem dL_addClass_16 : decode cL_addClass 16 = .ok (.iconst 2, 1) := by decide +kernel
theorem dL_addClass_17 : decode cL_addClass 17 = .ok (.ireturn, 1) := by decide +kernel
theorem dL_addClass_18 : decode cL_addClass 18 = .ok (.iconst 0, 1) := by decide +kernel
theorem dL_addClass_19 : decode cL_addClass 19 = .ok (.ireturn, 1) := by decide +kernel
theorem dL_addMethod_0 : decode cL_addMethod 0 = .ok (.aload_n 1, 1) := by decide +kernel
theorem dL_addMethod_1 : decode cL_addMethod 1 = .ok (.iconst 0, 1) := by decide +kernel
theorem dL_addMethod_2 : decode cL_addMethod 2 = .ok (.aload_n 0, 1) := by decide +kernel
theorem dL_addMethod_3 : decode cL_addMethod 3 = .ok (.invokevirtual 17, 3) := by decide +kernel
theorem dL_addMethod_6 : decode cL_addMethod 6 = .ok (.i2l, 1) := by decide +kernel
theorem dL_addMethod_7 : decode cL_addMethod 7 = .ok (.lastore, 1) := by decide +kernel
theorem dL_addMethod_8 : decode cL_addMethod 8 = .ok (.goto 6, 3) := by decide +kernel
theorem dL_addMethod_11 : decode cL_addMethod 11 = .ok (.astore_n 2, 1) := by decide +kernel
theorem dL_addMethod_12 : decode cL_addMethod 12 = .ok (.iconst 1, 1) := by decide +kernel
theorem dL_addMethod_13 : decode cL_addMethod 13 = .ok (.ireturn, 1) := by decide +kernel
theorem dL_addMethod_14 : decode cL_addMethod 14 = .ok (.iconst 0, 1) := by decide +kernel
theorem dL_addMethod_15 : decode cL_addMethod 15 = .ok (.ireturn, 1) := by decide +kernel
theorem dL_append_0 : decode cL_append 0 = .ok (.aload 7, 2) := by decide +kernel
theorem dL_append_2 : decode cL_append 2 = .ok (.iconst 0, 1) := by decide +kernel
theorem dL_append_3 : decode cL_append 3 = .ok (.aload_n 0, 1) := by decide +kernel
theorem dL_append_4 : decode cL_append 4 = .ok (.iload_n 1, 1) := by decide +kernel
theorem dL_append_5 : decode cL_append 5 = .ok (.iload_n 2, 1) := by decide +kernel
theorem dL_append_6 : decode cL_append 6 = .ok (.iload_n 3, 1) := by decide +kernel
theorem dL_append_7 : decode cL_append 7 = .ok (.iload 4, 2) := by decide +kernel
theorem dL_append_9 : decode cL_append 9 = .ok (.iload 5, 2) := by decide +kernel
theorem dL_append_11 : decode cL_append 11 = .ok (.iload 6, 2) := by decide +kernel
theorem dL_append_13 : decode cL_append 13 = .ok (.invokevirtual 21, 3) := by decide +kernel
theorem dL_append_16 : decode cL_append 16 = .ok (.i2l, 1) := by decide +kernel
theorem dL_append_17 : decode cL_append 17 = .ok (.lastore, 1) := by decide +kernel
theorem dL_append_18 : decode cL_append 18 = .ok (.goto 15, 3) := by decide +kernel
theorem dL_append_21 : decode cL_append 21 = .ok (.astore 8, 2) := by decide +kernel
theorem dL_append_23 : decode cL_append 23 = .ok (.iconst 1, 1) := by decide +kernel
theorem dL_append_24 : decode cL_append 24 = .ok (.ireturn, 1) := by decide +kernel
theorem dL_append_25 : decode cL_append 25 = .ok (.astore 8, 2) := by decide +kernel
theorem dL_append_27 : decode cL_append 27 = .ok (.iconst 2, 1) := by decide +kernel
theorem dL_append_28 : decode cL_append 28 = .ok (.ireturn, 1) := by decide +kernel
theorem dL_append_29 : decode cL_append 29 = .ok (.astore 8, 2) := by decide +kernel
theorem dL_append_31 : decode cL_append 31 = .ok (.iconst 3, 1) := by decide +kernel
theorem dL_append_32 : decode cL_append 32 = .ok (.ireturn, 1) := by decide +kernel
theorem dL_append_33 : decode cL_append 33 = .ok (.iconst 0, 1) := by decide +kernel
theorem dL_append_34 : decode cL_append 34 = .ok (.ireturn, 1) := by decide +kernel
theorem dL_implement_0 : decode cL_implement 0 = .ok (.aload 4, 2) := by decide +kernel
theorem dL_implement_2 : decode cL_implement 2 = .ok (.iconst 0, 1) := by decide +kernel
theorem dL_implement_3 : decode cL_implement 3 = .ok (.aload_n 0, 1) := by decide +kernel
theorem dL_implement_4 : decode cL_implement 4 = .ok (.iload_n 1, 1) := by decide +kernel
theorem dL_implement_5 : decode cL_implement 5 = .ok (.iload_n 2, 1) := by decide +kernel
theorem dL_implement_6 : decode cL_implement 6 = .ok (.iload_n 3, 1) := by decide +kernel
theorem dL_implement_7 : decode cL_implement 7 = .ok (.invokevirtual 27, 3) := by decide +kernel
theorem dL_implement_10 : decode cL_implement 10 = .ok (.i2l, 1) := by decide +kernel
theorem dL_implement_11 : decode cL_implement 11 = .ok (.lastore, 1) := by decide +kernel
theorem dL_implement_12 : decode cL_implement 12 = .ok (.goto 7, 3) := by decide +kernel
theorem dL_implement_15 : decode cL_implement 15 = .ok (.astore 5, 2) := by decide +kernel
theorem dL_implement_17 : decode cL_implement 17 = .ok (.iconst 1, 1) := by decide +kernel
theorem dL_implement_18 : decode cL_implement 18 = .ok (.ireturn, 1) := by decide +kernel
theorem dL_implement_19 : decode cL_implement 19 = .ok (.iconst 0, 1) := by decide +kernel
theorem dL_implement_20 : decode cL_implement 20 = .ok (.ireturn, 1) := by decide +kernel
theorem dL_understands_0 : decode cL_understands 0 = .ok (.aload_n 3, 1) := by decide +kernel
theorem dL_understands_1 : decode cL_understands 1 = .ok (.iconst 0, 1) := by decide +kernel
theorem dL_understands_2 : decode cL_understands 2 = .ok (.aload_n 0, 1) := by decide +kernel
theorem dL_understands_3 : decode cL_understands 3 = .ok (.iload_n 1, 1) := by decide +kernel
theorem dL_understands_4 : decode cL_understands 4 = .ok (.iload_n 2, 1) := by decide +kernel
theorem dL_understands_5 : decode cL_understands 5 = .ok (.invokevirtual 31, 3) := by decide +kernel
theorem dL_understands_8 : decode cL_understands 8 = .ok (.i2l, 1) := by decide +kernel
theorem dL_understands_9 : decode cL_understands 9 = .ok (.lastore, 1) := by decide +kernel
theorem dL_understands_10 : decode cL_understands 10 = .ok (.goto 7, 3) := by decide +kernel
theorem dL_understands_13 : decode cL_understands 13 = .ok (.astore 4, 2) := by decide +kernel
theorem dL_understands_15 : decode cL_understands 15 = .ok (.iconst 1, 1) := by decide +kernel
theorem dL_understands_16 : decode cL_understands 16 = .ok (.ireturn, 1) := by decide +kernel
theorem dL_understands_17 : decode cL_understands 17 = .ok (.iconst 0, 1) := by decide +kernel
theorem dL_understands_18 : decode cL_understands 18 = .ok (.ireturn, 1) := by decide +kernel
theorem dL_setPolicy_0 : decode cL_setPolicy 0 = .ok (.aload 4, 2) := by decide +kernel
theorem dL_setPolicy_2 : decode cL_setPolicy 2 = .ok (.iconst 0, 1) := by decide +kernel
theorem dL_setPolicy_3 : decode cL_setPolicy 3 = .ok (.aload_n 0, 1) := by decide +kernel
theorem dL_setPolicy_4 : decode cL_setPolicy 4 = .ok (.iload_n 1, 1) := by decide +kernel
theorem dL_setPolicy_5 : decode cL_setPolicy 5 = .ok (.iload_n 2, 1) := by decide +kernel
theorem dL_setPolicy_6 : decode cL_setPolicy 6 = .ok (.iload_n 3, 1) := by decide +kernel
theorem dL_setPolicy_7 : decode cL_setPolicy 7 = .ok (.invokevirtual 35, 3) := by decide +kernel
theorem dL_setPolicy_10 : decode cL_setPolicy 10 = .ok (.ifCond .eq 7, 3) := by decide +kernel
theorem dL_setPolicy_13 : decode cL_setPolicy 13 = .ok (.lconst 1, 1) := by decide +kernel
theorem dL_setPolicy_14 : decode cL_setPolicy 14 = .ok (.goto 4, 3) := by decide +kernel
theorem dL_setPolicy_17 : decode cL_setPolicy 17 = .ok (.lconst 0, 1) := by decide +kernel
theorem dL_setPolicy_18 : decode cL_setPolicy 18 = .ok (.lastore, 1) := by decide +kernel
theorem dL_setPolicy_19 : decode cL_setPolicy 19 = .ok (.goto 7, 3) := by decide +kernel
theorem dL_setPolicy_22 : decode cL_setPolicy 22 = .ok (.astore 5, 2) := by decide +kernel
theorem dL_setPolicy_24 : decode cL_setPolicy 24 = .ok (.iconst 1, 1) := by decide +kernel
theorem dL_setPolicy_25 : decode cL_setPolicy 25 = .ok (.ireturn, 1) := by decide +kernel
theorem dL_setPolicy_26 : decode cL_setPolicy 26 = .ok (.iconst 0, 1) := by decide +kernel
theorem dL_setPolicy_27 : decode cL_setPolicy 27 = .ok (.ireturn, 1) := by decide +kernel
theorem dL_run_0 : decode cL_run 0 = .ok (.aload 4, 2) := by decide +kernel
theorem dL_run_2 : decode cL_run 2 = .ok (.iconst 0, 1) := by decide +kernel
theorem dL_run_3 : decode cL_run 3 = .ok (.aload_n 0, 1) := by decide +kernel
theorem dL_run_4 : decode cL_run 4 = .ok (.iload_n 1, 1) := by decide +kernel
theorem dL_run_5 : decode cL_run 5 = .ok (.iload_n 2, 1) := by decide +kernel
theorem dL_run_6 : decode cL_run 6 = .ok (.iload_n 3, 1) := by decide +kernel
theorem dL_run_7 : decode cL_run 7 = .ok (.invokevirtual 39, 3) := by decide +kernel
theorem dL_run_10 : decode cL_run 10 = .ok (.i2l, 1) := by decide +kernel
theorem dL_run_11 : decode cL_run 11 = .ok (.lastore, 1) := by decide +kernel
theorem dL_run_12 : decode cL_run 12 = .ok (.goto 11, 3) := by decide +kernel
theorem dL_run_15 : decode cL_run 15 = .ok (.astore 5, 2) := by decide +kernel
theorem dL_run_17 : decode cL_run 17 = .ok (.iconst 1, 1) := by decide +kernel
theorem dL_run_18 : decode cL_run 18 = .ok (.ireturn, 1) := by decide +kernel
theorem dL_run_19 : decode cL_run 19 = .ok (.astore 5, 2) := by decide +kernel
theorem dL_run_21 : decode cL_run 21 = .ok (.iconst 2, 1) := by decide +kernel
theorem dL_run_22 : decode cL_run 22 = .ok (.ireturn, 1) := by decide +kernel
theorem dL_run_23 : decode cL_run 23 = .ok (.iconst 0, 1) := by decide +kernel
theorem dL_run_24 : decode cL_run 24 = .ok (.ireturn, 1) := by decide +kernel
theorem dL_total_0 : decode cL_total 0 = .ok (.aload_n 2, 1) := by decide +kernel
theorem dL_total_1 : decode cL_total 1 = .ok (.iconst 0, 1) := by decide +kernel
theorem dL_total_2 : decode cL_total 2 = .ok (.aload_n 0, 1) := by decide +kernel
theorem dL_total_3 : decode cL_total 3 = .ok (.iload_n 1, 1) := by decide +kernel
theorem dL_total_4 : decode cL_total 4 = .ok (.invokevirtual 42, 3) := by decide +kernel
theorem dL_total_7 : decode cL_total 7 = .ok (.lastore, 1) := by decide +kernel
theorem dL_total_8 : decode cL_total 8 = .ok (.goto 6, 3) := by decide +kernel
theorem dL_total_11 : decode cL_total 11 = .ok (.astore_n 3, 1) := by decide +kernel
theorem dL_total_12 : decode cL_total 12 = .ok (.iconst 1, 1) := by decide +kernel
theorem dL_total_13 : decode cL_total 13 = .ok (.ireturn, 1) := by decide +kernel
theorem dL_total_14 : decode cL_total 14 = .ok (.iconst 0, 1) := by decide +kernel
theorem dL_total_15 : decode cL_total 15 = .ok (.ireturn, 1) := by decide +kernel
theorem dL_tier_0 : decode cL_tier 0 = .ok (.aload_n 2, 1) := by decide +kernel
theorem dL_tier_1 : decode cL_tier 1 = .ok (.iconst 0, 1) := by decide +kernel
theorem dL_tier_2 : decode cL_tier 2 = .ok (.aload_n 0, 1) := by decide +kernel
theorem dL_tier_3 : decode cL_tier 3 = .ok (.iload_n 1, 1) := by decide +kernel
theorem dL_tier_4 : decode cL_tier 4 = .ok (.invokevirtual 46, 3) := by decide +kernel
theorem dL_tier_7 : decode cL_tier 7 = .ok (.i2l, 1) := by decide +kernel
theorem dL_tier_8 : decode cL_tier 8 = .ok (.lastore, 1) := by decide +kernel
theorem dL_tier_9 : decode cL_tier 9 = .ok (.goto 6, 3) := by decide +kernel
theorem dL_tier_12 : decode cL_tier 12 = .ok (.astore_n 3, 1) := by decide +kernel
theorem dL_tier_13 : decode cL_tier 13 = .ok (.iconst 1, 1) := by decide +kernel
theorem dL_tier_14 : decode cL_tier 14 = .ok (.ireturn, 1) := by decide +kernel
theorem dL_tier_15 : decode cL_tier 15 = .ok (.iconst 0, 1) := by decide +kernel
theorem dL_tier_16 : decode cL_tier 16 = .ok (.ireturn, 1) := by decide +kernel
theorem dL_heat_0 : decode cL_heat 0 = .ok (.aload_n 2, 1) := by decide +kernel
theorem dL_heat_1 : decode cL_heat 1 = .ok (.iconst 0, 1) := by decide +kernel
theorem dL_heat_2 : decode cL_heat 2 = .ok (.aload_n 0, 1) := by decide +kernel
theorem dL_heat_3 : decode cL_heat 3 = .ok (.iload_n 1, 1) := by decide +kernel
theorem dL_heat_4 : decode cL_heat 4 = .ok (.invokevirtual 49, 3) := by decide +kernel
theorem dL_heat_7 : decode cL_heat 7 = .ok (.i2l, 1) := by decide +kernel
theorem dL_heat_8 : decode cL_heat 8 = .ok (.lastore, 1) := by decide +kernel
theorem dL_heat_9 : decode cL_heat 9 = .ok (.goto 6, 3) := by decide +kernel
theorem dL_heat_12 : decode cL_heat 12 = .ok (.astore_n 3, 1) := by decide +kernel
theorem dL_heat_13 : decode cL_heat 13 = .ok (.iconst 1, 1) := by decide +kernel
theorem dL_heat_14 : decode cL_heat 14 = .ok (.ireturn, 1) := by decide +kernel
theorem dL_heat_15 : decode cL_heat 15 = .ok (.iconst 0, 1) := by decide +kernel
theorem dL_heat_16 : decode cL_heat 16 = .ok (.ireturn, 1) := by decide +kernel
theorem dL_disappointments_0 : decode cL_disappointments 0 = .ok (.aload_n 2, 1) := by decide +kernel
theorem dL_disappointments_1 : decode cL_disappointments 1 = .ok (.iconst 0, 1) := by decide +kernel
theorem dL_disappointments_2 : decode cL_disappointments 2 = .ok (.aload_n 0, 1) := by decide +kernel
theorem dL_disappointments_3 : decode cL_disappointments 3 = .ok (.iload_n 1, 1) := by decide +kernel
theorem dL_disappointments_4 : decode cL_disappointments 4 = .ok (.invokevirtual 52, 3) := by decide +kernel
theorem dL_disappointments_7 : decode cL_disappointments 7 = .ok (.i2l, 1) := by decide +kernel
theorem dL_disappointments_8 : decode cL_disappointments 8 = .ok (.lastore, 1) := by decide +kernel
theorem dL_disappointments_9 : decode cL_disappointments 9 = .ok (.goto 6, 3) := by decide +kernel
theorem dL_disappointments_12 : decode cL_disappointments 12 = .ok (.astore_n 3, 1) := by decide +kernel
theorem dL_disappointments_13 : decode cL_disappointments 13 = .ok (.iconst 1, 1) := by decide +kernel
theorem dL_disappointments_14 : decode cL_disappointments 14 = .ok (.ireturn, 1) := by decide +kernel
theorem dL_disappointments_15 : decode cL_disappointments 15 = .ok (.iconst 0, 1) := by decide +kernel
theorem dL_disappointments_16 : decode cL_disappointments 16 = .ok (.ireturn, 1) := by decide +kernel
theorem dL_met_0 : decode cL_met 0 = .ok (.aload_n 3, 1) := by decide +kernel
theorem dL_met_1 : decode cL_met 1 = .ok (.iconst 0, 1) := by decide +kernel
theorem dL_met_2 : decode cL_met 2 = .ok (.aload_n 0, 1) := by decide +kernel
theorem dL_met_3 : decode cL_met 3 = .ok (.iload_n 1, 1) := by decide +kernel
theorem dL_met_4 : decode cL_met 4 = .ok (.iload_n 2, 1) := by decide +kernel
theorem dL_met_5 : decode cL_met 5 = .ok (.invokevirtual 55, 3) := by decide +kernel
theorem dL_met_8 : decode cL_met 8 = .ok (.i2l, 1) := by decide +kernel
theorem dL_met_9 : decode cL_met 9 = .ok (.lastore, 1) := by decide +kernel
theorem dL_met_10 : decode cL_met 10 = .ok (.goto 7, 3) := by decide +kernel
theorem dL_met_13 : decode cL_met 13 = .ok (.astore 4, 2) := by decide +kernel
theorem dL_met_15 : decode cL_met 15 = .ok (.iconst 1, 1) := by decide +kernel
theorem dL_met_16 : decode cL_met 16 = .ok (.ireturn, 1) := by decide +kernel
theorem dL_met_17 : decode cL_met 17 = .ok (.iconst 0, 1) := by decide +kernel
theorem dL_met_18 : decode cL_met 18 = .ok (.ireturn, 1) := by decide +kernel
theorem dL_metClass_0 : decode cL_metClass 0 = .ok (.aload 4, 2) := by decide +kernel
theorem dL_metClass_2 : decode cL_metClass 2 = .ok (.iconst 0, 1) := by decide +kernel
theorem dL_metClass_3 : decode cL_metClass 3 = .ok (.aload_n 0, 1) := by decide +kernel
theorem dL_metClass_4 : decode cL_metClass 4 = .ok (.iload_n 1, 1) := by decide +kernel
theorem dL_metClass_5 : decode cL_metClass 5 = .ok (.iload_n 2, 1) := by decide +kernel
theorem dL_metClass_6 : decode cL_metClass 6 = .ok (.iload_n 3, 1) := by decide +kernel
theorem dL_metClass_7 : decode cL_metClass 7 = .ok (.invokevirtual 58, 3) := by decide +kernel
theorem dL_metClass_10 : decode cL_metClass 10 = .ok (.i2l, 1) := by decide +kernel
theorem dL_metClass_11 : decode cL_metClass 11 = .ok (.lastore, 1) := by decide +kernel
theorem dL_metClass_12 : decode cL_metClass 12 = .ok (.goto 7, 3) := by decide +kernel
theorem dL_metClass_15 : decode cL_metClass 15 = .ok (.astore 5, 2) := by decide +kernel
theorem dL_metClass_17 : decode cL_metClass 17 = .ok (.iconst 1, 1) := by decide +kernel
theorem dL_metClass_18 : decode cL_metClass 18 = .ok (.ireturn, 1) := by decide +kernel
theorem dL_metClass_19 : decode cL_metClass 19 = .ok (.iconst 0, 1) := by decide +kernel
theorem dL_metClass_20 : decode cL_metClass 20 = .ok (.ireturn, 1) := by decide +kernel
theorem dL_law_0 : decode cL_law 0 = .ok (.new 8, 3) := by decide +kernel
theorem dL_law_3 : decode cL_law 3 = .ok (.dup, 1) := by decide +kernel
theorem dL_law_4 : decode cL_law 4 = .ok (.invokespecial 61, 3) := by decide +kernel
theorem dL_law_7 : decode cL_law 7 = .ok (.astore_n 1, 1) := by decide +kernel
theorem dL_law_8 : decode cL_law 8 = .ok (.new 62, 3) := by decide +kernel
theorem dL_law_11 : decode cL_law 11 = .ok (.dup, 1) := by decide +kernel
theorem dL_law_12 : decode cL_law 12 = .ok (.invokespecial 64, 3) := by decide +kernel
theorem dL_law_15 : decode cL_law 15 = .ok (.astore_n 2, 1) := by decide +kernel
theorem dL_law_16 : decode cL_law 16 = .ok (.iconst 1, 1) := by decide +kernel
theorem dL_law_17 : decode cL_law 17 = .ok (.newarray .long, 2) := by decide +kernel
theorem dL_law_19 : decode cL_law 19 = .ok (.astore_n 3, 1) := by decide +kernel
theorem dL_law_20 : decode cL_law 20 = .ok (.iconst 0, 1) := by decide +kernel
theorem dL_law_21 : decode cL_law 21 = .ok (.istore 4, 2) := by decide +kernel
theorem dL_law_23 : decode cL_law 23 = .ok (.iload 4, 2) := by decide +kernel
theorem dL_law_25 : decode cL_law 25 = .ok (.aload_n 0, 1) := by decide +kernel
theorem dL_law_26 : decode cL_law 26 = .ok (.arraylength, 1) := by decide +kernel
theorem dL_law_27 : decode cL_law 27 = .ok (.bipush 7, 2) := by decide +kernel
theorem dL_law_29 : decode cL_law 29 = .ok (.isub, 1) := by decide +kernel
theorem dL_law_30 : decode cL_law 30 = .ok (.if_icmp .gt 1126, 3) := by decide +kernel
theorem dL_law_33 : decode cL_law 33 = .ok (.aload_n 0, 1) := by decide +kernel
theorem dL_law_34 : decode cL_law 34 = .ok (.iload 4, 2) := by decide +kernel
theorem dL_law_36 : decode cL_law 36 = .ok (.iaload, 1) := by decide +kernel
theorem dL_law_37 : decode cL_law 37 = .ok (.bipush 31, 2) := by decide +kernel
theorem dL_law_39 : decode cL_law 39 = .ok (.iand, 1) := by decide +kernel
theorem dL_law_40 : decode cL_law 40 = .ok (.tableswitch 1110 0 20 #[100, 156, 200, 318, 398, 466, 553, 566, 646, 659, 672, 685, 699, 712, 725, 780, 836, 892, 948, 1016, 1096], 100) := by decide +kernel
theorem dL_law_140 : decode cL_law 140 = .ok (.aload_n 1, 1) := by decide +kernel
theorem dL_law_141 : decode cL_law 141 = .ok (.aload_n 0, 1) := by decide +kernel
theorem dL_law_142 : decode cL_law 142 = .ok (.iload 4, 2) := by decide +kernel
theorem dL_law_144 : decode cL_law 144 = .ok (.iconst 1, 1) := by decide +kernel
theorem dL_law_145 : decode cL_law 145 = .ok (.iadd, 1) := by decide +kernel
theorem dL_law_146 : decode cL_law 146 = .ok (.iaload, 1) := by decide +kernel
theorem dL_law_147 : decode cL_law 147 = .ok (.aload_n 3, 1) := by decide +kernel
theorem dL_law_148 : decode cL_law 148 = .ok (.invokestatic 65, 3) := by decide +kernel
theorem dL_law_151 : decode cL_law 151 = .ok (.istore 5, 2) := by decide +kernel
theorem dL_law_153 : decode cL_law 153 = .ok (.aload_n 2, 1) := by decide +kernel
theorem dL_law_154 : decode cL_law 154 = .ok (.aload_n 0, 1) := by decide +kernel
theorem dL_law_155 : decode cL_law 155 = .ok (.iload 4, 2) := by decide +kernel
theorem dL_law_157 : decode cL_law 157 = .ok (.iconst 1, 1) := by decide +kernel
theorem dL_law_158 : decode cL_law 158 = .ok (.iadd, 1) := by decide +kernel
theorem dL_law_159 : decode cL_law 159 = .ok (.iaload, 1) := by decide +kernel
theorem dL_law_160 : decode cL_law 160 = .ok (.invokevirtual 70, 3) := by decide +kernel
theorem dL_law_163 : decode cL_law 163 = .ok (.istore 6, 2) := by decide +kernel
theorem dL_law_165 : decode cL_law 165 = .ok (.aload_n 2, 1) := by decide +kernel
theorem dL_law_166 : decode cL_law 166 = .ok (.invokevirtual 71, 3) := by decide +kernel
theorem dL_law_169 : decode cL_law 169 = .ok (.iload 5, 2) := by decide +kernel
theorem dL_law_171 : decode cL_law 171 = .ok (.if_icmp .eq 5, 3) := by decide +kernel
theorem dL_law_174 : decode cL_law 174 = .ok (.iconst 0, 1) := by decide +kernel
theorem dL_law_175 : decode cL_law 175 = .ok (.ireturn, 1) := by decide +kernel
theorem dL_law_176 : decode cL_law 176 = .ok (.iload 5, 2) := by decide +kernel
theorem dL_law_178 : decode cL_law 178 = .ok (.ifCond .ne 15, 3) := by decide +kernel
theorem dL_law_181 : decode cL_law 181 = .ok (.aload_n 3, 1) := by decide +kernel
theorem dL_law_182 : decode cL_law 182 = .ok (.iconst 0, 1) := by decide +kernel
theorem dL_law_183 : decode cL_law 183 = .ok (.laload, 1) := by decide +kernel
theorem dL_law_184 : decode cL_law 184 = .ok (.iload 6, 2) := by decide +kernel
theorem dL_law_186 : decode cL_law 186 = .ok (.i2l, 1) := by decide +kernel
theorem dL_law_187 : decode cL_law 187 = .ok (.lcmp, 1) := by decide +kernel
theorem dL_law_188 : decode cL_law 188 = .ok (.ifCond .eq 5, 3) := by decide +kernel
theorem dL_law_191 : decode cL_law 191 = .ok (.iconst 0, 1) := by decide +kernel
theorem dL_law_192 : decode cL_law 192 = .ok (.ireturn, 1) := by decide +kernel
theorem dL_law_193 : decode cL_law 193 = .ok (.goto 957, 3) := by decide +kernel
theorem dL_law_196 : decode cL_law 196 = .ok (.aload_n 1, 1) := by decide +kernel
theorem dL_law_197 : decode cL_law 197 = .ok (.aload_n 3, 1) := by decide +kernel
theorem dL_law_198 : decode cL_law 198 = .ok (.invokestatic 74, 3) := by decide +kernel
theorem dL_law_201 : decode cL_law 201 = .ok (.istore 5, 2) := by decide +kernel
theorem dL_law_203 : decode cL_law 203 = .ok (.aload_n 2, 1) := by decide +kernel
theorem dL_law_204 : decode cL_law 204 = .ok (.invokevirtual 77, 3) := by decide +kernel
theorem dL_law_207 : decode cL_law 207 = .ok (.istore 6, 2) := by decide +kernel
theorem dL_law_209 : decode cL_law 209 = .ok (.aload_n 2, 1) := by decide +kernel
theorem dL_law_210 : decode cL_law 210 = .ok (.invokevirtual 71, 3) := by decide +kernel
theorem dL_law_213 : decode cL_law 213 = .ok (.iload 5, 2) := by decide +kernel
theorem dL_law_215 : decode cL_law 215 = .ok (.if_icmp .eq 5, 3) := by decide +kernel
theorem dL_law_218 : decode cL_law 218 = .ok (.iconst 0, 1) := by decide +kernel
theorem dL_law_219 : decode cL_law 219 = .ok (.ireturn, 1) := by decide +kernel
theorem dL_law_220 : decode cL_law 220 = .ok (.iload 5, 2) := by decide +kernel
theorem dL_law_222 : decode cL_law 222 = .ok (.ifCond .ne 15, 3) := by decide +kernel
theorem dL_law_225 : decode cL_law 225 = .ok (.aload_n 3, 1) := by decide +kernel
theorem dL_law_226 : decode cL_law 226 = .ok (.iconst 0, 1) := by decide +kernel
theorem dL_law_227 : decode cL_law 227 = .ok (.laload, 1) := by decide +kernel
theorem dL_law_228 : decode cL_law 228 = .ok (.iload 6, 2) := by decide +kernel
theorem dL_law_230 : decode cL_law 230 = .ok (.i2l, 1) := by decide +kernel
theorem dL_law_231 : decode cL_law 231 = .ok (.lcmp, 1) := by decide +kernel
theorem dL_law_232 : decode cL_law 232 = .ok (.ifCond .eq 5, 3) := by decide +kernel
theorem dL_law_235 : decode cL_law 235 = .ok (.iconst 0, 1) := by decide +kernel
theorem dL_law_236 : decode cL_law 236 = .ok (.ireturn, 1) := by decide +kernel
theorem dL_law_237 : decode cL_law 237 = .ok (.goto 913, 3) := by decide +kernel
theorem dL_law_240 : decode cL_law 240 = .ok (.aload_n 1, 1) := by decide +kernel
theorem dL_law_241 : decode cL_law 241 = .ok (.aload_n 0, 1) := by decide +kernel
theorem dL_law_242 : decode cL_law 242 = .ok (.iload 4, 2) := by decide +kernel
theorem dL_law_244 : decode cL_law 244 = .ok (.iconst 1, 1) := by decide +kernel
theorem dL_law_245 : decode cL_law 245 = .ok (.iadd, 1) := by decide +kernel
theorem dL_law_246 : decode cL_law 246 = .ok (.iaload, 1) := by decide +kernel
theorem dL_law_247 : decode cL_law 247 = .ok (.aload_n 0, 1) := by decide +kernel
theorem dL_law_248 : decode cL_law 248 = .ok (.iload 4, 2) := by decide +kernel
theorem dL_law_250 : decode cL_law 250 = .ok (.iconst 2, 1) := by decide +kernel
theorem dL_law_251 : decode cL_law 251 = .ok (.iadd, 1) := by decide +kernel
theorem dL_law_252 : decode cL_law 252 = .ok (.iaload, 1) := by decide +kernel
theorem dL_law_253 : decode cL_law 253 = .ok (.aload_n 0, 1) := by decide +kernel
theorem dL_law_254 : decode cL_law 254 = .ok (.iload 4, 2) := by decide +kernel
theorem dL_law_256 : decode cL_law 256 = .ok (.iconst 3, 1) := by decide +kernel
theorem dL_law_257 : decode cL_law 257 = .ok (.iadd, 1) := by decide +kernel
theorem dL_law_258 : decode cL_law 258 = .ok (.iaload, 1) := by decide +kernel
theorem dL_law_259 : decode cL_law 259 = .ok (.aload_n 0, 1) := by decide +kernel
theorem dL_law_260 : decode cL_law 260 = .ok (.iload 4, 2) := by decide +kernel
theorem dL_law_262 : decode cL_law 262 = .ok (.iconst 4, 1) := by decide +kernel
theorem dL_law_263 : decode cL_law 263 = .ok (.iadd, 1) := by decide +kernel
theorem dL_law_264 : decode cL_law 264 = .ok (.iaload, 1) := by decide +kernel
theorem dL_law_265 : decode cL_law 265 = .ok (.aload_n 0, 1) := by decide +kernel
theorem dL_law_266 : decode cL_law 266 = .ok (.iload 4, 2) := by decide +kernel
theorem dL_law_268 : decode cL_law 268 = .ok (.iconst 5, 1) := by decide +kernel
theorem dL_law_269 : decode cL_law 269 = .ok (.iadd, 1) := by decide +kernel
theorem dL_law_270 : decode cL_law 270 = .ok (.iaload, 1) := by decide +kernel
theorem dL_law_271 : decode cL_law 271 = .ok (.aload_n 0, 1) := by decide +kernel
theorem dL_law_272 : decode cL_law 272 = .ok (.iload 4, 2) := by decide +kernel
theorem dL_law_274 : decode cL_law 274 = .ok (.bipush 6, 2) := by decide +kernel
theorem dL_law_276 : decode cL_law 276 = .ok (.iadd, 1) := by decide +kernel
theorem dL_law_277 : decode cL_law 277 = .ok (.iaload, 1) := by decide +kernel
theorem dL_law_278 : decode cL_law 278 = .ok (.aload_n 3, 1) := by decide +kernel
theorem dL_law_279 : decode cL_law 279 = .ok (.invokestatic 78, 3) := by decide +kernel
theorem dL_law_282 : decode cL_law 282 = .ok (.istore 5, 2) := by decide +kernel
theorem dL_law_284 : decode cL_law 284 = .ok (.aload_n 2, 1) := by decide +kernel
theorem dL_law_285 : decode cL_law 285 = .ok (.aload_n 0, 1) := by decide +kernel
theorem dL_law_286 : decode cL_law 286 = .ok (.iload 4, 2) := by decide +kernel
theorem dL_law_288 : decode cL_law 288 = .ok (.iconst 1, 1) := by decide +kernel
theorem dL_law_289 : decode cL_law 289 = .ok (.iadd, 1) := by decide +kernel
theorem dL_law_290 : decode cL_law 290 = .ok (.iaload, 1) := by decide +kernel
theorem dL_law_291 : decode cL_law 291 = .ok (.aload_n 0, 1) := by decide +kernel
theorem dL_law_292 : decode cL_law 292 = .ok (.iload 4, 2) := by decide +kernel
theorem dL_law_294 : decode cL_law 294 = .ok (.iconst 2, 1) := by decide +kernel
theorem dL_law_295 : decode cL_law 295 = .ok (.iadd, 1) := by decide +kernel
theorem dL_law_296 : decode cL_law 296 = .ok (.iaload, 1) := by decide +kernel
theorem dL_law_297 : decode cL_law 297 = .ok (.aload_n 0, 1) := by decide +kernel
theorem dL_law_298 : decode cL_law 298 = .ok (.iload 4, 2) := by decide +kernel
theorem dL_law_300 : decode cL_law 300 = .ok (.iconst 3, 1) := by decide +kernel
theorem dL_law_301 : decode cL_law 301 = .ok (.iadd, 1) := by decide +kernel
theorem dL_law_302 : decode cL_law 302 = .ok (.iaload, 1) := by decide +kernel
theorem dL_law_303 : decode cL_law 303 = .ok (.aload_n 0, 1) := by decide +kernel
theorem dL_law_304 : decode cL_law 304 = .ok (.iload 4, 2) := by decide +kernel
theorem dL_law_306 : decode cL_law 306 = .ok (.iconst 4, 1) := by decide +kernel
theorem dL_law_307 : decode cL_law 307 = .ok (.iadd, 1) := by decide +kernel
theorem dL_law_308 : decode cL_law 308 = .ok (.iaload, 1) := by decide +kernel
theorem dL_law_309 : decode cL_law 309 = .ok (.aload_n 0, 1) := by decide +kernel
theorem dL_law_310 : decode cL_law 310 = .ok (.iload 4, 2) := by decide +kernel
theorem dL_law_312 : decode cL_law 312 = .ok (.iconst 5, 1) := by decide +kernel
theorem dL_law_313 : decode cL_law 313 = .ok (.iadd, 1) := by decide +kernel
theorem dL_law_314 : decode cL_law 314 = .ok (.iaload, 1) := by decide +kernel
theorem dL_law_315 : decode cL_law 315 = .ok (.aload_n 0, 1) := by decide +kernel
theorem dL_law_316 : decode cL_law 316 = .ok (.iload 4, 2) := by decide +kernel
theorem dL_law_318 : decode cL_law 318 = .ok (.bipush 6, 2) := by decide +kernel
theorem dL_law_320 : decode cL_law 320 = .ok (.iadd, 1) := by decide +kernel
theorem dL_law_321 : decode cL_law 321 = .ok (.iaload, 1) := by decide +kernel
theorem dL_law_322 : decode cL_law 322 = .ok (.invokevirtual 81, 3) := by decide +kernel
theorem dL_law_325 : decode cL_law 325 = .ok (.istore 6, 2) := by decide +kernel
theorem dL_law_327 : decode cL_law 327 = .ok (.aload_n 2, 1) := by decide +kernel
theorem dL_law_328 : decode cL_law 328 = .ok (.invokevirtual 71, 3) := by decide +kernel
theorem dL_law_331 : decode cL_law 331 = .ok (.iload 5, 2) := by decide +kernel
theorem dL_law_333 : decode cL_law 333 = .ok (.if_icmp .eq 5, 3) := by decide +kernel
theorem dL_law_336 : decode cL_law 336 = .ok (.iconst 0, 1) := by decide +kernel
theorem dL_law_337 : decode cL_law 337 = .ok (.ireturn, 1) := by decide +kernel
theorem dL_law_338 : decode cL_law 338 = .ok (.iload 5, 2) := by decide +kernel
theorem dL_law_340 : decode cL_law 340 = .ok (.ifCond .ne 15, 3) := by decide +kernel
theorem dL_law_343 : decode cL_law 343 = .ok (.aload_n 3, 1) := by decide +kernel
theorem dL_law_344 : decode cL_law 344 = .ok (.iconst 0, 1) := by decide +kernel
theorem dL_law_345 : decode cL_law 345 = .ok (.laload, 1) := by decide +kernel
theorem dL_law_346 : decode cL_law 346 = .ok (.iload 6, 2) := by decide +kernel
theorem dL_law_348 : decode cL_law 348 = .ok (.i2l, 1) := by decide +kernel
theorem dL_law_349 : decode cL_law 349 = .ok (.lcmp, 1) := by decide +kernel
theorem dL_law_350 : decode cL_law 350 = .ok (.ifCond .eq 5, 3) := by decide +kernel
theorem dL_law_353 : decode cL_law 353 = .ok (.iconst 0, 1) := by decide +kernel
theorem dL_law_354 : decode cL_law 354 = .ok (.ireturn, 1) := by decide +kernel
theorem dL_law_355 : decode cL_law 355 = .ok (.goto 795, 3) := by decide +kernel
theorem dL_law_358 : decode cL_law 358 = .ok (.aload_n 1, 1) := by decide +kernel
theorem dL_law_359 : decode cL_law 359 = .ok (.aload_n 0, 1) := by decide +kernel
theorem dL_law_360 : decode cL_law 360 = .ok (.iload 4, 2) := by decide +kernel
theorem dL_law_362 : decode cL_law 362 = .ok (.iconst 1, 1) := by decide +kernel
theorem dL_law_363 : decode cL_law 363 = .ok (.iadd, 1) := by decide +kernel
theorem dL_law_364 : decode cL_law 364 = .ok (.iaload, 1) := by decide +kernel
theorem dL_law_365 : decode cL_law 365 = .ok (.aload_n 0, 1) := by decide +kernel
theorem dL_law_366 : decode cL_law 366 = .ok (.iload 4, 2) := by decide +kernel
theorem dL_law_368 : decode cL_law 368 = .ok (.iconst 2, 1) := by decide +kernel
theorem dL_law_369 : decode cL_law 369 = .ok (.iadd, 1) := by decide +kernel
theorem dL_law_370 : decode cL_law 370 = .ok (.iaload, 1) := by decide +kernel
theorem dL_law_371 : decode cL_law 371 = .ok (.aload_n 0, 1) := by decide +kernel
theorem dL_law_372 : decode cL_law 372 = .ok (.iload 4, 2) := by decide +kernel
theorem dL_law_374 : decode cL_law 374 = .ok (.iconst 3, 1) := by decide +kernel
theorem dL_law_375 : decode cL_law 375 = .ok (.iadd, 1) := by decide +kernel
theorem dL_law_376 : decode cL_law 376 = .ok (.iaload, 1) := by decide +kernel
theorem dL_law_377 : decode cL_law 377 = .ok (.aload_n 3, 1) := by decide +kernel
theorem dL_law_378 : decode cL_law 378 = .ok (.invokestatic 82, 3) := by decide +kernel
theorem dL_law_381 : decode cL_law 381 = .ok (.istore 5, 2) := by decide +kernel
theorem dL_law_383 : decode cL_law 383 = .ok (.aload_n 2, 1) := by decide +kernel
theorem dL_law_384 : decode cL_law 384 = .ok (.aload_n 0, 1) := by decide +kernel
theorem dL_law_385 : decode cL_law 385 = .ok (.iload 4, 2) := by decide +kernel
theorem dL_law_387 : decode cL_law 387 = .ok (.iconst 1, 1) := by decide +kernel
theorem dL_law_388 : decode cL_law 388 = .ok (.iadd, 1) := by decide +kernel
theorem dL_law_389 : decode cL_law 389 = .ok (.iaload, 1) := by decide +kernel
theorem dL_law_390 : decode cL_law 390 = .ok (.aload_n 0, 1) := by decide +kernel
theorem dL_law_391 : decode cL_law 391 = .ok (.iload 4, 2) := by decide +kernel
theorem dL_law_393 : decode cL_law 393 = .ok (.iconst 2, 1) := by decide +kernel
theorem dL_law_394 : decode cL_law 394 = .ok (.iadd, 1) := by decide +kernel
theorem dL_law_395 : decode cL_law 395 = .ok (.iaload, 1) := by decide +kernel
theorem dL_law_396 : decode cL_law 396 = .ok (.aload_n 0, 1) := by decide +kernel
theorem dL_law_397 : decode cL_law 397 = .ok (.iload 4, 2) := by decide +kernel
theorem dL_law_399 : decode cL_law 399 = .ok (.iconst 3, 1) := by decide +kernel
theorem dL_law_400 : decode cL_law 400 = .ok (.iadd, 1) := by decide +kernel
theorem dL_law_401 : decode cL_law 401 = .ok (.iaload, 1) := by decide +kernel
theorem dL_law_402 : decode cL_law 402 = .ok (.invokevirtual 85, 3) := by decide +kernel
theorem dL_law_405 : decode cL_law 405 = .ok (.istore 6, 2) := by decide +kernel
theorem dL_law_407 : decode cL_law 407 = .ok (.aload_n 2, 1) := by decide +kernel
theorem dL_law_408 : decode cL_law 408 = .ok (.invokevirtual 71, 3) := by decide +kernel
theorem dL_law_411 : decode cL_law 411 = .ok (.iload 5, 2) := by decide +kernel
theorem dL_law_413 : decode cL_law 413 = .ok (.if_icmp .eq 5, 3) := by decide +kernel
theorem dL_law_416 : decode cL_law 416 = .ok (.iconst 0, 1) := by decide +kernel
theorem dL_law_417 : decode cL_law 417 = .ok (.ireturn, 1) := by decide +kernel
theorem dL_law_418 : decode cL_law 418 = .ok (.iload 5, 2) := by decide +kernel
theorem dL_law_420 : decode cL_law 420 = .ok (.ifCond .ne 15, 3) := by decide +kernel
theorem dL_law_423 : decode cL_law 423 = .ok (.aload_n 3, 1) := by decide +kernel
theorem dL_law_424 : decode cL_law 424 = .ok (.iconst 0, 1) := by decide +kernel
theorem dL_law_425 : decode cL_law 425 = .ok (.laload, 1) := by decide +kernel
theorem dL_law_426 : decode cL_law 426 = .ok (.iload 6, 2) := by decide +kernel
theorem dL_law_428 : decode cL_law 428 = .ok (.i2l, 1) := by decide +kernel
theorem dL_law_429 : decode cL_law 429 = .ok (.lcmp, 1) := by decide +kernel
theorem dL_law_430 : decode cL_law 430 = .ok (.ifCond .eq 5, 3) := by decide +kernel
theorem dL_law_433 : decode cL_law 433 = .ok (.iconst 0, 1) := by decide +kernel
theorem dL_law_434 : decode cL_law 434 = .ok (.ireturn, 1) := by decide +kernel
theorem dL_law_435 : decode cL_law 435 = .ok (.goto 715, 3) := by decide +kernel
theorem dL_law_438 : decode cL_law 438 = .ok (.aload_n 1, 1) := by decide +kernel
theorem dL_law_439 : decode cL_law 439 = .ok (.aload_n 0, 1) := by decide +kernel
theorem dL_law_440 : decode cL_law 440 = .ok (.iload 4, 2) := by decide +kernel
theorem dL_law_442 : decode cL_law 442 = .ok (.iconst 1, 1) := by decide +kernel
theorem dL_law_443 : decode cL_law 443 = .ok (.iadd, 1) := by decide +kernel
theorem dL_law_444 : decode cL_law 444 = .ok (.iaload, 1) := by decide +kernel
theorem dL_law_445 : decode cL_law 445 = .ok (.aload_n 0, 1) := by decide +kernel
theorem dL_law_446 : decode cL_law 446 = .ok (.iload 4, 2) := by decide +kernel
theorem dL_law_448 : decode cL_law 448 = .ok (.iconst 2, 1) := by decide +kernel
theorem dL_law_449 : decode cL_law 449 = .ok (.iadd, 1) := by decide +kernel
theorem dL_law_450 : decode cL_law 450 = .ok (.iaload, 1) := by decide +kernel
theorem dL_law_451 : decode cL_law 451 = .ok (.aload_n 3, 1) := by decide +kernel
theorem dL_law_452 : decode cL_law 452 = .ok (.invokestatic 86, 3) := by decide +kernel
theorem dL_law_455 : decode cL_law 455 = .ok (.istore 5, 2) := by decide +kernel
theorem dL_law_457 : decode cL_law 457 = .ok (.aload_n 2, 1) := by decide +kernel
theorem dL_law_458 : decode cL_law 458 = .ok (.aload_n 0, 1) := by decide +kernel
theorem dL_law_459 : decode cL_law 459 = .ok (.iload 4, 2) := by decide +kernel
theorem dL_law_461 : decode cL_law 461 = .ok (.iconst 1, 1) := by decide +kernel
theorem dL_law_462 : decode cL_law 462 = .ok (.iadd, 1) := by decide +kernel
theorem dL_law_463 : decode cL_law 463 = .ok (.iaload, 1) := by decide +kernel
theorem dL_law_464 : decode cL_law 464 = .ok (.aload_n 0, 1) := by decide +kernel
theorem dL_law_465 : decode cL_law 465 = .ok (.iload 4, 2) := by decide +kernel
theorem dL_law_467 : decode cL_law 467 = .ok (.iconst 2, 1) := by decide +kernel
theorem dL_law_468 : decode cL_law 468 = .ok (.iadd, 1) := by decide +kernel
theorem dL_law_469 : decode cL_law 469 = .ok (.iaload, 1) := by decide +kernel
theorem dL_law_470 : decode cL_law 470 = .ok (.invokevirtual 89, 3) := by decide +kernel
theorem dL_law_473 : decode cL_law 473 = .ok (.istore 6, 2) := by decide +kernel
theorem dL_law_475 : decode cL_law 475 = .ok (.aload_n 2, 1) := by decide +kernel
theorem dL_law_476 : decode cL_law 476 = .ok (.invokevirtual 71, 3) := by decide +kernel
theorem dL_law_479 : decode cL_law 479 = .ok (.iload 5, 2) := by decide +kernel
theorem dL_law_481 : decode cL_law 481 = .ok (.if_icmp .eq 5, 3) := by decide +kernel
theorem dL_law_484 : decode cL_law 484 = .ok (.iconst 0, 1) := by decide +kernel
theorem dL_law_485 : decode cL_law 485 = .ok (.ireturn, 1) := by decide +kernel
theorem dL_law_486 : decode cL_law 486 = .ok (.iload 5, 2) := by decide +kernel
theorem dL_law_488 : decode cL_law 488 = .ok (.ifCond .ne 15, 3) := by decide +kernel
theorem dL_law_491 : decode cL_law 491 = .ok (.aload_n 3, 1) := by decide +kernel
theorem dL_law_492 : decode cL_law 492 = .ok (.iconst 0, 1) := by decide +kernel
theorem dL_law_493 : decode cL_law 493 = .ok (.laload, 1) := by decide +kernel
theorem dL_law_494 : decode cL_law 494 = .ok (.iload 6, 2) := by decide +kernel
theorem dL_law_496 : decode cL_law 496 = .ok (.i2l, 1) := by decide +kernel
theorem dL_law_497 : decode cL_law 497 = .ok (.lcmp, 1) := by decide +kernel
theorem dL_law_498 : decode cL_law 498 = .ok (.ifCond .eq 5, 3) := by decide +kernel
theorem dL_law_501 : decode cL_law 501 = .ok (.iconst 0, 1) := by decide +kernel
theorem dL_law_502 : decode cL_law 502 = .ok (.ireturn, 1) := by decide +kernel
theorem dL_law_503 : decode cL_law 503 = .ok (.goto 647, 3) := by decide +kernel
theorem dL_law_506 : decode cL_law 506 = .ok (.aload_n 1, 1) := by decide +kernel
theorem dL_law_507 : decode cL_law 507 = .ok (.aload_n 0, 1) := by decide +kernel
theorem dL_law_508 : decode cL_law 508 = .ok (.iload 4, 2) := by decide +kernel
theorem dL_law_510 : decode cL_law 510 = .ok (.iconst 1, 1) := by decide +kernel
theorem dL_law_511 : decode cL_law 511 = .ok (.iadd, 1) := by decide +kernel
theorem dL_law_512 : decode cL_law 512 = .ok (.iaload, 1) := by decide +kernel
theorem dL_law_513 : decode cL_law 513 = .ok (.aload_n 0, 1) := by decide +kernel
theorem dL_law_514 : decode cL_law 514 = .ok (.iload 4, 2) := by decide +kernel
theorem dL_law_516 : decode cL_law 516 = .ok (.iconst 2, 1) := by decide +kernel
theorem dL_law_517 : decode cL_law 517 = .ok (.iadd, 1) := by decide +kernel
theorem dL_law_518 : decode cL_law 518 = .ok (.iaload, 1) := by decide +kernel
theorem dL_law_519 : decode cL_law 519 = .ok (.aload_n 0, 1) := by decide +kernel
theorem dL_law_520 : decode cL_law 520 = .ok (.iload 4, 2) := by decide +kernel
theorem dL_law_522 : decode cL_law 522 = .ok (.iconst 3, 1) := by decide +kernel
theorem dL_law_523 : decode cL_law 523 = .ok (.iadd, 1) := by decide +kernel
theorem dL_law_524 : decode cL_law 524 = .ok (.iaload, 1) := by decide +kernel
theorem dL_law_525 : decode cL_law 525 = .ok (.aload_n 3, 1) := by decide +kernel
theorem dL_law_526 : decode cL_law 526 = .ok (.invokestatic 90, 3) := by decide +kernel
theorem dL_law_529 : decode cL_law 529 = .ok (.istore 5, 2) := by decide +kernel
theorem dL_law_531 : decode cL_law 531 = .ok (.aload_n 2, 1) := by decide +kernel
theorem dL_law_532 : decode cL_law 532 = .ok (.aload_n 0, 1) := by decide +kernel
theorem dL_law_533 : decode cL_law 533 = .ok (.iload 4, 2) := by decide +kernel
theorem dL_law_535 : decode cL_law 535 = .ok (.iconst 1, 1) := by decide +kernel
theorem dL_law_536 : decode cL_law 536 = .ok (.iadd, 1) := by decide +kernel
theorem dL_law_537 : decode cL_law 537 = .ok (.iaload, 1) := by decide +kernel
theorem dL_law_538 : decode cL_law 538 = .ok (.aload_n 0, 1) := by decide +kernel
theorem dL_law_539 : decode cL_law 539 = .ok (.iload 4, 2) := by decide +kernel
theorem dL_law_541 : decode cL_law 541 = .ok (.iconst 2, 1) := by decide +kernel
theorem dL_law_542 : decode cL_law 542 = .ok (.iadd, 1) := by decide +kernel
theorem dL_law_543 : decode cL_law 543 = .ok (.iaload, 1) := by decide +kernel
theorem dL_law_544 : decode cL_law 544 = .ok (.aload_n 0, 1) := by decide +kernel
theorem dL_law_545 : decode cL_law 545 = .ok (.iload 4, 2) := by decide +kernel
theorem dL_law_547 : decode cL_law 547 = .ok (.iconst 3, 1) := by decide +kernel
theorem dL_law_548 : decode cL_law 548 = .ok (.iadd, 1) := by decide +kernel
theorem dL_law_549 : decode cL_law 549 = .ok (.iaload, 1) := by decide +kernel
theorem dL_law_550 : decode cL_law 550 = .ok (.invokevirtual 92, 3) := by decide +kernel
theorem dL_law_553 : decode cL_law 553 = .ok (.istore 6, 2) := by decide +kernel
theorem dL_law_555 : decode cL_law 555 = .ok (.aload_n 2, 1) := by decide +kernel
theorem dL_law_556 : decode cL_law 556 = .ok (.invokevirtual 71, 3) := by decide +kernel
theorem dL_law_559 : decode cL_law 559 = .ok (.iload 5, 2) := by decide +kernel
theorem dL_law_561 : decode cL_law 561 = .ok (.if_icmp .eq 5, 3) := by decide +kernel
theorem dL_law_564 : decode cL_law 564 = .ok (.iconst 0, 1) := by decide +kernel
theorem dL_law_565 : decode cL_law 565 = .ok (.ireturn, 1) := by decide +kernel
theorem dL_law_566 : decode cL_law 566 = .ok (.iload 5, 2) := by decide +kernel
theorem dL_law_568 : decode cL_law 568 = .ok (.ifCond .ne 22, 3) := by decide +kernel
theorem dL_law_571 : decode cL_law 571 = .ok (.aload_n 3, 1) := by decide +kernel
theorem dL_law_572 : decode cL_law 572 = .ok (.iconst 0, 1) := by decide +kernel
theorem dL_law_573 : decode cL_law 573 = .ok (.laload, 1) := by decide +kernel
theorem dL_law_574 : decode cL_law 574 = .ok (.iload 6, 2) := by decide +kernel
theorem dL_law_576 : decode cL_law 576 = .ok (.ifCond .eq 7, 3) := by decide +kernel
theorem dL_law_579 : decode cL_law 579 = .ok (.lconst 1, 1) := by decide +kernel
theorem dL_law_580 : decode cL_law 580 = .ok (.goto 4, 3) := by decide +kernel
theorem dL_law_583 : decode cL_law 583 = .ok (.lconst 0, 1) := by decide +kernel
theorem dL_law_584 : decode cL_law 584 = .ok (.lcmp, 1) := by decide +kernel
theorem dL_law_585 : decode cL_law 585 = .ok (.ifCond .eq 5, 3) := by decide +kernel
theorem dL_law_588 : decode cL_law 588 = .ok (.iconst 0, 1) := by decide +kernel
theorem dL_law_589 : decode cL_law 589 = .ok (.ireturn, 1) := by decide +kernel
theorem dL_law_590 : decode cL_law 590 = .ok (.goto 560, 3) := by decide +kernel
theorem dL_law_593 : decode cL_law 593 = .ok (.aload_n 1, 1) := by decide +kernel
theorem dL_law_594 : decode cL_law 594 = .ok (.invokevirtual 93, 3) := by decide +kernel
theorem dL_law_597 : decode cL_law 597 = .ok (.aload_n 2, 1) := by decide +kernel
theorem dL_law_598 : decode cL_law 598 = .ok (.invokevirtual 96, 3) := by decide +kernel
theorem dL_law_601 : decode cL_law 601 = .ok (.if_icmp .eq 549, 3) := by decide +kernel
theorem dL_law_604 : decode cL_law 604 = .ok (.iconst 0, 1) := by decide +kernel
theorem dL_law_605 : decode cL_law 605 = .ok (.ireturn, 1) := by decide +kernel
theorem dL_law_606 : decode cL_law 606 = .ok (.aload_n 1, 1) := by decide +kernel
theorem dL_law_607 : decode cL_law 607 = .ok (.aload_n 0, 1) := by decide +kernel
theorem dL_law_608 : decode cL_law 608 = .ok (.iload 4, 2) := by decide +kernel
theorem dL_law_610 : decode cL_law 610 = .ok (.iconst 1, 1) := by decide +kernel
theorem dL_law_611 : decode cL_law 611 = .ok (.iadd, 1) := by decide +kernel
theorem dL_law_612 : decode cL_law 612 = .ok (.iaload, 1) := by decide +kernel
theorem dL_law_613 : decode cL_law 613 = .ok (.aload_n 0, 1) := by decide +kernel
theorem dL_law_614 : decode cL_law 614 = .ok (.iload 4, 2) := by decide +kernel
theorem dL_law_616 : decode cL_law 616 = .ok (.iconst 2, 1) := by decide +kernel
theorem dL_law_617 : decode cL_law 617 = .ok (.iadd, 1) := by decide +kernel
theorem dL_law_618 : decode cL_law 618 = .ok (.iaload, 1) := by decide +kernel
theorem dL_law_619 : decode cL_law 619 = .ok (.aload_n 0, 1) := by decide +kernel
theorem dL_law_620 : decode cL_law 620 = .ok (.iload 4, 2) := by decide +kernel
theorem dL_law_622 : decode cL_law 622 = .ok (.iconst 3, 1) := by decide +kernel
theorem dL_law_623 : decode cL_law 623 = .ok (.iadd, 1) := by decide +kernel
theorem dL_law_624 : decode cL_law 624 = .ok (.iaload, 1) := by decide +kernel
theorem dL_law_625 : decode cL_law 625 = .ok (.aload_n 3, 1) := by decide +kernel
theorem dL_law_626 : decode cL_law 626 = .ok (.invokestatic 97, 3) := by decide +kernel
theorem dL_law_629 : decode cL_law 629 = .ok (.istore 5, 2) := by decide +kernel
theorem dL_law_631 : decode cL_law 631 = .ok (.aload_n 2, 1) := by decide +kernel
theorem dL_law_632 : decode cL_law 632 = .ok (.aload_n 0, 1) := by decide +kernel
theorem dL_law_633 : decode cL_law 633 = .ok (.iload 4, 2) := by decide +kernel
theorem dL_law_635 : decode cL_law 635 = .ok (.iconst 1, 1) := by decide +kernel
theorem dL_law_636 : decode cL_law 636 = .ok (.iadd, 1) := by decide +kernel
theorem dL_law_637 : decode cL_law 637 = .ok (.iaload, 1) := by decide +kernel
theorem dL_law_638 : decode cL_law 638 = .ok (.aload_n 0, 1) := by decide +kernel
theorem dL_law_639 : decode cL_law 639 = .ok (.iload 4, 2) := by decide +kernel
theorem dL_law_641 : decode cL_law 641 = .ok (.iconst 2, 1) := by decide +kernel
theorem dL_law_642 : decode cL_law 642 = .ok (.iadd, 1) := by decide +kernel
theorem dL_law_643 : decode cL_law 643 = .ok (.iaload, 1) := by decide +kernel
theorem dL_law_644 : decode cL_law 644 = .ok (.aload_n 0, 1) := by decide +kernel
theorem dL_law_645 : decode cL_law 645 = .ok (.iload 4, 2) := by decide +kernel
theorem dL_law_647 : decode cL_law 647 = .ok (.iconst 3, 1) := by decide +kernel
theorem dL_law_648 : decode cL_law 648 = .ok (.iadd, 1) := by decide +kernel
theorem dL_law_649 : decode cL_law 649 = .ok (.iaload, 1) := by decide +kernel
theorem dL_law_650 : decode cL_law 650 = .ok (.invokevirtual 99, 3) := by decide +kernel
theorem dL_law_653 : decode cL_law 653 = .ok (.istore 6, 2) := by decide +kernel
theorem dL_law_655 : decode cL_law 655 = .ok (.aload_n 2, 1) := by decide +kernel
theorem dL_law_656 : decode cL_law 656 = .ok (.invokevirtual 71, 3) := by decide +kernel
theorem dL_law_659 : decode cL_law 659 = .ok (.iload 5, 2) := by decide +kernel
theorem dL_law_661 : decode cL_law 661 = .ok (.if_icmp .eq 5, 3) := by decide +kernel
theorem dL_law_664 : decode cL_law 664 = .ok (.iconst 0, 1) := by decide +kernel
theorem dL_law_665 : decode cL_law 665 = .ok (.ireturn, 1) := by decide +kernel
theorem dL_law_666 : decode cL_law 666 = .ok (.iload 5, 2) := by decide +kernel
theorem dL_law_668 : decode cL_law 668 = .ok (.ifCond .ne 15, 3) := by decide +kernel
theorem dL_law_671 : decode cL_law 671 = .ok (.aload_n 3, 1) := by decide +kernel
theorem dL_law_672 : decode cL_law 672 = .ok (.iconst 0, 1) := by decide +kernel
theorem dL_law_673 : decode cL_law 673 = .ok (.laload, 1) := by decide +kernel
theorem dL_law_674 : decode cL_law 674 = .ok (.iload 6, 2) := by decide +kernel
theorem dL_law_676 : decode cL_law 676 = .ok (.i2l, 1) := by decide +kernel
theorem dL_law_677 : decode cL_law 677 = .ok (.lcmp, 1) := by decide +kernel
theorem dL_law_678 : decode cL_law 678 = .ok (.ifCond .eq 5, 3) := by decide +kernel
theorem dL_law_681 : decode cL_law 681 = .ok (.iconst 0, 1) := by decide +kernel
theorem dL_law_682 : decode cL_law 682 = .ok (.ireturn, 1) := by decide +kernel
theorem dL_law_683 : decode cL_law 683 = .ok (.goto 467, 3) := by decide +kernel
theorem dL_law_686 : decode cL_law 686 = .ok (.aload_n 1, 1) := by decide +kernel
theorem dL_law_687 : decode cL_law 687 = .ok (.invokevirtual 100, 3) := by decide +kernel
theorem dL_law_690 : decode cL_law 690 = .ok (.aload_n 2, 1) := by decide +kernel
theorem dL_law_691 : decode cL_law 691 = .ok (.invokevirtual 103, 3) := by decide +kernel
theorem dL_law_694 : decode cL_law 694 = .ok (.if_icmp .eq 456, 3) := by decide +kernel
theorem dL_law_697 : decode cL_law 697 = .ok (.iconst 0, 1) := by decide +kernel
theorem dL_law_698 : decode cL_law 698 = .ok (.ireturn, 1) := by decide +kernel
theorem dL_law_699 : decode cL_law 699 = .ok (.aload_n 1, 1) := by decide +kernel
theorem dL_law_700 : decode cL_law 700 = .ok (.invokevirtual 104, 3) := by decide +kernel
theorem dL_law_703 : decode cL_law 703 = .ok (.aload_n 2, 1) := by decide +kernel
theorem dL_law_704 : decode cL_law 704 = .ok (.invokevirtual 107, 3) := by decide +kernel
theorem dL_law_707 : decode cL_law 707 = .ok (.if_icmp .eq 443, 3) := by decide +kernel
theorem dL_law_710 : decode cL_law 710 = .ok (.iconst 0, 1) := by decide +kernel
theorem dL_law_711 : decode cL_law 711 = .ok (.ireturn, 1) := by decide +kernel
theorem dL_law_712 : decode cL_law 712 = .ok (.aload_n 1, 1) := by decide +kernel
theorem dL_law_713 : decode cL_law 713 = .ok (.invokevirtual 108, 3) := by decide +kernel
theorem dL_law_716 : decode cL_law 716 = .ok (.aload_n 2, 1) := by decide +kernel
theorem dL_law_717 : decode cL_law 717 = .ok (.invokevirtual 111, 3) := by decide +kernel
theorem dL_law_720 : decode cL_law 720 = .ok (.if_icmp .eq 430, 3) := by decide +kernel
theorem dL_law_723 : decode cL_law 723 = .ok (.iconst 0, 1) := by decide +kernel
theorem dL_law_724 : decode cL_law 724 = .ok (.ireturn, 1) := by decide +kernel
theorem dL_law_725 : decode cL_law 725 = .ok (.aload_n 1, 1) := by decide +kernel
theorem dL_law_726 : decode cL_law 726 = .ok (.invokevirtual 112, 3) := by decide +kernel
theorem dL_law_729 : decode cL_law 729 = .ok (.aload_n 2, 1) := by decide +kernel
theorem dL_law_730 : decode cL_law 730 = .ok (.invokevirtual 116, 3) := by decide +kernel
theorem dL_law_733 : decode cL_law 733 = .ok (.lcmp, 1) := by decide +kernel
theorem dL_law_734 : decode cL_law 734 = .ok (.ifCond .eq 416, 3) := by decide +kernel
theorem dL_law_737 : decode cL_law 737 = .ok (.iconst 0, 1) := by decide +kernel
theorem dL_law_738 : decode cL_law 738 = .ok (.ireturn, 1) := by decide +kernel
theorem dL_law_739 : decode cL_law 739 = .ok (.aload_n 1, 1) := by decide +kernel
theorem dL_law_740 : decode cL_law 740 = .ok (.invokevirtual 117, 3) := by decide +kernel
theorem dL_law_743 : decode cL_law 743 = .ok (.aload_n 2, 1) := by decide +kernel
theorem dL_law_744 : decode cL_law 744 = .ok (.invokevirtual 120, 3) := by decide +kernel
theorem dL_law_747 : decode cL_law 747 = .ok (.if_icmp .eq 403, 3) := by decide +kernel
theorem dL_law_750 : decode cL_law 750 = .ok (.iconst 0, 1) := by decide +kernel
theorem dL_law_751 : decode cL_law 751 = .ok (.ireturn, 1) := by decide +kernel
theorem dL_law_752 : decode cL_law 752 = .ok (.aload_n 1, 1) := by decide +kernel
theorem dL_law_753 : decode cL_law 753 = .ok (.invokevirtual 121, 3) := by decide +kernel
theorem dL_law_756 : decode cL_law 756 = .ok (.aload_n 2, 1) := by decide +kernel
theorem dL_law_757 : decode cL_law 757 = .ok (.invokevirtual 124, 3) := by decide +kernel
theorem dL_law_760 : decode cL_law 760 = .ok (.if_icmp .eq 390, 3) := by decide +kernel
theorem dL_law_763 : decode cL_law 763 = .ok (.iconst 0, 1) := by decide +kernel
theorem dL_law_764 : decode cL_law 764 = .ok (.ireturn, 1) := by decide +kernel
theorem dL_law_765 : decode cL_law 765 = .ok (.aload_n 1, 1) := by decide +kernel
theorem dL_law_766 : decode cL_law 766 = .ok (.aload_n 0, 1) := by decide +kernel
theorem dL_law_767 : decode cL_law 767 = .ok (.iload 4, 2) := by decide +kernel
theorem dL_law_769 : decode cL_law 769 = .ok (.iconst 1, 1) := by decide +kernel
theorem dL_law_770 : decode cL_law 770 = .ok (.iadd, 1) := by decide +kernel
theorem dL_law_771 : decode cL_law 771 = .ok (.iaload, 1) := by decide +kernel
theorem dL_law_772 : decode cL_law 772 = .ok (.aload_n 3, 1) := by decide +kernel
theorem dL_law_773 : decode cL_law 773 = .ok (.invokestatic 125, 3) := by decide +kernel
theorem dL_law_776 : decode cL_law 776 = .ok (.istore 5, 2) := by decide +kernel
theorem dL_law_778 : decode cL_law 778 = .ok (.aload_n 2, 1) := by decide +kernel
theorem dL_law_779 : decode cL_law 779 = .ok (.aload_n 0, 1) := by decide +kernel
theorem dL_law_780 : decode cL_law 780 = .ok (.iload 4, 2) := by decide +kernel
theorem dL_law_782 : decode cL_law 782 = .ok (.iconst 1, 1) := by decide +kernel
theorem dL_law_783 : decode cL_law 783 = .ok (.iadd, 1) := by decide +kernel
theorem dL_law_784 : decode cL_law 784 = .ok (.iaload, 1) := by decide +kernel
theorem dL_law_785 : decode cL_law 785 = .ok (.invokevirtual 127, 3) := by decide +kernel
theorem dL_law_788 : decode cL_law 788 = .ok (.lstore 6, 2) := by decide +kernel
theorem dL_law_790 : decode cL_law 790 = .ok (.aload_n 2, 1) := by decide +kernel
theorem dL_law_791 : decode cL_law 791 = .ok (.invokevirtual 71, 3) := by decide +kernel
theorem dL_law_794 : decode cL_law 794 = .ok (.iload 5, 2) := by decide +kernel
theorem dL_law_796 : decode cL_law 796 = .ok (.if_icmp .eq 5, 3) := by decide +kernel
theorem dL_law_799 : decode cL_law 799 = .ok (.iconst 0, 1) := by decide +kernel
theorem dL_law_800 : decode cL_law 800 = .ok (.ireturn, 1) := by decide +kernel
theorem dL_law_801 : decode cL_law 801 = .ok (.iload 5, 2) := by decide +kernel
theorem dL_law_803 : decode cL_law 803 = .ok (.ifCond .ne 14, 3) := by decide +kernel
theorem dL_law_806 : decode cL_law 806 = .ok (.aload_n 3, 1) := by decide +kernel
theorem dL_law_807 : decode cL_law 807 = .ok (.iconst 0, 1) := by decide +kernel
theorem dL_law_808 : decode cL_law 808 = .ok (.laload, 1) := by decide +kernel
theorem dL_law_809 : decode cL_law 809 = .ok (.lload 6, 2) := by decide +kernel
theorem dL_law_811 : decode cL_law 811 = .ok (.lcmp, 1) := by decide +kernel
theorem dL_law_812 : decode cL_law 812 = .ok (.ifCond .eq 5, 3) := by decide +kernel
theorem dL_law_815 : decode cL_law 815 = .ok (.iconst 0, 1) := by decide +kernel
theorem dL_law_816 : decode cL_law 816 = .ok (.ireturn, 1) := by decide +kernel
theorem dL_law_817 : decode cL_law 817 = .ok (.goto 333, 3) := by decide +kernel
theorem dL_law_820 : decode cL_law 820 = .ok (.aload_n 1, 1) := by decide +kernel
theorem dL_law_821 : decode cL_law 821 = .ok (.aload_n 0, 1) := by decide +kernel
theorem dL_law_822 : decode cL_law 822 = .ok (.iload 4, 2) := by decide +kernel
theorem dL_law_824 : decode cL_law 824 = .ok (.iconst 1, 1) := by decide +kernel
theorem dL_law_825 : decode cL_law 825 = .ok (.iadd, 1) := by decide +kernel
theorem dL_law_826 : decode cL_law 826 = .ok (.iaload, 1) := by decide +kernel
theorem dL_law_827 : decode cL_law 827 = .ok (.aload_n 3, 1) := by decide +kernel
theorem dL_law_828 : decode cL_law 828 = .ok (.invokestatic 128, 3) := by decide +kernel
theorem dL_law_831 : decode cL_law 831 = .ok (.istore 5, 2) := by decide +kernel
theorem dL_law_833 : decode cL_law 833 = .ok (.aload_n 2, 1) := by decide +kernel
theorem dL_law_834 : decode cL_law 834 = .ok (.aload_n 0, 1) := by decide +kernel
theorem dL_law_835 : decode cL_law 835 = .ok (.iload 4, 2) := by decide +kernel
theorem dL_law_837 : decode cL_law 837 = .ok (.iconst 1, 1) := by decide +kernel
theorem dL_law_838 : decode cL_law 838 = .ok (.iadd, 1) := by decide +kernel
theorem dL_law_839 : decode cL_law 839 = .ok (.iaload, 1) := by decide +kernel
theorem dL_law_840 : decode cL_law 840 = .ok (.invokevirtual 130, 3) := by decide +kernel
theorem dL_law_843 : decode cL_law 843 = .ok (.istore 6, 2) := by decide +kernel
theorem dL_law_845 : decode cL_law 845 = .ok (.aload_n 2, 1) := by decide +kernel
theorem dL_law_846 : decode cL_law 846 = .ok (.invokevirtual 71, 3) := by decide +kernel
theorem dL_law_849 : decode cL_law 849 = .ok (.iload 5, 2) := by decide +kernel
theorem dL_law_851 : decode cL_law 851 = .ok (.if_icmp .eq 5, 3) := by decide +kernel
theorem dL_law_854 : decode cL_law 854 = .ok (.iconst 0, 1) := by decide +kernel
theorem dL_law_855 : decode cL_law 855 = .ok (.ireturn, 1) := by decide +kernel
theorem dL_law_856 : decode cL_law 856 = .ok (.iload 5, 2) := by decide +kernel
theorem dL_law_858 : decode cL_law 858 = .ok (.ifCond .ne 15, 3) := by decide +kernel
theorem dL_law_861 : decode cL_law 861 = .ok (.aload_n 3, 1) := by decide +kernel
theorem dL_law_862 : decode cL_law 862 = .ok (.iconst 0, 1) := by decide +kernel
theorem dL_law_863 : decode cL_law 863 = .ok (.laload, 1) := by decide +kernel
theorem dL_law_864 : decode cL_law 864 = .ok (.iload 6, 2) := by decide +kernel
theorem dL_law_866 : decode cL_law 866 = .ok (.i2l, 1) := by decide +kernel
theorem dL_law_867 : decode cL_law 867 = .ok (.lcmp, 1) := by decide +kernel
theorem dL_law_868 : decode cL_law 868 = .ok (.ifCond .eq 5, 3) := by decide +kernel
theorem dL_law_871 : decode cL_law 871 = .ok (.iconst 0, 1) := by decide +kernel
theorem dL_law_872 : decode cL_law 872 = .ok (.ireturn, 1) := by decide +kernel
theorem dL_law_873 : decode cL_law 873 = .ok (.goto 277, 3) := by decide +kernel
theorem dL_law_876 : decode cL_law 876 = .ok (.aload_n 1, 1) := by decide +kernel
theorem dL_law_877 : decode cL_law 877 = .ok (.aload_n 0, 1) := by decide +kernel
theorem dL_law_878 : decode cL_law 878 = .ok (.iload 4, 2) := by decide +kernel
theorem dL_law_880 : decode cL_law 880 = .ok (.iconst 1, 1) := by decide +kernel
theorem dL_law_881 : decode cL_law 881 = .ok (.iadd, 1) := by decide +kernel
theorem dL_law_882 : decode cL_law 882 = .ok (.iaload, 1) := by decide +kernel
theorem dL_law_883 : decode cL_law 883 = .ok (.aload_n 3, 1) := by decide +kernel
theorem dL_law_884 : decode cL_law 884 = .ok (.invokestatic 131, 3) := by decide +kernel
theorem dL_law_887 : decode cL_law 887 = .ok (.istore 5, 2) := by decide +kernel
theorem dL_law_889 : decode cL_law 889 = .ok (.aload_n 2, 1) := by decide +kernel
theorem dL_law_890 : decode cL_law 890 = .ok (.aload_n 0, 1) := by decide +kernel
theorem dL_law_891 : decode cL_law 891 = .ok (.iload 4, 2) := by decide +kernel
theorem dL_law_893 : decode cL_law 893 = .ok (.iconst 1, 1) := by decide +kernel
theorem dL_law_894 : decode cL_law 894 = .ok (.iadd, 1) := by decide +kernel
theorem dL_law_895 : decode cL_law 895 = .ok (.iaload, 1) := by decide +kernel
theorem dL_law_896 : decode cL_law 896 = .ok (.invokevirtual 133, 3) := by decide +kernel
theorem dL_law_899 : decode cL_law 899 = .ok (.istore 6, 2) := by decide +kernel
theorem dL_law_901 : decode cL_law 901 = .ok (.aload_n 2, 1) := by decide +kernel
theorem dL_law_902 : decode cL_law 902 = .ok (.invokevirtual 71, 3) := by decide +kernel
theorem dL_law_905 : decode cL_law 905 = .ok (.iload 5, 2) := by decide +kernel
theorem dL_law_907 : decode cL_law 907 = .ok (.if_icmp .eq 5, 3) := by decide +kernel
theorem dL_law_910 : decode cL_law 910 = .ok (.iconst 0, 1) := by decide +kernel
theorem dL_law_911 : decode cL_law 911 = .ok (.ireturn, 1) := by decide +kernel
theorem dL_law_912 : decode cL_law 912 = .ok (.iload 5, 2) := by decide +kernel
theorem dL_law_914 : decode cL_law 914 = .ok (.ifCond .ne 15, 3) := by decide +kernel
theorem dL_law_917 : decode cL_law 917 = .ok (.aload_n 3, 1) := by decide +kernel
theorem dL_law_918 : decode cL_law 918 = .ok (.iconst 0, 1) := by decide +kernel
theorem dL_law_919 : decode cL_law 919 = .ok (.laload, 1) := by decide +kernel
theorem dL_law_920 : decode cL_law 920 = .ok (.iload 6, 2) := by decide +kernel
theorem dL_law_922 : decode cL_law 922 = .ok (.i2l, 1) := by decide +kernel
theorem dL_law_923 : decode cL_law 923 = .ok (.lcmp, 1) := by decide +kernel
theorem dL_law_924 : decode cL_law 924 = .ok (.ifCond .eq 5, 3) := by decide +kernel
theorem dL_law_927 : decode cL_law 927 = .ok (.iconst 0, 1) := by decide +kernel
theorem dL_law_928 : decode cL_law 928 = .ok (.ireturn, 1) := by decide +kernel
theorem dL_law_929 : decode cL_law 929 = .ok (.goto 221, 3) := by decide +kernel
theorem dL_law_932 : decode cL_law 932 = .ok (.aload_n 1, 1) := by decide +kernel
theorem dL_law_933 : decode cL_law 933 = .ok (.aload_n 0, 1) := by decide +kernel
theorem dL_law_934 : decode cL_law 934 = .ok (.iload 4, 2) := by decide +kernel
theorem dL_law_936 : decode cL_law 936 = .ok (.iconst 1, 1) := by decide +kernel
theorem dL_law_937 : decode cL_law 937 = .ok (.iadd, 1) := by decide +kernel
theorem dL_law_938 : decode cL_law 938 = .ok (.iaload, 1) := by decide +kernel
theorem dL_law_939 : decode cL_law 939 = .ok (.aload_n 3, 1) := by decide +kernel
theorem dL_law_940 : decode cL_law 940 = .ok (.invokestatic 134, 3) := by decide +kernel
theorem dL_law_943 : decode cL_law 943 = .ok (.istore 5, 2) := by decide +kernel
theorem dL_law_945 : decode cL_law 945 = .ok (.aload_n 2, 1) := by decide +kernel
theorem dL_law_946 : decode cL_law 946 = .ok (.aload_n 0, 1) := by decide +kernel
theorem dL_law_947 : decode cL_law 947 = .ok (.iload 4, 2) := by decide +kernel
theorem dL_law_949 : decode cL_law 949 = .ok (.iconst 1, 1) := by decide +kernel
theorem dL_law_950 : decode cL_law 950 = .ok (.iadd, 1) := by decide +kernel
theorem dL_law_951 : decode cL_law 951 = .ok (.iaload, 1) := by decide +kernel
theorem dL_law_952 : decode cL_law 952 = .ok (.invokevirtual 136, 3) := by decide +kernel
theorem dL_law_955 : decode cL_law 955 = .ok (.istore 6, 2) := by decide +kernel
theorem dL_law_957 : decode cL_law 957 = .ok (.aload_n 2, 1) := by decide +kernel
theorem dL_law_958 : decode cL_law 958 = .ok (.invokevirtual 71, 3) := by decide +kernel
theorem dL_law_961 : decode cL_law 961 = .ok (.iload 5, 2) := by decide +kernel
theorem dL_law_963 : decode cL_law 963 = .ok (.if_icmp .eq 5, 3) := by decide +kernel
theorem dL_law_966 : decode cL_law 966 = .ok (.iconst 0, 1) := by decide +kernel
theorem dL_law_967 : decode cL_law 967 = .ok (.ireturn, 1) := by decide +kernel
theorem dL_law_968 : decode cL_law 968 = .ok (.iload 5, 2) := by decide +kernel
theorem dL_law_970 : decode cL_law 970 = .ok (.ifCond .ne 15, 3) := by decide +kernel
theorem dL_law_973 : decode cL_law 973 = .ok (.aload_n 3, 1) := by decide +kernel
theorem dL_law_974 : decode cL_law 974 = .ok (.iconst 0, 1) := by decide +kernel
theorem dL_law_975 : decode cL_law 975 = .ok (.laload, 1) := by decide +kernel
theorem dL_law_976 : decode cL_law 976 = .ok (.iload 6, 2) := by decide +kernel
theorem dL_law_978 : decode cL_law 978 = .ok (.i2l, 1) := by decide +kernel
theorem dL_law_979 : decode cL_law 979 = .ok (.lcmp, 1) := by decide +kernel
theorem dL_law_980 : decode cL_law 980 = .ok (.ifCond .eq 5, 3) := by decide +kernel
theorem dL_law_983 : decode cL_law 983 = .ok (.iconst 0, 1) := by decide +kernel
theorem dL_law_984 : decode cL_law 984 = .ok (.ireturn, 1) := by decide +kernel
theorem dL_law_985 : decode cL_law 985 = .ok (.goto 165, 3) := by decide +kernel
theorem dL_law_988 : decode cL_law 988 = .ok (.aload_n 1, 1) := by decide +kernel
theorem dL_law_989 : decode cL_law 989 = .ok (.aload_n 0, 1) := by decide +kernel
theorem dL_law_990 : decode cL_law 990 = .ok (.iload 4, 2) := by decide +kernel
theorem dL_law_992 : decode cL_law 992 = .ok (.iconst 1, 1) := by decide +kernel
theorem dL_law_993 : decode cL_law 993 = .ok (.iadd, 1) := by decide +kernel
theorem dL_law_994 : decode cL_law 994 = .ok (.iaload, 1) := by decide +kernel
theorem dL_law_995 : decode cL_law 995 = .ok (.aload_n 0, 1) := by decide +kernel
theorem dL_law_996 : decode cL_law 996 = .ok (.iload 4, 2) := by decide +kernel
theorem dL_law_998 : decode cL_law 998 = .ok (.iconst 2, 1) := by decide +kernel
theorem dL_law_999 : decode cL_law 999 = .ok (.iadd, 1) := by decide +kernel
theorem dL_law_1000 : decode cL_law 1000 = .ok (.iaload, 1) := by decide +kernel
theorem dL_law_1001 : decode cL_law 1001 = .ok (.aload_n 3, 1) := by decide +kernel
theorem dL_law_1002 : decode cL_law 1002 = .ok (.invokestatic 137, 3) := by decide +kernel
theorem dL_law_1005 : decode cL_law 1005 = .ok (.istore 5, 2) := by decide +kernel
theorem dL_law_1007 : decode cL_law 1007 = .ok (.aload_n 2, 1) := by decide +kernel
theorem dL_law_1008 : decode cL_law 1008 = .ok (.aload_n 0, 1) := by decide +kernel
theorem dL_law_1009 : decode cL_law 1009 = .ok (.iload 4, 2) := by decide +kernel
theorem dL_law_1011 : decode cL_law 1011 = .ok (.iconst 1, 1) := by decide +kernel
theorem dL_law_1012 : decode cL_law 1012 = .ok (.iadd, 1) := by decide +kernel
theorem dL_law_1013 : decode cL_law 1013 = .ok (.iaload, 1) := by decide +kernel
theorem dL_law_1014 : decode cL_law 1014 = .ok (.aload_n 0, 1) := by decide +kernel
theorem dL_law_1015 : decode cL_law 1015 = .ok (.iload 4, 2) := by decide +kernel
theorem dL_law_1017 : decode cL_law 1017 = .ok (.iconst 2, 1) := by decide +kernel
theorem dL_law_1018 : decode cL_law 1018 = .ok (.iadd, 1) := by decide +kernel
theorem dL_law_1019 : decode cL_law 1019 = .ok (.iaload, 1) := by decide +kernel
theorem dL_law_1020 : decode cL_law 1020 = .ok (.invokevirtual 139, 3) := by decide +kernel
theorem dL_law_1023 : decode cL_law 1023 = .ok (.istore 6, 2) := by decide +kernel
theorem dL_law_1025 : decode cL_law 1025 = .ok (.aload_n 2, 1) := by decide +kernel
theorem dL_law_1026 : decode cL_law 1026 = .ok (.invokevirtual 71, 3) := by decide +kernel
theorem dL_law_1029 : decode cL_law 1029 = .ok (.iload 5, 2) := by decide +kernel
theorem dL_law_1031 : decode cL_law 1031 = .ok (.if_icmp .eq 5, 3) := by decide +kernel
theorem dL_law_1034 : decode cL_law 1034 = .ok (.iconst 0, 1) := by decide +kernel
theorem dL_law_1035 : decode cL_law 1035 = .ok (.ireturn, 1) := by decide +kernel
theorem dL_law_1036 : decode cL_law 1036 = .ok (.iload 5, 2) := by decide +kernel
theorem dL_law_1038 : decode cL_law 1038 = .ok (.ifCond .ne 15, 3) := by decide +kernel
theorem dL_law_1041 : decode cL_law 1041 = .ok (.aload_n 3, 1) := by decide +kernel
theorem dL_law_1042 : decode cL_law 1042 = .ok (.iconst 0, 1) := by decide +kernel
theorem dL_law_1043 : decode cL_law 1043 = .ok (.laload, 1) := by decide +kernel
theorem dL_law_1044 : decode cL_law 1044 = .ok (.iload 6, 2) := by decide +kernel
theorem dL_law_1046 : decode cL_law 1046 = .ok (.i2l, 1) := by decide +kernel
theorem dL_law_1047 : decode cL_law 1047 = .ok (.lcmp, 1) := by decide +kernel
theorem dL_law_1048 : decode cL_law 1048 = .ok (.ifCond .eq 5, 3) := by decide +kernel
theorem dL_law_1051 : decode cL_law 1051 = .ok (.iconst 0, 1) := by decide +kernel
theorem dL_law_1052 : decode cL_law 1052 = .ok (.ireturn, 1) := by decide +kernel
theorem dL_law_1053 : decode cL_law 1053 = .ok (.goto 97, 3) := by decide +kernel
theorem dL_law_1056 : decode cL_law 1056 = .ok (.aload_n 1, 1) := by decide +kernel
theorem dL_law_1057 : decode cL_law 1057 = .ok (.aload_n 0, 1) := by decide +kernel
theorem dL_law_1058 : decode cL_law 1058 = .ok (.iload 4, 2) := by decide +kernel
theorem dL_law_1060 : decode cL_law 1060 = .ok (.iconst 1, 1) := by decide +kernel
theorem dL_law_1061 : decode cL_law 1061 = .ok (.iadd, 1) := by decide +kernel
theorem dL_law_1062 : decode cL_law 1062 = .ok (.iaload, 1) := by decide +kernel
theorem dL_law_1063 : decode cL_law 1063 = .ok (.aload_n 0, 1) := by decide +kernel
theorem dL_law_1064 : decode cL_law 1064 = .ok (.iload 4, 2) := by decide +kernel
theorem dL_law_1066 : decode cL_law 1066 = .ok (.iconst 2, 1) := by decide +kernel
theorem dL_law_1067 : decode cL_law 1067 = .ok (.iadd, 1) := by decide +kernel
theorem dL_law_1068 : decode cL_law 1068 = .ok (.iaload, 1) := by decide +kernel
theorem dL_law_1069 : decode cL_law 1069 = .ok (.aload_n 0, 1) := by decide +kernel
theorem dL_law_1070 : decode cL_law 1070 = .ok (.iload 4, 2) := by decide +kernel
theorem dL_law_1072 : decode cL_law 1072 = .ok (.iconst 3, 1) := by decide +kernel
theorem dL_law_1073 : decode cL_law 1073 = .ok (.iadd, 1) := by decide +kernel
theorem dL_law_1074 : decode cL_law 1074 = .ok (.iaload, 1) := by decide +kernel
theorem dL_law_1075 : decode cL_law 1075 = .ok (.aload_n 3, 1) := by decide +kernel
theorem dL_law_1076 : decode cL_law 1076 = .ok (.invokestatic 140, 3) := by decide +kernel
theorem dL_law_1079 : decode cL_law 1079 = .ok (.istore 5, 2) := by decide +kernel
theorem dL_law_1081 : decode cL_law 1081 = .ok (.aload_n 2, 1) := by decide +kernel
theorem dL_law_1082 : decode cL_law 1082 = .ok (.aload_n 0, 1) := by decide +kernel
theorem dL_law_1083 : decode cL_law 1083 = .ok (.iload 4, 2) := by decide +kernel
theorem dL_law_1085 : decode cL_law 1085 = .ok (.iconst 1, 1) := by decide +kernel
theorem dL_law_1086 : decode cL_law 1086 = .ok (.iadd, 1) := by decide +kernel
theorem dL_law_1087 : decode cL_law 1087 = .ok (.iaload, 1) := by decide +kernel
theorem dL_law_1088 : decode cL_law 1088 = .ok (.aload_n 0, 1) := by decide +kernel
theorem dL_law_1089 : decode cL_law 1089 = .ok (.iload 4, 2) := by decide +kernel
theorem dL_law_1091 : decode cL_law 1091 = .ok (.iconst 2, 1) := by decide +kernel
theorem dL_law_1092 : decode cL_law 1092 = .ok (.iadd, 1) := by decide +kernel
theorem dL_law_1093 : decode cL_law 1093 = .ok (.iaload, 1) := by decide +kernel
theorem dL_law_1094 : decode cL_law 1094 = .ok (.aload_n 0, 1) := by decide +kernel
theorem dL_law_1095 : decode cL_law 1095 = .ok (.iload 4, 2) := by decide +kernel
theorem dL_law_1097 : decode cL_law 1097 = .ok (.iconst 3, 1) := by decide +kernel
theorem dL_law_1098 : decode cL_law 1098 = .ok (.iadd, 1) := by decide +kernel
theorem dL_law_1099 : decode cL_law 1099 = .ok (.iaload, 1) := by decide +kernel
theorem dL_law_1100 : decode cL_law 1100 = .ok (.invokevirtual 142, 3) := by decide +kernel
theorem dL_law_1103 : decode cL_law 1103 = .ok (.istore 6, 2) := by decide +kernel
theorem dL_law_1105 : decode cL_law 1105 = .ok (.aload_n 2, 1) := by decide +kernel
theorem dL_law_1106 : decode cL_law 1106 = .ok (.invokevirtual 71, 3) := by decide +kernel
theorem dL_law_1109 : decode cL_law 1109 = .ok (.iload 5, 2) := by decide +kernel
theorem dL_law_1111 : decode cL_law 1111 = .ok (.if_icmp .eq 5, 3) := by decide +kernel
theorem dL_law_1114 : decode cL_law 1114 = .ok (.iconst 0, 1) := by decide +kernel
theorem dL_law_1115 : decode cL_law 1115 = .ok (.ireturn, 1) := by decide +kernel
theorem dL_law_1116 : decode cL_law 1116 = .ok (.iload 5, 2) := by decide +kernel
theorem dL_law_1118 : decode cL_law 1118 = .ok (.ifCond .ne 15, 3) := by decide +kernel
theorem dL_law_1121 : decode cL_law 1121 = .ok (.aload_n 3, 1) := by decide +kernel
theorem dL_law_1122 : decode cL_law 1122 = .ok (.iconst 0, 1) := by decide +kernel
theorem dL_law_1123 : decode cL_law 1123 = .ok (.laload, 1) := by decide +kernel
theorem dL_law_1124 : decode cL_law 1124 = .ok (.iload 6, 2) := by decide +kernel
theorem dL_law_1126 : decode cL_law 1126 = .ok (.i2l, 1) := by decide +kernel
theorem dL_law_1127 : decode cL_law 1127 = .ok (.lcmp, 1) := by decide +kernel
theorem dL_law_1128 : decode cL_law 1128 = .ok (.ifCond .eq 5, 3) := by decide +kernel
theorem dL_law_1131 : decode cL_law 1131 = .ok (.iconst 0, 1) := by decide +kernel
theorem dL_law_1132 : decode cL_law 1132 = .ok (.ireturn, 1) := by decide +kernel
theorem dL_law_1133 : decode cL_law 1133 = .ok (.goto 17, 3) := by decide +kernel
theorem dL_law_1136 : decode cL_law 1136 = .ok (.aload_n 1, 1) := by decide +kernel
theorem dL_law_1137 : decode cL_law 1137 = .ok (.invokevirtual 143, 3) := by decide +kernel
theorem dL_law_1140 : decode cL_law 1140 = .ok (.aload_n 2, 1) := by decide +kernel
theorem dL_law_1141 : decode cL_law 1141 = .ok (.invokevirtual 146, 3) := by decide +kernel
theorem dL_law_1144 : decode cL_law 1144 = .ok (.lcmp, 1) := by decide +kernel
theorem dL_law_1145 : decode cL_law 1145 = .ok (.ifCond .eq 5, 3) := by decide +kernel
theorem dL_law_1148 : decode cL_law 1148 = .ok (.iconst 0, 1) := by decide +kernel
theorem dL_law_1149 : decode cL_law 1149 = .ok (.ireturn, 1) := by decide +kernel
theorem dL_law_1150 : decode cL_law 1150 = .ok (.iinc 4 7, 3) := by decide +kernel
theorem dL_law_1153 : decode cL_law 1153 = .ok (.goto (-1130), 3) := by decide +kernel
theorem dL_law_1156 : decode cL_law 1156 = .ok (.iconst 1, 1) := by decide +kernel
theorem dL_law_1157 : decode cL_law 1157 = .ok (.ireturn, 1) := by decide +kernel
abbrev vwCl : List vw_C := [(RJx4a65c, TJx4a65c, 3), (RX0, TX0, 6), (RX1, TX1, 4), (RX2, TX2, 7), (RX3, TX3, 3), (RX4, TX4, 4), (RX5, TX5, 14), (RX6, TX6, 29)]
