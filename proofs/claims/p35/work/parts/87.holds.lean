theorem dL_holds_0 : decode cL_holds 0 = .ok (.aload_n 0, 1) := by decide +kernel
theorem dL_holds_1 : decode cL_holds 1 = .ok (.iconst 2, 1) := by decide +kernel
theorem dL_holds_2 : decode cL_holds 2 = .ok (.iconst 0, 1) := by decide +kernel
theorem dL_holds_3 : decode cL_holds 3 = .ok (.iconst 0, 1) := by decide +kernel
theorem dL_holds_4 : decode cL_holds 4 = .ok (.iconst 0, 1) := by decide +kernel
theorem dL_holds_5 : decode cL_holds 5 = .ok (.invokestatic 194, 3) := by decide +kernel
theorem dL_holds_8 : decode cL_holds 8 = .ok (.istore_n 2, 1) := by decide +kernel
theorem dL_holds_9 : decode cL_holds 9 = .ok (.aload_n 0, 1) := by decide +kernel
theorem dL_holds_10 : decode cL_holds 10 = .ok (.iconst 2, 1) := by decide +kernel
theorem dL_holds_11 : decode cL_holds 11 = .ok (.iconst 1, 1) := by decide +kernel
theorem dL_holds_12 : decode cL_holds 12 = .ok (.iconst 0, 1) := by decide +kernel
theorem dL_holds_13 : decode cL_holds 13 = .ok (.iconst 0, 1) := by decide +kernel
theorem dL_holds_14 : decode cL_holds 14 = .ok (.invokestatic 194, 3) := by decide +kernel
theorem dL_holds_17 : decode cL_holds 17 = .ok (.istore_n 3, 1) := by decide +kernel
theorem dL_holds_18 : decode cL_holds 18 = .ok (.aload_n 0, 1) := by decide +kernel
theorem dL_holds_19 : decode cL_holds 19 = .ok (.iconst 2, 1) := by decide +kernel
theorem dL_holds_20 : decode cL_holds 20 = .ok (.bipush 10, 2) := by decide +kernel
theorem dL_holds_22 : decode cL_holds 22 = .ok (.iconst 0, 1) := by decide +kernel
theorem dL_holds_23 : decode cL_holds 23 = .ok (.iconst 0, 1) := by decide +kernel
theorem dL_holds_24 : decode cL_holds 24 = .ok (.invokestatic 194, 3) := by decide +kernel
theorem dL_holds_27 : decode cL_holds 27 = .ok (.istore 4, 2) := by decide +kernel
theorem dL_holds_29 : decode cL_holds 29 = .ok (.iconst 0, 1) := by decide +kernel
theorem dL_holds_30 : decode cL_holds 30 = .ok (.istore 5, 2) := by decide +kernel
theorem dL_holds_32 : decode cL_holds 32 = .ok (.iconst 0, 1) := by decide +kernel
theorem dL_holds_33 : decode cL_holds 33 = .ok (.istore 6, 2) := by decide +kernel
theorem dL_holds_35 : decode cL_holds 35 = .ok (.iconst 0, 1) := by decide +kernel
theorem dL_holds_36 : decode cL_holds 36 = .ok (.istore 7, 2) := by decide +kernel
theorem dL_holds_38 : decode cL_holds 38 = .ok (.iconst 0, 1) := by decide +kernel
theorem dL_holds_39 : decode cL_holds 39 = .ok (.istore 8, 2) := by decide +kernel
theorem dL_holds_41 : decode cL_holds 41 = .ok (.iconst (-1), 1) := by decide +kernel
theorem dL_holds_42 : decode cL_holds 42 = .ok (.istore 9, 2) := by decide +kernel
theorem dL_holds_44 : decode cL_holds 44 = .ok (.iconst 1, 1) := by decide +kernel
theorem dL_holds_45 : decode cL_holds 45 = .ok (.istore 10, 2) := by decide +kernel
theorem dL_holds_47 : decode cL_holds 47 = .ok (.iconst 0, 1) := by decide +kernel
theorem dL_holds_48 : decode cL_holds 48 = .ok (.istore 11, 2) := by decide +kernel
theorem dL_holds_50 : decode cL_holds 50 = .ok (.iload 11, 2) := by decide +kernel
theorem dL_holds_52 : decode cL_holds 52 = .ok (.iload_n 3, 1) := by decide +kernel
theorem dL_holds_53 : decode cL_holds 53 = .ok (.if_icmp .ge 233, 3) := by decide +kernel
theorem dL_holds_56 : decode cL_holds 56 = .ok (.iload 10, 2) := by decide +kernel
theorem dL_holds_58 : decode cL_holds 58 = .ok (.ifCond .eq 228, 3) := by decide +kernel
theorem dL_holds_61 : decode cL_holds 61 = .ok (.aload_n 0, 1) := by decide +kernel
theorem dL_holds_62 : decode cL_holds 62 = .ok (.iconst 4, 1) := by decide +kernel
theorem dL_holds_63 : decode cL_holds 63 = .ok (.iload 11, 2) := by decide +kernel
theorem dL_holds_65 : decode cL_holds 65 = .ok (.iconst 4, 1) := by decide +kernel
theorem dL_holds_66 : decode cL_holds 66 = .ok (.iconst 0, 1) := by decide +kernel
theorem dL_holds_67 : decode cL_holds 67 = .ok (.invokestatic 194, 3) := by decide +kernel
theorem dL_holds_70 : decode cL_holds 70 = .ok (.istore 12, 2) := by decide +kernel
theorem dL_holds_72 : decode cL_holds 72 = .ok (.iload 5, 2) := by decide +kernel
theorem dL_holds_74 : decode cL_holds 74 = .ok (.aload_n 0, 1) := by decide +kernel
theorem dL_holds_75 : decode cL_holds 75 = .ok (.iconst 4, 1) := by decide +kernel
theorem dL_holds_76 : decode cL_holds 76 = .ok (.iload 11, 2) := by decide +kernel
theorem dL_holds_78 : decode cL_holds 78 = .ok (.iconst 5, 1) := by decide +kernel
theorem dL_holds_79 : decode cL_holds 79 = .ok (.iconst 0, 1) := by decide +kernel
theorem dL_holds_80 : decode cL_holds 80 = .ok (.invokestatic 194, 3) := by decide +kernel
theorem dL_holds_83 : decode cL_holds 83 = .ok (.iadd, 1) := by decide +kernel
theorem dL_holds_84 : decode cL_holds 84 = .ok (.istore 5, 2) := by decide +kernel
theorem dL_holds_86 : decode cL_holds 86 = .ok (.iload 6, 2) := by decide +kernel
theorem dL_holds_88 : decode cL_holds 88 = .ok (.aload_n 0, 1) := by decide +kernel
theorem dL_holds_89 : decode cL_holds 89 = .ok (.iconst 4, 1) := by decide +kernel
theorem dL_holds_90 : decode cL_holds 90 = .ok (.iload 11, 2) := by decide +kernel
theorem dL_holds_92 : decode cL_holds 92 = .ok (.iconst 2, 1) := by decide +kernel
theorem dL_holds_93 : decode cL_holds 93 = .ok (.iconst 0, 1) := by decide +kernel
theorem dL_holds_94 : decode cL_holds 94 = .ok (.invokestatic 194, 3) := by decide +kernel
theorem dL_holds_97 : decode cL_holds 97 = .ok (.iadd, 1) := by decide +kernel
theorem dL_holds_98 : decode cL_holds 98 = .ok (.istore 6, 2) := by decide +kernel
theorem dL_holds_100 : decode cL_holds 100 = .ok (.iload 7, 2) := by decide +kernel
theorem dL_holds_102 : decode cL_holds 102 = .ok (.aload_n 0, 1) := by decide +kernel
theorem dL_holds_103 : decode cL_holds 103 = .ok (.iconst 4, 1) := by decide +kernel
theorem dL_holds_104 : decode cL_holds 104 = .ok (.iload 11, 2) := by decide +kernel
theorem dL_holds_106 : decode cL_holds 106 = .ok (.bipush 6, 2) := by decide +kernel
theorem dL_holds_108 : decode cL_holds 108 = .ok (.iconst 0, 1) := by decide +kernel
theorem dL_holds_109 : decode cL_holds 109 = .ok (.invokestatic 194, 3) := by decide +kernel
theorem dL_holds_112 : decode cL_holds 112 = .ok (.iadd, 1) := by decide +kernel
theorem dL_holds_113 : decode cL_holds 113 = .ok (.istore 7, 2) := by decide +kernel
theorem dL_holds_115 : decode cL_holds 115 = .ok (.iload 8, 2) := by decide +kernel
theorem dL_holds_117 : decode cL_holds 117 = .ok (.aload_n 0, 1) := by decide +kernel
theorem dL_holds_118 : decode cL_holds 118 = .ok (.iconst 4, 1) := by decide +kernel
theorem dL_holds_119 : decode cL_holds 119 = .ok (.iload 11, 2) := by decide +kernel
theorem dL_holds_121 : decode cL_holds 121 = .ok (.bipush 7, 2) := by decide +kernel
theorem dL_holds_123 : decode cL_holds 123 = .ok (.iconst 0, 1) := by decide +kernel
theorem dL_holds_124 : decode cL_holds 124 = .ok (.invokestatic 194, 3) := by decide +kernel
theorem dL_holds_127 : decode cL_holds 127 = .ok (.iadd, 1) := by decide +kernel
theorem dL_holds_128 : decode cL_holds 128 = .ok (.istore 8, 2) := by decide +kernel
theorem dL_holds_130 : decode cL_holds 130 = .ok (.aload_n 0, 1) := by decide +kernel
theorem dL_holds_131 : decode cL_holds 131 = .ok (.iconst 4, 1) := by decide +kernel
theorem dL_holds_132 : decode cL_holds 132 = .ok (.iload 11, 2) := by decide +kernel
theorem dL_holds_134 : decode cL_holds 134 = .ok (.iconst 0, 1) := by decide +kernel
theorem dL_holds_135 : decode cL_holds 135 = .ok (.iconst 0, 1) := by decide +kernel
theorem dL_holds_136 : decode cL_holds 136 = .ok (.invokestatic 194, 3) := by decide +kernel
theorem dL_holds_139 : decode cL_holds 139 = .ok (.aload_n 0, 1) := by decide +kernel
theorem dL_holds_140 : decode cL_holds 140 = .ok (.iconst 4, 1) := by decide +kernel
theorem dL_holds_141 : decode cL_holds 141 = .ok (.iload 11, 2) := by decide +kernel
theorem dL_holds_143 : decode cL_holds 143 = .ok (.bipush 7, 2) := by decide +kernel
theorem dL_holds_145 : decode cL_holds 145 = .ok (.iconst 0, 1) := by decide +kernel
theorem dL_holds_146 : decode cL_holds 146 = .ok (.invokestatic 194, 3) := by decide +kernel
theorem dL_holds_149 : decode cL_holds 149 = .ok (.isub, 1) := by decide +kernel
theorem dL_holds_150 : decode cL_holds 150 = .ok (.istore 13, 2) := by decide +kernel
theorem dL_holds_152 : decode cL_holds 152 = .ok (.iload 9, 2) := by decide +kernel
theorem dL_holds_154 : decode cL_holds 154 = .ok (.iconst (-1), 1) := by decide +kernel
theorem dL_holds_155 : decode cL_holds 155 = .ok (.if_icmp .eq 28, 3) := by decide +kernel
theorem dL_holds_158 : decode cL_holds 158 = .ok (.iload 13, 2) := by decide +kernel
theorem dL_holds_160 : decode cL_holds 160 = .ok (.aload_n 0, 1) := by decide +kernel
theorem dL_holds_161 : decode cL_holds 161 = .ok (.iconst 4, 1) := by decide +kernel
theorem dL_holds_162 : decode cL_holds 162 = .ok (.iload 9, 2) := by decide +kernel
theorem dL_holds_164 : decode cL_holds 164 = .ok (.iconst 0, 1) := by decide +kernel
theorem dL_holds_165 : decode cL_holds 165 = .ok (.iconst 0, 1) := by decide +kernel
theorem dL_holds_166 : decode cL_holds 166 = .ok (.invokestatic 194, 3) := by decide +kernel
theorem dL_holds_169 : decode cL_holds 169 = .ok (.aload_n 0, 1) := by decide +kernel
theorem dL_holds_170 : decode cL_holds 170 = .ok (.iconst 4, 1) := by decide +kernel
theorem dL_holds_171 : decode cL_holds 171 = .ok (.iload 9, 2) := by decide +kernel
theorem dL_holds_173 : decode cL_holds 173 = .ok (.bipush 7, 2) := by decide +kernel
theorem dL_holds_175 : decode cL_holds 175 = .ok (.iconst 0, 1) := by decide +kernel
theorem dL_holds_176 : decode cL_holds 176 = .ok (.invokestatic 194, 3) := by decide +kernel
theorem dL_holds_179 : decode cL_holds 179 = .ok (.isub, 1) := by decide +kernel
theorem dL_holds_180 : decode cL_holds 180 = .ok (.if_icmp .ge 8, 3) := by decide +kernel
theorem dL_holds_183 : decode cL_holds 183 = .ok (.iload 11, 2) := by decide +kernel
theorem dL_holds_185 : decode cL_holds 185 = .ok (.goto 5, 3) := by decide +kernel
theorem dL_holds_188 : decode cL_holds 188 = .ok (.iload 9, 2) := by decide +kernel
theorem dL_holds_190 : decode cL_holds 190 = .ok (.istore 9, 2) := by decide +kernel
theorem dL_holds_192 : decode cL_holds 192 = .ok (.iload 4, 2) := by decide +kernel
theorem dL_holds_194 : decode cL_holds 194 = .ok (.iload 11, 2) := by decide +kernel
theorem dL_holds_196 : decode cL_holds 196 = .ok (.ishr, 1) := by decide +kernel
theorem dL_holds_197 : decode cL_holds 197 = .ok (.iconst 1, 1) := by decide +kernel
theorem dL_holds_198 : decode cL_holds 198 = .ok (.iand, 1) := by decide +kernel
theorem dL_holds_199 : decode cL_holds 199 = .ok (.iload 12, 2) := by decide +kernel
theorem dL_holds_201 : decode cL_holds 201 = .ok (.if_icmp .ne 76, 3) := by decide +kernel
theorem dL_holds_204 : decode cL_holds 204 = .ok (.iload 12, 2) := by decide +kernel
theorem dL_holds_206 : decode cL_holds 206 = .ok (.iconst 1, 1) := by decide +kernel
theorem dL_holds_207 : decode cL_holds 207 = .ok (.if_icmp .ne 7, 3) := by decide +kernel
theorem dL_holds_210 : decode cL_holds 210 = .ok (.iconst 1, 1) := by decide +kernel
theorem dL_holds_211 : decode cL_holds 211 = .ok (.goto 4, 3) := by decide +kernel
theorem dL_holds_214 : decode cL_holds 214 = .ok (.iconst 0, 1) := by decide +kernel
theorem dL_holds_215 : decode cL_holds 215 = .ok (.aload_n 0, 1) := by decide +kernel
theorem dL_holds_216 : decode cL_holds 216 = .ok (.iconst 4, 1) := by decide +kernel
theorem dL_holds_217 : decode cL_holds 217 = .ok (.iload 11, 2) := by decide +kernel
theorem dL_holds_219 : decode cL_holds 219 = .ok (.iconst 0, 1) := by decide +kernel
theorem dL_holds_220 : decode cL_holds 220 = .ok (.iconst 0, 1) := by decide +kernel
theorem dL_holds_221 : decode cL_holds 221 = .ok (.invokestatic 194, 3) := by decide +kernel
theorem dL_holds_224 : decode cL_holds 224 = .ok (.ifCond .lt 16, 3) := by decide +kernel
theorem dL_holds_227 : decode cL_holds 227 = .ok (.aload_n 0, 1) := by decide +kernel
theorem dL_holds_228 : decode cL_holds 228 = .ok (.iconst 4, 1) := by decide +kernel
theorem dL_holds_229 : decode cL_holds 229 = .ok (.iload 11, 2) := by decide +kernel
theorem dL_holds_231 : decode cL_holds 231 = .ok (.iconst 3, 1) := by decide +kernel
theorem dL_holds_232 : decode cL_holds 232 = .ok (.iconst 0, 1) := by decide +kernel
theorem dL_holds_233 : decode cL_holds 233 = .ok (.invokestatic 194, 3) := by decide +kernel
theorem dL_holds_236 : decode cL_holds 236 = .ok (.iconst 1, 1) := by decide +kernel
theorem dL_holds_237 : decode cL_holds 237 = .ok (.if_icmp .ne 7, 3) := by decide +kernel
theorem dL_holds_240 : decode cL_holds 240 = .ok (.iconst 1, 1) := by decide +kernel
theorem dL_holds_241 : decode cL_holds 241 = .ok (.goto 4, 3) := by decide +kernel
theorem dL_holds_244 : decode cL_holds 244 = .ok (.iconst 0, 1) := by decide +kernel
theorem dL_holds_245 : decode cL_holds 245 = .ok (.if_icmp .ne 32, 3) := by decide +kernel
theorem dL_holds_248 : decode cL_holds 248 = .ok (.aload_n 0, 1) := by decide +kernel
theorem dL_holds_249 : decode cL_holds 249 = .ok (.iconst 4, 1) := by decide +kernel
theorem dL_holds_250 : decode cL_holds 250 = .ok (.iload 11, 2) := by decide +kernel
theorem dL_holds_252 : decode cL_holds 252 = .ok (.iconst 1, 1) := by decide +kernel
theorem dL_holds_253 : decode cL_holds 253 = .ok (.iconst 0, 1) := by decide +kernel
theorem dL_holds_254 : decode cL_holds 254 = .ok (.invokestatic 194, 3) := by decide +kernel
theorem dL_holds_257 : decode cL_holds 257 = .ok (.ifCond .lt 20, 3) := by decide +kernel
theorem dL_holds_260 : decode cL_holds 260 = .ok (.aload_n 0, 1) := by decide +kernel
theorem dL_holds_261 : decode cL_holds 261 = .ok (.bipush 23, 2) := by decide +kernel
theorem dL_holds_263 : decode cL_holds 263 = .ok (.iload 11, 2) := by decide +kernel
theorem dL_holds_265 : decode cL_holds 265 = .ok (.iconst 0, 1) := by decide +kernel
theorem dL_holds_266 : decode cL_holds 266 = .ok (.iconst 0, 1) := by decide +kernel
theorem dL_holds_267 : decode cL_holds 267 = .ok (.invokestatic 194, 3) := by decide +kernel
theorem dL_holds_270 : decode cL_holds 270 = .ok (.ifCond .lt 7, 3) := by decide +kernel
theorem dL_holds_273 : decode cL_holds 273 = .ok (.iconst 1, 1) := by decide +kernel
theorem dL_holds_274 : decode cL_holds 274 = .ok (.goto 4, 3) := by decide +kernel
theorem dL_holds_277 : decode cL_holds 277 = .ok (.iconst 0, 1) := by decide +kernel
theorem dL_holds_278 : decode cL_holds 278 = .ok (.istore 10, 2) := by decide +kernel
theorem dL_holds_280 : decode cL_holds 280 = .ok (.iinc 11 1, 3) := by decide +kernel
theorem dL_holds_283 : decode cL_holds 283 = .ok (.goto (-233), 3) := by decide +kernel
theorem dL_holds_286 : decode cL_holds 286 = .ok (.iconst 0, 1) := by decide +kernel
theorem dL_holds_287 : decode cL_holds 287 = .ok (.istore 11, 2) := by decide +kernel
theorem dL_holds_289 : decode cL_holds 289 = .ok (.iconst 0, 1) := by decide +kernel
theorem dL_holds_290 : decode cL_holds 290 = .ok (.istore 12, 2) := by decide +kernel
theorem dL_holds_292 : decode cL_holds 292 = .ok (.iload 12, 2) := by decide +kernel
theorem dL_holds_294 : decode cL_holds 294 = .ok (.iconst 4, 1) := by decide +kernel
theorem dL_holds_295 : decode cL_holds 295 = .ok (.if_icmp .ge 229, 3) := by decide +kernel
theorem dL_holds_298 : decode cL_holds 298 = .ok (.iload 10, 2) := by decide +kernel
theorem dL_holds_300 : decode cL_holds 300 = .ok (.ifCond .eq 224, 3) := by decide +kernel
theorem dL_holds_303 : decode cL_holds 303 = .ok (.aload_n 0, 1) := by decide +kernel
theorem dL_holds_304 : decode cL_holds 304 = .ok (.iconst 5, 1) := by decide +kernel
theorem dL_holds_305 : decode cL_holds 305 = .ok (.iload 12, 2) := by decide +kernel
theorem dL_holds_307 : decode cL_holds 307 = .ok (.iconst 3, 1) := by decide +kernel
theorem dL_holds_308 : decode cL_holds 308 = .ok (.iconst 0, 1) := by decide +kernel
theorem dL_holds_309 : decode cL_holds 309 = .ok (.invokestatic 194, 3) := by decide +kernel
theorem dL_holds_312 : decode cL_holds 312 = .ok (.istore 13, 2) := by decide +kernel
theorem dL_holds_314 : decode cL_holds 314 = .ok (.iload 11, 2) := by decide +kernel
theorem dL_holds_316 : decode cL_holds 316 = .ok (.iload 13, 2) := by decide +kernel
theorem dL_holds_318 : decode cL_holds 318 = .ok (.iadd, 1) := by decide +kernel
theorem dL_holds_319 : decode cL_holds 319 = .ok (.istore 11, 2) := by decide +kernel
theorem dL_holds_321 : decode cL_holds 321 = .ok (.iload 13, 2) := by decide +kernel
theorem dL_holds_323 : decode cL_holds 323 = .ok (.bipush 12, 2) := by decide +kernel
theorem dL_holds_325 : decode cL_holds 325 = .ok (.if_icmp .gt 103, 3) := by decide +kernel
theorem dL_holds_328 : decode cL_holds 328 = .ok (.aload_n 0, 1) := by decide +kernel
theorem dL_holds_329 : decode cL_holds 329 = .ok (.iconst 5, 1) := by decide +kernel
theorem dL_holds_330 : decode cL_holds 330 = .ok (.iload 12, 2) := by decide +kernel
theorem dL_holds_332 : decode cL_holds 332 = .ok (.iconst 1, 1) := by decide +kernel
theorem dL_holds_333 : decode cL_holds 333 = .ok (.iconst 0, 1) := by decide +kernel
theorem dL_holds_334 : decode cL_holds 334 = .ok (.invokestatic 194, 3) := by decide +kernel
theorem dL_holds_337 : decode cL_holds 337 = .ok (.ifCond .eq 22, 3) := by decide +kernel
theorem dL_holds_340 : decode cL_holds 340 = .ok (.iload 13, 2) := by decide +kernel
theorem dL_holds_342 : decode cL_holds 342 = .ok (.ifCond .ne 86, 3) := by decide +kernel
theorem dL_holds_345 : decode cL_holds 345 = .ok (.aload_n 0, 1) := by decide +kernel
theorem dL_holds_346 : decode cL_holds 346 = .ok (.iconst 5, 1) := by decide +kernel
theorem dL_holds_347 : decode cL_holds 347 = .ok (.iload 12, 2) := by decide +kernel
theorem dL_holds_349 : decode cL_holds 349 = .ok (.iconst 4, 1) := by decide +kernel
theorem dL_holds_350 : decode cL_holds 350 = .ok (.iconst 0, 1) := by decide +kernel
theorem dL_holds_351 : decode cL_holds 351 = .ok (.invokestatic 194, 3) := by decide +kernel
theorem dL_holds_354 : decode cL_holds 354 = .ok (.iload 4, 2) := by decide +kernel
theorem dL_holds_356 : decode cL_holds 356 = .ok (.if_icmp .ne 72, 3) := by decide +kernel
theorem dL_holds_359 : decode cL_holds 359 = .ok (.aload_n 0, 1) := by decide +kernel
theorem dL_holds_360 : decode cL_holds 360 = .ok (.bipush 6, 2) := by decide +kernel
theorem dL_holds_362 : decode cL_holds 362 = .ok (.iload 12, 2) := by decide +kernel
theorem dL_holds_364 : decode cL_holds 364 = .ok (.iload 13, 2) := by decide +kernel
theorem dL_holds_366 : decode cL_holds 366 = .ok (.iconst 0, 1) := by decide +kernel
theorem dL_holds_367 : decode cL_holds 367 = .ok (.invokestatic 194, 3) := by decide +kernel
theorem dL_holds_370 : decode cL_holds 370 = .ok (.ldc 40, 2) := by decide +kernel
theorem dL_holds_372 : decode cL_holds 372 = .ok (.if_icmp .ne 56, 3) := by decide +kernel
theorem dL_holds_375 : decode cL_holds 375 = .ok (.aload_n 0, 1) := by decide +kernel
theorem dL_holds_376 : decode cL_holds 376 = .ok (.bipush 22, 2) := by decide +kernel
theorem dL_holds_378 : decode cL_holds 378 = .ok (.iload 12, 2) := by decide +kernel
theorem dL_holds_380 : decode cL_holds 380 = .ok (.iconst 0, 1) := by decide +kernel
theorem dL_holds_381 : decode cL_holds 381 = .ok (.iconst 0, 1) := by decide +kernel
theorem dL_holds_382 : decode cL_holds 382 = .ok (.invokestatic 194, 3) := by decide +kernel
theorem dL_holds_385 : decode cL_holds 385 = .ok (.aload_n 0, 1) := by decide +kernel
theorem dL_holds_386 : decode cL_holds 386 = .ok (.bipush 22, 2) := by decide +kernel
theorem dL_holds_388 : decode cL_holds 388 = .ok (.iload 12, 2) := by decide +kernel
theorem dL_holds_390 : decode cL_holds 390 = .ok (.iconst 1, 1) := by decide +kernel
theorem dL_holds_391 : decode cL_holds 391 = .ok (.iconst 0, 1) := by decide +kernel
theorem dL_holds_392 : decode cL_holds 392 = .ok (.invokestatic 194, 3) := by decide +kernel
theorem dL_holds_395 : decode cL_holds 395 = .ok (.iadd, 1) := by decide +kernel
theorem dL_holds_396 : decode cL_holds 396 = .ok (.iload 13, 2) := by decide +kernel
theorem dL_holds_398 : decode cL_holds 398 = .ok (.if_icmp .ne 30, 3) := by decide +kernel
theorem dL_holds_401 : decode cL_holds 401 = .ok (.aload_n 0, 1) := by decide +kernel
theorem dL_holds_402 : decode cL_holds 402 = .ok (.bipush 22, 2) := by decide +kernel
theorem dL_holds_404 : decode cL_holds 404 = .ok (.iload 12, 2) := by decide +kernel
theorem dL_holds_406 : decode cL_holds 406 = .ok (.iconst 3, 1) := by decide +kernel
theorem dL_holds_407 : decode cL_holds 407 = .ok (.iconst 0, 1) := by decide +kernel
theorem dL_holds_408 : decode cL_holds 408 = .ok (.invokestatic 194, 3) := by decide +kernel
theorem dL_holds_411 : decode cL_holds 411 = .ok (.aload_n 0, 1) := by decide +kernel
theorem dL_holds_412 : decode cL_holds 412 = .ok (.bipush 22, 2) := by decide +kernel
theorem dL_holds_414 : decode cL_holds 414 = .ok (.iload 12, 2) := by decide +kernel
theorem dL_holds_416 : decode cL_holds 416 = .ok (.iconst 0, 1) := by decide +kernel
theorem dL_holds_417 : decode cL_holds 417 = .ok (.iconst 0, 1) := by decide +kernel
theorem dL_holds_418 : decode cL_holds 418 = .ok (.invokestatic 194, 3) := by decide +kernel
theorem dL_holds_421 : decode cL_holds 421 = .ok (.if_icmp .lt 7, 3) := by decide +kernel
theorem dL_holds_424 : decode cL_holds 424 = .ok (.iconst 1, 1) := by decide +kernel
theorem dL_holds_425 : decode cL_holds 425 = .ok (.goto 4, 3) := by decide +kernel
theorem dL_holds_428 : decode cL_holds 428 = .ok (.iconst 0, 1) := by decide +kernel
theorem dL_holds_429 : decode cL_holds 429 = .ok (.istore 10, 2) := by decide +kernel
theorem dL_holds_431 : decode cL_holds 431 = .ok (.iconst 0, 1) := by decide +kernel
theorem dL_holds_432 : decode cL_holds 432 = .ok (.istore 14, 2) := by decide +kernel
theorem dL_holds_434 : decode cL_holds 434 = .ok (.iload 14, 2) := by decide +kernel
theorem dL_holds_436 : decode cL_holds 436 = .ok (.iload 13, 2) := by decide +kernel
theorem dL_holds_438 : decode cL_holds 438 = .ok (.if_icmp .ge 80, 3) := by decide +kernel
theorem dL_holds_441 : decode cL_holds 441 = .ok (.iload 10, 2) := by decide +kernel
theorem dL_holds_443 : decode cL_holds 443 = .ok (.ifCond .eq 75, 3) := by decide +kernel
theorem dL_holds_446 : decode cL_holds 446 = .ok (.aload_n 0, 1) := by decide +kernel
theorem dL_holds_447 : decode cL_holds 447 = .ok (.bipush 6, 2) := by decide +kernel
theorem dL_holds_449 : decode cL_holds 449 = .ok (.iload 12, 2) := by decide +kernel
theorem dL_holds_451 : decode cL_holds 451 = .ok (.iload 14, 2) := by decide +kernel
theorem dL_holds_453 : decode cL_holds 453 = .ok (.iconst 0, 1) := by decide +kernel
theorem dL_holds_454 : decode cL_holds 454 = .ok (.invokestatic 194, 3) := by decide +kernel
theorem dL_holds_457 : decode cL_holds 457 = .ok (.iload_n 3, 1) := by decide +kernel
theorem dL_holds_458 : decode cL_holds 458 = .ok (.if_icmp .ge 51, 3) := by decide +kernel
theorem dL_holds_461 : decode cL_holds 461 = .ok (.aload_n 0, 1) := by decide +kernel
theorem dL_holds_462 : decode cL_holds 462 = .ok (.bipush 6, 2) := by decide +kernel
theorem dL_holds_464 : decode cL_holds 464 = .ok (.iload 12, 2) := by decide +kernel
theorem dL_holds_466 : decode cL_holds 466 = .ok (.iload 14, 2) := by decide +kernel
theorem dL_holds_468 : decode cL_holds 468 = .ok (.iconst 1, 1) := by decide +kernel
theorem dL_holds_469 : decode cL_holds 469 = .ok (.invokestatic 194, 3) := by decide +kernel
theorem dL_holds_472 : decode cL_holds 472 = .ok (.ifCond .le 37, 3) := by decide +kernel
theorem dL_holds_475 : decode cL_holds 475 = .ok (.aload_n 0, 1) := by decide +kernel
theorem dL_holds_476 : decode cL_holds 476 = .ok (.bipush 6, 2) := by decide +kernel
theorem dL_holds_478 : decode cL_holds 478 = .ok (.iload 12, 2) := by decide +kernel
theorem dL_holds_480 : decode cL_holds 480 = .ok (.iload 14, 2) := by decide +kernel
theorem dL_holds_482 : decode cL_holds 482 = .ok (.iconst 2, 1) := by decide +kernel
theorem dL_holds_483 : decode cL_holds 483 = .ok (.invokestatic 194, 3) := by decide +kernel
theorem dL_holds_486 : decode cL_holds 486 = .ok (.ifCond .le 23, 3) := by decide +kernel
theorem dL_holds_489 : decode cL_holds 489 = .ok (.aload_n 0, 1) := by decide +kernel
theorem dL_holds_490 : decode cL_holds 490 = .ok (.bipush 6, 2) := by decide +kernel
theorem dL_holds_492 : decode cL_holds 492 = .ok (.iload 12, 2) := by decide +kernel
theorem dL_holds_494 : decode cL_holds 494 = .ok (.iload 14, 2) := by decide +kernel
theorem dL_holds_496 : decode cL_holds 496 = .ok (.iconst 2, 1) := by decide +kernel
theorem dL_holds_497 : decode cL_holds 497 = .ok (.invokestatic 194, 3) := by decide +kernel
theorem dL_holds_500 : decode cL_holds 500 = .ok (.bipush 10, 2) := by decide +kernel
theorem dL_holds_502 : decode cL_holds 502 = .ok (.if_icmp .ge 7, 3) := by decide +kernel
theorem dL_holds_505 : decode cL_holds 505 = .ok (.iconst 1, 1) := by decide +kernel
theorem dL_holds_506 : decode cL_holds 506 = .ok (.goto 4, 3) := by decide +kernel
theorem dL_holds_509 : decode cL_holds 509 = .ok (.iconst 0, 1) := by decide +kernel
theorem dL_holds_510 : decode cL_holds 510 = .ok (.istore 10, 2) := by decide +kernel
theorem dL_holds_512 : decode cL_holds 512 = .ok (.iinc 14 1, 3) := by decide +kernel
theorem dL_holds_515 : decode cL_holds 515 = .ok (.goto (-81), 3) := by decide +kernel
theorem dL_holds_518 : decode cL_holds 518 = .ok (.iinc 12 1, 3) := by decide +kernel
theorem dL_holds_521 : decode cL_holds 521 = .ok (.goto (-229), 3) := by decide +kernel
theorem dL_holds_524 : decode cL_holds 524 = .ok (.iload 10, 2) := by decide +kernel
theorem dL_holds_526 : decode cL_holds 526 = .ok (.ifCond .eq 83, 3) := by decide +kernel
theorem dL_holds_529 : decode cL_holds 529 = .ok (.iload 5, 2) := by decide +kernel
theorem dL_holds_531 : decode cL_holds 531 = .ok (.iload_n 2, 1) := by decide +kernel
theorem dL_holds_532 : decode cL_holds 532 = .ok (.if_icmp .ne 77, 3) := by decide +kernel
theorem dL_holds_535 : decode cL_holds 535 = .ok (.iload 6, 2) := by decide +kernel
theorem dL_holds_537 : decode cL_holds 537 = .ok (.aload_n 0, 1) := by decide +kernel
theorem dL_holds_538 : decode cL_holds 538 = .ok (.iconst 2, 1) := by decide +kernel
theorem dL_holds_539 : decode cL_holds 539 = .ok (.iconst 3, 1) := by decide +kernel
theorem dL_holds_540 : decode cL_holds 540 = .ok (.iconst 0, 1) := by decide +kernel
theorem dL_holds_541 : decode cL_holds 541 = .ok (.iconst 0, 1) := by decide +kernel
theorem dL_holds_542 : decode cL_holds 542 = .ok (.invokestatic 194, 3) := by decide +kernel
theorem dL_holds_545 : decode cL_holds 545 = .ok (.if_icmp .ne 64, 3) := by decide +kernel
theorem dL_holds_548 : decode cL_holds 548 = .ok (.iload 7, 2) := by decide +kernel
theorem dL_holds_550 : decode cL_holds 550 = .ok (.aload_n 0, 1) := by decide +kernel
theorem dL_holds_551 : decode cL_holds 551 = .ok (.iconst 2, 1) := by decide +kernel
theorem dL_holds_552 : decode cL_holds 552 = .ok (.bipush 6, 2) := by decide +kernel
theorem dL_holds_554 : decode cL_holds 554 = .ok (.iconst 0, 1) := by decide +kernel
theorem dL_holds_555 : decode cL_holds 555 = .ok (.iconst 0, 1) := by decide +kernel
theorem dL_holds_556 : decode cL_holds 556 = .ok (.invokestatic 194, 3) := by decide +kernel
theorem dL_holds_559 : decode cL_holds 559 = .ok (.if_icmp .ne 50, 3) := by decide +kernel
theorem dL_holds_562 : decode cL_holds 562 = .ok (.iload 11, 2) := by decide +kernel
theorem dL_holds_564 : decode cL_holds 564 = .ok (.iload 7, 2) := by decide +kernel
theorem dL_holds_566 : decode cL_holds 566 = .ok (.if_icmp .ne 43, 3) := by decide +kernel
theorem dL_holds_569 : decode cL_holds 569 = .ok (.iload 8, 2) := by decide +kernel
theorem dL_holds_571 : decode cL_holds 571 = .ok (.aload_n 0, 1) := by decide +kernel
theorem dL_holds_572 : decode cL_holds 572 = .ok (.iconst 2, 1) := by decide +kernel
theorem dL_holds_573 : decode cL_holds 573 = .ok (.bipush 7, 2) := by decide +kernel
theorem dL_holds_575 : decode cL_holds 575 = .ok (.iconst 0, 1) := by decide +kernel
theorem dL_holds_576 : decode cL_holds 576 = .ok (.iconst 0, 1) := by decide +kernel
theorem dL_holds_577 : decode cL_holds 577 = .ok (.invokestatic 194, 3) := by decide +kernel
theorem dL_holds_580 : decode cL_holds 580 = .ok (.if_icmp .ne 29, 3) := by decide +kernel
theorem dL_holds_583 : decode cL_holds 583 = .ok (.aload_n 0, 1) := by decide +kernel
theorem dL_holds_584 : decode cL_holds 584 = .ok (.invokevirtual 208, 3) := by decide +kernel
theorem dL_holds_587 : decode cL_holds 587 = .ok (.iload 9, 2) := by decide +kernel
theorem dL_holds_589 : decode cL_holds 589 = .ok (.if_icmp .ne 20, 3) := by decide +kernel
theorem dL_holds_592 : decode cL_holds 592 = .ok (.aload_n 0, 1) := by decide +kernel
theorem dL_holds_593 : decode cL_holds 593 = .ok (.iconst 2, 1) := by decide +kernel
theorem dL_holds_594 : decode cL_holds 594 = .ok (.iconst 4, 1) := by decide +kernel
theorem dL_holds_595 : decode cL_holds 595 = .ok (.iconst 0, 1) := by decide +kernel
theorem dL_holds_596 : decode cL_holds 596 = .ok (.iconst 0, 1) := by decide +kernel
theorem dL_holds_597 : decode cL_holds 597 = .ok (.invokestatic 194, 3) := by decide +kernel
theorem dL_holds_600 : decode cL_holds 600 = .ok (.iload 6, 2) := by decide +kernel
theorem dL_holds_602 : decode cL_holds 602 = .ok (.if_icmp .lt 7, 3) := by decide +kernel
theorem dL_holds_605 : decode cL_holds 605 = .ok (.iconst 1, 1) := by decide +kernel
theorem dL_holds_606 : decode cL_holds 606 = .ok (.goto 4, 3) := by decide +kernel
theorem dL_holds_609 : decode cL_holds 609 = .ok (.iconst 0, 1) := by decide +kernel
theorem dL_holds_610 : decode cL_holds 610 = .ok (.istore 10, 2) := by decide +kernel
theorem dL_holds_612 : decode cL_holds 612 = .ok (.iload_n 2, 1) := by decide +kernel
theorem dL_holds_613 : decode cL_holds 613 = .ok (.ifCond .eq 8, 3) := by decide +kernel
theorem dL_holds_616 : decode cL_holds 616 = .ok (.iload 10, 2) := by decide +kernel
theorem dL_holds_618 : decode cL_holds 618 = .ok (.ifCond .ne 6, 3) := by decide +kernel
theorem dL_holds_621 : decode cL_holds 621 = .ok (.iload 10, 2) := by decide +kernel
theorem dL_holds_623 : decode cL_holds 623 = .ok (.ireturn, 1) := by decide +kernel
theorem dL_holds_624 : decode cL_holds 624 = .ok (.iload_n 1, 1) := by decide +kernel
theorem dL_holds_625 : decode cL_holds 625 = .ok (.iload_n 2, 1) := by decide +kernel
theorem dL_holds_626 : decode cL_holds 626 = .ok (.irem, 1) := by decide +kernel
theorem dL_holds_627 : decode cL_holds 627 = .ok (.istore 12, 2) := by decide +kernel
theorem dL_holds_629 : decode cL_holds 629 = .ok (.iload_n 1, 1) := by decide +kernel
theorem dL_holds_630 : decode cL_holds 630 = .ok (.bipush 16, 2) := by decide +kernel
theorem dL_holds_632 : decode cL_holds 632 = .ok (.idiv, 1) := by decide +kernel
theorem dL_holds_633 : decode cL_holds 633 = .ok (.iconst 4, 1) := by decide +kernel
theorem dL_holds_634 : decode cL_holds 634 = .ok (.irem, 1) := by decide +kernel
theorem dL_holds_635 : decode cL_holds 635 = .ok (.istore 13, 2) := by decide +kernel
theorem dL_holds_637 : decode cL_holds 637 = .ok (.aload_n 0, 1) := by decide +kernel
theorem dL_holds_638 : decode cL_holds 638 = .ok (.bipush 21, 2) := by decide +kernel
theorem dL_holds_640 : decode cL_holds 640 = .ok (.iload 12, 2) := by decide +kernel
theorem dL_holds_642 : decode cL_holds 642 = .ok (.iload 13, 2) := by decide +kernel
theorem dL_holds_644 : decode cL_holds 644 = .ok (.iconst 0, 1) := by decide +kernel
theorem dL_holds_645 : decode cL_holds 645 = .ok (.invokestatic 194, 3) := by decide +kernel
theorem dL_holds_648 : decode cL_holds 648 = .ok (.istore 14, 2) := by decide +kernel
theorem dL_holds_650 : decode cL_holds 650 = .ok (.aload_n 0, 1) := by decide +kernel
theorem dL_holds_651 : decode cL_holds 651 = .ok (.bipush 20, 2) := by decide +kernel
theorem dL_holds_653 : decode cL_holds 653 = .ok (.iload 12, 2) := by decide +kernel
theorem dL_holds_655 : decode cL_holds 655 = .ok (.iload 13, 2) := by decide +kernel
theorem dL_holds_657 : decode cL_holds 657 = .ok (.iconst 0, 1) := by decide +kernel
theorem dL_holds_658 : decode cL_holds 658 = .ok (.invokestatic 194, 3) := by decide +kernel
theorem dL_holds_661 : decode cL_holds 661 = .ok (.istore 15, 2) := by decide +kernel
theorem dL_holds_663 : decode cL_holds 663 = .ok (.iload 14, 2) := by decide +kernel
theorem dL_holds_665 : decode cL_holds 665 = .ok (.ifCond .lt 172, 3) := by decide +kernel
theorem dL_holds_668 : decode cL_holds 668 = .ok (.iload 14, 2) := by decide +kernel
theorem dL_holds_670 : decode cL_holds 670 = .ok (.bipush 100, 2) := by decide +kernel
theorem dL_holds_672 : decode cL_holds 672 = .ok (.if_icmp .gt 165, 3) := by decide +kernel
theorem dL_holds_675 : decode cL_holds 675 = .ok (.iload 15, 2) := by decide +kernel
theorem dL_holds_677 : decode cL_holds 677 = .ok (.ifCond .lt 160, 3) := by decide +kernel
theorem dL_holds_680 : decode cL_holds 680 = .ok (.iload 15, 2) := by decide +kernel
theorem dL_holds_682 : decode cL_holds 682 = .ok (.bipush 8, 2) := by decide +kernel
theorem dL_holds_684 : decode cL_holds 684 = .ok (.if_icmp .ge 153, 3) := by decide +kernel
theorem dL_holds_687 : decode cL_holds 687 = .ok (.iload 15, 2) := by decide +kernel
theorem dL_holds_689 : decode cL_holds 689 = .ok (.iconst 2, 1) := by decide +kernel
theorem dL_holds_690 : decode cL_holds 690 = .ok (.if_icmp .ne 7, 3) := by decide +kernel
theorem dL_holds_693 : decode cL_holds 693 = .ok (.iconst 1, 1) := by decide +kernel
theorem dL_holds_694 : decode cL_holds 694 = .ok (.goto 4, 3) := by decide +kernel
theorem dL_holds_697 : decode cL_holds 697 = .ok (.iconst 0, 1) := by decide +kernel
theorem dL_holds_698 : decode cL_holds 698 = .ok (.aload_n 0, 1) := by decide +kernel
theorem dL_holds_699 : decode cL_holds 699 = .ok (.iconst 5, 1) := by decide +kernel
theorem dL_holds_700 : decode cL_holds 700 = .ok (.iload 13, 2) := by decide +kernel
theorem dL_holds_702 : decode cL_holds 702 = .ok (.iconst 2, 1) := by decide +kernel
theorem dL_holds_703 : decode cL_holds 703 = .ok (.iconst 0, 1) := by decide +kernel
theorem dL_holds_704 : decode cL_holds 704 = .ok (.invokestatic 194, 3) := by decide +kernel
theorem dL_holds_707 : decode cL_holds 707 = .ok (.iconst 1, 1) := by decide +kernel
theorem dL_holds_708 : decode cL_holds 708 = .ok (.if_icmp .ne 7, 3) := by decide +kernel
theorem dL_holds_711 : decode cL_holds 711 = .ok (.iconst 1, 1) := by decide +kernel
theorem dL_holds_712 : decode cL_holds 712 = .ok (.goto 4, 3) := by decide +kernel
theorem dL_holds_715 : decode cL_holds 715 = .ok (.iconst 0, 1) := by decide +kernel
theorem dL_holds_716 : decode cL_holds 716 = .ok (.if_icmp .ne 121, 3) := by decide +kernel
theorem dL_holds_719 : decode cL_holds 719 = .ok (.iload 15, 2) := by decide +kernel
theorem dL_holds_721 : decode cL_holds 721 = .ok (.iconst 2, 1) := by decide +kernel
theorem dL_holds_722 : decode cL_holds 722 = .ok (.if_icmp .ne 10, 3) := by decide +kernel
theorem dL_holds_725 : decode cL_holds 725 = .ok (.iload 14, 2) := by decide +kernel
theorem dL_holds_727 : decode cL_holds 727 = .ok (.bipush 100, 2) := by decide +kernel
theorem dL_holds_729 : decode cL_holds 729 = .ok (.if_icmp .ne 108, 3) := by decide +kernel
theorem dL_holds_732 : decode cL_holds 732 = .ok (.iload 15, 2) := by decide +kernel
theorem dL_holds_734 : decode cL_holds 734 = .ok (.iconst 1, 1) := by decide +kernel
theorem dL_holds_735 : decode cL_holds 735 = .ok (.if_icmp .le 27, 3) := by decide +kernel
theorem dL_holds_738 : decode cL_holds 738 = .ok (.iload 15, 2) := by decide +kernel
theorem dL_holds_740 : decode cL_holds 740 = .ok (.bipush 7, 2) := by decide +kernel
theorem dL_holds_742 : decode cL_holds 742 = .ok (.if_icmp .eq 20, 3) := by decide +kernel
theorem dL_holds_745 : decode cL_holds 745 = .ok (.iload 15, 2) := by decide +kernel
theorem dL_holds_747 : decode cL_holds 747 = .ok (.iconst 4, 1) := by decide +kernel
theorem dL_holds_748 : decode cL_holds 748 = .ok (.if_icmp .eq 14, 3) := by decide +kernel
theorem dL_holds_751 : decode cL_holds 751 = .ok (.iload 15, 2) := by decide +kernel
theorem dL_holds_753 : decode cL_holds 753 = .ok (.iconst 2, 1) := by decide +kernel
theorem dL_holds_754 : decode cL_holds 754 = .ok (.if_icmp .eq 8, 3) := by decide +kernel
theorem dL_holds_757 : decode cL_holds 757 = .ok (.iload 14, 2) := by decide +kernel
theorem dL_holds_759 : decode cL_holds 759 = .ok (.ifCond .ne 78, 3) := by decide +kernel
theorem dL_holds_762 : decode cL_holds 762 = .ok (.aload_n 0, 1) := by decide +kernel
theorem dL_holds_763 : decode cL_holds 763 = .ok (.iconst 3, 1) := by decide +kernel
theorem dL_holds_764 : decode cL_holds 764 = .ok (.iload 12, 2) := by decide +kernel
theorem dL_holds_766 : decode cL_holds 766 = .ok (.iconst 0, 1) := by decide +kernel
theorem dL_holds_767 : decode cL_holds 767 = .ok (.iconst 0, 1) := by decide +kernel
theorem dL_holds_768 : decode cL_holds 768 = .ok (.invokestatic 194, 3) := by decide +kernel
theorem dL_holds_771 : decode cL_holds 771 = .ok (.iload_n 3, 1) := by decide +kernel
theorem dL_holds_772 : decode cL_holds 772 = .ok (.if_icmp .ge 65, 3) := by decide +kernel
theorem dL_holds_775 : decode cL_holds 775 = .ok (.aload_n 0, 1) := by decide +kernel
theorem dL_holds_776 : decode cL_holds 776 = .ok (.iconst 3, 1) := by decide +kernel
theorem dL_holds_777 : decode cL_holds 777 = .ok (.iload 12, 2) := by decide +kernel
theorem dL_holds_779 : decode cL_holds 779 = .ok (.iconst 3, 1) := by decide +kernel
theorem dL_holds_780 : decode cL_holds 780 = .ok (.iconst 0, 1) := by decide +kernel
theorem dL_holds_781 : decode cL_holds 781 = .ok (.invokestatic 194, 3) := by decide +kernel
theorem dL_holds_784 : decode cL_holds 784 = .ok (.aload_n 0, 1) := by decide +kernel
theorem dL_holds_785 : decode cL_holds 785 = .ok (.iconst 2, 1) := by decide +kernel
theorem dL_holds_786 : decode cL_holds 786 = .ok (.iconst 2, 1) := by decide +kernel
theorem dL_holds_787 : decode cL_holds 787 = .ok (.iconst 0, 1) := by decide +kernel
theorem dL_holds_788 : decode cL_holds 788 = .ok (.iconst 0, 1) := by decide +kernel
theorem dL_holds_789 : decode cL_holds 789 = .ok (.invokestatic 194, 3) := by decide +kernel
theorem dL_holds_792 : decode cL_holds 792 = .ok (.if_icmp .gt 45, 3) := by decide +kernel
theorem dL_holds_795 : decode cL_holds 795 = .ok (.aload_n 0, 1) := by decide +kernel
theorem dL_holds_796 : decode cL_holds 796 = .ok (.iconst 3, 1) := by decide +kernel
theorem dL_holds_797 : decode cL_holds 797 = .ok (.iload 12, 2) := by decide +kernel
theorem dL_holds_799 : decode cL_holds 799 = .ok (.iconst 3, 1) := by decide +kernel
theorem dL_holds_800 : decode cL_holds 800 = .ok (.iconst 0, 1) := by decide +kernel
theorem dL_holds_801 : decode cL_holds 801 = .ok (.invokestatic 194, 3) := by decide +kernel
theorem dL_holds_804 : decode cL_holds 804 = .ok (.iconst (-1), 1) := by decide +kernel
theorem dL_holds_805 : decode cL_holds 805 = .ok (.if_icmp .ne 7, 3) := by decide +kernel
theorem dL_holds_808 : decode cL_holds 808 = .ok (.iconst 1, 1) := by decide +kernel
theorem dL_holds_809 : decode cL_holds 809 = .ok (.goto 4, 3) := by decide +kernel
theorem dL_holds_812 : decode cL_holds 812 = .ok (.iconst 0, 1) := by decide +kernel
theorem dL_holds_813 : decode cL_holds 813 = .ok (.aload_n 0, 1) := by decide +kernel
theorem dL_holds_814 : decode cL_holds 814 = .ok (.iconst 3, 1) := by decide +kernel
theorem dL_holds_815 : decode cL_holds 815 = .ok (.iload 12, 2) := by decide +kernel
theorem dL_holds_817 : decode cL_holds 817 = .ok (.iconst 2, 1) := by decide +kernel
theorem dL_holds_818 : decode cL_holds 818 = .ok (.iconst 0, 1) := by decide +kernel
theorem dL_holds_819 : decode cL_holds 819 = .ok (.invokestatic 194, 3) := by decide +kernel
theorem dL_holds_822 : decode cL_holds 822 = .ok (.ifCond .ne 7, 3) := by decide +kernel
theorem dL_holds_825 : decode cL_holds 825 = .ok (.iconst 1, 1) := by decide +kernel
theorem dL_holds_826 : decode cL_holds 826 = .ok (.goto 4, 3) := by decide +kernel
theorem dL_holds_829 : decode cL_holds 829 = .ok (.iconst 0, 1) := by decide +kernel
theorem dL_holds_830 : decode cL_holds 830 = .ok (.if_icmp .ne 7, 3) := by decide +kernel
theorem dL_holds_833 : decode cL_holds 833 = .ok (.iconst 1, 1) := by decide +kernel
theorem dL_holds_834 : decode cL_holds 834 = .ok (.goto 4, 3) := by decide +kernel
theorem dL_holds_837 : decode cL_holds 837 = .ok (.iconst 0, 1) := by decide +kernel
theorem dL_holds_838 : decode cL_holds 838 = .ok (.ireturn, 1) := by decide +kernel
noncomputable def fL_holds_L434 (M : Nat → Nat → Int32) (kx : Int32 → Int32 → Int32 → Int32 → Int32 → Int32 → Int32 → Int32 → Int32 → Int32 → Int32 → Int32 → Int32 → Int32 → Option Int32) (N : Nat) (y1 : Int32) (y2 : Int32) (y3 : Int32) (y4 : Int32) (y5 : Int32) (y6 : Int32) (y7 : Int32) (y8 : Int32) (y9 : Int32) (y10 : Int32) (y11 : Int32) (y12 : Int32) (y13 : Int32) (y14 : Int32) : Option Int32 :=
  match N with
  | 0 => none
  | N + 1 =>
    if y13 ≤ y14 then
      kx y1 y2 y3 y4 y5 y6 y7 y8 y9 y10 y11 y12 y13 y14
    else
      gd (decide (¬ (y10 = 0))) <|
      bd (qk (rcall M 6 y12 y14 0) M) fun x724 =>
      gd (decide (¬ (y3 ≤ x724))) <|
      bd (qk (rcall M 6 y12 y14 1) M) fun x729 =>
      gd (decide (¬ (x729 ≤ 0))) <|
      bd (qk (rcall M 6 y12 y14 2) M) fun x734 =>
      gd (decide (¬ (x734 ≤ 0))) <|
      bd (qk (rcall M 6 y12 y14 2) M) fun x739 =>
      gd (decide (¬ (10 ≤ x739))) <|
      lt_ (y14 + 1) fun x744 =>
      fL_holds_L434 M kx N y1 y2 y3 y4 y5 y6 y7 y8 y9 1 y11 y12 y13 x744
set_option maxHeartbeats 4000000 in
set_option maxRecDepth 20000 in
theorem lpL_holds_434 {l : Launch} {G : UG} (hG : uAll G) (hN : uNo G) (hlt : l.stackTraces = false) {n : Nat} (hn : n ≤ 850) {M : Nat → Nat → Int32} {r : Int32} {p : Program} {e : Env} {s : State} {m : MethodId} {args : Array Value} {below : List Frame} {meth : Method} {c : Code} (X : UC p s m args meth c cL_holds 16 RL (gA G (uA G))) (hret : meth.sig.returnType = some .boolean) {K : Nat} (hK : K + 0 ≤ 437) {kx : Int32 → Int32 → Int32 → Int32 → Int32 → Int32 → Int32 → Int32 → Int32 → Int32 → Int32 → Int32 → Int32 → Int32 → Option Int32} (kk : ∀ (y1 : Int32) (y2 : Int32) (y3 : Int32) (y4 : Int32) (y5 : Int32) (y6 : Int32) (y7 : Int32) (y8 : Int32) (y9 : Int32) (y10 : Int32) (y11 : Int32) (y12 : Int32) (y13 : Int32) (y14 : Int32) (H : Heap) (locs : List Loc) (ls : Array Slot), kx y1 y2 y3 y4 y5 y6 y7 y8 y9 y10 y11 y12 y13 y14 = some r → WO (uA G) (fun _ => True) G n M s H locs → lv_has ls 16 [(0, .ref (ga G 18 0)), (1, .int y1), (2, .int y2), (3, .int y3), (4, .int y4), (5, .int y5), (6, .int y6), (7, .int y7), (8, .int y8), (9, .int y9), (10, .int y10), (11, .int y11), (12, .int y12), (13, .int y13), (14, .int y14)] → W p l e (nR 11 437 2622 214) s m args below meth c H locs K (6 * K) (MQ below (oQi G .boolean r n M) args s 437 2622 (uA G)) (F0 m 518 ls [])) : ∀ (N k : Nat) (y1 : Int32) (y2 : Int32) (y3 : Int32) (y4 : Int32) (y5 : Int32) (y6 : Int32) (y7 : Int32) (y8 : Int32) (y9 : Int32) (y10 : Int32) (y11 : Int32) (y12 : Int32) (y13 : Int32) (y14 : Int32) (H : Heap) (locs : List Loc) (ls : Array Slot), fL_holds_L434 M kx N y1 y2 y3 y4 y5 y6 y7 y8 y9 y10 y11 y12 y13 y14 = some r → k + 4 * N ≤ K → WO (uA G) (fun _ => True) G n M s H locs → lv_has ls 16 [(0, .ref (ga G 18 0)), (1, .int y1), (2, .int y2), (3, .int y3), (4, .int y4), (5, .int y5), (6, .int y6), (7, .int y7), (8, .int y8), (9, .int y9), (10, .int y10), (11, .int y11), (12, .int y12), (13, .int y13), (14, .int y14)] → W p l e (nR 11 437 2622 214) s m args below meth c H locs k (6 * k) (MQ below (oQi G .boolean r n M) args s 437 2622 (uA G)) (F0 m 434 ls []) := by
  have hx := X.hx
  have hb := X.hb
  have hA : ∀ q, uA G q → uA G q := fun q h => h
  intro N
  induction N with
  | zero => intro k y1 y2 y3 y4 y5 y6 y7 y8 y9 y10 y11 y12 y13 y14 H locs ls h hk Z hl; rw [fL_holds_L434] at h; cases h
  | succ N ih =>
    intro k y1 y2 y3 y4 y5 y6 y7 y8 y9 y10 y11 y12 y13 y14 H locs ls h hk Z hl
    rw [fL_holds_L434] at h
    refine lv_iload hx hb dL_holds_434 (lv_at hl 14 rfl) ?_
    refine lv_iload hx hb dL_holds_436 (lv_at hl 13 rfl) ?_
    refine lv_icmp_ge (tgt := 518) hx hb dL_holds_438 (by decide) (fun c721 => ?_) (fun c721 => ?_)
    · have h := it_t h c721
      refine W.widen (k := K) (n := 6 * K) (by omega) (by omega) ?_
      exact kk _ _ _ _ _ _ _ _ _ _ _ _ _ _ _ _ _ h Z (lv_sub hl [0, 1, 2, 3, 4, 5, 6, 7, 8, 9, 10, 11, 12, 13, 14] rfl)
    · have h := it_f h c721
      refine lv_iload hx hb dL_holds_441 (lv_at hl 10 rfl) ?_
      obtain ⟨z723, h⟩ := gd_e h
      refine lv_if_eq (tgt := 518) hx hb dL_holds_443 (by decide) (fun cn => absurd cn (of_decide_eq_true z723)) (fun c722 => ?_)
      refine lv_aload_n hx hb dL_holds_446 rfl (lv_at hl 0 rfl) ?_
      refine lv_bipush (v := 6) hx hb dL_holds_447 (by decide) ?_
      refine lv_iload hx hb dL_holds_449 (lv_at hl 12 rfl) ?_
      refine lv_iload hx hb dL_holds_451 (lv_at hl 14 rfl) ?_
      refine lv_iconst (v := 0) hx hb dL_holds_453 (by decide) ?_
      obtain ⟨x724, e725, h⟩ := bd_e h
      refine o_cS X hA (stb_t _) Z hl.1 (kG_callq hG hN hlt hn (qk_e e725)) cw_L_194 ⟨Nat.le_of_ble_eq_true rfl, Nat.le_of_ble_eq_true rfl⟩ rfl rfl (Nat.le_of_ble_eq_true rfl) ⟨show k + 1 ≤ 437 by omega, show 6 * k + 6 ≤ 2622 by omega⟩ dL_holds_454 (fun H locs Z n726 => ?_)
      refine lv_iload_n hx hb dL_holds_457 rfl (lv_at hl 3 rfl) ?_
      obtain ⟨z728, h⟩ := gd_e h
      refine lv_icmp_ge (tgt := 509) hx hb dL_holds_458 (by decide) (fun cn => absurd cn (of_decide_eq_true z728)) (fun c727 => ?_)
      refine lv_aload_n hx hb dL_holds_461 rfl (lv_at hl 0 rfl) ?_
      refine lv_bipush (v := 6) hx hb dL_holds_462 (by decide) ?_
      refine lv_iload hx hb dL_holds_464 (lv_at hl 12 rfl) ?_
      refine lv_iload hx hb dL_holds_466 (lv_at hl 14 rfl) ?_
      refine lv_iconst (v := 1) hx hb dL_holds_468 (by decide) ?_
      obtain ⟨x729, e730, h⟩ := bd_e h
      refine o_cS X hA (stb_t _) Z hl.1 (kG_callq hG hN hlt hn (qk_e e730)) cw_L_194 ⟨Nat.le_of_ble_eq_true rfl, Nat.le_of_ble_eq_true rfl⟩ rfl rfl (Nat.le_of_ble_eq_true rfl) ⟨show k + 1 + 1 ≤ 437 by omega, show 6 * k + 6 + 6 ≤ 2622 by omega⟩ dL_holds_469 (fun H locs Z n731 => ?_)
      obtain ⟨z733, h⟩ := gd_e h
      refine lv_if_le (tgt := 509) hx hb dL_holds_472 (by decide) (fun cn => absurd cn (of_decide_eq_true z733)) (fun c732 => ?_)
      refine lv_aload_n hx hb dL_holds_475 rfl (lv_at hl 0 rfl) ?_
      refine lv_bipush (v := 6) hx hb dL_holds_476 (by decide) ?_
      refine lv_iload hx hb dL_holds_478 (lv_at hl 12 rfl) ?_
      refine lv_iload hx hb dL_holds_480 (lv_at hl 14 rfl) ?_
      refine lv_iconst (v := 2) hx hb dL_holds_482 (by decide) ?_
      obtain ⟨x734, e735, h⟩ := bd_e h
      refine o_cS X hA (stb_t _) Z hl.1 (kG_callq hG hN hlt hn (qk_e e735)) cw_L_194 ⟨Nat.le_of_ble_eq_true rfl, Nat.le_of_ble_eq_true rfl⟩ rfl rfl (Nat.le_of_ble_eq_true rfl) ⟨show k + 1 + 1 + 1 ≤ 437 by omega, show 6 * k + 6 + 6 + 6 ≤ 2622 by omega⟩ dL_holds_483 (fun H locs Z n736 => ?_)
      obtain ⟨z738, h⟩ := gd_e h
      refine lv_if_le (tgt := 509) hx hb dL_holds_486 (by decide) (fun cn => absurd cn (of_decide_eq_true z738)) (fun c737 => ?_)
      refine lv_aload_n hx hb dL_holds_489 rfl (lv_at hl 0 rfl) ?_
      refine lv_bipush (v := 6) hx hb dL_holds_490 (by decide) ?_
      refine lv_iload hx hb dL_holds_492 (lv_at hl 12 rfl) ?_
      refine lv_iload hx hb dL_holds_494 (lv_at hl 14 rfl) ?_
      refine lv_iconst (v := 2) hx hb dL_holds_496 (by decide) ?_
      obtain ⟨x739, e740, h⟩ := bd_e h
      refine o_cS X hA (stb_t _) Z hl.1 (kG_callq hG hN hlt hn (qk_e e740)) cw_L_194 ⟨Nat.le_of_ble_eq_true rfl, Nat.le_of_ble_eq_true rfl⟩ rfl rfl (Nat.le_of_ble_eq_true rfl) ⟨show k + 1 + 1 + 1 + 1 ≤ 437 by omega, show 6 * k + 6 + 6 + 6 + 6 ≤ 2622 by omega⟩ dL_holds_497 (fun H locs Z n741 => ?_)
      refine lv_bipush (v := 10) hx hb dL_holds_500 (by decide) ?_
      obtain ⟨z743, h⟩ := gd_e h
      refine lv_icmp_ge (tgt := 509) hx hb dL_holds_502 (by decide) (fun cn => absurd cn (of_decide_eq_true z743)) (fun c742 => ?_)
      refine lv_iconst (v := 1) hx hb dL_holds_505 (by decide) ?_
      refine lv_goto (tgt := 510) hx hb dL_holds_506 (by decide) ?_
      refine lv_istore (lv' := [(10, .int 1), (0, .ref (ga G 18 0)), (1, .int y1), (2, .int y2), (3, .int y3), (4, .int y4), (5, .int y5), (6, .int y6), (7, .int y7), (8, .int y8), (9, .int y9), (11, .int y11), (12, .int y12), (13, .int y13), (14, .int y14)]) hx hb dL_holds_510 hl (by decide) rfl (fun ls hl => ?_)
      obtain ⟨x744, e745, h⟩ := lt_e h
      refine lv_iinc (v := x744) (lv' := [(14, .int x744), (10, .int 1), (0, .ref (ga G 18 0)), (1, .int y1), (2, .int y2), (3, .int y3), (4, .int y4), (5, .int y5), (6, .int y6), (7, .int y7), (8, .int y8), (9, .int y9), (11, .int y11), (12, .int y12), (13, .int y13)]) hx hb dL_holds_512 hl (k := 14) rfl (by rw [e745]; rfl) (by decide) rfl (fun ls hl => ?_)
      refine lv_goto (tgt := 434) hx hb dL_holds_515 (by decide) ?_
      refine W.widen (k := k + 4) (n := 6 * (k + 4)) (by omega) (by omega) ?_
      exact ih (k + 4) _ _ _ _ _ _ _ _ _ _ _ _ _ _ _ _ _ h (by omega) Z (lv_sub hl [2, 3, 4, 5, 6, 7, 8, 9, 10, 11, 1, 12, 13, 14, 0] rfl)
noncomputable def fL_holds_L292 (M : Nat → Nat → Int32) (N : Nat) (y1 : Int32) (y2 : Int32) (y3 : Int32) (y4 : Int32) (y5 : Int32) (y6 : Int32) (y7 : Int32) (y8 : Int32) (y9 : Int32) (y10 : Int32) (y11 : Int32) (y12 : Int32) : Option Int32 :=
  match N with
  | 0 => none
  | N + 1 =>
    if 4 ≤ y12 then
      gd (decide (¬ (y10 = 0))) <|
      gd (decide (y5 = y2)) <|
      bd (qk (rcall M 2 3 0 0) M) fun x16 =>
      gd (decide (y6 = x16)) <|
      bd (qk (rcall M 2 6 0 0) M) fun x21 =>
      gd (decide (y7 = x21)) <|
      gd (decide (y11 = y7)) <|
      bd (qk (rcall M 2 7 0 0) M) fun x28 =>
      gd (decide (y8 = x28)) <|
      bd (qk (rworst M) M) fun x33 =>
      gd (decide (x33 = y9)) <|
      bd (qk (rcall M 2 4 0 0) M) fun x38 =>
      gd (decide (¬ (x38 < y6))) <|
      if y2 = 0 then
        some 1
      else
        gd (decide (¬ y2 = 0)) <|
        lt_ ((y1 - y1 / y2 * y2)) fun x46 =>
        lt_ (((y1 / 16) - (y1 / 16) / 4 * 4)) fun x48 =>
        bd (qk (rcall M 21 x46 x48 0) M) fun x50 =>
        bd (qk (rcall M 20 x46 x48 0) M) fun x53 =>
        gd (decide (¬ (x50 < 0))) <|
        gd (decide (¬ (100 < x50))) <|
        gd (decide (¬ (x53 < 0))) <|
        gd (decide (¬ (8 ≤ x53))) <|
        if x53 = 2 then
          bd (qk (rcall M 5 x48 2 0) M) fun x376 =>
          if x376 = 1 then
            if x53 = 2 then
              gd (decide (x50 = 100)) <|
              if x53 ≤ 1 then
                bd (qk (rcall M 3 x46 0 0) M) fun x537 =>
                gd (decide (¬ (y3 ≤ x537))) <|
                bd (qk (rcall M 3 x46 3 0) M) fun x542 =>
                bd (qk (rcall M 2 2 0 0) M) fun x545 =>
                gd (decide (¬ (x545 < x542))) <|
                bd (qk (rcall M 3 x46 3 0) M) fun x550 =>
                if x550 = (-1) then
                  bd (qk (rcall M 3 x46 2 0) M) fun x560 =>
                  if x560 = 0 then
                    some 1
                  else
                    none
                else
                  bd (qk (rcall M 3 x46 2 0) M) fun x554 =>
                  if x554 = 0 then
                    none
                  else
                    some 1
              else
                if x53 = 7 then
                  bd (qk (rcall M 3 x46 0 0) M) fun x567 =>
                  gd (decide (¬ (y3 ≤ x567))) <|
                  bd (qk (rcall M 3 x46 3 0) M) fun x572 =>
                  bd (qk (rcall M 2 2 0 0) M) fun x575 =>
                  gd (decide (¬ (x575 < x572))) <|
                  bd (qk (rcall M 3 x46 3 0) M) fun x580 =>
                  if x580 = (-1) then
                    bd (qk (rcall M 3 x46 2 0) M) fun x590 =>
                    if x590 = 0 then
                      some 1
                    else
                      none
                  else
                    bd (qk (rcall M 3 x46 2 0) M) fun x584 =>
                    if x584 = 0 then
                      none
                    else
                      some 1
                else
                  if x53 = 4 then
                    bd (qk (rcall M 3 x46 0 0) M) fun x597 =>
                    gd (decide (¬ (y3 ≤ x597))) <|
                    bd (qk (rcall M 3 x46 3 0) M) fun x602 =>
                    bd (qk (rcall M 2 2 0 0) M) fun x605 =>
                    gd (decide (¬ (x605 < x602))) <|
                    bd (qk (rcall M 3 x46 3 0) M) fun x610 =>
                    if x610 = (-1) then
                      bd (qk (rcall M 3 x46 2 0) M) fun x620 =>
                      if x620 = 0 then
                        some 1
                      else
                        none
                    else
                      bd (qk (rcall M 3 x46 2 0) M) fun x614 =>
                      if x614 = 0 then
                        none
                      else
                        some 1
                  else
                    if x53 = 2 then
                      bd (qk (rcall M 3 x46 0 0) M) fun x627 =>
                      gd (decide (¬ (y3 ≤ x627))) <|
                      bd (qk (rcall M 3 x46 3 0) M) fun x632 =>
                      bd (qk (rcall M 2 2 0 0) M) fun x635 =>
                      gd (decide (¬ (x635 < x632))) <|
                      bd (qk (rcall M 3 x46 3 0) M) fun x640 =>
                      if x640 = (-1) then
                        bd (qk (rcall M 3 x46 2 0) M) fun x650 =>
                        if x650 = 0 then
                          some 1
                        else
                          none
                      else
                        bd (qk (rcall M 3 x46 2 0) M) fun x644 =>
                        if x644 = 0 then
                          none
                        else
                          some 1
                    else
                      gd (decide (x50 = 0)) <|
                      bd (qk (rcall M 3 x46 0 0) M) fun x658 =>
                      gd (decide (¬ (y3 ≤ x658))) <|
                      bd (qk (rcall M 3 x46 3 0) M) fun x663 =>
                      bd (qk (rcall M 2 2 0 0) M) fun x666 =>
                      gd (decide (¬ (x666 < x663))) <|
                      bd (qk (rcall M 3 x46 3 0) M) fun x671 =>
                      if x671 = (-1) then
                        bd (qk (rcall M 3 x46 2 0) M) fun x681 =>
                        if x681 = 0 then
                          some 1
                        else
                          none
                      else
                        bd (qk (rcall M 3 x46 2 0) M) fun x675 =>
                        if x675 = 0 then
                          none
                        else
                          some 1
            else
              if x53 ≤ 1 then
                bd (qk (rcall M 3 x46 0 0) M) fun x384 =>
                gd (decide (¬ (y3 ≤ x384))) <|
                bd (qk (rcall M 3 x46 3 0) M) fun x389 =>
                bd (qk (rcall M 2 2 0 0) M) fun x392 =>
                gd (decide (¬ (x392 < x389))) <|
                bd (qk (rcall M 3 x46 3 0) M) fun x397 =>
                if x397 = (-1) then
                  bd (qk (rcall M 3 x46 2 0) M) fun x407 =>
                  if x407 = 0 then
                    some 1
                  else
                    none
                else
                  bd (qk (rcall M 3 x46 2 0) M) fun x401 =>
                  if x401 = 0 then
                    none
                  else
                    some 1
              else
                if x53 = 7 then
                  bd (qk (rcall M 3 x46 0 0) M) fun x414 =>
                  gd (decide (¬ (y3 ≤ x414))) <|
                  bd (qk (rcall M 3 x46 3 0) M) fun x419 =>
                  bd (qk (rcall M 2 2 0 0) M) fun x422 =>
                  gd (decide (¬ (x422 < x419))) <|
                  bd (qk (rcall M 3 x46 3 0) M) fun x427 =>
                  if x427 = (-1) then
                    bd (qk (rcall M 3 x46 2 0) M) fun x437 =>
                    if x437 = 0 then
                      some 1
                    else
                      none
                  else
                    bd (qk (rcall M 3 x46 2 0) M) fun x431 =>
                    if x431 = 0 then
                      none
                    else
                      some 1
                else
                  if x53 = 4 then
                    bd (qk (rcall M 3 x46 0 0) M) fun x444 =>
                    gd (decide (¬ (y3 ≤ x444))) <|
                    bd (qk (rcall M 3 x46 3 0) M) fun x449 =>
                    bd (qk (rcall M 2 2 0 0) M) fun x452 =>
                    gd (decide (¬ (x452 < x449))) <|
                    bd (qk (rcall M 3 x46 3 0) M) fun x457 =>
                    if x457 = (-1) then
                      bd (qk (rcall M 3 x46 2 0) M) fun x467 =>
                      if x467 = 0 then
                        some 1
                      else
                        none
                    else
                      bd (qk (rcall M 3 x46 2 0) M) fun x461 =>
                      if x461 = 0 then
                        none
                      else
                        some 1
                  else
                    if x53 = 2 then
                      bd (qk (rcall M 3 x46 0 0) M) fun x474 =>
                      gd (decide (¬ (y3 ≤ x474))) <|
                      bd (qk (rcall M 3 x46 3 0) M) fun x479 =>
                      bd (qk (rcall M 2 2 0 0) M) fun x482 =>
                      gd (decide (¬ (x482 < x479))) <|
                      bd (qk (rcall M 3 x46 3 0) M) fun x487 =>
                      if x487 = (-1) then
                        bd (qk (rcall M 3 x46 2 0) M) fun x497 =>
                        if x497 = 0 then
                          some 1
                        else
                          none
                      else
                        bd (qk (rcall M 3 x46 2 0) M) fun x491 =>
                        if x491 = 0 then
                          none
                        else
                          some 1
                    else
                      gd (decide (x50 = 0)) <|
                      bd (qk (rcall M 3 x46 0 0) M) fun x505 =>
                      gd (decide (¬ (y3 ≤ x505))) <|
                      bd (qk (rcall M 3 x46 3 0) M) fun x510 =>
                      bd (qk (rcall M 2 2 0 0) M) fun x513 =>
                      gd (decide (¬ (x513 < x510))) <|
                      bd (qk (rcall M 3 x46 3 0) M) fun x518 =>
                      if x518 = (-1) then
                        bd (qk (rcall M 3 x46 2 0) M) fun x528 =>
                        if x528 = 0 then
                          some 1
                        else
                          none
                      else
                        bd (qk (rcall M 3 x46 2 0) M) fun x522 =>
                        if x522 = 0 then
                          none
                        else
                          some 1
          else
            none
        else
          bd (qk (rcall M 5 x48 2 0) M) fun x65 =>
          if x65 = 1 then
            none
          else
            if x53 = 2 then
              gd (decide (x50 = 100)) <|
              if x53 ≤ 1 then
                bd (qk (rcall M 3 x46 0 0) M) fun x225 =>
                gd (decide (¬ (y3 ≤ x225))) <|
                bd (qk (rcall M 3 x46 3 0) M) fun x230 =>
                bd (qk (rcall M 2 2 0 0) M) fun x233 =>
                gd (decide (¬ (x233 < x230))) <|
                bd (qk (rcall M 3 x46 3 0) M) fun x238 =>
                if x238 = (-1) then
                  bd (qk (rcall M 3 x46 2 0) M) fun x248 =>
                  if x248 = 0 then
                    some 1
                  else
                    none
                else
                  bd (qk (rcall M 3 x46 2 0) M) fun x242 =>
                  if x242 = 0 then
                    none
                  else
                    some 1
              else
                if x53 = 7 then
                  bd (qk (rcall M 3 x46 0 0) M) fun x255 =>
                  gd (decide (¬ (y3 ≤ x255))) <|
                  bd (qk (rcall M 3 x46 3 0) M) fun x260 =>
                  bd (qk (rcall M 2 2 0 0) M) fun x263 =>
                  gd (decide (¬ (x263 < x260))) <|
                  bd (qk (rcall M 3 x46 3 0) M) fun x268 =>
                  if x268 = (-1) then
                    bd (qk (rcall M 3 x46 2 0) M) fun x278 =>
                    if x278 = 0 then
                      some 1
                    else
                      none
                  else
                    bd (qk (rcall M 3 x46 2 0) M) fun x272 =>
                    if x272 = 0 then
                      none
                    else
                      some 1
                else
                  if x53 = 4 then
                    bd (qk (rcall M 3 x46 0 0) M) fun x285 =>
                    gd (decide (¬ (y3 ≤ x285))) <|
                    bd (qk (rcall M 3 x46 3 0) M) fun x290 =>
                    bd (qk (rcall M 2 2 0 0) M) fun x293 =>
                    gd (decide (¬ (x293 < x290))) <|
                    bd (qk (rcall M 3 x46 3 0) M) fun x298 =>
                    if x298 = (-1) then
                      bd (qk (rcall M 3 x46 2 0) M) fun x308 =>
                      if x308 = 0 then
                        some 1
                      else
                        none
                    else
                      bd (qk (rcall M 3 x46 2 0) M) fun x302 =>
                      if x302 = 0 then
                        none
                      else
                        some 1
                  else
                    if x53 = 2 then
                      bd (qk (rcall M 3 x46 0 0) M) fun x315 =>
                      gd (decide (¬ (y3 ≤ x315))) <|
                      bd (qk (rcall M 3 x46 3 0) M) fun x320 =>
                      bd (qk (rcall M 2 2 0 0) M) fun x323 =>
                      gd (decide (¬ (x323 < x320))) <|
                      bd (qk (rcall M 3 x46 3 0) M) fun x328 =>
                      if x328 = (-1) then
                        bd (qk (rcall M 3 x46 2 0) M) fun x338 =>
                        if x338 = 0 then
                          some 1
                        else
                          none
                      else
                        bd (qk (rcall M 3 x46 2 0) M) fun x332 =>
                        if x332 = 0 then
                          none
                        else
                          some 1
                    else
                      gd (decide (x50 = 0)) <|
                      bd (qk (rcall M 3 x46 0 0) M) fun x346 =>
                      gd (decide (¬ (y3 ≤ x346))) <|
                      bd (qk (rcall M 3 x46 3 0) M) fun x351 =>
                      bd (qk (rcall M 2 2 0 0) M) fun x354 =>
                      gd (decide (¬ (x354 < x351))) <|
                      bd (qk (rcall M 3 x46 3 0) M) fun x359 =>
                      if x359 = (-1) then
                        bd (qk (rcall M 3 x46 2 0) M) fun x369 =>
                        if x369 = 0 then
                          some 1
                        else
                          none
                      else
                        bd (qk (rcall M 3 x46 2 0) M) fun x363 =>
                        if x363 = 0 then
                          none
                        else
                          some 1
            else
              if x53 ≤ 1 then
                bd (qk (rcall M 3 x46 0 0) M) fun x72 =>
                gd (decide (¬ (y3 ≤ x72))) <|
                bd (qk (rcall M 3 x46 3 0) M) fun x77 =>
                bd (qk (rcall M 2 2 0 0) M) fun x80 =>
                gd (decide (¬ (x80 < x77))) <|
                bd (qk (rcall M 3 x46 3 0) M) fun x85 =>
                if x85 = (-1) then
                  bd (qk (rcall M 3 x46 2 0) M) fun x95 =>
                  if x95 = 0 then
                    some 1
                  else
                    none
                else
                  bd (qk (rcall M 3 x46 2 0) M) fun x89 =>
                  if x89 = 0 then
                    none
                  else
                    some 1
              else
                if x53 = 7 then
                  bd (qk (rcall M 3 x46 0 0) M) fun x102 =>
                  gd (decide (¬ (y3 ≤ x102))) <|
                  bd (qk (rcall M 3 x46 3 0) M) fun x107 =>
                  bd (qk (rcall M 2 2 0 0) M) fun x110 =>
                  gd (decide (¬ (x110 < x107))) <|
                  bd (qk (rcall M 3 x46 3 0) M) fun x115 =>
                  if x115 = (-1) then
                    bd (qk (rcall M 3 x46 2 0) M) fun x125 =>
                    if x125 = 0 then
                      some 1
                    else
                      none
                  else
                    bd (qk (rcall M 3 x46 2 0) M) fun x119 =>
                    if x119 = 0 then
                      none
                    else
                      some 1
                else
                  if x53 = 4 then
                    bd (qk (rcall M 3 x46 0 0) M) fun x132 =>
                    gd (decide (¬ (y3 ≤ x132))) <|
                    bd (qk (rcall M 3 x46 3 0) M) fun x137 =>
                    bd (qk (rcall M 2 2 0 0) M) fun x140 =>
                    gd (decide (¬ (x140 < x137))) <|
                    bd (qk (rcall M 3 x46 3 0) M) fun x145 =>
                    if x145 = (-1) then
                      bd (qk (rcall M 3 x46 2 0) M) fun x155 =>
                      if x155 = 0 then
                        some 1
                      else
                        none
                    else
                      bd (qk (rcall M 3 x46 2 0) M) fun x149 =>
                      if x149 = 0 then
                        none
                      else
                        some 1
                  else
                    if x53 = 2 then
                      bd (qk (rcall M 3 x46 0 0) M) fun x162 =>
                      gd (decide (¬ (y3 ≤ x162))) <|
                      bd (qk (rcall M 3 x46 3 0) M) fun x167 =>
                      bd (qk (rcall M 2 2 0 0) M) fun x170 =>
                      gd (decide (¬ (x170 < x167))) <|
                      bd (qk (rcall M 3 x46 3 0) M) fun x175 =>
                      if x175 = (-1) then
                        bd (qk (rcall M 3 x46 2 0) M) fun x185 =>
                        if x185 = 0 then
                          some 1
                        else
                          none
                      else
                        bd (qk (rcall M 3 x46 2 0) M) fun x179 =>
                        if x179 = 0 then
                          none
                        else
                          some 1
                    else
                      gd (decide (x50 = 0)) <|
                      bd (qk (rcall M 3 x46 0 0) M) fun x193 =>
                      gd (decide (¬ (y3 ≤ x193))) <|
                      bd (qk (rcall M 3 x46 3 0) M) fun x198 =>
                      bd (qk (rcall M 2 2 0 0) M) fun x201 =>
                      gd (decide (¬ (x201 < x198))) <|
                      bd (qk (rcall M 3 x46 3 0) M) fun x206 =>
                      if x206 = (-1) then
                        bd (qk (rcall M 3 x46 2 0) M) fun x216 =>
                        if x216 = 0 then
                          some 1
                        else
                          none
                      else
                        bd (qk (rcall M 3 x46 2 0) M) fun x210 =>
                        if x210 = 0 then
                          none
                        else
                          some 1
    else
      gd (decide (¬ (y10 = 0))) <|
      bd (qk (rcall M 5 y12 3 0) M) fun x689 =>
      lt_ ((y11 + x689)) fun x692 =>
      gd (decide (¬ (12 < x689))) <|
      bd (qk (rcall M 5 y12 1 0) M) fun x696 =>
      if x696 = 0 then
        bd (qk (rcall M 6 y12 x689 0) M) fun x700 =>
        gd (decide (x700 = (-9999001))) <|
        bd (qk (rcall M 22 y12 0 0) M) fun x705 =>
        bd (qk (rcall M 22 y12 1 0) M) fun x708 =>
        gd (decide ((x705 + x708) = x689)) <|
        bd (qk (rcall M 22 y12 3 0) M) fun x713 =>
        bd (qk (rcall M 22 y12 0 0) M) fun x716 =>
        gd (decide (¬ (x713 < x716))) <|
        fL_holds_L434 M (fun x746 x747 x748 x749 x750 x751 x752 x753 x754 x755 x756 x757 x758 x759 =>
            lt_ (x757 + 1) fun x760 =>
            fL_holds_L292 M N x746 x747 x748 x749 x750 x751 x752 x753 x754 x755 x756 x760) 13 y1 y2 y3 y4 y5 y6 y7 y8 y9 1 x692 y12 x689 0
      else
        gd (decide (x689 = 0)) <|
        bd (qk (rcall M 5 y12 4 0) M) fun x764 =>
        gd (decide (x764 = y4)) <|
        bd (qk (rcall M 6 y12 x689 0) M) fun x769 =>
        gd (decide (x769 = (-9999001))) <|
        bd (qk (rcall M 22 y12 0 0) M) fun x774 =>
        bd (qk (rcall M 22 y12 1 0) M) fun x777 =>
        gd (decide ((x774 + x777) = x689)) <|
        bd (qk (rcall M 22 y12 3 0) M) fun x782 =>
        bd (qk (rcall M 22 y12 0 0) M) fun x785 =>
        gd (decide (¬ (x782 < x785))) <|
        fL_holds_L434 M (fun x790 x791 x792 x793 x794 x795 x796 x797 x798 x799 x800 x801 x802 x803 =>
            lt_ (x801 + 1) fun x804 =>
            fL_holds_L292 M N x790 x791 x792 x793 x794 x795 x796 x797 x798 x799 x800 x804) 13 y1 y2 y3 y4 y5 y6 y7 y8 y9 1 x692 y12 x689 0
set_option maxHeartbeats 4000000 in
set_option maxRecDepth 20000 in
theorem lpL_holds_292 {l : Launch} {G : UG} (hG : uAll G) (hN : uNo G) (hlt : l.stackTraces = false) {n : Nat} (hn : n ≤ 850) {M : Nat → Nat → Int32} {r : Int32} {p : Program} {e : Env} {s : State} {m : MethodId} {args : Array Value} {below : List Frame} {meth : Method} {c : Code} (X : UC p s m args meth c cL_holds 16 RL (gA G (uA G))) (hret : meth.sig.returnType = some .boolean) : ∀ (N k : Nat) (y1 : Int32) (y2 : Int32) (y3 : Int32) (y4 : Int32) (y5 : Int32) (y6 : Int32) (y7 : Int32) (y8 : Int32) (y9 : Int32) (y10 : Int32) (y11 : Int32) (y12 : Int32) (H : Heap) (locs : List Loc) (ls : Array Slot), fL_holds_L292 M N y1 y2 y3 y4 y5 y6 y7 y8 y9 y10 y11 y12 = some r → k + (60 * N + 12) ≤ 437 → WO (uA G) (fun _ => True) G n M s H locs → lv_has ls 16 [(0, .ref (ga G 18 0)), (1, .int y1), (2, .int y2), (3, .int y3), (4, .int y4), (5, .int y5), (6, .int y6), (7, .int y7), (8, .int y8), (9, .int y9), (10, .int y10), (11, .int y11), (12, .int y12)] → W p l e (nR 11 437 2622 214) s m args below meth c H locs k (6 * k) (MQ below (oQi G .boolean r n M) args s 437 2622 (uA G)) (F0 m 292 ls []) := by
  have hx := X.hx
  have hb := X.hb
  have hA : ∀ q, uA G q → uA G q := fun q h => h
  intro N
  induction N with
  | zero => intro k y1 y2 y3 y4 y5 y6 y7 y8 y9 y10 y11 y12 H locs ls h hk Z hl; rw [fL_holds_L292] at h; cases h
  | succ N ih =>
    intro k y1 y2 y3 y4 y5 y6 y7 y8 y9 y10 y11 y12 H locs ls h hk Z hl
    rw [fL_holds_L292] at h
    refine lv_iload hx hb dL_holds_292 (lv_at hl 12 rfl) ?_
    refine lv_iconst (v := 4) hx hb dL_holds_294 (by decide) ?_
    refine lv_icmp_ge (tgt := 524) hx hb dL_holds_295 (by decide) (fun c11 => ?_) (fun c11 => ?_)
    · have h := it_t h c11
      refine lv_iload hx hb dL_holds_524 (lv_at hl 10 rfl) ?_
      obtain ⟨z13, h⟩ := gd_e h
      refine lv_if_eq (tgt := 609) hx hb dL_holds_526 (by decide) (fun cn => absurd cn (of_decide_eq_true z13)) (fun c12 => ?_)
      refine lv_iload hx hb dL_holds_529 (lv_at hl 5 rfl) ?_
      refine lv_iload_n hx hb dL_holds_531 rfl (lv_at hl 2 rfl) ?_
      obtain ⟨z15, h⟩ := gd_e h
      refine lv_icmp_ne (tgt := 609) hx hb dL_holds_532 (by decide) (fun cn => absurd (of_decide_eq_true z15) cn) (fun c14 => ?_)
      refine lv_iload hx hb dL_holds_535 (lv_at hl 6 rfl) ?_
      refine lv_aload_n hx hb dL_holds_537 rfl (lv_at hl 0 rfl) ?_
      refine lv_iconst (v := 2) hx hb dL_holds_538 (by decide) ?_
      refine lv_iconst (v := 3) hx hb dL_holds_539 (by decide) ?_
      refine lv_iconst (v := 0) hx hb dL_holds_540 (by decide) ?_
      refine lv_iconst (v := 0) hx hb dL_holds_541 (by decide) ?_
      obtain ⟨x16, e17, h⟩ := bd_e h
      refine o_cS X hA (stb_t _) Z hl.1 (kG_callq hG hN hlt hn (qk_e e17)) cw_L_194 ⟨Nat.le_of_ble_eq_true rfl, Nat.le_of_ble_eq_true rfl⟩ rfl rfl (Nat.le_of_ble_eq_true rfl) ⟨show k + 1 ≤ 437 by omega, show 6 * k + 6 ≤ 2622 by omega⟩ dL_holds_542 (fun H locs Z n18 => ?_)
      obtain ⟨z20, h⟩ := gd_e h
      refine lv_icmp_ne (tgt := 609) hx hb dL_holds_545 (by decide) (fun cn => absurd (of_decide_eq_true z20) cn) (fun c19 => ?_)
      refine lv_iload hx hb dL_holds_548 (lv_at hl 7 rfl) ?_
      refine lv_aload_n hx hb dL_holds_550 rfl (lv_at hl 0 rfl) ?_
      refine lv_iconst (v := 2) hx hb dL_holds_551 (by decide) ?_
      refine lv_bipush (v := 6) hx hb dL_holds_552 (by decide) ?_
      refine lv_iconst (v := 0) hx hb dL_holds_554 (by decide) ?_
      refine lv_iconst (v := 0) hx hb dL_holds_555 (by decide) ?_
      obtain ⟨x21, e22, h⟩ := bd_e h
      refine o_cS X hA (stb_t _) Z hl.1 (kG_callq hG hN hlt hn (qk_e e22)) cw_L_194 ⟨Nat.le_of_ble_eq_true rfl, Nat.le_of_ble_eq_true rfl⟩ rfl rfl (Nat.le_of_ble_eq_true rfl) ⟨show k + 1 + 1 ≤ 437 by omega, show 6 * k + 6 + 6 ≤ 2622 by omega⟩ dL_holds_556 (fun H locs Z n23 => ?_)
      obtain ⟨z25, h⟩ := gd_e h
      refine lv_icmp_ne (tgt := 609) hx hb dL_holds_559 (by decide) (fun cn => absurd (of_decide_eq_true z25) cn) (fun c24 => ?_)
      refine lv_iload hx hb dL_holds_562 (lv_at hl 11 rfl) ?_
      refine lv_iload hx hb dL_holds_564 (lv_at hl 7 rfl) ?_
      obtain ⟨z27, h⟩ := gd_e h
      refine lv_icmp_ne (tgt := 609) hx hb dL_holds_566 (by decide) (fun cn => absurd (of_decide_eq_true z27) cn) (fun c26 => ?_)
      refine lv_iload hx hb dL_holds_569 (lv_at hl 8 rfl) ?_
      refine lv_aload_n hx hb dL_holds_571 rfl (lv_at hl 0 rfl) ?_
      refine lv_iconst (v := 2) hx hb dL_holds_572 (by decide) ?_
      refine lv_bipush (v := 7) hx hb dL_holds_573 (by decide) ?_
      refine lv_iconst (v := 0) hx hb dL_holds_575 (by decide) ?_
      refine lv_iconst (v := 0) hx hb dL_holds_576 (by decide) ?_
      obtain ⟨x28, e29, h⟩ := bd_e h
      refine o_cS X hA (stb_t _) Z hl.1 (kG_callq hG hN hlt hn (qk_e e29)) cw_L_194 ⟨Nat.le_of_ble_eq_true rfl, Nat.le_of_ble_eq_true rfl⟩ rfl rfl (Nat.le_of_ble_eq_true rfl) ⟨show k + 1 + 1 + 1 ≤ 437 by omega, show 6 * k + 6 + 6 + 6 ≤ 2622 by omega⟩ dL_holds_577 (fun H locs Z n30 => ?_)
      obtain ⟨z32, h⟩ := gd_e h
      refine lv_icmp_ne (tgt := 609) hx hb dL_holds_580 (by decide) (fun cn => absurd (of_decide_eq_true z32) cn) (fun c31 => ?_)
      refine lv_aload_n hx hb dL_holds_583 rfl (lv_at hl 0 rfl) ?_
      obtain ⟨x33, e34, h⟩ := bd_e h
      refine o_cV X hA (stb_t _) hG Z hl.1 (kG_worst hG hN (qk_e e34)) cw_L_208 ⟨Nat.le_of_ble_eq_true rfl, Nat.le_of_ble_eq_true rfl⟩ rfl rfl (Nat.le_of_ble_eq_true rfl) ⟨show k + 1 + 1 + 1 ≤ 437 by omega, show 6 * k + 6 + 6 + 6 ≤ 2622 by omega⟩ dL_holds_584 (fun H locs Z n35 => ?_)
      refine lv_iload hx hb dL_holds_587 (lv_at hl 9 rfl) ?_
      obtain ⟨z37, h⟩ := gd_e h
      refine lv_icmp_ne (tgt := 609) hx hb dL_holds_589 (by decide) (fun cn => absurd (of_decide_eq_true z37) cn) (fun c36 => ?_)
      refine lv_aload_n hx hb dL_holds_592 rfl (lv_at hl 0 rfl) ?_
      refine lv_iconst (v := 2) hx hb dL_holds_593 (by decide) ?_
      refine lv_iconst (v := 4) hx hb dL_holds_594 (by decide) ?_
      refine lv_iconst (v := 0) hx hb dL_holds_595 (by decide) ?_
      refine lv_iconst (v := 0) hx hb dL_holds_596 (by decide) ?_
      obtain ⟨x38, e39, h⟩ := bd_e h
      refine o_cS X hA (stb_t _) Z hl.1 (kG_callq hG hN hlt hn (qk_e e39)) cw_L_194 ⟨Nat.le_of_ble_eq_true rfl, Nat.le_of_ble_eq_true rfl⟩ rfl rfl (Nat.le_of_ble_eq_true rfl) ⟨show k + 1 + 1 + 1 + 1 ≤ 437 by omega, show 6 * k + 6 + 6 + 6 + 6 ≤ 2622 by omega⟩ dL_holds_597 (fun H locs Z n40 => ?_)
      refine lv_iload hx hb dL_holds_600 (lv_at hl 6 rfl) ?_
      obtain ⟨z42, h⟩ := gd_e h
      refine lv_icmp_lt (tgt := 609) hx hb dL_holds_602 (by decide) (fun cn => absurd cn (of_decide_eq_true z42)) (fun c41 => ?_)
      refine lv_iconst (v := 1) hx hb dL_holds_605 (by decide) ?_
      refine lv_goto (tgt := 610) hx hb dL_holds_606 (by decide) ?_
      refine lv_istore (lv' := [(10, .int 1), (0, .ref (ga G 18 0)), (1, .int y1), (2, .int y2), (3, .int y3), (4, .int y4), (5, .int y5), (6, .int y6), (7, .int y7), (8, .int y8), (9, .int y9), (11, .int y11), (12, .int y12)]) hx hb dL_holds_610 hl (by decide) rfl (fun ls hl => ?_)
      refine lv_iload_n hx hb dL_holds_612 rfl (lv_at hl 3 rfl) ?_
      refine lv_if_eq (tgt := 621) hx hb dL_holds_613 (by decide) (fun c43 => ?_) (fun c43 => ?_)
      · have h := it_t h c43
        refine lv_iload hx hb dL_holds_621 (lv_at hl 0 rfl) ?_
        refine W.widen (k := 437) (n := 2622) (by omega) (by omega) ?_
        exact o_iret X hret Z (Option.some.inj h) rfl dL_holds_623
      · have h := it_f h c43
        refine lv_iload hx hb dL_holds_616 (lv_at hl 0 rfl) ?_
        refine lv_if_ne (tgt := 624) hx hb dL_holds_618 (by decide) (fun c44 => ?_) (fun cn => absurd cn (by decide : ¬ ((1 : Int32) = 0)))
        refine lv_iload_n hx hb dL_holds_624 rfl (lv_at hl 2 rfl) ?_
        refine lv_iload_n hx hb dL_holds_625 rfl (lv_at hl 3 rfl) ?_
        obtain ⟨z45, h⟩ := gd_e h
        refine lv_irem hx hb dL_holds_626 (of_decide_eq_true z45) ?_
        obtain ⟨x46, e47, h⟩ := lt_e h
        refine u_topi e47 ?_
        refine lv_istore (lv' := [(12, .int x46), (10, .int 1), (0, .ref (ga G 18 0)), (1, .int y1), (2, .int y2), (3, .int y3), (4, .int y4), (5, .int y5), (6, .int y6), (7, .int y7), (8, .int y8), (9, .int y9), (11, .int y11)]) hx hb dL_holds_627 hl (by decide) rfl (fun ls hl => ?_)
        refine lv_iload_n hx hb dL_holds_629 rfl (lv_at hl 3 rfl) ?_
        refine lv_bipush (v := 16) hx hb dL_holds_630 (by decide) ?_
        refine lv_idiv hx hb dL_holds_632 (by decide) ?_
        refine lv_iconst (v := 4) hx hb dL_holds_633 (by decide) ?_
        refine lv_irem hx hb dL_holds_634 (by decide) ?_
        obtain ⟨x48, e49, h⟩ := lt_e h
        refine u_topi e49 ?_
        refine lv_istore (lv' := [(13, .int x48), (12, .int x46), (10, .int 1), (0, .ref (ga G 18 0)), (1, .int y1), (2, .int y2), (3, .int y3), (4, .int y4), (5, .int y5), (6, .int y6), (7, .int y7), (8, .int y8), (9, .int y9), (11, .int y11)]) hx hb dL_holds_635 hl (by decide) rfl (fun ls hl => ?_)
        refine lv_aload_n hx hb dL_holds_637 rfl (lv_at hl 3 rfl) ?_
        refine lv_bipush (v := 21) hx hb dL_holds_638 (by decide) ?_
        refine lv_iload hx hb dL_holds_640 (lv_at hl 1 rfl) ?_
        refine lv_iload hx hb dL_holds_642 (lv_at hl 0 rfl) ?_
        refine lv_iconst (v := 0) hx hb dL_holds_644 (by decide) ?_
        obtain ⟨x50, e51, h⟩ := bd_e h
        refine o_cS X hA (stb_t _) Z hl.1 (kG_callq hG hN hlt hn (qk_e e51)) cw_L_194 ⟨Nat.le_of_ble_eq_true rfl, Nat.le_of_ble_eq_true rfl⟩ rfl rfl (Nat.le_of_ble_eq_true rfl) ⟨show k + 1 + 1 + 1 + 1 + 1 ≤ 437 by omega, show 6 * k + 6 + 6 + 6 + 6 + 6 ≤ 2622 by omega⟩ dL_holds_645 (fun H locs Z n52 => ?_)
        refine lv_istore (lv' := [(14, .int x50), (13, .int x48), (12, .int x46), (10, .int 1), (0, .ref (ga G 18 0)), (1, .int y1), (2, .int y2), (3, .int y3), (4, .int y4), (5, .int y5), (6, .int y6), (7, .int y7), (8, .int y8), (9, .int y9), (11, .int y11)]) hx hb dL_holds_648 hl (by decide) rfl (fun ls hl => ?_)
        refine lv_aload_n hx hb dL_holds_650 rfl (lv_at hl 4 rfl) ?_
        refine lv_bipush (v := 20) hx hb dL_holds_651 (by decide) ?_
        refine lv_iload hx hb dL_holds_653 (lv_at hl 2 rfl) ?_
        refine lv_iload hx hb dL_holds_655 (lv_at hl 1 rfl) ?_
        refine lv_iconst (v := 0) hx hb dL_holds_657 (by decide) ?_
        obtain ⟨x53, e54, h⟩ := bd_e h
        refine o_cS X hA (stb_t _) Z hl.1 (kG_callq hG hN hlt hn (qk_e e54)) cw_L_194 ⟨Nat.le_of_ble_eq_true rfl, Nat.le_of_ble_eq_true rfl⟩ rfl rfl (Nat.le_of_ble_eq_true rfl) ⟨show k + 1 + 1 + 1 + 1 + 1 + 1 ≤ 437 by omega, show 6 * k + 6 + 6 + 6 + 6 + 6 + 6 ≤ 2622 by omega⟩ dL_holds_658 (fun H locs Z n55 => ?_)
        refine lv_istore (lv' := [(15, .int x53), (14, .int x50), (13, .int x48), (12, .int x46), (10, .int 1), (0, .ref (ga G 18 0)), (1, .int y1), (2, .int y2), (3, .int y3), (4, .int y4), (5, .int y5), (6, .int y6), (7, .int y7), (8, .int y8), (9, .int y9), (11, .int y11)]) hx hb dL_holds_661 hl (by decide) rfl (fun ls hl => ?_)
        refine lv_iload hx hb dL_holds_663 (lv_at hl 1 rfl) ?_
        obtain ⟨z57, h⟩ := gd_e h
        refine lv_if_lt (tgt := 837) hx hb dL_holds_665 (by decide) (fun cn => absurd cn (of_decide_eq_true z57)) (fun c56 => ?_)
        refine lv_iload hx hb dL_holds_668 (lv_at hl 1 rfl) ?_
        refine lv_bipush (v := 100) hx hb dL_holds_670 (by decide) ?_
        obtain ⟨z59, h⟩ := gd_e h
        refine lv_icmp_gt (tgt := 837) hx hb dL_holds_672 (by decide) (fun cn => absurd cn (of_decide_eq_true z59)) (fun c58 => ?_)
        refine lv_iload hx hb dL_holds_675 (lv_at hl 0 rfl) ?_
        obtain ⟨z61, h⟩ := gd_e h
        refine lv_if_lt (tgt := 837) hx hb dL_holds_677 (by decide) (fun cn => absurd cn (of_decide_eq_true z61)) (fun c60 => ?_)
        refine lv_iload hx hb dL_holds_680 (lv_at hl 0 rfl) ?_
        refine lv_bipush (v := 8) hx hb dL_holds_682 (by decide) ?_
        obtain ⟨z63, h⟩ := gd_e h
        refine lv_icmp_ge (tgt := 837) hx hb dL_holds_684 (by decide) (fun cn => absurd cn (of_decide_eq_true z63)) (fun c62 => ?_)
        refine lv_iload hx hb dL_holds_687 (lv_at hl 0 rfl) ?_
        refine lv_iconst (v := 2) hx hb dL_holds_689 (by decide) ?_
        refine lv_icmp_ne (tgt := 697) hx hb dL_holds_690 (by decide) (fun c64 => ?_) (fun c64 => ?_)
        · have h := it_f h c64
          refine lv_iconst (v := 0) hx hb dL_holds_697 (by decide) ?_
          refine lv_aload_n hx hb dL_holds_698 rfl (lv_at hl 5 rfl) ?_
          refine lv_iconst (v := 5) hx hb dL_holds_699 (by decide) ?_
          refine lv_iload hx hb dL_holds_700 (lv_at hl 2 rfl) ?_
          refine lv_iconst (v := 2) hx hb dL_holds_702 (by decide) ?_
          refine lv_iconst (v := 0) hx hb dL_holds_703 (by decide) ?_
          obtain ⟨x65, e66, h⟩ := bd_e h
          refine o_cS X hA (stb_t _) Z hl.1 (kG_callq hG hN hlt hn (qk_e e66)) cw_L_194 ⟨Nat.le_of_ble_eq_true rfl, Nat.le_of_ble_eq_true rfl⟩ rfl rfl (Nat.le_of_ble_eq_true rfl) ⟨show k + 1 + 1 + 1 + 1 + 1 + 1 + 1 ≤ 437 by omega, show 6 * k + 6 + 6 + 6 + 6 + 6 + 6 + 6 ≤ 2622 by omega⟩ dL_holds_704 (fun H locs Z n67 => ?_)
          refine lv_iconst (v := 1) hx hb dL_holds_707 (by decide) ?_
          refine lv_icmp_ne (tgt := 715) hx hb dL_holds_708 (by decide) (fun c68 => ?_) (fun c68 => ?_)
          · have h := it_f h c68
            refine lv_iconst (v := 0) hx hb dL_holds_715 (by decide) ?_
            refine lv_icmp_ne (tgt := 837) hx hb dL_holds_716 (by decide) (fun cn => absurd (by decide : (0 : Int32) = 0) cn) (fun c69 => ?_)
            refine lv_iload hx hb dL_holds_719 (lv_at hl 0 rfl) ?_
            refine lv_iconst (v := 2) hx hb dL_holds_721 (by decide) ?_
            refine lv_icmp_ne (tgt := 732) hx hb dL_holds_722 (by decide) (fun c70 => ?_) (fun c70 => ?_)
            · have h := it_f h c70
              refine lv_iload hx hb dL_holds_732 (lv_at hl 0 rfl) ?_
              refine lv_iconst (v := 1) hx hb dL_holds_734 (by decide) ?_
              refine lv_icmp_le (tgt := 762) hx hb dL_holds_735 (by decide) (fun c71 => ?_) (fun c71 => ?_)
              · have h := it_t h c71
                refine lv_aload_n hx hb dL_holds_762 rfl (lv_at hl 5 rfl) ?_
                refine lv_iconst (v := 3) hx hb dL_holds_763 (by decide) ?_
                refine lv_iload hx hb dL_holds_764 (lv_at hl 3 rfl) ?_
                refine lv_iconst (v := 0) hx hb dL_holds_766 (by decide) ?_
                refine lv_iconst (v := 0) hx hb dL_holds_767 (by decide) ?_
                obtain ⟨x72, e73, h⟩ := bd_e h
                refine o_cS X hA (stb_t _) Z hl.1 (kG_callq hG hN hlt hn (qk_e e73)) cw_L_194 ⟨Nat.le_of_ble_eq_true rfl, Nat.le_of_ble_eq_true rfl⟩ rfl rfl (Nat.le_of_ble_eq_true rfl) ⟨show k + 1 + 1 + 1 + 1 + 1 + 1 + 1 + 1 ≤ 437 by omega, show 6 * k + 6 + 6 + 6 + 6 + 6 + 6 + 6 + 6 ≤ 2622 by omega⟩ dL_holds_768 (fun H locs Z n74 => ?_)
                refine lv_iload_n hx hb dL_holds_771 rfl (lv_at hl 8 rfl) ?_
                obtain ⟨z76, h⟩ := gd_e h
                refine lv_icmp_ge (tgt := 837) hx hb dL_holds_772 (by decide) (fun cn => absurd cn (of_decide_eq_true z76)) (fun c75 => ?_)
                refine lv_aload_n hx hb dL_holds_775 rfl (lv_at hl 5 rfl) ?_
                refine lv_iconst (v := 3) hx hb dL_holds_776 (by decide) ?_
                refine lv_iload hx hb dL_holds_777 (lv_at hl 3 rfl) ?_
                refine lv_iconst (v := 3) hx hb dL_holds_779 (by decide) ?_
                refine lv_iconst (v := 0) hx hb dL_holds_780 (by decide) ?_
                obtain ⟨x77, e78, h⟩ := bd_e h
                refine o_cS X hA (stb_t _) Z hl.1 (kG_callq hG hN hlt hn (qk_e e78)) cw_L_194 ⟨Nat.le_of_ble_eq_true rfl, Nat.le_of_ble_eq_true rfl⟩ rfl rfl (Nat.le_of_ble_eq_true rfl) ⟨show k + 1 + 1 + 1 + 1 + 1 + 1 + 1 + 1 + 1 ≤ 437 by omega, show 6 * k + 6 + 6 + 6 + 6 + 6 + 6 + 6 + 6 + 6 ≤ 2622 by omega⟩ dL_holds_781 (fun H locs Z n79 => ?_)
                refine lv_aload_n hx hb dL_holds_784 rfl (lv_at hl 5 rfl) ?_
                refine lv_iconst (v := 2) hx hb dL_holds_785 (by decide) ?_
                refine lv_iconst (v := 2) hx hb dL_holds_786 (by decide) ?_
                refine lv_iconst (v := 0) hx hb dL_holds_787 (by decide) ?_
                refine lv_iconst (v := 0) hx hb dL_holds_788 (by decide) ?_
                obtain ⟨x80, e81, h⟩ := bd_e h
                refine o_cS X hA (stb_t _) Z hl.1 (kG_callq hG hN hlt hn (qk_e e81)) cw_L_194 ⟨Nat.le_of_ble_eq_true rfl, Nat.le_of_ble_eq_true rfl⟩ rfl rfl (Nat.le_of_ble_eq_true rfl) ⟨show k + 1 + 1 + 1 + 1 + 1 + 1 + 1 + 1 + 1 + 1 ≤ 437 by omega, show 6 * k + 6 + 6 + 6 + 6 + 6 + 6 + 6 + 6 + 6 + 6 ≤ 2622 by omega⟩ dL_holds_789 (fun H locs Z n82 => ?_)
                obtain ⟨z84, h⟩ := gd_e h
                refine lv_icmp_gt (tgt := 837) hx hb dL_holds_792 (by decide) (fun cn => absurd cn (of_decide_eq_true z84)) (fun c83 => ?_)
                refine lv_aload_n hx hb dL_holds_795 rfl (lv_at hl 5 rfl) ?_
                refine lv_iconst (v := 3) hx hb dL_holds_796 (by decide) ?_
                refine lv_iload hx hb dL_holds_797 (lv_at hl 3 rfl) ?_
                refine lv_iconst (v := 3) hx hb dL_holds_799 (by decide) ?_
                refine lv_iconst (v := 0) hx hb dL_holds_800 (by decide) ?_
                obtain ⟨x85, e86, h⟩ := bd_e h
                refine o_cS X hA (stb_t _) Z hl.1 (kG_callq hG hN hlt hn (qk_e e86)) cw_L_194 ⟨Nat.le_of_ble_eq_true rfl, Nat.le_of_ble_eq_true rfl⟩ rfl rfl (Nat.le_of_ble_eq_true rfl) ⟨show k + 1 + 1 + 1 + 1 + 1 + 1 + 1 + 1 + 1 + 1 + 1 ≤ 437 by omega, show 6 * k + 6 + 6 + 6 + 6 + 6 + 6 + 6 + 6 + 6 + 6 + 6 ≤ 2622 by omega⟩ dL_holds_801 (fun H locs Z n87 => ?_)
                refine lv_iconst (v := (-1)) hx hb dL_holds_804 (by decide) ?_
                refine lv_icmp_ne (tgt := 812) hx hb dL_holds_805 (by decide) (fun c88 => ?_) (fun c88 => ?_)
                · have h := it_f h c88
                  refine lv_iconst (v := 0) hx hb dL_holds_812 (by decide) ?_
                  refine lv_aload_n hx hb dL_holds_813 rfl (lv_at hl 5 rfl) ?_
                  refine lv_iconst (v := 3) hx hb dL_holds_814 (by decide) ?_
                  refine lv_iload hx hb dL_holds_815 (lv_at hl 3 rfl) ?_
                  refine lv_iconst (v := 2) hx hb dL_holds_817 (by decide) ?_
                  refine lv_iconst (v := 0) hx hb dL_holds_818 (by decide) ?_
                  obtain ⟨x89, e90, h⟩ := bd_e h
                  refine o_cS X hA (stb_t _) Z hl.1 (kG_callq hG hN hlt hn (qk_e e90)) cw_L_194 ⟨Nat.le_of_ble_eq_true rfl, Nat.le_of_ble_eq_true rfl⟩ rfl rfl (Nat.le_of_ble_eq_true rfl) ⟨show k + 1 + 1 + 1 + 1 + 1 + 1 + 1 + 1 + 1 + 1 + 1 + 1 ≤ 437 by omega, show 6 * k + 6 + 6 + 6 + 6 + 6 + 6 + 6 + 6 + 6 + 6 + 6 + 6 ≤ 2622 by omega⟩ dL_holds_819 (fun H locs Z n91 => ?_)
                  refine lv_if_ne (tgt := 829) hx hb dL_holds_822 (by decide) (fun c92 => ?_) (fun c92 => ?_)
                  · have h := it_f h c92
                    refine lv_iconst (v := 0) hx hb dL_holds_829 (by decide) ?_
                    refine lv_icmp_ne (tgt := 837) hx hb dL_holds_830 (by decide) (fun cn => absurd (by decide : (0 : Int32) = 0) cn) (fun c93 => ?_)
                    refine lv_iconst (v := 1) hx hb dL_holds_833 (by decide) ?_
                    refine lv_goto (tgt := 838) hx hb dL_holds_834 (by decide) ?_
                    refine W.widen (k := 437) (n := 2622) (by omega) (by omega) ?_
                    exact o_iret X hret Z (Option.some.inj h) rfl dL_holds_838
                  · have h := it_t h c92
                    refine lv_iconst (v := 1) hx hb dL_holds_825 (by decide) ?_
                    refine lv_goto (tgt := 830) hx hb dL_holds_826 (by decide) ?_
                    cases h
                · have h := it_t h c88
                  refine lv_iconst (v := 1) hx hb dL_holds_808 (by decide) ?_
                  refine lv_goto (tgt := 813) hx hb dL_holds_809 (by decide) ?_
                  refine lv_aload_n hx hb dL_holds_813 rfl (lv_at hl 5 rfl) ?_
                  refine lv_iconst (v := 3) hx hb dL_holds_814 (by decide) ?_
                  refine lv_iload hx hb dL_holds_815 (lv_at hl 3 rfl) ?_
                  refine lv_iconst (v := 2) hx hb dL_holds_817 (by decide) ?_
                  refine lv_iconst (v := 0) hx hb dL_holds_818 (by decide) ?_
                  obtain ⟨x95, e96, h⟩ := bd_e h
                  refine o_cS X hA (stb_t _) Z hl.1 (kG_callq hG hN hlt hn (qk_e e96)) cw_L_194 ⟨Nat.le_of_ble_eq_true rfl, Nat.le_of_ble_eq_true rfl⟩ rfl rfl (Nat.le_of_ble_eq_true rfl) ⟨show k + 1 + 1 + 1 + 1 + 1 + 1 + 1 + 1 + 1 + 1 + 1 + 1 ≤ 437 by omega, show 6 * k + 6 + 6 + 6 + 6 + 6 + 6 + 6 + 6 + 6 + 6 + 6 + 6 ≤ 2622 by omega⟩ dL_holds_819 (fun H locs Z n97 => ?_)
                  refine lv_if_ne (tgt := 829) hx hb dL_holds_822 (by decide) (fun c98 => ?_) (fun c98 => ?_)
                  · have h := it_f h c98
                    refine lv_iconst (v := 0) hx hb dL_holds_829 (by decide) ?_
                    cases h
                  · have h := it_t h c98
                    refine lv_iconst (v := 1) hx hb dL_holds_825 (by decide) ?_
                    refine lv_goto (tgt := 830) hx hb dL_holds_826 (by decide) ?_
                    refine lv_icmp_ne (tgt := 837) hx hb dL_holds_830 (by decide) (fun cn => absurd (by decide : (1 : Int32) = 1) cn) (fun c100 => ?_)
                    refine lv_iconst (v := 1) hx hb dL_holds_833 (by decide) ?_
                    refine lv_goto (tgt := 838) hx hb dL_holds_834 (by decide) ?_
                    refine W.widen (k := 437) (n := 2622) (by omega) (by omega) ?_
                    exact o_iret X hret Z (Option.some.inj h) rfl dL_holds_838
              · have h := it_f h c71
                refine lv_iload hx hb dL_holds_738 (lv_at hl 0 rfl) ?_
                refine lv_bipush (v := 7) hx hb dL_holds_740 (by decide) ?_
                refine lv_icmp_eq (tgt := 762) hx hb dL_holds_742 (by decide) (fun c101 => ?_) (fun c101 => ?_)
                · have h := it_t h c101
                  refine lv_aload_n hx hb dL_holds_762 rfl (lv_at hl 5 rfl) ?_
                  refine lv_iconst (v := 3) hx hb dL_holds_763 (by decide) ?_
                  refine lv_iload hx hb dL_holds_764 (lv_at hl 3 rfl) ?_
                  refine lv_iconst (v := 0) hx hb dL_holds_766 (by decide) ?_
                  refine lv_iconst (v := 0) hx hb dL_holds_767 (by decide) ?_
                  obtain ⟨x102, e103, h⟩ := bd_e h
                  refine o_cS X hA (stb_t _) Z hl.1 (kG_callq hG hN hlt hn (qk_e e103)) cw_L_194 ⟨Nat.le_of_ble_eq_true rfl, Nat.le_of_ble_eq_true rfl⟩ rfl rfl (Nat.le_of_ble_eq_true rfl) ⟨show k + 1 + 1 + 1 + 1 + 1 + 1 + 1 + 1 ≤ 437 by omega, show 6 * k + 6 + 6 + 6 + 6 + 6 + 6 + 6 + 6 ≤ 2622 by omega⟩ dL_holds_768 (fun H locs Z n104 => ?_)
                  refine lv_iload_n hx hb dL_holds_771 rfl (lv_at hl 8 rfl) ?_
                  obtain ⟨z106, h⟩ := gd_e h
                  refine lv_icmp_ge (tgt := 837) hx hb dL_holds_772 (by decide) (fun cn => absurd cn (of_decide_eq_true z106)) (fun c105 => ?_)
                  refine lv_aload_n hx hb dL_holds_775 rfl (lv_at hl 5 rfl) ?_
                  refine lv_iconst (v := 3) hx hb dL_holds_776 (by decide) ?_
                  refine lv_iload hx hb dL_holds_777 (lv_at hl 3 rfl) ?_
                  refine lv_iconst (v := 3) hx hb dL_holds_779 (by decide) ?_
                  refine lv_iconst (v := 0) hx hb dL_holds_780 (by decide) ?_
                  obtain ⟨x107, e108, h⟩ := bd_e h
                  refine o_cS X hA (stb_t _) Z hl.1 (kG_callq hG hN hlt hn (qk_e e108)) cw_L_194 ⟨Nat.le_of_ble_eq_true rfl, Nat.le_of_ble_eq_true rfl⟩ rfl rfl (Nat.le_of_ble_eq_true rfl) ⟨show k + 1 + 1 + 1 + 1 + 1 + 1 + 1 + 1 + 1 ≤ 437 by omega, show 6 * k + 6 + 6 + 6 + 6 + 6 + 6 + 6 + 6 + 6 ≤ 2622 by omega⟩ dL_holds_781 (fun H locs Z n109 => ?_)
                  refine lv_aload_n hx hb dL_holds_784 rfl (lv_at hl 5 rfl) ?_
                  refine lv_iconst (v := 2) hx hb dL_holds_785 (by decide) ?_
                  refine lv_iconst (v := 2) hx hb dL_holds_786 (by decide) ?_
                  refine lv_iconst (v := 0) hx hb dL_holds_787 (by decide) ?_
                  refine lv_iconst (v := 0) hx hb dL_holds_788 (by decide) ?_
                  obtain ⟨x110, e111, h⟩ := bd_e h
                  refine o_cS X hA (stb_t _) Z hl.1 (kG_callq hG hN hlt hn (qk_e e111)) cw_L_194 ⟨Nat.le_of_ble_eq_true rfl, Nat.le_of_ble_eq_true rfl⟩ rfl rfl (Nat.le_of_ble_eq_true rfl) ⟨show k + 1 + 1 + 1 + 1 + 1 + 1 + 1 + 1 + 1 + 1 ≤ 437 by omega, show 6 * k + 6 + 6 + 6 + 6 + 6 + 6 + 6 + 6 + 6 + 6 ≤ 2622 by omega⟩ dL_holds_789 (fun H locs Z n112 => ?_)
                  obtain ⟨z114, h⟩ := gd_e h
                  refine lv_icmp_gt (tgt := 837) hx hb dL_holds_792 (by decide) (fun cn => absurd cn (of_decide_eq_true z114)) (fun c113 => ?_)
                  refine lv_aload_n hx hb dL_holds_795 rfl (lv_at hl 5 rfl) ?_
                  refine lv_iconst (v := 3) hx hb dL_holds_796 (by decide) ?_
                  refine lv_iload hx hb dL_holds_797 (lv_at hl 3 rfl) ?_
                  refine lv_iconst (v := 3) hx hb dL_holds_799 (by decide) ?_
                  refine lv_iconst (v := 0) hx hb dL_holds_800 (by decide) ?_
                  obtain ⟨x115, e116, h⟩ := bd_e h
                  refine o_cS X hA (stb_t _) Z hl.1 (kG_callq hG hN hlt hn (qk_e e116)) cw_L_194 ⟨Nat.le_of_ble_eq_true rfl, Nat.le_of_ble_eq_true rfl⟩ rfl rfl (Nat.le_of_ble_eq_true rfl) ⟨show k + 1 + 1 + 1 + 1 + 1 + 1 + 1 + 1 + 1 + 1 + 1 ≤ 437 by omega, show 6 * k + 6 + 6 + 6 + 6 + 6 + 6 + 6 + 6 + 6 + 6 + 6 ≤ 2622 by omega⟩ dL_holds_801 (fun H locs Z n117 => ?_)
                  refine lv_iconst (v := (-1)) hx hb dL_holds_804 (by decide) ?_
                  refine lv_icmp_ne (tgt := 812) hx hb dL_holds_805 (by decide) (fun c118 => ?_) (fun c118 => ?_)
                  · have h := it_f h c118
                    refine lv_iconst (v := 0) hx hb dL_holds_812 (by decide) ?_
                    refine lv_aload_n hx hb dL_holds_813 rfl (lv_at hl 5 rfl) ?_
                    refine lv_iconst (v := 3) hx hb dL_holds_814 (by decide) ?_
                    refine lv_iload hx hb dL_holds_815 (lv_at hl 3 rfl) ?_
                    refine lv_iconst (v := 2) hx hb dL_holds_817 (by decide) ?_
                    refine lv_iconst (v := 0) hx hb dL_holds_818 (by decide) ?_
                    obtain ⟨x119, e120, h⟩ := bd_e h
                    refine o_cS X hA (stb_t _) Z hl.1 (kG_callq hG hN hlt hn (qk_e e120)) cw_L_194 ⟨Nat.le_of_ble_eq_true rfl, Nat.le_of_ble_eq_true rfl⟩ rfl rfl (Nat.le_of_ble_eq_true rfl) ⟨show k + 1 + 1 + 1 + 1 + 1 + 1 + 1 + 1 + 1 + 1 + 1 + 1 ≤ 437 by omega, show 6 * k + 6 + 6 + 6 + 6 + 6 + 6 + 6 + 6 + 6 + 6 + 6 + 6 ≤ 2622 by omega⟩ dL_holds_819 (fun H locs Z n121 => ?_)
                    refine lv_if_ne (tgt := 829) hx hb dL_holds_822 (by decide) (fun c122 => ?_) (fun c122 => ?_)
                    · have h := it_f h c122
                      refine lv_iconst (v := 0) hx hb dL_holds_829 (by decide) ?_
                      refine lv_icmp_ne (tgt := 837) hx hb dL_holds_830 (by decide) (fun cn => absurd (by decide : (0 : Int32) = 0) cn) (fun c123 => ?_)
                      refine lv_iconst (v := 1) hx hb dL_holds_833 (by decide) ?_
                      refine lv_goto (tgt := 838) hx hb dL_holds_834 (by decide) ?_
                      refine W.widen (k := 437) (n := 2622) (by omega) (by omega) ?_
                      exact o_iret X hret Z (Option.some.inj h) rfl dL_holds_838
                    · have h := it_t h c122
                      refine lv_iconst (v := 1) hx hb dL_holds_825 (by decide) ?_
                      refine lv_goto (tgt := 830) hx hb dL_holds_826 (by decide) ?_
                      cases h
                  · have h := it_t h c118
                    refine lv_iconst (v := 1) hx hb dL_holds_808 (by decide) ?_
                    refine lv_goto (tgt := 813) hx hb dL_holds_809 (by decide) ?_
                    refine lv_aload_n hx hb dL_holds_813 rfl (lv_at hl 5 rfl) ?_
                    refine lv_iconst (v := 3) hx hb dL_holds_814 (by decide) ?_
                    refine lv_iload hx hb dL_holds_815 (lv_at hl 3 rfl) ?_
                    refine lv_iconst (v := 2) hx hb dL_holds_817 (by decide) ?_
                    refine lv_iconst (v := 0) hx hb dL_holds_818 (by decide) ?_
                    obtain ⟨x125, e126, h⟩ := bd_e h
                    refine o_cS X hA (stb_t _) Z hl.1 (kG_callq hG hN hlt hn (qk_e e126)) cw_L_194 ⟨Nat.le_of_ble_eq_true rfl, Nat.le_of_ble_eq_true rfl⟩ rfl rfl (Nat.le_of_ble_eq_true rfl) ⟨show k + 1 + 1 + 1 + 1 + 1 + 1 + 1 + 1 + 1 + 1 + 1 + 1 ≤ 437 by omega, show 6 * k + 6 + 6 + 6 + 6 + 6 + 6 + 6 + 6 + 6 + 6 + 6 + 6 ≤ 2622 by omega⟩ dL_holds_819 (fun H locs Z n127 => ?_)
                    refine lv_if_ne (tgt := 829) hx hb dL_holds_822 (by decide) (fun c128 => ?_) (fun c128 => ?_)
                    · have h := it_f h c128
                      refine lv_iconst (v := 0) hx hb dL_holds_829 (by decide) ?_
                      cases h
                    · have h := it_t h c128
                      refine lv_iconst (v := 1) hx hb dL_holds_825 (by decide) ?_
                      refine lv_goto (tgt := 830) hx hb dL_holds_826 (by decide) ?_
                      refine lv_icmp_ne (tgt := 837) hx hb dL_holds_830 (by decide) (fun cn => absurd (by decide : (1 : Int32) = 1) cn) (fun c130 => ?_)
                      refine lv_iconst (v := 1) hx hb dL_holds_833 (by decide) ?_
                      refine lv_goto (tgt := 838) hx hb dL_holds_834 (by decide) ?_
                      refine W.widen (k := 437) (n := 2622) (by omega) (by omega) ?_
                      exact o_iret X hret Z (Option.some.inj h) rfl dL_holds_838
                · have h := it_f h c101
                  refine lv_iload hx hb dL_holds_745 (lv_at hl 0 rfl) ?_
                  refine lv_iconst (v := 4) hx hb dL_holds_747 (by decide) ?_
                  refine lv_icmp_eq (tgt := 762) hx hb dL_holds_748 (by decide) (fun c131 => ?_) (fun c131 => ?_)
                  · have h := it_t h c131
                    refine lv_aload_n hx hb dL_holds_762 rfl (lv_at hl 5 rfl) ?_
                    refine lv_iconst (v := 3) hx hb dL_holds_763 (by decide) ?_
                    refine lv_iload hx hb dL_holds_764 (lv_at hl 3 rfl) ?_
                    refine lv_iconst (v := 0) hx hb dL_holds_766 (by decide) ?_
                    refine lv_iconst (v := 0) hx hb dL_holds_767 (by decide) ?_
                    obtain ⟨x132, e133, h⟩ := bd_e h
                    refine o_cS X hA (stb_t _) Z hl.1 (kG_callq hG hN hlt hn (qk_e e133)) cw_L_194 ⟨Nat.le_of_ble_eq_true rfl, Nat.le_of_ble_eq_true rfl⟩ rfl rfl (Nat.le_of_ble_eq_true rfl) ⟨show k + 1 + 1 + 1 + 1 + 1 + 1 + 1 + 1 ≤ 437 by omega, show 6 * k + 6 + 6 + 6 + 6 + 6 + 6 + 6 + 6 ≤ 2622 by omega⟩ dL_holds_768 (fun H locs Z n134 => ?_)
                    refine lv_iload_n hx hb dL_holds_771 rfl (lv_at hl 8 rfl) ?_
                    obtain ⟨z136, h⟩ := gd_e h
                    refine lv_icmp_ge (tgt := 837) hx hb dL_holds_772 (by decide) (fun cn => absurd cn (of_decide_eq_true z136)) (fun c135 => ?_)
                    refine lv_aload_n hx hb dL_holds_775 rfl (lv_at hl 5 rfl) ?_
                    refine lv_iconst (v := 3) hx hb dL_holds_776 (by decide) ?_
                    refine lv_iload hx hb dL_holds_777 (lv_at hl 3 rfl) ?_
                    refine lv_iconst (v := 3) hx hb dL_holds_779 (by decide) ?_
                    refine lv_iconst (v := 0) hx hb dL_holds_780 (by decide) ?_
                    obtain ⟨x137, e138, h⟩ := bd_e h
                    refine o_cS X hA (stb_t _) Z hl.1 (kG_callq hG hN hlt hn (qk_e e138)) cw_L_194 ⟨Nat.le_of_ble_eq_true rfl, Nat.le_of_ble_eq_true rfl⟩ rfl rfl (Nat.le_of_ble_eq_true rfl) ⟨show k + 1 + 1 + 1 + 1 + 1 + 1 + 1 + 1 + 1 ≤ 437 by omega, show 6 * k + 6 + 6 + 6 + 6 + 6 + 6 + 6 + 6 + 6 ≤ 2622 by omega⟩ dL_holds_781 (fun H locs Z n139 => ?_)
                    refine lv_aload_n hx hb dL_holds_784 rfl (lv_at hl 5 rfl) ?_
                    refine lv_iconst (v := 2) hx hb dL_holds_785 (by decide) ?_
                    refine lv_iconst (v := 2) hx hb dL_holds_786 (by decide) ?_
                    refine lv_iconst (v := 0) hx hb dL_holds_787 (by decide) ?_
                    refine lv_iconst (v := 0) hx hb dL_holds_788 (by decide) ?_
                    obtain ⟨x140, e141, h⟩ := bd_e h
                    refine o_cS X hA (stb_t _) Z hl.1 (kG_callq hG hN hlt hn (qk_e e141)) cw_L_194 ⟨Nat.le_of_ble_eq_true rfl, Nat.le_of_ble_eq_true rfl⟩ rfl rfl (Nat.le_of_ble_eq_true rfl) ⟨show k + 1 + 1 + 1 + 1 + 1 + 1 + 1 + 1 + 1 + 1 ≤ 437 by omega, show 6 * k + 6 + 6 + 6 + 6 + 6 + 6 + 6 + 6 + 6 + 6 ≤ 2622 by omega⟩ dL_holds_789 (fun H locs Z n142 => ?_)
                    obtain ⟨z144, h⟩ := gd_e h
                    refine lv_icmp_gt (tgt := 837) hx hb dL_holds_792 (by decide) (fun cn => absurd cn (of_decide_eq_true z144)) (fun c143 => ?_)
                    refine lv_aload_n hx hb dL_holds_795 rfl (lv_at hl 5 rfl) ?_
                    refine lv_iconst (v := 3) hx hb dL_holds_796 (by decide) ?_
                    refine lv_iload hx hb dL_holds_797 (lv_at hl 3 rfl) ?_
                    refine lv_iconst (v := 3) hx hb dL_holds_799 (by decide) ?_
                    refine lv_iconst (v := 0) hx hb dL_holds_800 (by decide) ?_
                    obtain ⟨x145, e146, h⟩ := bd_e h
                    refine o_cS X hA (stb_t _) Z hl.1 (kG_callq hG hN hlt hn (qk_e e146)) cw_L_194 ⟨Nat.le_of_ble_eq_true rfl, Nat.le_of_ble_eq_true rfl⟩ rfl rfl (Nat.le_of_ble_eq_true rfl) ⟨show k + 1 + 1 + 1 + 1 + 1 + 1 + 1 + 1 + 1 + 1 + 1 ≤ 437 by omega, show 6 * k + 6 + 6 + 6 + 6 + 6 + 6 + 6 + 6 + 6 + 6 + 6 ≤ 2622 by omega⟩ dL_holds_801 (fun H locs Z n147 => ?_)
                    refine lv_iconst (v := (-1)) hx hb dL_holds_804 (by decide) ?_
                    refine lv_icmp_ne (tgt := 812) hx hb dL_holds_805 (by decide) (fun c148 => ?_) (fun c148 => ?_)
                    · have h := it_f h c148
                      refine lv_iconst (v := 0) hx hb dL_holds_812 (by decide) ?_
                      refine lv_aload_n hx hb dL_holds_813 rfl (lv_at hl 5 rfl) ?_
                      refine lv_iconst (v := 3) hx hb dL_holds_814 (by decide) ?_
                      refine lv_iload hx hb dL_holds_815 (lv_at hl 3 rfl) ?_
                      refine lv_iconst (v := 2) hx hb dL_holds_817 (by decide) ?_
                      refine lv_iconst (v := 0) hx hb dL_holds_818 (by decide) ?_
                      obtain ⟨x149, e150, h⟩ := bd_e h
                      refine o_cS X hA (stb_t _) Z hl.1 (kG_callq hG hN hlt hn (qk_e e150)) cw_L_194 ⟨Nat.le_of_ble_eq_true rfl, Nat.le_of_ble_eq_true rfl⟩ rfl rfl (Nat.le_of_ble_eq_true rfl) ⟨show k + 1 + 1 + 1 + 1 + 1 + 1 + 1 + 1 + 1 + 1 + 1 + 1 ≤ 437 by omega, show 6 * k + 6 + 6 + 6 + 6 + 6 + 6 + 6 + 6 + 6 + 6 + 6 + 6 ≤ 2622 by omega⟩ dL_holds_819 (fun H locs Z n151 => ?_)
                      refine lv_if_ne (tgt := 829) hx hb dL_holds_822 (by decide) (fun c152 => ?_) (fun c152 => ?_)
                      · have h := it_f h c152
                        refine lv_iconst (v := 0) hx hb dL_holds_829 (by decide) ?_
                        refine lv_icmp_ne (tgt := 837) hx hb dL_holds_830 (by decide) (fun cn => absurd (by decide : (0 : Int32) = 0) cn) (fun c153 => ?_)
                        refine lv_iconst (v := 1) hx hb dL_holds_833 (by decide) ?_
                        refine lv_goto (tgt := 838) hx hb dL_holds_834 (by decide) ?_
                        refine W.widen (k := 437) (n := 2622) (by omega) (by omega) ?_
                        exact o_iret X hret Z (Option.some.inj h) rfl dL_holds_838
                      · have h := it_t h c152
                        refine lv_iconst (v := 1) hx hb dL_holds_825 (by decide) ?_
                        refine lv_goto (tgt := 830) hx hb dL_holds_826 (by decide) ?_
                        cases h
                    · have h := it_t h c148
                      refine lv_iconst (v := 1) hx hb dL_holds_808 (by decide) ?_
                      refine lv_goto (tgt := 813) hx hb dL_holds_809 (by decide) ?_
                      refine lv_aload_n hx hb dL_holds_813 rfl (lv_at hl 5 rfl) ?_
                      refine lv_iconst (v := 3) hx hb dL_holds_814 (by decide) ?_
                      refine lv_iload hx hb dL_holds_815 (lv_at hl 3 rfl) ?_
                      refine lv_iconst (v := 2) hx hb dL_holds_817 (by decide) ?_
                      refine lv_iconst (v := 0) hx hb dL_holds_818 (by decide) ?_
                      obtain ⟨x155, e156, h⟩ := bd_e h
                      refine o_cS X hA (stb_t _) Z hl.1 (kG_callq hG hN hlt hn (qk_e e156)) cw_L_194 ⟨Nat.le_of_ble_eq_true rfl, Nat.le_of_ble_eq_true rfl⟩ rfl rfl (Nat.le_of_ble_eq_true rfl) ⟨show k + 1 + 1 + 1 + 1 + 1 + 1 + 1 + 1 + 1 + 1 + 1 + 1 ≤ 437 by omega, show 6 * k + 6 + 6 + 6 + 6 + 6 + 6 + 6 + 6 + 6 + 6 + 6 + 6 ≤ 2622 by omega⟩ dL_holds_819 (fun H locs Z n157 => ?_)
                      refine lv_if_ne (tgt := 829) hx hb dL_holds_822 (by decide) (fun c158 => ?_) (fun c158 => ?_)
                      · have h := it_f h c158
                        refine lv_iconst (v := 0) hx hb dL_holds_829 (by decide) ?_
                        cases h
                      · have h := it_t h c158
                        refine lv_iconst (v := 1) hx hb dL_holds_825 (by decide) ?_
                        refine lv_goto (tgt := 830) hx hb dL_holds_826 (by decide) ?_
                        refine lv_icmp_ne (tgt := 837) hx hb dL_holds_830 (by decide) (fun cn => absurd (by decide : (1 : Int32) = 1) cn) (fun c160 => ?_)
                        refine lv_iconst (v := 1) hx hb dL_holds_833 (by decide) ?_
                        refine lv_goto (tgt := 838) hx hb dL_holds_834 (by decide) ?_
                        refine W.widen (k := 437) (n := 2622) (by omega) (by omega) ?_
                        exact o_iret X hret Z (Option.some.inj h) rfl dL_holds_838
                  · have h := it_f h c131
                    refine lv_iload hx hb dL_holds_751 (lv_at hl 0 rfl) ?_
                    refine lv_iconst (v := 2) hx hb dL_holds_753 (by decide) ?_
                    refine lv_icmp_eq (tgt := 762) hx hb dL_holds_754 (by decide) (fun c161 => ?_) (fun c161 => ?_)
                    · have h := it_t h c161
                      refine lv_aload_n hx hb dL_holds_762 rfl (lv_at hl 5 rfl) ?_
                      refine lv_iconst (v := 3) hx hb dL_holds_763 (by decide) ?_
                      refine lv_iload hx hb dL_holds_764 (lv_at hl 3 rfl) ?_
                      refine lv_iconst (v := 0) hx hb dL_holds_766 (by decide) ?_
                      refine lv_iconst (v := 0) hx hb dL_holds_767 (by decide) ?_
                      obtain ⟨x162, e163, h⟩ := bd_e h
                      refine o_cS X hA (stb_t _) Z hl.1 (kG_callq hG hN hlt hn (qk_e e163)) cw_L_194 ⟨Nat.le_of_ble_eq_true rfl, Nat.le_of_ble_eq_true rfl⟩ rfl rfl (Nat.le_of_ble_eq_true rfl) ⟨show k + 1 + 1 + 1 + 1 + 1 + 1 + 1 + 1 ≤ 437 by omega, show 6 * k + 6 + 6 + 6 + 6 + 6 + 6 + 6 + 6 ≤ 2622 by omega⟩ dL_holds_768 (fun H locs Z n164 => ?_)
                      refine lv_iload_n hx hb dL_holds_771 rfl (lv_at hl 8 rfl) ?_
                      obtain ⟨z166, h⟩ := gd_e h
                      refine lv_icmp_ge (tgt := 837) hx hb dL_holds_772 (by decide) (fun cn => absurd cn (of_decide_eq_true z166)) (fun c165 => ?_)
                      refine lv_aload_n hx hb dL_holds_775 rfl (lv_at hl 5 rfl) ?_
                      refine lv_iconst (v := 3) hx hb dL_holds_776 (by decide) ?_
                      refine lv_iload hx hb dL_holds_777 (lv_at hl 3 rfl) ?_
                      refine lv_iconst (v := 3) hx hb dL_holds_779 (by decide) ?_
                      refine lv_iconst (v := 0) hx hb dL_holds_780 (by decide) ?_
                      obtain ⟨x167, e168, h⟩ := bd_e h
                      refine o_cS X hA (stb_t _) Z hl.1 (kG_callq hG hN hlt hn (qk_e e168)) cw_L_194 ⟨Nat.le_of_ble_eq_true rfl, Nat.le_of_ble_eq_true rfl⟩ rfl rfl (Nat.le_of_ble_eq_true rfl) ⟨show k + 1 + 1 + 1 + 1 + 1 + 1 + 1 + 1 + 1 ≤ 437 by omega, show 6 * k + 6 + 6 + 6 + 6 + 6 + 6 + 6 + 6 + 6 ≤ 2622 by omega⟩ dL_holds_781 (fun H locs Z n169 => ?_)
                      refine lv_aload_n hx hb dL_holds_784 rfl (lv_at hl 5 rfl) ?_
                      refine lv_iconst (v := 2) hx hb dL_holds_785 (by decide) ?_
                      refine lv_iconst (v := 2) hx hb dL_holds_786 (by decide) ?_
                      refine lv_iconst (v := 0) hx hb dL_holds_787 (by decide) ?_
                      refine lv_iconst (v := 0) hx hb dL_holds_788 (by decide) ?_
                      obtain ⟨x170, e171, h⟩ := bd_e h
                      refine o_cS X hA (stb_t _) Z hl.1 (kG_callq hG hN hlt hn (qk_e e171)) cw_L_194 ⟨Nat.le_of_ble_eq_true rfl, Nat.le_of_ble_eq_true rfl⟩ rfl rfl (Nat.le_of_ble_eq_true rfl) ⟨show k + 1 + 1 + 1 + 1 + 1 + 1 + 1 + 1 + 1 + 1 ≤ 437 by omega, show 6 * k + 6 + 6 + 6 + 6 + 6 + 6 + 6 + 6 + 6 + 6 ≤ 2622 by omega⟩ dL_holds_789 (fun H locs Z n172 => ?_)
                      obtain ⟨z174, h⟩ := gd_e h
                      refine lv_icmp_gt (tgt := 837) hx hb dL_holds_792 (by decide) (fun cn => absurd cn (of_decide_eq_true z174)) (fun c173 => ?_)
                      refine lv_aload_n hx hb dL_holds_795 rfl (lv_at hl 5 rfl) ?_
                      refine lv_iconst (v := 3) hx hb dL_holds_796 (by decide) ?_
                      refine lv_iload hx hb dL_holds_797 (lv_at hl 3 rfl) ?_
                      refine lv_iconst (v := 3) hx hb dL_holds_799 (by decide) ?_
                      refine lv_iconst (v := 0) hx hb dL_holds_800 (by decide) ?_
                      obtain ⟨x175, e176, h⟩ := bd_e h
                      refine o_cS X hA (stb_t _) Z hl.1 (kG_callq hG hN hlt hn (qk_e e176)) cw_L_194 ⟨Nat.le_of_ble_eq_true rfl, Nat.le_of_ble_eq_true rfl⟩ rfl rfl (Nat.le_of_ble_eq_true rfl) ⟨show k + 1 + 1 + 1 + 1 + 1 + 1 + 1 + 1 + 1 + 1 + 1 ≤ 437 by omega, show 6 * k + 6 + 6 + 6 + 6 + 6 + 6 + 6 + 6 + 6 + 6 + 6 ≤ 2622 by omega⟩ dL_holds_801 (fun H locs Z n177 => ?_)
                      refine lv_iconst (v := (-1)) hx hb dL_holds_804 (by decide) ?_
                      refine lv_icmp_ne (tgt := 812) hx hb dL_holds_805 (by decide) (fun c178 => ?_) (fun c178 => ?_)
                      · have h := it_f h c178
                        refine lv_iconst (v := 0) hx hb dL_holds_812 (by decide) ?_
                        refine lv_aload_n hx hb dL_holds_813 rfl (lv_at hl 5 rfl) ?_
                        refine lv_iconst (v := 3) hx hb dL_holds_814 (by decide) ?_
                        refine lv_iload hx hb dL_holds_815 (lv_at hl 3 rfl) ?_
                        refine lv_iconst (v := 2) hx hb dL_holds_817 (by decide) ?_
                        refine lv_iconst (v := 0) hx hb dL_holds_818 (by decide) ?_
                        obtain ⟨x179, e180, h⟩ := bd_e h
                        refine o_cS X hA (stb_t _) Z hl.1 (kG_callq hG hN hlt hn (qk_e e180)) cw_L_194 ⟨Nat.le_of_ble_eq_true rfl, Nat.le_of_ble_eq_true rfl⟩ rfl rfl (Nat.le_of_ble_eq_true rfl) ⟨show k + 1 + 1 + 1 + 1 + 1 + 1 + 1 + 1 + 1 + 1 + 1 + 1 ≤ 437 by omega, show 6 * k + 6 + 6 + 6 + 6 + 6 + 6 + 6 + 6 + 6 + 6 + 6 + 6 ≤ 2622 by omega⟩ dL_holds_819 (fun H locs Z n181 => ?_)
                        refine lv_if_ne (tgt := 829) hx hb dL_holds_822 (by decide) (fun c182 => ?_) (fun c182 => ?_)
                        · have h := it_f h c182
                          refine lv_iconst (v := 0) hx hb dL_holds_829 (by decide) ?_
                          refine lv_icmp_ne (tgt := 837) hx hb dL_holds_830 (by decide) (fun cn => absurd (by decide : (0 : Int32) = 0) cn) (fun c183 => ?_)
                          refine lv_iconst (v := 1) hx hb dL_holds_833 (by decide) ?_
                          refine lv_goto (tgt := 838) hx hb dL_holds_834 (by decide) ?_
                          refine W.widen (k := 437) (n := 2622) (by omega) (by omega) ?_
                          exact o_iret X hret Z (Option.some.inj h) rfl dL_holds_838
                        · have h := it_t h c182
                          refine lv_iconst (v := 1) hx hb dL_holds_825 (by decide) ?_
                          refine lv_goto (tgt := 830) hx hb dL_holds_826 (by decide) ?_
                          cases h
                      · have h := it_t h c178
                        refine lv_iconst (v := 1) hx hb dL_holds_808 (by decide) ?_
                        refine lv_goto (tgt := 813) hx hb dL_holds_809 (by decide) ?_
                        refine lv_aload_n hx hb dL_holds_813 rfl (lv_at hl 5 rfl) ?_
                        refine lv_iconst (v := 3) hx hb dL_holds_814 (by decide) ?_
                        refine lv_iload hx hb dL_holds_815 (lv_at hl 3 rfl) ?_
                        refine lv_iconst (v := 2) hx hb dL_holds_817 (by decide) ?_
                        refine lv_iconst (v := 0) hx hb dL_holds_818 (by decide) ?_
                        obtain ⟨x185, e186, h⟩ := bd_e h
                        refine o_cS X hA (stb_t _) Z hl.1 (kG_callq hG hN hlt hn (qk_e e186)) cw_L_194 ⟨Nat.le_of_ble_eq_true rfl, Nat.le_of_ble_eq_true rfl⟩ rfl rfl (Nat.le_of_ble_eq_true rfl) ⟨show k + 1 + 1 + 1 + 1 + 1 + 1 + 1 + 1 + 1 + 1 + 1 + 1 ≤ 437 by omega, show 6 * k + 6 + 6 + 6 + 6 + 6 + 6 + 6 + 6 + 6 + 6 + 6 + 6 ≤ 2622 by omega⟩ dL_holds_819 (fun H locs Z n187 => ?_)
                        refine lv_if_ne (tgt := 829) hx hb dL_holds_822 (by decide) (fun c188 => ?_) (fun c188 => ?_)
                        · have h := it_f h c188
                          refine lv_iconst (v := 0) hx hb dL_holds_829 (by decide) ?_
                          cases h
                        · have h := it_t h c188
                          refine lv_iconst (v := 1) hx hb dL_holds_825 (by decide) ?_
                          refine lv_goto (tgt := 830) hx hb dL_holds_826 (by decide) ?_
                          refine lv_icmp_ne (tgt := 837) hx hb dL_holds_830 (by decide) (fun cn => absurd (by decide : (1 : Int32) = 1) cn) (fun c190 => ?_)
                          refine lv_iconst (v := 1) hx hb dL_holds_833 (by decide) ?_
                          refine lv_goto (tgt := 838) hx hb dL_holds_834 (by decide) ?_
                          refine W.widen (k := 437) (n := 2622) (by omega) (by omega) ?_
                          exact o_iret X hret Z (Option.some.inj h) rfl dL_holds_838
                    · have h := it_f h c161
                      refine lv_iload hx hb dL_holds_757 (lv_at hl 1 rfl) ?_
                      obtain ⟨z192, h⟩ := gd_e h
                      refine lv_if_ne (tgt := 837) hx hb dL_holds_759 (by decide) (fun cn => absurd (of_decide_eq_true z192) cn) (fun c191 => ?_)
                      refine lv_aload_n hx hb dL_holds_762 rfl (lv_at hl 5 rfl) ?_
                      refine lv_iconst (v := 3) hx hb dL_holds_763 (by decide) ?_
                      refine lv_iload hx hb dL_holds_764 (lv_at hl 3 rfl) ?_
                      refine lv_iconst (v := 0) hx hb dL_holds_766 (by decide) ?_
                      refine lv_iconst (v := 0) hx hb dL_holds_767 (by decide) ?_
                      obtain ⟨x193, e194, h⟩ := bd_e h
                      refine o_cS X hA (stb_t _) Z hl.1 (kG_callq hG hN hlt hn (qk_e e194)) cw_L_194 ⟨Nat.le_of_ble_eq_true rfl, Nat.le_of_ble_eq_true rfl⟩ rfl rfl (Nat.le_of_ble_eq_true rfl) ⟨show k + 1 + 1 + 1 + 1 + 1 + 1 + 1 + 1 ≤ 437 by omega, show 6 * k + 6 + 6 + 6 + 6 + 6 + 6 + 6 + 6 ≤ 2622 by omega⟩ dL_holds_768 (fun H locs Z n195 => ?_)
                      refine lv_iload_n hx hb dL_holds_771 rfl (lv_at hl 8 rfl) ?_
                      obtain ⟨z197, h⟩ := gd_e h
                      refine lv_icmp_ge (tgt := 837) hx hb dL_holds_772 (by decide) (fun cn => absurd cn (of_decide_eq_true z197)) (fun c196 => ?_)
                      refine lv_aload_n hx hb dL_holds_775 rfl (lv_at hl 5 rfl) ?_
                      refine lv_iconst (v := 3) hx hb dL_holds_776 (by decide) ?_
                      refine lv_iload hx hb dL_holds_777 (lv_at hl 3 rfl) ?_
                      refine lv_iconst (v := 3) hx hb dL_holds_779 (by decide) ?_
                      refine lv_iconst (v := 0) hx hb dL_holds_780 (by decide) ?_
                      obtain ⟨x198, e199, h⟩ := bd_e h
                      refine o_cS X hA (stb_t _) Z hl.1 (kG_callq hG hN hlt hn (qk_e e199)) cw_L_194 ⟨Nat.le_of_ble_eq_true rfl, Nat.le_of_ble_eq_true rfl⟩ rfl rfl (Nat.le_of_ble_eq_true rfl) ⟨show k + 1 + 1 + 1 + 1 + 1 + 1 + 1 + 1 + 1 ≤ 437 by omega, show 6 * k + 6 + 6 + 6 + 6 + 6 + 6 + 6 + 6 + 6 ≤ 2622 by omega⟩ dL_holds_781 (fun H locs Z n200 => ?_)
                      refine lv_aload_n hx hb dL_holds_784 rfl (lv_at hl 5 rfl) ?_
                      refine lv_iconst (v := 2) hx hb dL_holds_785 (by decide) ?_
                      refine lv_iconst (v := 2) hx hb dL_holds_786 (by decide) ?_
                      refine lv_iconst (v := 0) hx hb dL_holds_787 (by decide) ?_
                      refine lv_iconst (v := 0) hx hb dL_holds_788 (by decide) ?_
                      obtain ⟨x201, e202, h⟩ := bd_e h
                      refine o_cS X hA (stb_t _) Z hl.1 (kG_callq hG hN hlt hn (qk_e e202)) cw_L_194 ⟨Nat.le_of_ble_eq_true rfl, Nat.le_of_ble_eq_true rfl⟩ rfl rfl (Nat.le_of_ble_eq_true rfl) ⟨show k + 1 + 1 + 1 + 1 + 1 + 1 + 1 + 1 + 1 + 1 ≤ 437 by omega, show 6 * k + 6 + 6 + 6 + 6 + 6 + 6 + 6 + 6 + 6 + 6 ≤ 2622 by omega⟩ dL_holds_789 (fun H locs Z n203 => ?_)
                      obtain ⟨z205, h⟩ := gd_e h
                      refine lv_icmp_gt (tgt := 837) hx hb dL_holds_792 (by decide) (fun cn => absurd cn (of_decide_eq_true z205)) (fun c204 => ?_)
                      refine lv_aload_n hx hb dL_holds_795 rfl (lv_at hl 5 rfl) ?_
                      refine lv_iconst (v := 3) hx hb dL_holds_796 (by decide) ?_
                      refine lv_iload hx hb dL_holds_797 (lv_at hl 3 rfl) ?_
                      refine lv_iconst (v := 3) hx hb dL_holds_799 (by decide) ?_
                      refine lv_iconst (v := 0) hx hb dL_holds_800 (by decide) ?_
                      obtain ⟨x206, e207, h⟩ := bd_e h
                      refine o_cS X hA (stb_t _) Z hl.1 (kG_callq hG hN hlt hn (qk_e e207)) cw_L_194 ⟨Nat.le_of_ble_eq_true rfl, Nat.le_of_ble_eq_true rfl⟩ rfl rfl (Nat.le_of_ble_eq_true rfl) ⟨show k + 1 + 1 + 1 + 1 + 1 + 1 + 1 + 1 + 1 + 1 + 1 ≤ 437 by omega, show 6 * k + 6 + 6 + 6 + 6 + 6 + 6 + 6 + 6 + 6 + 6 + 6 ≤ 2622 by omega⟩ dL_holds_801 (fun H locs Z n208 => ?_)
                      refine lv_iconst (v := (-1)) hx hb dL_holds_804 (by decide) ?_
                      refine lv_icmp_ne (tgt := 812) hx hb dL_holds_805 (by decide) (fun c209 => ?_) (fun c209 => ?_)
                      · have h := it_f h c209
                        refine lv_iconst (v := 0) hx hb dL_holds_812 (by decide) ?_
                        refine lv_aload_n hx hb dL_holds_813 rfl (lv_at hl 5 rfl) ?_
                        refine lv_iconst (v := 3) hx hb dL_holds_814 (by decide) ?_
                        refine lv_iload hx hb dL_holds_815 (lv_at hl 3 rfl) ?_
                        refine lv_iconst (v := 2) hx hb dL_holds_817 (by decide) ?_
                        refine lv_iconst (v := 0) hx hb dL_holds_818 (by decide) ?_
                        obtain ⟨x210, e211, h⟩ := bd_e h
                        refine o_cS X hA (stb_t _) Z hl.1 (kG_callq hG hN hlt hn (qk_e e211)) cw_L_194 ⟨Nat.le_of_ble_eq_true rfl, Nat.le_of_ble_eq_true rfl⟩ rfl rfl (Nat.le_of_ble_eq_true rfl) ⟨show k + 1 + 1 + 1 + 1 + 1 + 1 + 1 + 1 + 1 + 1 + 1 + 1 ≤ 437 by omega, show 6 * k + 6 + 6 + 6 + 6 + 6 + 6 + 6 + 6 + 6 + 6 + 6 + 6 ≤ 2622 by omega⟩ dL_holds_819 (fun H locs Z n212 => ?_)
                        refine lv_if_ne (tgt := 829) hx hb dL_holds_822 (by decide) (fun c213 => ?_) (fun c213 => ?_)
                        · have h := it_f h c213
                          refine lv_iconst (v := 0) hx hb dL_holds_829 (by decide) ?_
                          refine lv_icmp_ne (tgt := 837) hx hb dL_holds_830 (by decide) (fun cn => absurd (by decide : (0 : Int32) = 0) cn) (fun c214 => ?_)
                          refine lv_iconst (v := 1) hx hb dL_holds_833 (by decide) ?_
                          refine lv_goto (tgt := 838) hx hb dL_holds_834 (by decide) ?_
                          refine W.widen (k := 437) (n := 2622) (by omega) (by omega) ?_
                          exact o_iret X hret Z (Option.some.inj h) rfl dL_holds_838
                        · have h := it_t h c213
                          refine lv_iconst (v := 1) hx hb dL_holds_825 (by decide) ?_
                          refine lv_goto (tgt := 830) hx hb dL_holds_826 (by decide) ?_
                          cases h
                      · have h := it_t h c209
                        refine lv_iconst (v := 1) hx hb dL_holds_808 (by decide) ?_
                        refine lv_goto (tgt := 813) hx hb dL_holds_809 (by decide) ?_
                        refine lv_aload_n hx hb dL_holds_813 rfl (lv_at hl 5 rfl) ?_
                        refine lv_iconst (v := 3) hx hb dL_holds_814 (by decide) ?_
                        refine lv_iload hx hb dL_holds_815 (lv_at hl 3 rfl) ?_
                        refine lv_iconst (v := 2) hx hb dL_holds_817 (by decide) ?_
                        refine lv_iconst (v := 0) hx hb dL_holds_818 (by decide) ?_
                        obtain ⟨x216, e217, h⟩ := bd_e h
                        refine o_cS X hA (stb_t _) Z hl.1 (kG_callq hG hN hlt hn (qk_e e217)) cw_L_194 ⟨Nat.le_of_ble_eq_true rfl, Nat.le_of_ble_eq_true rfl⟩ rfl rfl (Nat.le_of_ble_eq_true rfl) ⟨show k + 1 + 1 + 1 + 1 + 1 + 1 + 1 + 1 + 1 + 1 + 1 + 1 ≤ 437 by omega, show 6 * k + 6 + 6 + 6 + 6 + 6 + 6 + 6 + 6 + 6 + 6 + 6 + 6 ≤ 2622 by omega⟩ dL_holds_819 (fun H locs Z n218 => ?_)
                        refine lv_if_ne (tgt := 829) hx hb dL_holds_822 (by decide) (fun c219 => ?_) (fun c219 => ?_)
                        · have h := it_f h c219
                          refine lv_iconst (v := 0) hx hb dL_holds_829 (by decide) ?_
                          cases h
                        · have h := it_t h c219
                          refine lv_iconst (v := 1) hx hb dL_holds_825 (by decide) ?_
                          refine lv_goto (tgt := 830) hx hb dL_holds_826 (by decide) ?_
                          refine lv_icmp_ne (tgt := 837) hx hb dL_holds_830 (by decide) (fun cn => absurd (by decide : (1 : Int32) = 1) cn) (fun c221 => ?_)
                          refine lv_iconst (v := 1) hx hb dL_holds_833 (by decide) ?_
                          refine lv_goto (tgt := 838) hx hb dL_holds_834 (by decide) ?_
                          refine W.widen (k := 437) (n := 2622) (by omega) (by omega) ?_
                          exact o_iret X hret Z (Option.some.inj h) rfl dL_holds_838
            · have h := it_t h c70
              refine lv_iload hx hb dL_holds_725 (lv_at hl 1 rfl) ?_
              refine lv_bipush (v := 100) hx hb dL_holds_727 (by decide) ?_
              obtain ⟨z223, h⟩ := gd_e h
              refine lv_icmp_ne (tgt := 837) hx hb dL_holds_729 (by decide) (fun cn => absurd (of_decide_eq_true z223) cn) (fun c222 => ?_)
              refine lv_iload hx hb dL_holds_732 (lv_at hl 0 rfl) ?_
              refine lv_iconst (v := 1) hx hb dL_holds_734 (by decide) ?_
              refine lv_icmp_le (tgt := 762) hx hb dL_holds_735 (by decide) (fun c224 => ?_) (fun c224 => ?_)
              · have h := it_t h c224
                refine lv_aload_n hx hb dL_holds_762 rfl (lv_at hl 5 rfl) ?_
                refine lv_iconst (v := 3) hx hb dL_holds_763 (by decide) ?_
                refine lv_iload hx hb dL_holds_764 (lv_at hl 3 rfl) ?_
                refine lv_iconst (v := 0) hx hb dL_holds_766 (by decide) ?_
                refine lv_iconst (v := 0) hx hb dL_holds_767 (by decide) ?_
                obtain ⟨x225, e226, h⟩ := bd_e h
                refine o_cS X hA (stb_t _) Z hl.1 (kG_callq hG hN hlt hn (qk_e e226)) cw_L_194 ⟨Nat.le_of_ble_eq_true rfl, Nat.le_of_ble_eq_true rfl⟩ rfl rfl (Nat.le_of_ble_eq_true rfl) ⟨show k + 1 + 1 + 1 + 1 + 1 + 1 + 1 + 1 ≤ 437 by omega, show 6 * k + 6 + 6 + 6 + 6 + 6 + 6 + 6 + 6 ≤ 2622 by omega⟩ dL_holds_768 (fun H locs Z n227 => ?_)
                refine lv_iload_n hx hb dL_holds_771 rfl (lv_at hl 8 rfl) ?_
                obtain ⟨z229, h⟩ := gd_e h
                refine lv_icmp_ge (tgt := 837) hx hb dL_holds_772 (by decide) (fun cn => absurd cn (of_decide_eq_true z229)) (fun c228 => ?_)
                refine lv_aload_n hx hb dL_holds_775 rfl (lv_at hl 5 rfl) ?_
                refine lv_iconst (v := 3) hx hb dL_holds_776 (by decide) ?_
                refine lv_iload hx hb dL_holds_777 (lv_at hl 3 rfl) ?_
                refine lv_iconst (v := 3) hx hb dL_holds_779 (by decide) ?_
                refine lv_iconst (v := 0) hx hb dL_holds_780 (by decide) ?_
                obtain ⟨x230, e231, h⟩ := bd_e h
                refine o_cS X hA (stb_t _) Z hl.1 (kG_callq hG hN hlt hn (qk_e e231)) cw_L_194 ⟨Nat.le_of_ble_eq_true rfl, Nat.le_of_ble_eq_true rfl⟩ rfl rfl (Nat.le_of_ble_eq_true rfl) ⟨show k + 1 + 1 + 1 + 1 + 1 + 1 + 1 + 1 + 1 ≤ 437 by omega, show 6 * k + 6 + 6 + 6 + 6 + 6 + 6 + 6 + 6 + 6 ≤ 2622 by omega⟩ dL_holds_781 (fun H locs Z n232 => ?_)
                refine lv_aload_n hx hb dL_holds_784 rfl (lv_at hl 5 rfl) ?_
                refine lv_iconst (v := 2) hx hb dL_holds_785 (by decide) ?_
                refine lv_iconst (v := 2) hx hb dL_holds_786 (by decide) ?_
                refine lv_iconst (v := 0) hx hb dL_holds_787 (by decide) ?_
                refine lv_iconst (v := 0) hx hb dL_holds_788 (by decide) ?_
                obtain ⟨x233, e234, h⟩ := bd_e h
                refine o_cS X hA (stb_t _) Z hl.1 (kG_callq hG hN hlt hn (qk_e e234)) cw_L_194 ⟨Nat.le_of_ble_eq_true rfl, Nat.le_of_ble_eq_true rfl⟩ rfl rfl (Nat.le_of_ble_eq_true rfl) ⟨show k + 1 + 1 + 1 + 1 + 1 + 1 + 1 + 1 + 1 + 1 ≤ 437 by omega, show 6 * k + 6 + 6 + 6 + 6 + 6 + 6 + 6 + 6 + 6 + 6 ≤ 2622 by omega⟩ dL_holds_789 (fun H locs Z n235 => ?_)
                obtain ⟨z237, h⟩ := gd_e h
                refine lv_icmp_gt (tgt := 837) hx hb dL_holds_792 (by decide) (fun cn => absurd cn (of_decide_eq_true z237)) (fun c236 => ?_)
                refine lv_aload_n hx hb dL_holds_795 rfl (lv_at hl 5 rfl) ?_
                refine lv_iconst (v := 3) hx hb dL_holds_796 (by decide) ?_
                refine lv_iload hx hb dL_holds_797 (lv_at hl 3 rfl) ?_
                refine lv_iconst (v := 3) hx hb dL_holds_799 (by decide) ?_
                refine lv_iconst (v := 0) hx hb dL_holds_800 (by decide) ?_
                obtain ⟨x238, e239, h⟩ := bd_e h
                refine o_cS X hA (stb_t _) Z hl.1 (kG_callq hG hN hlt hn (qk_e e239)) cw_L_194 ⟨Nat.le_of_ble_eq_true rfl, Nat.le_of_ble_eq_true rfl⟩ rfl rfl (Nat.le_of_ble_eq_true rfl) ⟨show k + 1 + 1 + 1 + 1 + 1 + 1 + 1 + 1 + 1 + 1 + 1 ≤ 437 by omega, show 6 * k + 6 + 6 + 6 + 6 + 6 + 6 + 6 + 6 + 6 + 6 + 6 ≤ 2622 by omega⟩ dL_holds_801 (fun H locs Z n240 => ?_)
                refine lv_iconst (v := (-1)) hx hb dL_holds_804 (by decide) ?_
                refine lv_icmp_ne (tgt := 812) hx hb dL_holds_805 (by decide) (fun c241 => ?_) (fun c241 => ?_)
                · have h := it_f h c241
                  refine lv_iconst (v := 0) hx hb dL_holds_812 (by decide) ?_
                  refine lv_aload_n hx hb dL_holds_813 rfl (lv_at hl 5 rfl) ?_
                  refine lv_iconst (v := 3) hx hb dL_holds_814 (by decide) ?_
                  refine lv_iload hx hb dL_holds_815 (lv_at hl 3 rfl) ?_
                  refine lv_iconst (v := 2) hx hb dL_holds_817 (by decide) ?_
                  refine lv_iconst (v := 0) hx hb dL_holds_818 (by decide) ?_
                  obtain ⟨x242, e243, h⟩ := bd_e h
                  refine o_cS X hA (stb_t _) Z hl.1 (kG_callq hG hN hlt hn (qk_e e243)) cw_L_194 ⟨Nat.le_of_ble_eq_true rfl, Nat.le_of_ble_eq_true rfl⟩ rfl rfl (Nat.le_of_ble_eq_true rfl) ⟨show k + 1 + 1 + 1 + 1 + 1 + 1 + 1 + 1 + 1 + 1 + 1 + 1 ≤ 437 by omega, show 6 * k + 6 + 6 + 6 + 6 + 6 + 6 + 6 + 6 + 6 + 6 + 6 + 6 ≤ 2622 by omega⟩ dL_holds_819 (fun H locs Z n244 => ?_)
                  refine lv_if_ne (tgt := 829) hx hb dL_holds_822 (by decide) (fun c245 => ?_) (fun c245 => ?_)
                  · have h := it_f h c245
                    refine lv_iconst (v := 0) hx hb dL_holds_829 (by decide) ?_
                    refine lv_icmp_ne (tgt := 837) hx hb dL_holds_830 (by decide) (fun cn => absurd (by decide : (0 : Int32) = 0) cn) (fun c246 => ?_)
                    refine lv_iconst (v := 1) hx hb dL_holds_833 (by decide) ?_
                    refine lv_goto (tgt := 838) hx hb dL_holds_834 (by decide) ?_
                    refine W.widen (k := 437) (n := 2622) (by omega) (by omega) ?_
                    exact o_iret X hret Z (Option.some.inj h) rfl dL_holds_838
                  · have h := it_t h c245
                    refine lv_iconst (v := 1) hx hb dL_holds_825 (by decide) ?_
                    refine lv_goto (tgt := 830) hx hb dL_holds_826 (by decide) ?_
                    cases h
                · have h := it_t h c241
                  refine lv_iconst (v := 1) hx hb dL_holds_808 (by decide) ?_
                  refine lv_goto (tgt := 813) hx hb dL_holds_809 (by decide) ?_
                  refine lv_aload_n hx hb dL_holds_813 rfl (lv_at hl 5 rfl) ?_
                  refine lv_iconst (v := 3) hx hb dL_holds_814 (by decide) ?_
                  refine lv_iload hx hb dL_holds_815 (lv_at hl 3 rfl) ?_
                  refine lv_iconst (v := 2) hx hb dL_holds_817 (by decide) ?_
                  refine lv_iconst (v := 0) hx hb dL_holds_818 (by decide) ?_
                  obtain ⟨x248, e249, h⟩ := bd_e h
                  refine o_cS X hA (stb_t _) Z hl.1 (kG_callq hG hN hlt hn (qk_e e249)) cw_L_194 ⟨Nat.le_of_ble_eq_true rfl, Nat.le_of_ble_eq_true rfl⟩ rfl rfl (Nat.le_of_ble_eq_true rfl) ⟨show k + 1 + 1 + 1 + 1 + 1 + 1 + 1 + 1 + 1 + 1 + 1 + 1 ≤ 437 by omega, show 6 * k + 6 + 6 + 6 + 6 + 6 + 6 + 6 + 6 + 6 + 6 + 6 + 6 ≤ 2622 by omega⟩ dL_holds_819 (fun H locs Z n250 => ?_)
                  refine lv_if_ne (tgt := 829) hx hb dL_holds_822 (by decide) (fun c251 => ?_) (fun c251 => ?_)
                  · have h := it_f h c251
                    refine lv_iconst (v := 0) hx hb dL_holds_829 (by decide) ?_
                    cases h
                  · have h := it_t h c251
                    refine lv_iconst (v := 1) hx hb dL_holds_825 (by decide) ?_
                    refine lv_goto (tgt := 830) hx hb dL_holds_826 (by decide) ?_
                    refine lv_icmp_ne (tgt := 837) hx hb dL_holds_830 (by decide) (fun cn => absurd (by decide : (1 : Int32) = 1) cn) (fun c253 => ?_)
                    refine lv_iconst (v := 1) hx hb dL_holds_833 (by decide) ?_
                    refine lv_goto (tgt := 838) hx hb dL_holds_834 (by decide) ?_
                    refine W.widen (k := 437) (n := 2622) (by omega) (by omega) ?_
                    exact o_iret X hret Z (Option.some.inj h) rfl dL_holds_838
              · have h := it_f h c224
                refine lv_iload hx hb dL_holds_738 (lv_at hl 0 rfl) ?_
                refine lv_bipush (v := 7) hx hb dL_holds_740 (by decide) ?_
                refine lv_icmp_eq (tgt := 762) hx hb dL_holds_742 (by decide) (fun c254 => ?_) (fun c254 => ?_)
                · have h := it_t h c254
                  refine lv_aload_n hx hb dL_holds_762 rfl (lv_at hl 5 rfl) ?_
                  refine lv_iconst (v := 3) hx hb dL_holds_763 (by decide) ?_
                  refine lv_iload hx hb dL_holds_764 (lv_at hl 3 rfl) ?_
                  refine lv_iconst (v := 0) hx hb dL_holds_766 (by decide) ?_
                  refine lv_iconst (v := 0) hx hb dL_holds_767 (by decide) ?_
                  obtain ⟨x255, e256, h⟩ := bd_e h
                  refine o_cS X hA (stb_t _) Z hl.1 (kG_callq hG hN hlt hn (qk_e e256)) cw_L_194 ⟨Nat.le_of_ble_eq_true rfl, Nat.le_of_ble_eq_true rfl⟩ rfl rfl (Nat.le_of_ble_eq_true rfl) ⟨show k + 1 + 1 + 1 + 1 + 1 + 1 + 1 + 1 ≤ 437 by omega, show 6 * k + 6 + 6 + 6 + 6 + 6 + 6 + 6 + 6 ≤ 2622 by omega⟩ dL_holds_768 (fun H locs Z n257 => ?_)
                  refine lv_iload_n hx hb dL_holds_771 rfl (lv_at hl 8 rfl) ?_
                  obtain ⟨z259, h⟩ := gd_e h
                  refine lv_icmp_ge (tgt := 837) hx hb dL_holds_772 (by decide) (fun cn => absurd cn (of_decide_eq_true z259)) (fun c258 => ?_)
                  refine lv_aload_n hx hb dL_holds_775 rfl (lv_at hl 5 rfl) ?_
                  refine lv_iconst (v := 3) hx hb dL_holds_776 (by decide) ?_
                  refine lv_iload hx hb dL_holds_777 (lv_at hl 3 rfl) ?_
                  refine lv_iconst (v := 3) hx hb dL_holds_779 (by decide) ?_
                  refine lv_iconst (v := 0) hx hb dL_holds_780 (by decide) ?_
                  obtain ⟨x260, e261, h⟩ := bd_e h
                  refine o_cS X hA (stb_t _) Z hl.1 (kG_callq hG hN hlt hn (qk_e e261)) cw_L_194 ⟨Nat.le_of_ble_eq_true rfl, Nat.le_of_ble_eq_true rfl⟩ rfl rfl (Nat.le_of_ble_eq_true rfl) ⟨show k + 1 + 1 + 1 + 1 + 1 + 1 + 1 + 1 + 1 ≤ 437 by omega, show 6 * k + 6 + 6 + 6 + 6 + 6 + 6 + 6 + 6 + 6 ≤ 2622 by omega⟩ dL_holds_781 (fun H locs Z n262 => ?_)
                  refine lv_aload_n hx hb dL_holds_784 rfl (lv_at hl 5 rfl) ?_
                  refine lv_iconst (v := 2) hx hb dL_holds_785 (by decide) ?_
                  refine lv_iconst (v := 2) hx hb dL_holds_786 (by decide) ?_
                  refine lv_iconst (v := 0) hx hb dL_holds_787 (by decide) ?_
                  refine lv_iconst (v := 0) hx hb dL_holds_788 (by decide) ?_
                  obtain ⟨x263, e264, h⟩ := bd_e h
                  refine o_cS X hA (stb_t _) Z hl.1 (kG_callq hG hN hlt hn (qk_e e264)) cw_L_194 ⟨Nat.le_of_ble_eq_true rfl, Nat.le_of_ble_eq_true rfl⟩ rfl rfl (Nat.le_of_ble_eq_true rfl) ⟨show k + 1 + 1 + 1 + 1 + 1 + 1 + 1 + 1 + 1 + 1 ≤ 437 by omega, show 6 * k + 6 + 6 + 6 + 6 + 6 + 6 + 6 + 6 + 6 + 6 ≤ 2622 by omega⟩ dL_holds_789 (fun H locs Z n265 => ?_)
                  obtain ⟨z267, h⟩ := gd_e h
                  refine lv_icmp_gt (tgt := 837) hx hb dL_holds_792 (by decide) (fun cn => absurd cn (of_decide_eq_true z267)) (fun c266 => ?_)
                  refine lv_aload_n hx hb dL_holds_795 rfl (lv_at hl 5 rfl) ?_
                  refine lv_iconst (v := 3) hx hb dL_holds_796 (by decide) ?_
                  refine lv_iload hx hb dL_holds_797 (lv_at hl 3 rfl) ?_
                  refine lv_iconst (v := 3) hx hb dL_holds_799 (by decide) ?_
                  refine lv_iconst (v := 0) hx hb dL_holds_800 (by decide) ?_
                  obtain ⟨x268, e269, h⟩ := bd_e h
                  refine o_cS X hA (stb_t _) Z hl.1 (kG_callq hG hN hlt hn (qk_e e269)) cw_L_194 ⟨Nat.le_of_ble_eq_true rfl, Nat.le_of_ble_eq_true rfl⟩ rfl rfl (Nat.le_of_ble_eq_true rfl) ⟨show k + 1 + 1 + 1 + 1 + 1 + 1 + 1 + 1 + 1 + 1 + 1 ≤ 437 by omega, show 6 * k + 6 + 6 + 6 + 6 + 6 + 6 + 6 + 6 + 6 + 6 + 6 ≤ 2622 by omega⟩ dL_holds_801 (fun H locs Z n270 => ?_)
                  refine lv_iconst (v := (-1)) hx hb dL_holds_804 (by decide) ?_
                  refine lv_icmp_ne (tgt := 812) hx hb dL_holds_805 (by decide) (fun c271 => ?_) (fun c271 => ?_)
                  · have h := it_f h c271
                    refine lv_iconst (v := 0) hx hb dL_holds_812 (by decide) ?_
                    refine lv_aload_n hx hb dL_holds_813 rfl (lv_at hl 5 rfl) ?_
                    refine lv_iconst (v := 3) hx hb dL_holds_814 (by decide) ?_
                    refine lv_iload hx hb dL_holds_815 (lv_at hl 3 rfl) ?_
                    refine lv_iconst (v := 2) hx hb dL_holds_817 (by decide) ?_
                    refine lv_iconst (v := 0) hx hb dL_holds_818 (by decide) ?_
                    obtain ⟨x272, e273, h⟩ := bd_e h
                    refine o_cS X hA (stb_t _) Z hl.1 (kG_callq hG hN hlt hn (qk_e e273)) cw_L_194 ⟨Nat.le_of_ble_eq_true rfl, Nat.le_of_ble_eq_true rfl⟩ rfl rfl (Nat.le_of_ble_eq_true rfl) ⟨show k + 1 + 1 + 1 + 1 + 1 + 1 + 1 + 1 + 1 + 1 + 1 + 1 ≤ 437 by omega, show 6 * k + 6 + 6 + 6 + 6 + 6 + 6 + 6 + 6 + 6 + 6 + 6 + 6 ≤ 2622 by omega⟩ dL_holds_819 (fun H locs Z n274 => ?_)
                    refine lv_if_ne (tgt := 829) hx hb dL_holds_822 (by decide) (fun c275 => ?_) (fun c275 => ?_)
                    · have h := it_f h c275
                      refine lv_iconst (v := 0) hx hb dL_holds_829 (by decide) ?_
                      refine lv_icmp_ne (tgt := 837) hx hb dL_holds_830 (by decide) (fun cn => absurd (by decide : (0 : Int32) = 0) cn) (fun c276 => ?_)
                      refine lv_iconst (v := 1) hx hb dL_holds_833 (by decide) ?_
                      refine lv_goto (tgt := 838) hx hb dL_holds_834 (by decide) ?_
                      refine W.widen (k := 437) (n := 2622) (by omega) (by omega) ?_
                      exact o_iret X hret Z (Option.some.inj h) rfl dL_holds_838
                    · have h := it_t h c275
                      refine lv_iconst (v := 1) hx hb dL_holds_825 (by decide) ?_
                      refine lv_goto (tgt := 830) hx hb dL_holds_826 (by decide) ?_
                      cases h
                  · have h := it_t h c271
                    refine lv_iconst (v := 1) hx hb dL_holds_808 (by decide) ?_
                    refine lv_goto (tgt := 813) hx hb dL_holds_809 (by decide) ?_
                    refine lv_aload_n hx hb dL_holds_813 rfl (lv_at hl 5 rfl) ?_
                    refine lv_iconst (v := 3) hx hb dL_holds_814 (by decide) ?_
                    refine lv_iload hx hb dL_holds_815 (lv_at hl 3 rfl) ?_
                    refine lv_iconst (v := 2) hx hb dL_holds_817 (by decide) ?_
                    refine lv_iconst (v := 0) hx hb dL_holds_818 (by decide) ?_
                    obtain ⟨x278, e279, h⟩ := bd_e h
                    refine o_cS X hA (stb_t _) Z hl.1 (kG_callq hG hN hlt hn (qk_e e279)) cw_L_194 ⟨Nat.le_of_ble_eq_true rfl, Nat.le_of_ble_eq_true rfl⟩ rfl rfl (Nat.le_of_ble_eq_true rfl) ⟨show k + 1 + 1 + 1 + 1 + 1 + 1 + 1 + 1 + 1 + 1 + 1 + 1 ≤ 437 by omega, show 6 * k + 6 + 6 + 6 + 6 + 6 + 6 + 6 + 6 + 6 + 6 + 6 + 6 ≤ 2622 by omega⟩ dL_holds_819 (fun H locs Z n280 => ?_)
                    refine lv_if_ne (tgt := 829) hx hb dL_holds_822 (by decide) (fun c281 => ?_) (fun c281 => ?_)
                    · have h := it_f h c281
                      refine lv_iconst (v := 0) hx hb dL_holds_829 (by decide) ?_
                      cases h
                    · have h := it_t h c281
                      refine lv_iconst (v := 1) hx hb dL_holds_825 (by decide) ?_
                      refine lv_goto (tgt := 830) hx hb dL_holds_826 (by decide) ?_
                      refine lv_icmp_ne (tgt := 837) hx hb dL_holds_830 (by decide) (fun cn => absurd (by decide : (1 : Int32) = 1) cn) (fun c283 => ?_)
                      refine lv_iconst (v := 1) hx hb dL_holds_833 (by decide) ?_
                      refine lv_goto (tgt := 838) hx hb dL_holds_834 (by decide) ?_
                      refine W.widen (k := 437) (n := 2622) (by omega) (by omega) ?_
                      exact o_iret X hret Z (Option.some.inj h) rfl dL_holds_838
                · have h := it_f h c254
                  refine lv_iload hx hb dL_holds_745 (lv_at hl 0 rfl) ?_
                  refine lv_iconst (v := 4) hx hb dL_holds_747 (by decide) ?_
                  refine lv_icmp_eq (tgt := 762) hx hb dL_holds_748 (by decide) (fun c284 => ?_) (fun c284 => ?_)
                  · have h := it_t h c284
                    refine lv_aload_n hx hb dL_holds_762 rfl (lv_at hl 5 rfl) ?_
                    refine lv_iconst (v := 3) hx hb dL_holds_763 (by decide) ?_
                    refine lv_iload hx hb dL_holds_764 (lv_at hl 3 rfl) ?_
                    refine lv_iconst (v := 0) hx hb dL_holds_766 (by decide) ?_
                    refine lv_iconst (v := 0) hx hb dL_holds_767 (by decide) ?_
                    obtain ⟨x285, e286, h⟩ := bd_e h
                    refine o_cS X hA (stb_t _) Z hl.1 (kG_callq hG hN hlt hn (qk_e e286)) cw_L_194 ⟨Nat.le_of_ble_eq_true rfl, Nat.le_of_ble_eq_true rfl⟩ rfl rfl (Nat.le_of_ble_eq_true rfl) ⟨show k + 1 + 1 + 1 + 1 + 1 + 1 + 1 + 1 ≤ 437 by omega, show 6 * k + 6 + 6 + 6 + 6 + 6 + 6 + 6 + 6 ≤ 2622 by omega⟩ dL_holds_768 (fun H locs Z n287 => ?_)
                    refine lv_iload_n hx hb dL_holds_771 rfl (lv_at hl 8 rfl) ?_
                    obtain ⟨z289, h⟩ := gd_e h
                    refine lv_icmp_ge (tgt := 837) hx hb dL_holds_772 (by decide) (fun cn => absurd cn (of_decide_eq_true z289)) (fun c288 => ?_)
                    refine lv_aload_n hx hb dL_holds_775 rfl (lv_at hl 5 rfl) ?_
                    refine lv_iconst (v := 3) hx hb dL_holds_776 (by decide) ?_
                    refine lv_iload hx hb dL_holds_777 (lv_at hl 3 rfl) ?_
                    refine lv_iconst (v := 3) hx hb dL_holds_779 (by decide) ?_
                    refine lv_iconst (v := 0) hx hb dL_holds_780 (by decide) ?_
                    obtain ⟨x290, e291, h⟩ := bd_e h
                    refine o_cS X hA (stb_t _) Z hl.1 (kG_callq hG hN hlt hn (qk_e e291)) cw_L_194 ⟨Nat.le_of_ble_eq_true rfl, Nat.le_of_ble_eq_true rfl⟩ rfl rfl (Nat.le_of_ble_eq_true rfl) ⟨show k + 1 + 1 + 1 + 1 + 1 + 1 + 1 + 1 + 1 ≤ 437 by omega, show 6 * k + 6 + 6 + 6 + 6 + 6 + 6 + 6 + 6 + 6 ≤ 2622 by omega⟩ dL_holds_781 (fun H locs Z n292 => ?_)
                    refine lv_aload_n hx hb dL_holds_784 rfl (lv_at hl 5 rfl) ?_
                    refine lv_iconst (v := 2) hx hb dL_holds_785 (by decide) ?_
                    refine lv_iconst (v := 2) hx hb dL_holds_786 (by decide) ?_
                    refine lv_iconst (v := 0) hx hb dL_holds_787 (by decide) ?_
                    refine lv_iconst (v := 0) hx hb dL_holds_788 (by decide) ?_
                    obtain ⟨x293, e294, h⟩ := bd_e h
                    refine o_cS X hA (stb_t _) Z hl.1 (kG_callq hG hN hlt hn (qk_e e294)) cw_L_194 ⟨Nat.le_of_ble_eq_true rfl, Nat.le_of_ble_eq_true rfl⟩ rfl rfl (Nat.le_of_ble_eq_true rfl) ⟨show k + 1 + 1 + 1 + 1 + 1 + 1 + 1 + 1 + 1 + 1 ≤ 437 by omega, show 6 * k + 6 + 6 + 6 + 6 + 6 + 6 + 6 + 6 + 6 + 6 ≤ 2622 by omega⟩ dL_holds_789 (fun H locs Z n295 => ?_)
                    obtain ⟨z297, h⟩ := gd_e h
                    refine lv_icmp_gt (tgt := 837) hx hb dL_holds_792 (by decide) (fun cn => absurd cn (of_decide_eq_true z297)) (fun c296 => ?_)
                    refine lv_aload_n hx hb dL_holds_795 rfl (lv_at hl 5 rfl) ?_
                    refine lv_iconst (v := 3) hx hb dL_holds_796 (by decide) ?_
                    refine lv_iload hx hb dL_holds_797 (lv_at hl 3 rfl) ?_
                    refine lv_iconst (v := 3) hx hb dL_holds_799 (by decide) ?_
                    refine lv_iconst (v := 0) hx hb dL_holds_800 (by decide) ?_
                    obtain ⟨x298, e299, h⟩ := bd_e h
                    refine o_cS X hA (stb_t _) Z hl.1 (kG_callq hG hN hlt hn (qk_e e299)) cw_L_194 ⟨Nat.le_of_ble_eq_true rfl, Nat.le_of_ble_eq_true rfl⟩ rfl rfl (Nat.le_of_ble_eq_true rfl) ⟨show k + 1 + 1 + 1 + 1 + 1 + 1 + 1 + 1 + 1 + 1 + 1 ≤ 437 by omega, show 6 * k + 6 + 6 + 6 + 6 + 6 + 6 + 6 + 6 + 6 + 6 + 6 ≤ 2622 by omega⟩ dL_holds_801 (fun H locs Z n300 => ?_)
                    refine lv_iconst (v := (-1)) hx hb dL_holds_804 (by decide) ?_
                    refine lv_icmp_ne (tgt := 812) hx hb dL_holds_805 (by decide) (fun c301 => ?_) (fun c301 => ?_)
                    · have h := it_f h c301
                      refine lv_iconst (v := 0) hx hb dL_holds_812 (by decide) ?_
                      refine lv_aload_n hx hb dL_holds_813 rfl (lv_at hl 5 rfl) ?_
                      refine lv_iconst (v := 3) hx hb dL_holds_814 (by decide) ?_
                      refine lv_iload hx hb dL_holds_815 (lv_at hl 3 rfl) ?_
                      refine lv_iconst (v := 2) hx hb dL_holds_817 (by decide) ?_
                      refine lv_iconst (v := 0) hx hb dL_holds_818 (by decide) ?_
                      obtain ⟨x302, e303, h⟩ := bd_e h
                      refine o_cS X hA (stb_t _) Z hl.1 (kG_callq hG hN hlt hn (qk_e e303)) cw_L_194 ⟨Nat.le_of_ble_eq_true rfl, Nat.le_of_ble_eq_true rfl⟩ rfl rfl (Nat.le_of_ble_eq_true rfl) ⟨show k + 1 + 1 + 1 + 1 + 1 + 1 + 1 + 1 + 1 + 1 + 1 + 1 ≤ 437 by omega, show 6 * k + 6 + 6 + 6 + 6 + 6 + 6 + 6 + 6 + 6 + 6 + 6 + 6 ≤ 2622 by omega⟩ dL_holds_819 (fun H locs Z n304 => ?_)
                      refine lv_if_ne (tgt := 829) hx hb dL_holds_822 (by decide) (fun c305 => ?_) (fun c305 => ?_)
                      · have h := it_f h c305
                        refine lv_iconst (v := 0) hx hb dL_holds_829 (by decide) ?_
                        refine lv_icmp_ne (tgt := 837) hx hb dL_holds_830 (by decide) (fun cn => absurd (by decide : (0 : Int32) = 0) cn) (fun c306 => ?_)
                        refine lv_iconst (v := 1) hx hb dL_holds_833 (by decide) ?_
                        refine lv_goto (tgt := 838) hx hb dL_holds_834 (by decide) ?_
                        refine W.widen (k := 437) (n := 2622) (by omega) (by omega) ?_
                        exact o_iret X hret Z (Option.some.inj h) rfl dL_holds_838
                      · have h := it_t h c305
                        refine lv_iconst (v := 1) hx hb dL_holds_825 (by decide) ?_
                        refine lv_goto (tgt := 830) hx hb dL_holds_826 (by decide) ?_
                        cases h
                    · have h := it_t h c301
                      refine lv_iconst (v := 1) hx hb dL_holds_808 (by decide) ?_
                      refine lv_goto (tgt := 813) hx hb dL_holds_809 (by decide) ?_
                      refine lv_aload_n hx hb dL_holds_813 rfl (lv_at hl 5 rfl) ?_
                      refine lv_iconst (v := 3) hx hb dL_holds_814 (by decide) ?_
                      refine lv_iload hx hb dL_holds_815 (lv_at hl 3 rfl) ?_
                      refine lv_iconst (v := 2) hx hb dL_holds_817 (by decide) ?_
                      refine lv_iconst (v := 0) hx hb dL_holds_818 (by decide) ?_
                      obtain ⟨x308, e309, h⟩ := bd_e h
                      refine o_cS X hA (stb_t _) Z hl.1 (kG_callq hG hN hlt hn (qk_e e309)) cw_L_194 ⟨Nat.le_of_ble_eq_true rfl, Nat.le_of_ble_eq_true rfl⟩ rfl rfl (Nat.le_of_ble_eq_true rfl) ⟨show k + 1 + 1 + 1 + 1 + 1 + 1 + 1 + 1 + 1 + 1 + 1 + 1 ≤ 437 by omega, show 6 * k + 6 + 6 + 6 + 6 + 6 + 6 + 6 + 6 + 6 + 6 + 6 + 6 ≤ 2622 by omega⟩ dL_holds_819 (fun H locs Z n310 => ?_)
                      refine lv_if_ne (tgt := 829) hx hb dL_holds_822 (by decide) (fun c311 => ?_) (fun c311 => ?_)
                      · have h := it_f h c311
                        refine lv_iconst (v := 0) hx hb dL_holds_829 (by decide) ?_
                        cases h
                      · have h := it_t h c311
                        refine lv_iconst (v := 1) hx hb dL_holds_825 (by decide) ?_
                        refine lv_goto (tgt := 830) hx hb dL_holds_826 (by decide) ?_
                        refine lv_icmp_ne (tgt := 837) hx hb dL_holds_830 (by decide) (fun cn => absurd (by decide : (1 : Int32) = 1) cn) (fun c313 => ?_)
                        refine lv_iconst (v := 1) hx hb dL_holds_833 (by decide) ?_
                        refine lv_goto (tgt := 838) hx hb dL_holds_834 (by decide) ?_
                        refine W.widen (k := 437) (n := 2622) (by omega) (by omega) ?_
                        exact o_iret X hret Z (Option.some.inj h) rfl dL_holds_838
                  · have h := it_f h c284
                    refine lv_iload hx hb dL_holds_751 (lv_at hl 0 rfl) ?_
                    refine lv_iconst (v := 2) hx hb dL_holds_753 (by decide) ?_
                    refine lv_icmp_eq (tgt := 762) hx hb dL_holds_754 (by decide) (fun c314 => ?_) (fun c314 => ?_)
                    · have h := it_t h c314
                      refine lv_aload_n hx hb dL_holds_762 rfl (lv_at hl 5 rfl) ?_
                      refine lv_iconst (v := 3) hx hb dL_holds_763 (by decide) ?_
                      refine lv_iload hx hb dL_holds_764 (lv_at hl 3 rfl) ?_
                      refine lv_iconst (v := 0) hx hb dL_holds_766 (by decide) ?_
                      refine lv_iconst (v := 0) hx hb dL_holds_767 (by decide) ?_
                      obtain ⟨x315, e316, h⟩ := bd_e h
                      refine o_cS X hA (stb_t _) Z hl.1 (kG_callq hG hN hlt hn (qk_e e316)) cw_L_194 ⟨Nat.le_of_ble_eq_true rfl, Nat.le_of_ble_eq_true rfl⟩ rfl rfl (Nat.le_of_ble_eq_true rfl) ⟨show k + 1 + 1 + 1 + 1 + 1 + 1 + 1 + 1 ≤ 437 by omega, show 6 * k + 6 + 6 + 6 + 6 + 6 + 6 + 6 + 6 ≤ 2622 by omega⟩ dL_holds_768 (fun H locs Z n317 => ?_)
                      refine lv_iload_n hx hb dL_holds_771 rfl (lv_at hl 8 rfl) ?_
                      obtain ⟨z319, h⟩ := gd_e h
                      refine lv_icmp_ge (tgt := 837) hx hb dL_holds_772 (by decide) (fun cn => absurd cn (of_decide_eq_true z319)) (fun c318 => ?_)
                      refine lv_aload_n hx hb dL_holds_775 rfl (lv_at hl 5 rfl) ?_
                      refine lv_iconst (v := 3) hx hb dL_holds_776 (by decide) ?_
                      refine lv_iload hx hb dL_holds_777 (lv_at hl 3 rfl) ?_
                      refine lv_iconst (v := 3) hx hb dL_holds_779 (by decide) ?_
                      refine lv_iconst (v := 0) hx hb dL_holds_780 (by decide) ?_
                      obtain ⟨x320, e321, h⟩ := bd_e h
                      refine o_cS X hA (stb_t _) Z hl.1 (kG_callq hG hN hlt hn (qk_e e321)) cw_L_194 ⟨Nat.le_of_ble_eq_true rfl, Nat.le_of_ble_eq_true rfl⟩ rfl rfl (Nat.le_of_ble_eq_true rfl) ⟨show k + 1 + 1 + 1 + 1 + 1 + 1 + 1 + 1 + 1 ≤ 437 by omega, show 6 * k + 6 + 6 + 6 + 6 + 6 + 6 + 6 + 6 + 6 ≤ 2622 by omega⟩ dL_holds_781 (fun H locs Z n322 => ?_)
                      refine lv_aload_n hx hb dL_holds_784 rfl (lv_at hl 5 rfl) ?_
                      refine lv_iconst (v := 2) hx hb dL_holds_785 (by decide) ?_
                      refine lv_iconst (v := 2) hx hb dL_holds_786 (by decide) ?_
                      refine lv_iconst (v := 0) hx hb dL_holds_787 (by decide) ?_
                      refine lv_iconst (v := 0) hx hb dL_holds_788 (by decide) ?_
                      obtain ⟨x323, e324, h⟩ := bd_e h
                      refine o_cS X hA (stb_t _) Z hl.1 (kG_callq hG hN hlt hn (qk_e e324)) cw_L_194 ⟨Nat.le_of_ble_eq_true rfl, Nat.le_of_ble_eq_true rfl⟩ rfl rfl (Nat.le_of_ble_eq_true rfl) ⟨show k + 1 + 1 + 1 + 1 + 1 + 1 + 1 + 1 + 1 + 1 ≤ 437 by omega, show 6 * k + 6 + 6 + 6 + 6 + 6 + 6 + 6 + 6 + 6 + 6 ≤ 2622 by omega⟩ dL_holds_789 (fun H locs Z n325 => ?_)
                      obtain ⟨z327, h⟩ := gd_e h
                      refine lv_icmp_gt (tgt := 837) hx hb dL_holds_792 (by decide) (fun cn => absurd cn (of_decide_eq_true z327)) (fun c326 => ?_)
                      refine lv_aload_n hx hb dL_holds_795 rfl (lv_at hl 5 rfl) ?_
                      refine lv_iconst (v := 3) hx hb dL_holds_796 (by decide) ?_
                      refine lv_iload hx hb dL_holds_797 (lv_at hl 3 rfl) ?_
                      refine lv_iconst (v := 3) hx hb dL_holds_799 (by decide) ?_
                      refine lv_iconst (v := 0) hx hb dL_holds_800 (by decide) ?_
                      obtain ⟨x328, e329, h⟩ := bd_e h
                      refine o_cS X hA (stb_t _) Z hl.1 (kG_callq hG hN hlt hn (qk_e e329)) cw_L_194 ⟨Nat.le_of_ble_eq_true rfl, Nat.le_of_ble_eq_true rfl⟩ rfl rfl (Nat.le_of_ble_eq_true rfl) ⟨show k + 1 + 1 + 1 + 1 + 1 + 1 + 1 + 1 + 1 + 1 + 1 ≤ 437 by omega, show 6 * k + 6 + 6 + 6 + 6 + 6 + 6 + 6 + 6 + 6 + 6 + 6 ≤ 2622 by omega⟩ dL_holds_801 (fun H locs Z n330 => ?_)
                      refine lv_iconst (v := (-1)) hx hb dL_holds_804 (by decide) ?_
                      refine lv_icmp_ne (tgt := 812) hx hb dL_holds_805 (by decide) (fun c331 => ?_) (fun c331 => ?_)
                      · have h := it_f h c331
                        refine lv_iconst (v := 0) hx hb dL_holds_812 (by decide) ?_
                        refine lv_aload_n hx hb dL_holds_813 rfl (lv_at hl 5 rfl) ?_
                        refine lv_iconst (v := 3) hx hb dL_holds_814 (by decide) ?_
                        refine lv_iload hx hb dL_holds_815 (lv_at hl 3 rfl) ?_
                        refine lv_iconst (v := 2) hx hb dL_holds_817 (by decide) ?_
                        refine lv_iconst (v := 0) hx hb dL_holds_818 (by decide) ?_
                        obtain ⟨x332, e333, h⟩ := bd_e h
                        refine o_cS X hA (stb_t _) Z hl.1 (kG_callq hG hN hlt hn (qk_e e333)) cw_L_194 ⟨Nat.le_of_ble_eq_true rfl, Nat.le_of_ble_eq_true rfl⟩ rfl rfl (Nat.le_of_ble_eq_true rfl) ⟨show k + 1 + 1 + 1 + 1 + 1 + 1 + 1 + 1 + 1 + 1 + 1 + 1 ≤ 437 by omega, show 6 * k + 6 + 6 + 6 + 6 + 6 + 6 + 6 + 6 + 6 + 6 + 6 + 6 ≤ 2622 by omega⟩ dL_holds_819 (fun H locs Z n334 => ?_)
                        refine lv_if_ne (tgt := 829) hx hb dL_holds_822 (by decide) (fun c335 => ?_) (fun c335 => ?_)
                        · have h := it_f h c335
                          refine lv_iconst (v := 0) hx hb dL_holds_829 (by decide) ?_
                          refine lv_icmp_ne (tgt := 837) hx hb dL_holds_830 (by decide) (fun cn => absurd (by decide : (0 : Int32) = 0) cn) (fun c336 => ?_)
                          refine lv_iconst (v := 1) hx hb dL_holds_833 (by decide) ?_
                          refine lv_goto (tgt := 838) hx hb dL_holds_834 (by decide) ?_
                          refine W.widen (k := 437) (n := 2622) (by omega) (by omega) ?_
                          exact o_iret X hret Z (Option.some.inj h) rfl dL_holds_838
                        · have h := it_t h c335
                          refine lv_iconst (v := 1) hx hb dL_holds_825 (by decide) ?_
                          refine lv_goto (tgt := 830) hx hb dL_holds_826 (by decide) ?_
                          cases h
                      · have h := it_t h c331
                        refine lv_iconst (v := 1) hx hb dL_holds_808 (by decide) ?_
                        refine lv_goto (tgt := 813) hx hb dL_holds_809 (by decide) ?_
                        refine lv_aload_n hx hb dL_holds_813 rfl (lv_at hl 5 rfl) ?_
                        refine lv_iconst (v := 3) hx hb dL_holds_814 (by decide) ?_
                        refine lv_iload hx hb dL_holds_815 (lv_at hl 3 rfl) ?_
                        refine lv_iconst (v := 2) hx hb dL_holds_817 (by decide) ?_
                        refine lv_iconst (v := 0) hx hb dL_holds_818 (by decide) ?_
                        obtain ⟨x338, e339, h⟩ := bd_e h
                        refine o_cS X hA (stb_t _) Z hl.1 (kG_callq hG hN hlt hn (qk_e e339)) cw_L_194 ⟨Nat.le_of_ble_eq_true rfl, Nat.le_of_ble_eq_true rfl⟩ rfl rfl (Nat.le_of_ble_eq_true rfl) ⟨show k + 1 + 1 + 1 + 1 + 1 + 1 + 1 + 1 + 1 + 1 + 1 + 1 ≤ 437 by omega, show 6 * k + 6 + 6 + 6 + 6 + 6 + 6 + 6 + 6 + 6 + 6 + 6 + 6 ≤ 2622 by omega⟩ dL_holds_819 (fun H locs Z n340 => ?_)
                        refine lv_if_ne (tgt := 829) hx hb dL_holds_822 (by decide) (fun c341 => ?_) (fun c341 => ?_)
                        · have h := it_f h c341
                          refine lv_iconst (v := 0) hx hb dL_holds_829 (by decide) ?_
                          cases h
                        · have h := it_t h c341
                          refine lv_iconst (v := 1) hx hb dL_holds_825 (by decide) ?_
                          refine lv_goto (tgt := 830) hx hb dL_holds_826 (by decide) ?_
                          refine lv_icmp_ne (tgt := 837) hx hb dL_holds_830 (by decide) (fun cn => absurd (by decide : (1 : Int32) = 1) cn) (fun c343 => ?_)
                          refine lv_iconst (v := 1) hx hb dL_holds_833 (by decide) ?_
                          refine lv_goto (tgt := 838) hx hb dL_holds_834 (by decide) ?_
                          refine W.widen (k := 437) (n := 2622) (by omega) (by omega) ?_
                          exact o_iret X hret Z (Option.some.inj h) rfl dL_holds_838
                    · have h := it_f h c314
                      refine lv_iload hx hb dL_holds_757 (lv_at hl 1 rfl) ?_
                      obtain ⟨z345, h⟩ := gd_e h
                      refine lv_if_ne (tgt := 837) hx hb dL_holds_759 (by decide) (fun cn => absurd (of_decide_eq_true z345) cn) (fun c344 => ?_)
                      refine lv_aload_n hx hb dL_holds_762 rfl (lv_at hl 5 rfl) ?_
                      refine lv_iconst (v := 3) hx hb dL_holds_763 (by decide) ?_
                      refine lv_iload hx hb dL_holds_764 (lv_at hl 3 rfl) ?_
                      refine lv_iconst (v := 0) hx hb dL_holds_766 (by decide) ?_
                      refine lv_iconst (v := 0) hx hb dL_holds_767 (by decide) ?_
                      obtain ⟨x346, e347, h⟩ := bd_e h
                      refine o_cS X hA (stb_t _) Z hl.1 (kG_callq hG hN hlt hn (qk_e e347)) cw_L_194 ⟨Nat.le_of_ble_eq_true rfl, Nat.le_of_ble_eq_true rfl⟩ rfl rfl (Nat.le_of_ble_eq_true rfl) ⟨show k + 1 + 1 + 1 + 1 + 1 + 1 + 1 + 1 ≤ 437 by omega, show 6 * k + 6 + 6 + 6 + 6 + 6 + 6 + 6 + 6 ≤ 2622 by omega⟩ dL_holds_768 (fun H locs Z n348 => ?_)
                      refine lv_iload_n hx hb dL_holds_771 rfl (lv_at hl 8 rfl) ?_
                      obtain ⟨z350, h⟩ := gd_e h
                      refine lv_icmp_ge (tgt := 837) hx hb dL_holds_772 (by decide) (fun cn => absurd cn (of_decide_eq_true z350)) (fun c349 => ?_)
                      refine lv_aload_n hx hb dL_holds_775 rfl (lv_at hl 5 rfl) ?_
                      refine lv_iconst (v := 3) hx hb dL_holds_776 (by decide) ?_
                      refine lv_iload hx hb dL_holds_777 (lv_at hl 3 rfl) ?_
                      refine lv_iconst (v := 3) hx hb dL_holds_779 (by decide) ?_
                      refine lv_iconst (v := 0) hx hb dL_holds_780 (by decide) ?_
                      obtain ⟨x351, e352, h⟩ := bd_e h
                      refine o_cS X hA (stb_t _) Z hl.1 (kG_callq hG hN hlt hn (qk_e e352)) cw_L_194 ⟨Nat.le_of_ble_eq_true rfl, Nat.le_of_ble_eq_true rfl⟩ rfl rfl (Nat.le_of_ble_eq_true rfl) ⟨show k + 1 + 1 + 1 + 1 + 1 + 1 + 1 + 1 + 1 ≤ 437 by omega, show 6 * k + 6 + 6 + 6 + 6 + 6 + 6 + 6 + 6 + 6 ≤ 2622 by omega⟩ dL_holds_781 (fun H locs Z n353 => ?_)
                      refine lv_aload_n hx hb dL_holds_784 rfl (lv_at hl 5 rfl) ?_
                      refine lv_iconst (v := 2) hx hb dL_holds_785 (by decide) ?_
                      refine lv_iconst (v := 2) hx hb dL_holds_786 (by decide) ?_
                      refine lv_iconst (v := 0) hx hb dL_holds_787 (by decide) ?_
                      refine lv_iconst (v := 0) hx hb dL_holds_788 (by decide) ?_
                      obtain ⟨x354, e355, h⟩ := bd_e h
                      refine o_cS X hA (stb_t _) Z hl.1 (kG_callq hG hN hlt hn (qk_e e355)) cw_L_194 ⟨Nat.le_of_ble_eq_true rfl, Nat.le_of_ble_eq_true rfl⟩ rfl rfl (Nat.le_of_ble_eq_true rfl) ⟨show k + 1 + 1 + 1 + 1 + 1 + 1 + 1 + 1 + 1 + 1 ≤ 437 by omega, show 6 * k + 6 + 6 + 6 + 6 + 6 + 6 + 6 + 6 + 6 + 6 ≤ 2622 by omega⟩ dL_holds_789 (fun H locs Z n356 => ?_)
                      obtain ⟨z358, h⟩ := gd_e h
                      refine lv_icmp_gt (tgt := 837) hx hb dL_holds_792 (by decide) (fun cn => absurd cn (of_decide_eq_true z358)) (fun c357 => ?_)
                      refine lv_aload_n hx hb dL_holds_795 rfl (lv_at hl 5 rfl) ?_
                      refine lv_iconst (v := 3) hx hb dL_holds_796 (by decide) ?_
                      refine lv_iload hx hb dL_holds_797 (lv_at hl 3 rfl) ?_
                      refine lv_iconst (v := 3) hx hb dL_holds_799 (by decide) ?_
                      refine lv_iconst (v := 0) hx hb dL_holds_800 (by decide) ?_
                      obtain ⟨x359, e360, h⟩ := bd_e h
                      refine o_cS X hA (stb_t _) Z hl.1 (kG_callq hG hN hlt hn (qk_e e360)) cw_L_194 ⟨Nat.le_of_ble_eq_true rfl, Nat.le_of_ble_eq_true rfl⟩ rfl rfl (Nat.le_of_ble_eq_true rfl) ⟨show k + 1 + 1 + 1 + 1 + 1 + 1 + 1 + 1 + 1 + 1 + 1 ≤ 437 by omega, show 6 * k + 6 + 6 + 6 + 6 + 6 + 6 + 6 + 6 + 6 + 6 + 6 ≤ 2622 by omega⟩ dL_holds_801 (fun H locs Z n361 => ?_)
                      refine lv_iconst (v := (-1)) hx hb dL_holds_804 (by decide) ?_
                      refine lv_icmp_ne (tgt := 812) hx hb dL_holds_805 (by decide) (fun c362 => ?_) (fun c362 => ?_)
                      · have h := it_f h c362
                        refine lv_iconst (v := 0) hx hb dL_holds_812 (by decide) ?_
                        refine lv_aload_n hx hb dL_holds_813 rfl (lv_at hl 5 rfl) ?_
                        refine lv_iconst (v := 3) hx hb dL_holds_814 (by decide) ?_
                        refine lv_iload hx hb dL_holds_815 (lv_at hl 3 rfl) ?_
                        refine lv_iconst (v := 2) hx hb dL_holds_817 (by decide) ?_
                        refine lv_iconst (v := 0) hx hb dL_holds_818 (by decide) ?_
                        obtain ⟨x363, e364, h⟩ := bd_e h
                        refine o_cS X hA (stb_t _) Z hl.1 (kG_callq hG hN hlt hn (qk_e e364)) cw_L_194 ⟨Nat.le_of_ble_eq_true rfl, Nat.le_of_ble_eq_true rfl⟩ rfl rfl (Nat.le_of_ble_eq_true rfl) ⟨show k + 1 + 1 + 1 + 1 + 1 + 1 + 1 + 1 + 1 + 1 + 1 + 1 ≤ 437 by omega, show 6 * k + 6 + 6 + 6 + 6 + 6 + 6 + 6 + 6 + 6 + 6 + 6 + 6 ≤ 2622 by omega⟩ dL_holds_819 (fun H locs Z n365 => ?_)
                        refine lv_if_ne (tgt := 829) hx hb dL_holds_822 (by decide) (fun c366 => ?_) (fun c366 => ?_)
                        · have h := it_f h c366
                          refine lv_iconst (v := 0) hx hb dL_holds_829 (by decide) ?_
                          refine lv_icmp_ne (tgt := 837) hx hb dL_holds_830 (by decide) (fun cn => absurd (by decide : (0 : Int32) = 0) cn) (fun c367 => ?_)
                          refine lv_iconst (v := 1) hx hb dL_holds_833 (by decide) ?_
                          refine lv_goto (tgt := 838) hx hb dL_holds_834 (by decide) ?_
                          refine W.widen (k := 437) (n := 2622) (by omega) (by omega) ?_
                          exact o_iret X hret Z (Option.some.inj h) rfl dL_holds_838
                        · have h := it_t h c366
                          refine lv_iconst (v := 1) hx hb dL_holds_825 (by decide) ?_
                          refine lv_goto (tgt := 830) hx hb dL_holds_826 (by decide) ?_
                          cases h
                      · have h := it_t h c362
                        refine lv_iconst (v := 1) hx hb dL_holds_808 (by decide) ?_
                        refine lv_goto (tgt := 813) hx hb dL_holds_809 (by decide) ?_
                        refine lv_aload_n hx hb dL_holds_813 rfl (lv_at hl 5 rfl) ?_
                        refine lv_iconst (v := 3) hx hb dL_holds_814 (by decide) ?_
                        refine lv_iload hx hb dL_holds_815 (lv_at hl 3 rfl) ?_
                        refine lv_iconst (v := 2) hx hb dL_holds_817 (by decide) ?_
                        refine lv_iconst (v := 0) hx hb dL_holds_818 (by decide) ?_
                        obtain ⟨x369, e370, h⟩ := bd_e h
                        refine o_cS X hA (stb_t _) Z hl.1 (kG_callq hG hN hlt hn (qk_e e370)) cw_L_194 ⟨Nat.le_of_ble_eq_true rfl, Nat.le_of_ble_eq_true rfl⟩ rfl rfl (Nat.le_of_ble_eq_true rfl) ⟨show k + 1 + 1 + 1 + 1 + 1 + 1 + 1 + 1 + 1 + 1 + 1 + 1 ≤ 437 by omega, show 6 * k + 6 + 6 + 6 + 6 + 6 + 6 + 6 + 6 + 6 + 6 + 6 + 6 ≤ 2622 by omega⟩ dL_holds_819 (fun H locs Z n371 => ?_)
                        refine lv_if_ne (tgt := 829) hx hb dL_holds_822 (by decide) (fun c372 => ?_) (fun c372 => ?_)
                        · have h := it_f h c372
                          refine lv_iconst (v := 0) hx hb dL_holds_829 (by decide) ?_
                          cases h
                        · have h := it_t h c372
                          refine lv_iconst (v := 1) hx hb dL_holds_825 (by decide) ?_
                          refine lv_goto (tgt := 830) hx hb dL_holds_826 (by decide) ?_
                          refine lv_icmp_ne (tgt := 837) hx hb dL_holds_830 (by decide) (fun cn => absurd (by decide : (1 : Int32) = 1) cn) (fun c374 => ?_)
                          refine lv_iconst (v := 1) hx hb dL_holds_833 (by decide) ?_
                          refine lv_goto (tgt := 838) hx hb dL_holds_834 (by decide) ?_
                          refine W.widen (k := 437) (n := 2622) (by omega) (by omega) ?_
                          exact o_iret X hret Z (Option.some.inj h) rfl dL_holds_838
          · have h := it_t h c68
            refine lv_iconst (v := 1) hx hb dL_holds_711 (by decide) ?_
            refine lv_goto (tgt := 716) hx hb dL_holds_712 (by decide) ?_
            cases h
        · have h := it_t h c64
          refine lv_iconst (v := 1) hx hb dL_holds_693 (by decide) ?_
          refine lv_goto (tgt := 698) hx hb dL_holds_694 (by decide) ?_
          refine lv_aload_n hx hb dL_holds_698 rfl (lv_at hl 5 rfl) ?_
          refine lv_iconst (v := 5) hx hb dL_holds_699 (by decide) ?_
          refine lv_iload hx hb dL_holds_700 (lv_at hl 2 rfl) ?_
          refine lv_iconst (v := 2) hx hb dL_holds_702 (by decide) ?_
          refine lv_iconst (v := 0) hx hb dL_holds_703 (by decide) ?_
          obtain ⟨x376, e377, h⟩ := bd_e h
          refine o_cS X hA (stb_t _) Z hl.1 (kG_callq hG hN hlt hn (qk_e e377)) cw_L_194 ⟨Nat.le_of_ble_eq_true rfl, Nat.le_of_ble_eq_true rfl⟩ rfl rfl (Nat.le_of_ble_eq_true rfl) ⟨show k + 1 + 1 + 1 + 1 + 1 + 1 + 1 ≤ 437 by omega, show 6 * k + 6 + 6 + 6 + 6 + 6 + 6 + 6 ≤ 2622 by omega⟩ dL_holds_704 (fun H locs Z n378 => ?_)
          refine lv_iconst (v := 1) hx hb dL_holds_707 (by decide) ?_
          refine lv_icmp_ne (tgt := 715) hx hb dL_holds_708 (by decide) (fun c379 => ?_) (fun c379 => ?_)
          · have h := it_f h c379
            refine lv_iconst (v := 0) hx hb dL_holds_715 (by decide) ?_
            cases h
          · have h := it_t h c379
            refine lv_iconst (v := 1) hx hb dL_holds_711 (by decide) ?_
            refine lv_goto (tgt := 716) hx hb dL_holds_712 (by decide) ?_
            refine lv_icmp_ne (tgt := 837) hx hb dL_holds_716 (by decide) (fun cn => absurd (by decide : (1 : Int32) = 1) cn) (fun c381 => ?_)
            refine lv_iload hx hb dL_holds_719 (lv_at hl 0 rfl) ?_
            refine lv_iconst (v := 2) hx hb dL_holds_721 (by decide) ?_
            refine lv_icmp_ne (tgt := 732) hx hb dL_holds_722 (by decide) (fun c382 => ?_) (fun c382 => ?_)
            · have h := it_f h c382
              refine lv_iload hx hb dL_holds_732 (lv_at hl 0 rfl) ?_
              refine lv_iconst (v := 1) hx hb dL_holds_734 (by decide) ?_
              refine lv_icmp_le (tgt := 762) hx hb dL_holds_735 (by decide) (fun c383 => ?_) (fun c383 => ?_)
              · have h := it_t h c383
                refine lv_aload_n hx hb dL_holds_762 rfl (lv_at hl 5 rfl) ?_
                refine lv_iconst (v := 3) hx hb dL_holds_763 (by decide) ?_
                refine lv_iload hx hb dL_holds_764 (lv_at hl 3 rfl) ?_
                refine lv_iconst (v := 0) hx hb dL_holds_766 (by decide) ?_
                refine lv_iconst (v := 0) hx hb dL_holds_767 (by decide) ?_
                obtain ⟨x384, e385, h⟩ := bd_e h
                refine o_cS X hA (stb_t _) Z hl.1 (kG_callq hG hN hlt hn (qk_e e385)) cw_L_194 ⟨Nat.le_of_ble_eq_true rfl, Nat.le_of_ble_eq_true rfl⟩ rfl rfl (Nat.le_of_ble_eq_true rfl) ⟨show k + 1 + 1 + 1 + 1 + 1 + 1 + 1 + 1 ≤ 437 by omega, show 6 * k + 6 + 6 + 6 + 6 + 6 + 6 + 6 + 6 ≤ 2622 by omega⟩ dL_holds_768 (fun H locs Z n386 => ?_)
                refine lv_iload_n hx hb dL_holds_771 rfl (lv_at hl 8 rfl) ?_
                obtain ⟨z388, h⟩ := gd_e h
                refine lv_icmp_ge (tgt := 837) hx hb dL_holds_772 (by decide) (fun cn => absurd cn (of_decide_eq_true z388)) (fun c387 => ?_)
                refine lv_aload_n hx hb dL_holds_775 rfl (lv_at hl 5 rfl) ?_
                refine lv_iconst (v := 3) hx hb dL_holds_776 (by decide) ?_
                refine lv_iload hx hb dL_holds_777 (lv_at hl 3 rfl) ?_
                refine lv_iconst (v := 3) hx hb dL_holds_779 (by decide) ?_
                refine lv_iconst (v := 0) hx hb dL_holds_780 (by decide) ?_
                obtain ⟨x389, e390, h⟩ := bd_e h
                refine o_cS X hA (stb_t _) Z hl.1 (kG_callq hG hN hlt hn (qk_e e390)) cw_L_194 ⟨Nat.le_of_ble_eq_true rfl, Nat.le_of_ble_eq_true rfl⟩ rfl rfl (Nat.le_of_ble_eq_true rfl) ⟨show k + 1 + 1 + 1 + 1 + 1 + 1 + 1 + 1 + 1 ≤ 437 by omega, show 6 * k + 6 + 6 + 6 + 6 + 6 + 6 + 6 + 6 + 6 ≤ 2622 by omega⟩ dL_holds_781 (fun H locs Z n391 => ?_)
                refine lv_aload_n hx hb dL_holds_784 rfl (lv_at hl 5 rfl) ?_
                refine lv_iconst (v := 2) hx hb dL_holds_785 (by decide) ?_
                refine lv_iconst (v := 2) hx hb dL_holds_786 (by decide) ?_
                refine lv_iconst (v := 0) hx hb dL_holds_787 (by decide) ?_
                refine lv_iconst (v := 0) hx hb dL_holds_788 (by decide) ?_
                obtain ⟨x392, e393, h⟩ := bd_e h
                refine o_cS X hA (stb_t _) Z hl.1 (kG_callq hG hN hlt hn (qk_e e393)) cw_L_194 ⟨Nat.le_of_ble_eq_true rfl, Nat.le_of_ble_eq_true rfl⟩ rfl rfl (Nat.le_of_ble_eq_true rfl) ⟨show k + 1 + 1 + 1 + 1 + 1 + 1 + 1 + 1 + 1 + 1 ≤ 437 by omega, show 6 * k + 6 + 6 + 6 + 6 + 6 + 6 + 6 + 6 + 6 + 6 ≤ 2622 by omega⟩ dL_holds_789 (fun H locs Z n394 => ?_)
                obtain ⟨z396, h⟩ := gd_e h
                refine lv_icmp_gt (tgt := 837) hx hb dL_holds_792 (by decide) (fun cn => absurd cn (of_decide_eq_true z396)) (fun c395 => ?_)
                refine lv_aload_n hx hb dL_holds_795 rfl (lv_at hl 5 rfl) ?_
                refine lv_iconst (v := 3) hx hb dL_holds_796 (by decide) ?_
                refine lv_iload hx hb dL_holds_797 (lv_at hl 3 rfl) ?_
                refine lv_iconst (v := 3) hx hb dL_holds_799 (by decide) ?_
                refine lv_iconst (v := 0) hx hb dL_holds_800 (by decide) ?_
                obtain ⟨x397, e398, h⟩ := bd_e h
                refine o_cS X hA (stb_t _) Z hl.1 (kG_callq hG hN hlt hn (qk_e e398)) cw_L_194 ⟨Nat.le_of_ble_eq_true rfl, Nat.le_of_ble_eq_true rfl⟩ rfl rfl (Nat.le_of_ble_eq_true rfl) ⟨show k + 1 + 1 + 1 + 1 + 1 + 1 + 1 + 1 + 1 + 1 + 1 ≤ 437 by omega, show 6 * k + 6 + 6 + 6 + 6 + 6 + 6 + 6 + 6 + 6 + 6 + 6 ≤ 2622 by omega⟩ dL_holds_801 (fun H locs Z n399 => ?_)
                refine lv_iconst (v := (-1)) hx hb dL_holds_804 (by decide) ?_
                refine lv_icmp_ne (tgt := 812) hx hb dL_holds_805 (by decide) (fun c400 => ?_) (fun c400 => ?_)
                · have h := it_f h c400
                  refine lv_iconst (v := 0) hx hb dL_holds_812 (by decide) ?_
                  refine lv_aload_n hx hb dL_holds_813 rfl (lv_at hl 5 rfl) ?_
                  refine lv_iconst (v := 3) hx hb dL_holds_814 (by decide) ?_
                  refine lv_iload hx hb dL_holds_815 (lv_at hl 3 rfl) ?_
                  refine lv_iconst (v := 2) hx hb dL_holds_817 (by decide) ?_
                  refine lv_iconst (v := 0) hx hb dL_holds_818 (by decide) ?_
                  obtain ⟨x401, e402, h⟩ := bd_e h
                  refine o_cS X hA (stb_t _) Z hl.1 (kG_callq hG hN hlt hn (qk_e e402)) cw_L_194 ⟨Nat.le_of_ble_eq_true rfl, Nat.le_of_ble_eq_true rfl⟩ rfl rfl (Nat.le_of_ble_eq_true rfl) ⟨show k + 1 + 1 + 1 + 1 + 1 + 1 + 1 + 1 + 1 + 1 + 1 + 1 ≤ 437 by omega, show 6 * k + 6 + 6 + 6 + 6 + 6 + 6 + 6 + 6 + 6 + 6 + 6 + 6 ≤ 2622 by omega⟩ dL_holds_819 (fun H locs Z n403 => ?_)
                  refine lv_if_ne (tgt := 829) hx hb dL_holds_822 (by decide) (fun c404 => ?_) (fun c404 => ?_)
                  · have h := it_f h c404
                    refine lv_iconst (v := 0) hx hb dL_holds_829 (by decide) ?_
                    refine lv_icmp_ne (tgt := 837) hx hb dL_holds_830 (by decide) (fun cn => absurd (by decide : (0 : Int32) = 0) cn) (fun c405 => ?_)
                    refine lv_iconst (v := 1) hx hb dL_holds_833 (by decide) ?_
                    refine lv_goto (tgt := 838) hx hb dL_holds_834 (by decide) ?_
                    refine W.widen (k := 437) (n := 2622) (by omega) (by omega) ?_
                    exact o_iret X hret Z (Option.some.inj h) rfl dL_holds_838
                  · have h := it_t h c404
                    refine lv_iconst (v := 1) hx hb dL_holds_825 (by decide) ?_
                    refine lv_goto (tgt := 830) hx hb dL_holds_826 (by decide) ?_
                    cases h
                · have h := it_t h c400
                  refine lv_iconst (v := 1) hx hb dL_holds_808 (by decide) ?_
                  refine lv_goto (tgt := 813) hx hb dL_holds_809 (by decide) ?_
                  refine lv_aload_n hx hb dL_holds_813 rfl (lv_at hl 5 rfl) ?_
                  refine lv_iconst (v := 3) hx hb dL_holds_814 (by decide) ?_
                  refine lv_iload hx hb dL_holds_815 (lv_at hl 3 rfl) ?_
                  refine lv_iconst (v := 2) hx hb dL_holds_817 (by decide) ?_
                  refine lv_iconst (v := 0) hx hb dL_holds_818 (by decide) ?_
                  obtain ⟨x407, e408, h⟩ := bd_e h
                  refine o_cS X hA (stb_t _) Z hl.1 (kG_callq hG hN hlt hn (qk_e e408)) cw_L_194 ⟨Nat.le_of_ble_eq_true rfl, Nat.le_of_ble_eq_true rfl⟩ rfl rfl (Nat.le_of_ble_eq_true rfl) ⟨show k + 1 + 1 + 1 + 1 + 1 + 1 + 1 + 1 + 1 + 1 + 1 + 1 ≤ 437 by omega, show 6 * k + 6 + 6 + 6 + 6 + 6 + 6 + 6 + 6 + 6 + 6 + 6 + 6 ≤ 2622 by omega⟩ dL_holds_819 (fun H locs Z n409 => ?_)
                  refine lv_if_ne (tgt := 829) hx hb dL_holds_822 (by decide) (fun c410 => ?_) (fun c410 => ?_)
                  · have h := it_f h c410
                    refine lv_iconst (v := 0) hx hb dL_holds_829 (by decide) ?_
                    cases h
                  · have h := it_t h c410
                    refine lv_iconst (v := 1) hx hb dL_holds_825 (by decide) ?_
                    refine lv_goto (tgt := 830) hx hb dL_holds_826 (by decide) ?_
                    refine lv_icmp_ne (tgt := 837) hx hb dL_holds_830 (by decide) (fun cn => absurd (by decide : (1 : Int32) = 1) cn) (fun c412 => ?_)
                    refine lv_iconst (v := 1) hx hb dL_holds_833 (by decide) ?_
                    refine lv_goto (tgt := 838) hx hb dL_holds_834 (by decide) ?_
                    refine W.widen (k := 437) (n := 2622) (by omega) (by omega) ?_
                    exact o_iret X hret Z (Option.some.inj h) rfl dL_holds_838
              · have h := it_f h c383
                refine lv_iload hx hb dL_holds_738 (lv_at hl 0 rfl) ?_
                refine lv_bipush (v := 7) hx hb dL_holds_740 (by decide) ?_
                refine lv_icmp_eq (tgt := 762) hx hb dL_holds_742 (by decide) (fun c413 => ?_) (fun c413 => ?_)
                · have h := it_t h c413
                  refine lv_aload_n hx hb dL_holds_762 rfl (lv_at hl 5 rfl) ?_
                  refine lv_iconst (v := 3) hx hb dL_holds_763 (by decide) ?_
                  refine lv_iload hx hb dL_holds_764 (lv_at hl 3 rfl) ?_
                  refine lv_iconst (v := 0) hx hb dL_holds_766 (by decide) ?_
                  refine lv_iconst (v := 0) hx hb dL_holds_767 (by decide) ?_
                  obtain ⟨x414, e415, h⟩ := bd_e h
                  refine o_cS X hA (stb_t _) Z hl.1 (kG_callq hG hN hlt hn (qk_e e415)) cw_L_194 ⟨Nat.le_of_ble_eq_true rfl, Nat.le_of_ble_eq_true rfl⟩ rfl rfl (Nat.le_of_ble_eq_true rfl) ⟨show k + 1 + 1 + 1 + 1 + 1 + 1 + 1 + 1 ≤ 437 by omega, show 6 * k + 6 + 6 + 6 + 6 + 6 + 6 + 6 + 6 ≤ 2622 by omega⟩ dL_holds_768 (fun H locs Z n416 => ?_)
                  refine lv_iload_n hx hb dL_holds_771 rfl (lv_at hl 8 rfl) ?_
                  obtain ⟨z418, h⟩ := gd_e h
                  refine lv_icmp_ge (tgt := 837) hx hb dL_holds_772 (by decide) (fun cn => absurd cn (of_decide_eq_true z418)) (fun c417 => ?_)
                  refine lv_aload_n hx hb dL_holds_775 rfl (lv_at hl 5 rfl) ?_
                  refine lv_iconst (v := 3) hx hb dL_holds_776 (by decide) ?_
                  refine lv_iload hx hb dL_holds_777 (lv_at hl 3 rfl) ?_
                  refine lv_iconst (v := 3) hx hb dL_holds_779 (by decide) ?_
                  refine lv_iconst (v := 0) hx hb dL_holds_780 (by decide) ?_
                  obtain ⟨x419, e420, h⟩ := bd_e h
                  refine o_cS X hA (stb_t _) Z hl.1 (kG_callq hG hN hlt hn (qk_e e420)) cw_L_194 ⟨Nat.le_of_ble_eq_true rfl, Nat.le_of_ble_eq_true rfl⟩ rfl rfl (Nat.le_of_ble_eq_true rfl) ⟨show k + 1 + 1 + 1 + 1 + 1 + 1 + 1 + 1 + 1 ≤ 437 by omega, show 6 * k + 6 + 6 + 6 + 6 + 6 + 6 + 6 + 6 + 6 ≤ 2622 by omega⟩ dL_holds_781 (fun H locs Z n421 => ?_)
                  refine lv_aload_n hx hb dL_holds_784 rfl (lv_at hl 5 rfl) ?_
                  refine lv_iconst (v := 2) hx hb dL_holds_785 (by decide) ?_
                  refine lv_iconst (v := 2) hx hb dL_holds_786 (by decide) ?_
                  refine lv_iconst (v := 0) hx hb dL_holds_787 (by decide) ?_
                  refine lv_iconst (v := 0) hx hb dL_holds_788 (by decide) ?_
                  obtain ⟨x422, e423, h⟩ := bd_e h
                  refine o_cS X hA (stb_t _) Z hl.1 (kG_callq hG hN hlt hn (qk_e e423)) cw_L_194 ⟨Nat.le_of_ble_eq_true rfl, Nat.le_of_ble_eq_true rfl⟩ rfl rfl (Nat.le_of_ble_eq_true rfl) ⟨show k + 1 + 1 + 1 + 1 + 1 + 1 + 1 + 1 + 1 + 1 ≤ 437 by omega, show 6 * k + 6 + 6 + 6 + 6 + 6 + 6 + 6 + 6 + 6 + 6 ≤ 2622 by omega⟩ dL_holds_789 (fun H locs Z n424 => ?_)
                  obtain ⟨z426, h⟩ := gd_e h
                  refine lv_icmp_gt (tgt := 837) hx hb dL_holds_792 (by decide) (fun cn => absurd cn (of_decide_eq_true z426)) (fun c425 => ?_)
                  refine lv_aload_n hx hb dL_holds_795 rfl (lv_at hl 5 rfl) ?_
                  refine lv_iconst (v := 3) hx hb dL_holds_796 (by decide) ?_
                  refine lv_iload hx hb dL_holds_797 (lv_at hl 3 rfl) ?_
                  refine lv_iconst (v := 3) hx hb dL_holds_799 (by decide) ?_
                  refine lv_iconst (v := 0) hx hb dL_holds_800 (by decide) ?_
                  obtain ⟨x427, e428, h⟩ := bd_e h
                  refine o_cS X hA (stb_t _) Z hl.1 (kG_callq hG hN hlt hn (qk_e e428)) cw_L_194 ⟨Nat.le_of_ble_eq_true rfl, Nat.le_of_ble_eq_true rfl⟩ rfl rfl (Nat.le_of_ble_eq_true rfl) ⟨show k + 1 + 1 + 1 + 1 + 1 + 1 + 1 + 1 + 1 + 1 + 1 ≤ 437 by omega, show 6 * k + 6 + 6 + 6 + 6 + 6 + 6 + 6 + 6 + 6 + 6 + 6 ≤ 2622 by omega⟩ dL_holds_801 (fun H locs Z n429 => ?_)
                  refine lv_iconst (v := (-1)) hx hb dL_holds_804 (by decide) ?_
                  refine lv_icmp_ne (tgt := 812) hx hb dL_holds_805 (by decide) (fun c430 => ?_) (fun c430 => ?_)
                  · have h := it_f h c430
                    refine lv_iconst (v := 0) hx hb dL_holds_812 (by decide) ?_
                    refine lv_aload_n hx hb dL_holds_813 rfl (lv_at hl 5 rfl) ?_
                    refine lv_iconst (v := 3) hx hb dL_holds_814 (by decide) ?_
                    refine lv_iload hx hb dL_holds_815 (lv_at hl 3 rfl) ?_
                    refine lv_iconst (v := 2) hx hb dL_holds_817 (by decide) ?_
                    refine lv_iconst (v := 0) hx hb dL_holds_818 (by decide) ?_
                    obtain ⟨x431, e432, h⟩ := bd_e h
                    refine o_cS X hA (stb_t _) Z hl.1 (kG_callq hG hN hlt hn (qk_e e432)) cw_L_194 ⟨Nat.le_of_ble_eq_true rfl, Nat.le_of_ble_eq_true rfl⟩ rfl rfl (Nat.le_of_ble_eq_true rfl) ⟨show k + 1 + 1 + 1 + 1 + 1 + 1 + 1 + 1 + 1 + 1 + 1 + 1 ≤ 437 by omega, show 6 * k + 6 + 6 + 6 + 6 + 6 + 6 + 6 + 6 + 6 + 6 + 6 + 6 ≤ 2622 by omega⟩ dL_holds_819 (fun H locs Z n433 => ?_)
                    refine lv_if_ne (tgt := 829) hx hb dL_holds_822 (by decide) (fun c434 => ?_) (fun c434 => ?_)
                    · have h := it_f h c434
                      refine lv_iconst (v := 0) hx hb dL_holds_829 (by decide) ?_
                      refine lv_icmp_ne (tgt := 837) hx hb dL_holds_830 (by decide) (fun cn => absurd (by decide : (0 : Int32) = 0) cn) (fun c435 => ?_)
                      refine lv_iconst (v := 1) hx hb dL_holds_833 (by decide) ?_
                      refine lv_goto (tgt := 838) hx hb dL_holds_834 (by decide) ?_
                      refine W.widen (k := 437) (n := 2622) (by omega) (by omega) ?_
                      exact o_iret X hret Z (Option.some.inj h) rfl dL_holds_838
                    · have h := it_t h c434
                      refine lv_iconst (v := 1) hx hb dL_holds_825 (by decide) ?_
                      refine lv_goto (tgt := 830) hx hb dL_holds_826 (by decide) ?_
                      cases h
                  · have h := it_t h c430
                    refine lv_iconst (v := 1) hx hb dL_holds_808 (by decide) ?_
                    refine lv_goto (tgt := 813) hx hb dL_holds_809 (by decide) ?_
                    refine lv_aload_n hx hb dL_holds_813 rfl (lv_at hl 5 rfl) ?_
                    refine lv_iconst (v := 3) hx hb dL_holds_814 (by decide) ?_
                    refine lv_iload hx hb dL_holds_815 (lv_at hl 3 rfl) ?_
                    refine lv_iconst (v := 2) hx hb dL_holds_817 (by decide) ?_
                    refine lv_iconst (v := 0) hx hb dL_holds_818 (by decide) ?_
                    obtain ⟨x437, e438, h⟩ := bd_e h
                    refine o_cS X hA (stb_t _) Z hl.1 (kG_callq hG hN hlt hn (qk_e e438)) cw_L_194 ⟨Nat.le_of_ble_eq_true rfl, Nat.le_of_ble_eq_true rfl⟩ rfl rfl (Nat.le_of_ble_eq_true rfl) ⟨show k + 1 + 1 + 1 + 1 + 1 + 1 + 1 + 1 + 1 + 1 + 1 + 1 ≤ 437 by omega, show 6 * k + 6 + 6 + 6 + 6 + 6 + 6 + 6 + 6 + 6 + 6 + 6 + 6 ≤ 2622 by omega⟩ dL_holds_819 (fun H locs Z n439 => ?_)
                    refine lv_if_ne (tgt := 829) hx hb dL_holds_822 (by decide) (fun c440 => ?_) (fun c440 => ?_)
                    · have h := it_f h c440
                      refine lv_iconst (v := 0) hx hb dL_holds_829 (by decide) ?_
                      cases h
                    · have h := it_t h c440
                      refine lv_iconst (v := 1) hx hb dL_holds_825 (by decide) ?_
                      refine lv_goto (tgt := 830) hx hb dL_holds_826 (by decide) ?_
                      refine lv_icmp_ne (tgt := 837) hx hb dL_holds_830 (by decide) (fun cn => absurd (by decide : (1 : Int32) = 1) cn) (fun c442 => ?_)
                      refine lv_iconst (v := 1) hx hb dL_holds_833 (by decide) ?_
                      refine lv_goto (tgt := 838) hx hb dL_holds_834 (by decide) ?_
                      refine W.widen (k := 437) (n := 2622) (by omega) (by omega) ?_
                      exact o_iret X hret Z (Option.some.inj h) rfl dL_holds_838
                · have h := it_f h c413
                  refine lv_iload hx hb dL_holds_745 (lv_at hl 0 rfl) ?_
                  refine lv_iconst (v := 4) hx hb dL_holds_747 (by decide) ?_
                  refine lv_icmp_eq (tgt := 762) hx hb dL_holds_748 (by decide) (fun c443 => ?_) (fun c443 => ?_)
                  · have h := it_t h c443
                    refine lv_aload_n hx hb dL_holds_762 rfl (lv_at hl 5 rfl) ?_
                    refine lv_iconst (v := 3) hx hb dL_holds_763 (by decide) ?_
                    refine lv_iload hx hb dL_holds_764 (lv_at hl 3 rfl) ?_
                    refine lv_iconst (v := 0) hx hb dL_holds_766 (by decide) ?_
                    refine lv_iconst (v := 0) hx hb dL_holds_767 (by decide) ?_
                    obtain ⟨x444, e445, h⟩ := bd_e h
                    refine o_cS X hA (stb_t _) Z hl.1 (kG_callq hG hN hlt hn (qk_e e445)) cw_L_194 ⟨Nat.le_of_ble_eq_true rfl, Nat.le_of_ble_eq_true rfl⟩ rfl rfl (Nat.le_of_ble_eq_true rfl) ⟨show k + 1 + 1 + 1 + 1 + 1 + 1 + 1 + 1 ≤ 437 by omega, show 6 * k + 6 + 6 + 6 + 6 + 6 + 6 + 6 + 6 ≤ 2622 by omega⟩ dL_holds_768 (fun H locs Z n446 => ?_)
                    refine lv_iload_n hx hb dL_holds_771 rfl (lv_at hl 8 rfl) ?_
                    obtain ⟨z448, h⟩ := gd_e h
                    refine lv_icmp_ge (tgt := 837) hx hb dL_holds_772 (by decide) (fun cn => absurd cn (of_decide_eq_true z448)) (fun c447 => ?_)
                    refine lv_aload_n hx hb dL_holds_775 rfl (lv_at hl 5 rfl) ?_
                    refine lv_iconst (v := 3) hx hb dL_holds_776 (by decide) ?_
                    refine lv_iload hx hb dL_holds_777 (lv_at hl 3 rfl) ?_
                    refine lv_iconst (v := 3) hx hb dL_holds_779 (by decide) ?_
                    refine lv_iconst (v := 0) hx hb dL_holds_780 (by decide) ?_
                    obtain ⟨x449, e450, h⟩ := bd_e h
                    refine o_cS X hA (stb_t _) Z hl.1 (kG_callq hG hN hlt hn (qk_e e450)) cw_L_194 ⟨Nat.le_of_ble_eq_true rfl, Nat.le_of_ble_eq_true rfl⟩ rfl rfl (Nat.le_of_ble_eq_true rfl) ⟨show k + 1 + 1 + 1 + 1 + 1 + 1 + 1 + 1 + 1 ≤ 437 by omega, show 6 * k + 6 + 6 + 6 + 6 + 6 + 6 + 6 + 6 + 6 ≤ 2622 by omega⟩ dL_holds_781 (fun H locs Z n451 => ?_)
                    refine lv_aload_n hx hb dL_holds_784 rfl (lv_at hl 5 rfl) ?_
                    refine lv_iconst (v := 2) hx hb dL_holds_785 (by decide) ?_
                    refine lv_iconst (v := 2) hx hb dL_holds_786 (by decide) ?_
                    refine lv_iconst (v := 0) hx hb dL_holds_787 (by decide) ?_
                    refine lv_iconst (v := 0) hx hb dL_holds_788 (by decide) ?_
                    obtain ⟨x452, e453, h⟩ := bd_e h
                    refine o_cS X hA (stb_t _) Z hl.1 (kG_callq hG hN hlt hn (qk_e e453)) cw_L_194 ⟨Nat.le_of_ble_eq_true rfl, Nat.le_of_ble_eq_true rfl⟩ rfl rfl (Nat.le_of_ble_eq_true rfl) ⟨show k + 1 + 1 + 1 + 1 + 1 + 1 + 1 + 1 + 1 + 1 ≤ 437 by omega, show 6 * k + 6 + 6 + 6 + 6 + 6 + 6 + 6 + 6 + 6 + 6 ≤ 2622 by omega⟩ dL_holds_789 (fun H locs Z n454 => ?_)
                    obtain ⟨z456, h⟩ := gd_e h
                    refine lv_icmp_gt (tgt := 837) hx hb dL_holds_792 (by decide) (fun cn => absurd cn (of_decide_eq_true z456)) (fun c455 => ?_)
                    refine lv_aload_n hx hb dL_holds_795 rfl (lv_at hl 5 rfl) ?_
                    refine lv_iconst (v := 3) hx hb dL_holds_796 (by decide) ?_
                    refine lv_iload hx hb dL_holds_797 (lv_at hl 3 rfl) ?_
                    refine lv_iconst (v := 3) hx hb dL_holds_799 (by decide) ?_
                    refine lv_iconst (v := 0) hx hb dL_holds_800 (by decide) ?_
                    obtain ⟨x457, e458, h⟩ := bd_e h
                    refine o_cS X hA (stb_t _) Z hl.1 (kG_callq hG hN hlt hn (qk_e e458)) cw_L_194 ⟨Nat.le_of_ble_eq_true rfl, Nat.le_of_ble_eq_true rfl⟩ rfl rfl (Nat.le_of_ble_eq_true rfl) ⟨show k + 1 + 1 + 1 + 1 + 1 + 1 + 1 + 1 + 1 + 1 + 1 ≤ 437 by omega, show 6 * k + 6 + 6 + 6 + 6 + 6 + 6 + 6 + 6 + 6 + 6 + 6 ≤ 2622 by omega⟩ dL_holds_801 (fun H locs Z n459 => ?_)
                    refine lv_iconst (v := (-1)) hx hb dL_holds_804 (by decide) ?_
                    refine lv_icmp_ne (tgt := 812) hx hb dL_holds_805 (by decide) (fun c460 => ?_) (fun c460 => ?_)
                    · have h := it_f h c460
                      refine lv_iconst (v := 0) hx hb dL_holds_812 (by decide) ?_
                      refine lv_aload_n hx hb dL_holds_813 rfl (lv_at hl 5 rfl) ?_
                      refine lv_iconst (v := 3) hx hb dL_holds_814 (by decide) ?_
                      refine lv_iload hx hb dL_holds_815 (lv_at hl 3 rfl) ?_
                      refine lv_iconst (v := 2) hx hb dL_holds_817 (by decide) ?_
                      refine lv_iconst (v := 0) hx hb dL_holds_818 (by decide) ?_
                      obtain ⟨x461, e462, h⟩ := bd_e h
                      refine o_cS X hA (stb_t _) Z hl.1 (kG_callq hG hN hlt hn (qk_e e462)) cw_L_194 ⟨Nat.le_of_ble_eq_true rfl, Nat.le_of_ble_eq_true rfl⟩ rfl rfl (Nat.le_of_ble_eq_true rfl) ⟨show k + 1 + 1 + 1 + 1 + 1 + 1 + 1 + 1 + 1 + 1 + 1 + 1 ≤ 437 by omega, show 6 * k + 6 + 6 + 6 + 6 + 6 + 6 + 6 + 6 + 6 + 6 + 6 + 6 ≤ 2622 by omega⟩ dL_holds_819 (fun H locs Z n463 => ?_)
                      refine lv_if_ne (tgt := 829) hx hb dL_holds_822 (by decide) (fun c464 => ?_) (fun c464 => ?_)
                      · have h := it_f h c464
                        refine lv_iconst (v := 0) hx hb dL_holds_829 (by decide) ?_
                        refine lv_icmp_ne (tgt := 837) hx hb dL_holds_830 (by decide) (fun cn => absurd (by decide : (0 : Int32) = 0) cn) (fun c465 => ?_)
                        refine lv_iconst (v := 1) hx hb dL_holds_833 (by decide) ?_
                        refine lv_goto (tgt := 838) hx hb dL_holds_834 (by decide) ?_
                        refine W.widen (k := 437) (n := 2622) (by omega) (by omega) ?_
                        exact o_iret X hret Z (Option.some.inj h) rfl dL_holds_838
                      · have h := it_t h c464
                        refine lv_iconst (v := 1) hx hb dL_holds_825 (by decide) ?_
                        refine lv_goto (tgt := 830) hx hb dL_holds_826 (by decide) ?_
                        cases h
                    · have h := it_t h c460
                      refine lv_iconst (v := 1) hx hb dL_holds_808 (by decide) ?_
                      refine lv_goto (tgt := 813) hx hb dL_holds_809 (by decide) ?_
                      refine lv_aload_n hx hb dL_holds_813 rfl (lv_at hl 5 rfl) ?_
                      refine lv_iconst (v := 3) hx hb dL_holds_814 (by decide) ?_
                      refine lv_iload hx hb dL_holds_815 (lv_at hl 3 rfl) ?_
                      refine lv_iconst (v := 2) hx hb dL_holds_817 (by decide) ?_
                      refine lv_iconst (v := 0) hx hb dL_holds_818 (by decide) ?_
                      obtain ⟨x467, e468, h⟩ := bd_e h
                      refine o_cS X hA (stb_t _) Z hl.1 (kG_callq hG hN hlt hn (qk_e e468)) cw_L_194 ⟨Nat.le_of_ble_eq_true rfl, Nat.le_of_ble_eq_true rfl⟩ rfl rfl (Nat.le_of_ble_eq_true rfl) ⟨show k + 1 + 1 + 1 + 1 + 1 + 1 + 1 + 1 + 1 + 1 + 1 + 1 ≤ 437 by omega, show 6 * k + 6 + 6 + 6 + 6 + 6 + 6 + 6 + 6 + 6 + 6 + 6 + 6 ≤ 2622 by omega⟩ dL_holds_819 (fun H locs Z n469 => ?_)
                      refine lv_if_ne (tgt := 829) hx hb dL_holds_822 (by decide) (fun c470 => ?_) (fun c470 => ?_)
                      · have h := it_f h c470
                        refine lv_iconst (v := 0) hx hb dL_holds_829 (by decide) ?_
                        cases h
                      · have h := it_t h c470
                        refine lv_iconst (v := 1) hx hb dL_holds_825 (by decide) ?_
                        refine lv_goto (tgt := 830) hx hb dL_holds_826 (by decide) ?_
                        refine lv_icmp_ne (tgt := 837) hx hb dL_holds_830 (by decide) (fun cn => absurd (by decide : (1 : Int32) = 1) cn) (fun c472 => ?_)
                        refine lv_iconst (v := 1) hx hb dL_holds_833 (by decide) ?_
                        refine lv_goto (tgt := 838) hx hb dL_holds_834 (by decide) ?_
                        refine W.widen (k := 437) (n := 2622) (by omega) (by omega) ?_
                        exact o_iret X hret Z (Option.some.inj h) rfl dL_holds_838
                  · have h := it_f h c443
                    refine lv_iload hx hb dL_holds_751 (lv_at hl 0 rfl) ?_
                    refine lv_iconst (v := 2) hx hb dL_holds_753 (by decide) ?_
                    refine lv_icmp_eq (tgt := 762) hx hb dL_holds_754 (by decide) (fun c473 => ?_) (fun c473 => ?_)
                    · have h := it_t h c473
                      refine lv_aload_n hx hb dL_holds_762 rfl (lv_at hl 5 rfl) ?_
                      refine lv_iconst (v := 3) hx hb dL_holds_763 (by decide) ?_
                      refine lv_iload hx hb dL_holds_764 (lv_at hl 3 rfl) ?_
                      refine lv_iconst (v := 0) hx hb dL_holds_766 (by decide) ?_
                      refine lv_iconst (v := 0) hx hb dL_holds_767 (by decide) ?_
                      obtain ⟨x474, e475, h⟩ := bd_e h
                      refine o_cS X hA (stb_t _) Z hl.1 (kG_callq hG hN hlt hn (qk_e e475)) cw_L_194 ⟨Nat.le_of_ble_eq_true rfl, Nat.le_of_ble_eq_true rfl⟩ rfl rfl (Nat.le_of_ble_eq_true rfl) ⟨show k + 1 + 1 + 1 + 1 + 1 + 1 + 1 + 1 ≤ 437 by omega, show 6 * k + 6 + 6 + 6 + 6 + 6 + 6 + 6 + 6 ≤ 2622 by omega⟩ dL_holds_768 (fun H locs Z n476 => ?_)
                      refine lv_iload_n hx hb dL_holds_771 rfl (lv_at hl 8 rfl) ?_
                      obtain ⟨z478, h⟩ := gd_e h
                      refine lv_icmp_ge (tgt := 837) hx hb dL_holds_772 (by decide) (fun cn => absurd cn (of_decide_eq_true z478)) (fun c477 => ?_)
                      refine lv_aload_n hx hb dL_holds_775 rfl (lv_at hl 5 rfl) ?_
                      refine lv_iconst (v := 3) hx hb dL_holds_776 (by decide) ?_
                      refine lv_iload hx hb dL_holds_777 (lv_at hl 3 rfl) ?_
                      refine lv_iconst (v := 3) hx hb dL_holds_779 (by decide) ?_
                      refine lv_iconst (v := 0) hx hb dL_holds_780 (by decide) ?_
                      obtain ⟨x479, e480, h⟩ := bd_e h
                      refine o_cS X hA (stb_t _) Z hl.1 (kG_callq hG hN hlt hn (qk_e e480)) cw_L_194 ⟨Nat.le_of_ble_eq_true rfl, Nat.le_of_ble_eq_true rfl⟩ rfl rfl (Nat.le_of_ble_eq_true rfl) ⟨show k + 1 + 1 + 1 + 1 + 1 + 1 + 1 + 1 + 1 ≤ 437 by omega, show 6 * k + 6 + 6 + 6 + 6 + 6 + 6 + 6 + 6 + 6 ≤ 2622 by omega⟩ dL_holds_781 (fun H locs Z n481 => ?_)
                      refine lv_aload_n hx hb dL_holds_784 rfl (lv_at hl 5 rfl) ?_
                      refine lv_iconst (v := 2) hx hb dL_holds_785 (by decide) ?_
                      refine lv_iconst (v := 2) hx hb dL_holds_786 (by decide) ?_
                      refine lv_iconst (v := 0) hx hb dL_holds_787 (by decide) ?_
                      refine lv_iconst (v := 0) hx hb dL_holds_788 (by decide) ?_
                      obtain ⟨x482, e483, h⟩ := bd_e h
                      refine o_cS X hA (stb_t _) Z hl.1 (kG_callq hG hN hlt hn (qk_e e483)) cw_L_194 ⟨Nat.le_of_ble_eq_true rfl, Nat.le_of_ble_eq_true rfl⟩ rfl rfl (Nat.le_of_ble_eq_true rfl) ⟨show k + 1 + 1 + 1 + 1 + 1 + 1 + 1 + 1 + 1 + 1 ≤ 437 by omega, show 6 * k + 6 + 6 + 6 + 6 + 6 + 6 + 6 + 6 + 6 + 6 ≤ 2622 by omega⟩ dL_holds_789 (fun H locs Z n484 => ?_)
                      obtain ⟨z486, h⟩ := gd_e h
                      refine lv_icmp_gt (tgt := 837) hx hb dL_holds_792 (by decide) (fun cn => absurd cn (of_decide_eq_true z486)) (fun c485 => ?_)
                      refine lv_aload_n hx hb dL_holds_795 rfl (lv_at hl 5 rfl) ?_
                      refine lv_iconst (v := 3) hx hb dL_holds_796 (by decide) ?_
                      refine lv_iload hx hb dL_holds_797 (lv_at hl 3 rfl) ?_
                      refine lv_iconst (v := 3) hx hb dL_holds_799 (by decide) ?_
                      refine lv_iconst (v := 0) hx hb dL_holds_800 (by decide) ?_
                      obtain ⟨x487, e488, h⟩ := bd_e h
                      refine o_cS X hA (stb_t _) Z hl.1 (kG_callq hG hN hlt hn (qk_e e488)) cw_L_194 ⟨Nat.le_of_ble_eq_true rfl, Nat.le_of_ble_eq_true rfl⟩ rfl rfl (Nat.le_of_ble_eq_true rfl) ⟨show k + 1 + 1 + 1 + 1 + 1 + 1 + 1 + 1 + 1 + 1 + 1 ≤ 437 by omega, show 6 * k + 6 + 6 + 6 + 6 + 6 + 6 + 6 + 6 + 6 + 6 + 6 ≤ 2622 by omega⟩ dL_holds_801 (fun H locs Z n489 => ?_)
                      refine lv_iconst (v := (-1)) hx hb dL_holds_804 (by decide) ?_
                      refine lv_icmp_ne (tgt := 812) hx hb dL_holds_805 (by decide) (fun c490 => ?_) (fun c490 => ?_)
                      · have h := it_f h c490
                        refine lv_iconst (v := 0) hx hb dL_holds_812 (by decide) ?_
                        refine lv_aload_n hx hb dL_holds_813 rfl (lv_at hl 5 rfl) ?_
                        refine lv_iconst (v := 3) hx hb dL_holds_814 (by decide) ?_
                        refine lv_iload hx hb dL_holds_815 (lv_at hl 3 rfl) ?_
                        refine lv_iconst (v := 2) hx hb dL_holds_817 (by decide) ?_
                        refine lv_iconst (v := 0) hx hb dL_holds_818 (by decide) ?_
                        obtain ⟨x491, e492, h⟩ := bd_e h
                        refine o_cS X hA (stb_t _) Z hl.1 (kG_callq hG hN hlt hn (qk_e e492)) cw_L_194 ⟨Nat.le_of_ble_eq_true rfl, Nat.le_of_ble_eq_true rfl⟩ rfl rfl (Nat.le_of_ble_eq_true rfl) ⟨show k + 1 + 1 + 1 + 1 + 1 + 1 + 1 + 1 + 1 + 1 + 1 + 1 ≤ 437 by omega, show 6 * k + 6 + 6 + 6 + 6 + 6 + 6 + 6 + 6 + 6 + 6 + 6 + 6 ≤ 2622 by omega⟩ dL_holds_819 (fun H locs Z n493 => ?_)
                        refine lv_if_ne (tgt := 829) hx hb dL_holds_822 (by decide) (fun c494 => ?_) (fun c494 => ?_)
                        · have h := it_f h c494
                          refine lv_iconst (v := 0) hx hb dL_holds_829 (by decide) ?_
                          refine lv_icmp_ne (tgt := 837) hx hb dL_holds_830 (by decide) (fun cn => absurd (by decide : (0 : Int32) = 0) cn) (fun c495 => ?_)
                          refine lv_iconst (v := 1) hx hb dL_holds_833 (by decide) ?_
                          refine lv_goto (tgt := 838) hx hb dL_holds_834 (by decide) ?_
                          refine W.widen (k := 437) (n := 2622) (by omega) (by omega) ?_
                          exact o_iret X hret Z (Option.some.inj h) rfl dL_holds_838
                        · have h := it_t h c494
                          refine lv_iconst (v := 1) hx hb dL_holds_825 (by decide) ?_
                          refine lv_goto (tgt := 830) hx hb dL_holds_826 (by decide) ?_
                          cases h
                      · have h := it_t h c490
                        refine lv_iconst (v := 1) hx hb dL_holds_808 (by decide) ?_
                        refine lv_goto (tgt := 813) hx hb dL_holds_809 (by decide) ?_
                        refine lv_aload_n hx hb dL_holds_813 rfl (lv_at hl 5 rfl) ?_
                        refine lv_iconst (v := 3) hx hb dL_holds_814 (by decide) ?_
                        refine lv_iload hx hb dL_holds_815 (lv_at hl 3 rfl) ?_
                        refine lv_iconst (v := 2) hx hb dL_holds_817 (by decide) ?_
                        refine lv_iconst (v := 0) hx hb dL_holds_818 (by decide) ?_
                        obtain ⟨x497, e498, h⟩ := bd_e h
                        refine o_cS X hA (stb_t _) Z hl.1 (kG_callq hG hN hlt hn (qk_e e498)) cw_L_194 ⟨Nat.le_of_ble_eq_true rfl, Nat.le_of_ble_eq_true rfl⟩ rfl rfl (Nat.le_of_ble_eq_true rfl) ⟨show k + 1 + 1 + 1 + 1 + 1 + 1 + 1 + 1 + 1 + 1 + 1 + 1 ≤ 437 by omega, show 6 * k + 6 + 6 + 6 + 6 + 6 + 6 + 6 + 6 + 6 + 6 + 6 + 6 ≤ 2622 by omega⟩ dL_holds_819 (fun H locs Z n499 => ?_)
                        refine lv_if_ne (tgt := 829) hx hb dL_holds_822 (by decide) (fun c500 => ?_) (fun c500 => ?_)
                        · have h := it_f h c500
                          refine lv_iconst (v := 0) hx hb dL_holds_829 (by decide) ?_
                          cases h
                        · have h := it_t h c500
                          refine lv_iconst (v := 1) hx hb dL_holds_825 (by decide) ?_
                          refine lv_goto (tgt := 830) hx hb dL_holds_826 (by decide) ?_
                          refine lv_icmp_ne (tgt := 837) hx hb dL_holds_830 (by decide) (fun cn => absurd (by decide : (1 : Int32) = 1) cn) (fun c502 => ?_)
                          refine lv_iconst (v := 1) hx hb dL_holds_833 (by decide) ?_
                          refine lv_goto (tgt := 838) hx hb dL_holds_834 (by decide) ?_
                          refine W.widen (k := 437) (n := 2622) (by omega) (by omega) ?_
                          exact o_iret X hret Z (Option.some.inj h) rfl dL_holds_838
                    · have h := it_f h c473
                      refine lv_iload hx hb dL_holds_757 (lv_at hl 1 rfl) ?_
                      obtain ⟨z504, h⟩ := gd_e h
                      refine lv_if_ne (tgt := 837) hx hb dL_holds_759 (by decide) (fun cn => absurd (of_decide_eq_true z504) cn) (fun c503 => ?_)
                      refine lv_aload_n hx hb dL_holds_762 rfl (lv_at hl 5 rfl) ?_
                      refine lv_iconst (v := 3) hx hb dL_holds_763 (by decide) ?_
                      refine lv_iload hx hb dL_holds_764 (lv_at hl 3 rfl) ?_
                      refine lv_iconst (v := 0) hx hb dL_holds_766 (by decide) ?_
                      refine lv_iconst (v := 0) hx hb dL_holds_767 (by decide) ?_
                      obtain ⟨x505, e506, h⟩ := bd_e h
                      refine o_cS X hA (stb_t _) Z hl.1 (kG_callq hG hN hlt hn (qk_e e506)) cw_L_194 ⟨Nat.le_of_ble_eq_true rfl, Nat.le_of_ble_eq_true rfl⟩ rfl rfl (Nat.le_of_ble_eq_true rfl) ⟨show k + 1 + 1 + 1 + 1 + 1 + 1 + 1 + 1 ≤ 437 by omega, show 6 * k + 6 + 6 + 6 + 6 + 6 + 6 + 6 + 6 ≤ 2622 by omega⟩ dL_holds_768 (fun H locs Z n507 => ?_)
                      refine lv_iload_n hx hb dL_holds_771 rfl (lv_at hl 8 rfl) ?_
                      obtain ⟨z509, h⟩ := gd_e h
                      refine lv_icmp_ge (tgt := 837) hx hb dL_holds_772 (by decide) (fun cn => absurd cn (of_decide_eq_true z509)) (fun c508 => ?_)
                      refine lv_aload_n hx hb dL_holds_775 rfl (lv_at hl 5 rfl) ?_
                      refine lv_iconst (v := 3) hx hb dL_holds_776 (by decide) ?_
                      refine lv_iload hx hb dL_holds_777 (lv_at hl 3 rfl) ?_
                      refine lv_iconst (v := 3) hx hb dL_holds_779 (by decide) ?_
                      refine lv_iconst (v := 0) hx hb dL_holds_780 (by decide) ?_
                      obtain ⟨x510, e511, h⟩ := bd_e h
                      refine o_cS X hA (stb_t _) Z hl.1 (kG_callq hG hN hlt hn (qk_e e511)) cw_L_194 ⟨Nat.le_of_ble_eq_true rfl, Nat.le_of_ble_eq_true rfl⟩ rfl rfl (Nat.le_of_ble_eq_true rfl) ⟨show k + 1 + 1 + 1 + 1 + 1 + 1 + 1 + 1 + 1 ≤ 437 by omega, show 6 * k + 6 + 6 + 6 + 6 + 6 + 6 + 6 + 6 + 6 ≤ 2622 by omega⟩ dL_holds_781 (fun H locs Z n512 => ?_)
                      refine lv_aload_n hx hb dL_holds_784 rfl (lv_at hl 5 rfl) ?_
                      refine lv_iconst (v := 2) hx hb dL_holds_785 (by decide) ?_
                      refine lv_iconst (v := 2) hx hb dL_holds_786 (by decide) ?_
                      refine lv_iconst (v := 0) hx hb dL_holds_787 (by decide) ?_
                      refine lv_iconst (v := 0) hx hb dL_holds_788 (by decide) ?_
                      obtain ⟨x513, e514, h⟩ := bd_e h
                      refine o_cS X hA (stb_t _) Z hl.1 (kG_callq hG hN hlt hn (qk_e e514)) cw_L_194 ⟨Nat.le_of_ble_eq_true rfl, Nat.le_of_ble_eq_true rfl⟩ rfl rfl (Nat.le_of_ble_eq_true rfl) ⟨show k + 1 + 1 + 1 + 1 + 1 + 1 + 1 + 1 + 1 + 1 ≤ 437 by omega, show 6 * k + 6 + 6 + 6 + 6 + 6 + 6 + 6 + 6 + 6 + 6 ≤ 2622 by omega⟩ dL_holds_789 (fun H locs Z n515 => ?_)
                      obtain ⟨z517, h⟩ := gd_e h
                      refine lv_icmp_gt (tgt := 837) hx hb dL_holds_792 (by decide) (fun cn => absurd cn (of_decide_eq_true z517)) (fun c516 => ?_)
                      refine lv_aload_n hx hb dL_holds_795 rfl (lv_at hl 5 rfl) ?_
                      refine lv_iconst (v := 3) hx hb dL_holds_796 (by decide) ?_
                      refine lv_iload hx hb dL_holds_797 (lv_at hl 3 rfl) ?_
                      refine lv_iconst (v := 3) hx hb dL_holds_799 (by decide) ?_
                      refine lv_iconst (v := 0) hx hb dL_holds_800 (by decide) ?_
                      obtain ⟨x518, e519, h⟩ := bd_e h
                      refine o_cS X hA (stb_t _) Z hl.1 (kG_callq hG hN hlt hn (qk_e e519)) cw_L_194 ⟨Nat.le_of_ble_eq_true rfl, Nat.le_of_ble_eq_true rfl⟩ rfl rfl (Nat.le_of_ble_eq_true rfl) ⟨show k + 1 + 1 + 1 + 1 + 1 + 1 + 1 + 1 + 1 + 1 + 1 ≤ 437 by omega, show 6 * k + 6 + 6 + 6 + 6 + 6 + 6 + 6 + 6 + 6 + 6 + 6 ≤ 2622 by omega⟩ dL_holds_801 (fun H locs Z n520 => ?_)
                      refine lv_iconst (v := (-1)) hx hb dL_holds_804 (by decide) ?_
                      refine lv_icmp_ne (tgt := 812) hx hb dL_holds_805 (by decide) (fun c521 => ?_) (fun c521 => ?_)
                      · have h := it_f h c521
                        refine lv_iconst (v := 0) hx hb dL_holds_812 (by decide) ?_
                        refine lv_aload_n hx hb dL_holds_813 rfl (lv_at hl 5 rfl) ?_
                        refine lv_iconst (v := 3) hx hb dL_holds_814 (by decide) ?_
                        refine lv_iload hx hb dL_holds_815 (lv_at hl 3 rfl) ?_
                        refine lv_iconst (v := 2) hx hb dL_holds_817 (by decide) ?_
                        refine lv_iconst (v := 0) hx hb dL_holds_818 (by decide) ?_
                        obtain ⟨x522, e523, h⟩ := bd_e h
                        refine o_cS X hA (stb_t _) Z hl.1 (kG_callq hG hN hlt hn (qk_e e523)) cw_L_194 ⟨Nat.le_of_ble_eq_true rfl, Nat.le_of_ble_eq_true rfl⟩ rfl rfl (Nat.le_of_ble_eq_true rfl) ⟨show k + 1 + 1 + 1 + 1 + 1 + 1 + 1 + 1 + 1 + 1 + 1 + 1 ≤ 437 by omega, show 6 * k + 6 + 6 + 6 + 6 + 6 + 6 + 6 + 6 + 6 + 6 + 6 + 6 ≤ 2622 by omega⟩ dL_holds_819 (fun H locs Z n524 => ?_)
                        refine lv_if_ne (tgt := 829) hx hb dL_holds_822 (by decide) (fun c525 => ?_) (fun c525 => ?_)
                        · have h := it_f h c525
                          refine lv_iconst (v := 0) hx hb dL_holds_829 (by decide) ?_
                          refine lv_icmp_ne (tgt := 837) hx hb dL_holds_830 (by decide) (fun cn => absurd (by decide : (0 : Int32) = 0) cn) (fun c526 => ?_)
                          refine lv_iconst (v := 1) hx hb dL_holds_833 (by decide) ?_
                          refine lv_goto (tgt := 838) hx hb dL_holds_834 (by decide) ?_
                          refine W.widen (k := 437) (n := 2622) (by omega) (by omega) ?_
                          exact o_iret X hret Z (Option.some.inj h) rfl dL_holds_838
                        · have h := it_t h c525
                          refine lv_iconst (v := 1) hx hb dL_holds_825 (by decide) ?_
                          refine lv_goto (tgt := 830) hx hb dL_holds_826 (by decide) ?_
                          cases h
                      · have h := it_t h c521
                        refine lv_iconst (v := 1) hx hb dL_holds_808 (by decide) ?_
                        refine lv_goto (tgt := 813) hx hb dL_holds_809 (by decide) ?_
                        refine lv_aload_n hx hb dL_holds_813 rfl (lv_at hl 5 rfl) ?_
                        refine lv_iconst (v := 3) hx hb dL_holds_814 (by decide) ?_
                        refine lv_iload hx hb dL_holds_815 (lv_at hl 3 rfl) ?_
                        refine lv_iconst (v := 2) hx hb dL_holds_817 (by decide) ?_
                        refine lv_iconst (v := 0) hx hb dL_holds_818 (by decide) ?_
                        obtain ⟨x528, e529, h⟩ := bd_e h
                        refine o_cS X hA (stb_t _) Z hl.1 (kG_callq hG hN hlt hn (qk_e e529)) cw_L_194 ⟨Nat.le_of_ble_eq_true rfl, Nat.le_of_ble_eq_true rfl⟩ rfl rfl (Nat.le_of_ble_eq_true rfl) ⟨show k + 1 + 1 + 1 + 1 + 1 + 1 + 1 + 1 + 1 + 1 + 1 + 1 ≤ 437 by omega, show 6 * k + 6 + 6 + 6 + 6 + 6 + 6 + 6 + 6 + 6 + 6 + 6 + 6 ≤ 2622 by omega⟩ dL_holds_819 (fun H locs Z n530 => ?_)
                        refine lv_if_ne (tgt := 829) hx hb dL_holds_822 (by decide) (fun c531 => ?_) (fun c531 => ?_)
                        · have h := it_f h c531
                          refine lv_iconst (v := 0) hx hb dL_holds_829 (by decide) ?_
                          cases h
                        · have h := it_t h c531
                          refine lv_iconst (v := 1) hx hb dL_holds_825 (by decide) ?_
                          refine lv_goto (tgt := 830) hx hb dL_holds_826 (by decide) ?_
                          refine lv_icmp_ne (tgt := 837) hx hb dL_holds_830 (by decide) (fun cn => absurd (by decide : (1 : Int32) = 1) cn) (fun c533 => ?_)
                          refine lv_iconst (v := 1) hx hb dL_holds_833 (by decide) ?_
                          refine lv_goto (tgt := 838) hx hb dL_holds_834 (by decide) ?_
                          refine W.widen (k := 437) (n := 2622) (by omega) (by omega) ?_
                          exact o_iret X hret Z (Option.some.inj h) rfl dL_holds_838
            · have h := it_t h c382
              refine lv_iload hx hb dL_holds_725 (lv_at hl 1 rfl) ?_
              refine lv_bipush (v := 100) hx hb dL_holds_727 (by decide) ?_
              obtain ⟨z535, h⟩ := gd_e h
              refine lv_icmp_ne (tgt := 837) hx hb dL_holds_729 (by decide) (fun cn => absurd (of_decide_eq_true z535) cn) (fun c534 => ?_)
              refine lv_iload hx hb dL_holds_732 (lv_at hl 0 rfl) ?_
              refine lv_iconst (v := 1) hx hb dL_holds_734 (by decide) ?_
              refine lv_icmp_le (tgt := 762) hx hb dL_holds_735 (by decide) (fun c536 => ?_) (fun c536 => ?_)
              · have h := it_t h c536
                refine lv_aload_n hx hb dL_holds_762 rfl (lv_at hl 5 rfl) ?_
                refine lv_iconst (v := 3) hx hb dL_holds_763 (by decide) ?_
                refine lv_iload hx hb dL_holds_764 (lv_at hl 3 rfl) ?_
                refine lv_iconst (v := 0) hx hb dL_holds_766 (by decide) ?_
                refine lv_iconst (v := 0) hx hb dL_holds_767 (by decide) ?_
                obtain ⟨x537, e538, h⟩ := bd_e h
                refine o_cS X hA (stb_t _) Z hl.1 (kG_callq hG hN hlt hn (qk_e e538)) cw_L_194 ⟨Nat.le_of_ble_eq_true rfl, Nat.le_of_ble_eq_true rfl⟩ rfl rfl (Nat.le_of_ble_eq_true rfl) ⟨show k + 1 + 1 + 1 + 1 + 1 + 1 + 1 + 1 ≤ 437 by omega, show 6 * k + 6 + 6 + 6 + 6 + 6 + 6 + 6 + 6 ≤ 2622 by omega⟩ dL_holds_768 (fun H locs Z n539 => ?_)
                refine lv_iload_n hx hb dL_holds_771 rfl (lv_at hl 8 rfl) ?_
                obtain ⟨z541, h⟩ := gd_e h
                refine lv_icmp_ge (tgt := 837) hx hb dL_holds_772 (by decide) (fun cn => absurd cn (of_decide_eq_true z541)) (fun c540 => ?_)
                refine lv_aload_n hx hb dL_holds_775 rfl (lv_at hl 5 rfl) ?_
                refine lv_iconst (v := 3) hx hb dL_holds_776 (by decide) ?_
                refine lv_iload hx hb dL_holds_777 (lv_at hl 3 rfl) ?_
                refine lv_iconst (v := 3) hx hb dL_holds_779 (by decide) ?_
                refine lv_iconst (v := 0) hx hb dL_holds_780 (by decide) ?_
                obtain ⟨x542, e543, h⟩ := bd_e h
                refine o_cS X hA (stb_t _) Z hl.1 (kG_callq hG hN hlt hn (qk_e e543)) cw_L_194 ⟨Nat.le_of_ble_eq_true rfl, Nat.le_of_ble_eq_true rfl⟩ rfl rfl (Nat.le_of_ble_eq_true rfl) ⟨show k + 1 + 1 + 1 + 1 + 1 + 1 + 1 + 1 + 1 ≤ 437 by omega, show 6 * k + 6 + 6 + 6 + 6 + 6 + 6 + 6 + 6 + 6 ≤ 2622 by omega⟩ dL_holds_781 (fun H locs Z n544 => ?_)
                refine lv_aload_n hx hb dL_holds_784 rfl (lv_at hl 5 rfl) ?_
                refine lv_iconst (v := 2) hx hb dL_holds_785 (by decide) ?_
                refine lv_iconst (v := 2) hx hb dL_holds_786 (by decide) ?_
                refine lv_iconst (v := 0) hx hb dL_holds_787 (by decide) ?_
                refine lv_iconst (v := 0) hx hb dL_holds_788 (by decide) ?_
                obtain ⟨x545, e546, h⟩ := bd_e h
                refine o_cS X hA (stb_t _) Z hl.1 (kG_callq hG hN hlt hn (qk_e e546)) cw_L_194 ⟨Nat.le_of_ble_eq_true rfl, Nat.le_of_ble_eq_true rfl⟩ rfl rfl (Nat.le_of_ble_eq_true rfl) ⟨show k + 1 + 1 + 1 + 1 + 1 + 1 + 1 + 1 + 1 + 1 ≤ 437 by omega, show 6 * k + 6 + 6 + 6 + 6 + 6 + 6 + 6 + 6 + 6 + 6 ≤ 2622 by omega⟩ dL_holds_789 (fun H locs Z n547 => ?_)
                obtain ⟨z549, h⟩ := gd_e h
                refine lv_icmp_gt (tgt := 837) hx hb dL_holds_792 (by decide) (fun cn => absurd cn (of_decide_eq_true z549)) (fun c548 => ?_)
                refine lv_aload_n hx hb dL_holds_795 rfl (lv_at hl 5 rfl) ?_
                refine lv_iconst (v := 3) hx hb dL_holds_796 (by decide) ?_
                refine lv_iload hx hb dL_holds_797 (lv_at hl 3 rfl) ?_
                refine lv_iconst (v := 3) hx hb dL_holds_799 (by decide) ?_
                refine lv_iconst (v := 0) hx hb dL_holds_800 (by decide) ?_
                obtain ⟨x550, e551, h⟩ := bd_e h
                refine o_cS X hA (stb_t _) Z hl.1 (kG_callq hG hN hlt hn (qk_e e551)) cw_L_194 ⟨Nat.le_of_ble_eq_true rfl, Nat.le_of_ble_eq_true rfl⟩ rfl rfl (Nat.le_of_ble_eq_true rfl) ⟨show k + 1 + 1 + 1 + 1 + 1 + 1 + 1 + 1 + 1 + 1 + 1 ≤ 437 by omega, show 6 * k + 6 + 6 + 6 + 6 + 6 + 6 + 6 + 6 + 6 + 6 + 6 ≤ 2622 by omega⟩ dL_holds_801 (fun H locs Z n552 => ?_)
                refine lv_iconst (v := (-1)) hx hb dL_holds_804 (by decide) ?_
                refine lv_icmp_ne (tgt := 812) hx hb dL_holds_805 (by decide) (fun c553 => ?_) (fun c553 => ?_)
                · have h := it_f h c553
                  refine lv_iconst (v := 0) hx hb dL_holds_812 (by decide) ?_
                  refine lv_aload_n hx hb dL_holds_813 rfl (lv_at hl 5 rfl) ?_
                  refine lv_iconst (v := 3) hx hb dL_holds_814 (by decide) ?_
                  refine lv_iload hx hb dL_holds_815 (lv_at hl 3 rfl) ?_
                  refine lv_iconst (v := 2) hx hb dL_holds_817 (by decide) ?_
                  refine lv_iconst (v := 0) hx hb dL_holds_818 (by decide) ?_
                  obtain ⟨x554, e555, h⟩ := bd_e h
                  refine o_cS X hA (stb_t _) Z hl.1 (kG_callq hG hN hlt hn (qk_e e555)) cw_L_194 ⟨Nat.le_of_ble_eq_true rfl, Nat.le_of_ble_eq_true rfl⟩ rfl rfl (Nat.le_of_ble_eq_true rfl) ⟨show k + 1 + 1 + 1 + 1 + 1 + 1 + 1 + 1 + 1 + 1 + 1 + 1 ≤ 437 by omega, show 6 * k + 6 + 6 + 6 + 6 + 6 + 6 + 6 + 6 + 6 + 6 + 6 + 6 ≤ 2622 by omega⟩ dL_holds_819 (fun H locs Z n556 => ?_)
                  refine lv_if_ne (tgt := 829) hx hb dL_holds_822 (by decide) (fun c557 => ?_) (fun c557 => ?_)
                  · have h := it_f h c557
                    refine lv_iconst (v := 0) hx hb dL_holds_829 (by decide) ?_
                    refine lv_icmp_ne (tgt := 837) hx hb dL_holds_830 (by decide) (fun cn => absurd (by decide : (0 : Int32) = 0) cn) (fun c558 => ?_)
                    refine lv_iconst (v := 1) hx hb dL_holds_833 (by decide) ?_
                    refine lv_goto (tgt := 838) hx hb dL_holds_834 (by decide) ?_
                    refine W.widen (k := 437) (n := 2622) (by omega) (by omega) ?_
                    exact o_iret X hret Z (Option.some.inj h) rfl dL_holds_838
                  · have h := it_t h c557
                    refine lv_iconst (v := 1) hx hb dL_holds_825 (by decide) ?_
                    refine lv_goto (tgt := 830) hx hb dL_holds_826 (by decide) ?_
                    cases h
                · have h := it_t h c553
                  refine lv_iconst (v := 1) hx hb dL_holds_808 (by decide) ?_
                  refine lv_goto (tgt := 813) hx hb dL_holds_809 (by decide) ?_
                  refine lv_aload_n hx hb dL_holds_813 rfl (lv_at hl 5 rfl) ?_
                  refine lv_iconst (v := 3) hx hb dL_holds_814 (by decide) ?_
                  refine lv_iload hx hb dL_holds_815 (lv_at hl 3 rfl) ?_
                  refine lv_iconst (v := 2) hx hb dL_holds_817 (by decide) ?_
                  refine lv_iconst (v := 0) hx hb dL_holds_818 (by decide) ?_
                  obtain ⟨x560, e561, h⟩ := bd_e h
                  refine o_cS X hA (stb_t _) Z hl.1 (kG_callq hG hN hlt hn (qk_e e561)) cw_L_194 ⟨Nat.le_of_ble_eq_true rfl, Nat.le_of_ble_eq_true rfl⟩ rfl rfl (Nat.le_of_ble_eq_true rfl) ⟨show k + 1 + 1 + 1 + 1 + 1 + 1 + 1 + 1 + 1 + 1 + 1 + 1 ≤ 437 by omega, show 6 * k + 6 + 6 + 6 + 6 + 6 + 6 + 6 + 6 + 6 + 6 + 6 + 6 ≤ 2622 by omega⟩ dL_holds_819 (fun H locs Z n562 => ?_)
                  refine lv_if_ne (tgt := 829) hx hb dL_holds_822 (by decide) (fun c563 => ?_) (fun c563 => ?_)
                  · have h := it_f h c563
                    refine lv_iconst (v := 0) hx hb dL_holds_829 (by decide) ?_
                    cases h
                  · have h := it_t h c563
                    refine lv_iconst (v := 1) hx hb dL_holds_825 (by decide) ?_
                    refine lv_goto (tgt := 830) hx hb dL_holds_826 (by decide) ?_
                    refine lv_icmp_ne (tgt := 837) hx hb dL_holds_830 (by decide) (fun cn => absurd (by decide : (1 : Int32) = 1) cn) (fun c565 => ?_)
                    refine lv_iconst (v := 1) hx hb dL_holds_833 (by decide) ?_
                    refine lv_goto (tgt := 838) hx hb dL_holds_834 (by decide) ?_
                    refine W.widen (k := 437) (n := 2622) (by omega) (by omega) ?_
                    exact o_iret X hret Z (Option.some.inj h) rfl dL_holds_838
              · have h := it_f h c536
                refine lv_iload hx hb dL_holds_738 (lv_at hl 0 rfl) ?_
                refine lv_bipush (v := 7) hx hb dL_holds_740 (by decide) ?_
                refine lv_icmp_eq (tgt := 762) hx hb dL_holds_742 (by decide) (fun c566 => ?_) (fun c566 => ?_)
                · have h := it_t h c566
                  refine lv_aload_n hx hb dL_holds_762 rfl (lv_at hl 5 rfl) ?_
                  refine lv_iconst (v := 3) hx hb dL_holds_763 (by decide) ?_
                  refine lv_iload hx hb dL_holds_764 (lv_at hl 3 rfl) ?_
                  refine lv_iconst (v := 0) hx hb dL_holds_766 (by decide) ?_
                  refine lv_iconst (v := 0) hx hb dL_holds_767 (by decide) ?_
                  obtain ⟨x567, e568, h⟩ := bd_e h
                  refine o_cS X hA (stb_t _) Z hl.1 (kG_callq hG hN hlt hn (qk_e e568)) cw_L_194 ⟨Nat.le_of_ble_eq_true rfl, Nat.le_of_ble_eq_true rfl⟩ rfl rfl (Nat.le_of_ble_eq_true rfl) ⟨show k + 1 + 1 + 1 + 1 + 1 + 1 + 1 + 1 ≤ 437 by omega, show 6 * k + 6 + 6 + 6 + 6 + 6 + 6 + 6 + 6 ≤ 2622 by omega⟩ dL_holds_768 (fun H locs Z n569 => ?_)
                  refine lv_iload_n hx hb dL_holds_771 rfl (lv_at hl 8 rfl) ?_
                  obtain ⟨z571, h⟩ := gd_e h
                  refine lv_icmp_ge (tgt := 837) hx hb dL_holds_772 (by decide) (fun cn => absurd cn (of_decide_eq_true z571)) (fun c570 => ?_)
                  refine lv_aload_n hx hb dL_holds_775 rfl (lv_at hl 5 rfl) ?_
                  refine lv_iconst (v := 3) hx hb dL_holds_776 (by decide) ?_
                  refine lv_iload hx hb dL_holds_777 (lv_at hl 3 rfl) ?_
                  refine lv_iconst (v := 3) hx hb dL_holds_779 (by decide) ?_
                  refine lv_iconst (v := 0) hx hb dL_holds_780 (by decide) ?_
                  obtain ⟨x572, e573, h⟩ := bd_e h
                  refine o_cS X hA (stb_t _) Z hl.1 (kG_callq hG hN hlt hn (qk_e e573)) cw_L_194 ⟨Nat.le_of_ble_eq_true rfl, Nat.le_of_ble_eq_true rfl⟩ rfl rfl (Nat.le_of_ble_eq_true rfl) ⟨show k + 1 + 1 + 1 + 1 + 1 + 1 + 1 + 1 + 1 ≤ 437 by omega, show 6 * k + 6 + 6 + 6 + 6 + 6 + 6 + 6 + 6 + 6 ≤ 2622 by omega⟩ dL_holds_781 (fun H locs Z n574 => ?_)
                  refine lv_aload_n hx hb dL_holds_784 rfl (lv_at hl 5 rfl) ?_
                  refine lv_iconst (v := 2) hx hb dL_holds_785 (by decide) ?_
                  refine lv_iconst (v := 2) hx hb dL_holds_786 (by decide) ?_
                  refine lv_iconst (v := 0) hx hb dL_holds_787 (by decide) ?_
                  refine lv_iconst (v := 0) hx hb dL_holds_788 (by decide) ?_
                  obtain ⟨x575, e576, h⟩ := bd_e h
                  refine o_cS X hA (stb_t _) Z hl.1 (kG_callq hG hN hlt hn (qk_e e576)) cw_L_194 ⟨Nat.le_of_ble_eq_true rfl, Nat.le_of_ble_eq_true rfl⟩ rfl rfl (Nat.le_of_ble_eq_true rfl) ⟨show k + 1 + 1 + 1 + 1 + 1 + 1 + 1 + 1 + 1 + 1 ≤ 437 by omega, show 6 * k + 6 + 6 + 6 + 6 + 6 + 6 + 6 + 6 + 6 + 6 ≤ 2622 by omega⟩ dL_holds_789 (fun H locs Z n577 => ?_)
                  obtain ⟨z579, h⟩ := gd_e h
                  refine lv_icmp_gt (tgt := 837) hx hb dL_holds_792 (by decide) (fun cn => absurd cn (of_decide_eq_true z579)) (fun c578 => ?_)
                  refine lv_aload_n hx hb dL_holds_795 rfl (lv_at hl 5 rfl) ?_
                  refine lv_iconst (v := 3) hx hb dL_holds_796 (by decide) ?_
                  refine lv_iload hx hb dL_holds_797 (lv_at hl 3 rfl) ?_
                  refine lv_iconst (v := 3) hx hb dL_holds_799 (by decide) ?_
                  refine lv_iconst (v := 0) hx hb dL_holds_800 (by decide) ?_
                  obtain ⟨x580, e581, h⟩ := bd_e h
                  refine o_cS X hA (stb_t _) Z hl.1 (kG_callq hG hN hlt hn (qk_e e581)) cw_L_194 ⟨Nat.le_of_ble_eq_true rfl, Nat.le_of_ble_eq_true rfl⟩ rfl rfl (Nat.le_of_ble_eq_true rfl) ⟨show k + 1 + 1 + 1 + 1 + 1 + 1 + 1 + 1 + 1 + 1 + 1 ≤ 437 by omega, show 6 * k + 6 + 6 + 6 + 6 + 6 + 6 + 6 + 6 + 6 + 6 + 6 ≤ 2622 by omega⟩ dL_holds_801 (fun H locs Z n582 => ?_)
                  refine lv_iconst (v := (-1)) hx hb dL_holds_804 (by decide) ?_
                  refine lv_icmp_ne (tgt := 812) hx hb dL_holds_805 (by decide) (fun c583 => ?_) (fun c583 => ?_)
                  · have h := it_f h c583
                    refine lv_iconst (v := 0) hx hb dL_holds_812 (by decide) ?_
                    refine lv_aload_n hx hb dL_holds_813 rfl (lv_at hl 5 rfl) ?_
                    refine lv_iconst (v := 3) hx hb dL_holds_814 (by decide) ?_
                    refine lv_iload hx hb dL_holds_815 (lv_at hl 3 rfl) ?_
                    refine lv_iconst (v := 2) hx hb dL_holds_817 (by decide) ?_
                    refine lv_iconst (v := 0) hx hb dL_holds_818 (by decide) ?_
                    obtain ⟨x584, e585, h⟩ := bd_e h
                    refine o_cS X hA (stb_t _) Z hl.1 (kG_callq hG hN hlt hn (qk_e e585)) cw_L_194 ⟨Nat.le_of_ble_eq_true rfl, Nat.le_of_ble_eq_true rfl⟩ rfl rfl (Nat.le_of_ble_eq_true rfl) ⟨show k + 1 + 1 + 1 + 1 + 1 + 1 + 1 + 1 + 1 + 1 + 1 + 1 ≤ 437 by omega, show 6 * k + 6 + 6 + 6 + 6 + 6 + 6 + 6 + 6 + 6 + 6 + 6 + 6 ≤ 2622 by omega⟩ dL_holds_819 (fun H locs Z n586 => ?_)
                    refine lv_if_ne (tgt := 829) hx hb dL_holds_822 (by decide) (fun c587 => ?_) (fun c587 => ?_)
                    · have h := it_f h c587
                      refine lv_iconst (v := 0) hx hb dL_holds_829 (by decide) ?_
                      refine lv_icmp_ne (tgt := 837) hx hb dL_holds_830 (by decide) (fun cn => absurd (by decide : (0 : Int32) = 0) cn) (fun c588 => ?_)
                      refine lv_iconst (v := 1) hx hb dL_holds_833 (by decide) ?_
                      refine lv_goto (tgt := 838) hx hb dL_holds_834 (by decide) ?_
                      refine W.widen (k := 437) (n := 2622) (by omega) (by omega) ?_
                      exact o_iret X hret Z (Option.some.inj h) rfl dL_holds_838
                    · have h := it_t h c587
                      refine lv_iconst (v := 1) hx hb dL_holds_825 (by decide) ?_
                      refine lv_goto (tgt := 830) hx hb dL_holds_826 (by decide) ?_
                      cases h
                  · have h := it_t h c583
                    refine lv_iconst (v := 1) hx hb dL_holds_808 (by decide) ?_
                    refine lv_goto (tgt := 813) hx hb dL_holds_809 (by decide) ?_
                    refine lv_aload_n hx hb dL_holds_813 rfl (lv_at hl 5 rfl) ?_
                    refine lv_iconst (v := 3) hx hb dL_holds_814 (by decide) ?_
                    refine lv_iload hx hb dL_holds_815 (lv_at hl 3 rfl) ?_
                    refine lv_iconst (v := 2) hx hb dL_holds_817 (by decide) ?_
                    refine lv_iconst (v := 0) hx hb dL_holds_818 (by decide) ?_
                    obtain ⟨x590, e591, h⟩ := bd_e h
                    refine o_cS X hA (stb_t _) Z hl.1 (kG_callq hG hN hlt hn (qk_e e591)) cw_L_194 ⟨Nat.le_of_ble_eq_true rfl, Nat.le_of_ble_eq_true rfl⟩ rfl rfl (Nat.le_of_ble_eq_true rfl) ⟨show k + 1 + 1 + 1 + 1 + 1 + 1 + 1 + 1 + 1 + 1 + 1 + 1 ≤ 437 by omega, show 6 * k + 6 + 6 + 6 + 6 + 6 + 6 + 6 + 6 + 6 + 6 + 6 + 6 ≤ 2622 by omega⟩ dL_holds_819 (fun H locs Z n592 => ?_)
                    refine lv_if_ne (tgt := 829) hx hb dL_holds_822 (by decide) (fun c593 => ?_) (fun c593 => ?_)
                    · have h := it_f h c593
                      refine lv_iconst (v := 0) hx hb dL_holds_829 (by decide) ?_
                      cases h
                    · have h := it_t h c593
                      refine lv_iconst (v := 1) hx hb dL_holds_825 (by decide) ?_
                      refine lv_goto (tgt := 830) hx hb dL_holds_826 (by decide) ?_
                      refine lv_icmp_ne (tgt := 837) hx hb dL_holds_830 (by decide) (fun cn => absurd (by decide : (1 : Int32) = 1) cn) (fun c595 => ?_)
                      refine lv_iconst (v := 1) hx hb dL_holds_833 (by decide) ?_
                      refine lv_goto (tgt := 838) hx hb dL_holds_834 (by decide) ?_
                      refine W.widen (k := 437) (n := 2622) (by omega) (by omega) ?_
                      exact o_iret X hret Z (Option.some.inj h) rfl dL_holds_838
                · have h := it_f h c566
                  refine lv_iload hx hb dL_holds_745 (lv_at hl 0 rfl) ?_
                  refine lv_iconst (v := 4) hx hb dL_holds_747 (by decide) ?_
                  refine lv_icmp_eq (tgt := 762) hx hb dL_holds_748 (by decide) (fun c596 => ?_) (fun c596 => ?_)
                  · have h := it_t h c596
                    refine lv_aload_n hx hb dL_holds_762 rfl (lv_at hl 5 rfl) ?_
                    refine lv_iconst (v := 3) hx hb dL_holds_763 (by decide) ?_
                    refine lv_iload hx hb dL_holds_764 (lv_at hl 3 rfl) ?_
                    refine lv_iconst (v := 0) hx hb dL_holds_766 (by decide) ?_
                    refine lv_iconst (v := 0) hx hb dL_holds_767 (by decide) ?_
                    obtain ⟨x597, e598, h⟩ := bd_e h
                    refine o_cS X hA (stb_t _) Z hl.1 (kG_callq hG hN hlt hn (qk_e e598)) cw_L_194 ⟨Nat.le_of_ble_eq_true rfl, Nat.le_of_ble_eq_true rfl⟩ rfl rfl (Nat.le_of_ble_eq_true rfl) ⟨show k + 1 + 1 + 1 + 1 + 1 + 1 + 1 + 1 ≤ 437 by omega, show 6 * k + 6 + 6 + 6 + 6 + 6 + 6 + 6 + 6 ≤ 2622 by omega⟩ dL_holds_768 (fun H locs Z n599 => ?_)
                    refine lv_iload_n hx hb dL_holds_771 rfl (lv_at hl 8 rfl) ?_
                    obtain ⟨z601, h⟩ := gd_e h
                    refine lv_icmp_ge (tgt := 837) hx hb dL_holds_772 (by decide) (fun cn => absurd cn (of_decide_eq_true z601)) (fun c600 => ?_)
                    refine lv_aload_n hx hb dL_holds_775 rfl (lv_at hl 5 rfl) ?_
                    refine lv_iconst (v := 3) hx hb dL_holds_776 (by decide) ?_
                    refine lv_iload hx hb dL_holds_777 (lv_at hl 3 rfl) ?_
                    refine lv_iconst (v := 3) hx hb dL_holds_779 (by decide) ?_
                    refine lv_iconst (v := 0) hx hb dL_holds_780 (by decide) ?_
                    obtain ⟨x602, e603, h⟩ := bd_e h
                    refine o_cS X hA (stb_t _) Z hl.1 (kG_callq hG hN hlt hn (qk_e e603)) cw_L_194 ⟨Nat.le_of_ble_eq_true rfl, Nat.le_of_ble_eq_true rfl⟩ rfl rfl (Nat.le_of_ble_eq_true rfl) ⟨show k + 1 + 1 + 1 + 1 + 1 + 1 + 1 + 1 + 1 ≤ 437 by omega, show 6 * k + 6 + 6 + 6 + 6 + 6 + 6 + 6 + 6 + 6 ≤ 2622 by omega⟩ dL_holds_781 (fun H locs Z n604 => ?_)
                    refine lv_aload_n hx hb dL_holds_784 rfl (lv_at hl 5 rfl) ?_
                    refine lv_iconst (v := 2) hx hb dL_holds_785 (by decide) ?_
                    refine lv_iconst (v := 2) hx hb dL_holds_786 (by decide) ?_
                    refine lv_iconst (v := 0) hx hb dL_holds_787 (by decide) ?_
                    refine lv_iconst (v := 0) hx hb dL_holds_788 (by decide) ?_
                    obtain ⟨x605, e606, h⟩ := bd_e h
                    refine o_cS X hA (stb_t _) Z hl.1 (kG_callq hG hN hlt hn (qk_e e606)) cw_L_194 ⟨Nat.le_of_ble_eq_true rfl, Nat.le_of_ble_eq_true rfl⟩ rfl rfl (Nat.le_of_ble_eq_true rfl) ⟨show k + 1 + 1 + 1 + 1 + 1 + 1 + 1 + 1 + 1 + 1 ≤ 437 by omega, show 6 * k + 6 + 6 + 6 + 6 + 6 + 6 + 6 + 6 + 6 + 6 ≤ 2622 by omega⟩ dL_holds_789 (fun H locs Z n607 => ?_)
                    obtain ⟨z609, h⟩ := gd_e h
                    refine lv_icmp_gt (tgt := 837) hx hb dL_holds_792 (by decide) (fun cn => absurd cn (of_decide_eq_true z609)) (fun c608 => ?_)
                    refine lv_aload_n hx hb dL_holds_795 rfl (lv_at hl 5 rfl) ?_
                    refine lv_iconst (v := 3) hx hb dL_holds_796 (by decide) ?_
                    refine lv_iload hx hb dL_holds_797 (lv_at hl 3 rfl) ?_
                    refine lv_iconst (v := 3) hx hb dL_holds_799 (by decide) ?_
                    refine lv_iconst (v := 0) hx hb dL_holds_800 (by decide) ?_
                    obtain ⟨x610, e611, h⟩ := bd_e h
                    refine o_cS X hA (stb_t _) Z hl.1 (kG_callq hG hN hlt hn (qk_e e611)) cw_L_194 ⟨Nat.le_of_ble_eq_true rfl, Nat.le_of_ble_eq_true rfl⟩ rfl rfl (Nat.le_of_ble_eq_true rfl) ⟨show k + 1 + 1 + 1 + 1 + 1 + 1 + 1 + 1 + 1 + 1 + 1 ≤ 437 by omega, show 6 * k + 6 + 6 + 6 + 6 + 6 + 6 + 6 + 6 + 6 + 6 + 6 ≤ 2622 by omega⟩ dL_holds_801 (fun H locs Z n612 => ?_)
                    refine lv_iconst (v := (-1)) hx hb dL_holds_804 (by decide) ?_
                    refine lv_icmp_ne (tgt := 812) hx hb dL_holds_805 (by decide) (fun c613 => ?_) (fun c613 => ?_)
                    · have h := it_f h c613
                      refine lv_iconst (v := 0) hx hb dL_holds_812 (by decide) ?_
                      refine lv_aload_n hx hb dL_holds_813 rfl (lv_at hl 5 rfl) ?_
                      refine lv_iconst (v := 3) hx hb dL_holds_814 (by decide) ?_
                      refine lv_iload hx hb dL_holds_815 (lv_at hl 3 rfl) ?_
                      refine lv_iconst (v := 2) hx hb dL_holds_817 (by decide) ?_
                      refine lv_iconst (v := 0) hx hb dL_holds_818 (by decide) ?_
                      obtain ⟨x614, e615, h⟩ := bd_e h
                      refine o_cS X hA (stb_t _) Z hl.1 (kG_callq hG hN hlt hn (qk_e e615)) cw_L_194 ⟨Nat.le_of_ble_eq_true rfl, Nat.le_of_ble_eq_true rfl⟩ rfl rfl (Nat.le_of_ble_eq_true rfl) ⟨show k + 1 + 1 + 1 + 1 + 1 + 1 + 1 + 1 + 1 + 1 + 1 + 1 ≤ 437 by omega, show 6 * k + 6 + 6 + 6 + 6 + 6 + 6 + 6 + 6 + 6 + 6 + 6 + 6 ≤ 2622 by omega⟩ dL_holds_819 (fun H locs Z n616 => ?_)
                      refine lv_if_ne (tgt := 829) hx hb dL_holds_822 (by decide) (fun c617 => ?_) (fun c617 => ?_)
                      · have h := it_f h c617
                        refine lv_iconst (v := 0) hx hb dL_holds_829 (by decide) ?_
                        refine lv_icmp_ne (tgt := 837) hx hb dL_holds_830 (by decide) (fun cn => absurd (by decide : (0 : Int32) = 0) cn) (fun c618 => ?_)
                        refine lv_iconst (v := 1) hx hb dL_holds_833 (by decide) ?_
                        refine lv_goto (tgt := 838) hx hb dL_holds_834 (by decide) ?_
                        refine W.widen (k := 437) (n := 2622) (by omega) (by omega) ?_
                        exact o_iret X hret Z (Option.some.inj h) rfl dL_holds_838
                      · have h := it_t h c617
                        refine lv_iconst (v := 1) hx hb dL_holds_825 (by decide) ?_
                        refine lv_goto (tgt := 830) hx hb dL_holds_826 (by decide) ?_
                        cases h
                    · have h := it_t h c613
                      refine lv_iconst (v := 1) hx hb dL_holds_808 (by decide) ?_
                      refine lv_goto (tgt := 813) hx hb dL_holds_809 (by decide) ?_
                      refine lv_aload_n hx hb dL_holds_813 rfl (lv_at hl 5 rfl) ?_
                      refine lv_iconst (v := 3) hx hb dL_holds_814 (by decide) ?_
                      refine lv_iload hx hb dL_holds_815 (lv_at hl 3 rfl) ?_
                      refine lv_iconst (v := 2) hx hb dL_holds_817 (by decide) ?_
                      refine lv_iconst (v := 0) hx hb dL_holds_818 (by decide) ?_
                      obtain ⟨x620, e621, h⟩ := bd_e h
                      refine o_cS X hA (stb_t _) Z hl.1 (kG_callq hG hN hlt hn (qk_e e621)) cw_L_194 ⟨Nat.le_of_ble_eq_true rfl, Nat.le_of_ble_eq_true rfl⟩ rfl rfl (Nat.le_of_ble_eq_true rfl) ⟨show k + 1 + 1 + 1 + 1 + 1 + 1 + 1 + 1 + 1 + 1 + 1 + 1 ≤ 437 by omega, show 6 * k + 6 + 6 + 6 + 6 + 6 + 6 + 6 + 6 + 6 + 6 + 6 + 6 ≤ 2622 by omega⟩ dL_holds_819 (fun H locs Z n622 => ?_)
                      refine lv_if_ne (tgt := 829) hx hb dL_holds_822 (by decide) (fun c623 => ?_) (fun c623 => ?_)
                      · have h := it_f h c623
                        refine lv_iconst (v := 0) hx hb dL_holds_829 (by decide) ?_
                        cases h
                      · have h := it_t h c623
                        refine lv_iconst (v := 1) hx hb dL_holds_825 (by decide) ?_
                        refine lv_goto (tgt := 830) hx hb dL_holds_826 (by decide) ?_
                        refine lv_icmp_ne (tgt := 837) hx hb dL_holds_830 (by decide) (fun cn => absurd (by decide : (1 : Int32) = 1) cn) (fun c625 => ?_)
                        refine lv_iconst (v := 1) hx hb dL_holds_833 (by decide) ?_
                        refine lv_goto (tgt := 838) hx hb dL_holds_834 (by decide) ?_
                        refine W.widen (k := 437) (n := 2622) (by omega) (by omega) ?_
                        exact o_iret X hret Z (Option.some.inj h) rfl dL_holds_838
                  · have h := it_f h c596
                    refine lv_iload hx hb dL_holds_751 (lv_at hl 0 rfl) ?_
                    refine lv_iconst (v := 2) hx hb dL_holds_753 (by decide) ?_
                    refine lv_icmp_eq (tgt := 762) hx hb dL_holds_754 (by decide) (fun c626 => ?_) (fun c626 => ?_)
                    · have h := it_t h c626
                      refine lv_aload_n hx hb dL_holds_762 rfl (lv_at hl 5 rfl) ?_
                      refine lv_iconst (v := 3) hx hb dL_holds_763 (by decide) ?_
                      refine lv_iload hx hb dL_holds_764 (lv_at hl 3 rfl) ?_
                      refine lv_iconst (v := 0) hx hb dL_holds_766 (by decide) ?_
                      refine lv_iconst (v := 0) hx hb dL_holds_767 (by decide) ?_
                      obtain ⟨x627, e628, h⟩ := bd_e h
                      refine o_cS X hA (stb_t _) Z hl.1 (kG_callq hG hN hlt hn (qk_e e628)) cw_L_194 ⟨Nat.le_of_ble_eq_true rfl, Nat.le_of_ble_eq_true rfl⟩ rfl rfl (Nat.le_of_ble_eq_true rfl) ⟨show k + 1 + 1 + 1 + 1 + 1 + 1 + 1 + 1 ≤ 437 by omega, show 6 * k + 6 + 6 + 6 + 6 + 6 + 6 + 6 + 6 ≤ 2622 by omega⟩ dL_holds_768 (fun H locs Z n629 => ?_)
                      refine lv_iload_n hx hb dL_holds_771 rfl (lv_at hl 8 rfl) ?_
                      obtain ⟨z631, h⟩ := gd_e h
                      refine lv_icmp_ge (tgt := 837) hx hb dL_holds_772 (by decide) (fun cn => absurd cn (of_decide_eq_true z631)) (fun c630 => ?_)
                      refine lv_aload_n hx hb dL_holds_775 rfl (lv_at hl 5 rfl) ?_
                      refine lv_iconst (v := 3) hx hb dL_holds_776 (by decide) ?_
                      refine lv_iload hx hb dL_holds_777 (lv_at hl 3 rfl) ?_
                      refine lv_iconst (v := 3) hx hb dL_holds_779 (by decide) ?_
                      refine lv_iconst (v := 0) hx hb dL_holds_780 (by decide) ?_
                      obtain ⟨x632, e633, h⟩ := bd_e h
                      refine o_cS X hA (stb_t _) Z hl.1 (kG_callq hG hN hlt hn (qk_e e633)) cw_L_194 ⟨Nat.le_of_ble_eq_true rfl, Nat.le_of_ble_eq_true rfl⟩ rfl rfl (Nat.le_of_ble_eq_true rfl) ⟨show k + 1 + 1 + 1 + 1 + 1 + 1 + 1 + 1 + 1 ≤ 437 by omega, show 6 * k + 6 + 6 + 6 + 6 + 6 + 6 + 6 + 6 + 6 ≤ 2622 by omega⟩ dL_holds_781 (fun H locs Z n634 => ?_)
                      refine lv_aload_n hx hb dL_holds_784 rfl (lv_at hl 5 rfl) ?_
                      refine lv_iconst (v := 2) hx hb dL_holds_785 (by decide) ?_
                      refine lv_iconst (v := 2) hx hb dL_holds_786 (by decide) ?_
                      refine lv_iconst (v := 0) hx hb dL_holds_787 (by decide) ?_
                      refine lv_iconst (v := 0) hx hb dL_holds_788 (by decide) ?_
                      obtain ⟨x635, e636, h⟩ := bd_e h
                      refine o_cS X hA (stb_t _) Z hl.1 (kG_callq hG hN hlt hn (qk_e e636)) cw_L_194 ⟨Nat.le_of_ble_eq_true rfl, Nat.le_of_ble_eq_true rfl⟩ rfl rfl (Nat.le_of_ble_eq_true rfl) ⟨show k + 1 + 1 + 1 + 1 + 1 + 1 + 1 + 1 + 1 + 1 ≤ 437 by omega, show 6 * k + 6 + 6 + 6 + 6 + 6 + 6 + 6 + 6 + 6 + 6 ≤ 2622 by omega⟩ dL_holds_789 (fun H locs Z n637 => ?_)
                      obtain ⟨z639, h⟩ := gd_e h
                      refine lv_icmp_gt (tgt := 837) hx hb dL_holds_792 (by decide) (fun cn => absurd cn (of_decide_eq_true z639)) (fun c638 => ?_)
                      refine lv_aload_n hx hb dL_holds_795 rfl (lv_at hl 5 rfl) ?_
                      refine lv_iconst (v := 3) hx hb dL_holds_796 (by decide) ?_
                      refine lv_iload hx hb dL_holds_797 (lv_at hl 3 rfl) ?_
                      refine lv_iconst (v := 3) hx hb dL_holds_799 (by decide) ?_
                      refine lv_iconst (v := 0) hx hb dL_holds_800 (by decide) ?_
                      obtain ⟨x640, e641, h⟩ := bd_e h
                      refine o_cS X hA (stb_t _) Z hl.1 (kG_callq hG hN hlt hn (qk_e e641)) cw_L_194 ⟨Nat.le_of_ble_eq_true rfl, Nat.le_of_ble_eq_true rfl⟩ rfl rfl (Nat.le_of_ble_eq_true rfl) ⟨show k + 1 + 1 + 1 + 1 + 1 + 1 + 1 + 1 + 1 + 1 + 1 ≤ 437 by omega, show 6 * k + 6 + 6 + 6 + 6 + 6 + 6 + 6 + 6 + 6 + 6 + 6 ≤ 2622 by omega⟩ dL_holds_801 (fun H locs Z n642 => ?_)
                      refine lv_iconst (v := (-1)) hx hb dL_holds_804 (by decide) ?_
                      refine lv_icmp_ne (tgt := 812) hx hb dL_holds_805 (by decide) (fun c643 => ?_) (fun c643 => ?_)
                      · have h := it_f h c643
                        refine lv_iconst (v := 0) hx hb dL_holds_812 (by decide) ?_
                        refine lv_aload_n hx hb dL_holds_813 rfl (lv_at hl 5 rfl) ?_
                        refine lv_iconst (v := 3) hx hb dL_holds_814 (by decide) ?_
                        refine lv_iload hx hb dL_holds_815 (lv_at hl 3 rfl) ?_
                        refine lv_iconst (v := 2) hx hb dL_holds_817 (by decide) ?_
                        refine lv_iconst (v := 0) hx hb dL_holds_818 (by decide) ?_
                        obtain ⟨x644, e645, h⟩ := bd_e h
                        refine o_cS X hA (stb_t _) Z hl.1 (kG_callq hG hN hlt hn (qk_e e645)) cw_L_194 ⟨Nat.le_of_ble_eq_true rfl, Nat.le_of_ble_eq_true rfl⟩ rfl rfl (Nat.le_of_ble_eq_true rfl) ⟨show k + 1 + 1 + 1 + 1 + 1 + 1 + 1 + 1 + 1 + 1 + 1 + 1 ≤ 437 by omega, show 6 * k + 6 + 6 + 6 + 6 + 6 + 6 + 6 + 6 + 6 + 6 + 6 + 6 ≤ 2622 by omega⟩ dL_holds_819 (fun H locs Z n646 => ?_)
                        refine lv_if_ne (tgt := 829) hx hb dL_holds_822 (by decide) (fun c647 => ?_) (fun c647 => ?_)
                        · have h := it_f h c647
                          refine lv_iconst (v := 0) hx hb dL_holds_829 (by decide) ?_
                          refine lv_icmp_ne (tgt := 837) hx hb dL_holds_830 (by decide) (fun cn => absurd (by decide : (0 : Int32) = 0) cn) (fun c648 => ?_)
                          refine lv_iconst (v := 1) hx hb dL_holds_833 (by decide) ?_
                          refine lv_goto (tgt := 838) hx hb dL_holds_834 (by decide) ?_
                          refine W.widen (k := 437) (n := 2622) (by omega) (by omega) ?_
                          exact o_iret X hret Z (Option.some.inj h) rfl dL_holds_838
                        · have h := it_t h c647
                          refine lv_iconst (v := 1) hx hb dL_holds_825 (by decide) ?_
                          refine lv_goto (tgt := 830) hx hb dL_holds_826 (by decide) ?_
                          cases h
                      · have h := it_t h c643
                        refine lv_iconst (v := 1) hx hb dL_holds_808 (by decide) ?_
                        refine lv_goto (tgt := 813) hx hb dL_holds_809 (by decide) ?_
                        refine lv_aload_n hx hb dL_holds_813 rfl (lv_at hl 5 rfl) ?_
                        refine lv_iconst (v := 3) hx hb dL_holds_814 (by decide) ?_
                        refine lv_iload hx hb dL_holds_815 (lv_at hl 3 rfl) ?_
                        refine lv_iconst (v := 2) hx hb dL_holds_817 (by decide) ?_
                        refine lv_iconst (v := 0) hx hb dL_holds_818 (by decide) ?_
                        obtain ⟨x650, e651, h⟩ := bd_e h
                        refine o_cS X hA (stb_t _) Z hl.1 (kG_callq hG hN hlt hn (qk_e e651)) cw_L_194 ⟨Nat.le_of_ble_eq_true rfl, Nat.le_of_ble_eq_true rfl⟩ rfl rfl (Nat.le_of_ble_eq_true rfl) ⟨show k + 1 + 1 + 1 + 1 + 1 + 1 + 1 + 1 + 1 + 1 + 1 + 1 ≤ 437 by omega, show 6 * k + 6 + 6 + 6 + 6 + 6 + 6 + 6 + 6 + 6 + 6 + 6 + 6 ≤ 2622 by omega⟩ dL_holds_819 (fun H locs Z n652 => ?_)
                        refine lv_if_ne (tgt := 829) hx hb dL_holds_822 (by decide) (fun c653 => ?_) (fun c653 => ?_)
                        · have h := it_f h c653
                          refine lv_iconst (v := 0) hx hb dL_holds_829 (by decide) ?_
                          cases h
                        · have h := it_t h c653
                          refine lv_iconst (v := 1) hx hb dL_holds_825 (by decide) ?_
                          refine lv_goto (tgt := 830) hx hb dL_holds_826 (by decide) ?_
                          refine lv_icmp_ne (tgt := 837) hx hb dL_holds_830 (by decide) (fun cn => absurd (by decide : (1 : Int32) = 1) cn) (fun c655 => ?_)
                          refine lv_iconst (v := 1) hx hb dL_holds_833 (by decide) ?_
                          refine lv_goto (tgt := 838) hx hb dL_holds_834 (by decide) ?_
                          refine W.widen (k := 437) (n := 2622) (by omega) (by omega) ?_
                          exact o_iret X hret Z (Option.some.inj h) rfl dL_holds_838
                    · have h := it_f h c626
                      refine lv_iload hx hb dL_holds_757 (lv_at hl 1 rfl) ?_
                      obtain ⟨z657, h⟩ := gd_e h
                      refine lv_if_ne (tgt := 837) hx hb dL_holds_759 (by decide) (fun cn => absurd (of_decide_eq_true z657) cn) (fun c656 => ?_)
                      refine lv_aload_n hx hb dL_holds_762 rfl (lv_at hl 5 rfl) ?_
                      refine lv_iconst (v := 3) hx hb dL_holds_763 (by decide) ?_
                      refine lv_iload hx hb dL_holds_764 (lv_at hl 3 rfl) ?_
                      refine lv_iconst (v := 0) hx hb dL_holds_766 (by decide) ?_
                      refine lv_iconst (v := 0) hx hb dL_holds_767 (by decide) ?_
                      obtain ⟨x658, e659, h⟩ := bd_e h
                      refine o_cS X hA (stb_t _) Z hl.1 (kG_callq hG hN hlt hn (qk_e e659)) cw_L_194 ⟨Nat.le_of_ble_eq_true rfl, Nat.le_of_ble_eq_true rfl⟩ rfl rfl (Nat.le_of_ble_eq_true rfl) ⟨show k + 1 + 1 + 1 + 1 + 1 + 1 + 1 + 1 ≤ 437 by omega, show 6 * k + 6 + 6 + 6 + 6 + 6 + 6 + 6 + 6 ≤ 2622 by omega⟩ dL_holds_768 (fun H locs Z n660 => ?_)
                      refine lv_iload_n hx hb dL_holds_771 rfl (lv_at hl 8 rfl) ?_
                      obtain ⟨z662, h⟩ := gd_e h
                      refine lv_icmp_ge (tgt := 837) hx hb dL_holds_772 (by decide) (fun cn => absurd cn (of_decide_eq_true z662)) (fun c661 => ?_)
                      refine lv_aload_n hx hb dL_holds_775 rfl (lv_at hl 5 rfl) ?_
                      refine lv_iconst (v := 3) hx hb dL_holds_776 (by decide) ?_
                      refine lv_iload hx hb dL_holds_777 (lv_at hl 3 rfl) ?_
                      refine lv_iconst (v := 3) hx hb dL_holds_779 (by decide) ?_
                      refine lv_iconst (v := 0) hx hb dL_holds_780 (by decide) ?_
                      obtain ⟨x663, e664, h⟩ := bd_e h
                      refine o_cS X hA (stb_t _) Z hl.1 (kG_callq hG hN hlt hn (qk_e e664)) cw_L_194 ⟨Nat.le_of_ble_eq_true rfl, Nat.le_of_ble_eq_true rfl⟩ rfl rfl (Nat.le_of_ble_eq_true rfl) ⟨show k + 1 + 1 + 1 + 1 + 1 + 1 + 1 + 1 + 1 ≤ 437 by omega, show 6 * k + 6 + 6 + 6 + 6 + 6 + 6 + 6 + 6 + 6 ≤ 2622 by omega⟩ dL_holds_781 (fun H locs Z n665 => ?_)
                      refine lv_aload_n hx hb dL_holds_784 rfl (lv_at hl 5 rfl) ?_
                      refine lv_iconst (v := 2) hx hb dL_holds_785 (by decide) ?_
                      refine lv_iconst (v := 2) hx hb dL_holds_786 (by decide) ?_
                      refine lv_iconst (v := 0) hx hb dL_holds_787 (by decide) ?_
                      refine lv_iconst (v := 0) hx hb dL_holds_788 (by decide) ?_
                      obtain ⟨x666, e667, h⟩ := bd_e h
                      refine o_cS X hA (stb_t _) Z hl.1 (kG_callq hG hN hlt hn (qk_e e667)) cw_L_194 ⟨Nat.le_of_ble_eq_true rfl, Nat.le_of_ble_eq_true rfl⟩ rfl rfl (Nat.le_of_ble_eq_true rfl) ⟨show k + 1 + 1 + 1 + 1 + 1 + 1 + 1 + 1 + 1 + 1 ≤ 437 by omega, show 6 * k + 6 + 6 + 6 + 6 + 6 + 6 + 6 + 6 + 6 + 6 ≤ 2622 by omega⟩ dL_holds_789 (fun H locs Z n668 => ?_)
                      obtain ⟨z670, h⟩ := gd_e h
                      refine lv_icmp_gt (tgt := 837) hx hb dL_holds_792 (by decide) (fun cn => absurd cn (of_decide_eq_true z670)) (fun c669 => ?_)
                      refine lv_aload_n hx hb dL_holds_795 rfl (lv_at hl 5 rfl) ?_
                      refine lv_iconst (v := 3) hx hb dL_holds_796 (by decide) ?_
                      refine lv_iload hx hb dL_holds_797 (lv_at hl 3 rfl) ?_
                      refine lv_iconst (v := 3) hx hb dL_holds_799 (by decide) ?_
                      refine lv_iconst (v := 0) hx hb dL_holds_800 (by decide) ?_
                      obtain ⟨x671, e672, h⟩ := bd_e h
                      refine o_cS X hA (stb_t _) Z hl.1 (kG_callq hG hN hlt hn (qk_e e672)) cw_L_194 ⟨Nat.le_of_ble_eq_true rfl, Nat.le_of_ble_eq_true rfl⟩ rfl rfl (Nat.le_of_ble_eq_true rfl) ⟨show k + 1 + 1 + 1 + 1 + 1 + 1 + 1 + 1 + 1 + 1 + 1 ≤ 437 by omega, show 6 * k + 6 + 6 + 6 + 6 + 6 + 6 + 6 + 6 + 6 + 6 + 6 ≤ 2622 by omega⟩ dL_holds_801 (fun H locs Z n673 => ?_)
                      refine lv_iconst (v := (-1)) hx hb dL_holds_804 (by decide) ?_
                      refine lv_icmp_ne (tgt := 812) hx hb dL_holds_805 (by decide) (fun c674 => ?_) (fun c674 => ?_)
                      · have h := it_f h c674
                        refine lv_iconst (v := 0) hx hb dL_holds_812 (by decide) ?_
                        refine lv_aload_n hx hb dL_holds_813 rfl (lv_at hl 5 rfl) ?_
                        refine lv_iconst (v := 3) hx hb dL_holds_814 (by decide) ?_
                        refine lv_iload hx hb dL_holds_815 (lv_at hl 3 rfl) ?_
                        refine lv_iconst (v := 2) hx hb dL_holds_817 (by decide) ?_
                        refine lv_iconst (v := 0) hx hb dL_holds_818 (by decide) ?_
                        obtain ⟨x675, e676, h⟩ := bd_e h
                        refine o_cS X hA (stb_t _) Z hl.1 (kG_callq hG hN hlt hn (qk_e e676)) cw_L_194 ⟨Nat.le_of_ble_eq_true rfl, Nat.le_of_ble_eq_true rfl⟩ rfl rfl (Nat.le_of_ble_eq_true rfl) ⟨show k + 1 + 1 + 1 + 1 + 1 + 1 + 1 + 1 + 1 + 1 + 1 + 1 ≤ 437 by omega, show 6 * k + 6 + 6 + 6 + 6 + 6 + 6 + 6 + 6 + 6 + 6 + 6 + 6 ≤ 2622 by omega⟩ dL_holds_819 (fun H locs Z n677 => ?_)
                        refine lv_if_ne (tgt := 829) hx hb dL_holds_822 (by decide) (fun c678 => ?_) (fun c678 => ?_)
                        · have h := it_f h c678
                          refine lv_iconst (v := 0) hx hb dL_holds_829 (by decide) ?_
                          refine lv_icmp_ne (tgt := 837) hx hb dL_holds_830 (by decide) (fun cn => absurd (by decide : (0 : Int32) = 0) cn) (fun c679 => ?_)
                          refine lv_iconst (v := 1) hx hb dL_holds_833 (by decide) ?_
                          refine lv_goto (tgt := 838) hx hb dL_holds_834 (by decide) ?_
                          refine W.widen (k := 437) (n := 2622) (by omega) (by omega) ?_
                          exact o_iret X hret Z (Option.some.inj h) rfl dL_holds_838
                        · have h := it_t h c678
                          refine lv_iconst (v := 1) hx hb dL_holds_825 (by decide) ?_
                          refine lv_goto (tgt := 830) hx hb dL_holds_826 (by decide) ?_
                          cases h
                      · have h := it_t h c674
                        refine lv_iconst (v := 1) hx hb dL_holds_808 (by decide) ?_
                        refine lv_goto (tgt := 813) hx hb dL_holds_809 (by decide) ?_
                        refine lv_aload_n hx hb dL_holds_813 rfl (lv_at hl 5 rfl) ?_
                        refine lv_iconst (v := 3) hx hb dL_holds_814 (by decide) ?_
                        refine lv_iload hx hb dL_holds_815 (lv_at hl 3 rfl) ?_
                        refine lv_iconst (v := 2) hx hb dL_holds_817 (by decide) ?_
                        refine lv_iconst (v := 0) hx hb dL_holds_818 (by decide) ?_
                        obtain ⟨x681, e682, h⟩ := bd_e h
                        refine o_cS X hA (stb_t _) Z hl.1 (kG_callq hG hN hlt hn (qk_e e682)) cw_L_194 ⟨Nat.le_of_ble_eq_true rfl, Nat.le_of_ble_eq_true rfl⟩ rfl rfl (Nat.le_of_ble_eq_true rfl) ⟨show k + 1 + 1 + 1 + 1 + 1 + 1 + 1 + 1 + 1 + 1 + 1 + 1 ≤ 437 by omega, show 6 * k + 6 + 6 + 6 + 6 + 6 + 6 + 6 + 6 + 6 + 6 + 6 + 6 ≤ 2622 by omega⟩ dL_holds_819 (fun H locs Z n683 => ?_)
                        refine lv_if_ne (tgt := 829) hx hb dL_holds_822 (by decide) (fun c684 => ?_) (fun c684 => ?_)
                        · have h := it_f h c684
                          refine lv_iconst (v := 0) hx hb dL_holds_829 (by decide) ?_
                          cases h
                        · have h := it_t h c684
                          refine lv_iconst (v := 1) hx hb dL_holds_825 (by decide) ?_
                          refine lv_goto (tgt := 830) hx hb dL_holds_826 (by decide) ?_
                          refine lv_icmp_ne (tgt := 837) hx hb dL_holds_830 (by decide) (fun cn => absurd (by decide : (1 : Int32) = 1) cn) (fun c686 => ?_)
                          refine lv_iconst (v := 1) hx hb dL_holds_833 (by decide) ?_
                          refine lv_goto (tgt := 838) hx hb dL_holds_834 (by decide) ?_
                          refine W.widen (k := 437) (n := 2622) (by omega) (by omega) ?_
                          exact o_iret X hret Z (Option.some.inj h) rfl dL_holds_838
    · have h := it_f h c11
      refine lv_iload hx hb dL_holds_298 (lv_at hl 10 rfl) ?_
      obtain ⟨z688, h⟩ := gd_e h
      refine lv_if_eq (tgt := 524) hx hb dL_holds_300 (by decide) (fun cn => absurd cn (of_decide_eq_true z688)) (fun c687 => ?_)
      refine lv_aload_n hx hb dL_holds_303 rfl (lv_at hl 0 rfl) ?_
      refine lv_iconst (v := 5) hx hb dL_holds_304 (by decide) ?_
      refine lv_iload hx hb dL_holds_305 (lv_at hl 12 rfl) ?_
      refine lv_iconst (v := 3) hx hb dL_holds_307 (by decide) ?_
      refine lv_iconst (v := 0) hx hb dL_holds_308 (by decide) ?_
      obtain ⟨x689, e690, h⟩ := bd_e h
      refine o_cS X hA (stb_t _) Z hl.1 (kG_callq hG hN hlt hn (qk_e e690)) cw_L_194 ⟨Nat.le_of_ble_eq_true rfl, Nat.le_of_ble_eq_true rfl⟩ rfl rfl (Nat.le_of_ble_eq_true rfl) ⟨show k + 1 ≤ 437 by omega, show 6 * k + 6 ≤ 2622 by omega⟩ dL_holds_309 (fun H locs Z n691 => ?_)
      refine lv_istore (lv' := [(13, .int x689), (0, .ref (ga G 18 0)), (1, .int y1), (2, .int y2), (3, .int y3), (4, .int y4), (5, .int y5), (6, .int y6), (7, .int y7), (8, .int y8), (9, .int y9), (10, .int y10), (11, .int y11), (12, .int y12)]) hx hb dL_holds_312 hl (by decide) rfl (fun ls hl => ?_)
      refine lv_iload hx hb dL_holds_314 (lv_at hl 12 rfl) ?_
      refine lv_iload hx hb dL_holds_316 (lv_at hl 0 rfl) ?_
      refine lv_iadd hx hb dL_holds_318 ?_
      obtain ⟨x692, e693, h⟩ := lt_e h
      refine u_topi e693 ?_
      refine lv_istore (lv' := [(11, .int x692), (13, .int x689), (0, .ref (ga G 18 0)), (1, .int y1), (2, .int y2), (3, .int y3), (4, .int y4), (5, .int y5), (6, .int y6), (7, .int y7), (8, .int y8), (9, .int y9), (10, .int y10), (12, .int y12)]) hx hb dL_holds_319 hl (by decide) rfl (fun ls hl => ?_)
      refine lv_iload hx hb dL_holds_321 (lv_at hl 1 rfl) ?_
      refine lv_bipush (v := 12) hx hb dL_holds_323 (by decide) ?_
      obtain ⟨z695, h⟩ := gd_e h
      refine lv_icmp_gt (tgt := 428) hx hb dL_holds_325 (by decide) (fun cn => absurd cn (of_decide_eq_true z695)) (fun c694 => ?_)
      refine lv_aload_n hx hb dL_holds_328 rfl (lv_at hl 2 rfl) ?_
      refine lv_iconst (v := 5) hx hb dL_holds_329 (by decide) ?_
      refine lv_iload hx hb dL_holds_330 (lv_at hl 13 rfl) ?_
      refine lv_iconst (v := 1) hx hb dL_holds_332 (by decide) ?_
      refine lv_iconst (v := 0) hx hb dL_holds_333 (by decide) ?_
      obtain ⟨x696, e697, h⟩ := bd_e h
      refine o_cS X hA (stb_t _) Z hl.1 (kG_callq hG hN hlt hn (qk_e e697)) cw_L_194 ⟨Nat.le_of_ble_eq_true rfl, Nat.le_of_ble_eq_true rfl⟩ rfl rfl (Nat.le_of_ble_eq_true rfl) ⟨show k + 1 + 1 ≤ 437 by omega, show 6 * k + 6 + 6 ≤ 2622 by omega⟩ dL_holds_334 (fun H locs Z n698 => ?_)
      refine lv_if_eq (tgt := 359) hx hb dL_holds_337 (by decide) (fun c699 => ?_) (fun c699 => ?_)
      · have h := it_t h c699
        refine lv_aload_n hx hb dL_holds_359 rfl (lv_at hl 2 rfl) ?_
        refine lv_bipush (v := 6) hx hb dL_holds_360 (by decide) ?_
        refine lv_iload hx hb dL_holds_362 (lv_at hl 13 rfl) ?_
        refine lv_iload hx hb dL_holds_364 (lv_at hl 1 rfl) ?_
        refine lv_iconst (v := 0) hx hb dL_holds_366 (by decide) ?_
        obtain ⟨x700, e701, h⟩ := bd_e h
        refine o_cS X hA (stb_t _) Z hl.1 (kG_callq hG hN hlt hn (qk_e e701)) cw_L_194 ⟨Nat.le_of_ble_eq_true rfl, Nat.le_of_ble_eq_true rfl⟩ rfl rfl (Nat.le_of_ble_eq_true rfl) ⟨show k + 1 + 1 + 1 ≤ 437 by omega, show 6 * k + 6 + 6 + 6 ≤ 2622 by omega⟩ dL_holds_367 (fun H locs Z n702 => ?_)
        refine lv_ldc (v := (-9999001)) hx hb X.1.2.2.2.1 (X.hts (gt_in 698 (by decide +kernel) (by decide +kernel))) dL_holds_370 ?_
        obtain ⟨z704, h⟩ := gd_e h
        refine lv_icmp_ne (tgt := 428) hx hb dL_holds_372 (by decide) (fun cn => absurd (of_decide_eq_true z704) cn) (fun c703 => ?_)
        refine lv_aload_n hx hb dL_holds_375 rfl (lv_at hl 2 rfl) ?_
        refine lv_bipush (v := 22) hx hb dL_holds_376 (by decide) ?_
        refine lv_iload hx hb dL_holds_378 (lv_at hl 13 rfl) ?_
        refine lv_iconst (v := 0) hx hb dL_holds_380 (by decide) ?_
        refine lv_iconst (v := 0) hx hb dL_holds_381 (by decide) ?_
        obtain ⟨x705, e706, h⟩ := bd_e h
        refine o_cS X hA (stb_t _) Z hl.1 (kG_callq hG hN hlt hn (qk_e e706)) cw_L_194 ⟨Nat.le_of_ble_eq_true rfl, Nat.le_of_ble_eq_true rfl⟩ rfl rfl (Nat.le_of_ble_eq_true rfl) ⟨show k + 1 + 1 + 1 + 1 ≤ 437 by omega, show 6 * k + 6 + 6 + 6 + 6 ≤ 2622 by omega⟩ dL_holds_382 (fun H locs Z n707 => ?_)
        refine lv_aload_n hx hb dL_holds_385 rfl (lv_at hl 2 rfl) ?_
        refine lv_bipush (v := 22) hx hb dL_holds_386 (by decide) ?_
        refine lv_iload hx hb dL_holds_388 (lv_at hl 13 rfl) ?_
        refine lv_iconst (v := 1) hx hb dL_holds_390 (by decide) ?_
        refine lv_iconst (v := 0) hx hb dL_holds_391 (by decide) ?_
        obtain ⟨x708, e709, h⟩ := bd_e h
        refine o_cS X hA (stb_t _) Z hl.1 (kG_callq hG hN hlt hn (qk_e e709)) cw_L_194 ⟨Nat.le_of_ble_eq_true rfl, Nat.le_of_ble_eq_true rfl⟩ rfl rfl (Nat.le_of_ble_eq_true rfl) ⟨show k + 1 + 1 + 1 + 1 + 1 ≤ 437 by omega, show 6 * k + 6 + 6 + 6 + 6 + 6 ≤ 2622 by omega⟩ dL_holds_392 (fun H locs Z n710 => ?_)
        refine lv_iadd hx hb dL_holds_395 ?_
        refine lv_iload hx hb dL_holds_396 (lv_at hl 1 rfl) ?_
        obtain ⟨z712, h⟩ := gd_e h
        refine lv_icmp_ne (tgt := 428) hx hb dL_holds_398 (by decide) (fun cn => absurd (of_decide_eq_true z712) cn) (fun c711 => ?_)
        refine lv_aload_n hx hb dL_holds_401 rfl (lv_at hl 2 rfl) ?_
        refine lv_bipush (v := 22) hx hb dL_holds_402 (by decide) ?_
        refine lv_iload hx hb dL_holds_404 (lv_at hl 13 rfl) ?_
        refine lv_iconst (v := 3) hx hb dL_holds_406 (by decide) ?_
        refine lv_iconst (v := 0) hx hb dL_holds_407 (by decide) ?_
        obtain ⟨x713, e714, h⟩ := bd_e h
        refine o_cS X hA (stb_t _) Z hl.1 (kG_callq hG hN hlt hn (qk_e e714)) cw_L_194 ⟨Nat.le_of_ble_eq_true rfl, Nat.le_of_ble_eq_true rfl⟩ rfl rfl (Nat.le_of_ble_eq_true rfl) ⟨show k + 1 + 1 + 1 + 1 + 1 + 1 ≤ 437 by omega, show 6 * k + 6 + 6 + 6 + 6 + 6 + 6 ≤ 2622 by omega⟩ dL_holds_408 (fun H locs Z n715 => ?_)
        refine lv_aload_n hx hb dL_holds_411 rfl (lv_at hl 2 rfl) ?_
        refine lv_bipush (v := 22) hx hb dL_holds_412 (by decide) ?_
        refine lv_iload hx hb dL_holds_414 (lv_at hl 13 rfl) ?_
        refine lv_iconst (v := 0) hx hb dL_holds_416 (by decide) ?_
        refine lv_iconst (v := 0) hx hb dL_holds_417 (by decide) ?_
        obtain ⟨x716, e717, h⟩ := bd_e h
        refine o_cS X hA (stb_t _) Z hl.1 (kG_callq hG hN hlt hn (qk_e e717)) cw_L_194 ⟨Nat.le_of_ble_eq_true rfl, Nat.le_of_ble_eq_true rfl⟩ rfl rfl (Nat.le_of_ble_eq_true rfl) ⟨show k + 1 + 1 + 1 + 1 + 1 + 1 + 1 ≤ 437 by omega, show 6 * k + 6 + 6 + 6 + 6 + 6 + 6 + 6 ≤ 2622 by omega⟩ dL_holds_418 (fun H locs Z n718 => ?_)
        obtain ⟨z720, h⟩ := gd_e h
        refine lv_icmp_lt (tgt := 428) hx hb dL_holds_421 (by decide) (fun cn => absurd cn (of_decide_eq_true z720)) (fun c719 => ?_)
        refine lv_iconst (v := 1) hx hb dL_holds_424 (by decide) ?_
        refine lv_goto (tgt := 429) hx hb dL_holds_425 (by decide) ?_
        refine lv_istore (lv' := [(10, .int 1), (11, .int x692), (13, .int x689), (0, .ref (ga G 18 0)), (1, .int y1), (2, .int y2), (3, .int y3), (4, .int y4), (5, .int y5), (6, .int y6), (7, .int y7), (8, .int y8), (9, .int y9), (12, .int y12)]) hx hb dL_holds_429 hl (by decide) rfl (fun ls hl => ?_)
        refine lv_iconst (v := 0) hx hb dL_holds_431 (by decide) ?_
        refine lv_istore (lv' := [(14, .int 0), (10, .int 1), (11, .int x692), (13, .int x689), (0, .ref (ga G 18 0)), (1, .int y1), (2, .int y2), (3, .int y3), (4, .int y4), (5, .int y5), (6, .int y6), (7, .int y7), (8, .int y8), (9, .int y9), (12, .int y12)]) hx hb dL_holds_432 hl (by decide) rfl (fun ls hl => ?_)
        refine W.widen (k := k + 7) (n := 6 * (k + 7)) (by omega) (by omega) ?_
        refine lpL_holds_434 hG hN hlt hn X hret (K := k + 59) (by omega) (fun x746 x747 x748 x749 x750 x751 x752 x753 x754 x755 x756 x757 x758 x759 H locs ls h Z hl => ?_) 13 _ _ _ _ _ _ _ _ _ _ _ _ _ _ _ _ _ _ h (by omega) Z (lv_sub hl [4, 5, 6, 7, 8, 9, 10, 11, 12, 13, 1, 2, 14, 3, 0] rfl)
        obtain ⟨x760, e761, h⟩ := lt_e h
        refine lv_iinc (v := x760) (lv' := [(12, .int x760), (0, .ref (ga G 18 0)), (1, .int x746), (2, .int x747), (3, .int x748), (4, .int x749), (5, .int x750), (6, .int x751), (7, .int x752), (8, .int x753), (9, .int x754), (10, .int x755), (11, .int x756), (13, .int x758), (14, .int x759)]) hx hb dL_holds_518 hl (k := 12) rfl (by rw [e761]; rfl) (by decide) rfl (fun ls hl => ?_)
        refine lv_goto (tgt := 292) hx hb dL_holds_521 (by decide) ?_
        refine W.widen (k := k + 60) (n := 6 * (k + 60)) (by omega) (by omega) ?_
        exact ih (k + 60) _ _ _ _ _ _ _ _ _ _ _ _ _ _ _ h (by omega) Z (lv_sub hl [1, 2, 3, 4, 5, 6, 7, 8, 9, 10, 11, 12, 0] rfl)
      · have h := it_f h c699
        refine lv_iload hx hb dL_holds_340 (lv_at hl 1 rfl) ?_
        obtain ⟨z763, h⟩ := gd_e h
        refine lv_if_ne (tgt := 428) hx hb dL_holds_342 (by decide) (fun cn => absurd (of_decide_eq_true z763) cn) (fun c762 => ?_)
        refine lv_aload_n hx hb dL_holds_345 rfl (lv_at hl 2 rfl) ?_
        refine lv_iconst (v := 5) hx hb dL_holds_346 (by decide) ?_
        refine lv_iload hx hb dL_holds_347 (lv_at hl 13 rfl) ?_
        refine lv_iconst (v := 4) hx hb dL_holds_349 (by decide) ?_
        refine lv_iconst (v := 0) hx hb dL_holds_350 (by decide) ?_
        obtain ⟨x764, e765, h⟩ := bd_e h
        refine o_cS X hA (stb_t _) Z hl.1 (kG_callq hG hN hlt hn (qk_e e765)) cw_L_194 ⟨Nat.le_of_ble_eq_true rfl, Nat.le_of_ble_eq_true rfl⟩ rfl rfl (Nat.le_of_ble_eq_true rfl) ⟨show k + 1 + 1 + 1 ≤ 437 by omega, show 6 * k + 6 + 6 + 6 ≤ 2622 by omega⟩ dL_holds_351 (fun H locs Z n766 => ?_)
        refine lv_iload hx hb dL_holds_354 (lv_at hl 6 rfl) ?_
        obtain ⟨z768, h⟩ := gd_e h
        refine lv_icmp_ne (tgt := 428) hx hb dL_holds_356 (by decide) (fun cn => absurd (of_decide_eq_true z768) cn) (fun c767 => ?_)
        refine lv_aload_n hx hb dL_holds_359 rfl (lv_at hl 2 rfl) ?_
        refine lv_bipush (v := 6) hx hb dL_holds_360 (by decide) ?_
        refine lv_iload hx hb dL_holds_362 (lv_at hl 13 rfl) ?_
        refine lv_iload hx hb dL_holds_364 (lv_at hl 1 rfl) ?_
        refine lv_iconst (v := 0) hx hb dL_holds_366 (by decide) ?_
        obtain ⟨x769, e770, h⟩ := bd_e h
        refine o_cS X hA (stb_t _) Z hl.1 (kG_callq hG hN hlt hn (qk_e e770)) cw_L_194 ⟨Nat.le_of_ble_eq_true rfl, Nat.le_of_ble_eq_true rfl⟩ rfl rfl (Nat.le_of_ble_eq_true rfl) ⟨show k + 1 + 1 + 1 + 1 ≤ 437 by omega, show 6 * k + 6 + 6 + 6 + 6 ≤ 2622 by omega⟩ dL_holds_367 (fun H locs Z n771 => ?_)
        refine lv_ldc (v := (-9999001)) hx hb X.1.2.2.2.1 (X.hts (gt_in 698 (by decide +kernel) (by decide +kernel))) dL_holds_370 ?_
        obtain ⟨z773, h⟩ := gd_e h
        refine lv_icmp_ne (tgt := 428) hx hb dL_holds_372 (by decide) (fun cn => absurd (of_decide_eq_true z773) cn) (fun c772 => ?_)
        refine lv_aload_n hx hb dL_holds_375 rfl (lv_at hl 2 rfl) ?_
        refine lv_bipush (v := 22) hx hb dL_holds_376 (by decide) ?_
        refine lv_iload hx hb dL_holds_378 (lv_at hl 13 rfl) ?_
        refine lv_iconst (v := 0) hx hb dL_holds_380 (by decide) ?_
        refine lv_iconst (v := 0) hx hb dL_holds_381 (by decide) ?_
        obtain ⟨x774, e775, h⟩ := bd_e h
        refine o_cS X hA (stb_t _) Z hl.1 (kG_callq hG hN hlt hn (qk_e e775)) cw_L_194 ⟨Nat.le_of_ble_eq_true rfl, Nat.le_of_ble_eq_true rfl⟩ rfl rfl (Nat.le_of_ble_eq_true rfl) ⟨show k + 1 + 1 + 1 + 1 + 1 ≤ 437 by omega, show 6 * k + 6 + 6 + 6 + 6 + 6 ≤ 2622 by omega⟩ dL_holds_382 (fun H locs Z n776 => ?_)
        refine lv_aload_n hx hb dL_holds_385 rfl (lv_at hl 2 rfl) ?_
        refine lv_bipush (v := 22) hx hb dL_holds_386 (by decide) ?_
        refine lv_iload hx hb dL_holds_388 (lv_at hl 13 rfl) ?_
        refine lv_iconst (v := 1) hx hb dL_holds_390 (by decide) ?_
        refine lv_iconst (v := 0) hx hb dL_holds_391 (by decide) ?_
        obtain ⟨x777, e778, h⟩ := bd_e h
        refine o_cS X hA (stb_t _) Z hl.1 (kG_callq hG hN hlt hn (qk_e e778)) cw_L_194 ⟨Nat.le_of_ble_eq_true rfl, Nat.le_of_ble_eq_true rfl⟩ rfl rfl (Nat.le_of_ble_eq_true rfl) ⟨show k + 1 + 1 + 1 + 1 + 1 + 1 ≤ 437 by omega, show 6 * k + 6 + 6 + 6 + 6 + 6 + 6 ≤ 2622 by omega⟩ dL_holds_392 (fun H locs Z n779 => ?_)
        refine lv_iadd hx hb dL_holds_395 ?_
        refine lv_iload hx hb dL_holds_396 (lv_at hl 1 rfl) ?_
        obtain ⟨z781, h⟩ := gd_e h
        refine lv_icmp_ne (tgt := 428) hx hb dL_holds_398 (by decide) (fun cn => absurd (of_decide_eq_true z781) cn) (fun c780 => ?_)
        refine lv_aload_n hx hb dL_holds_401 rfl (lv_at hl 2 rfl) ?_
        refine lv_bipush (v := 22) hx hb dL_holds_402 (by decide) ?_
        refine lv_iload hx hb dL_holds_404 (lv_at hl 13 rfl) ?_
        refine lv_iconst (v := 3) hx hb dL_holds_406 (by decide) ?_
        refine lv_iconst (v := 0) hx hb dL_holds_407 (by decide) ?_
        obtain ⟨x782, e783, h⟩ := bd_e h
        refine o_cS X hA (stb_t _) Z hl.1 (kG_callq hG hN hlt hn (qk_e e783)) cw_L_194 ⟨Nat.le_of_ble_eq_true rfl, Nat.le_of_ble_eq_true rfl⟩ rfl rfl (Nat.le_of_ble_eq_true rfl) ⟨show k + 1 + 1 + 1 + 1 + 1 + 1 + 1 ≤ 437 by omega, show 6 * k + 6 + 6 + 6 + 6 + 6 + 6 + 6 ≤ 2622 by omega⟩ dL_holds_408 (fun H locs Z n784 => ?_)
        refine lv_aload_n hx hb dL_holds_411 rfl (lv_at hl 2 rfl) ?_
        refine lv_bipush (v := 22) hx hb dL_holds_412 (by decide) ?_
        refine lv_iload hx hb dL_holds_414 (lv_at hl 13 rfl) ?_
        refine lv_iconst (v := 0) hx hb dL_holds_416 (by decide) ?_
        refine lv_iconst (v := 0) hx hb dL_holds_417 (by decide) ?_
        obtain ⟨x785, e786, h⟩ := bd_e h
        refine o_cS X hA (stb_t _) Z hl.1 (kG_callq hG hN hlt hn (qk_e e786)) cw_L_194 ⟨Nat.le_of_ble_eq_true rfl, Nat.le_of_ble_eq_true rfl⟩ rfl rfl (Nat.le_of_ble_eq_true rfl) ⟨show k + 1 + 1 + 1 + 1 + 1 + 1 + 1 + 1 ≤ 437 by omega, show 6 * k + 6 + 6 + 6 + 6 + 6 + 6 + 6 + 6 ≤ 2622 by omega⟩ dL_holds_418 (fun H locs Z n787 => ?_)
        obtain ⟨z789, h⟩ := gd_e h
        refine lv_icmp_lt (tgt := 428) hx hb dL_holds_421 (by decide) (fun cn => absurd cn (of_decide_eq_true z789)) (fun c788 => ?_)
        refine lv_iconst (v := 1) hx hb dL_holds_424 (by decide) ?_
        refine lv_goto (tgt := 429) hx hb dL_holds_425 (by decide) ?_
        refine lv_istore (lv' := [(10, .int 1), (11, .int x692), (13, .int x689), (0, .ref (ga G 18 0)), (1, .int y1), (2, .int y2), (3, .int y3), (4, .int y4), (5, .int y5), (6, .int y6), (7, .int y7), (8, .int y8), (9, .int y9), (12, .int y12)]) hx hb dL_holds_429 hl (by decide) rfl (fun ls hl => ?_)
        refine lv_iconst (v := 0) hx hb dL_holds_431 (by decide) ?_
        refine lv_istore (lv' := [(14, .int 0), (10, .int 1), (11, .int x692), (13, .int x689), (0, .ref (ga G 18 0)), (1, .int y1), (2, .int y2), (3, .int y3), (4, .int y4), (5, .int y5), (6, .int y6), (7, .int y7), (8, .int y8), (9, .int y9), (12, .int y12)]) hx hb dL_holds_432 hl (by decide) rfl (fun ls hl => ?_)
        refine W.widen (k := k + 8) (n := 6 * (k + 8)) (by omega) (by omega) ?_
        refine lpL_holds_434 hG hN hlt hn X hret (K := k + 60) (by omega) (fun x790 x791 x792 x793 x794 x795 x796 x797 x798 x799 x800 x801 x802 x803 H locs ls h Z hl => ?_) 13 _ _ _ _ _ _ _ _ _ _ _ _ _ _ _ _ _ _ h (by omega) Z (lv_sub hl [4, 5, 6, 7, 8, 9, 10, 11, 12, 13, 1, 2, 14, 3, 0] rfl)
        obtain ⟨x804, e805, h⟩ := lt_e h
        refine lv_iinc (v := x804) (lv' := [(12, .int x804), (0, .ref (ga G 18 0)), (1, .int x790), (2, .int x791), (3, .int x792), (4, .int x793), (5, .int x794), (6, .int x795), (7, .int x796), (8, .int x797), (9, .int x798), (10, .int x799), (11, .int x800), (13, .int x802), (14, .int x803)]) hx hb dL_holds_518 hl (k := 12) rfl (by rw [e805]; rfl) (by decide) rfl (fun ls hl => ?_)
        refine lv_goto (tgt := 292) hx hb dL_holds_521 (by decide) ?_
        refine W.widen (k := k + 60) (n := 6 * (k + 60)) (by omega) (by omega) ?_
        exact ih (k + 60) _ _ _ _ _ _ _ _ _ _ _ _ _ _ _ h (by omega) Z (lv_sub hl [1, 2, 3, 4, 5, 6, 7, 8, 9, 10, 11, 12, 0] rfl)
noncomputable def fL_holds_L50 (M : Nat → Nat → Int32) (N : Nat) (y1 : Int32) (y2 : Int32) (y3 : Int32) (y4 : Int32) (y5 : Int32) (y6 : Int32) (y7 : Int32) (y8 : Int32) (y9 : Int32) (y10 : Int32) (y11 : Int32) : Option Int32 :=
  match N with
  | 0 => none
  | N + 1 =>
    if y3 ≤ y11 then
      fL_holds_L292 M 5 y1 y2 y3 y4 y5 y6 y7 y8 y9 y10 0 0
    else
      gd (decide (¬ (y10 = 0))) <|
      bd (qk (rcall M 4 y11 4 0) M) fun x808 =>
      bd (qk (rcall M 4 y11 5 0) M) fun x811 =>
      lt_ ((y5 + x811)) fun x814 =>
      bd (qk (rcall M 4 y11 2 0) M) fun x816 =>
      lt_ ((y6 + x816)) fun x819 =>
      bd (qk (rcall M 4 y11 6 0) M) fun x821 =>
      lt_ ((y7 + x821)) fun x824 =>
      bd (qk (rcall M 4 y11 7 0) M) fun x826 =>
      lt_ ((y8 + x826)) fun x829 =>
      bd (qk (rcall M 4 y11 0 0) M) fun x831 =>
      bd (qk (rcall M 4 y11 7 0) M) fun x834 =>
      lt_ ((x831 - x834)) fun x837 =>
      if y9 = (-1) then
        gd (decide (((y4 >>> (y11 &&& 31)) &&& 1) = x808)) <|
        if x808 = 1 then
          bd (qk (rcall M 4 y11 0 0) M) fun x866 =>
          if x866 < 0 then
            bd (qk (rcall M 4 y11 1 0) M) fun x871 =>
            gd (decide (¬ (x871 < 0))) <|
            bd (qk (rcall M 23 y11 0 0) M) fun x876 =>
            gd (decide (¬ (x876 < 0))) <|
            lt_ (y11 + 1) fun x881 =>
            fL_holds_L50 M N y1 y2 y3 y4 x814 x819 x824 x829 y11 1 x881
          else
            bd (qk (rcall M 4 y11 3 0) M) fun x883 =>
            if x883 = 1 then
              bd (qk (rcall M 4 y11 1 0) M) fun x889 =>
              gd (decide (¬ (x889 < 0))) <|
              bd (qk (rcall M 23 y11 0 0) M) fun x894 =>
              gd (decide (¬ (x894 < 0))) <|
              lt_ (y11 + 1) fun x899 =>
              fL_holds_L50 M N y1 y2 y3 y4 x814 x819 x824 x829 y11 1 x899
            else
              none
        else
          bd (qk (rcall M 4 y11 0 0) M) fun x843 =>
          if x843 < 0 then
            none
          else
            bd (qk (rcall M 4 y11 3 0) M) fun x848 =>
            if x848 = 1 then
              none
            else
              bd (qk (rcall M 4 y11 1 0) M) fun x853 =>
              gd (decide (¬ (x853 < 0))) <|
              bd (qk (rcall M 23 y11 0 0) M) fun x858 =>
              gd (decide (¬ (x858 < 0))) <|
              lt_ (y11 + 1) fun x863 =>
              fL_holds_L50 M N y1 y2 y3 y4 x814 x819 x824 x829 y11 1 x863
      else
        bd (qk (rcall M 4 y9 0 0) M) fun x901 =>
        bd (qk (rcall M 4 y9 7 0) M) fun x904 =>
        lt_ (if (x901 - x904) ≤ x837 then y9 else y11) fun v908 =>
        gd (decide (((y4 >>> (y11 &&& 31)) &&& 1) = x808)) <|
        if x808 = 1 then
          bd (qk (rcall M 4 y11 0 0) M) fun x936 =>
          if x936 < 0 then
            bd (qk (rcall M 4 y11 1 0) M) fun x941 =>
            gd (decide (¬ (x941 < 0))) <|
            bd (qk (rcall M 23 y11 0 0) M) fun x946 =>
            gd (decide (¬ (x946 < 0))) <|
            lt_ (y11 + 1) fun x951 =>
            fL_holds_L50 M N y1 y2 y3 y4 x814 x819 x824 x829 v908 1 x951
          else
            bd (qk (rcall M 4 y11 3 0) M) fun x953 =>
            if x953 = 1 then
              bd (qk (rcall M 4 y11 1 0) M) fun x959 =>
              gd (decide (¬ (x959 < 0))) <|
              bd (qk (rcall M 23 y11 0 0) M) fun x964 =>
              gd (decide (¬ (x964 < 0))) <|
              lt_ (y11 + 1) fun x969 =>
              fL_holds_L50 M N y1 y2 y3 y4 x814 x819 x824 x829 v908 1 x969
            else
              none
        else
          bd (qk (rcall M 4 y11 0 0) M) fun x913 =>
          if x913 < 0 then
            none
          else
            bd (qk (rcall M 4 y11 3 0) M) fun x918 =>
            if x918 = 1 then
              none
            else
              bd (qk (rcall M 4 y11 1 0) M) fun x923 =>
              gd (decide (¬ (x923 < 0))) <|
              bd (qk (rcall M 23 y11 0 0) M) fun x928 =>
              gd (decide (¬ (x928 < 0))) <|
              lt_ (y11 + 1) fun x933 =>
              fL_holds_L50 M N y1 y2 y3 y4 x814 x819 x824 x829 v908 1 x933
set_option maxHeartbeats 4000000 in
set_option maxRecDepth 20000 in
theorem lpL_holds_50 {l : Launch} {G : UG} (hG : uAll G) (hN : uNo G) (hlt : l.stackTraces = false) {n : Nat} (hn : n ≤ 850) {M : Nat → Nat → Int32} {r : Int32} {p : Program} {e : Env} {s : State} {m : MethodId} {args : Array Value} {below : List Frame} {meth : Method} {c : Code} (X : UC p s m args meth c cL_holds 16 RL (gA G (uA G))) (hret : meth.sig.returnType = some .boolean) : ∀ (N k : Nat) (y1 : Int32) (y2 : Int32) (y3 : Int32) (y4 : Int32) (y5 : Int32) (y6 : Int32) (y7 : Int32) (y8 : Int32) (y9 : Int32) (y10 : Int32) (y11 : Int32) (H : Heap) (locs : List Loc) (ls : Array Slot), fL_holds_L50 M N y1 y2 y3 y4 y5 y6 y7 y8 y9 y10 y11 = some r → k + (13 * N + 312) ≤ 437 → WO (uA G) (fun _ => True) G n M s H locs → lv_has ls 16 [(0, .ref (ga G 18 0)), (1, .int y1), (2, .int y2), (3, .int y3), (4, .int y4), (5, .int y5), (6, .int y6), (7, .int y7), (8, .int y8), (9, .int y9), (10, .int y10), (11, .int y11)] → W p l e (nR 11 437 2622 214) s m args below meth c H locs k (6 * k) (MQ below (oQi G .boolean r n M) args s 437 2622 (uA G)) (F0 m 50 ls []) := by
  have hx := X.hx
  have hb := X.hb
  have hA : ∀ q, uA G q → uA G q := fun q h => h
  intro N
  induction N with
  | zero => intro k y1 y2 y3 y4 y5 y6 y7 y8 y9 y10 y11 H locs ls h hk Z hl; rw [fL_holds_L50] at h; cases h
  | succ N ih =>
    intro k y1 y2 y3 y4 y5 y6 y7 y8 y9 y10 y11 H locs ls h hk Z hl
    rw [fL_holds_L50] at h
    refine lv_iload hx hb dL_holds_50 (lv_at hl 11 rfl) ?_
    refine lv_iload_n hx hb dL_holds_52 rfl (lv_at hl 3 rfl) ?_
    refine lv_icmp_ge (tgt := 286) hx hb dL_holds_53 (by decide) (fun c10 => ?_) (fun c10 => ?_)
    · have h := it_t h c10
      refine lv_iconst (v := 0) hx hb dL_holds_286 (by decide) ?_
      refine lv_istore (lv' := [(11, .int 0), (0, .ref (ga G 18 0)), (1, .int y1), (2, .int y2), (3, .int y3), (4, .int y4), (5, .int y5), (6, .int y6), (7, .int y7), (8, .int y8), (9, .int y9), (10, .int y10)]) hx hb dL_holds_287 hl (by decide) rfl (fun ls hl => ?_)
      refine lv_iconst (v := 0) hx hb dL_holds_289 (by decide) ?_
      refine lv_istore (lv' := [(12, .int 0), (11, .int 0), (0, .ref (ga G 18 0)), (1, .int y1), (2, .int y2), (3, .int y3), (4, .int y4), (5, .int y5), (6, .int y6), (7, .int y7), (8, .int y8), (9, .int y9), (10, .int y10)]) hx hb dL_holds_290 hl (by decide) rfl (fun ls hl => ?_)
      refine W.widen (k := k + 0) (n := 6 * (k + 0)) (by omega) (by omega) ?_
      exact lpL_holds_292 hG hN hlt hn X hret 5 _ _ _ _ _ _ _ _ _ _ _ _ _ _ _ _ h (by omega) Z (lv_sub hl [2, 3, 4, 5, 6, 7, 8, 9, 10, 11, 12, 1, 0] rfl)
    · have h := it_f h c10
      refine lv_iload hx hb dL_holds_56 (lv_at hl 10 rfl) ?_
      obtain ⟨z807, h⟩ := gd_e h
      refine lv_if_eq (tgt := 286) hx hb dL_holds_58 (by decide) (fun cn => absurd cn (of_decide_eq_true z807)) (fun c806 => ?_)
      refine lv_aload_n hx hb dL_holds_61 rfl (lv_at hl 0 rfl) ?_
      refine lv_iconst (v := 4) hx hb dL_holds_62 (by decide) ?_
      refine lv_iload hx hb dL_holds_63 (lv_at hl 11 rfl) ?_
      refine lv_iconst (v := 4) hx hb dL_holds_65 (by decide) ?_
      refine lv_iconst (v := 0) hx hb dL_holds_66 (by decide) ?_
      obtain ⟨x808, e809, h⟩ := bd_e h
      refine o_cS X hA (stb_t _) Z hl.1 (kG_callq hG hN hlt hn (qk_e e809)) cw_L_194 ⟨Nat.le_of_ble_eq_true rfl, Nat.le_of_ble_eq_true rfl⟩ rfl rfl (Nat.le_of_ble_eq_true rfl) ⟨show k + 1 ≤ 437 by omega, show 6 * k + 6 ≤ 2622 by omega⟩ dL_holds_67 (fun H locs Z n810 => ?_)
      refine lv_istore (lv' := [(12, .int x808), (0, .ref (ga G 18 0)), (1, .int y1), (2, .int y2), (3, .int y3), (4, .int y4), (5, .int y5), (6, .int y6), (7, .int y7), (8, .int y8), (9, .int y9), (10, .int y10), (11, .int y11)]) hx hb dL_holds_70 hl (by decide) rfl (fun ls hl => ?_)
      refine lv_iload hx hb dL_holds_72 (lv_at hl 6 rfl) ?_
      refine lv_aload_n hx hb dL_holds_74 rfl (lv_at hl 1 rfl) ?_
      refine lv_iconst (v := 4) hx hb dL_holds_75 (by decide) ?_
      refine lv_iload hx hb dL_holds_76 (lv_at hl 12 rfl) ?_
      refine lv_iconst (v := 5) hx hb dL_holds_78 (by decide) ?_
      refine lv_iconst (v := 0) hx hb dL_holds_79 (by decide) ?_
      obtain ⟨x811, e812, h⟩ := bd_e h
      refine o_cS X hA (stb_t _) Z hl.1 (kG_callq hG hN hlt hn (qk_e e812)) cw_L_194 ⟨Nat.le_of_ble_eq_true rfl, Nat.le_of_ble_eq_true rfl⟩ rfl rfl (Nat.le_of_ble_eq_true rfl) ⟨show k + 1 + 1 ≤ 437 by omega, show 6 * k + 6 + 6 ≤ 2622 by omega⟩ dL_holds_80 (fun H locs Z n813 => ?_)
      refine lv_iadd hx hb dL_holds_83 ?_
      obtain ⟨x814, e815, h⟩ := lt_e h
      refine u_topi e815 ?_
      refine lv_istore (lv' := [(5, .int x814), (12, .int x808), (0, .ref (ga G 18 0)), (1, .int y1), (2, .int y2), (3, .int y3), (4, .int y4), (6, .int y6), (7, .int y7), (8, .int y8), (9, .int y9), (10, .int y10), (11, .int y11)]) hx hb dL_holds_84 hl (by decide) rfl (fun ls hl => ?_)
      refine lv_iload hx hb dL_holds_86 (lv_at hl 7 rfl) ?_
      refine lv_aload_n hx hb dL_holds_88 rfl (lv_at hl 2 rfl) ?_
      refine lv_iconst (v := 4) hx hb dL_holds_89 (by decide) ?_
      refine lv_iload hx hb dL_holds_90 (lv_at hl 12 rfl) ?_
      refine lv_iconst (v := 2) hx hb dL_holds_92 (by decide) ?_
      refine lv_iconst (v := 0) hx hb dL_holds_93 (by decide) ?_
      obtain ⟨x816, e817, h⟩ := bd_e h
      refine o_cS X hA (stb_t _) Z hl.1 (kG_callq hG hN hlt hn (qk_e e817)) cw_L_194 ⟨Nat.le_of_ble_eq_true rfl, Nat.le_of_ble_eq_true rfl⟩ rfl rfl (Nat.le_of_ble_eq_true rfl) ⟨show k + 1 + 1 + 1 ≤ 437 by omega, show 6 * k + 6 + 6 + 6 ≤ 2622 by omega⟩ dL_holds_94 (fun H locs Z n818 => ?_)
      refine lv_iadd hx hb dL_holds_97 ?_
      obtain ⟨x819, e820, h⟩ := lt_e h
      refine u_topi e820 ?_
      refine lv_istore (lv' := [(6, .int x819), (5, .int x814), (12, .int x808), (0, .ref (ga G 18 0)), (1, .int y1), (2, .int y2), (3, .int y3), (4, .int y4), (7, .int y7), (8, .int y8), (9, .int y9), (10, .int y10), (11, .int y11)]) hx hb dL_holds_98 hl (by decide) rfl (fun ls hl => ?_)
      refine lv_iload hx hb dL_holds_100 (lv_at hl 8 rfl) ?_
      refine lv_aload_n hx hb dL_holds_102 rfl (lv_at hl 3 rfl) ?_
      refine lv_iconst (v := 4) hx hb dL_holds_103 (by decide) ?_
      refine lv_iload hx hb dL_holds_104 (lv_at hl 12 rfl) ?_
      refine lv_bipush (v := 6) hx hb dL_holds_106 (by decide) ?_
      refine lv_iconst (v := 0) hx hb dL_holds_108 (by decide) ?_
      obtain ⟨x821, e822, h⟩ := bd_e h
      refine o_cS X hA (stb_t _) Z hl.1 (kG_callq hG hN hlt hn (qk_e e822)) cw_L_194 ⟨Nat.le_of_ble_eq_true rfl, Nat.le_of_ble_eq_true rfl⟩ rfl rfl (Nat.le_of_ble_eq_true rfl) ⟨show k + 1 + 1 + 1 + 1 ≤ 437 by omega, show 6 * k + 6 + 6 + 6 + 6 ≤ 2622 by omega⟩ dL_holds_109 (fun H locs Z n823 => ?_)
      refine lv_iadd hx hb dL_holds_112 ?_
      obtain ⟨x824, e825, h⟩ := lt_e h
      refine u_topi e825 ?_
      refine lv_istore (lv' := [(7, .int x824), (6, .int x819), (5, .int x814), (12, .int x808), (0, .ref (ga G 18 0)), (1, .int y1), (2, .int y2), (3, .int y3), (4, .int y4), (8, .int y8), (9, .int y9), (10, .int y10), (11, .int y11)]) hx hb dL_holds_113 hl (by decide) rfl (fun ls hl => ?_)
      refine lv_iload hx hb dL_holds_115 (lv_at hl 9 rfl) ?_
      refine lv_aload_n hx hb dL_holds_117 rfl (lv_at hl 4 rfl) ?_
      refine lv_iconst (v := 4) hx hb dL_holds_118 (by decide) ?_
      refine lv_iload hx hb dL_holds_119 (lv_at hl 12 rfl) ?_
      refine lv_bipush (v := 7) hx hb dL_holds_121 (by decide) ?_
      refine lv_iconst (v := 0) hx hb dL_holds_123 (by decide) ?_
      obtain ⟨x826, e827, h⟩ := bd_e h
      refine o_cS X hA (stb_t _) Z hl.1 (kG_callq hG hN hlt hn (qk_e e827)) cw_L_194 ⟨Nat.le_of_ble_eq_true rfl, Nat.le_of_ble_eq_true rfl⟩ rfl rfl (Nat.le_of_ble_eq_true rfl) ⟨show k + 1 + 1 + 1 + 1 + 1 ≤ 437 by omega, show 6 * k + 6 + 6 + 6 + 6 + 6 ≤ 2622 by omega⟩ dL_holds_124 (fun H locs Z n828 => ?_)
      refine lv_iadd hx hb dL_holds_127 ?_
      obtain ⟨x829, e830, h⟩ := lt_e h
      refine u_topi e830 ?_
      refine lv_istore (lv' := [(8, .int x829), (7, .int x824), (6, .int x819), (5, .int x814), (12, .int x808), (0, .ref (ga G 18 0)), (1, .int y1), (2, .int y2), (3, .int y3), (4, .int y4), (9, .int y9), (10, .int y10), (11, .int y11)]) hx hb dL_holds_128 hl (by decide) rfl (fun ls hl => ?_)
      refine lv_aload_n hx hb dL_holds_130 rfl (lv_at hl 5 rfl) ?_
      refine lv_iconst (v := 4) hx hb dL_holds_131 (by decide) ?_
      refine lv_iload hx hb dL_holds_132 (lv_at hl 12 rfl) ?_
      refine lv_iconst (v := 0) hx hb dL_holds_134 (by decide) ?_
      refine lv_iconst (v := 0) hx hb dL_holds_135 (by decide) ?_
      obtain ⟨x831, e832, h⟩ := bd_e h
      refine o_cS X hA (stb_t _) Z hl.1 (kG_callq hG hN hlt hn (qk_e e832)) cw_L_194 ⟨Nat.le_of_ble_eq_true rfl, Nat.le_of_ble_eq_true rfl⟩ rfl rfl (Nat.le_of_ble_eq_true rfl) ⟨show k + 1 + 1 + 1 + 1 + 1 + 1 ≤ 437 by omega, show 6 * k + 6 + 6 + 6 + 6 + 6 + 6 ≤ 2622 by omega⟩ dL_holds_136 (fun H locs Z n833 => ?_)
      refine lv_aload_n hx hb dL_holds_139 rfl (lv_at hl 5 rfl) ?_
      refine lv_iconst (v := 4) hx hb dL_holds_140 (by decide) ?_
      refine lv_iload hx hb dL_holds_141 (lv_at hl 12 rfl) ?_
      refine lv_bipush (v := 7) hx hb dL_holds_143 (by decide) ?_
      refine lv_iconst (v := 0) hx hb dL_holds_145 (by decide) ?_
      obtain ⟨x834, e835, h⟩ := bd_e h
      refine o_cS X hA (stb_t _) Z hl.1 (kG_callq hG hN hlt hn (qk_e e835)) cw_L_194 ⟨Nat.le_of_ble_eq_true rfl, Nat.le_of_ble_eq_true rfl⟩ rfl rfl (Nat.le_of_ble_eq_true rfl) ⟨show k + 1 + 1 + 1 + 1 + 1 + 1 + 1 ≤ 437 by omega, show 6 * k + 6 + 6 + 6 + 6 + 6 + 6 + 6 ≤ 2622 by omega⟩ dL_holds_146 (fun H locs Z n836 => ?_)
      refine lv_isub hx hb dL_holds_149 ?_
      obtain ⟨x837, e838, h⟩ := lt_e h
      refine u_topi e838 ?_
      refine lv_istore (lv' := [(13, .int x837), (8, .int x829), (7, .int x824), (6, .int x819), (5, .int x814), (12, .int x808), (0, .ref (ga G 18 0)), (1, .int y1), (2, .int y2), (3, .int y3), (4, .int y4), (9, .int y9), (10, .int y10), (11, .int y11)]) hx hb dL_holds_150 hl (by decide) rfl (fun ls hl => ?_)
      refine lv_iload hx hb dL_holds_152 (lv_at hl 11 rfl) ?_
      refine lv_iconst (v := (-1)) hx hb dL_holds_154 (by decide) ?_
      refine lv_icmp_eq (tgt := 183) hx hb dL_holds_155 (by decide) (fun c839 => ?_) (fun c839 => ?_)
      · have h := it_t h c839
        refine lv_iload hx hb dL_holds_183 (lv_at hl 13 rfl) ?_
        refine lv_goto (tgt := 190) hx hb dL_holds_185 (by decide) ?_
        refine lv_istore (lv' := [(9, .int y11), (13, .int x837), (8, .int x829), (7, .int x824), (6, .int x819), (5, .int x814), (12, .int x808), (0, .ref (ga G 18 0)), (1, .int y1), (2, .int y2), (3, .int y3), (4, .int y4), (10, .int y10), (11, .int y11)]) hx hb dL_holds_190 hl (by decide) rfl (fun ls hl => ?_)
        refine lv_iload hx hb dL_holds_192 (lv_at hl 11 rfl) ?_
        refine lv_iload hx hb dL_holds_194 (lv_at hl 13 rfl) ?_
        refine lv_ishr hx hb dL_holds_196 ?_
        refine lv_iconst (v := 1) hx hb dL_holds_197 (by decide) ?_
        refine lv_iand hx hb dL_holds_198 ?_
        refine lv_iload hx hb dL_holds_199 (lv_at hl 6 rfl) ?_
        obtain ⟨z841, h⟩ := gd_e h
        refine lv_icmp_ne (tgt := 277) hx hb dL_holds_201 (by decide) (fun cn => absurd (of_decide_eq_true z841) cn) (fun c840 => ?_)
        refine lv_iload hx hb dL_holds_204 (lv_at hl 6 rfl) ?_
        refine lv_iconst (v := 1) hx hb dL_holds_206 (by decide) ?_
        refine lv_icmp_ne (tgt := 214) hx hb dL_holds_207 (by decide) (fun c842 => ?_) (fun c842 => ?_)
        · have h := it_f h c842
          refine lv_iconst (v := 0) hx hb dL_holds_214 (by decide) ?_
          refine lv_aload_n hx hb dL_holds_215 rfl (lv_at hl 7 rfl) ?_
          refine lv_iconst (v := 4) hx hb dL_holds_216 (by decide) ?_
          refine lv_iload hx hb dL_holds_217 (lv_at hl 13 rfl) ?_
          refine lv_iconst (v := 0) hx hb dL_holds_219 (by decide) ?_
          refine lv_iconst (v := 0) hx hb dL_holds_220 (by decide) ?_
          obtain ⟨x843, e844, h⟩ := bd_e h
          refine o_cS X hA (stb_t _) Z hl.1 (kG_callq hG hN hlt hn (qk_e e844)) cw_L_194 ⟨Nat.le_of_ble_eq_true rfl, Nat.le_of_ble_eq_true rfl⟩ rfl rfl (Nat.le_of_ble_eq_true rfl) ⟨show k + 1 + 1 + 1 + 1 + 1 + 1 + 1 + 1 ≤ 437 by omega, show 6 * k + 6 + 6 + 6 + 6 + 6 + 6 + 6 + 6 ≤ 2622 by omega⟩ dL_holds_221 (fun H locs Z n845 => ?_)
          refine lv_if_lt (tgt := 240) hx hb dL_holds_224 (by decide) (fun c846 => ?_) (fun c846 => ?_)
          · have h := it_t h c846
            refine lv_iconst (v := 1) hx hb dL_holds_240 (by decide) ?_
            refine lv_goto (tgt := 245) hx hb dL_holds_241 (by decide) ?_
            cases h
          · have h := it_f h c846
            refine lv_aload_n hx hb dL_holds_227 rfl (lv_at hl 7 rfl) ?_
            refine lv_iconst (v := 4) hx hb dL_holds_228 (by decide) ?_
            refine lv_iload hx hb dL_holds_229 (lv_at hl 13 rfl) ?_
            refine lv_iconst (v := 3) hx hb dL_holds_231 (by decide) ?_
            refine lv_iconst (v := 0) hx hb dL_holds_232 (by decide) ?_
            obtain ⟨x848, e849, h⟩ := bd_e h
            refine o_cS X hA (stb_t _) Z hl.1 (kG_callq hG hN hlt hn (qk_e e849)) cw_L_194 ⟨Nat.le_of_ble_eq_true rfl, Nat.le_of_ble_eq_true rfl⟩ rfl rfl (Nat.le_of_ble_eq_true rfl) ⟨show k + 1 + 1 + 1 + 1 + 1 + 1 + 1 + 1 + 1 ≤ 437 by omega, show 6 * k + 6 + 6 + 6 + 6 + 6 + 6 + 6 + 6 + 6 ≤ 2622 by omega⟩ dL_holds_233 (fun H locs Z n850 => ?_)
            refine lv_iconst (v := 1) hx hb dL_holds_236 (by decide) ?_
            refine lv_icmp_ne (tgt := 244) hx hb dL_holds_237 (by decide) (fun c851 => ?_) (fun c851 => ?_)
            · have h := it_f h c851
              refine lv_iconst (v := 0) hx hb dL_holds_244 (by decide) ?_
              refine lv_icmp_ne (tgt := 277) hx hb dL_holds_245 (by decide) (fun cn => absurd (by decide : (0 : Int32) = 0) cn) (fun c852 => ?_)
              refine lv_aload_n hx hb dL_holds_248 rfl (lv_at hl 7 rfl) ?_
              refine lv_iconst (v := 4) hx hb dL_holds_249 (by decide) ?_
              refine lv_iload hx hb dL_holds_250 (lv_at hl 13 rfl) ?_
              refine lv_iconst (v := 1) hx hb dL_holds_252 (by decide) ?_
              refine lv_iconst (v := 0) hx hb dL_holds_253 (by decide) ?_
              obtain ⟨x853, e854, h⟩ := bd_e h
              refine o_cS X hA (stb_t _) Z hl.1 (kG_callq hG hN hlt hn (qk_e e854)) cw_L_194 ⟨Nat.le_of_ble_eq_true rfl, Nat.le_of_ble_eq_true rfl⟩ rfl rfl (Nat.le_of_ble_eq_true rfl) ⟨show k + 1 + 1 + 1 + 1 + 1 + 1 + 1 + 1 + 1 + 1 ≤ 437 by omega, show 6 * k + 6 + 6 + 6 + 6 + 6 + 6 + 6 + 6 + 6 + 6 ≤ 2622 by omega⟩ dL_holds_254 (fun H locs Z n855 => ?_)
              obtain ⟨z857, h⟩ := gd_e h
              refine lv_if_lt (tgt := 277) hx hb dL_holds_257 (by decide) (fun cn => absurd cn (of_decide_eq_true z857)) (fun c856 => ?_)
              refine lv_aload_n hx hb dL_holds_260 rfl (lv_at hl 7 rfl) ?_
              refine lv_bipush (v := 23) hx hb dL_holds_261 (by decide) ?_
              refine lv_iload hx hb dL_holds_263 (lv_at hl 13 rfl) ?_
              refine lv_iconst (v := 0) hx hb dL_holds_265 (by decide) ?_
              refine lv_iconst (v := 0) hx hb dL_holds_266 (by decide) ?_
              obtain ⟨x858, e859, h⟩ := bd_e h
              refine o_cS X hA (stb_t _) Z hl.1 (kG_callq hG hN hlt hn (qk_e e859)) cw_L_194 ⟨Nat.le_of_ble_eq_true rfl, Nat.le_of_ble_eq_true rfl⟩ rfl rfl (Nat.le_of_ble_eq_true rfl) ⟨show k + 1 + 1 + 1 + 1 + 1 + 1 + 1 + 1 + 1 + 1 + 1 ≤ 437 by omega, show 6 * k + 6 + 6 + 6 + 6 + 6 + 6 + 6 + 6 + 6 + 6 + 6 ≤ 2622 by omega⟩ dL_holds_267 (fun H locs Z n860 => ?_)
              obtain ⟨z862, h⟩ := gd_e h
              refine lv_if_lt (tgt := 277) hx hb dL_holds_270 (by decide) (fun cn => absurd cn (of_decide_eq_true z862)) (fun c861 => ?_)
              refine lv_iconst (v := 1) hx hb dL_holds_273 (by decide) ?_
              refine lv_goto (tgt := 278) hx hb dL_holds_274 (by decide) ?_
              refine lv_istore (lv' := [(10, .int 1), (9, .int y11), (13, .int x837), (8, .int x829), (7, .int x824), (6, .int x819), (5, .int x814), (12, .int x808), (0, .ref (ga G 18 0)), (1, .int y1), (2, .int y2), (3, .int y3), (4, .int y4), (11, .int y11)]) hx hb dL_holds_278 hl (by decide) rfl (fun ls hl => ?_)
              obtain ⟨x863, e864, h⟩ := lt_e h
              refine lv_iinc (v := x863) (lv' := [(11, .int x863), (10, .int 1), (9, .int y11), (13, .int x837), (8, .int x829), (7, .int x824), (6, .int x819), (5, .int x814), (12, .int x808), (0, .ref (ga G 18 0)), (1, .int y1), (2, .int y2), (3, .int y3), (4, .int y4)]) hx hb dL_holds_280 hl (k := 13) rfl (by rw [e864]; rfl) (by decide) rfl (fun ls hl => ?_)
              refine lv_goto (tgt := 50) hx hb dL_holds_283 (by decide) ?_
              refine W.widen (k := k + 13) (n := 6 * (k + 13)) (by omega) (by omega) ?_
              exact ih (k + 13) _ _ _ _ _ _ _ _ _ _ _ _ _ _ h (by omega) Z (lv_sub hl [9, 10, 11, 12, 13, 7, 6, 5, 4, 2, 1, 0] rfl)
            · have h := it_t h c851
              refine lv_iconst (v := 1) hx hb dL_holds_240 (by decide) ?_
              refine lv_goto (tgt := 245) hx hb dL_holds_241 (by decide) ?_
              cases h
        · have h := it_t h c842
          refine lv_iconst (v := 1) hx hb dL_holds_210 (by decide) ?_
          refine lv_goto (tgt := 215) hx hb dL_holds_211 (by decide) ?_
          refine lv_aload_n hx hb dL_holds_215 rfl (lv_at hl 7 rfl) ?_
          refine lv_iconst (v := 4) hx hb dL_holds_216 (by decide) ?_
          refine lv_iload hx hb dL_holds_217 (lv_at hl 13 rfl) ?_
          refine lv_iconst (v := 0) hx hb dL_holds_219 (by decide) ?_
          refine lv_iconst (v := 0) hx hb dL_holds_220 (by decide) ?_
          obtain ⟨x866, e867, h⟩ := bd_e h
          refine o_cS X hA (stb_t _) Z hl.1 (kG_callq hG hN hlt hn (qk_e e867)) cw_L_194 ⟨Nat.le_of_ble_eq_true rfl, Nat.le_of_ble_eq_true rfl⟩ rfl rfl (Nat.le_of_ble_eq_true rfl) ⟨show k + 1 + 1 + 1 + 1 + 1 + 1 + 1 + 1 ≤ 437 by omega, show 6 * k + 6 + 6 + 6 + 6 + 6 + 6 + 6 + 6 ≤ 2622 by omega⟩ dL_holds_221 (fun H locs Z n868 => ?_)
          refine lv_if_lt (tgt := 240) hx hb dL_holds_224 (by decide) (fun c869 => ?_) (fun c869 => ?_)
          · have h := it_t h c869
            refine lv_iconst (v := 1) hx hb dL_holds_240 (by decide) ?_
            refine lv_goto (tgt := 245) hx hb dL_holds_241 (by decide) ?_
            refine lv_icmp_ne (tgt := 277) hx hb dL_holds_245 (by decide) (fun cn => absurd (by decide : (1 : Int32) = 1) cn) (fun c870 => ?_)
            refine lv_aload_n hx hb dL_holds_248 rfl (lv_at hl 7 rfl) ?_
            refine lv_iconst (v := 4) hx hb dL_holds_249 (by decide) ?_
            refine lv_iload hx hb dL_holds_250 (lv_at hl 13 rfl) ?_
            refine lv_iconst (v := 1) hx hb dL_holds_252 (by decide) ?_
            refine lv_iconst (v := 0) hx hb dL_holds_253 (by decide) ?_
            obtain ⟨x871, e872, h⟩ := bd_e h
            refine o_cS X hA (stb_t _) Z hl.1 (kG_callq hG hN hlt hn (qk_e e872)) cw_L_194 ⟨Nat.le_of_ble_eq_true rfl, Nat.le_of_ble_eq_true rfl⟩ rfl rfl (Nat.le_of_ble_eq_true rfl) ⟨show k + 1 + 1 + 1 + 1 + 1 + 1 + 1 + 1 + 1 ≤ 437 by omega, show 6 * k + 6 + 6 + 6 + 6 + 6 + 6 + 6 + 6 + 6 ≤ 2622 by omega⟩ dL_holds_254 (fun H locs Z n873 => ?_)
            obtain ⟨z875, h⟩ := gd_e h
            refine lv_if_lt (tgt := 277) hx hb dL_holds_257 (by decide) (fun cn => absurd cn (of_decide_eq_true z875)) (fun c874 => ?_)
            refine lv_aload_n hx hb dL_holds_260 rfl (lv_at hl 7 rfl) ?_
            refine lv_bipush (v := 23) hx hb dL_holds_261 (by decide) ?_
            refine lv_iload hx hb dL_holds_263 (lv_at hl 13 rfl) ?_
            refine lv_iconst (v := 0) hx hb dL_holds_265 (by decide) ?_
            refine lv_iconst (v := 0) hx hb dL_holds_266 (by decide) ?_
            obtain ⟨x876, e877, h⟩ := bd_e h
            refine o_cS X hA (stb_t _) Z hl.1 (kG_callq hG hN hlt hn (qk_e e877)) cw_L_194 ⟨Nat.le_of_ble_eq_true rfl, Nat.le_of_ble_eq_true rfl⟩ rfl rfl (Nat.le_of_ble_eq_true rfl) ⟨show k + 1 + 1 + 1 + 1 + 1 + 1 + 1 + 1 + 1 + 1 ≤ 437 by omega, show 6 * k + 6 + 6 + 6 + 6 + 6 + 6 + 6 + 6 + 6 + 6 ≤ 2622 by omega⟩ dL_holds_267 (fun H locs Z n878 => ?_)
            obtain ⟨z880, h⟩ := gd_e h
            refine lv_if_lt (tgt := 277) hx hb dL_holds_270 (by decide) (fun cn => absurd cn (of_decide_eq_true z880)) (fun c879 => ?_)
            refine lv_iconst (v := 1) hx hb dL_holds_273 (by decide) ?_
            refine lv_goto (tgt := 278) hx hb dL_holds_274 (by decide) ?_
            refine lv_istore (lv' := [(10, .int 1), (9, .int y11), (13, .int x837), (8, .int x829), (7, .int x824), (6, .int x819), (5, .int x814), (12, .int x808), (0, .ref (ga G 18 0)), (1, .int y1), (2, .int y2), (3, .int y3), (4, .int y4), (11, .int y11)]) hx hb dL_holds_278 hl (by decide) rfl (fun ls hl => ?_)
            obtain ⟨x881, e882, h⟩ := lt_e h
            refine lv_iinc (v := x881) (lv' := [(11, .int x881), (10, .int 1), (9, .int y11), (13, .int x837), (8, .int x829), (7, .int x824), (6, .int x819), (5, .int x814), (12, .int x808), (0, .ref (ga G 18 0)), (1, .int y1), (2, .int y2), (3, .int y3), (4, .int y4)]) hx hb dL_holds_280 hl (k := 13) rfl (by rw [e882]; rfl) (by decide) rfl (fun ls hl => ?_)
            refine lv_goto (tgt := 50) hx hb dL_holds_283 (by decide) ?_
            refine W.widen (k := k + 13) (n := 6 * (k + 13)) (by omega) (by omega) ?_
            exact ih (k + 13) _ _ _ _ _ _ _ _ _ _ _ _ _ _ h (by omega) Z (lv_sub hl [9, 10, 11, 12, 13, 7, 6, 5, 4, 2, 1, 0] rfl)
          · have h := it_f h c869
            refine lv_aload_n hx hb dL_holds_227 rfl (lv_at hl 7 rfl) ?_
            refine lv_iconst (v := 4) hx hb dL_holds_228 (by decide) ?_
            refine lv_iload hx hb dL_holds_229 (lv_at hl 13 rfl) ?_
            refine lv_iconst (v := 3) hx hb dL_holds_231 (by decide) ?_
            refine lv_iconst (v := 0) hx hb dL_holds_232 (by decide) ?_
            obtain ⟨x883, e884, h⟩ := bd_e h
            refine o_cS X hA (stb_t _) Z hl.1 (kG_callq hG hN hlt hn (qk_e e884)) cw_L_194 ⟨Nat.le_of_ble_eq_true rfl, Nat.le_of_ble_eq_true rfl⟩ rfl rfl (Nat.le_of_ble_eq_true rfl) ⟨show k + 1 + 1 + 1 + 1 + 1 + 1 + 1 + 1 + 1 ≤ 437 by omega, show 6 * k + 6 + 6 + 6 + 6 + 6 + 6 + 6 + 6 + 6 ≤ 2622 by omega⟩ dL_holds_233 (fun H locs Z n885 => ?_)
            refine lv_iconst (v := 1) hx hb dL_holds_236 (by decide) ?_
            refine lv_icmp_ne (tgt := 244) hx hb dL_holds_237 (by decide) (fun c886 => ?_) (fun c886 => ?_)
            · have h := it_f h c886
              refine lv_iconst (v := 0) hx hb dL_holds_244 (by decide) ?_
              cases h
            · have h := it_t h c886
              refine lv_iconst (v := 1) hx hb dL_holds_240 (by decide) ?_
              refine lv_goto (tgt := 245) hx hb dL_holds_241 (by decide) ?_
              refine lv_icmp_ne (tgt := 277) hx hb dL_holds_245 (by decide) (fun cn => absurd (by decide : (1 : Int32) = 1) cn) (fun c888 => ?_)
              refine lv_aload_n hx hb dL_holds_248 rfl (lv_at hl 7 rfl) ?_
              refine lv_iconst (v := 4) hx hb dL_holds_249 (by decide) ?_
              refine lv_iload hx hb dL_holds_250 (lv_at hl 13 rfl) ?_
              refine lv_iconst (v := 1) hx hb dL_holds_252 (by decide) ?_
              refine lv_iconst (v := 0) hx hb dL_holds_253 (by decide) ?_
              obtain ⟨x889, e890, h⟩ := bd_e h
              refine o_cS X hA (stb_t _) Z hl.1 (kG_callq hG hN hlt hn (qk_e e890)) cw_L_194 ⟨Nat.le_of_ble_eq_true rfl, Nat.le_of_ble_eq_true rfl⟩ rfl rfl (Nat.le_of_ble_eq_true rfl) ⟨show k + 1 + 1 + 1 + 1 + 1 + 1 + 1 + 1 + 1 + 1 ≤ 437 by omega, show 6 * k + 6 + 6 + 6 + 6 + 6 + 6 + 6 + 6 + 6 + 6 ≤ 2622 by omega⟩ dL_holds_254 (fun H locs Z n891 => ?_)
              obtain ⟨z893, h⟩ := gd_e h
              refine lv_if_lt (tgt := 277) hx hb dL_holds_257 (by decide) (fun cn => absurd cn (of_decide_eq_true z893)) (fun c892 => ?_)
              refine lv_aload_n hx hb dL_holds_260 rfl (lv_at hl 7 rfl) ?_
              refine lv_bipush (v := 23) hx hb dL_holds_261 (by decide) ?_
              refine lv_iload hx hb dL_holds_263 (lv_at hl 13 rfl) ?_
              refine lv_iconst (v := 0) hx hb dL_holds_265 (by decide) ?_
              refine lv_iconst (v := 0) hx hb dL_holds_266 (by decide) ?_
              obtain ⟨x894, e895, h⟩ := bd_e h
              refine o_cS X hA (stb_t _) Z hl.1 (kG_callq hG hN hlt hn (qk_e e895)) cw_L_194 ⟨Nat.le_of_ble_eq_true rfl, Nat.le_of_ble_eq_true rfl⟩ rfl rfl (Nat.le_of_ble_eq_true rfl) ⟨show k + 1 + 1 + 1 + 1 + 1 + 1 + 1 + 1 + 1 + 1 + 1 ≤ 437 by omega, show 6 * k + 6 + 6 + 6 + 6 + 6 + 6 + 6 + 6 + 6 + 6 + 6 ≤ 2622 by omega⟩ dL_holds_267 (fun H locs Z n896 => ?_)
              obtain ⟨z898, h⟩ := gd_e h
              refine lv_if_lt (tgt := 277) hx hb dL_holds_270 (by decide) (fun cn => absurd cn (of_decide_eq_true z898)) (fun c897 => ?_)
              refine lv_iconst (v := 1) hx hb dL_holds_273 (by decide) ?_
              refine lv_goto (tgt := 278) hx hb dL_holds_274 (by decide) ?_
              refine lv_istore (lv' := [(10, .int 1), (9, .int y11), (13, .int x837), (8, .int x829), (7, .int x824), (6, .int x819), (5, .int x814), (12, .int x808), (0, .ref (ga G 18 0)), (1, .int y1), (2, .int y2), (3, .int y3), (4, .int y4), (11, .int y11)]) hx hb dL_holds_278 hl (by decide) rfl (fun ls hl => ?_)
              obtain ⟨x899, e900, h⟩ := lt_e h
              refine lv_iinc (v := x899) (lv' := [(11, .int x899), (10, .int 1), (9, .int y11), (13, .int x837), (8, .int x829), (7, .int x824), (6, .int x819), (5, .int x814), (12, .int x808), (0, .ref (ga G 18 0)), (1, .int y1), (2, .int y2), (3, .int y3), (4, .int y4)]) hx hb dL_holds_280 hl (k := 13) rfl (by rw [e900]; rfl) (by decide) rfl (fun ls hl => ?_)
              refine lv_goto (tgt := 50) hx hb dL_holds_283 (by decide) ?_
              refine W.widen (k := k + 13) (n := 6 * (k + 13)) (by omega) (by omega) ?_
              exact ih (k + 13) _ _ _ _ _ _ _ _ _ _ _ _ _ _ h (by omega) Z (lv_sub hl [9, 10, 11, 12, 13, 7, 6, 5, 4, 2, 1, 0] rfl)
      · have h := it_f h c839
        refine lv_iload hx hb dL_holds_158 (lv_at hl 0 rfl) ?_
        refine lv_aload_n hx hb dL_holds_160 rfl (lv_at hl 6 rfl) ?_
        refine lv_iconst (v := 4) hx hb dL_holds_161 (by decide) ?_
        refine lv_iload hx hb dL_holds_162 (lv_at hl 11 rfl) ?_
        refine lv_iconst (v := 0) hx hb dL_holds_164 (by decide) ?_
        refine lv_iconst (v := 0) hx hb dL_holds_165 (by decide) ?_
        obtain ⟨x901, e902, h⟩ := bd_e h
        refine o_cS X hA (stb_t _) Z hl.1 (kG_callq hG hN hlt hn (qk_e e902)) cw_L_194 ⟨Nat.le_of_ble_eq_true rfl, Nat.le_of_ble_eq_true rfl⟩ rfl rfl (Nat.le_of_ble_eq_true rfl) ⟨show k + 1 + 1 + 1 + 1 + 1 + 1 + 1 + 1 ≤ 437 by omega, show 6 * k + 6 + 6 + 6 + 6 + 6 + 6 + 6 + 6 ≤ 2622 by omega⟩ dL_holds_166 (fun H locs Z n903 => ?_)
        refine lv_aload_n hx hb dL_holds_169 rfl (lv_at hl 6 rfl) ?_
        refine lv_iconst (v := 4) hx hb dL_holds_170 (by decide) ?_
        refine lv_iload hx hb dL_holds_171 (lv_at hl 11 rfl) ?_
        refine lv_bipush (v := 7) hx hb dL_holds_173 (by decide) ?_
        refine lv_iconst (v := 0) hx hb dL_holds_175 (by decide) ?_
        obtain ⟨x904, e905, h⟩ := bd_e h
        refine o_cS X hA (stb_t _) Z hl.1 (kG_callq hG hN hlt hn (qk_e e905)) cw_L_194 ⟨Nat.le_of_ble_eq_true rfl, Nat.le_of_ble_eq_true rfl⟩ rfl rfl (Nat.le_of_ble_eq_true rfl) ⟨show k + 1 + 1 + 1 + 1 + 1 + 1 + 1 + 1 + 1 ≤ 437 by omega, show 6 * k + 6 + 6 + 6 + 6 + 6 + 6 + 6 + 6 + 6 ≤ 2622 by omega⟩ dL_holds_176 (fun H locs Z n906 => ?_)
        refine lv_isub hx hb dL_holds_179 ?_
        obtain ⟨v908, e909, h⟩ := lt_e h
        refine w_join (J := 190) (ls := ls) (rest := []) e909 (fun kt kf => ?_) ?_
        · refine lv_icmp_ge (tgt := 188) hx hb dL_holds_180 (by decide) (fun c907 => ?_) (fun c907 => ?_)
          · refine lv_iload hx hb dL_holds_188 (lv_at hl 11 rfl) ?_
            exact kt c907
          · refine lv_iload hx hb dL_holds_183 (lv_at hl 13 rfl) ?_
            refine lv_goto (tgt := 190) hx hb dL_holds_185 (by decide) ?_
            exact kf c907
        refine lv_istore (lv' := [(9, .int v908), (13, .int x837), (8, .int x829), (7, .int x824), (6, .int x819), (5, .int x814), (12, .int x808), (0, .ref (ga G 18 0)), (1, .int y1), (2, .int y2), (3, .int y3), (4, .int y4), (10, .int y10), (11, .int y11)]) hx hb dL_holds_190 hl (by decide) rfl (fun ls hl => ?_)
        refine lv_iload hx hb dL_holds_192 (lv_at hl 11 rfl) ?_
        refine lv_iload hx hb dL_holds_194 (lv_at hl 13 rfl) ?_
        refine lv_ishr hx hb dL_holds_196 ?_
        refine lv_iconst (v := 1) hx hb dL_holds_197 (by decide) ?_
        refine lv_iand hx hb dL_holds_198 ?_
        refine lv_iload hx hb dL_holds_199 (lv_at hl 6 rfl) ?_
        obtain ⟨z911, h⟩ := gd_e h
        refine lv_icmp_ne (tgt := 277) hx hb dL_holds_201 (by decide) (fun cn => absurd (of_decide_eq_true z911) cn) (fun c910 => ?_)
        refine lv_iload hx hb dL_holds_204 (lv_at hl 6 rfl) ?_
        refine lv_iconst (v := 1) hx hb dL_holds_206 (by decide) ?_
        refine lv_icmp_ne (tgt := 214) hx hb dL_holds_207 (by decide) (fun c912 => ?_) (fun c912 => ?_)
        · have h := it_f h c912
          refine lv_iconst (v := 0) hx hb dL_holds_214 (by decide) ?_
          refine lv_aload_n hx hb dL_holds_215 rfl (lv_at hl 7 rfl) ?_
          refine lv_iconst (v := 4) hx hb dL_holds_216 (by decide) ?_
          refine lv_iload hx hb dL_holds_217 (lv_at hl 13 rfl) ?_
          refine lv_iconst (v := 0) hx hb dL_holds_219 (by decide) ?_
          refine lv_iconst (v := 0) hx hb dL_holds_220 (by decide) ?_
          obtain ⟨x913, e914, h⟩ := bd_e h
          refine o_cS X hA (stb_t _) Z hl.1 (kG_callq hG hN hlt hn (qk_e e914)) cw_L_194 ⟨Nat.le_of_ble_eq_true rfl, Nat.le_of_ble_eq_true rfl⟩ rfl rfl (Nat.le_of_ble_eq_true rfl) ⟨show k + 1 + 1 + 1 + 1 + 1 + 1 + 1 + 1 + 1 + 1 ≤ 437 by omega, show 6 * k + 6 + 6 + 6 + 6 + 6 + 6 + 6 + 6 + 6 + 6 ≤ 2622 by omega⟩ dL_holds_221 (fun H locs Z n915 => ?_)
          refine lv_if_lt (tgt := 240) hx hb dL_holds_224 (by decide) (fun c916 => ?_) (fun c916 => ?_)
          · have h := it_t h c916
            refine lv_iconst (v := 1) hx hb dL_holds_240 (by decide) ?_
            refine lv_goto (tgt := 245) hx hb dL_holds_241 (by decide) ?_
            cases h
          · have h := it_f h c916
            refine lv_aload_n hx hb dL_holds_227 rfl (lv_at hl 7 rfl) ?_
            refine lv_iconst (v := 4) hx hb dL_holds_228 (by decide) ?_
            refine lv_iload hx hb dL_holds_229 (lv_at hl 13 rfl) ?_
            refine lv_iconst (v := 3) hx hb dL_holds_231 (by decide) ?_
            refine lv_iconst (v := 0) hx hb dL_holds_232 (by decide) ?_
            obtain ⟨x918, e919, h⟩ := bd_e h
            refine o_cS X hA (stb_t _) Z hl.1 (kG_callq hG hN hlt hn (qk_e e919)) cw_L_194 ⟨Nat.le_of_ble_eq_true rfl, Nat.le_of_ble_eq_true rfl⟩ rfl rfl (Nat.le_of_ble_eq_true rfl) ⟨show k + 1 + 1 + 1 + 1 + 1 + 1 + 1 + 1 + 1 + 1 + 1 ≤ 437 by omega, show 6 * k + 6 + 6 + 6 + 6 + 6 + 6 + 6 + 6 + 6 + 6 + 6 ≤ 2622 by omega⟩ dL_holds_233 (fun H locs Z n920 => ?_)
            refine lv_iconst (v := 1) hx hb dL_holds_236 (by decide) ?_
            refine lv_icmp_ne (tgt := 244) hx hb dL_holds_237 (by decide) (fun c921 => ?_) (fun c921 => ?_)
            · have h := it_f h c921
              refine lv_iconst (v := 0) hx hb dL_holds_244 (by decide) ?_
              refine lv_icmp_ne (tgt := 277) hx hb dL_holds_245 (by decide) (fun cn => absurd (by decide : (0 : Int32) = 0) cn) (fun c922 => ?_)
              refine lv_aload_n hx hb dL_holds_248 rfl (lv_at hl 7 rfl) ?_
              refine lv_iconst (v := 4) hx hb dL_holds_249 (by decide) ?_
              refine lv_iload hx hb dL_holds_250 (lv_at hl 13 rfl) ?_
              refine lv_iconst (v := 1) hx hb dL_holds_252 (by decide) ?_
              refine lv_iconst (v := 0) hx hb dL_holds_253 (by decide) ?_
              obtain ⟨x923, e924, h⟩ := bd_e h
              refine o_cS X hA (stb_t _) Z hl.1 (kG_callq hG hN hlt hn (qk_e e924)) cw_L_194 ⟨Nat.le_of_ble_eq_true rfl, Nat.le_of_ble_eq_true rfl⟩ rfl rfl (Nat.le_of_ble_eq_true rfl) ⟨show k + 1 + 1 + 1 + 1 + 1 + 1 + 1 + 1 + 1 + 1 + 1 + 1 ≤ 437 by omega, show 6 * k + 6 + 6 + 6 + 6 + 6 + 6 + 6 + 6 + 6 + 6 + 6 + 6 ≤ 2622 by omega⟩ dL_holds_254 (fun H locs Z n925 => ?_)
              obtain ⟨z927, h⟩ := gd_e h
              refine lv_if_lt (tgt := 277) hx hb dL_holds_257 (by decide) (fun cn => absurd cn (of_decide_eq_true z927)) (fun c926 => ?_)
              refine lv_aload_n hx hb dL_holds_260 rfl (lv_at hl 7 rfl) ?_
              refine lv_bipush (v := 23) hx hb dL_holds_261 (by decide) ?_
              refine lv_iload hx hb dL_holds_263 (lv_at hl 13 rfl) ?_
              refine lv_iconst (v := 0) hx hb dL_holds_265 (by decide) ?_
              refine lv_iconst (v := 0) hx hb dL_holds_266 (by decide) ?_
              obtain ⟨x928, e929, h⟩ := bd_e h
              refine o_cS X hA (stb_t _) Z hl.1 (kG_callq hG hN hlt hn (qk_e e929)) cw_L_194 ⟨Nat.le_of_ble_eq_true rfl, Nat.le_of_ble_eq_true rfl⟩ rfl rfl (Nat.le_of_ble_eq_true rfl) ⟨show k + 1 + 1 + 1 + 1 + 1 + 1 + 1 + 1 + 1 + 1 + 1 + 1 + 1 ≤ 437 by omega, show 6 * k + 6 + 6 + 6 + 6 + 6 + 6 + 6 + 6 + 6 + 6 + 6 + 6 + 6 ≤ 2622 by omega⟩ dL_holds_267 (fun H locs Z n930 => ?_)
              obtain ⟨z932, h⟩ := gd_e h
              refine lv_if_lt (tgt := 277) hx hb dL_holds_270 (by decide) (fun cn => absurd cn (of_decide_eq_true z932)) (fun c931 => ?_)
              refine lv_iconst (v := 1) hx hb dL_holds_273 (by decide) ?_
              refine lv_goto (tgt := 278) hx hb dL_holds_274 (by decide) ?_
              refine lv_istore (lv' := [(10, .int 1), (9, .int v908), (13, .int x837), (8, .int x829), (7, .int x824), (6, .int x819), (5, .int x814), (12, .int x808), (0, .ref (ga G 18 0)), (1, .int y1), (2, .int y2), (3, .int y3), (4, .int y4), (11, .int y11)]) hx hb dL_holds_278 hl (by decide) rfl (fun ls hl => ?_)
              obtain ⟨x933, e934, h⟩ := lt_e h
              refine lv_iinc (v := x933) (lv' := [(11, .int x933), (10, .int 1), (9, .int v908), (13, .int x837), (8, .int x829), (7, .int x824), (6, .int x819), (5, .int x814), (12, .int x808), (0, .ref (ga G 18 0)), (1, .int y1), (2, .int y2), (3, .int y3), (4, .int y4)]) hx hb dL_holds_280 hl (k := 13) rfl (by rw [e934]; rfl) (by decide) rfl (fun ls hl => ?_)
              refine lv_goto (tgt := 50) hx hb dL_holds_283 (by decide) ?_
              refine W.widen (k := k + 13) (n := 6 * (k + 13)) (by omega) (by omega) ?_
              exact ih (k + 13) _ _ _ _ _ _ _ _ _ _ _ _ _ _ h (by omega) Z (lv_sub hl [9, 10, 11, 12, 13, 7, 6, 5, 4, 2, 1, 0] rfl)
            · have h := it_t h c921
              refine lv_iconst (v := 1) hx hb dL_holds_240 (by decide) ?_
              refine lv_goto (tgt := 245) hx hb dL_holds_241 (by decide) ?_
              cases h
        · have h := it_t h c912
          refine lv_iconst (v := 1) hx hb dL_holds_210 (by decide) ?_
          refine lv_goto (tgt := 215) hx hb dL_holds_211 (by decide) ?_
          refine lv_aload_n hx hb dL_holds_215 rfl (lv_at hl 7 rfl) ?_
          refine lv_iconst (v := 4) hx hb dL_holds_216 (by decide) ?_
          refine lv_iload hx hb dL_holds_217 (lv_at hl 13 rfl) ?_
          refine lv_iconst (v := 0) hx hb dL_holds_219 (by decide) ?_
          refine lv_iconst (v := 0) hx hb dL_holds_220 (by decide) ?_
          obtain ⟨x936, e937, h⟩ := bd_e h
          refine o_cS X hA (stb_t _) Z hl.1 (kG_callq hG hN hlt hn (qk_e e937)) cw_L_194 ⟨Nat.le_of_ble_eq_true rfl, Nat.le_of_ble_eq_true rfl⟩ rfl rfl (Nat.le_of_ble_eq_true rfl) ⟨show k + 1 + 1 + 1 + 1 + 1 + 1 + 1 + 1 + 1 + 1 ≤ 437 by omega, show 6 * k + 6 + 6 + 6 + 6 + 6 + 6 + 6 + 6 + 6 + 6 ≤ 2622 by omega⟩ dL_holds_221 (fun H locs Z n938 => ?_)
          refine lv_if_lt (tgt := 240) hx hb dL_holds_224 (by decide) (fun c939 => ?_) (fun c939 => ?_)
          · have h := it_t h c939
            refine lv_iconst (v := 1) hx hb dL_holds_240 (by decide) ?_
            refine lv_goto (tgt := 245) hx hb dL_holds_241 (by decide) ?_
            refine lv_icmp_ne (tgt := 277) hx hb dL_holds_245 (by decide) (fun cn => absurd (by decide : (1 : Int32) = 1) cn) (fun c940 => ?_)
            refine lv_aload_n hx hb dL_holds_248 rfl (lv_at hl 7 rfl) ?_
            refine lv_iconst (v := 4) hx hb dL_holds_249 (by decide) ?_
            refine lv_iload hx hb dL_holds_250 (lv_at hl 13 rfl) ?_
            refine lv_iconst (v := 1) hx hb dL_holds_252 (by decide) ?_
            refine lv_iconst (v := 0) hx hb dL_holds_253 (by decide) ?_
            obtain ⟨x941, e942, h⟩ := bd_e h
            refine o_cS X hA (stb_t _) Z hl.1 (kG_callq hG hN hlt hn (qk_e e942)) cw_L_194 ⟨Nat.le_of_ble_eq_true rfl, Nat.le_of_ble_eq_true rfl⟩ rfl rfl (Nat.le_of_ble_eq_true rfl) ⟨show k + 1 + 1 + 1 + 1 + 1 + 1 + 1 + 1 + 1 + 1 + 1 ≤ 437 by omega, show 6 * k + 6 + 6 + 6 + 6 + 6 + 6 + 6 + 6 + 6 + 6 + 6 ≤ 2622 by omega⟩ dL_holds_254 (fun H locs Z n943 => ?_)
            obtain ⟨z945, h⟩ := gd_e h
            refine lv_if_lt (tgt := 277) hx hb dL_holds_257 (by decide) (fun cn => absurd cn (of_decide_eq_true z945)) (fun c944 => ?_)
            refine lv_aload_n hx hb dL_holds_260 rfl (lv_at hl 7 rfl) ?_
            refine lv_bipush (v := 23) hx hb dL_holds_261 (by decide) ?_
            refine lv_iload hx hb dL_holds_263 (lv_at hl 13 rfl) ?_
            refine lv_iconst (v := 0) hx hb dL_holds_265 (by decide) ?_
            refine lv_iconst (v := 0) hx hb dL_holds_266 (by decide) ?_
            obtain ⟨x946, e947, h⟩ := bd_e h
            refine o_cS X hA (stb_t _) Z hl.1 (kG_callq hG hN hlt hn (qk_e e947)) cw_L_194 ⟨Nat.le_of_ble_eq_true rfl, Nat.le_of_ble_eq_true rfl⟩ rfl rfl (Nat.le_of_ble_eq_true rfl) ⟨show k + 1 + 1 + 1 + 1 + 1 + 1 + 1 + 1 + 1 + 1 + 1 + 1 ≤ 437 by omega, show 6 * k + 6 + 6 + 6 + 6 + 6 + 6 + 6 + 6 + 6 + 6 + 6 + 6 ≤ 2622 by omega⟩ dL_holds_267 (fun H locs Z n948 => ?_)
            obtain ⟨z950, h⟩ := gd_e h
            refine lv_if_lt (tgt := 277) hx hb dL_holds_270 (by decide) (fun cn => absurd cn (of_decide_eq_true z950)) (fun c949 => ?_)
            refine lv_iconst (v := 1) hx hb dL_holds_273 (by decide) ?_
            refine lv_goto (tgt := 278) hx hb dL_holds_274 (by decide) ?_
            refine lv_istore (lv' := [(10, .int 1), (9, .int v908), (13, .int x837), (8, .int x829), (7, .int x824), (6, .int x819), (5, .int x814), (12, .int x808), (0, .ref (ga G 18 0)), (1, .int y1), (2, .int y2), (3, .int y3), (4, .int y4), (11, .int y11)]) hx hb dL_holds_278 hl (by decide) rfl (fun ls hl => ?_)
            obtain ⟨x951, e952, h⟩ := lt_e h
            refine lv_iinc (v := x951) (lv' := [(11, .int x951), (10, .int 1), (9, .int v908), (13, .int x837), (8, .int x829), (7, .int x824), (6, .int x819), (5, .int x814), (12, .int x808), (0, .ref (ga G 18 0)), (1, .int y1), (2, .int y2), (3, .int y3), (4, .int y4)]) hx hb dL_holds_280 hl (k := 13) rfl (by rw [e952]; rfl) (by decide) rfl (fun ls hl => ?_)
            refine lv_goto (tgt := 50) hx hb dL_holds_283 (by decide) ?_
            refine W.widen (k := k + 13) (n := 6 * (k + 13)) (by omega) (by omega) ?_
            exact ih (k + 13) _ _ _ _ _ _ _ _ _ _ _ _ _ _ h (by omega) Z (lv_sub hl [9, 10, 11, 12, 13, 7, 6, 5, 4, 2, 1, 0] rfl)
          · have h := it_f h c939
            refine lv_aload_n hx hb dL_holds_227 rfl (lv_at hl 7 rfl) ?_
            refine lv_iconst (v := 4) hx hb dL_holds_228 (by decide) ?_
            refine lv_iload hx hb dL_holds_229 (lv_at hl 13 rfl) ?_
            refine lv_iconst (v := 3) hx hb dL_holds_231 (by decide) ?_
            refine lv_iconst (v := 0) hx hb dL_holds_232 (by decide) ?_
            obtain ⟨x953, e954, h⟩ := bd_e h
            refine o_cS X hA (stb_t _) Z hl.1 (kG_callq hG hN hlt hn (qk_e e954)) cw_L_194 ⟨Nat.le_of_ble_eq_true rfl, Nat.le_of_ble_eq_true rfl⟩ rfl rfl (Nat.le_of_ble_eq_true rfl) ⟨show k + 1 + 1 + 1 + 1 + 1 + 1 + 1 + 1 + 1 + 1 + 1 ≤ 437 by omega, show 6 * k + 6 + 6 + 6 + 6 + 6 + 6 + 6 + 6 + 6 + 6 + 6 ≤ 2622 by omega⟩ dL_holds_233 (fun H locs Z n955 => ?_)
            refine lv_iconst (v := 1) hx hb dL_holds_236 (by decide) ?_
            refine lv_icmp_ne (tgt := 244) hx hb dL_holds_237 (by decide) (fun c956 => ?_) (fun c956 => ?_)
            · have h := it_f h c956
              refine lv_iconst (v := 0) hx hb dL_holds_244 (by decide) ?_
              cases h
            · have h := it_t h c956
              refine lv_iconst (v := 1) hx hb dL_holds_240 (by decide) ?_
              refine lv_goto (tgt := 245) hx hb dL_holds_241 (by decide) ?_
              refine lv_icmp_ne (tgt := 277) hx hb dL_holds_245 (by decide) (fun cn => absurd (by decide : (1 : Int32) = 1) cn) (fun c958 => ?_)
              refine lv_aload_n hx hb dL_holds_248 rfl (lv_at hl 7 rfl) ?_
              refine lv_iconst (v := 4) hx hb dL_holds_249 (by decide) ?_
              refine lv_iload hx hb dL_holds_250 (lv_at hl 13 rfl) ?_
              refine lv_iconst (v := 1) hx hb dL_holds_252 (by decide) ?_
              refine lv_iconst (v := 0) hx hb dL_holds_253 (by decide) ?_
              obtain ⟨x959, e960, h⟩ := bd_e h
              refine o_cS X hA (stb_t _) Z hl.1 (kG_callq hG hN hlt hn (qk_e e960)) cw_L_194 ⟨Nat.le_of_ble_eq_true rfl, Nat.le_of_ble_eq_true rfl⟩ rfl rfl (Nat.le_of_ble_eq_true rfl) ⟨show k + 1 + 1 + 1 + 1 + 1 + 1 + 1 + 1 + 1 + 1 + 1 + 1 ≤ 437 by omega, show 6 * k + 6 + 6 + 6 + 6 + 6 + 6 + 6 + 6 + 6 + 6 + 6 + 6 ≤ 2622 by omega⟩ dL_holds_254 (fun H locs Z n961 => ?_)
              obtain ⟨z963, h⟩ := gd_e h
              refine lv_if_lt (tgt := 277) hx hb dL_holds_257 (by decide) (fun cn => absurd cn (of_decide_eq_true z963)) (fun c962 => ?_)
              refine lv_aload_n hx hb dL_holds_260 rfl (lv_at hl 7 rfl) ?_
              refine lv_bipush (v := 23) hx hb dL_holds_261 (by decide) ?_
              refine lv_iload hx hb dL_holds_263 (lv_at hl 13 rfl) ?_
              refine lv_iconst (v := 0) hx hb dL_holds_265 (by decide) ?_
              refine lv_iconst (v := 0) hx hb dL_holds_266 (by decide) ?_
              obtain ⟨x964, e965, h⟩ := bd_e h
              refine o_cS X hA (stb_t _) Z hl.1 (kG_callq hG hN hlt hn (qk_e e965)) cw_L_194 ⟨Nat.le_of_ble_eq_true rfl, Nat.le_of_ble_eq_true rfl⟩ rfl rfl (Nat.le_of_ble_eq_true rfl) ⟨show k + 1 + 1 + 1 + 1 + 1 + 1 + 1 + 1 + 1 + 1 + 1 + 1 + 1 ≤ 437 by omega, show 6 * k + 6 + 6 + 6 + 6 + 6 + 6 + 6 + 6 + 6 + 6 + 6 + 6 + 6 ≤ 2622 by omega⟩ dL_holds_267 (fun H locs Z n966 => ?_)
              obtain ⟨z968, h⟩ := gd_e h
              refine lv_if_lt (tgt := 277) hx hb dL_holds_270 (by decide) (fun cn => absurd cn (of_decide_eq_true z968)) (fun c967 => ?_)
              refine lv_iconst (v := 1) hx hb dL_holds_273 (by decide) ?_
              refine lv_goto (tgt := 278) hx hb dL_holds_274 (by decide) ?_
              refine lv_istore (lv' := [(10, .int 1), (9, .int v908), (13, .int x837), (8, .int x829), (7, .int x824), (6, .int x819), (5, .int x814), (12, .int x808), (0, .ref (ga G 18 0)), (1, .int y1), (2, .int y2), (3, .int y3), (4, .int y4), (11, .int y11)]) hx hb dL_holds_278 hl (by decide) rfl (fun ls hl => ?_)
              obtain ⟨x969, e970, h⟩ := lt_e h
              refine lv_iinc (v := x969) (lv' := [(11, .int x969), (10, .int 1), (9, .int v908), (13, .int x837), (8, .int x829), (7, .int x824), (6, .int x819), (5, .int x814), (12, .int x808), (0, .ref (ga G 18 0)), (1, .int y1), (2, .int y2), (3, .int y3), (4, .int y4)]) hx hb dL_holds_280 hl (k := 13) rfl (by rw [e970]; rfl) (by decide) rfl (fun ls hl => ?_)
              refine lv_goto (tgt := 50) hx hb dL_holds_283 (by decide) ?_
              refine W.widen (k := k + 13) (n := 6 * (k + 13)) (by omega) (by omega) ?_
              exact ih (k + 13) _ _ _ _ _ _ _ _ _ _ _ _ _ _ h (by omega) Z (lv_sub hl [9, 10, 11, 12, 13, 7, 6, 5, 4, 2, 1, 0] rfl)
noncomputable def fL_holds (M : Nat → Nat → Int32) (a1 : Int32) : Option Int32 :=
  bd (qk (rcall M 2 0 0 0) M) fun x1 =>
  bd (qk (rcall M 2 1 0 0) M) fun x4 =>
  bd (qk (rcall M 2 10 0 0) M) fun x7 =>
  fL_holds_L50 M 9 a1 x1 x4 x7 0 0 0 0 (-1) 1 0
set_option maxHeartbeats 8000000 in
set_option maxRecDepth 20000 in
theorem kL_holds {l : Launch} {G : UG} (hG : uAll G) (hN : uNo G) (hlt : l.stackTraces = false) {n : Nat} (hn : n ≤ 850) {M : Nat → Nat → Int32} {a1 : Int32} {r : Int32} (h : fL_holds M a1 = some r) : uGi l G yL_holds cL_holds 16 .boolean 11 437 2622 214 [.ref (ga G 18 0), .int a1] n M r n M := by
  have hA : ∀ q, uA G q → uA G q := fun q h => h
  refine uGi_body rfl (Nat.le_of_ble_eq_true rfl) (fun p e s m args below meth c ls X hret hl Z => ?_)
  have hx := X.hx
  have hb := X.hb
  have hl : lv_has ls 16 [(0, .ref (ga G 18 0)), (1, .int a1)] := hl
  unfold fL_holds at h
  refine lv_aload_n hx hb dL_holds_0 rfl (lv_at hl 0 rfl) ?_
  refine lv_iconst (v := 2) hx hb dL_holds_1 (by decide) ?_
  refine lv_iconst (v := 0) hx hb dL_holds_2 (by decide) ?_
  refine lv_iconst (v := 0) hx hb dL_holds_3 (by decide) ?_
  refine lv_iconst (v := 0) hx hb dL_holds_4 (by decide) ?_
  obtain ⟨x1, e2, h⟩ := bd_e h
  refine o_cS X hA (stb_t _) Z hl.1 (kG_callq hG hN hlt hn (qk_e e2)) cw_L_194 ⟨Nat.le_of_ble_eq_true rfl, Nat.le_of_ble_eq_true rfl⟩ rfl rfl (Nat.le_of_ble_eq_true rfl) ⟨Nat.le_of_ble_eq_true rfl, Nat.le_of_ble_eq_true rfl⟩ dL_holds_5 (fun H locs Z n3 => ?_)
  refine lv_istore_n (lv' := [(2, .int x1), (0, .ref (ga G 18 0)), (1, .int a1)]) hx hb dL_holds_8 rfl hl (by decide) rfl (fun ls hl => ?_)
  refine lv_aload_n hx hb dL_holds_9 rfl (lv_at hl 1 rfl) ?_
  refine lv_iconst (v := 2) hx hb dL_holds_10 (by decide) ?_
  refine lv_iconst (v := 1) hx hb dL_holds_11 (by decide) ?_
  refine lv_iconst (v := 0) hx hb dL_holds_12 (by decide) ?_
  refine lv_iconst (v := 0) hx hb dL_holds_13 (by decide) ?_
  obtain ⟨x4, e5, h⟩ := bd_e h
  refine o_cS X hA (stb_t _) Z hl.1 (kG_callq hG hN hlt hn (qk_e e5)) cw_L_194 ⟨Nat.le_of_ble_eq_true rfl, Nat.le_of_ble_eq_true rfl⟩ rfl rfl (Nat.le_of_ble_eq_true rfl) ⟨Nat.le_of_ble_eq_true rfl, Nat.le_of_ble_eq_true rfl⟩ dL_holds_14 (fun H locs Z n6 => ?_)
  refine lv_istore_n (lv' := [(3, .int x4), (2, .int x1), (0, .ref (ga G 18 0)), (1, .int a1)]) hx hb dL_holds_17 rfl hl (by decide) rfl (fun ls hl => ?_)
  refine lv_aload_n hx hb dL_holds_18 rfl (lv_at hl 2 rfl) ?_
  refine lv_iconst (v := 2) hx hb dL_holds_19 (by decide) ?_
  refine lv_bipush (v := 10) hx hb dL_holds_20 (by decide) ?_
  refine lv_iconst (v := 0) hx hb dL_holds_22 (by decide) ?_
  refine lv_iconst (v := 0) hx hb dL_holds_23 (by decide) ?_
  obtain ⟨x7, e8, h⟩ := bd_e h
  refine o_cS X hA (stb_t _) Z hl.1 (kG_callq hG hN hlt hn (qk_e e8)) cw_L_194 ⟨Nat.le_of_ble_eq_true rfl, Nat.le_of_ble_eq_true rfl⟩ rfl rfl (Nat.le_of_ble_eq_true rfl) ⟨Nat.le_of_ble_eq_true rfl, Nat.le_of_ble_eq_true rfl⟩ dL_holds_24 (fun H locs Z n9 => ?_)
  refine lv_istore (lv' := [(4, .int x7), (3, .int x4), (2, .int x1), (0, .ref (ga G 18 0)), (1, .int a1)]) hx hb dL_holds_27 hl (by decide) rfl (fun ls hl => ?_)
  refine lv_iconst (v := 0) hx hb dL_holds_29 (by decide) ?_
  refine lv_istore (lv' := [(5, .int 0), (4, .int x7), (3, .int x4), (2, .int x1), (0, .ref (ga G 18 0)), (1, .int a1)]) hx hb dL_holds_30 hl (by decide) rfl (fun ls hl => ?_)
  refine lv_iconst (v := 0) hx hb dL_holds_32 (by decide) ?_
  refine lv_istore (lv' := [(6, .int 0), (5, .int 0), (4, .int x7), (3, .int x4), (2, .int x1), (0, .ref (ga G 18 0)), (1, .int a1)]) hx hb dL_holds_33 hl (by decide) rfl (fun ls hl => ?_)
  refine lv_iconst (v := 0) hx hb dL_holds_35 (by decide) ?_
  refine lv_istore (lv' := [(7, .int 0), (6, .int 0), (5, .int 0), (4, .int x7), (3, .int x4), (2, .int x1), (0, .ref (ga G 18 0)), (1, .int a1)]) hx hb dL_holds_36 hl (by decide) rfl (fun ls hl => ?_)
  refine lv_iconst (v := 0) hx hb dL_holds_38 (by decide) ?_
  refine lv_istore (lv' := [(8, .int 0), (7, .int 0), (6, .int 0), (5, .int 0), (4, .int x7), (3, .int x4), (2, .int x1), (0, .ref (ga G 18 0)), (1, .int a1)]) hx hb dL_holds_39 hl (by decide) rfl (fun ls hl => ?_)
  refine lv_iconst (v := (-1)) hx hb dL_holds_41 (by decide) ?_
  refine lv_istore (lv' := [(9, .int (-1)), (8, .int 0), (7, .int 0), (6, .int 0), (5, .int 0), (4, .int x7), (3, .int x4), (2, .int x1), (0, .ref (ga G 18 0)), (1, .int a1)]) hx hb dL_holds_42 hl (by decide) rfl (fun ls hl => ?_)
  refine lv_iconst (v := 1) hx hb dL_holds_44 (by decide) ?_
  refine lv_istore (lv' := [(10, .int 1), (9, .int (-1)), (8, .int 0), (7, .int 0), (6, .int 0), (5, .int 0), (4, .int x7), (3, .int x4), (2, .int x1), (0, .ref (ga G 18 0)), (1, .int a1)]) hx hb dL_holds_45 hl (by decide) rfl (fun ls hl => ?_)
  refine lv_iconst (v := 0) hx hb dL_holds_47 (by decide) ?_
  refine lv_istore (lv' := [(11, .int 0), (10, .int 1), (9, .int (-1)), (8, .int 0), (7, .int 0), (6, .int 0), (5, .int 0), (4, .int x7), (3, .int x4), (2, .int x1), (0, .ref (ga G 18 0)), (1, .int a1)]) hx hb dL_holds_48 hl (by decide) rfl (fun ls hl => ?_)
  refine W.widen (k := 3) (n := 6 * (3)) (by omega) (by omega) ?_
  exact lpL_holds_50 hG hN hlt hn X hret 9 _ _ _ _ _ _ _ _ _ _ _ _ _ _ _ h (by omega) Z (lv_sub hl [10, 11, 9, 8, 7, 6, 5, 4, 3, 2, 1, 0] rfl)
