theorem dL_refuses_0 : decode cL_refuses 0 = .ok (.aload_n 0, 1) := by decide +kernel
theorem dL_refuses_1 : decode cL_refuses 1 = .ok (.iconst 2, 1) := by decide +kernel
theorem dL_refuses_2 : decode cL_refuses 2 = .ok (.iconst 0, 1) := by decide +kernel
theorem dL_refuses_3 : decode cL_refuses 3 = .ok (.iconst 0, 1) := by decide +kernel
theorem dL_refuses_4 : decode cL_refuses 4 = .ok (.iconst 0, 1) := by decide +kernel
theorem dL_refuses_5 : decode cL_refuses 5 = .ok (.invokestatic 194, 3) := by decide +kernel
theorem dL_refuses_8 : decode cL_refuses 8 = .ok (.iload_n 1, 1) := by decide +kernel
theorem dL_refuses_9 : decode cL_refuses 9 = .ok (.bipush 50, 2) := by decide +kernel
theorem dL_refuses_11 : decode cL_refuses 11 = .ok (.irem, 1) := by decide +kernel
theorem dL_refuses_12 : decode cL_refuses 12 = .ok (.iadd, 1) := by decide +kernel
theorem dL_refuses_13 : decode cL_refuses 13 = .ok (.istore_n 2, 1) := by decide +kernel
theorem dL_refuses_14 : decode cL_refuses 14 = .ok (.aload_n 0, 1) := by decide +kernel
theorem dL_refuses_15 : decode cL_refuses 15 = .ok (.iconst 2, 1) := by decide +kernel
theorem dL_refuses_16 : decode cL_refuses 16 = .ok (.iconst 1, 1) := by decide +kernel
theorem dL_refuses_17 : decode cL_refuses 17 = .ok (.iconst 0, 1) := by decide +kernel
theorem dL_refuses_18 : decode cL_refuses 18 = .ok (.iconst 0, 1) := by decide +kernel
theorem dL_refuses_19 : decode cL_refuses 19 = .ok (.invokestatic 194, 3) := by decide +kernel
theorem dL_refuses_22 : decode cL_refuses 22 = .ok (.iload_n 1, 1) := by decide +kernel
theorem dL_refuses_23 : decode cL_refuses 23 = .ok (.bipush 50, 2) := by decide +kernel
theorem dL_refuses_25 : decode cL_refuses 25 = .ok (.irem, 1) := by decide +kernel
theorem dL_refuses_26 : decode cL_refuses 26 = .ok (.iadd, 1) := by decide +kernel
theorem dL_refuses_27 : decode cL_refuses 27 = .ok (.istore_n 3, 1) := by decide +kernel
theorem dL_refuses_28 : decode cL_refuses 28 = .ok (.iload_n 1, 1) := by decide +kernel
theorem dL_refuses_29 : decode cL_refuses 29 = .ok (.iconst 2, 1) := by decide +kernel
theorem dL_refuses_30 : decode cL_refuses 30 = .ok (.irem, 1) := by decide +kernel
theorem dL_refuses_31 : decode cL_refuses 31 = .ok (.ifCond .ne 12, 3) := by decide +kernel
theorem dL_refuses_34 : decode cL_refuses 34 = .ok (.iconst (-1), 1) := by decide +kernel
theorem dL_refuses_35 : decode cL_refuses 35 = .ok (.iload_n 1, 1) := by decide +kernel
theorem dL_refuses_36 : decode cL_refuses 36 = .ok (.bipush 99, 2) := by decide +kernel
theorem dL_refuses_38 : decode cL_refuses 38 = .ok (.irem, 1) := by decide +kernel
theorem dL_refuses_39 : decode cL_refuses 39 = .ok (.isub, 1) := by decide +kernel
theorem dL_refuses_40 : decode cL_refuses 40 = .ok (.goto 9, 3) := by decide +kernel
theorem dL_refuses_43 : decode cL_refuses 43 = .ok (.iconst 4, 1) := by decide +kernel
theorem dL_refuses_44 : decode cL_refuses 44 = .ok (.iload_n 1, 1) := by decide +kernel
theorem dL_refuses_45 : decode cL_refuses 45 = .ok (.bipush 99, 2) := by decide +kernel
theorem dL_refuses_47 : decode cL_refuses 47 = .ok (.irem, 1) := by decide +kernel
theorem dL_refuses_48 : decode cL_refuses 48 = .ok (.iadd, 1) := by decide +kernel
theorem dL_refuses_49 : decode cL_refuses 49 = .ok (.istore 4, 2) := by decide +kernel
theorem dL_refuses_51 : decode cL_refuses 51 = .ok (.aload_n 0, 1) := by decide +kernel
theorem dL_refuses_52 : decode cL_refuses 52 = .ok (.iconst 0, 1) := by decide +kernel
theorem dL_refuses_53 : decode cL_refuses 53 = .ok (.iload_n 1, 1) := by decide +kernel
theorem dL_refuses_54 : decode cL_refuses 54 = .ok (.iconst 2, 1) := by decide +kernel
theorem dL_refuses_55 : decode cL_refuses 55 = .ok (.irem, 1) := by decide +kernel
theorem dL_refuses_56 : decode cL_refuses 56 = .ok (.ifCond .ne 12, 3) := by decide +kernel
theorem dL_refuses_59 : decode cL_refuses 59 = .ok (.iconst (-1), 1) := by decide +kernel
theorem dL_refuses_60 : decode cL_refuses 60 = .ok (.iload_n 1, 1) := by decide +kernel
theorem dL_refuses_61 : decode cL_refuses 61 = .ok (.bipush 9, 2) := by decide +kernel
theorem dL_refuses_63 : decode cL_refuses 63 = .ok (.irem, 1) := by decide +kernel
theorem dL_refuses_64 : decode cL_refuses 64 = .ok (.isub, 1) := by decide +kernel
theorem dL_refuses_65 : decode cL_refuses 65 = .ok (.goto 11, 3) := by decide +kernel
theorem dL_refuses_68 : decode cL_refuses 68 = .ok (.sipush 256, 3) := by decide +kernel
theorem dL_refuses_71 : decode cL_refuses 71 = .ok (.iload_n 1, 1) := by decide +kernel
theorem dL_refuses_72 : decode cL_refuses 72 = .ok (.bipush 9, 2) := by decide +kernel
theorem dL_refuses_74 : decode cL_refuses 74 = .ok (.irem, 1) := by decide +kernel
theorem dL_refuses_75 : decode cL_refuses 75 = .ok (.iadd, 1) := by decide +kernel
theorem dL_refuses_76 : decode cL_refuses 76 = .ok (.iconst 0, 1) := by decide +kernel
theorem dL_refuses_77 : decode cL_refuses 77 = .ok (.iconst 0, 1) := by decide +kernel
theorem dL_refuses_78 : decode cL_refuses 78 = .ok (.invokestatic 194, 3) := by decide +kernel
theorem dL_refuses_81 : decode cL_refuses 81 = .ok (.ldc 15, 2) := by decide +kernel
theorem dL_refuses_83 : decode cL_refuses 83 = .ok (.if_icmp .ne 541, 3) := by decide +kernel
theorem dL_refuses_86 : decode cL_refuses 86 = .ok (.aload_n 0, 1) := by decide +kernel
theorem dL_refuses_87 : decode cL_refuses 87 = .ok (.iconst 2, 1) := by decide +kernel
theorem dL_refuses_88 : decode cL_refuses 88 = .ok (.bipush 11, 2) := by decide +kernel
theorem dL_refuses_90 : decode cL_refuses 90 = .ok (.iload_n 1, 1) := by decide +kernel
theorem dL_refuses_91 : decode cL_refuses 91 = .ok (.bipush 50, 2) := by decide +kernel
theorem dL_refuses_93 : decode cL_refuses 93 = .ok (.irem, 1) := by decide +kernel
theorem dL_refuses_94 : decode cL_refuses 94 = .ok (.iadd, 1) := by decide +kernel
theorem dL_refuses_95 : decode cL_refuses 95 = .ok (.iconst 0, 1) := by decide +kernel
theorem dL_refuses_96 : decode cL_refuses 96 = .ok (.iconst 0, 1) := by decide +kernel
theorem dL_refuses_97 : decode cL_refuses 97 = .ok (.invokestatic 194, 3) := by decide +kernel
theorem dL_refuses_100 : decode cL_refuses 100 = .ok (.ldc 15, 2) := by decide +kernel
theorem dL_refuses_102 : decode cL_refuses 102 = .ok (.if_icmp .ne 522, 3) := by decide +kernel
theorem dL_refuses_105 : decode cL_refuses 105 = .ok (.aload_n 0, 1) := by decide +kernel
theorem dL_refuses_106 : decode cL_refuses 106 = .ok (.iconst 3, 1) := by decide +kernel
theorem dL_refuses_107 : decode cL_refuses 107 = .ok (.iload_n 2, 1) := by decide +kernel
theorem dL_refuses_108 : decode cL_refuses 108 = .ok (.bipush 9, 2) := by decide +kernel
theorem dL_refuses_110 : decode cL_refuses 110 = .ok (.iconst 0, 1) := by decide +kernel
theorem dL_refuses_111 : decode cL_refuses 111 = .ok (.invokestatic 194, 3) := by decide +kernel
theorem dL_refuses_114 : decode cL_refuses 114 = .ok (.ldc 40, 2) := by decide +kernel
theorem dL_refuses_116 : decode cL_refuses 116 = .ok (.if_icmp .ne 508, 3) := by decide +kernel
theorem dL_refuses_119 : decode cL_refuses 119 = .ok (.aload_n 0, 1) := by decide +kernel
theorem dL_refuses_120 : decode cL_refuses 120 = .ok (.iconst 3, 1) := by decide +kernel
theorem dL_refuses_121 : decode cL_refuses 121 = .ok (.iconst 0, 1) := by decide +kernel
theorem dL_refuses_122 : decode cL_refuses 122 = .ok (.iconst 4, 1) := by decide +kernel
theorem dL_refuses_123 : decode cL_refuses 123 = .ok (.iload_n 1, 1) := by decide +kernel
theorem dL_refuses_124 : decode cL_refuses 124 = .ok (.bipush 9, 2) := by decide +kernel
theorem dL_refuses_126 : decode cL_refuses 126 = .ok (.irem, 1) := by decide +kernel
theorem dL_refuses_127 : decode cL_refuses 127 = .ok (.iadd, 1) := by decide +kernel
theorem dL_refuses_128 : decode cL_refuses 128 = .ok (.iconst 0, 1) := by decide +kernel
theorem dL_refuses_129 : decode cL_refuses 129 = .ok (.invokestatic 194, 3) := by decide +kernel
theorem dL_refuses_132 : decode cL_refuses 132 = .ok (.ldc 15, 2) := by decide +kernel
theorem dL_refuses_134 : decode cL_refuses 134 = .ok (.if_icmp .ne 490, 3) := by decide +kernel
theorem dL_refuses_137 : decode cL_refuses 137 = .ok (.aload_n 0, 1) := by decide +kernel
theorem dL_refuses_138 : decode cL_refuses 138 = .ok (.iconst 4, 1) := by decide +kernel
theorem dL_refuses_139 : decode cL_refuses 139 = .ok (.iload_n 3, 1) := by decide +kernel
theorem dL_refuses_140 : decode cL_refuses 140 = .ok (.bipush 9, 2) := by decide +kernel
theorem dL_refuses_142 : decode cL_refuses 142 = .ok (.iconst 0, 1) := by decide +kernel
theorem dL_refuses_143 : decode cL_refuses 143 = .ok (.invokestatic 194, 3) := by decide +kernel
theorem dL_refuses_146 : decode cL_refuses 146 = .ok (.ldc 40, 2) := by decide +kernel
theorem dL_refuses_148 : decode cL_refuses 148 = .ok (.if_icmp .ne 476, 3) := by decide +kernel
theorem dL_refuses_151 : decode cL_refuses 151 = .ok (.aload_n 0, 1) := by decide +kernel
theorem dL_refuses_152 : decode cL_refuses 152 = .ok (.iconst 4, 1) := by decide +kernel
theorem dL_refuses_153 : decode cL_refuses 153 = .ok (.iconst 0, 1) := by decide +kernel
theorem dL_refuses_154 : decode cL_refuses 154 = .ok (.bipush 8, 2) := by decide +kernel
theorem dL_refuses_156 : decode cL_refuses 156 = .ok (.iload_n 1, 1) := by decide +kernel
theorem dL_refuses_157 : decode cL_refuses 157 = .ok (.bipush 9, 2) := by decide +kernel
theorem dL_refuses_159 : decode cL_refuses 159 = .ok (.irem, 1) := by decide +kernel
theorem dL_refuses_160 : decode cL_refuses 160 = .ok (.iadd, 1) := by decide +kernel
theorem dL_refuses_161 : decode cL_refuses 161 = .ok (.iconst 0, 1) := by decide +kernel
theorem dL_refuses_162 : decode cL_refuses 162 = .ok (.invokestatic 194, 3) := by decide +kernel
theorem dL_refuses_165 : decode cL_refuses 165 = .ok (.ldc 15, 2) := by decide +kernel
theorem dL_refuses_167 : decode cL_refuses 167 = .ok (.if_icmp .ne 457, 3) := by decide +kernel
theorem dL_refuses_170 : decode cL_refuses 170 = .ok (.aload_n 0, 1) := by decide +kernel
theorem dL_refuses_171 : decode cL_refuses 171 = .ok (.iconst 5, 1) := by decide +kernel
theorem dL_refuses_172 : decode cL_refuses 172 = .ok (.iload 4, 2) := by decide +kernel
theorem dL_refuses_174 : decode cL_refuses 174 = .ok (.bipush 9, 2) := by decide +kernel
theorem dL_refuses_176 : decode cL_refuses 176 = .ok (.iconst 0, 1) := by decide +kernel
theorem dL_refuses_177 : decode cL_refuses 177 = .ok (.invokestatic 194, 3) := by decide +kernel
theorem dL_refuses_180 : decode cL_refuses 180 = .ok (.ldc 40, 2) := by decide +kernel
theorem dL_refuses_182 : decode cL_refuses 182 = .ok (.if_icmp .ne 442, 3) := by decide +kernel
theorem dL_refuses_185 : decode cL_refuses 185 = .ok (.aload_n 0, 1) := by decide +kernel
theorem dL_refuses_186 : decode cL_refuses 186 = .ok (.bipush 6, 2) := by decide +kernel
theorem dL_refuses_188 : decode cL_refuses 188 = .ok (.iload_n 1, 1) := by decide +kernel
theorem dL_refuses_189 : decode cL_refuses 189 = .ok (.iconst 4, 1) := by decide +kernel
theorem dL_refuses_190 : decode cL_refuses 190 = .ok (.irem, 1) := by decide +kernel
theorem dL_refuses_191 : decode cL_refuses 191 = .ok (.bipush 12, 2) := by decide +kernel
theorem dL_refuses_193 : decode cL_refuses 193 = .ok (.iload_n 1, 1) := by decide +kernel
theorem dL_refuses_194 : decode cL_refuses 194 = .ok (.bipush 9, 2) := by decide +kernel
theorem dL_refuses_196 : decode cL_refuses 196 = .ok (.irem, 1) := by decide +kernel
theorem dL_refuses_197 : decode cL_refuses 197 = .ok (.iadd, 1) := by decide +kernel
theorem dL_refuses_198 : decode cL_refuses 198 = .ok (.bipush 9, 2) := by decide +kernel
theorem dL_refuses_200 : decode cL_refuses 200 = .ok (.invokestatic 194, 3) := by decide +kernel
theorem dL_refuses_203 : decode cL_refuses 203 = .ok (.ldc 40, 2) := by decide +kernel
theorem dL_refuses_205 : decode cL_refuses 205 = .ok (.if_icmp .ne 419, 3) := by decide +kernel
theorem dL_refuses_208 : decode cL_refuses 208 = .ok (.aload_n 0, 1) := by decide +kernel
theorem dL_refuses_209 : decode cL_refuses 209 = .ok (.bipush 6, 2) := by decide +kernel
theorem dL_refuses_211 : decode cL_refuses 211 = .ok (.iload 4, 2) := by decide +kernel
theorem dL_refuses_213 : decode cL_refuses 213 = .ok (.iconst 0, 1) := by decide +kernel
theorem dL_refuses_214 : decode cL_refuses 214 = .ok (.bipush 9, 2) := by decide +kernel
theorem dL_refuses_216 : decode cL_refuses 216 = .ok (.invokestatic 194, 3) := by decide +kernel
theorem dL_refuses_219 : decode cL_refuses 219 = .ok (.ldc 40, 2) := by decide +kernel
theorem dL_refuses_221 : decode cL_refuses 221 = .ok (.if_icmp .ne 403, 3) := by decide +kernel
theorem dL_refuses_224 : decode cL_refuses 224 = .ok (.aload_n 0, 1) := by decide +kernel
theorem dL_refuses_225 : decode cL_refuses 225 = .ok (.bipush 7, 2) := by decide +kernel
theorem dL_refuses_227 : decode cL_refuses 227 = .ok (.iconst 4, 1) := by decide +kernel
theorem dL_refuses_228 : decode cL_refuses 228 = .ok (.iload_n 1, 1) := by decide +kernel
theorem dL_refuses_229 : decode cL_refuses 229 = .ok (.bipush 9, 2) := by decide +kernel
theorem dL_refuses_231 : decode cL_refuses 231 = .ok (.irem, 1) := by decide +kernel
theorem dL_refuses_232 : decode cL_refuses 232 = .ok (.iadd, 1) := by decide +kernel
theorem dL_refuses_233 : decode cL_refuses 233 = .ok (.iconst 0, 1) := by decide +kernel
theorem dL_refuses_234 : decode cL_refuses 234 = .ok (.iconst 0, 1) := by decide +kernel
theorem dL_refuses_235 : decode cL_refuses 235 = .ok (.invokestatic 194, 3) := by decide +kernel
theorem dL_refuses_238 : decode cL_refuses 238 = .ok (.ldc 15, 2) := by decide +kernel
theorem dL_refuses_240 : decode cL_refuses 240 = .ok (.if_icmp .ne 384, 3) := by decide +kernel
theorem dL_refuses_243 : decode cL_refuses 243 = .ok (.aload_n 0, 1) := by decide +kernel
theorem dL_refuses_244 : decode cL_refuses 244 = .ok (.bipush 8, 2) := by decide +kernel
theorem dL_refuses_246 : decode cL_refuses 246 = .ok (.bipush 100, 2) := by decide +kernel
theorem dL_refuses_248 : decode cL_refuses 248 = .ok (.iload_n 1, 1) := by decide +kernel
theorem dL_refuses_249 : decode cL_refuses 249 = .ok (.bipush 9, 2) := by decide +kernel
theorem dL_refuses_251 : decode cL_refuses 251 = .ok (.irem, 1) := by decide +kernel
theorem dL_refuses_252 : decode cL_refuses 252 = .ok (.iadd, 1) := by decide +kernel
theorem dL_refuses_253 : decode cL_refuses 253 = .ok (.iconst 0, 1) := by decide +kernel
theorem dL_refuses_254 : decode cL_refuses 254 = .ok (.iconst 0, 1) := by decide +kernel
theorem dL_refuses_255 : decode cL_refuses 255 = .ok (.invokestatic 194, 3) := by decide +kernel
theorem dL_refuses_258 : decode cL_refuses 258 = .ok (.ldc 15, 2) := by decide +kernel
theorem dL_refuses_260 : decode cL_refuses 260 = .ok (.if_icmp .ne 364, 3) := by decide +kernel
theorem dL_refuses_263 : decode cL_refuses 263 = .ok (.aload_n 0, 1) := by decide +kernel
theorem dL_refuses_264 : decode cL_refuses 264 = .ok (.bipush 9, 2) := by decide +kernel
theorem dL_refuses_266 : decode cL_refuses 266 = .ok (.iload_n 2, 1) := by decide +kernel
theorem dL_refuses_267 : decode cL_refuses 267 = .ok (.iconst 0, 1) := by decide +kernel
theorem dL_refuses_268 : decode cL_refuses 268 = .ok (.iconst 0, 1) := by decide +kernel
theorem dL_refuses_269 : decode cL_refuses 269 = .ok (.invokestatic 194, 3) := by decide +kernel
theorem dL_refuses_272 : decode cL_refuses 272 = .ok (.ldc 40, 2) := by decide +kernel
theorem dL_refuses_274 : decode cL_refuses 274 = .ok (.if_icmp .ne 350, 3) := by decide +kernel
theorem dL_refuses_277 : decode cL_refuses 277 = .ok (.aload_n 0, 1) := by decide +kernel
theorem dL_refuses_278 : decode cL_refuses 278 = .ok (.bipush 10, 2) := by decide +kernel
theorem dL_refuses_280 : decode cL_refuses 280 = .ok (.iload_n 2, 1) := by decide +kernel
theorem dL_refuses_281 : decode cL_refuses 281 = .ok (.iconst 0, 1) := by decide +kernel
theorem dL_refuses_282 : decode cL_refuses 282 = .ok (.iconst 0, 1) := by decide +kernel
theorem dL_refuses_283 : decode cL_refuses 283 = .ok (.invokestatic 194, 3) := by decide +kernel
theorem dL_refuses_286 : decode cL_refuses 286 = .ok (.ldc 40, 2) := by decide +kernel
theorem dL_refuses_288 : decode cL_refuses 288 = .ok (.if_icmp .ne 336, 3) := by decide +kernel
theorem dL_refuses_291 : decode cL_refuses 291 = .ok (.aload_n 0, 1) := by decide +kernel
theorem dL_refuses_292 : decode cL_refuses 292 = .ok (.bipush 10, 2) := by decide +kernel
theorem dL_refuses_294 : decode cL_refuses 294 = .ok (.iconst 0, 1) := by decide +kernel
theorem dL_refuses_295 : decode cL_refuses 295 = .ok (.iload 4, 2) := by decide +kernel
theorem dL_refuses_297 : decode cL_refuses 297 = .ok (.iconst 0, 1) := by decide +kernel
theorem dL_refuses_298 : decode cL_refuses 298 = .ok (.invokestatic 194, 3) := by decide +kernel
theorem dL_refuses_301 : decode cL_refuses 301 = .ok (.ldc 40, 2) := by decide +kernel
theorem dL_refuses_303 : decode cL_refuses 303 = .ok (.if_icmp .ne 321, 3) := by decide +kernel
theorem dL_refuses_306 : decode cL_refuses 306 = .ok (.aload_n 0, 1) := by decide +kernel
theorem dL_refuses_307 : decode cL_refuses 307 = .ok (.bipush 11, 2) := by decide +kernel
theorem dL_refuses_309 : decode cL_refuses 309 = .ok (.iload_n 3, 1) := by decide +kernel
theorem dL_refuses_310 : decode cL_refuses 310 = .ok (.iconst 0, 1) := by decide +kernel
theorem dL_refuses_311 : decode cL_refuses 311 = .ok (.iconst 0, 1) := by decide +kernel
theorem dL_refuses_312 : decode cL_refuses 312 = .ok (.invokestatic 194, 3) := by decide +kernel
theorem dL_refuses_315 : decode cL_refuses 315 = .ok (.ldc 40, 2) := by decide +kernel
theorem dL_refuses_317 : decode cL_refuses 317 = .ok (.if_icmp .ne 307, 3) := by decide +kernel
theorem dL_refuses_320 : decode cL_refuses 320 = .ok (.aload_n 0, 1) := by decide +kernel
theorem dL_refuses_321 : decode cL_refuses 321 = .ok (.bipush 11, 2) := by decide +kernel
theorem dL_refuses_323 : decode cL_refuses 323 = .ok (.iconst 0, 1) := by decide +kernel
theorem dL_refuses_324 : decode cL_refuses 324 = .ok (.bipush 100, 2) := by decide +kernel
theorem dL_refuses_326 : decode cL_refuses 326 = .ok (.iload_n 1, 1) := by decide +kernel
theorem dL_refuses_327 : decode cL_refuses 327 = .ok (.bipush 9, 2) := by decide +kernel
theorem dL_refuses_329 : decode cL_refuses 329 = .ok (.irem, 1) := by decide +kernel
theorem dL_refuses_330 : decode cL_refuses 330 = .ok (.iadd, 1) := by decide +kernel
theorem dL_refuses_331 : decode cL_refuses 331 = .ok (.iconst 0, 1) := by decide +kernel
theorem dL_refuses_332 : decode cL_refuses 332 = .ok (.invokestatic 194, 3) := by decide +kernel
theorem dL_refuses_335 : decode cL_refuses 335 = .ok (.ldc 15, 2) := by decide +kernel
theorem dL_refuses_337 : decode cL_refuses 337 = .ok (.if_icmp .ne 287, 3) := by decide +kernel
theorem dL_refuses_340 : decode cL_refuses 340 = .ok (.aload_n 0, 1) := by decide +kernel
theorem dL_refuses_341 : decode cL_refuses 341 = .ok (.bipush 12, 2) := by decide +kernel
theorem dL_refuses_343 : decode cL_refuses 343 = .ok (.iload_n 3, 1) := by decide +kernel
theorem dL_refuses_344 : decode cL_refuses 344 = .ok (.iconst 0, 1) := by decide +kernel
theorem dL_refuses_345 : decode cL_refuses 345 = .ok (.iconst 0, 1) := by decide +kernel
theorem dL_refuses_346 : decode cL_refuses 346 = .ok (.invokestatic 194, 3) := by decide +kernel
theorem dL_refuses_349 : decode cL_refuses 349 = .ok (.ldc 40, 2) := by decide +kernel
theorem dL_refuses_351 : decode cL_refuses 351 = .ok (.if_icmp .ne 273, 3) := by decide +kernel
theorem dL_refuses_354 : decode cL_refuses 354 = .ok (.aload_n 0, 1) := by decide +kernel
theorem dL_refuses_355 : decode cL_refuses 355 = .ok (.bipush 13, 2) := by decide +kernel
theorem dL_refuses_357 : decode cL_refuses 357 = .ok (.iload 4, 2) := by decide +kernel
theorem dL_refuses_359 : decode cL_refuses 359 = .ok (.iconst 0, 1) := by decide +kernel
theorem dL_refuses_360 : decode cL_refuses 360 = .ok (.iconst 0, 1) := by decide +kernel
theorem dL_refuses_361 : decode cL_refuses 361 = .ok (.invokestatic 194, 3) := by decide +kernel
theorem dL_refuses_364 : decode cL_refuses 364 = .ok (.ldc 40, 2) := by decide +kernel
theorem dL_refuses_366 : decode cL_refuses 366 = .ok (.if_icmp .ne 258, 3) := by decide +kernel
theorem dL_refuses_369 : decode cL_refuses 369 = .ok (.aload_n 0, 1) := by decide +kernel
theorem dL_refuses_370 : decode cL_refuses 370 = .ok (.bipush 14, 2) := by decide +kernel
theorem dL_refuses_372 : decode cL_refuses 372 = .ok (.iload 4, 2) := by decide +kernel
theorem dL_refuses_374 : decode cL_refuses 374 = .ok (.iconst 0, 1) := by decide +kernel
theorem dL_refuses_375 : decode cL_refuses 375 = .ok (.iconst 0, 1) := by decide +kernel
theorem dL_refuses_376 : decode cL_refuses 376 = .ok (.invokestatic 194, 3) := by decide +kernel
theorem dL_refuses_379 : decode cL_refuses 379 = .ok (.ldc 40, 2) := by decide +kernel
theorem dL_refuses_381 : decode cL_refuses 381 = .ok (.if_icmp .ne 243, 3) := by decide +kernel
theorem dL_refuses_384 : decode cL_refuses 384 = .ok (.aload_n 0, 1) := by decide +kernel
theorem dL_refuses_385 : decode cL_refuses 385 = .ok (.bipush 15, 2) := by decide +kernel
theorem dL_refuses_387 : decode cL_refuses 387 = .ok (.iload 4, 2) := by decide +kernel
theorem dL_refuses_389 : decode cL_refuses 389 = .ok (.iconst 0, 1) := by decide +kernel
theorem dL_refuses_390 : decode cL_refuses 390 = .ok (.iconst 0, 1) := by decide +kernel
theorem dL_refuses_391 : decode cL_refuses 391 = .ok (.invokestatic 194, 3) := by decide +kernel
theorem dL_refuses_394 : decode cL_refuses 394 = .ok (.ldc 40, 2) := by decide +kernel
theorem dL_refuses_396 : decode cL_refuses 396 = .ok (.if_icmp .ne 228, 3) := by decide +kernel
theorem dL_refuses_399 : decode cL_refuses 399 = .ok (.aload_n 0, 1) := by decide +kernel
theorem dL_refuses_400 : decode cL_refuses 400 = .ok (.bipush 16, 2) := by decide +kernel
theorem dL_refuses_402 : decode cL_refuses 402 = .ok (.iload 4, 2) := by decide +kernel
theorem dL_refuses_404 : decode cL_refuses 404 = .ok (.iconst 0, 1) := by decide +kernel
theorem dL_refuses_405 : decode cL_refuses 405 = .ok (.iconst 0, 1) := by decide +kernel
theorem dL_refuses_406 : decode cL_refuses 406 = .ok (.invokestatic 194, 3) := by decide +kernel
theorem dL_refuses_409 : decode cL_refuses 409 = .ok (.ldc 40, 2) := by decide +kernel
theorem dL_refuses_411 : decode cL_refuses 411 = .ok (.if_icmp .ne 213, 3) := by decide +kernel
theorem dL_refuses_414 : decode cL_refuses 414 = .ok (.aload_n 0, 1) := by decide +kernel
theorem dL_refuses_415 : decode cL_refuses 415 = .ok (.bipush 16, 2) := by decide +kernel
theorem dL_refuses_417 : decode cL_refuses 417 = .ok (.iload_n 1, 1) := by decide +kernel
theorem dL_refuses_418 : decode cL_refuses 418 = .ok (.iconst 4, 1) := by decide +kernel
theorem dL_refuses_419 : decode cL_refuses 419 = .ok (.irem, 1) := by decide +kernel
theorem dL_refuses_420 : decode cL_refuses 420 = .ok (.bipush 10, 2) := by decide +kernel
theorem dL_refuses_422 : decode cL_refuses 422 = .ok (.iload_n 1, 1) := by decide +kernel
theorem dL_refuses_423 : decode cL_refuses 423 = .ok (.bipush 9, 2) := by decide +kernel
theorem dL_refuses_425 : decode cL_refuses 425 = .ok (.irem, 1) := by decide +kernel
theorem dL_refuses_426 : decode cL_refuses 426 = .ok (.iadd, 1) := by decide +kernel
theorem dL_refuses_427 : decode cL_refuses 427 = .ok (.iconst 0, 1) := by decide +kernel
theorem dL_refuses_428 : decode cL_refuses 428 = .ok (.invokestatic 194, 3) := by decide +kernel
theorem dL_refuses_431 : decode cL_refuses 431 = .ok (.ldc 15, 2) := by decide +kernel
theorem dL_refuses_433 : decode cL_refuses 433 = .ok (.if_icmp .ne 191, 3) := by decide +kernel
theorem dL_refuses_436 : decode cL_refuses 436 = .ok (.aload_n 0, 1) := by decide +kernel
theorem dL_refuses_437 : decode cL_refuses 437 = .ok (.bipush 17, 2) := by decide +kernel
theorem dL_refuses_439 : decode cL_refuses 439 = .ok (.bipush 61, 2) := by decide +kernel
theorem dL_refuses_441 : decode cL_refuses 441 = .ok (.iload_n 1, 1) := by decide +kernel
theorem dL_refuses_442 : decode cL_refuses 442 = .ok (.bipush 9, 2) := by decide +kernel
theorem dL_refuses_444 : decode cL_refuses 444 = .ok (.irem, 1) := by decide +kernel
theorem dL_refuses_445 : decode cL_refuses 445 = .ok (.iadd, 1) := by decide +kernel
theorem dL_refuses_446 : decode cL_refuses 446 = .ok (.iconst 0, 1) := by decide +kernel
theorem dL_refuses_447 : decode cL_refuses 447 = .ok (.iconst 0, 1) := by decide +kernel
theorem dL_refuses_448 : decode cL_refuses 448 = .ok (.invokestatic 194, 3) := by decide +kernel
theorem dL_refuses_451 : decode cL_refuses 451 = .ok (.ldc 15, 2) := by decide +kernel
theorem dL_refuses_453 : decode cL_refuses 453 = .ok (.if_icmp .ne 171, 3) := by decide +kernel
theorem dL_refuses_456 : decode cL_refuses 456 = .ok (.aload_n 0, 1) := by decide +kernel
theorem dL_refuses_457 : decode cL_refuses 457 = .ok (.bipush 18, 2) := by decide +kernel
theorem dL_refuses_459 : decode cL_refuses 459 = .ok (.iload_n 1, 1) := by decide +kernel
theorem dL_refuses_460 : decode cL_refuses 460 = .ok (.iconst 4, 1) := by decide +kernel
theorem dL_refuses_461 : decode cL_refuses 461 = .ok (.irem, 1) := by decide +kernel
theorem dL_refuses_462 : decode cL_refuses 462 = .ok (.bipush 100, 2) := by decide +kernel
theorem dL_refuses_464 : decode cL_refuses 464 = .ok (.iload_n 1, 1) := by decide +kernel
theorem dL_refuses_465 : decode cL_refuses 465 = .ok (.bipush 9, 2) := by decide +kernel
theorem dL_refuses_467 : decode cL_refuses 467 = .ok (.irem, 1) := by decide +kernel
theorem dL_refuses_468 : decode cL_refuses 468 = .ok (.iadd, 1) := by decide +kernel
theorem dL_refuses_469 : decode cL_refuses 469 = .ok (.iconst 0, 1) := by decide +kernel
theorem dL_refuses_470 : decode cL_refuses 470 = .ok (.invokestatic 194, 3) := by decide +kernel
theorem dL_refuses_473 : decode cL_refuses 473 = .ok (.ldc 15, 2) := by decide +kernel
theorem dL_refuses_475 : decode cL_refuses 475 = .ok (.if_icmp .ne 149, 3) := by decide +kernel
theorem dL_refuses_478 : decode cL_refuses 478 = .ok (.aload_n 0, 1) := by decide +kernel
theorem dL_refuses_479 : decode cL_refuses 479 = .ok (.bipush 20, 2) := by decide +kernel
theorem dL_refuses_481 : decode cL_refuses 481 = .ok (.iload_n 2, 1) := by decide +kernel
theorem dL_refuses_482 : decode cL_refuses 482 = .ok (.iload 4, 2) := by decide +kernel
theorem dL_refuses_484 : decode cL_refuses 484 = .ok (.iconst 0, 1) := by decide +kernel
theorem dL_refuses_485 : decode cL_refuses 485 = .ok (.invokestatic 194, 3) := by decide +kernel
theorem dL_refuses_488 : decode cL_refuses 488 = .ok (.ldc 40, 2) := by decide +kernel
theorem dL_refuses_490 : decode cL_refuses 490 = .ok (.if_icmp .ne 134, 3) := by decide +kernel
theorem dL_refuses_493 : decode cL_refuses 493 = .ok (.aload_n 0, 1) := by decide +kernel
theorem dL_refuses_494 : decode cL_refuses 494 = .ok (.bipush 21, 2) := by decide +kernel
theorem dL_refuses_496 : decode cL_refuses 496 = .ok (.iload_n 2, 1) := by decide +kernel
theorem dL_refuses_497 : decode cL_refuses 497 = .ok (.iconst 0, 1) := by decide +kernel
theorem dL_refuses_498 : decode cL_refuses 498 = .ok (.iconst 0, 1) := by decide +kernel
theorem dL_refuses_499 : decode cL_refuses 499 = .ok (.invokestatic 194, 3) := by decide +kernel
theorem dL_refuses_502 : decode cL_refuses 502 = .ok (.ldc 40, 2) := by decide +kernel
theorem dL_refuses_504 : decode cL_refuses 504 = .ok (.if_icmp .ne 120, 3) := by decide +kernel
theorem dL_refuses_507 : decode cL_refuses 507 = .ok (.aload_n 0, 1) := by decide +kernel
theorem dL_refuses_508 : decode cL_refuses 508 = .ok (.bipush 22, 2) := by decide +kernel
theorem dL_refuses_510 : decode cL_refuses 510 = .ok (.iload 4, 2) := by decide +kernel
theorem dL_refuses_512 : decode cL_refuses 512 = .ok (.bipush 9, 2) := by decide +kernel
theorem dL_refuses_514 : decode cL_refuses 514 = .ok (.iconst 0, 1) := by decide +kernel
theorem dL_refuses_515 : decode cL_refuses 515 = .ok (.invokestatic 194, 3) := by decide +kernel
theorem dL_refuses_518 : decode cL_refuses 518 = .ok (.ldc 40, 2) := by decide +kernel
theorem dL_refuses_520 : decode cL_refuses 520 = .ok (.if_icmp .ne 104, 3) := by decide +kernel
theorem dL_refuses_523 : decode cL_refuses 523 = .ok (.aload_n 0, 1) := by decide +kernel
theorem dL_refuses_524 : decode cL_refuses 524 = .ok (.bipush 23, 2) := by decide +kernel
theorem dL_refuses_526 : decode cL_refuses 526 = .ok (.iload_n 3, 1) := by decide +kernel
theorem dL_refuses_527 : decode cL_refuses 527 = .ok (.iconst 0, 1) := by decide +kernel
theorem dL_refuses_528 : decode cL_refuses 528 = .ok (.iconst 0, 1) := by decide +kernel
theorem dL_refuses_529 : decode cL_refuses 529 = .ok (.invokestatic 194, 3) := by decide +kernel
theorem dL_refuses_532 : decode cL_refuses 532 = .ok (.ldc 40, 2) := by decide +kernel
theorem dL_refuses_534 : decode cL_refuses 534 = .ok (.if_icmp .ne 90, 3) := by decide +kernel
theorem dL_refuses_537 : decode cL_refuses 537 = .ok (.aload_n 0, 1) := by decide +kernel
theorem dL_refuses_538 : decode cL_refuses 538 = .ok (.bipush 24, 2) := by decide +kernel
theorem dL_refuses_540 : decode cL_refuses 540 = .ok (.iconst 2, 1) := by decide +kernel
theorem dL_refuses_541 : decode cL_refuses 541 = .ok (.iload_n 1, 1) := by decide +kernel
theorem dL_refuses_542 : decode cL_refuses 542 = .ok (.bipush 50, 2) := by decide +kernel
theorem dL_refuses_544 : decode cL_refuses 544 = .ok (.irem, 1) := by decide +kernel
theorem dL_refuses_545 : decode cL_refuses 545 = .ok (.iadd, 1) := by decide +kernel
theorem dL_refuses_546 : decode cL_refuses 546 = .ok (.iconst 0, 1) := by decide +kernel
theorem dL_refuses_547 : decode cL_refuses 547 = .ok (.iconst 0, 1) := by decide +kernel
theorem dL_refuses_548 : decode cL_refuses 548 = .ok (.invokestatic 194, 3) := by decide +kernel
theorem dL_refuses_551 : decode cL_refuses 551 = .ok (.ldc 40, 2) := by decide +kernel
theorem dL_refuses_553 : decode cL_refuses 553 = .ok (.if_icmp .ne 71, 3) := by decide +kernel
theorem dL_refuses_556 : decode cL_refuses 556 = .ok (.aload_n 0, 1) := by decide +kernel
theorem dL_refuses_557 : decode cL_refuses 557 = .ok (.bipush 25, 2) := by decide +kernel
theorem dL_refuses_559 : decode cL_refuses 559 = .ok (.iconst (-1), 1) := by decide +kernel
theorem dL_refuses_560 : decode cL_refuses 560 = .ok (.iload_n 1, 1) := by decide +kernel
theorem dL_refuses_561 : decode cL_refuses 561 = .ok (.bipush 9, 2) := by decide +kernel
theorem dL_refuses_563 : decode cL_refuses 563 = .ok (.irem, 1) := by decide +kernel
theorem dL_refuses_564 : decode cL_refuses 564 = .ok (.isub, 1) := by decide +kernel
theorem dL_refuses_565 : decode cL_refuses 565 = .ok (.iconst 0, 1) := by decide +kernel
theorem dL_refuses_566 : decode cL_refuses 566 = .ok (.iconst 0, 1) := by decide +kernel
theorem dL_refuses_567 : decode cL_refuses 567 = .ok (.invokestatic 194, 3) := by decide +kernel
theorem dL_refuses_570 : decode cL_refuses 570 = .ok (.ldc 40, 2) := by decide +kernel
theorem dL_refuses_572 : decode cL_refuses 572 = .ok (.if_icmp .ne 52, 3) := by decide +kernel
theorem dL_refuses_575 : decode cL_refuses 575 = .ok (.aload_n 0, 1) := by decide +kernel
theorem dL_refuses_576 : decode cL_refuses 576 = .ok (.iconst 0, 1) := by decide +kernel
theorem dL_refuses_577 : decode cL_refuses 577 = .ok (.lconst 0, 1) := by decide +kernel
theorem dL_refuses_578 : decode cL_refuses 578 = .ok (.invokestatic 198, 3) := by decide +kernel
theorem dL_refuses_581 : decode cL_refuses 581 = .ok (.ldc 15, 2) := by decide +kernel
theorem dL_refuses_583 : decode cL_refuses 583 = .ok (.if_icmp .ne 41, 3) := by decide +kernel
theorem dL_refuses_586 : decode cL_refuses 586 = .ok (.aload_n 0, 1) := by decide +kernel
theorem dL_refuses_587 : decode cL_refuses 587 = .ok (.iconst 1, 1) := by decide +kernel
theorem dL_refuses_588 : decode cL_refuses 588 = .ok (.ldc2_w 202, 3) := by decide +kernel
theorem dL_refuses_591 : decode cL_refuses 591 = .ok (.iload_n 1, 1) := by decide +kernel
theorem dL_refuses_592 : decode cL_refuses 592 = .ok (.i2l, 1) := by decide +kernel
theorem dL_refuses_593 : decode cL_refuses 593 = .ok (.ladd, 1) := by decide +kernel
theorem dL_refuses_594 : decode cL_refuses 594 = .ok (.invokestatic 198, 3) := by decide +kernel
theorem dL_refuses_597 : decode cL_refuses 597 = .ok (.ldc 15, 2) := by decide +kernel
theorem dL_refuses_599 : decode cL_refuses 599 = .ok (.if_icmp .ne 25, 3) := by decide +kernel
theorem dL_refuses_602 : decode cL_refuses 602 = .ok (.aload_n 0, 1) := by decide +kernel
theorem dL_refuses_603 : decode cL_refuses 603 = .ok (.iload_n 1, 1) := by decide +kernel
theorem dL_refuses_604 : decode cL_refuses 604 = .ok (.i2l, 1) := by decide +kernel
theorem dL_refuses_605 : decode cL_refuses 605 = .ok (.bipush 81, 2) := by decide +kernel
theorem dL_refuses_607 : decode cL_refuses 607 = .ok (.iload_n 1, 1) := by decide +kernel
theorem dL_refuses_608 : decode cL_refuses 608 = .ok (.bipush 9, 2) := by decide +kernel
theorem dL_refuses_610 : decode cL_refuses 610 = .ok (.irem, 1) := by decide +kernel
theorem dL_refuses_611 : decode cL_refuses 611 = .ok (.iadd, 1) := by decide +kernel
theorem dL_refuses_612 : decode cL_refuses 612 = .ok (.invokestatic 204, 3) := by decide +kernel
theorem dL_refuses_615 : decode cL_refuses 615 = .ok (.ldc 15, 2) := by decide +kernel
theorem dL_refuses_617 : decode cL_refuses 617 = .ok (.if_icmp .ne 7, 3) := by decide +kernel
theorem dL_refuses_620 : decode cL_refuses 620 = .ok (.iconst 1, 1) := by decide +kernel
theorem dL_refuses_621 : decode cL_refuses 621 = .ok (.goto 4, 3) := by decide +kernel
theorem dL_refuses_624 : decode cL_refuses 624 = .ok (.iconst 0, 1) := by decide +kernel
theorem dL_refuses_625 : decode cL_refuses 625 = .ok (.ireturn, 1) := by decide +kernel
theorem yf_L_call : (Cond.static yL_call) ∈ gtbl ∧ (Cond.initialized yL_call.cls) ∈ gtbl ∧ (Cond.code yL_call cL_call 5 (some .int)) ∈ gtbl ∧ (yL_call.cls ≠ "java/lang/invoke/MethodHandle" ∧ yL_call.cls ≠ "java/lang/invoke/VarHandle" ∧ (parseMethodDescriptor yL_call.desc).map (fun d => d.parameters.length) = some 5) := ⟨gt_in 298 (by decide +kernel) (by decide +kernel), gt_in 9 (by decide +kernel) (by decide +kernel), gt_in 299 (by decide +kernel) (by decide +kernel), by decide +kernel⟩
theorem cw_L_194 : uCS RL 194 yL_call cL_call 5 (some .int) 5 := ⟨gt_in 297 (by decide +kernel) (by decide +kernel), yf_L_call⟩
theorem cl_198 : uCH RL 198 yL_tryScript cL_tryScript 5 [(0, 6, 7, 13)] 3 := ⟨gt_in 981 (by decide +kernel) (by decide +kernel), gt_in 982 (by decide +kernel) (by decide +kernel), gt_in 9 (by decide +kernel) (by decide +kernel), gt_in 983 (by decide +kernel) (by decide +kernel), by decide +kernel⟩
theorem cl_204 : uCH RL 204 yL_trySimulate cL_trySimulate 5 [(0, 6, 7, 13)] 3 := ⟨gt_in 1012 (by decide +kernel) (by decide +kernel), gt_in 1013 (by decide +kernel) (by decide +kernel), gt_in 9 (by decide +kernel) (by decide +kernel), gt_in 1014 (by decide +kernel) (by decide +kernel), by decide +kernel⟩
noncomputable def fL_refuses (M : Nat → Nat → Int32) (a1 : Int32) : Option Int32 :=
  bd (qk (rcall M 2 0 0 0) M) fun x1 =>
  lt_ ((x1 + (a1 - a1 / 50 * 50))) fun x4 =>
  bd (qk (rcall M 2 1 0 0) M) fun x6 =>
  lt_ ((x6 + (a1 - a1 / 50 * 50))) fun x9 =>
  lt_ (if (a1 - a1 / 2 * 2) = 0 then ((-1) - (a1 - a1 / 99 * 99)) else (4 + (a1 - a1 / 99 * 99))) fun v12 =>
  lt_ (if (a1 - a1 / 2 * 2) = 0 then ((-1) - (a1 - a1 / 9 * 9)) else (256 + (a1 - a1 / 9 * 9))) fun v15 =>
  bd (qk (rcall M 0 v15 0 0) M) fun x17 =>
  gd (decide (x17 = (-9999002))) <|
  bd (qk (rcall M 2 (11 + (a1 - a1 / 50 * 50)) 0 0) M) fun x22 =>
  gd (decide (x22 = (-9999002))) <|
  bd (qk (rcall M 3 x4 9 0) M) fun x27 =>
  gd (decide (x27 = (-9999001))) <|
  bd (qk (rcall M 3 0 (4 + (a1 - a1 / 9 * 9)) 0) M) fun x32 =>
  gd (decide (x32 = (-9999002))) <|
  bd (qk (rcall M 4 x9 9 0) M) fun x37 =>
  gd (decide (x37 = (-9999001))) <|
  bd (qk (rcall M 4 0 (8 + (a1 - a1 / 9 * 9)) 0) M) fun x42 =>
  gd (decide (x42 = (-9999002))) <|
  bd (qk (rcall M 5 v12 9 0) M) fun x47 =>
  gd (decide (x47 = (-9999001))) <|
  bd (qk (rcall M 6 (a1 - a1 / 4 * 4) (12 + (a1 - a1 / 9 * 9)) 9) M) fun x52 =>
  gd (decide (x52 = (-9999001))) <|
  bd (qk (rcall M 6 v12 0 9) M) fun x57 =>
  gd (decide (x57 = (-9999001))) <|
  bd (qk (rcall M 7 (4 + (a1 - a1 / 9 * 9)) 0 0) M) fun x62 =>
  gd (decide (x62 = (-9999002))) <|
  bd (qk (rcall M 8 (100 + (a1 - a1 / 9 * 9)) 0 0) M) fun x67 =>
  gd (decide (x67 = (-9999002))) <|
  bd (qk (rcall M 9 x4 0 0) M) fun x72 =>
  gd (decide (x72 = (-9999001))) <|
  bd (qk (rcall M 10 x4 0 0) M) fun x77 =>
  gd (decide (x77 = (-9999001))) <|
  bd (qk (rcall M 10 0 v12 0) M) fun x82 =>
  gd (decide (x82 = (-9999001))) <|
  bd (qk (rcall M 11 x9 0 0) M) fun x87 =>
  gd (decide (x87 = (-9999001))) <|
  bd (qk (rcall M 11 0 (100 + (a1 - a1 / 9 * 9)) 0) M) fun x92 =>
  gd (decide (x92 = (-9999002))) <|
  bd (qk (rcall M 12 x9 0 0) M) fun x97 =>
  gd (decide (x97 = (-9999001))) <|
  bd (qk (rcall M 13 v12 0 0) M) fun x102 =>
  gd (decide (x102 = (-9999001))) <|
  bd (qk (rcall M 14 v12 0 0) M) fun x107 =>
  gd (decide (x107 = (-9999001))) <|
  bd (qk (rcall M 15 v12 0 0) M) fun x112 =>
  gd (decide (x112 = (-9999001))) <|
  bd (qk (rcall M 16 v12 0 0) M) fun x117 =>
  gd (decide (x117 = (-9999001))) <|
  bd (qk (rcall M 16 (a1 - a1 / 4 * 4) (10 + (a1 - a1 / 9 * 9)) 0) M) fun x122 =>
  gd (decide (x122 = (-9999002))) <|
  bd (qk (rcall M 17 (61 + (a1 - a1 / 9 * 9)) 0 0) M) fun x127 =>
  gd (decide (x127 = (-9999002))) <|
  bd (qk (rcall M 18 (a1 - a1 / 4 * 4) (100 + (a1 - a1 / 9 * 9)) 0) M) fun x132 =>
  gd (decide (x132 = (-9999002))) <|
  bd (qk (rcall M 20 x4 v12 0) M) fun x137 =>
  gd (decide (x137 = (-9999001))) <|
  bd (qk (rcall M 21 x4 0 0) M) fun x142 =>
  gd (decide (x142 = (-9999001))) <|
  bd (qk (rcall M 22 v12 9 0) M) fun x147 =>
  gd (decide (x147 = (-9999001))) <|
  bd (qk (rcall M 23 x9 0 0) M) fun x152 =>
  gd (decide (x152 = (-9999001))) <|
  bd (qk (rcall M 24 (2 + (a1 - a1 / 50 * 50)) 0 0) M) fun x157 =>
  gd (decide (x157 = (-9999001))) <|
  bd (qk (rcall M 25 ((-1) - (a1 - a1 / 9 * 9)) 0 0) M) fun x162 =>
  gd (decide (x162 = (-9999001))) <|
  gdp (badS 0 0) <|
  gdp (badS 1 (10000 + ((a1 : Int32).toInt64))) <|
  bd (qk (rsim M ((a1 : Int32).toInt64) (81 + (a1 - a1 / 9 * 9))) M) fun x175 =>
  gd (decide (x175 = (-9999002))) <|
  some 1
set_option maxHeartbeats 8000000 in
set_option maxRecDepth 20000 in
theorem kL_refuses {l : Launch} {G : UG} (hG : uAll G) (hN : uNo G) (hlt : l.stackTraces = false) {n : Nat} (hn : n ≤ 850) {M : Nat → Nat → Int32} (hm : norm M = M) {a1 : Int32} {r : Int32} (h : fL_refuses M a1 = some r) : uGi l G yL_refuses cL_refuses 5 .boolean 11 40 240 214 [.ref (ga G 18 0), .int a1] n M r n M := by
  have hA : ∀ q, uA G q → uA G q := fun q h => h
  refine uGi_body rfl (Nat.le_of_ble_eq_true rfl) (fun p e s m args below meth c ls X hret hl Z => ?_)
  have hx := X.hx
  have hb := X.hb
  have hl : lv_has ls 5 [(0, .ref (ga G 18 0)), (1, .int a1)] := hl
  unfold fL_refuses at h
  refine lv_aload_n hx hb dL_refuses_0 rfl (lv_at hl 0 rfl) ?_
  refine lv_iconst (v := 2) hx hb dL_refuses_1 (by decide) ?_
  refine lv_iconst (v := 0) hx hb dL_refuses_2 (by decide) ?_
  refine lv_iconst (v := 0) hx hb dL_refuses_3 (by decide) ?_
  refine lv_iconst (v := 0) hx hb dL_refuses_4 (by decide) ?_
  obtain ⟨x1, e2, h⟩ := bd_e h
  refine o_cS X hA (stb_t _) Z hl.1 (kG_callq hG hN hlt hn (qk_e e2)) cw_L_194 ⟨Nat.le_of_ble_eq_true rfl, Nat.le_of_ble_eq_true rfl⟩ rfl rfl (Nat.le_of_ble_eq_true rfl) ⟨Nat.le_of_ble_eq_true rfl, Nat.le_of_ble_eq_true rfl⟩ dL_refuses_5 (fun H locs Z n3 => ?_)
  refine lv_iload_n hx hb dL_refuses_8 rfl (lv_at hl 1 rfl) ?_
  refine lv_bipush (v := 50) hx hb dL_refuses_9 (by decide) ?_
  refine lv_irem hx hb dL_refuses_11 (by decide) ?_
  refine lv_iadd hx hb dL_refuses_12 ?_
  obtain ⟨x4, e5, h⟩ := lt_e h
  refine u_topi e5 ?_
  refine lv_istore_n (lv' := [(2, .int x4), (0, .ref (ga G 18 0)), (1, .int a1)]) hx hb dL_refuses_13 rfl hl (by decide) rfl (fun ls hl => ?_)
  refine lv_aload_n hx hb dL_refuses_14 rfl (lv_at hl 1 rfl) ?_
  refine lv_iconst (v := 2) hx hb dL_refuses_15 (by decide) ?_
  refine lv_iconst (v := 1) hx hb dL_refuses_16 (by decide) ?_
  refine lv_iconst (v := 0) hx hb dL_refuses_17 (by decide) ?_
  refine lv_iconst (v := 0) hx hb dL_refuses_18 (by decide) ?_
  obtain ⟨x6, e7, h⟩ := bd_e h
  refine o_cS X hA (stb_t _) Z hl.1 (kG_callq hG hN hlt hn (qk_e e7)) cw_L_194 ⟨Nat.le_of_ble_eq_true rfl, Nat.le_of_ble_eq_true rfl⟩ rfl rfl (Nat.le_of_ble_eq_true rfl) ⟨Nat.le_of_ble_eq_true rfl, Nat.le_of_ble_eq_true rfl⟩ dL_refuses_19 (fun H locs Z n8 => ?_)
  refine lv_iload_n hx hb dL_refuses_22 rfl (lv_at hl 2 rfl) ?_
  refine lv_bipush (v := 50) hx hb dL_refuses_23 (by decide) ?_
  refine lv_irem hx hb dL_refuses_25 (by decide) ?_
  refine lv_iadd hx hb dL_refuses_26 ?_
  obtain ⟨x9, e10, h⟩ := lt_e h
  refine u_topi e10 ?_
  refine lv_istore_n (lv' := [(3, .int x9), (2, .int x4), (0, .ref (ga G 18 0)), (1, .int a1)]) hx hb dL_refuses_27 rfl hl (by decide) rfl (fun ls hl => ?_)
  refine lv_iload_n hx hb dL_refuses_28 rfl (lv_at hl 3 rfl) ?_
  refine lv_iconst (v := 2) hx hb dL_refuses_29 (by decide) ?_
  refine lv_irem hx hb dL_refuses_30 (by decide) ?_
  obtain ⟨v12, e13, h⟩ := lt_e h
  refine w_join (J := 49) (ls := ls) (rest := []) e13 (fun kt kf => ?_) ?_
  · refine lv_if_ne (tgt := 43) hx hb dL_refuses_31 (by decide) (fun c11 => ?_) (fun c11 => ?_)
    · refine lv_iconst (v := 4) hx hb dL_refuses_43 (by decide) ?_
      refine lv_iload_n hx hb dL_refuses_44 rfl (lv_at hl 3 rfl) ?_
      refine lv_bipush (v := 99) hx hb dL_refuses_45 (by decide) ?_
      refine lv_irem hx hb dL_refuses_47 (by decide) ?_
      refine lv_iadd hx hb dL_refuses_48 ?_
      exact kf c11
    · refine lv_iconst (v := (-1)) hx hb dL_refuses_34 (by decide) ?_
      refine lv_iload_n hx hb dL_refuses_35 rfl (lv_at hl 3 rfl) ?_
      refine lv_bipush (v := 99) hx hb dL_refuses_36 (by decide) ?_
      refine lv_irem hx hb dL_refuses_38 (by decide) ?_
      refine lv_isub hx hb dL_refuses_39 ?_
      refine lv_goto (tgt := 49) hx hb dL_refuses_40 (by decide) ?_
      exact kt c11
  refine lv_istore (lv' := [(4, .int v12), (3, .int x9), (2, .int x4), (0, .ref (ga G 18 0)), (1, .int a1)]) hx hb dL_refuses_49 hl (by decide) rfl (fun ls hl => ?_)
  refine lv_aload_n hx hb dL_refuses_51 rfl (lv_at hl 3 rfl) ?_
  refine lv_iconst (v := 0) hx hb dL_refuses_52 (by decide) ?_
  refine lv_iload_n hx hb dL_refuses_53 rfl (lv_at hl 4 rfl) ?_
  refine lv_iconst (v := 2) hx hb dL_refuses_54 (by decide) ?_
  refine lv_irem hx hb dL_refuses_55 (by decide) ?_
  obtain ⟨v15, e16, h⟩ := lt_e h
  refine w_join (J := 76) (ls := ls) (rest := [.int 0, .ref (ga G 18 0)]) e16 (fun kt kf => ?_) ?_
  · refine lv_if_ne (tgt := 68) hx hb dL_refuses_56 (by decide) (fun c14 => ?_) (fun c14 => ?_)
    · refine lv_sipush (v := 256) hx hb dL_refuses_68 (by decide) ?_
      refine lv_iload_n hx hb dL_refuses_71 rfl (lv_at hl 4 rfl) ?_
      refine lv_bipush (v := 9) hx hb dL_refuses_72 (by decide) ?_
      refine lv_irem hx hb dL_refuses_74 (by decide) ?_
      refine lv_iadd hx hb dL_refuses_75 ?_
      exact kf c14
    · refine lv_iconst (v := (-1)) hx hb dL_refuses_59 (by decide) ?_
      refine lv_iload_n hx hb dL_refuses_60 rfl (lv_at hl 4 rfl) ?_
      refine lv_bipush (v := 9) hx hb dL_refuses_61 (by decide) ?_
      refine lv_irem hx hb dL_refuses_63 (by decide) ?_
      refine lv_isub hx hb dL_refuses_64 ?_
      refine lv_goto (tgt := 76) hx hb dL_refuses_65 (by decide) ?_
      exact kt c14
  refine lv_iconst (v := 0) hx hb dL_refuses_76 (by decide) ?_
  refine lv_iconst (v := 0) hx hb dL_refuses_77 (by decide) ?_
  obtain ⟨x17, e18, h⟩ := bd_e h
  refine o_cS X hA (stb_t _) Z hl.1 (kG_callq hG hN hlt hn (qk_e e18)) cw_L_194 ⟨Nat.le_of_ble_eq_true rfl, Nat.le_of_ble_eq_true rfl⟩ rfl rfl (Nat.le_of_ble_eq_true rfl) ⟨Nat.le_of_ble_eq_true rfl, Nat.le_of_ble_eq_true rfl⟩ dL_refuses_78 (fun H locs Z n19 => ?_)
  refine lv_ldc (v := (-9999002)) hx hb X.1.2.2.2.1 (X.hts (gt_in 411 (by decide +kernel) (by decide +kernel))) dL_refuses_81 ?_
  obtain ⟨z21, h⟩ := gd_e h
  refine lv_icmp_ne (tgt := 624) hx hb dL_refuses_83 (by decide) (fun cn => absurd (of_decide_eq_true z21) cn) (fun c20 => ?_)
  refine lv_aload_n hx hb dL_refuses_86 rfl (lv_at hl 3 rfl) ?_
  refine lv_iconst (v := 2) hx hb dL_refuses_87 (by decide) ?_
  refine lv_bipush (v := 11) hx hb dL_refuses_88 (by decide) ?_
  refine lv_iload_n hx hb dL_refuses_90 rfl (lv_at hl 4 rfl) ?_
  refine lv_bipush (v := 50) hx hb dL_refuses_91 (by decide) ?_
  refine lv_irem hx hb dL_refuses_93 (by decide) ?_
  refine lv_iadd hx hb dL_refuses_94 ?_
  refine lv_iconst (v := 0) hx hb dL_refuses_95 (by decide) ?_
  refine lv_iconst (v := 0) hx hb dL_refuses_96 (by decide) ?_
  obtain ⟨x22, e23, h⟩ := bd_e h
  refine o_cS X hA (stb_t _) Z hl.1 (kG_callq hG hN hlt hn (qk_e e23)) cw_L_194 ⟨Nat.le_of_ble_eq_true rfl, Nat.le_of_ble_eq_true rfl⟩ rfl rfl (Nat.le_of_ble_eq_true rfl) ⟨Nat.le_of_ble_eq_true rfl, Nat.le_of_ble_eq_true rfl⟩ dL_refuses_97 (fun H locs Z n24 => ?_)
  refine lv_ldc (v := (-9999002)) hx hb X.1.2.2.2.1 (X.hts (gt_in 411 (by decide +kernel) (by decide +kernel))) dL_refuses_100 ?_
  obtain ⟨z26, h⟩ := gd_e h
  refine lv_icmp_ne (tgt := 624) hx hb dL_refuses_102 (by decide) (fun cn => absurd (of_decide_eq_true z26) cn) (fun c25 => ?_)
  refine lv_aload_n hx hb dL_refuses_105 rfl (lv_at hl 3 rfl) ?_
  refine lv_iconst (v := 3) hx hb dL_refuses_106 (by decide) ?_
  refine lv_iload_n hx hb dL_refuses_107 rfl (lv_at hl 2 rfl) ?_
  refine lv_bipush (v := 9) hx hb dL_refuses_108 (by decide) ?_
  refine lv_iconst (v := 0) hx hb dL_refuses_110 (by decide) ?_
  obtain ⟨x27, e28, h⟩ := bd_e h
  refine o_cS X hA (stb_t _) Z hl.1 (kG_callq hG hN hlt hn (qk_e e28)) cw_L_194 ⟨Nat.le_of_ble_eq_true rfl, Nat.le_of_ble_eq_true rfl⟩ rfl rfl (Nat.le_of_ble_eq_true rfl) ⟨Nat.le_of_ble_eq_true rfl, Nat.le_of_ble_eq_true rfl⟩ dL_refuses_111 (fun H locs Z n29 => ?_)
  refine lv_ldc (v := (-9999001)) hx hb X.1.2.2.2.1 (X.hts (gt_in 698 (by decide +kernel) (by decide +kernel))) dL_refuses_114 ?_
  obtain ⟨z31, h⟩ := gd_e h
  refine lv_icmp_ne (tgt := 624) hx hb dL_refuses_116 (by decide) (fun cn => absurd (of_decide_eq_true z31) cn) (fun c30 => ?_)
  refine lv_aload_n hx hb dL_refuses_119 rfl (lv_at hl 3 rfl) ?_
  refine lv_iconst (v := 3) hx hb dL_refuses_120 (by decide) ?_
  refine lv_iconst (v := 0) hx hb dL_refuses_121 (by decide) ?_
  refine lv_iconst (v := 4) hx hb dL_refuses_122 (by decide) ?_
  refine lv_iload_n hx hb dL_refuses_123 rfl (lv_at hl 4 rfl) ?_
  refine lv_bipush (v := 9) hx hb dL_refuses_124 (by decide) ?_
  refine lv_irem hx hb dL_refuses_126 (by decide) ?_
  refine lv_iadd hx hb dL_refuses_127 ?_
  refine lv_iconst (v := 0) hx hb dL_refuses_128 (by decide) ?_
  obtain ⟨x32, e33, h⟩ := bd_e h
  refine o_cS X hA (stb_t _) Z hl.1 (kG_callq hG hN hlt hn (qk_e e33)) cw_L_194 ⟨Nat.le_of_ble_eq_true rfl, Nat.le_of_ble_eq_true rfl⟩ rfl rfl (Nat.le_of_ble_eq_true rfl) ⟨Nat.le_of_ble_eq_true rfl, Nat.le_of_ble_eq_true rfl⟩ dL_refuses_129 (fun H locs Z n34 => ?_)
  refine lv_ldc (v := (-9999002)) hx hb X.1.2.2.2.1 (X.hts (gt_in 411 (by decide +kernel) (by decide +kernel))) dL_refuses_132 ?_
  obtain ⟨z36, h⟩ := gd_e h
  refine lv_icmp_ne (tgt := 624) hx hb dL_refuses_134 (by decide) (fun cn => absurd (of_decide_eq_true z36) cn) (fun c35 => ?_)
  refine lv_aload_n hx hb dL_refuses_137 rfl (lv_at hl 3 rfl) ?_
  refine lv_iconst (v := 4) hx hb dL_refuses_138 (by decide) ?_
  refine lv_iload_n hx hb dL_refuses_139 rfl (lv_at hl 1 rfl) ?_
  refine lv_bipush (v := 9) hx hb dL_refuses_140 (by decide) ?_
  refine lv_iconst (v := 0) hx hb dL_refuses_142 (by decide) ?_
  obtain ⟨x37, e38, h⟩ := bd_e h
  refine o_cS X hA (stb_t _) Z hl.1 (kG_callq hG hN hlt hn (qk_e e38)) cw_L_194 ⟨Nat.le_of_ble_eq_true rfl, Nat.le_of_ble_eq_true rfl⟩ rfl rfl (Nat.le_of_ble_eq_true rfl) ⟨Nat.le_of_ble_eq_true rfl, Nat.le_of_ble_eq_true rfl⟩ dL_refuses_143 (fun H locs Z n39 => ?_)
  refine lv_ldc (v := (-9999001)) hx hb X.1.2.2.2.1 (X.hts (gt_in 698 (by decide +kernel) (by decide +kernel))) dL_refuses_146 ?_
  obtain ⟨z41, h⟩ := gd_e h
  refine lv_icmp_ne (tgt := 624) hx hb dL_refuses_148 (by decide) (fun cn => absurd (of_decide_eq_true z41) cn) (fun c40 => ?_)
  refine lv_aload_n hx hb dL_refuses_151 rfl (lv_at hl 3 rfl) ?_
  refine lv_iconst (v := 4) hx hb dL_refuses_152 (by decide) ?_
  refine lv_iconst (v := 0) hx hb dL_refuses_153 (by decide) ?_
  refine lv_bipush (v := 8) hx hb dL_refuses_154 (by decide) ?_
  refine lv_iload_n hx hb dL_refuses_156 rfl (lv_at hl 4 rfl) ?_
  refine lv_bipush (v := 9) hx hb dL_refuses_157 (by decide) ?_
  refine lv_irem hx hb dL_refuses_159 (by decide) ?_
  refine lv_iadd hx hb dL_refuses_160 ?_
  refine lv_iconst (v := 0) hx hb dL_refuses_161 (by decide) ?_
  obtain ⟨x42, e43, h⟩ := bd_e h
  refine o_cS X hA (stb_t _) Z hl.1 (kG_callq hG hN hlt hn (qk_e e43)) cw_L_194 ⟨Nat.le_of_ble_eq_true rfl, Nat.le_of_ble_eq_true rfl⟩ rfl rfl (Nat.le_of_ble_eq_true rfl) ⟨Nat.le_of_ble_eq_true rfl, Nat.le_of_ble_eq_true rfl⟩ dL_refuses_162 (fun H locs Z n44 => ?_)
  refine lv_ldc (v := (-9999002)) hx hb X.1.2.2.2.1 (X.hts (gt_in 411 (by decide +kernel) (by decide +kernel))) dL_refuses_165 ?_
  obtain ⟨z46, h⟩ := gd_e h
  refine lv_icmp_ne (tgt := 624) hx hb dL_refuses_167 (by decide) (fun cn => absurd (of_decide_eq_true z46) cn) (fun c45 => ?_)
  refine lv_aload_n hx hb dL_refuses_170 rfl (lv_at hl 3 rfl) ?_
  refine lv_iconst (v := 5) hx hb dL_refuses_171 (by decide) ?_
  refine lv_iload hx hb dL_refuses_172 (lv_at hl 0 rfl) ?_
  refine lv_bipush (v := 9) hx hb dL_refuses_174 (by decide) ?_
  refine lv_iconst (v := 0) hx hb dL_refuses_176 (by decide) ?_
  obtain ⟨x47, e48, h⟩ := bd_e h
  refine o_cS X hA (stb_t _) Z hl.1 (kG_callq hG hN hlt hn (qk_e e48)) cw_L_194 ⟨Nat.le_of_ble_eq_true rfl, Nat.le_of_ble_eq_true rfl⟩ rfl rfl (Nat.le_of_ble_eq_true rfl) ⟨Nat.le_of_ble_eq_true rfl, Nat.le_of_ble_eq_true rfl⟩ dL_refuses_177 (fun H locs Z n49 => ?_)
  refine lv_ldc (v := (-9999001)) hx hb X.1.2.2.2.1 (X.hts (gt_in 698 (by decide +kernel) (by decide +kernel))) dL_refuses_180 ?_
  obtain ⟨z51, h⟩ := gd_e h
  refine lv_icmp_ne (tgt := 624) hx hb dL_refuses_182 (by decide) (fun cn => absurd (of_decide_eq_true z51) cn) (fun c50 => ?_)
  refine lv_aload_n hx hb dL_refuses_185 rfl (lv_at hl 3 rfl) ?_
  refine lv_bipush (v := 6) hx hb dL_refuses_186 (by decide) ?_
  refine lv_iload_n hx hb dL_refuses_188 rfl (lv_at hl 4 rfl) ?_
  refine lv_iconst (v := 4) hx hb dL_refuses_189 (by decide) ?_
  refine lv_irem hx hb dL_refuses_190 (by decide) ?_
  refine lv_bipush (v := 12) hx hb dL_refuses_191 (by decide) ?_
  refine lv_iload_n hx hb dL_refuses_193 rfl (lv_at hl 4 rfl) ?_
  refine lv_bipush (v := 9) hx hb dL_refuses_194 (by decide) ?_
  refine lv_irem hx hb dL_refuses_196 (by decide) ?_
  refine lv_iadd hx hb dL_refuses_197 ?_
  refine lv_bipush (v := 9) hx hb dL_refuses_198 (by decide) ?_
  obtain ⟨x52, e53, h⟩ := bd_e h
  refine o_cS X hA (stb_t _) Z hl.1 (kG_callq hG hN hlt hn (qk_e e53)) cw_L_194 ⟨Nat.le_of_ble_eq_true rfl, Nat.le_of_ble_eq_true rfl⟩ rfl rfl (Nat.le_of_ble_eq_true rfl) ⟨Nat.le_of_ble_eq_true rfl, Nat.le_of_ble_eq_true rfl⟩ dL_refuses_200 (fun H locs Z n54 => ?_)
  refine lv_ldc (v := (-9999001)) hx hb X.1.2.2.2.1 (X.hts (gt_in 698 (by decide +kernel) (by decide +kernel))) dL_refuses_203 ?_
  obtain ⟨z56, h⟩ := gd_e h
  refine lv_icmp_ne (tgt := 624) hx hb dL_refuses_205 (by decide) (fun cn => absurd (of_decide_eq_true z56) cn) (fun c55 => ?_)
  refine lv_aload_n hx hb dL_refuses_208 rfl (lv_at hl 3 rfl) ?_
  refine lv_bipush (v := 6) hx hb dL_refuses_209 (by decide) ?_
  refine lv_iload hx hb dL_refuses_211 (lv_at hl 0 rfl) ?_
  refine lv_iconst (v := 0) hx hb dL_refuses_213 (by decide) ?_
  refine lv_bipush (v := 9) hx hb dL_refuses_214 (by decide) ?_
  obtain ⟨x57, e58, h⟩ := bd_e h
  refine o_cS X hA (stb_t _) Z hl.1 (kG_callq hG hN hlt hn (qk_e e58)) cw_L_194 ⟨Nat.le_of_ble_eq_true rfl, Nat.le_of_ble_eq_true rfl⟩ rfl rfl (Nat.le_of_ble_eq_true rfl) ⟨Nat.le_of_ble_eq_true rfl, Nat.le_of_ble_eq_true rfl⟩ dL_refuses_216 (fun H locs Z n59 => ?_)
  refine lv_ldc (v := (-9999001)) hx hb X.1.2.2.2.1 (X.hts (gt_in 698 (by decide +kernel) (by decide +kernel))) dL_refuses_219 ?_
  obtain ⟨z61, h⟩ := gd_e h
  refine lv_icmp_ne (tgt := 624) hx hb dL_refuses_221 (by decide) (fun cn => absurd (of_decide_eq_true z61) cn) (fun c60 => ?_)
  refine lv_aload_n hx hb dL_refuses_224 rfl (lv_at hl 3 rfl) ?_
  refine lv_bipush (v := 7) hx hb dL_refuses_225 (by decide) ?_
  refine lv_iconst (v := 4) hx hb dL_refuses_227 (by decide) ?_
  refine lv_iload_n hx hb dL_refuses_228 rfl (lv_at hl 4 rfl) ?_
  refine lv_bipush (v := 9) hx hb dL_refuses_229 (by decide) ?_
  refine lv_irem hx hb dL_refuses_231 (by decide) ?_
  refine lv_iadd hx hb dL_refuses_232 ?_
  refine lv_iconst (v := 0) hx hb dL_refuses_233 (by decide) ?_
  refine lv_iconst (v := 0) hx hb dL_refuses_234 (by decide) ?_
  obtain ⟨x62, e63, h⟩ := bd_e h
  refine o_cS X hA (stb_t _) Z hl.1 (kG_callq hG hN hlt hn (qk_e e63)) cw_L_194 ⟨Nat.le_of_ble_eq_true rfl, Nat.le_of_ble_eq_true rfl⟩ rfl rfl (Nat.le_of_ble_eq_true rfl) ⟨Nat.le_of_ble_eq_true rfl, Nat.le_of_ble_eq_true rfl⟩ dL_refuses_235 (fun H locs Z n64 => ?_)
  refine lv_ldc (v := (-9999002)) hx hb X.1.2.2.2.1 (X.hts (gt_in 411 (by decide +kernel) (by decide +kernel))) dL_refuses_238 ?_
  obtain ⟨z66, h⟩ := gd_e h
  refine lv_icmp_ne (tgt := 624) hx hb dL_refuses_240 (by decide) (fun cn => absurd (of_decide_eq_true z66) cn) (fun c65 => ?_)
  refine lv_aload_n hx hb dL_refuses_243 rfl (lv_at hl 3 rfl) ?_
  refine lv_bipush (v := 8) hx hb dL_refuses_244 (by decide) ?_
  refine lv_bipush (v := 100) hx hb dL_refuses_246 (by decide) ?_
  refine lv_iload_n hx hb dL_refuses_248 rfl (lv_at hl 4 rfl) ?_
  refine lv_bipush (v := 9) hx hb dL_refuses_249 (by decide) ?_
  refine lv_irem hx hb dL_refuses_251 (by decide) ?_
  refine lv_iadd hx hb dL_refuses_252 ?_
  refine lv_iconst (v := 0) hx hb dL_refuses_253 (by decide) ?_
  refine lv_iconst (v := 0) hx hb dL_refuses_254 (by decide) ?_
  obtain ⟨x67, e68, h⟩ := bd_e h
  refine o_cS X hA (stb_t _) Z hl.1 (kG_callq hG hN hlt hn (qk_e e68)) cw_L_194 ⟨Nat.le_of_ble_eq_true rfl, Nat.le_of_ble_eq_true rfl⟩ rfl rfl (Nat.le_of_ble_eq_true rfl) ⟨Nat.le_of_ble_eq_true rfl, Nat.le_of_ble_eq_true rfl⟩ dL_refuses_255 (fun H locs Z n69 => ?_)
  refine lv_ldc (v := (-9999002)) hx hb X.1.2.2.2.1 (X.hts (gt_in 411 (by decide +kernel) (by decide +kernel))) dL_refuses_258 ?_
  obtain ⟨z71, h⟩ := gd_e h
  refine lv_icmp_ne (tgt := 624) hx hb dL_refuses_260 (by decide) (fun cn => absurd (of_decide_eq_true z71) cn) (fun c70 => ?_)
  refine lv_aload_n hx hb dL_refuses_263 rfl (lv_at hl 3 rfl) ?_
  refine lv_bipush (v := 9) hx hb dL_refuses_264 (by decide) ?_
  refine lv_iload_n hx hb dL_refuses_266 rfl (lv_at hl 2 rfl) ?_
  refine lv_iconst (v := 0) hx hb dL_refuses_267 (by decide) ?_
  refine lv_iconst (v := 0) hx hb dL_refuses_268 (by decide) ?_
  obtain ⟨x72, e73, h⟩ := bd_e h
  refine o_cS X hA (stb_t _) Z hl.1 (kG_callq hG hN hlt hn (qk_e e73)) cw_L_194 ⟨Nat.le_of_ble_eq_true rfl, Nat.le_of_ble_eq_true rfl⟩ rfl rfl (Nat.le_of_ble_eq_true rfl) ⟨Nat.le_of_ble_eq_true rfl, Nat.le_of_ble_eq_true rfl⟩ dL_refuses_269 (fun H locs Z n74 => ?_)
  refine lv_ldc (v := (-9999001)) hx hb X.1.2.2.2.1 (X.hts (gt_in 698 (by decide +kernel) (by decide +kernel))) dL_refuses_272 ?_
  obtain ⟨z76, h⟩ := gd_e h
  refine lv_icmp_ne (tgt := 624) hx hb dL_refuses_274 (by decide) (fun cn => absurd (of_decide_eq_true z76) cn) (fun c75 => ?_)
  refine lv_aload_n hx hb dL_refuses_277 rfl (lv_at hl 3 rfl) ?_
  refine lv_bipush (v := 10) hx hb dL_refuses_278 (by decide) ?_
  refine lv_iload_n hx hb dL_refuses_280 rfl (lv_at hl 2 rfl) ?_
  refine lv_iconst (v := 0) hx hb dL_refuses_281 (by decide) ?_
  refine lv_iconst (v := 0) hx hb dL_refuses_282 (by decide) ?_
  obtain ⟨x77, e78, h⟩ := bd_e h
  refine o_cS X hA (stb_t _) Z hl.1 (kG_callq hG hN hlt hn (qk_e e78)) cw_L_194 ⟨Nat.le_of_ble_eq_true rfl, Nat.le_of_ble_eq_true rfl⟩ rfl rfl (Nat.le_of_ble_eq_true rfl) ⟨Nat.le_of_ble_eq_true rfl, Nat.le_of_ble_eq_true rfl⟩ dL_refuses_283 (fun H locs Z n79 => ?_)
  refine lv_ldc (v := (-9999001)) hx hb X.1.2.2.2.1 (X.hts (gt_in 698 (by decide +kernel) (by decide +kernel))) dL_refuses_286 ?_
  obtain ⟨z81, h⟩ := gd_e h
  refine lv_icmp_ne (tgt := 624) hx hb dL_refuses_288 (by decide) (fun cn => absurd (of_decide_eq_true z81) cn) (fun c80 => ?_)
  refine lv_aload_n hx hb dL_refuses_291 rfl (lv_at hl 3 rfl) ?_
  refine lv_bipush (v := 10) hx hb dL_refuses_292 (by decide) ?_
  refine lv_iconst (v := 0) hx hb dL_refuses_294 (by decide) ?_
  refine lv_iload hx hb dL_refuses_295 (lv_at hl 0 rfl) ?_
  refine lv_iconst (v := 0) hx hb dL_refuses_297 (by decide) ?_
  obtain ⟨x82, e83, h⟩ := bd_e h
  refine o_cS X hA (stb_t _) Z hl.1 (kG_callq hG hN hlt hn (qk_e e83)) cw_L_194 ⟨Nat.le_of_ble_eq_true rfl, Nat.le_of_ble_eq_true rfl⟩ rfl rfl (Nat.le_of_ble_eq_true rfl) ⟨Nat.le_of_ble_eq_true rfl, Nat.le_of_ble_eq_true rfl⟩ dL_refuses_298 (fun H locs Z n84 => ?_)
  refine lv_ldc (v := (-9999001)) hx hb X.1.2.2.2.1 (X.hts (gt_in 698 (by decide +kernel) (by decide +kernel))) dL_refuses_301 ?_
  obtain ⟨z86, h⟩ := gd_e h
  refine lv_icmp_ne (tgt := 624) hx hb dL_refuses_303 (by decide) (fun cn => absurd (of_decide_eq_true z86) cn) (fun c85 => ?_)
  refine lv_aload_n hx hb dL_refuses_306 rfl (lv_at hl 3 rfl) ?_
  refine lv_bipush (v := 11) hx hb dL_refuses_307 (by decide) ?_
  refine lv_iload_n hx hb dL_refuses_309 rfl (lv_at hl 1 rfl) ?_
  refine lv_iconst (v := 0) hx hb dL_refuses_310 (by decide) ?_
  refine lv_iconst (v := 0) hx hb dL_refuses_311 (by decide) ?_
  obtain ⟨x87, e88, h⟩ := bd_e h
  refine o_cS X hA (stb_t _) Z hl.1 (kG_callq hG hN hlt hn (qk_e e88)) cw_L_194 ⟨Nat.le_of_ble_eq_true rfl, Nat.le_of_ble_eq_true rfl⟩ rfl rfl (Nat.le_of_ble_eq_true rfl) ⟨Nat.le_of_ble_eq_true rfl, Nat.le_of_ble_eq_true rfl⟩ dL_refuses_312 (fun H locs Z n89 => ?_)
  refine lv_ldc (v := (-9999001)) hx hb X.1.2.2.2.1 (X.hts (gt_in 698 (by decide +kernel) (by decide +kernel))) dL_refuses_315 ?_
  obtain ⟨z91, h⟩ := gd_e h
  refine lv_icmp_ne (tgt := 624) hx hb dL_refuses_317 (by decide) (fun cn => absurd (of_decide_eq_true z91) cn) (fun c90 => ?_)
  refine lv_aload_n hx hb dL_refuses_320 rfl (lv_at hl 3 rfl) ?_
  refine lv_bipush (v := 11) hx hb dL_refuses_321 (by decide) ?_
  refine lv_iconst (v := 0) hx hb dL_refuses_323 (by decide) ?_
  refine lv_bipush (v := 100) hx hb dL_refuses_324 (by decide) ?_
  refine lv_iload_n hx hb dL_refuses_326 rfl (lv_at hl 4 rfl) ?_
  refine lv_bipush (v := 9) hx hb dL_refuses_327 (by decide) ?_
  refine lv_irem hx hb dL_refuses_329 (by decide) ?_
  refine lv_iadd hx hb dL_refuses_330 ?_
  refine lv_iconst (v := 0) hx hb dL_refuses_331 (by decide) ?_
  obtain ⟨x92, e93, h⟩ := bd_e h
  refine o_cS X hA (stb_t _) Z hl.1 (kG_callq hG hN hlt hn (qk_e e93)) cw_L_194 ⟨Nat.le_of_ble_eq_true rfl, Nat.le_of_ble_eq_true rfl⟩ rfl rfl (Nat.le_of_ble_eq_true rfl) ⟨Nat.le_of_ble_eq_true rfl, Nat.le_of_ble_eq_true rfl⟩ dL_refuses_332 (fun H locs Z n94 => ?_)
  refine lv_ldc (v := (-9999002)) hx hb X.1.2.2.2.1 (X.hts (gt_in 411 (by decide +kernel) (by decide +kernel))) dL_refuses_335 ?_
  obtain ⟨z96, h⟩ := gd_e h
  refine lv_icmp_ne (tgt := 624) hx hb dL_refuses_337 (by decide) (fun cn => absurd (of_decide_eq_true z96) cn) (fun c95 => ?_)
  refine lv_aload_n hx hb dL_refuses_340 rfl (lv_at hl 3 rfl) ?_
  refine lv_bipush (v := 12) hx hb dL_refuses_341 (by decide) ?_
  refine lv_iload_n hx hb dL_refuses_343 rfl (lv_at hl 1 rfl) ?_
  refine lv_iconst (v := 0) hx hb dL_refuses_344 (by decide) ?_
  refine lv_iconst (v := 0) hx hb dL_refuses_345 (by decide) ?_
  obtain ⟨x97, e98, h⟩ := bd_e h
  refine o_cS X hA (stb_t _) Z hl.1 (kG_callq hG hN hlt hn (qk_e e98)) cw_L_194 ⟨Nat.le_of_ble_eq_true rfl, Nat.le_of_ble_eq_true rfl⟩ rfl rfl (Nat.le_of_ble_eq_true rfl) ⟨Nat.le_of_ble_eq_true rfl, Nat.le_of_ble_eq_true rfl⟩ dL_refuses_346 (fun H locs Z n99 => ?_)
  refine lv_ldc (v := (-9999001)) hx hb X.1.2.2.2.1 (X.hts (gt_in 698 (by decide +kernel) (by decide +kernel))) dL_refuses_349 ?_
  obtain ⟨z101, h⟩ := gd_e h
  refine lv_icmp_ne (tgt := 624) hx hb dL_refuses_351 (by decide) (fun cn => absurd (of_decide_eq_true z101) cn) (fun c100 => ?_)
  refine lv_aload_n hx hb dL_refuses_354 rfl (lv_at hl 3 rfl) ?_
  refine lv_bipush (v := 13) hx hb dL_refuses_355 (by decide) ?_
  refine lv_iload hx hb dL_refuses_357 (lv_at hl 0 rfl) ?_
  refine lv_iconst (v := 0) hx hb dL_refuses_359 (by decide) ?_
  refine lv_iconst (v := 0) hx hb dL_refuses_360 (by decide) ?_
  obtain ⟨x102, e103, h⟩ := bd_e h
  refine o_cS X hA (stb_t _) Z hl.1 (kG_callq hG hN hlt hn (qk_e e103)) cw_L_194 ⟨Nat.le_of_ble_eq_true rfl, Nat.le_of_ble_eq_true rfl⟩ rfl rfl (Nat.le_of_ble_eq_true rfl) ⟨Nat.le_of_ble_eq_true rfl, Nat.le_of_ble_eq_true rfl⟩ dL_refuses_361 (fun H locs Z n104 => ?_)
  refine lv_ldc (v := (-9999001)) hx hb X.1.2.2.2.1 (X.hts (gt_in 698 (by decide +kernel) (by decide +kernel))) dL_refuses_364 ?_
  obtain ⟨z106, h⟩ := gd_e h
  refine lv_icmp_ne (tgt := 624) hx hb dL_refuses_366 (by decide) (fun cn => absurd (of_decide_eq_true z106) cn) (fun c105 => ?_)
  refine lv_aload_n hx hb dL_refuses_369 rfl (lv_at hl 3 rfl) ?_
  refine lv_bipush (v := 14) hx hb dL_refuses_370 (by decide) ?_
  refine lv_iload hx hb dL_refuses_372 (lv_at hl 0 rfl) ?_
  refine lv_iconst (v := 0) hx hb dL_refuses_374 (by decide) ?_
  refine lv_iconst (v := 0) hx hb dL_refuses_375 (by decide) ?_
  obtain ⟨x107, e108, h⟩ := bd_e h
  refine o_cS X hA (stb_t _) Z hl.1 (kG_callq hG hN hlt hn (qk_e e108)) cw_L_194 ⟨Nat.le_of_ble_eq_true rfl, Nat.le_of_ble_eq_true rfl⟩ rfl rfl (Nat.le_of_ble_eq_true rfl) ⟨Nat.le_of_ble_eq_true rfl, Nat.le_of_ble_eq_true rfl⟩ dL_refuses_376 (fun H locs Z n109 => ?_)
  refine lv_ldc (v := (-9999001)) hx hb X.1.2.2.2.1 (X.hts (gt_in 698 (by decide +kernel) (by decide +kernel))) dL_refuses_379 ?_
  obtain ⟨z111, h⟩ := gd_e h
  refine lv_icmp_ne (tgt := 624) hx hb dL_refuses_381 (by decide) (fun cn => absurd (of_decide_eq_true z111) cn) (fun c110 => ?_)
  refine lv_aload_n hx hb dL_refuses_384 rfl (lv_at hl 3 rfl) ?_
  refine lv_bipush (v := 15) hx hb dL_refuses_385 (by decide) ?_
  refine lv_iload hx hb dL_refuses_387 (lv_at hl 0 rfl) ?_
  refine lv_iconst (v := 0) hx hb dL_refuses_389 (by decide) ?_
  refine lv_iconst (v := 0) hx hb dL_refuses_390 (by decide) ?_
  obtain ⟨x112, e113, h⟩ := bd_e h
  refine o_cS X hA (stb_t _) Z hl.1 (kG_callq hG hN hlt hn (qk_e e113)) cw_L_194 ⟨Nat.le_of_ble_eq_true rfl, Nat.le_of_ble_eq_true rfl⟩ rfl rfl (Nat.le_of_ble_eq_true rfl) ⟨Nat.le_of_ble_eq_true rfl, Nat.le_of_ble_eq_true rfl⟩ dL_refuses_391 (fun H locs Z n114 => ?_)
  refine lv_ldc (v := (-9999001)) hx hb X.1.2.2.2.1 (X.hts (gt_in 698 (by decide +kernel) (by decide +kernel))) dL_refuses_394 ?_
  obtain ⟨z116, h⟩ := gd_e h
  refine lv_icmp_ne (tgt := 624) hx hb dL_refuses_396 (by decide) (fun cn => absurd (of_decide_eq_true z116) cn) (fun c115 => ?_)
  refine lv_aload_n hx hb dL_refuses_399 rfl (lv_at hl 3 rfl) ?_
  refine lv_bipush (v := 16) hx hb dL_refuses_400 (by decide) ?_
  refine lv_iload hx hb dL_refuses_402 (lv_at hl 0 rfl) ?_
  refine lv_iconst (v := 0) hx hb dL_refuses_404 (by decide) ?_
  refine lv_iconst (v := 0) hx hb dL_refuses_405 (by decide) ?_
  obtain ⟨x117, e118, h⟩ := bd_e h
  refine o_cS X hA (stb_t _) Z hl.1 (kG_callq hG hN hlt hn (qk_e e118)) cw_L_194 ⟨Nat.le_of_ble_eq_true rfl, Nat.le_of_ble_eq_true rfl⟩ rfl rfl (Nat.le_of_ble_eq_true rfl) ⟨Nat.le_of_ble_eq_true rfl, Nat.le_of_ble_eq_true rfl⟩ dL_refuses_406 (fun H locs Z n119 => ?_)
  refine lv_ldc (v := (-9999001)) hx hb X.1.2.2.2.1 (X.hts (gt_in 698 (by decide +kernel) (by decide +kernel))) dL_refuses_409 ?_
  obtain ⟨z121, h⟩ := gd_e h
  refine lv_icmp_ne (tgt := 624) hx hb dL_refuses_411 (by decide) (fun cn => absurd (of_decide_eq_true z121) cn) (fun c120 => ?_)
  refine lv_aload_n hx hb dL_refuses_414 rfl (lv_at hl 3 rfl) ?_
  refine lv_bipush (v := 16) hx hb dL_refuses_415 (by decide) ?_
  refine lv_iload_n hx hb dL_refuses_417 rfl (lv_at hl 4 rfl) ?_
  refine lv_iconst (v := 4) hx hb dL_refuses_418 (by decide) ?_
  refine lv_irem hx hb dL_refuses_419 (by decide) ?_
  refine lv_bipush (v := 10) hx hb dL_refuses_420 (by decide) ?_
  refine lv_iload_n hx hb dL_refuses_422 rfl (lv_at hl 4 rfl) ?_
  refine lv_bipush (v := 9) hx hb dL_refuses_423 (by decide) ?_
  refine lv_irem hx hb dL_refuses_425 (by decide) ?_
  refine lv_iadd hx hb dL_refuses_426 ?_
  refine lv_iconst (v := 0) hx hb dL_refuses_427 (by decide) ?_
  obtain ⟨x122, e123, h⟩ := bd_e h
  refine o_cS X hA (stb_t _) Z hl.1 (kG_callq hG hN hlt hn (qk_e e123)) cw_L_194 ⟨Nat.le_of_ble_eq_true rfl, Nat.le_of_ble_eq_true rfl⟩ rfl rfl (Nat.le_of_ble_eq_true rfl) ⟨Nat.le_of_ble_eq_true rfl, Nat.le_of_ble_eq_true rfl⟩ dL_refuses_428 (fun H locs Z n124 => ?_)
  refine lv_ldc (v := (-9999002)) hx hb X.1.2.2.2.1 (X.hts (gt_in 411 (by decide +kernel) (by decide +kernel))) dL_refuses_431 ?_
  obtain ⟨z126, h⟩ := gd_e h
  refine lv_icmp_ne (tgt := 624) hx hb dL_refuses_433 (by decide) (fun cn => absurd (of_decide_eq_true z126) cn) (fun c125 => ?_)
  refine lv_aload_n hx hb dL_refuses_436 rfl (lv_at hl 3 rfl) ?_
  refine lv_bipush (v := 17) hx hb dL_refuses_437 (by decide) ?_
  refine lv_bipush (v := 61) hx hb dL_refuses_439 (by decide) ?_
  refine lv_iload_n hx hb dL_refuses_441 rfl (lv_at hl 4 rfl) ?_
  refine lv_bipush (v := 9) hx hb dL_refuses_442 (by decide) ?_
  refine lv_irem hx hb dL_refuses_444 (by decide) ?_
  refine lv_iadd hx hb dL_refuses_445 ?_
  refine lv_iconst (v := 0) hx hb dL_refuses_446 (by decide) ?_
  refine lv_iconst (v := 0) hx hb dL_refuses_447 (by decide) ?_
  obtain ⟨x127, e128, h⟩ := bd_e h
  refine o_cS X hA (stb_t _) Z hl.1 (kG_callq hG hN hlt hn (qk_e e128)) cw_L_194 ⟨Nat.le_of_ble_eq_true rfl, Nat.le_of_ble_eq_true rfl⟩ rfl rfl (Nat.le_of_ble_eq_true rfl) ⟨Nat.le_of_ble_eq_true rfl, Nat.le_of_ble_eq_true rfl⟩ dL_refuses_448 (fun H locs Z n129 => ?_)
  refine lv_ldc (v := (-9999002)) hx hb X.1.2.2.2.1 (X.hts (gt_in 411 (by decide +kernel) (by decide +kernel))) dL_refuses_451 ?_
  obtain ⟨z131, h⟩ := gd_e h
  refine lv_icmp_ne (tgt := 624) hx hb dL_refuses_453 (by decide) (fun cn => absurd (of_decide_eq_true z131) cn) (fun c130 => ?_)
  refine lv_aload_n hx hb dL_refuses_456 rfl (lv_at hl 3 rfl) ?_
  refine lv_bipush (v := 18) hx hb dL_refuses_457 (by decide) ?_
  refine lv_iload_n hx hb dL_refuses_459 rfl (lv_at hl 4 rfl) ?_
  refine lv_iconst (v := 4) hx hb dL_refuses_460 (by decide) ?_
  refine lv_irem hx hb dL_refuses_461 (by decide) ?_
  refine lv_bipush (v := 100) hx hb dL_refuses_462 (by decide) ?_
  refine lv_iload_n hx hb dL_refuses_464 rfl (lv_at hl 4 rfl) ?_
  refine lv_bipush (v := 9) hx hb dL_refuses_465 (by decide) ?_
  refine lv_irem hx hb dL_refuses_467 (by decide) ?_
  refine lv_iadd hx hb dL_refuses_468 ?_
  refine lv_iconst (v := 0) hx hb dL_refuses_469 (by decide) ?_
  obtain ⟨x132, e133, h⟩ := bd_e h
  refine o_cS X hA (stb_t _) Z hl.1 (kG_callq hG hN hlt hn (qk_e e133)) cw_L_194 ⟨Nat.le_of_ble_eq_true rfl, Nat.le_of_ble_eq_true rfl⟩ rfl rfl (Nat.le_of_ble_eq_true rfl) ⟨Nat.le_of_ble_eq_true rfl, Nat.le_of_ble_eq_true rfl⟩ dL_refuses_470 (fun H locs Z n134 => ?_)
  refine lv_ldc (v := (-9999002)) hx hb X.1.2.2.2.1 (X.hts (gt_in 411 (by decide +kernel) (by decide +kernel))) dL_refuses_473 ?_
  obtain ⟨z136, h⟩ := gd_e h
  refine lv_icmp_ne (tgt := 624) hx hb dL_refuses_475 (by decide) (fun cn => absurd (of_decide_eq_true z136) cn) (fun c135 => ?_)
  refine lv_aload_n hx hb dL_refuses_478 rfl (lv_at hl 3 rfl) ?_
  refine lv_bipush (v := 20) hx hb dL_refuses_479 (by decide) ?_
  refine lv_iload_n hx hb dL_refuses_481 rfl (lv_at hl 2 rfl) ?_
  refine lv_iload hx hb dL_refuses_482 (lv_at hl 0 rfl) ?_
  refine lv_iconst (v := 0) hx hb dL_refuses_484 (by decide) ?_
  obtain ⟨x137, e138, h⟩ := bd_e h
  refine o_cS X hA (stb_t _) Z hl.1 (kG_callq hG hN hlt hn (qk_e e138)) cw_L_194 ⟨Nat.le_of_ble_eq_true rfl, Nat.le_of_ble_eq_true rfl⟩ rfl rfl (Nat.le_of_ble_eq_true rfl) ⟨Nat.le_of_ble_eq_true rfl, Nat.le_of_ble_eq_true rfl⟩ dL_refuses_485 (fun H locs Z n139 => ?_)
  refine lv_ldc (v := (-9999001)) hx hb X.1.2.2.2.1 (X.hts (gt_in 698 (by decide +kernel) (by decide +kernel))) dL_refuses_488 ?_
  obtain ⟨z141, h⟩ := gd_e h
  refine lv_icmp_ne (tgt := 624) hx hb dL_refuses_490 (by decide) (fun cn => absurd (of_decide_eq_true z141) cn) (fun c140 => ?_)
  refine lv_aload_n hx hb dL_refuses_493 rfl (lv_at hl 3 rfl) ?_
  refine lv_bipush (v := 21) hx hb dL_refuses_494 (by decide) ?_
  refine lv_iload_n hx hb dL_refuses_496 rfl (lv_at hl 2 rfl) ?_
  refine lv_iconst (v := 0) hx hb dL_refuses_497 (by decide) ?_
  refine lv_iconst (v := 0) hx hb dL_refuses_498 (by decide) ?_
  obtain ⟨x142, e143, h⟩ := bd_e h
  refine o_cS X hA (stb_t _) Z hl.1 (kG_callq hG hN hlt hn (qk_e e143)) cw_L_194 ⟨Nat.le_of_ble_eq_true rfl, Nat.le_of_ble_eq_true rfl⟩ rfl rfl (Nat.le_of_ble_eq_true rfl) ⟨Nat.le_of_ble_eq_true rfl, Nat.le_of_ble_eq_true rfl⟩ dL_refuses_499 (fun H locs Z n144 => ?_)
  refine lv_ldc (v := (-9999001)) hx hb X.1.2.2.2.1 (X.hts (gt_in 698 (by decide +kernel) (by decide +kernel))) dL_refuses_502 ?_
  obtain ⟨z146, h⟩ := gd_e h
  refine lv_icmp_ne (tgt := 624) hx hb dL_refuses_504 (by decide) (fun cn => absurd (of_decide_eq_true z146) cn) (fun c145 => ?_)
  refine lv_aload_n hx hb dL_refuses_507 rfl (lv_at hl 3 rfl) ?_
  refine lv_bipush (v := 22) hx hb dL_refuses_508 (by decide) ?_
  refine lv_iload hx hb dL_refuses_510 (lv_at hl 0 rfl) ?_
  refine lv_bipush (v := 9) hx hb dL_refuses_512 (by decide) ?_
  refine lv_iconst (v := 0) hx hb dL_refuses_514 (by decide) ?_
  obtain ⟨x147, e148, h⟩ := bd_e h
  refine o_cS X hA (stb_t _) Z hl.1 (kG_callq hG hN hlt hn (qk_e e148)) cw_L_194 ⟨Nat.le_of_ble_eq_true rfl, Nat.le_of_ble_eq_true rfl⟩ rfl rfl (Nat.le_of_ble_eq_true rfl) ⟨Nat.le_of_ble_eq_true rfl, Nat.le_of_ble_eq_true rfl⟩ dL_refuses_515 (fun H locs Z n149 => ?_)
  refine lv_ldc (v := (-9999001)) hx hb X.1.2.2.2.1 (X.hts (gt_in 698 (by decide +kernel) (by decide +kernel))) dL_refuses_518 ?_
  obtain ⟨z151, h⟩ := gd_e h
  refine lv_icmp_ne (tgt := 624) hx hb dL_refuses_520 (by decide) (fun cn => absurd (of_decide_eq_true z151) cn) (fun c150 => ?_)
  refine lv_aload_n hx hb dL_refuses_523 rfl (lv_at hl 3 rfl) ?_
  refine lv_bipush (v := 23) hx hb dL_refuses_524 (by decide) ?_
  refine lv_iload_n hx hb dL_refuses_526 rfl (lv_at hl 1 rfl) ?_
  refine lv_iconst (v := 0) hx hb dL_refuses_527 (by decide) ?_
  refine lv_iconst (v := 0) hx hb dL_refuses_528 (by decide) ?_
  obtain ⟨x152, e153, h⟩ := bd_e h
  refine o_cS X hA (stb_t _) Z hl.1 (kG_callq hG hN hlt hn (qk_e e153)) cw_L_194 ⟨Nat.le_of_ble_eq_true rfl, Nat.le_of_ble_eq_true rfl⟩ rfl rfl (Nat.le_of_ble_eq_true rfl) ⟨Nat.le_of_ble_eq_true rfl, Nat.le_of_ble_eq_true rfl⟩ dL_refuses_529 (fun H locs Z n154 => ?_)
  refine lv_ldc (v := (-9999001)) hx hb X.1.2.2.2.1 (X.hts (gt_in 698 (by decide +kernel) (by decide +kernel))) dL_refuses_532 ?_
  obtain ⟨z156, h⟩ := gd_e h
  refine lv_icmp_ne (tgt := 624) hx hb dL_refuses_534 (by decide) (fun cn => absurd (of_decide_eq_true z156) cn) (fun c155 => ?_)
  refine lv_aload_n hx hb dL_refuses_537 rfl (lv_at hl 3 rfl) ?_
  refine lv_bipush (v := 24) hx hb dL_refuses_538 (by decide) ?_
  refine lv_iconst (v := 2) hx hb dL_refuses_540 (by decide) ?_
  refine lv_iload_n hx hb dL_refuses_541 rfl (lv_at hl 4 rfl) ?_
  refine lv_bipush (v := 50) hx hb dL_refuses_542 (by decide) ?_
  refine lv_irem hx hb dL_refuses_544 (by decide) ?_
  refine lv_iadd hx hb dL_refuses_545 ?_
  refine lv_iconst (v := 0) hx hb dL_refuses_546 (by decide) ?_
  refine lv_iconst (v := 0) hx hb dL_refuses_547 (by decide) ?_
  obtain ⟨x157, e158, h⟩ := bd_e h
  refine o_cS X hA (stb_t _) Z hl.1 (kG_callq hG hN hlt hn (qk_e e158)) cw_L_194 ⟨Nat.le_of_ble_eq_true rfl, Nat.le_of_ble_eq_true rfl⟩ rfl rfl (Nat.le_of_ble_eq_true rfl) ⟨Nat.le_of_ble_eq_true rfl, Nat.le_of_ble_eq_true rfl⟩ dL_refuses_548 (fun H locs Z n159 => ?_)
  refine lv_ldc (v := (-9999001)) hx hb X.1.2.2.2.1 (X.hts (gt_in 698 (by decide +kernel) (by decide +kernel))) dL_refuses_551 ?_
  obtain ⟨z161, h⟩ := gd_e h
  refine lv_icmp_ne (tgt := 624) hx hb dL_refuses_553 (by decide) (fun cn => absurd (of_decide_eq_true z161) cn) (fun c160 => ?_)
  refine lv_aload_n hx hb dL_refuses_556 rfl (lv_at hl 3 rfl) ?_
  refine lv_bipush (v := 25) hx hb dL_refuses_557 (by decide) ?_
  refine lv_iconst (v := (-1)) hx hb dL_refuses_559 (by decide) ?_
  refine lv_iload_n hx hb dL_refuses_560 rfl (lv_at hl 4 rfl) ?_
  refine lv_bipush (v := 9) hx hb dL_refuses_561 (by decide) ?_
  refine lv_irem hx hb dL_refuses_563 (by decide) ?_
  refine lv_isub hx hb dL_refuses_564 ?_
  refine lv_iconst (v := 0) hx hb dL_refuses_565 (by decide) ?_
  refine lv_iconst (v := 0) hx hb dL_refuses_566 (by decide) ?_
  obtain ⟨x162, e163, h⟩ := bd_e h
  refine o_cS X hA (stb_t _) Z hl.1 (kG_callq hG hN hlt hn (qk_e e163)) cw_L_194 ⟨Nat.le_of_ble_eq_true rfl, Nat.le_of_ble_eq_true rfl⟩ rfl rfl (Nat.le_of_ble_eq_true rfl) ⟨Nat.le_of_ble_eq_true rfl, Nat.le_of_ble_eq_true rfl⟩ dL_refuses_567 (fun H locs Z n164 => ?_)
  refine lv_ldc (v := (-9999001)) hx hb X.1.2.2.2.1 (X.hts (gt_in 698 (by decide +kernel) (by decide +kernel))) dL_refuses_570 ?_
  obtain ⟨z166, h⟩ := gd_e h
  refine lv_icmp_ne (tgt := 624) hx hb dL_refuses_572 (by decide) (fun cn => absurd (of_decide_eq_true z166) cn) (fun c165 => ?_)
  refine lv_aload_n hx hb dL_refuses_575 rfl (lv_at hl 3 rfl) ?_
  refine lv_iconst (v := 0) hx hb dL_refuses_576 (by decide) ?_
  refine lv_lconst (v := 0) hx hb dL_refuses_577 rfl ?_
  obtain ⟨e168, h⟩ := gdp_e h
  refine o_cH X hA (stb_t _) Z hl.1 (kG_script hG hN hlt hm e168) cl_198 ⟨Nat.le_of_ble_eq_true rfl, Nat.le_of_ble_eq_true rfl⟩ rfl rfl (Nat.le_of_ble_eq_true rfl) ⟨Nat.le_of_ble_eq_true rfl, Nat.le_of_ble_eq_true rfl⟩ dL_refuses_578 (fun H locs Z n169 => ?_)
  refine lv_ldc (v := (-9999002)) hx hb X.1.2.2.2.1 (X.hts (gt_in 411 (by decide +kernel) (by decide +kernel))) dL_refuses_581 ?_
  refine lv_icmp_ne (tgt := 624) hx hb dL_refuses_583 (by decide) (fun cn => absurd (by decide : ((-9999002) : Int32) = (-9999002)) cn) (fun c170 => ?_)
  refine lv_aload_n hx hb dL_refuses_586 rfl (lv_at hl 3 rfl) ?_
  refine lv_iconst (v := 1) hx hb dL_refuses_587 (by decide) ?_
  refine lv_ldc2 (v := 10000) hx hb X.1.2.2.2.1 (X.hts (gt_in 1011 (by decide +kernel) (by decide +kernel))) dL_refuses_588 ?_
  refine lv_iload_n hx hb dL_refuses_591 rfl (lv_at hl 4 rfl) ?_
  refine lv_i2l hx hb dL_refuses_592 rfl ?_
  refine lv_ladd hx hb dL_refuses_593 ?_
  obtain ⟨e172, h⟩ := gdp_e h
  refine o_cH X hA (stb_t _) Z hl.1 (kG_script hG hN hlt hm e172) cl_198 ⟨Nat.le_of_ble_eq_true rfl, Nat.le_of_ble_eq_true rfl⟩ rfl rfl (Nat.le_of_ble_eq_true rfl) ⟨Nat.le_of_ble_eq_true rfl, Nat.le_of_ble_eq_true rfl⟩ dL_refuses_594 (fun H locs Z n173 => ?_)
  refine lv_ldc (v := (-9999002)) hx hb X.1.2.2.2.1 (X.hts (gt_in 411 (by decide +kernel) (by decide +kernel))) dL_refuses_597 ?_
  refine lv_icmp_ne (tgt := 624) hx hb dL_refuses_599 (by decide) (fun cn => absurd (by decide : ((-9999002) : Int32) = (-9999002)) cn) (fun c174 => ?_)
  refine lv_aload_n hx hb dL_refuses_602 rfl (lv_at hl 3 rfl) ?_
  refine lv_iload_n hx hb dL_refuses_603 rfl (lv_at hl 4 rfl) ?_
  refine lv_i2l hx hb dL_refuses_604 rfl ?_
  refine lv_bipush (v := 81) hx hb dL_refuses_605 (by decide) ?_
  refine lv_iload_n hx hb dL_refuses_607 rfl (lv_at hl 4 rfl) ?_
  refine lv_bipush (v := 9) hx hb dL_refuses_608 (by decide) ?_
  refine lv_irem hx hb dL_refuses_610 (by decide) ?_
  refine lv_iadd hx hb dL_refuses_611 ?_
  obtain ⟨x175, e176, h⟩ := bd_e h
  refine o_cH X hA (stb_t _) Z hl.1 (kG_sim hG hN hlt hn (qk_e e176)) cl_204 ⟨Nat.le_of_ble_eq_true rfl, Nat.le_of_ble_eq_true rfl⟩ rfl rfl (Nat.le_of_ble_eq_true rfl) ⟨Nat.le_of_ble_eq_true rfl, Nat.le_of_ble_eq_true rfl⟩ dL_refuses_612 (fun H locs Z n177 => ?_)
  refine lv_ldc (v := (-9999002)) hx hb X.1.2.2.2.1 (X.hts (gt_in 411 (by decide +kernel) (by decide +kernel))) dL_refuses_615 ?_
  obtain ⟨z179, h⟩ := gd_e h
  refine lv_icmp_ne (tgt := 624) hx hb dL_refuses_617 (by decide) (fun cn => absurd (of_decide_eq_true z179) cn) (fun c178 => ?_)
  refine lv_iconst (v := 1) hx hb dL_refuses_620 (by decide) ?_
  refine lv_goto (tgt := 625) hx hb dL_refuses_621 (by decide) ?_
  refine W.widen (k := 40) (n := 240) (by omega) (by omega) ?_
  exact o_iret X hret Z (Option.some.inj h) rfl dL_refuses_625
