theorem dX7_fits_0 : decode cX7_fits 0 = .ok (.lconst 1, 1) := by decide +kernel
theorem dX7_fits_1 : decode cX7_fits 1 = .ok (.lstore_n 3, 1) := by decide +kernel
theorem dX7_fits_2 : decode cX7_fits 2 = .ok (.iconst 0, 1) := by decide +kernel
theorem dX7_fits_3 : decode cX7_fits 3 = .ok (.istore 5, 2) := by decide +kernel
theorem dX7_fits_5 : decode cX7_fits 5 = .ok (.iload 5, 2) := by decide +kernel
theorem dX7_fits_7 : decode cX7_fits 7 = .ok (.iload_n 0, 1) := by decide +kernel
theorem dX7_fits_8 : decode cX7_fits 8 = .ok (.if_icmp .ge 15, 3) := by decide +kernel
theorem dX7_fits_11 : decode cX7_fits 11 = .ok (.lload_n 3, 1) := by decide +kernel
theorem dX7_fits_12 : decode cX7_fits 12 = .ok (.ldc2_w 9, 3) := by decide +kernel
theorem dX7_fits_15 : decode cX7_fits 15 = .ok (.lmul, 1) := by decide +kernel
theorem dX7_fits_16 : decode cX7_fits 16 = .ok (.lstore_n 3, 1) := by decide +kernel
theorem dX7_fits_17 : decode cX7_fits 17 = .ok (.iinc 5 1, 3) := by decide +kernel
theorem dX7_fits_20 : decode cX7_fits 20 = .ok (.goto (-15), 3) := by decide +kernel
theorem dX7_fits_23 : decode cX7_fits 23 = .ok (.lload_n 1, 1) := by decide +kernel
theorem dX7_fits_24 : decode cX7_fits 24 = .ok (.lconst 0, 1) := by decide +kernel
theorem dX7_fits_25 : decode cX7_fits 25 = .ok (.lcmp, 1) := by decide +kernel
theorem dX7_fits_26 : decode cX7_fits 26 = .ok (.ifCond .lt 13, 3) := by decide +kernel
theorem dX7_fits_29 : decode cX7_fits 29 = .ok (.lload_n 1, 1) := by decide +kernel
theorem dX7_fits_30 : decode cX7_fits 30 = .ok (.lload_n 3, 1) := by decide +kernel
theorem dX7_fits_31 : decode cX7_fits 31 = .ok (.lcmp, 1) := by decide +kernel
theorem dX7_fits_32 : decode cX7_fits 32 = .ok (.ifCond .ge 7, 3) := by decide +kernel
theorem dX7_fits_35 : decode cX7_fits 35 = .ok (.iconst 1, 1) := by decide +kernel
theorem dX7_fits_36 : decode cX7_fits 36 = .ok (.goto 4, 3) := by decide +kernel
theorem dX7_fits_39 : decode cX7_fits 39 = .ok (.iconst 0, 1) := by decide +kernel
theorem dX7_fits_40 : decode cX7_fits 40 = .ok (.ireturn, 1) := by decide +kernel
theorem dX7_group_0 : decode cX7_group 0 = .ok (.lload_n 1, 1) := by decide +kernel
theorem dX7_group_1 : decode cX7_group 1 = .ok (.lstore 4, 2) := by decide +kernel
theorem dX7_group_3 : decode cX7_group 3 = .ok (.iload_n 0, 1) := by decide +kernel
theorem dX7_group_4 : decode cX7_group 4 = .ok (.iconst 1, 1) := by decide +kernel
theorem dX7_group_5 : decode cX7_group 5 = .ok (.isub, 1) := by decide +kernel
theorem dX7_group_6 : decode cX7_group 6 = .ok (.istore 6, 2) := by decide +kernel
theorem dX7_group_8 : decode cX7_group 8 = .ok (.iload 6, 2) := by decide +kernel
theorem dX7_group_10 : decode cX7_group 10 = .ok (.iload_n 3, 1) := by decide +kernel
theorem dX7_group_11 : decode cX7_group 11 = .ok (.if_icmp .le 17, 3) := by decide +kernel
theorem dX7_group_14 : decode cX7_group 14 = .ok (.lload 4, 2) := by decide +kernel
theorem dX7_group_16 : decode cX7_group 16 = .ok (.ldc2_w 9, 3) := by decide +kernel
theorem dX7_group_19 : decode cX7_group 19 = .ok (.ldiv, 1) := by decide +kernel
theorem dX7_group_20 : decode cX7_group 20 = .ok (.lstore 4, 2) := by decide +kernel
theorem dX7_group_22 : decode cX7_group 22 = .ok (.iinc 6 (-1), 3) := by decide +kernel
theorem dX7_group_25 : decode cX7_group 25 = .ok (.goto (-17), 3) := by decide +kernel
theorem dX7_group_28 : decode cX7_group 28 = .ok (.lload 4, 2) := by decide +kernel
theorem dX7_group_30 : decode cX7_group 30 = .ok (.ldc2_w 9, 3) := by decide +kernel
theorem dX7_group_33 : decode cX7_group 33 = .ok (.lrem, 1) := by decide +kernel
theorem dX7_group_34 : decode cX7_group 34 = .ok (.l2i, 1) := by decide +kernel
theorem dX7_group_35 : decode cX7_group 35 = .ok (.ireturn, 1) := by decide +kernel
theorem dX7_succeeds_0 : decode cX7_succeeds 0 = .ok (.iload_n 1, 1) := by decide +kernel
theorem dX7_succeeds_1 : decode cX7_succeeds 1 = .ok (.bipush 100, 2) := by decide +kernel
theorem dX7_succeeds_3 : decode cX7_succeeds 3 = .ok (.idiv, 1) := by decide +kernel
theorem dX7_succeeds_4 : decode cX7_succeeds 4 = .ok (.bipush 10, 2) := by decide +kernel
theorem dX7_succeeds_6 : decode cX7_succeeds 6 = .ok (.irem, 1) := by decide +kernel
theorem dX7_succeeds_7 : decode cX7_succeeds 7 = .ok (.istore_n 2, 1) := by decide +kernel
theorem dX7_succeeds_8 : decode cX7_succeeds 8 = .ok (.iload_n 1, 1) := by decide +kernel
theorem dX7_succeeds_9 : decode cX7_succeeds 9 = .ok (.bipush 10, 2) := by decide +kernel
theorem dX7_succeeds_11 : decode cX7_succeeds 11 = .ok (.idiv, 1) := by decide +kernel
theorem dX7_succeeds_12 : decode cX7_succeeds 12 = .ok (.bipush 10, 2) := by decide +kernel
theorem dX7_succeeds_14 : decode cX7_succeeds 14 = .ok (.irem, 1) := by decide +kernel
theorem dX7_succeeds_15 : decode cX7_succeeds 15 = .ok (.istore_n 3, 1) := by decide +kernel
theorem dX7_succeeds_16 : decode cX7_succeeds 16 = .ok (.iload_n 1, 1) := by decide +kernel
theorem dX7_succeeds_17 : decode cX7_succeeds 17 = .ok (.bipush 10, 2) := by decide +kernel
theorem dX7_succeeds_19 : decode cX7_succeeds 19 = .ok (.irem, 1) := by decide +kernel
theorem dX7_succeeds_20 : decode cX7_succeeds 20 = .ok (.istore 4, 2) := by decide +kernel
theorem dX7_succeeds_22 : decode cX7_succeeds 22 = .ok (.iload_n 1, 1) := by decide +kernel
theorem dX7_succeeds_23 : decode cX7_succeeds 23 = .ok (.bipush 100, 2) := by decide +kernel
theorem dX7_succeeds_25 : decode cX7_succeeds 25 = .ok (.irem, 1) := by decide +kernel
theorem dX7_succeeds_26 : decode cX7_succeeds 26 = .ok (.istore 5, 2) := by decide +kernel
theorem dX7_succeeds_28 : decode cX7_succeeds 28 = .ok (.iload_n 1, 1) := by decide +kernel
theorem dX7_succeeds_29 : decode cX7_succeeds 29 = .ok (.sipush 1000, 3) := by decide +kernel
theorem dX7_succeeds_32 : decode cX7_succeeds 32 = .ok (.idiv, 1) := by decide +kernel
theorem dX7_succeeds_33 : decode cX7_succeeds 33 = .ok (.tableswitch 284 1 9 #[51, 74, 82, 122, 141, 160, 202, 232, 265], 51) := by decide +kernel
theorem dX7_succeeds_84 : decode cX7_succeeds 84 = .ok (.iload 4, 2) := by decide +kernel
theorem dX7_succeeds_86 : decode cX7_succeeds 86 = .ok (.ifCond .ne 19, 3) := by decide +kernel
theorem dX7_succeeds_89 : decode cX7_succeeds 89 = .ok (.aload_n 0, 1) := by decide +kernel
theorem dX7_succeeds_90 : decode cX7_succeeds 90 = .ok (.iload_n 2, 1) := by decide +kernel
theorem dX7_succeeds_91 : decode cX7_succeeds 91 = .ok (.iload_n 3, 1) := by decide +kernel
theorem dX7_succeeds_92 : decode cX7_succeeds 92 = .ok (.invokevirtual 11, 3) := by decide +kernel
theorem dX7_succeeds_95 : decode cX7_succeeds 95 = .ok (.invokestatic 17, 3) := by decide +kernel
theorem dX7_succeeds_98 : decode cX7_succeeds 98 = .ok (.ifCond .eq 7, 3) := by decide +kernel
theorem dX7_succeeds_101 : decode cX7_succeeds 101 = .ok (.iconst 1, 1) := by decide +kernel
theorem dX7_succeeds_102 : decode cX7_succeeds 102 = .ok (.goto 4, 3) := by decide +kernel
theorem dX7_succeeds_105 : decode cX7_succeeds 105 = .ok (.iconst 0, 1) := by decide +kernel
theorem dX7_succeeds_106 : decode cX7_succeeds 106 = .ok (.ireturn, 1) := by decide +kernel
theorem dX7_succeeds_107 : decode cX7_succeeds 107 = .ok (.aload_n 0, 1) := by decide +kernel
theorem dX7_succeeds_108 : decode cX7_succeeds 108 = .ok (.iload_n 2, 1) := by decide +kernel
theorem dX7_succeeds_109 : decode cX7_succeeds 109 = .ok (.iload 5, 2) := by decide +kernel
theorem dX7_succeeds_111 : decode cX7_succeeds 111 = .ok (.invokevirtual 21, 3) := by decide +kernel
theorem dX7_succeeds_114 : decode cX7_succeeds 114 = .ok (.ireturn, 1) := by decide +kernel
theorem dX7_succeeds_115 : decode cX7_succeeds 115 = .ok (.iload_n 3, 1) := by decide +kernel
theorem dX7_succeeds_116 : decode cX7_succeeds 116 = .ok (.ifCond .ne 37, 3) := by decide +kernel
theorem dX7_succeeds_119 : decode cX7_succeeds 119 = .ok (.iload 4, 2) := by decide +kernel
theorem dX7_succeeds_121 : decode cX7_succeeds 121 = .ok (.iconst 1, 1) := by decide +kernel
theorem dX7_succeeds_122 : decode cX7_succeeds 122 = .ok (.if_icmp .ne 14, 3) := by decide +kernel
theorem dX7_succeeds_125 : decode cX7_succeeds 125 = .ok (.aload_n 0, 1) := by decide +kernel
theorem dX7_succeeds_126 : decode cX7_succeeds 126 = .ok (.iload_n 2, 1) := by decide +kernel
theorem dX7_succeeds_127 : decode cX7_succeeds 127 = .ok (.invokevirtual 25, 3) := by decide +kernel
theorem dX7_succeeds_130 : decode cX7_succeeds 130 = .ok (.ifCond .eq 23, 3) := by decide +kernel
theorem dX7_succeeds_133 : decode cX7_succeeds 133 = .ok (.goto 16, 3) := by decide +kernel
theorem dX7_succeeds_136 : decode cX7_succeeds 136 = .ok (.iload 4, 2) := by decide +kernel
theorem dX7_succeeds_138 : decode cX7_succeeds 138 = .ok (.ifCond .ne 15, 3) := by decide +kernel
theorem dX7_succeeds_141 : decode cX7_succeeds 141 = .ok (.aload_n 0, 1) := by decide +kernel
theorem dX7_succeeds_142 : decode cX7_succeeds 142 = .ok (.iload_n 2, 1) := by decide +kernel
theorem dX7_succeeds_143 : decode cX7_succeeds 143 = .ok (.invokevirtual 28, 3) := by decide +kernel
theorem dX7_succeeds_146 : decode cX7_succeeds 146 = .ok (.ifCond .eq 7, 3) := by decide +kernel
theorem dX7_succeeds_149 : decode cX7_succeeds 149 = .ok (.iconst 1, 1) := by decide +kernel
theorem dX7_succeeds_150 : decode cX7_succeeds 150 = .ok (.goto 4, 3) := by decide +kernel
theorem dX7_succeeds_153 : decode cX7_succeeds 153 = .ok (.iconst 0, 1) := by decide +kernel
theorem dX7_succeeds_154 : decode cX7_succeeds 154 = .ok (.ireturn, 1) := by decide +kernel
theorem dX7_succeeds_155 : decode cX7_succeeds 155 = .ok (.iload_n 2, 1) := by decide +kernel
theorem dX7_succeeds_156 : decode cX7_succeeds 156 = .ok (.ifCond .ne 16, 3) := by decide +kernel
theorem dX7_succeeds_159 : decode cX7_succeeds 159 = .ok (.aload_n 0, 1) := by decide +kernel
theorem dX7_succeeds_160 : decode cX7_succeeds 160 = .ok (.iload 5, 2) := by decide +kernel
theorem dX7_succeeds_162 : decode cX7_succeeds 162 = .ok (.invokevirtual 31, 3) := by decide +kernel
theorem dX7_succeeds_165 : decode cX7_succeeds 165 = .ok (.ifCond .eq 7, 3) := by decide +kernel
theorem dX7_succeeds_168 : decode cX7_succeeds 168 = .ok (.iconst 1, 1) := by decide +kernel
theorem dX7_succeeds_169 : decode cX7_succeeds 169 = .ok (.goto 4, 3) := by decide +kernel
theorem dX7_succeeds_172 : decode cX7_succeeds 172 = .ok (.iconst 0, 1) := by decide +kernel
theorem dX7_succeeds_173 : decode cX7_succeeds 173 = .ok (.ireturn, 1) := by decide +kernel
theorem dX7_succeeds_174 : decode cX7_succeeds 174 = .ok (.iload 5, 2) := by decide +kernel
theorem dX7_succeeds_176 : decode cX7_succeeds 176 = .ok (.ifCond .ne 15, 3) := by decide +kernel
theorem dX7_succeeds_179 : decode cX7_succeeds 179 = .ok (.aload_n 0, 1) := by decide +kernel
theorem dX7_succeeds_180 : decode cX7_succeeds 180 = .ok (.iload_n 2, 1) := by decide +kernel
theorem dX7_succeeds_181 : decode cX7_succeeds 181 = .ok (.invokevirtual 34, 3) := by decide +kernel
theorem dX7_succeeds_184 : decode cX7_succeeds 184 = .ok (.ifCond .eq 7, 3) := by decide +kernel
theorem dX7_succeeds_187 : decode cX7_succeeds 187 = .ok (.iconst 1, 1) := by decide +kernel
theorem dX7_succeeds_188 : decode cX7_succeeds 188 = .ok (.goto 4, 3) := by decide +kernel
theorem dX7_succeeds_191 : decode cX7_succeeds 191 = .ok (.iconst 0, 1) := by decide +kernel
theorem dX7_succeeds_192 : decode cX7_succeeds 192 = .ok (.ireturn, 1) := by decide +kernel
theorem dX7_succeeds_193 : decode cX7_succeeds 193 = .ok (.iload_n 3, 1) := by decide +kernel
theorem dX7_succeeds_194 : decode cX7_succeeds 194 = .ok (.ifCond .ne 39, 3) := by decide +kernel
theorem dX7_succeeds_197 : decode cX7_succeeds 197 = .ok (.aload_n 0, 1) := by decide +kernel
theorem dX7_succeeds_198 : decode cX7_succeeds 198 = .ok (.getfield 37, 3) := by decide +kernel
theorem dX7_succeeds_201 : decode cX7_succeeds 201 = .ok (.iload_n 2, 1) := by decide +kernel
theorem dX7_succeeds_202 : decode cX7_succeeds 202 = .ok (.invokevirtual 41, 3) := by decide +kernel
theorem dX7_succeeds_205 : decode cX7_succeeds 205 = .ok (.ifCond .eq 28, 3) := by decide +kernel
theorem dX7_succeeds_208 : decode cX7_succeeds 208 = .ok (.iload 4, 2) := by decide +kernel
theorem dX7_succeeds_210 : decode cX7_succeeds 210 = .ok (.aload_n 0, 1) := by decide +kernel
theorem dX7_succeeds_211 : decode cX7_succeeds 211 = .ok (.getfield 37, 3) := by decide +kernel
theorem dX7_succeeds_214 : decode cX7_succeeds 214 = .ok (.iload_n 2, 1) := by decide +kernel
theorem dX7_succeeds_215 : decode cX7_succeeds 215 = .ok (.invokevirtual 46, 3) := by decide +kernel
theorem dX7_succeeds_218 : decode cX7_succeeds 218 = .ok (.ifCond .eq 7, 3) := by decide +kernel
theorem dX7_succeeds_221 : decode cX7_succeeds 221 = .ok (.iconst 1, 1) := by decide +kernel
theorem dX7_succeeds_222 : decode cX7_succeeds 222 = .ok (.goto 4, 3) := by decide +kernel
theorem dX7_succeeds_225 : decode cX7_succeeds 225 = .ok (.iconst 0, 1) := by decide +kernel
theorem dX7_succeeds_226 : decode cX7_succeeds 226 = .ok (.if_icmp .ne 7, 3) := by decide +kernel
theorem dX7_succeeds_229 : decode cX7_succeeds 229 = .ok (.iconst 1, 1) := by decide +kernel
theorem dX7_succeeds_230 : decode cX7_succeeds 230 = .ok (.goto 4, 3) := by decide +kernel
theorem dX7_succeeds_233 : decode cX7_succeeds 233 = .ok (.iconst 0, 1) := by decide +kernel
theorem dX7_succeeds_234 : decode cX7_succeeds 234 = .ok (.ireturn, 1) := by decide +kernel
theorem dX7_succeeds_235 : decode cX7_succeeds 235 = .ok (.aload_n 0, 1) := by decide +kernel
theorem dX7_succeeds_236 : decode cX7_succeeds 236 = .ok (.getfield 49, 3) := by decide +kernel
theorem dX7_succeeds_239 : decode cX7_succeeds 239 = .ok (.iload_n 2, 1) := by decide +kernel
theorem dX7_succeeds_240 : decode cX7_succeeds 240 = .ok (.invokevirtual 53, 3) := by decide +kernel
theorem dX7_succeeds_243 : decode cX7_succeeds 243 = .ok (.ifCond .eq 20, 3) := by decide +kernel
theorem dX7_succeeds_246 : decode cX7_succeeds 246 = .ok (.aload_n 0, 1) := by decide +kernel
theorem dX7_succeeds_247 : decode cX7_succeeds 247 = .ok (.getfield 49, 3) := by decide +kernel
theorem dX7_succeeds_250 : decode cX7_succeeds 250 = .ok (.iload_n 2, 1) := by decide +kernel
theorem dX7_succeeds_251 : decode cX7_succeeds 251 = .ok (.invokevirtual 56, 3) := by decide +kernel
theorem dX7_succeeds_254 : decode cX7_succeeds 254 = .ok (.iload 5, 2) := by decide +kernel
theorem dX7_succeeds_256 : decode cX7_succeeds 256 = .ok (.if_icmp .gt 7, 3) := by decide +kernel
theorem dX7_succeeds_259 : decode cX7_succeeds 259 = .ok (.iconst 1, 1) := by decide +kernel
theorem dX7_succeeds_260 : decode cX7_succeeds 260 = .ok (.goto 4, 3) := by decide +kernel
theorem dX7_succeeds_263 : decode cX7_succeeds 263 = .ok (.iconst 0, 1) := by decide +kernel
theorem dX7_succeeds_264 : decode cX7_succeeds 264 = .ok (.ireturn, 1) := by decide +kernel
theorem dX7_succeeds_265 : decode cX7_succeeds 265 = .ok (.aload_n 0, 1) := by decide +kernel
theorem dX7_succeeds_266 : decode cX7_succeeds 266 = .ok (.getfield 60, 3) := by decide +kernel
theorem dX7_succeeds_269 : decode cX7_succeeds 269 = .ok (.iload_n 2, 1) := by decide +kernel
theorem dX7_succeeds_270 : decode cX7_succeeds 270 = .ok (.invokevirtual 64, 3) := by decide +kernel
theorem dX7_succeeds_273 : decode cX7_succeeds 273 = .ok (.ifCond .eq 23, 3) := by decide +kernel
theorem dX7_succeeds_276 : decode cX7_succeeds 276 = .ok (.aload_n 0, 1) := by decide +kernel
theorem dX7_succeeds_277 : decode cX7_succeeds 277 = .ok (.getfield 60, 3) := by decide +kernel
theorem dX7_succeeds_280 : decode cX7_succeeds 280 = .ok (.getfield 67, 3) := by decide +kernel
theorem dX7_succeeds_283 : decode cX7_succeeds 283 = .ok (.iload_n 2, 1) := by decide +kernel
theorem dX7_succeeds_284 : decode cX7_succeeds 284 = .ok (.invokevirtual 71, 3) := by decide +kernel
theorem dX7_succeeds_287 : decode cX7_succeeds 287 = .ok (.iload 5, 2) := by decide +kernel
theorem dX7_succeeds_289 : decode cX7_succeeds 289 = .ok (.if_icmp .lt 7, 3) := by decide +kernel
theorem dX7_succeeds_292 : decode cX7_succeeds 292 = .ok (.iconst 1, 1) := by decide +kernel
theorem dX7_succeeds_293 : decode cX7_succeeds 293 = .ok (.goto 4, 3) := by decide +kernel
theorem dX7_succeeds_296 : decode cX7_succeeds 296 = .ok (.iconst 0, 1) := by decide +kernel
theorem dX7_succeeds_297 : decode cX7_succeeds 297 = .ok (.ireturn, 1) := by decide +kernel
theorem dX7_succeeds_298 : decode cX7_succeeds 298 = .ok (.iload_n 2, 1) := by decide +kernel
theorem dX7_succeeds_299 : decode cX7_succeeds 299 = .ok (.ifCond .ne 16, 3) := by decide +kernel
theorem dX7_succeeds_302 : decode cX7_succeeds 302 = .ok (.aload_n 0, 1) := by decide +kernel
theorem dX7_succeeds_303 : decode cX7_succeeds 303 = .ok (.getfield 76, 3) := by decide +kernel
theorem dX7_succeeds_306 : decode cX7_succeeds 306 = .ok (.iload 5, 2) := by decide +kernel
theorem dX7_succeeds_308 : decode cX7_succeeds 308 = .ok (.if_icmp .gt 7, 3) := by decide +kernel
theorem dX7_succeeds_311 : decode cX7_succeeds 311 = .ok (.iconst 1, 1) := by decide +kernel
theorem dX7_succeeds_312 : decode cX7_succeeds 312 = .ok (.goto 4, 3) := by decide +kernel
theorem dX7_succeeds_315 : decode cX7_succeeds 315 = .ok (.iconst 0, 1) := by decide +kernel
theorem dX7_succeeds_316 : decode cX7_succeeds 316 = .ok (.ireturn, 1) := by decide +kernel
theorem dX7_succeeds_317 : decode cX7_succeeds 317 = .ok (.iconst 0, 1) := by decide +kernel
theorem dX7_succeeds_318 : decode cX7_succeeds 318 = .ok (.ireturn, 1) := by decide +kernel
theorem dX8_turn_0 : decode cX8_turn 0 = .ok (.iload_n 1, 1) := by decide +kernel
theorem dX8_turn_1 : decode cX8_turn 1 = .ok (.bipush 16, 2) := by decide +kernel
theorem dX8_turn_3 : decode cX8_turn 3 = .ok (.idiv, 1) := by decide +kernel
theorem dX8_turn_4 : decode cX8_turn 4 = .ok (.istore_n 2, 1) := by decide +kernel
theorem dX8_turn_5 : decode cX8_turn 5 = .ok (.iload_n 1, 1) := by decide +kernel
theorem dX8_turn_6 : decode cX8_turn 6 = .ok (.bipush 16, 2) := by decide +kernel
theorem dX8_turn_8 : decode cX8_turn 8 = .ok (.irem, 1) := by decide +kernel
theorem dX8_turn_9 : decode cX8_turn 9 = .ok (.tableswitch 156 0 8 #[51, 63, 75, 86, 97, 119, 130, 142, 142], 51) := by decide +kernel
theorem dX8_turn_60 : decode cX8_turn 60 = .ok (.aload_n 0, 1) := by decide +kernel
theorem dX8_turn_61 : decode cX8_turn 61 = .ok (.iload_n 2, 1) := by decide +kernel
theorem dX8_turn_62 : decode cX8_turn 62 = .ok (.bipush 40, 2) := by decide +kernel
theorem dX8_turn_64 : decode cX8_turn 64 = .ok (.irem, 1) := by decide +kernel
theorem dX8_turn_65 : decode cX8_turn 65 = .ok (.invokevirtual 7, 3) := by decide +kernel
theorem dX8_turn_68 : decode cX8_turn 68 = .ok (.pop, 1) := by decide +kernel
theorem dX8_turn_69 : decode cX8_turn 69 = .ok (.goto 112, 3) := by decide +kernel
theorem dX8_turn_72 : decode cX8_turn 72 = .ok (.aload_n 0, 1) := by decide +kernel
theorem dX8_turn_73 : decode cX8_turn 73 = .ok (.iload_n 2, 1) := by decide +kernel
theorem dX8_turn_74 : decode cX8_turn 74 = .ok (.bipush 10, 2) := by decide +kernel
theorem dX8_turn_76 : decode cX8_turn 76 = .ok (.irem, 1) := by decide +kernel
theorem dX8_turn_77 : decode cX8_turn 77 = .ok (.invokevirtual 13, 3) := by decide +kernel
theorem dX8_turn_80 : decode cX8_turn 80 = .ok (.pop, 1) := by decide +kernel
theorem dX8_turn_81 : decode cX8_turn 81 = .ok (.goto 100, 3) := by decide +kernel
theorem dX8_turn_84 : decode cX8_turn 84 = .ok (.aload_n 0, 1) := by decide +kernel
theorem dX8_turn_85 : decode cX8_turn 85 = .ok (.iload_n 2, 1) := by decide +kernel
theorem dX8_turn_86 : decode cX8_turn 86 = .ok (.iconst 4, 1) := by decide +kernel
theorem dX8_turn_87 : decode cX8_turn 87 = .ok (.irem, 1) := by decide +kernel
theorem dX8_turn_88 : decode cX8_turn 88 = .ok (.invokevirtual 16, 3) := by decide +kernel
theorem dX8_turn_91 : decode cX8_turn 91 = .ok (.pop, 1) := by decide +kernel
theorem dX8_turn_92 : decode cX8_turn 92 = .ok (.goto 89, 3) := by decide +kernel
theorem dX8_turn_95 : decode cX8_turn 95 = .ok (.aload_n 0, 1) := by decide +kernel
theorem dX8_turn_96 : decode cX8_turn 96 = .ok (.iload_n 2, 1) := by decide +kernel
theorem dX8_turn_97 : decode cX8_turn 97 = .ok (.iconst 4, 1) := by decide +kernel
theorem dX8_turn_98 : decode cX8_turn 98 = .ok (.irem, 1) := by decide +kernel
theorem dX8_turn_99 : decode cX8_turn 99 = .ok (.invokevirtual 19, 3) := by decide +kernel
theorem dX8_turn_102 : decode cX8_turn 102 = .ok (.pop, 1) := by decide +kernel
theorem dX8_turn_103 : decode cX8_turn 103 = .ok (.goto 78, 3) := by decide +kernel
theorem dX8_turn_106 : decode cX8_turn 106 = .ok (.aload_n 0, 1) := by decide +kernel
theorem dX8_turn_107 : decode cX8_turn 107 = .ok (.iload_n 2, 1) := by decide +kernel
theorem dX8_turn_108 : decode cX8_turn 108 = .ok (.bipush 8, 2) := by decide +kernel
theorem dX8_turn_110 : decode cX8_turn 110 = .ok (.irem, 1) := by decide +kernel
theorem dX8_turn_111 : decode cX8_turn 111 = .ok (.iconst 1, 1) := by decide +kernel
theorem dX8_turn_112 : decode cX8_turn 112 = .ok (.iload_n 1, 1) := by decide +kernel
theorem dX8_turn_113 : decode cX8_turn 113 = .ok (.sipush 128, 3) := by decide +kernel
theorem dX8_turn_116 : decode cX8_turn 116 = .ok (.idiv, 1) := by decide +kernel
theorem dX8_turn_117 : decode cX8_turn 117 = .ok (.bipush 30, 2) := by decide +kernel
theorem dX8_turn_119 : decode cX8_turn 119 = .ok (.irem, 1) := by decide +kernel
theorem dX8_turn_120 : decode cX8_turn 120 = .ok (.iadd, 1) := by decide +kernel
theorem dX8_turn_121 : decode cX8_turn 121 = .ok (.invokevirtual 22, 3) := by decide +kernel
theorem dX8_turn_124 : decode cX8_turn 124 = .ok (.pop, 1) := by decide +kernel
theorem dX8_turn_125 : decode cX8_turn 125 = .ok (.goto 56, 3) := by decide +kernel
theorem dX8_turn_128 : decode cX8_turn 128 = .ok (.aload_n 0, 1) := by decide +kernel
theorem dX8_turn_129 : decode cX8_turn 129 = .ok (.iload_n 2, 1) := by decide +kernel
theorem dX8_turn_130 : decode cX8_turn 130 = .ok (.iconst 4, 1) := by decide +kernel
theorem dX8_turn_131 : decode cX8_turn 131 = .ok (.irem, 1) := by decide +kernel
theorem dX8_turn_132 : decode cX8_turn 132 = .ok (.invokevirtual 26, 3) := by decide +kernel
theorem dX8_turn_135 : decode cX8_turn 135 = .ok (.pop, 1) := by decide +kernel
theorem dX8_turn_136 : decode cX8_turn 136 = .ok (.goto 45, 3) := by decide +kernel
theorem dX8_turn_139 : decode cX8_turn 139 = .ok (.aload_n 0, 1) := by decide +kernel
theorem dX8_turn_140 : decode cX8_turn 140 = .ok (.iload_n 2, 1) := by decide +kernel
theorem dX8_turn_141 : decode cX8_turn 141 = .ok (.bipush 8, 2) := by decide +kernel
theorem dX8_turn_143 : decode cX8_turn 143 = .ok (.irem, 1) := by decide +kernel
theorem dX8_turn_144 : decode cX8_turn 144 = .ok (.invokevirtual 29, 3) := by decide +kernel
theorem dX8_turn_147 : decode cX8_turn 147 = .ok (.pop, 1) := by decide +kernel
theorem dX8_turn_148 : decode cX8_turn 148 = .ok (.goto 33, 3) := by decide +kernel
theorem dX8_turn_151 : decode cX8_turn 151 = .ok (.aload_n 0, 1) := by decide +kernel
theorem dX8_turn_152 : decode cX8_turn 152 = .ok (.iconst 1, 1) := by decide +kernel
theorem dX8_turn_153 : decode cX8_turn 153 = .ok (.iload_n 2, 1) := by decide +kernel
theorem dX8_turn_154 : decode cX8_turn 154 = .ok (.bipush 20, 2) := by decide +kernel
theorem dX8_turn_156 : decode cX8_turn 156 = .ok (.irem, 1) := by decide +kernel
theorem dX8_turn_157 : decode cX8_turn 157 = .ok (.iadd, 1) := by decide +kernel
theorem dX8_turn_158 : decode cX8_turn 158 = .ok (.invokevirtual 32, 3) := by decide +kernel
theorem dX8_turn_161 : decode cX8_turn 161 = .ok (.pop, 1) := by decide +kernel
theorem dX8_turn_162 : decode cX8_turn 162 = .ok (.goto 19, 3) := by decide +kernel
theorem dX8_turn_165 : decode cX8_turn 165 = .ok (.aload_n 0, 1) := by decide +kernel
theorem dX8_turn_166 : decode cX8_turn 166 = .ok (.iload_n 2, 1) := by decide +kernel
theorem dX8_turn_167 : decode cX8_turn 167 = .ok (.bipush 10, 2) := by decide +kernel
theorem dX8_turn_169 : decode cX8_turn 169 = .ok (.irem, 1) := by decide +kernel
theorem dX8_turn_170 : decode cX8_turn 170 = .ok (.iload_n 1, 1) := by decide +kernel
theorem dX8_turn_171 : decode cX8_turn 171 = .ok (.sipush 256, 3) := by decide +kernel
theorem dX8_turn_174 : decode cX8_turn 174 = .ok (.idiv, 1) := by decide +kernel
theorem dX8_turn_175 : decode cX8_turn 175 = .ok (.iconst 4, 1) := by decide +kernel
theorem dX8_turn_176 : decode cX8_turn 176 = .ok (.irem, 1) := by decide +kernel
theorem dX8_turn_177 : decode cX8_turn 177 = .ok (.invokevirtual 35, 3) := by decide +kernel
theorem dX8_turn_180 : decode cX8_turn 180 = .ok (.pop, 1) := by decide +kernel
theorem dX8_turn_181 : decode cX8_turn 181 = .ok (.return_, 1) := by decide +kernel
theorem yf_X10_showCard : (Cond.instanceMethod yX10_showCard) ∈ gtbl ∧ (Cond.selects RX10 yX10_showCard yX10_showCard) ∈ gtbl ∧ (Cond.initialized RX10) ∈ gtbl ∧ (Cond.code yX10_showCard cX10_showCard 4 (some .int)) ∈ gtbl ∧ (yX10_showCard.cls = RX10 ∧ yX10_showCard.cls ≠ "java/lang/invoke/MethodHandle" ∧ yX10_showCard.cls ≠ "java/lang/invoke/VarHandle" ∧ (parseMethodDescriptor yX10_showCard.desc).map (fun d => d.parameters.length) = some 2) := ⟨gt_in 506 (by decide +kernel) (by decide +kernel), gt_in 507 (by decide +kernel) (by decide +kernel), gt_in 11 (by decide +kernel) (by decide +kernel), gt_in 508 (by decide +kernel) (by decide +kernel), by decide +kernel⟩
theorem cw_X7_11 : uCW RX7 RX10 11 yX10_showCard cX10_showCard 4 (some .int) 2 := ⟨gt_in 998 (by decide +kernel) (by decide +kernel), yf_X10_showCard⟩
theorem cw_X7_17 : uCS RX7 17 yX10_letsThrough cX10_letsThrough 1 (some .boolean) 1 := ⟨gt_in 999 (by decide +kernel) (by decide +kernel), yf_X10_letsThrough⟩
theorem yf_X10_tryPay : (Cond.instanceMethod yX10_tryPay) ∈ gtbl ∧ (Cond.selects RX10 yX10_tryPay yX10_tryPay) ∈ gtbl ∧ (Cond.initialized RX10) ∈ gtbl ∧ (Cond.code yX10_tryPay cX10_tryPay 3 (some .boolean)) ∈ gtbl ∧ (yX10_tryPay.cls = RX10 ∧ yX10_tryPay.cls ≠ "java/lang/invoke/MethodHandle" ∧ yX10_tryPay.cls ≠ "java/lang/invoke/VarHandle" ∧ (parseMethodDescriptor yX10_tryPay.desc).map (fun d => d.parameters.length) = some 2) := ⟨gt_in 580 (by decide +kernel) (by decide +kernel), gt_in 581 (by decide +kernel) (by decide +kernel), gt_in 11 (by decide +kernel) (by decide +kernel), gt_in 582 (by decide +kernel) (by decide +kernel), by decide +kernel⟩
theorem cw_X7_21 : uCW RX7 RX10 21 yX10_tryPay cX10_tryPay 3 (some .boolean) 2 := ⟨gt_in 1000 (by decide +kernel) (by decide +kernel), yf_X10_tryPay⟩
theorem yf_X10_tryUp : (Cond.instanceMethod yX10_tryUp) ∈ gtbl ∧ (Cond.selects RX10 yX10_tryUp yX10_tryUp) ∈ gtbl ∧ (Cond.initialized RX10) ∈ gtbl ∧ (Cond.code yX10_tryUp cX10_tryUp 2 (some .boolean)) ∈ gtbl ∧ (yX10_tryUp.cls = RX10 ∧ yX10_tryUp.cls ≠ "java/lang/invoke/MethodHandle" ∧ yX10_tryUp.cls ≠ "java/lang/invoke/VarHandle" ∧ (parseMethodDescriptor yX10_tryUp.desc).map (fun d => d.parameters.length) = some 1) := ⟨gt_in 609 (by decide +kernel) (by decide +kernel), gt_in 610 (by decide +kernel) (by decide +kernel), gt_in 11 (by decide +kernel) (by decide +kernel), gt_in 611 (by decide +kernel) (by decide +kernel), by decide +kernel⟩
theorem cw_X7_25 : uCW RX7 RX10 25 yX10_tryUp cX10_tryUp 2 (some .boolean) 1 := ⟨gt_in 1001 (by decide +kernel) (by decide +kernel), yf_X10_tryUp⟩
theorem yf_X10_tryDown : (Cond.instanceMethod yX10_tryDown) ∈ gtbl ∧ (Cond.selects RX10 yX10_tryDown yX10_tryDown) ∈ gtbl ∧ (Cond.initialized RX10) ∈ gtbl ∧ (Cond.code yX10_tryDown cX10_tryDown 2 (some .boolean)) ∈ gtbl ∧ (yX10_tryDown.cls = RX10 ∧ yX10_tryDown.cls ≠ "java/lang/invoke/MethodHandle" ∧ yX10_tryDown.cls ≠ "java/lang/invoke/VarHandle" ∧ (parseMethodDescriptor yX10_tryDown.desc).map (fun d => d.parameters.length) = some 1) := ⟨gt_in 592 (by decide +kernel) (by decide +kernel), gt_in 593 (by decide +kernel) (by decide +kernel), gt_in 11 (by decide +kernel) (by decide +kernel), gt_in 594 (by decide +kernel) (by decide +kernel), by decide +kernel⟩
theorem cw_X7_28 : uCW RX7 RX10 28 yX10_tryDown cX10_tryDown 2 (some .boolean) 1 := ⟨gt_in 1002 (by decide +kernel) (by decide +kernel), yf_X10_tryDown⟩
theorem yf_X10_tryRun : (Cond.instanceMethod yX10_tryRun) ∈ gtbl ∧ (Cond.selects RX10 yX10_tryRun yX10_tryRun) ∈ gtbl ∧ (Cond.initialized RX10) ∈ gtbl ∧ (Cond.code yX10_tryRun cX10_tryRun 2 (some .boolean)) ∈ gtbl ∧ (yX10_tryRun.cls = RX10 ∧ yX10_tryRun.cls ≠ "java/lang/invoke/MethodHandle" ∧ yX10_tryRun.cls ≠ "java/lang/invoke/VarHandle" ∧ (parseMethodDescriptor yX10_tryRun.desc).map (fun d => d.parameters.length) = some 1) := ⟨gt_in 638 (by decide +kernel) (by decide +kernel), gt_in 639 (by decide +kernel) (by decide +kernel), gt_in 11 (by decide +kernel) (by decide +kernel), gt_in 640 (by decide +kernel) (by decide +kernel), by decide +kernel⟩
theorem cw_X7_31 : uCW RX7 RX10 31 yX10_tryRun cX10_tryRun 2 (some .boolean) 1 := ⟨gt_in 1003 (by decide +kernel) (by decide +kernel), yf_X10_tryRun⟩
theorem yf_X10_tryCopy : (Cond.instanceMethod yX10_tryCopy) ∈ gtbl ∧ (Cond.selects RX10 yX10_tryCopy yX10_tryCopy) ∈ gtbl ∧ (Cond.initialized RX10) ∈ gtbl ∧ (Cond.code yX10_tryCopy cX10_tryCopy 2 (some .boolean)) ∈ gtbl ∧ (yX10_tryCopy.cls = RX10 ∧ yX10_tryCopy.cls ≠ "java/lang/invoke/MethodHandle" ∧ yX10_tryCopy.cls ≠ "java/lang/invoke/VarHandle" ∧ (parseMethodDescriptor yX10_tryCopy.desc).map (fun d => d.parameters.length) = some 1) := ⟨gt_in 492 (by decide +kernel) (by decide +kernel), gt_in 493 (by decide +kernel) (by decide +kernel), gt_in 11 (by decide +kernel) (by decide +kernel), gt_in 494 (by decide +kernel) (by decide +kernel), by decide +kernel⟩
theorem cw_X7_34 : uCW RX7 RX10 34 yX10_tryCopy cX10_tryCopy 2 (some .boolean) 1 := ⟨gt_in 1004 (by decide +kernel) (by decide +kernel), yf_X10_tryCopy⟩
theorem cw_X7_41 : uCW RX7 RX5 41 yX5_has cX5_has 2 (some .boolean) 1 := ⟨gt_in 1005 (by decide +kernel) (by decide +kernel), yf_X5_has⟩
theorem cw_X7_46 : uCW RX7 RX5 46 yX5_isBlocked cX5_isBlocked 2 (some .boolean) 1 := ⟨gt_in 1006 (by decide +kernel) (by decide +kernel), yf_X5_isBlocked⟩
theorem cw_X7_53 : uCW RX7 RX3 53 yX3_has cX3_has 2 (some .boolean) 1 := ⟨gt_in 1007 (by decide +kernel) (by decide +kernel), yf_X3_has⟩
theorem cw_X7_56 : uCW RX7 RX3 56 yX3_logSize cX3_logSize 2 (some .int) 1 := ⟨gt_in 1008 (by decide +kernel) (by decide +kernel), yf_X3_logSize⟩
theorem cw_X7_64 : uCW RX7 RX0 64 yX0_has cX0_has 2 (some .boolean) 1 := ⟨gt_in 1009 (by decide +kernel) (by decide +kernel), yf_X0_has⟩
theorem cw_X7_71 : uCW RX7 RX6 71 yX6_get cX6_get 2 (some .int) 1 := ⟨gt_in 1010 (by decide +kernel) (by decide +kernel), yf_X6_get⟩
theorem yf_X10_tryIssue : (Cond.instanceMethod yX10_tryIssue) ∈ gtbl ∧ (Cond.selects RX10 yX10_tryIssue yX10_tryIssue) ∈ gtbl ∧ (Cond.initialized RX10) ∈ gtbl ∧ (Cond.code yX10_tryIssue cX10_tryIssue 2 (some .boolean)) ∈ gtbl ∧ (yX10_tryIssue.cls = RX10 ∧ yX10_tryIssue.cls ≠ "java/lang/invoke/MethodHandle" ∧ yX10_tryIssue.cls ≠ "java/lang/invoke/VarHandle" ∧ (parseMethodDescriptor yX10_tryIssue.desc).map (fun d => d.parameters.length) = some 1) := ⟨gt_in 462 (by decide +kernel) (by decide +kernel), gt_in 463 (by decide +kernel) (by decide +kernel), gt_in 11 (by decide +kernel) (by decide +kernel), gt_in 464 (by decide +kernel) (by decide +kernel), by decide +kernel⟩
theorem cw_X8_7 : uCW RX8 RX10 7 yX10_tryIssue cX10_tryIssue 2 (some .boolean) 1 := ⟨gt_in 1024 (by decide +kernel) (by decide +kernel), yf_X10_tryIssue⟩
theorem cw_X8_13 : uCW RX8 RX10 13 yX10_tryCopy cX10_tryCopy 2 (some .boolean) 1 := ⟨gt_in 1025 (by decide +kernel) (by decide +kernel), yf_X10_tryCopy⟩
theorem cw_X8_16 : uCW RX8 RX10 16 yX10_tryDown cX10_tryDown 2 (some .boolean) 1 := ⟨gt_in 1026 (by decide +kernel) (by decide +kernel), yf_X10_tryDown⟩
theorem cw_X8_19 : uCW RX8 RX10 19 yX10_tryUp cX10_tryUp 2 (some .boolean) 1 := ⟨gt_in 1027 (by decide +kernel) (by decide +kernel), yf_X10_tryUp⟩
theorem cw_X8_22 : uCW RX8 RX10 22 yX10_tryPay cX10_tryPay 3 (some .boolean) 2 := ⟨gt_in 1028 (by decide +kernel) (by decide +kernel), yf_X10_tryPay⟩
theorem yf_X10_tryOpen : (Cond.instanceMethod yX10_tryOpen) ∈ gtbl ∧ (Cond.selects RX10 yX10_tryOpen yX10_tryOpen) ∈ gtbl ∧ (Cond.initialized RX10) ∈ gtbl ∧ (Cond.code yX10_tryOpen cX10_tryOpen 2 (some .boolean)) ∈ gtbl ∧ (yX10_tryOpen.cls = RX10 ∧ yX10_tryOpen.cls ≠ "java/lang/invoke/MethodHandle" ∧ yX10_tryOpen.cls ≠ "java/lang/invoke/VarHandle" ∧ (parseMethodDescriptor yX10_tryOpen.desc).map (fun d => d.parameters.length) = some 1) := ⟨gt_in 629 (by decide +kernel) (by decide +kernel), gt_in 630 (by decide +kernel) (by decide +kernel), gt_in 11 (by decide +kernel) (by decide +kernel), gt_in 631 (by decide +kernel) (by decide +kernel), by decide +kernel⟩
theorem cw_X8_26 : uCW RX8 RX10 26 yX10_tryOpen cX10_tryOpen 2 (some .boolean) 1 := ⟨gt_in 1029 (by decide +kernel) (by decide +kernel), yf_X10_tryOpen⟩
theorem yf_X10_tryPardon : (Cond.instanceMethod yX10_tryPardon) ∈ gtbl ∧ (Cond.selects RX10 yX10_tryPardon yX10_tryPardon) ∈ gtbl ∧ (Cond.initialized RX10) ∈ gtbl ∧ (Cond.code yX10_tryPardon cX10_tryPardon 2 (some .boolean)) ∈ gtbl ∧ (yX10_tryPardon.cls = RX10 ∧ yX10_tryPardon.cls ≠ "java/lang/invoke/MethodHandle" ∧ yX10_tryPardon.cls ≠ "java/lang/invoke/VarHandle" ∧ (parseMethodDescriptor yX10_tryPardon.desc).map (fun d => d.parameters.length) = some 1) := ⟨gt_in 1031 (by decide +kernel) (by decide +kernel), gt_in 1032 (by decide +kernel) (by decide +kernel), gt_in 11 (by decide +kernel) (by decide +kernel), gt_in 1033 (by decide +kernel) (by decide +kernel), by decide +kernel⟩
theorem cw_X8_29 : uCW RX8 RX10 29 yX10_tryPardon cX10_tryPardon 2 (some .boolean) 1 := ⟨gt_in 1030 (by decide +kernel) (by decide +kernel), yf_X10_tryPardon⟩
theorem cw_X8_32 : uCW RX8 RX10 32 yX10_tryRun cX10_tryRun 2 (some .boolean) 1 := ⟨gt_in 1036 (by decide +kernel) (by decide +kernel), yf_X10_tryRun⟩
theorem cw_X8_35 : uCW RX8 RX10 35 yX10_showCard cX10_showCard 4 (some .int) 2 := ⟨gt_in 1037 (by decide +kernel) (by decide +kernel), yf_X10_showCard⟩
def fX7_fits_L5 (n : Nat) (y0 : Int32) (y1 : Int64) (y3 : Int64) (y5 : Int32) : Option Int32 :=
  match n with
  | 0 => none
  | n + 1 =>
    if y0 ≤ y5 then
      if (lg_cmp y1 0) < 0 then
        some 0
      else
        if 0 ≤ (lg_cmp y1 y3) then
          some 0
        else
          some 1
    else
      lt_ ((y3 * 10000)) fun x4 =>
      lt_ (y5 + 1) fun x6 =>
      fX7_fits_L5 n y0 y1 x4 x6
set_option maxHeartbeats 4000000 in
set_option maxRecDepth 20000 in
theorem lpX7_fits_5 {l : Launch} {G : UG} {V : uV}  {r : Int32} {p : Program} {e : Env} {s : State} {m : MethodId} {args : Array Value} {below : List Frame} {meth : Method} {c : Code} (X : UC p s m args meth c cX7_fits 6 RX7 G) (hret : meth.sig.returnType = some .boolean) : ∀ (n : Nat) (y0 : Int32) (y1 : Int64) (y3 : Int64) (y5 : Int32) (H : Heap) (locs : List Loc) (ls : Array Slot), fX7_fits_L5  n y0 y1 y3 y5 = some r → UM G (V) s H locs → lv_has ls 6 [(0, .int y0), (1, .long y1), (3, .long y3), (5, .int y5)] → W p l e (uR 0 0) s m args below meth c H locs 0 0 (MQ below (uQi G .boolean r V) args s 0 0 (uA G)) (F0 m 5 ls []) := by
  intro n
  have hx := X.hx
  have hb := X.hb
  induction n with
  | zero => intro y0 y1 y3 y5 H locs ls h M hl; rw [fX7_fits_L5] at h; cases h
  | succ n ih =>
    intro y0 y1 y3 y5 H locs ls h M hl
    rw [fX7_fits_L5] at h
    refine lv_iload hx hb dX7_fits_5 (lv_at hl 3 rfl) ?_
    refine lv_iload_n hx hb dX7_fits_7 rfl (lv_at hl 0 rfl) ?_
    refine lv_icmp_ge (tgt := 23) hx hb dX7_fits_8 (by decide) (fun c1 => ?_) (fun c1 => ?_)
    · have h := it_t h c1
      refine lv_lload_n hx hb dX7_fits_23 rfl (lv_at hl 1 rfl) ?_
      refine lv_lconst (v := 0) hx hb dX7_fits_24 rfl ?_
      refine W.lcmp hx hb dX7_fits_25 ?_
      refine lv_if_lt (tgt := 39) hx hb dX7_fits_26 (by decide) (fun c2 => ?_) (fun c2 => ?_)
      · have h := it_t h c2
        refine lv_iconst (v := 0) hx hb dX7_fits_39 (by decide) ?_
        exact u_iret X hret M (Option.some.inj h) (rfl) rfl dX7_fits_40
      · have h := it_f h c2
        refine lv_lload_n hx hb dX7_fits_29 rfl (lv_at hl 1 rfl) ?_
        refine lv_lload_n hx hb dX7_fits_30 rfl (lv_at hl 2 rfl) ?_
        refine W.lcmp hx hb dX7_fits_31 ?_
        refine lv_if_ge (tgt := 39) hx hb dX7_fits_32 (by decide) (fun c3 => ?_) (fun c3 => ?_)
        · have h := it_t h c3
          refine lv_iconst (v := 0) hx hb dX7_fits_39 (by decide) ?_
          exact u_iret X hret M (Option.some.inj h) (rfl) rfl dX7_fits_40
        · have h := it_f h c3
          refine lv_iconst (v := 1) hx hb dX7_fits_35 (by decide) ?_
          refine lv_goto (tgt := 40) hx hb dX7_fits_36 (by decide) ?_
          exact u_iret X hret M (Option.some.inj h) (rfl) rfl dX7_fits_40
    · have h := it_f h c1
      refine lv_lload_n hx hb dX7_fits_11 rfl (lv_at hl 2 rfl) ?_
      refine lv_ldc2 (v := 10000) hx hb X.1.2.2.2.1 (X.hts (gt_in 991 (by decide +kernel) (by decide +kernel))) dX7_fits_12 ?_
      refine lv_lmul hx hb dX7_fits_15 ?_
      obtain ⟨x4, e5, h⟩ := lt_e h
      refine u_topl e5 ?_
      refine lv_lstore_n (lv' := [(3, .long x4), (0, .int y0), (1, .long y1), (5, .int y5)]) hx hb dX7_fits_16 rfl hl (by decide) rfl (fun ls hl => ?_)
      obtain ⟨x6, e7, h⟩ := lt_e h
      refine lv_iinc (v := x6) (lv' := [(5, .int x6), (3, .long x4), (0, .int y0), (1, .long y1)]) hx hb dX7_fits_17 hl (k := 3) rfl (by rw [e7]; rfl) (by decide) rfl (fun ls hl => ?_)
      refine lv_goto (tgt := 5) hx hb dX7_fits_20 (by decide) ?_
      exact ih _ _ _ _ _ _ _ h M (lv_sub hl [2, 3, 1, 0] rfl)
def fX7_fits (a1 : Int32) (a2 : Int64) : Option Int32 :=
  fX7_fits_L5 3000 a1 a2 1 0
set_option maxHeartbeats 4000000 in
set_option maxRecDepth 20000 in
theorem kX7_fits {l : Launch} {G : UG} {V : uV}  {a1 : Int32} {a2 : Int64} {r : Int32} (h : fX7_fits a1 a2 = some r) : uMi l G yX7_fits cX7_fits 6 .boolean (uR 0 0) [.int a1, .long a2] V r V := by
  refine uMi_of rfl (Nat.le_of_ble_eq_true rfl) (fun p e s m args below meth c ls X hret hl M => ?_)
  have hl : lv_has ls 6 [(0, .int a1), (1, .long a2)] := hl
  have hx := X.hx
  have hb := X.hb
  unfold fX7_fits at h
  refine lv_lconst (v := 1) hx hb dX7_fits_0 rfl ?_
  refine lv_lstore_n (lv' := [(3, .long 1), (0, .int a1), (1, .long a2)]) hx hb dX7_fits_1 rfl hl (by decide) rfl (fun ls hl => ?_)
  refine lv_iconst (v := 0) hx hb dX7_fits_2 (by decide) ?_
  refine lv_istore (lv' := [(5, .int 0), (3, .long 1), (0, .int a1), (1, .long a2)]) hx hb dX7_fits_3 hl (by decide) rfl (fun ls hl => ?_)
  exact lpX7_fits_5  X hret 3000 _ _ _ _ _ _ _ h M (lv_sub hl [2, 3, 1, 0] rfl)
def fX7_group_L8 (n : Nat) (y0 : Int32) (y1 : Int64) (y3 : Int32) (y4 : Int64) (y6 : Int32) : Option Int32 :=
  match n with
  | 0 => none
  | n + 1 =>
    if y6 ≤ y3 then
      some (((y4 - y4 / 10000 * 10000) : Int64).toInt32)
    else
      lt_ ((y4 / 10000)) fun x4 =>
      lt_ (y6 + (-1)) fun x6 =>
      fX7_group_L8 n y0 y1 y3 x4 x6
set_option maxHeartbeats 4000000 in
set_option maxRecDepth 20000 in
theorem lpX7_group_8 {l : Launch} {G : UG} {V : uV}  {r : Int32} {p : Program} {e : Env} {s : State} {m : MethodId} {args : Array Value} {below : List Frame} {meth : Method} {c : Code} (X : UC p s m args meth c cX7_group 7 RX7 G) (hret : meth.sig.returnType = some .int) : ∀ (n : Nat) (y0 : Int32) (y1 : Int64) (y3 : Int32) (y4 : Int64) (y6 : Int32) (H : Heap) (locs : List Loc) (ls : Array Slot), fX7_group_L8  n y0 y1 y3 y4 y6 = some r → UM G (V) s H locs → lv_has ls 7 [(0, .int y0), (1, .long y1), (3, .int y3), (4, .long y4), (6, .int y6)] → W p l e (uR 0 0) s m args below meth c H locs 0 0 (MQ below (uQi G .int r V) args s 0 0 (uA G)) (F0 m 8 ls []) := by
  intro n
  have hx := X.hx
  have hb := X.hb
  induction n with
  | zero => intro y0 y1 y3 y4 y6 H locs ls h M hl; rw [fX7_group_L8] at h; cases h
  | succ n ih =>
    intro y0 y1 y3 y4 y6 H locs ls h M hl
    rw [fX7_group_L8] at h
    refine lv_iload hx hb dX7_group_8 (lv_at hl 4 rfl) ?_
    refine lv_iload_n hx hb dX7_group_10 rfl (lv_at hl 2 rfl) ?_
    refine lv_icmp_le (tgt := 28) hx hb dX7_group_11 (by decide) (fun c3 => ?_) (fun c3 => ?_)
    · have h := it_t h c3
      refine lv_lload hx hb dX7_group_28 (lv_at hl 3 rfl) ?_
      refine lv_ldc2 (v := 10000) hx hb X.1.2.2.2.1 (X.hts (gt_in 991 (by decide +kernel) (by decide +kernel))) dX7_group_30 ?_
      refine lv_lrem hx hb dX7_group_33 (by decide) ?_
      refine lv_l2i hx hb dX7_group_34 rfl ?_
      exact u_iret X hret M (Option.some.inj h) (rfl) rfl dX7_group_35
    · have h := it_f h c3
      refine lv_lload hx hb dX7_group_14 (lv_at hl 3 rfl) ?_
      refine lv_ldc2 (v := 10000) hx hb X.1.2.2.2.1 (X.hts (gt_in 991 (by decide +kernel) (by decide +kernel))) dX7_group_16 ?_
      refine lv_ldiv hx hb dX7_group_19 (by decide) ?_
      obtain ⟨x4, e5, h⟩ := lt_e h
      refine u_topl e5 ?_
      refine lv_lstore (lv' := [(4, .long x4), (0, .int y0), (1, .long y1), (3, .int y3), (6, .int y6)]) hx hb dX7_group_20 hl (by decide) rfl (fun ls hl => ?_)
      obtain ⟨x6, e7, h⟩ := lt_e h
      refine lv_iinc (v := x6) (lv' := [(6, .int x6), (4, .long x4), (0, .int y0), (1, .long y1), (3, .int y3)]) hx hb dX7_group_22 hl (k := 4) rfl (by rw [e7]; rfl) (by decide) rfl (fun ls hl => ?_)
      refine lv_goto (tgt := 8) hx hb dX7_group_25 (by decide) ?_
      exact ih _ _ _ _ _ _ _ _ h M (lv_sub hl [2, 3, 4, 1, 0] rfl)
def fX7_group (a1 : Int32) (a2 : Int64) (a3 : Int32) : Option Int32 :=
  lt_ ((a1 - 1)) fun x1 =>
  fX7_group_L8 3000 a1 a2 a3 a2 x1
set_option maxHeartbeats 4000000 in
set_option maxRecDepth 20000 in
theorem kX7_group {l : Launch} {G : UG} {V : uV}  {a1 : Int32} {a2 : Int64} {a3 : Int32} {r : Int32} (h : fX7_group a1 a2 a3 = some r) : uMi l G yX7_group cX7_group 7 .int (uR 0 0) [.int a1, .long a2, .int a3] V r V := by
  refine uMi_of rfl (Nat.le_of_ble_eq_true rfl) (fun p e s m args below meth c ls X hret hl M => ?_)
  have hl : lv_has ls 7 [(0, .int a1), (1, .long a2), (3, .int a3)] := hl
  have hx := X.hx
  have hb := X.hb
  unfold fX7_group at h
  refine lv_lload_n hx hb dX7_group_0 rfl (lv_at hl 1 rfl) ?_
  refine lv_lstore (lv' := [(4, .long a2), (0, .int a1), (1, .long a2), (3, .int a3)]) hx hb dX7_group_1 hl (by decide) rfl (fun ls hl => ?_)
  refine lv_iload_n hx hb dX7_group_3 rfl (lv_at hl 1 rfl) ?_
  refine lv_iconst (v := 1) hx hb dX7_group_4 (by decide) ?_
  refine lv_isub hx hb dX7_group_5 ?_
  obtain ⟨x1, e2, h⟩ := lt_e h
  refine u_topi e2 ?_
  refine lv_istore (lv' := [(6, .int x1), (4, .long a2), (0, .int a1), (1, .long a2), (3, .int a3)]) hx hb dX7_group_6 hl (by decide) rfl (fun ls hl => ?_)
  exact lpX7_group_8  X hret 3000 _ _ _ _ _ _ _ _ h M (lv_sub hl [2, 3, 4, 1, 0] rfl)
def fX7_succeeds (S : (Nat → Nat → Int32)) (a2 : Int32) : Option (Int32 × (Nat → Nat → Int32)) :=
  lt_ (((a2 / 100) - (a2 / 100) / 10 * 10)) fun x1 =>
  lt_ (((a2 / 10) - (a2 / 10) / 10 * 10)) fun x3 =>
  lt_ ((a2 - a2 / 10 * 10)) fun x5 =>
  lt_ ((a2 - a2 / 100 * 100)) fun x7 =>
  lt_ ((a2 / 1000)) fun x9 =>
  if x9 = 1 then
    if x5 = 0 then
      bd2 (fX10_showCard S x1 x3) fun x14 S15 =>
      lt_ (fX10_letsThrough  x14) fun x18 =>
      if x18 = 0 then
        some (0, S15)
      else
        some (1, S15)
    else
      some (0, S)
  else if x9 = 2 then
    bd2 (fX10_tryPay S x1 x7) fun x23 S24 =>
    some (x23, S24)
  else if x9 = 3 then
    if x3 = 0 then
      if x5 = 1 then
        bd2 (fX10_tryUp S x1) fun x36 S37 =>
        if x36 = 0 then
          some (0, S37)
        else
          some (1, S37)
      else
        if x5 = 0 then
          bd2 (fX10_tryDown S x1) fun x31 S32 =>
          if x31 = 0 then
            some (0, S32)
          else
            some (1, S32)
        else
          some (0, S)
    else
      some (0, S)
  else if x9 = 4 then
    if x1 = 0 then
      bd2 (fX10_tryRun S x7) fun x43 S44 =>
      if x43 = 0 then
        some (0, S44)
      else
        some (1, S44)
    else
      some (0, S)
  else if x9 = 5 then
    if x7 = 0 then
      bd2 (fX10_tryCopy S x1) fun x50 S51 =>
      if x50 = 0 then
        some (0, S51)
      else
        some (1, S51)
    else
      some (0, S)
  else if x9 = 6 then
    if x3 = 0 then
      lt_ (fX5_has S x1) fun x57 =>
      if x57 = 0 then
        some (0, S)
      else
        lt_ (fX5_isBlocked S x1) fun x61 =>
        if x61 = 0 then
          if x5 = 0 then
            some (1, S)
          else
            some (0, S)
        else
          if x5 = 1 then
            some (1, S)
          else
            some (0, S)
    else
      some (0, S)
  else if x9 = 7 then
    lt_ (fX3_has S x1) fun x68 =>
    if x68 = 0 then
      some (0, S)
    else
      lt_ (fX3_logSize S x1) fun x72 =>
      if x7 < x72 then
        some (0, S)
      else
        some (1, S)
  else if x9 = 8 then
    lt_ (fX0_has S x1) fun x77 =>
    if x77 = 0 then
      some (0, S)
    else
      lt_ (fget 10 (S 5) x1) fun x81 =>
      if x81 < x7 then
        some (0, S)
      else
        some (1, S)
  else if x9 = 9 then
    if x1 = 0 then
      lt_ (S 0 7) fun x86 =>
      if x7 < x86 then
        some (0, S)
      else
        some (1, S)
    else
      some (0, S)
  else 
  some (0, S)
set_option maxHeartbeats 4000000 in
set_option maxRecDepth 20000 in
theorem kX7_succeeds {l : Launch} {G : UG} {V : uV} {t : Nat} (hS : uSt G t) {S S' : (Nat → Nat → Int32)} {a2 : Int32} {r : Int32} (h : fX7_succeeds S a2 = some (r, S')) : uMi l G yX7_succeeds cX7_succeeds 6 .boolean (uR 5 119) [.ref (ga G t 0), .int a2] (va_up V t S) r (va_up V t S') := by
  refine uMi_of rfl (Nat.le_of_ble_eq_true rfl) (fun p e s m args below meth c ls X hret hl M => ?_)
  have hl : lv_has ls 6 [(0, .ref (ga G t 0)), (1, .int a2)] := hl
  have hx := X.hx
  have hb := X.hb
  unfold fX7_succeeds at h
  refine lv_iload_n hx hb dX7_succeeds_0 rfl (lv_at hl 1 rfl) ?_
  refine lv_bipush (v := 100) hx hb dX7_succeeds_1 (by decide) ?_
  refine lv_idiv hx hb dX7_succeeds_3 (by decide) ?_
  refine lv_bipush (v := 10) hx hb dX7_succeeds_4 (by decide) ?_
  refine lv_irem hx hb dX7_succeeds_6 (by decide) ?_
  obtain ⟨x1, e2, h⟩ := lt_e h
  refine u_topi e2 ?_
  refine lv_istore_n (lv' := [(2, .int x1), (0, .ref (ga G t 0)), (1, .int a2)]) hx hb dX7_succeeds_7 rfl hl (by decide) rfl (fun ls hl => ?_)
  refine lv_iload_n hx hb dX7_succeeds_8 rfl (lv_at hl 2 rfl) ?_
  refine lv_bipush (v := 10) hx hb dX7_succeeds_9 (by decide) ?_
  refine lv_idiv hx hb dX7_succeeds_11 (by decide) ?_
  refine lv_bipush (v := 10) hx hb dX7_succeeds_12 (by decide) ?_
  refine lv_irem hx hb dX7_succeeds_14 (by decide) ?_
  obtain ⟨x3, e4, h⟩ := lt_e h
  refine u_topi e4 ?_
  refine lv_istore_n (lv' := [(3, .int x3), (2, .int x1), (0, .ref (ga G t 0)), (1, .int a2)]) hx hb dX7_succeeds_15 rfl hl (by decide) rfl (fun ls hl => ?_)
  refine lv_iload_n hx hb dX7_succeeds_16 rfl (lv_at hl 3 rfl) ?_
  refine lv_bipush (v := 10) hx hb dX7_succeeds_17 (by decide) ?_
  refine lv_irem hx hb dX7_succeeds_19 (by decide) ?_
  obtain ⟨x5, e6, h⟩ := lt_e h
  refine u_topi e6 ?_
  refine lv_istore (lv' := [(4, .int x5), (3, .int x3), (2, .int x1), (0, .ref (ga G t 0)), (1, .int a2)]) hx hb dX7_succeeds_20 hl (by decide) rfl (fun ls hl => ?_)
  refine lv_iload_n hx hb dX7_succeeds_22 rfl (lv_at hl 4 rfl) ?_
  refine lv_bipush (v := 100) hx hb dX7_succeeds_23 (by decide) ?_
  refine lv_irem hx hb dX7_succeeds_25 (by decide) ?_
  obtain ⟨x7, e8, h⟩ := lt_e h
  refine u_topi e8 ?_
  refine lv_istore (lv' := [(5, .int x7), (4, .int x5), (3, .int x3), (2, .int x1), (0, .ref (ga G t 0)), (1, .int a2)]) hx hb dX7_succeeds_26 hl (by decide) rfl (fun ls hl => ?_)
  refine lv_iload_n hx hb dX7_succeeds_28 rfl (lv_at hl 5 rfl) ?_
  refine lv_sipush (v := 1000) hx hb dX7_succeeds_29 (by decide) ?_
  refine lv_idiv hx hb dX7_succeeds_32 (by decide) ?_
  obtain ⟨x9, e10, h⟩ := lt_e h
  refine u_topi e10 ?_
  by_cases c11 : x9 = 1
  · have h := it_t h c11
    refine lv_tableIn (off := 51) (tgt := 84) hx hb dX7_succeeds_33 (by rw [c11]; decide) (by rw [c11]; decide) (by rw [c11]; rfl) (by decide) ?_
    refine lv_iload hx hb dX7_succeeds_84 (lv_at hl 1 rfl) ?_
    refine lv_if_ne (tgt := 105) hx hb dX7_succeeds_86 (by decide) (fun c12 => ?_) (fun c12 => ?_)
    · have h := it_f h c12
      refine lv_iconst (v := 0) hx hb dX7_succeeds_105 (by decide) ?_
      exact u_iret X hret M (rt2 h).1 (congrArg (va_up V t) ((rt2 h).2)) rfl dX7_succeeds_106
    · have h := it_t h c12
      refine lv_aload_n hx hb dX7_succeeds_89 rfl (lv_at hl 4 rfl) ?_
      refine lv_iload_n hx hb dX7_succeeds_90 rfl (lv_at hl 3 rfl) ?_
      refine lv_iload_n hx hb dX7_succeeds_91 rfl (lv_at hl 2 rfl) ?_
      obtain ⟨x14, S15, e13, h⟩ := bd2_e h
      refine u_cVi X M hl.1 (kX10_showCard hS e13) cw_X7_11 ⟨by decide, by decide⟩ (rc_X10 X M hS) rfl rfl (Nat.le_of_ble_eq_true rfl) ⟨Nat.zero_le _, Nat.zero_le _⟩ dX7_succeeds_92 (fun H locs M n16 => ?_)
      obtain ⟨x18, e17, h⟩ := lt_e h
      refine u_cSi X M hl.1 (kX10_letsThrough  e17.symm) cw_X7_17 ⟨by decide, by decide⟩ rfl rfl (Nat.le_of_ble_eq_true rfl) ⟨Nat.zero_le _, Nat.zero_le _⟩ dX7_succeeds_95 (fun H locs M n19 => ?_)
      refine lv_if_eq (tgt := 105) hx hb dX7_succeeds_98 (by decide) (fun c20 => ?_) (fun c20 => ?_)
      · have h := it_t h c20
        refine lv_iconst (v := 0) hx hb dX7_succeeds_105 (by decide) ?_
        exact u_iret X hret M (rt2 h).1 (congrArg (va_up V t) ((rt2 h).2)) rfl dX7_succeeds_106
      · have h := it_f h c20
        refine lv_iconst (v := 1) hx hb dX7_succeeds_101 (by decide) ?_
        refine lv_goto (tgt := 106) hx hb dX7_succeeds_102 (by decide) ?_
        exact u_iret X hret M (rt2 h).1 (congrArg (va_up V t) ((rt2 h).2)) rfl dX7_succeeds_106
  · have h := it_f h c11
    by_cases c21 : x9 = 2
    · have h := it_t h c21
      refine lv_tableIn (off := 74) (tgt := 107) hx hb dX7_succeeds_33 (by rw [c21]; decide) (by rw [c21]; decide) (by rw [c21]; rfl) (by decide) ?_
      refine lv_aload_n hx hb dX7_succeeds_107 rfl (lv_at hl 4 rfl) ?_
      refine lv_iload_n hx hb dX7_succeeds_108 rfl (lv_at hl 3 rfl) ?_
      refine lv_iload hx hb dX7_succeeds_109 (lv_at hl 0 rfl) ?_
      obtain ⟨x23, S24, e22, h⟩ := bd2_e h
      refine u_cVi X M hl.1 (kX10_tryPay hS e22) cw_X7_21 ⟨by decide, by decide⟩ (rc_X10 X M hS) rfl rfl (Nat.le_of_ble_eq_true rfl) ⟨Nat.zero_le _, Nat.zero_le _⟩ dX7_succeeds_111 (fun H locs M n25 => ?_)
      exact u_iret X hret M (rt2 h).1 (congrArg (va_up V t) ((rt2 h).2)) n25 dX7_succeeds_114
    · have h := it_f h c21
      by_cases c26 : x9 = 3
      · have h := it_t h c26
        refine lv_tableIn (off := 82) (tgt := 115) hx hb dX7_succeeds_33 (by rw [c26]; decide) (by rw [c26]; decide) (by rw [c26]; rfl) (by decide) ?_
        refine lv_iload_n hx hb dX7_succeeds_115 rfl (lv_at hl 2 rfl) ?_
        refine lv_if_ne (tgt := 153) hx hb dX7_succeeds_116 (by decide) (fun c27 => ?_) (fun c27 => ?_)
        · have h := it_f h c27
          refine lv_iconst (v := 0) hx hb dX7_succeeds_153 (by decide) ?_
          exact u_iret X hret M (rt2 h).1 (congrArg (va_up V t) ((rt2 h).2)) rfl dX7_succeeds_154
        · have h := it_t h c27
          refine lv_iload hx hb dX7_succeeds_119 (lv_at hl 1 rfl) ?_
          refine lv_iconst (v := 1) hx hb dX7_succeeds_121 (by decide) ?_
          refine lv_icmp_ne (tgt := 136) hx hb dX7_succeeds_122 (by decide) (fun c28 => ?_) (fun c28 => ?_)
          · have h := it_f h c28
            refine lv_iload hx hb dX7_succeeds_136 (lv_at hl 1 rfl) ?_
            refine lv_if_ne (tgt := 153) hx hb dX7_succeeds_138 (by decide) (fun c29 => ?_) (fun c29 => ?_)
            · have h := it_f h c29
              refine lv_iconst (v := 0) hx hb dX7_succeeds_153 (by decide) ?_
              exact u_iret X hret M (rt2 h).1 (congrArg (va_up V t) ((rt2 h).2)) rfl dX7_succeeds_154
            · have h := it_t h c29
              refine lv_aload_n hx hb dX7_succeeds_141 rfl (lv_at hl 4 rfl) ?_
              refine lv_iload_n hx hb dX7_succeeds_142 rfl (lv_at hl 3 rfl) ?_
              obtain ⟨x31, S32, e30, h⟩ := bd2_e h
              refine u_cVi X M hl.1 (kX10_tryDown hS e30) cw_X7_28 ⟨by decide, by decide⟩ (rc_X10 X M hS) rfl rfl (Nat.le_of_ble_eq_true rfl) ⟨Nat.zero_le _, Nat.zero_le _⟩ dX7_succeeds_143 (fun H locs M n33 => ?_)
              refine lv_if_eq (tgt := 153) hx hb dX7_succeeds_146 (by decide) (fun c34 => ?_) (fun c34 => ?_)
              · have h := it_t h c34
                refine lv_iconst (v := 0) hx hb dX7_succeeds_153 (by decide) ?_
                exact u_iret X hret M (rt2 h).1 (congrArg (va_up V t) ((rt2 h).2)) rfl dX7_succeeds_154
              · have h := it_f h c34
                refine lv_iconst (v := 1) hx hb dX7_succeeds_149 (by decide) ?_
                refine lv_goto (tgt := 154) hx hb dX7_succeeds_150 (by decide) ?_
                exact u_iret X hret M (rt2 h).1 (congrArg (va_up V t) ((rt2 h).2)) rfl dX7_succeeds_154
          · have h := it_t h c28
            refine lv_aload_n hx hb dX7_succeeds_125 rfl (lv_at hl 4 rfl) ?_
            refine lv_iload_n hx hb dX7_succeeds_126 rfl (lv_at hl 3 rfl) ?_
            obtain ⟨x36, S37, e35, h⟩ := bd2_e h
            refine u_cVi X M hl.1 (kX10_tryUp hS e35) cw_X7_25 ⟨by decide, by decide⟩ (rc_X10 X M hS) rfl rfl (Nat.le_of_ble_eq_true rfl) ⟨Nat.zero_le _, Nat.zero_le _⟩ dX7_succeeds_127 (fun H locs M n38 => ?_)
            refine lv_if_eq (tgt := 153) hx hb dX7_succeeds_130 (by decide) (fun c39 => ?_) (fun c39 => ?_)
            · have h := it_t h c39
              refine lv_iconst (v := 0) hx hb dX7_succeeds_153 (by decide) ?_
              exact u_iret X hret M (rt2 h).1 (congrArg (va_up V t) ((rt2 h).2)) rfl dX7_succeeds_154
            · have h := it_f h c39
              refine lv_goto (tgt := 149) hx hb dX7_succeeds_133 (by decide) ?_
              refine lv_iconst (v := 1) hx hb dX7_succeeds_149 (by decide) ?_
              refine lv_goto (tgt := 154) hx hb dX7_succeeds_150 (by decide) ?_
              exact u_iret X hret M (rt2 h).1 (congrArg (va_up V t) ((rt2 h).2)) rfl dX7_succeeds_154
      · have h := it_f h c26
        by_cases c40 : x9 = 4
        · have h := it_t h c40
          refine lv_tableIn (off := 122) (tgt := 155) hx hb dX7_succeeds_33 (by rw [c40]; decide) (by rw [c40]; decide) (by rw [c40]; rfl) (by decide) ?_
          refine lv_iload_n hx hb dX7_succeeds_155 rfl (lv_at hl 3 rfl) ?_
          refine lv_if_ne (tgt := 172) hx hb dX7_succeeds_156 (by decide) (fun c41 => ?_) (fun c41 => ?_)
          · have h := it_f h c41
            refine lv_iconst (v := 0) hx hb dX7_succeeds_172 (by decide) ?_
            exact u_iret X hret M (rt2 h).1 (congrArg (va_up V t) ((rt2 h).2)) rfl dX7_succeeds_173
          · have h := it_t h c41
            refine lv_aload_n hx hb dX7_succeeds_159 rfl (lv_at hl 4 rfl) ?_
            refine lv_iload hx hb dX7_succeeds_160 (lv_at hl 0 rfl) ?_
            obtain ⟨x43, S44, e42, h⟩ := bd2_e h
            refine u_cVi X M hl.1 (kX10_tryRun hS e42) cw_X7_31 ⟨by decide, by decide⟩ (rc_X10 X M hS) rfl rfl (Nat.le_of_ble_eq_true rfl) ⟨Nat.zero_le _, Nat.zero_le _⟩ dX7_succeeds_162 (fun H locs M n45 => ?_)
            refine lv_if_eq (tgt := 172) hx hb dX7_succeeds_165 (by decide) (fun c46 => ?_) (fun c46 => ?_)
            · have h := it_t h c46
              refine lv_iconst (v := 0) hx hb dX7_succeeds_172 (by decide) ?_
              exact u_iret X hret M (rt2 h).1 (congrArg (va_up V t) ((rt2 h).2)) rfl dX7_succeeds_173
            · have h := it_f h c46
              refine lv_iconst (v := 1) hx hb dX7_succeeds_168 (by decide) ?_
              refine lv_goto (tgt := 173) hx hb dX7_succeeds_169 (by decide) ?_
              exact u_iret X hret M (rt2 h).1 (congrArg (va_up V t) ((rt2 h).2)) rfl dX7_succeeds_173
        · have h := it_f h c40
          by_cases c47 : x9 = 5
          · have h := it_t h c47
            refine lv_tableIn (off := 141) (tgt := 174) hx hb dX7_succeeds_33 (by rw [c47]; decide) (by rw [c47]; decide) (by rw [c47]; rfl) (by decide) ?_
            refine lv_iload hx hb dX7_succeeds_174 (lv_at hl 0 rfl) ?_
            refine lv_if_ne (tgt := 191) hx hb dX7_succeeds_176 (by decide) (fun c48 => ?_) (fun c48 => ?_)
            · have h := it_f h c48
              refine lv_iconst (v := 0) hx hb dX7_succeeds_191 (by decide) ?_
              exact u_iret X hret M (rt2 h).1 (congrArg (va_up V t) ((rt2 h).2)) rfl dX7_succeeds_192
            · have h := it_t h c48
              refine lv_aload_n hx hb dX7_succeeds_179 rfl (lv_at hl 4 rfl) ?_
              refine lv_iload_n hx hb dX7_succeeds_180 rfl (lv_at hl 3 rfl) ?_
              obtain ⟨x50, S51, e49, h⟩ := bd2_e h
              refine u_cVi X M hl.1 (kX10_tryCopy hS e49) cw_X7_34 ⟨by decide, by decide⟩ (rc_X10 X M hS) rfl rfl (Nat.le_of_ble_eq_true rfl) ⟨Nat.zero_le _, Nat.zero_le _⟩ dX7_succeeds_181 (fun H locs M n52 => ?_)
              refine lv_if_eq (tgt := 191) hx hb dX7_succeeds_184 (by decide) (fun c53 => ?_) (fun c53 => ?_)
              · have h := it_t h c53
                refine lv_iconst (v := 0) hx hb dX7_succeeds_191 (by decide) ?_
                exact u_iret X hret M (rt2 h).1 (congrArg (va_up V t) ((rt2 h).2)) rfl dX7_succeeds_192
              · have h := it_f h c53
                refine lv_iconst (v := 1) hx hb dX7_succeeds_187 (by decide) ?_
                refine lv_goto (tgt := 192) hx hb dX7_succeeds_188 (by decide) ?_
                exact u_iret X hret M (rt2 h).1 (congrArg (va_up V t) ((rt2 h).2)) rfl dX7_succeeds_192
          · have h := it_f h c47
            by_cases c54 : x9 = 6
            · have h := it_t h c54
              refine lv_tableIn (off := 160) (tgt := 193) hx hb dX7_succeeds_33 (by rw [c54]; decide) (by rw [c54]; decide) (by rw [c54]; rfl) (by decide) ?_
              refine lv_iload_n hx hb dX7_succeeds_193 rfl (lv_at hl 2 rfl) ?_
              refine lv_if_ne (tgt := 233) hx hb dX7_succeeds_194 (by decide) (fun c55 => ?_) (fun c55 => ?_)
              · have h := it_f h c55
                refine lv_iconst (v := 0) hx hb dX7_succeeds_233 (by decide) ?_
                exact u_iret X hret M (rt2 h).1 (congrArg (va_up V t) ((rt2 h).2)) rfl dX7_succeeds_234
              · have h := it_t h c55
                refine lv_aload_n hx hb dX7_succeeds_197 rfl (lv_at hl 4 rfl) ?_
                refine gf_X7_37 X M hS dX7_succeeds_198 ?_
                refine lv_iload_n hx hb dX7_succeeds_201 rfl (lv_at hl 3 rfl) ?_
                obtain ⟨x57, e56, h⟩ := lt_e h
                refine u_cVi X M hl.1 (kX5_has hS (va_up_s V t _) e56.symm) cw_X7_41 ⟨by decide, by decide⟩ (rc_X5 X M hS) rfl rfl (Nat.le_of_ble_eq_true rfl) ⟨Nat.zero_le _, Nat.zero_le _⟩ dX7_succeeds_202 (fun H locs M n58 => ?_)
                refine lv_if_eq (tgt := 233) hx hb dX7_succeeds_205 (by decide) (fun c59 => ?_) (fun c59 => ?_)
                · have h := it_t h c59
                  refine lv_iconst (v := 0) hx hb dX7_succeeds_233 (by decide) ?_
                  exact u_iret X hret M (rt2 h).1 (congrArg (va_up V t) ((rt2 h).2)) rfl dX7_succeeds_234
                · have h := it_f h c59
                  refine lv_iload hx hb dX7_succeeds_208 (lv_at hl 1 rfl) ?_
                  refine lv_aload_n hx hb dX7_succeeds_210 rfl (lv_at hl 4 rfl) ?_
                  refine gf_X7_37 X M hS dX7_succeeds_211 ?_
                  refine lv_iload_n hx hb dX7_succeeds_214 rfl (lv_at hl 3 rfl) ?_
                  obtain ⟨x61, e60, h⟩ := lt_e h
                  refine u_cVi X M hl.1 (kX5_isBlocked hS (va_up_s V t _) e60.symm) cw_X7_46 ⟨by decide, by decide⟩ (rc_X5 X M hS) rfl rfl (Nat.le_of_ble_eq_true rfl) ⟨Nat.zero_le _, Nat.zero_le _⟩ dX7_succeeds_215 (fun H locs M n62 => ?_)
                  refine lv_if_eq (tgt := 225) hx hb dX7_succeeds_218 (by decide) (fun c63 => ?_) (fun c63 => ?_)
                  · have h := it_t h c63
                    refine lv_iconst (v := 0) hx hb dX7_succeeds_225 (by decide) ?_
                    refine lv_icmp_ne (tgt := 233) hx hb dX7_succeeds_226 (by decide) (fun c64 => ?_) (fun c64 => ?_)
                    · have h := it_f h c64
                      refine lv_iconst (v := 0) hx hb dX7_succeeds_233 (by decide) ?_
                      exact u_iret X hret M (rt2 h).1 (congrArg (va_up V t) ((rt2 h).2)) rfl dX7_succeeds_234
                    · have h := it_t h c64
                      refine lv_iconst (v := 1) hx hb dX7_succeeds_229 (by decide) ?_
                      refine lv_goto (tgt := 234) hx hb dX7_succeeds_230 (by decide) ?_
                      exact u_iret X hret M (rt2 h).1 (congrArg (va_up V t) ((rt2 h).2)) rfl dX7_succeeds_234
                  · have h := it_f h c63
                    refine lv_iconst (v := 1) hx hb dX7_succeeds_221 (by decide) ?_
                    refine lv_goto (tgt := 226) hx hb dX7_succeeds_222 (by decide) ?_
                    refine lv_icmp_ne (tgt := 233) hx hb dX7_succeeds_226 (by decide) (fun c65 => ?_) (fun c65 => ?_)
                    · have h := it_f h c65
                      refine lv_iconst (v := 0) hx hb dX7_succeeds_233 (by decide) ?_
                      exact u_iret X hret M (rt2 h).1 (congrArg (va_up V t) ((rt2 h).2)) rfl dX7_succeeds_234
                    · have h := it_t h c65
                      refine lv_iconst (v := 1) hx hb dX7_succeeds_229 (by decide) ?_
                      refine lv_goto (tgt := 234) hx hb dX7_succeeds_230 (by decide) ?_
                      exact u_iret X hret M (rt2 h).1 (congrArg (va_up V t) ((rt2 h).2)) rfl dX7_succeeds_234
            · have h := it_f h c54
              by_cases c66 : x9 = 7
              · have h := it_t h c66
                refine lv_tableIn (off := 202) (tgt := 235) hx hb dX7_succeeds_33 (by rw [c66]; decide) (by rw [c66]; decide) (by rw [c66]; rfl) (by decide) ?_
                refine lv_aload_n hx hb dX7_succeeds_235 rfl (lv_at hl 4 rfl) ?_
                refine gf_X7_49 X M hS dX7_succeeds_236 ?_
                refine lv_iload_n hx hb dX7_succeeds_239 rfl (lv_at hl 3 rfl) ?_
                obtain ⟨x68, e67, h⟩ := lt_e h
                refine u_cVi X M hl.1 (kX3_has hS (va_up_s V t _) e67.symm) cw_X7_53 ⟨by decide, by decide⟩ (rc_X3 X M hS) rfl rfl (Nat.le_of_ble_eq_true rfl) ⟨Nat.zero_le _, Nat.zero_le _⟩ dX7_succeeds_240 (fun H locs M n69 => ?_)
                refine lv_if_eq (tgt := 263) hx hb dX7_succeeds_243 (by decide) (fun c70 => ?_) (fun c70 => ?_)
                · have h := it_t h c70
                  refine lv_iconst (v := 0) hx hb dX7_succeeds_263 (by decide) ?_
                  exact u_iret X hret M (rt2 h).1 (congrArg (va_up V t) ((rt2 h).2)) rfl dX7_succeeds_264
                · have h := it_f h c70
                  refine lv_aload_n hx hb dX7_succeeds_246 rfl (lv_at hl 4 rfl) ?_
                  refine gf_X7_49 X M hS dX7_succeeds_247 ?_
                  refine lv_iload_n hx hb dX7_succeeds_250 rfl (lv_at hl 3 rfl) ?_
                  obtain ⟨x72, e71, h⟩ := lt_e h
                  refine u_cVi X M hl.1 (kX3_logSize hS (va_up_s V t _) e71.symm) cw_X7_56 ⟨by decide, by decide⟩ (rc_X3 X M hS) rfl rfl (Nat.le_of_ble_eq_true rfl) ⟨Nat.zero_le _, Nat.zero_le _⟩ dX7_succeeds_251 (fun H locs M n73 => ?_)
                  refine lv_iload hx hb dX7_succeeds_254 (lv_at hl 0 rfl) ?_
                  refine lv_icmp_gt (tgt := 263) hx hb dX7_succeeds_256 (by decide) (fun c74 => ?_) (fun c74 => ?_)
                  · have h := it_t h c74
                    refine lv_iconst (v := 0) hx hb dX7_succeeds_263 (by decide) ?_
                    exact u_iret X hret M (rt2 h).1 (congrArg (va_up V t) ((rt2 h).2)) rfl dX7_succeeds_264
                  · have h := it_f h c74
                    refine lv_iconst (v := 1) hx hb dX7_succeeds_259 (by decide) ?_
                    refine lv_goto (tgt := 264) hx hb dX7_succeeds_260 (by decide) ?_
                    exact u_iret X hret M (rt2 h).1 (congrArg (va_up V t) ((rt2 h).2)) rfl dX7_succeeds_264
              · have h := it_f h c66
                by_cases c75 : x9 = 8
                · have h := it_t h c75
                  refine lv_tableIn (off := 232) (tgt := 265) hx hb dX7_succeeds_33 (by rw [c75]; decide) (by rw [c75]; decide) (by rw [c75]; rfl) (by decide) ?_
                  refine lv_aload_n hx hb dX7_succeeds_265 rfl (lv_at hl 4 rfl) ?_
                  refine gf_X7_60 X M hS dX7_succeeds_266 ?_
                  refine lv_iload_n hx hb dX7_succeeds_269 rfl (lv_at hl 3 rfl) ?_
                  obtain ⟨x77, e76, h⟩ := lt_e h
                  refine u_cVi X M hl.1 (kX0_has hS (va_up_s V t _) e76.symm) cw_X7_64 ⟨by decide, by decide⟩ (rc_X0 X M hS) rfl rfl (Nat.le_of_ble_eq_true rfl) ⟨Nat.zero_le _, Nat.zero_le _⟩ dX7_succeeds_270 (fun H locs M n78 => ?_)
                  refine lv_if_eq (tgt := 296) hx hb dX7_succeeds_273 (by decide) (fun c79 => ?_) (fun c79 => ?_)
                  · have h := it_t h c79
                    refine lv_iconst (v := 0) hx hb dX7_succeeds_296 (by decide) ?_
                    exact u_iret X hret M (rt2 h).1 (congrArg (va_up V t) ((rt2 h).2)) rfl dX7_succeeds_297
                  · have h := it_f h c79
                    refine lv_aload_n hx hb dX7_succeeds_276 rfl (lv_at hl 4 rfl) ?_
                    refine gf_X7_60 X M hS dX7_succeeds_277 ?_
                    refine gf_X7_67 X M hS dX7_succeeds_280 ?_
                    refine lv_iload_n hx hb dX7_succeeds_283 rfl (lv_at hl 3 rfl) ?_
                    obtain ⟨x81, e80, h⟩ := lt_e h
                    refine u_cVi X M hl.1 (kX6_get (uRw4 hS) (congrFun (va_up_s V t _) 5) e80.symm) cw_X7_71 ⟨by decide, by decide⟩ (uR_recv X M (uRw4 hS)) rfl rfl (Nat.le_of_ble_eq_true rfl) ⟨Nat.zero_le _, Nat.zero_le _⟩ dX7_succeeds_284 (fun H locs M n82 => ?_)
                    refine lv_iload hx hb dX7_succeeds_287 (lv_at hl 0 rfl) ?_
                    refine lv_icmp_lt (tgt := 296) hx hb dX7_succeeds_289 (by decide) (fun c83 => ?_) (fun c83 => ?_)
                    · have h := it_t h c83
                      refine lv_iconst (v := 0) hx hb dX7_succeeds_296 (by decide) ?_
                      exact u_iret X hret M (rt2 h).1 (congrArg (va_up V t) ((rt2 h).2)) rfl dX7_succeeds_297
                    · have h := it_f h c83
                      refine lv_iconst (v := 1) hx hb dX7_succeeds_292 (by decide) ?_
                      refine lv_goto (tgt := 297) hx hb dX7_succeeds_293 (by decide) ?_
                      exact u_iret X hret M (rt2 h).1 (congrArg (va_up V t) ((rt2 h).2)) rfl dX7_succeeds_297
                · have h := it_f h c75
                  by_cases c84 : x9 = 9
                  · have h := it_t h c84
                    refine lv_tableIn (off := 265) (tgt := 298) hx hb dX7_succeeds_33 (by rw [c84]; decide) (by rw [c84]; decide) (by rw [c84]; rfl) (by decide) ?_
                    refine lv_iload_n hx hb dX7_succeeds_298 rfl (lv_at hl 3 rfl) ?_
                    refine lv_if_ne (tgt := 315) hx hb dX7_succeeds_299 (by decide) (fun c85 => ?_) (fun c85 => ?_)
                    · have h := it_f h c85
                      refine lv_iconst (v := 0) hx hb dX7_succeeds_315 (by decide) ?_
                      exact u_iret X hret M (rt2 h).1 (congrArg (va_up V t) ((rt2 h).2)) rfl dX7_succeeds_316
                    · have h := it_t h c85
                      refine lv_aload_n hx hb dX7_succeeds_302 rfl (lv_at hl 4 rfl) ?_
                      obtain ⟨x86, e87, h⟩ := lt_e h
                      refine gf_X7_76 X M hS (va_up_s V t _) e87 dX7_succeeds_303 ?_
                      refine lv_iload hx hb dX7_succeeds_306 (lv_at hl 0 rfl) ?_
                      refine lv_icmp_gt (tgt := 315) hx hb dX7_succeeds_308 (by decide) (fun c88 => ?_) (fun c88 => ?_)
                      · have h := it_t h c88
                        refine lv_iconst (v := 0) hx hb dX7_succeeds_315 (by decide) ?_
                        exact u_iret X hret M (rt2 h).1 (congrArg (va_up V t) ((rt2 h).2)) rfl dX7_succeeds_316
                      · have h := it_f h c88
                        refine lv_iconst (v := 1) hx hb dX7_succeeds_311 (by decide) ?_
                        refine lv_goto (tgt := 316) hx hb dX7_succeeds_312 (by decide) ?_
                        exact u_iret X hret M (rt2 h).1 (congrArg (va_up V t) ((rt2 h).2)) rfl dX7_succeeds_316
                  · have h := it_f h c84
                    have tc11 := lv_neT (a := 1) c11 (by decide)
                    have tc21 := lv_neT (a := 2) c21 (by decide)
                    have tc26 := lv_neT (a := 3) c26 (by decide)
                    have tc40 := lv_neT (a := 4) c40 (by decide)
                    have tc47 := lv_neT (a := 5) c47 (by decide)
                    have tc54 := lv_neT (a := 6) c54 (by decide)
                    have tc66 := lv_neT (a := 7) c66 (by decide)
                    have tc75 := lv_neT (a := 8) c75 (by decide)
                    have tc84 := lv_neT (a := 9) c84 (by decide)
                    refine lv_tableOut (tgt := 317) hx hb dX7_succeeds_33 (by omega) (by decide) ?_
                    refine lv_iconst (v := 0) hx hb dX7_succeeds_317 (by decide) ?_
                    exact u_iret X hret M (rt2 h).1 (congrArg (va_up V t) ((rt2 h).2)) rfl dX7_succeeds_318
def fX8_turn (S : (Nat → Nat → Int32)) (a2 : Int32) : Option (Nat → Nat → Int32) :=
  lt_ ((a2 / 16)) fun x1 =>
  lt_ ((a2 - a2 / 16 * 16)) fun x3 =>
  if x3 = 0 then
    bd2 (fX10_tryIssue S (x1 - x1 / 40 * 40)) fun x7 S8 =>
    some S8
  else if x3 = 1 then
    bd2 (fX10_tryCopy S (x1 - x1 / 10 * 10)) fun x12 S13 =>
    some S13
  else if x3 = 2 then
    bd2 (fX10_tryDown S (x1 - x1 / 4 * 4)) fun x17 S18 =>
    some S18
  else if x3 = 3 then
    bd2 (fX10_tryUp S (x1 - x1 / 4 * 4)) fun x22 S23 =>
    some S23
  else if x3 = 4 then
    bd2 (fX10_tryPay S (x1 - x1 / 8 * 8) (1 + ((a2 / 128) - (a2 / 128) / 30 * 30))) fun x27 S28 =>
    some S28
  else if x3 = 5 then
    bd2 (fX10_tryOpen S (x1 - x1 / 4 * 4)) fun x32 S33 =>
    some S33
  else if x3 = 6 then
    bd2 (fX10_tryPardon S (x1 - x1 / 8 * 8)) fun x37 S38 =>
    some S38
  else if x3 = 7 then
    bd2 (fX10_tryRun S (1 + (x1 - x1 / 20 * 20))) fun x42 S43 =>
    some S43
  else if x3 = 8 then
    bd2 (fX10_tryRun S (1 + (x1 - x1 / 20 * 20))) fun x47 S48 =>
    some S48
  else 
  bd2 (fX10_showCard S (x1 - x1 / 10 * 10) ((a2 / 256) - (a2 / 256) / 4 * 4)) fun x51 S52 =>
  some S52
set_option maxHeartbeats 4000000 in
set_option maxRecDepth 20000 in
theorem kX8_turn {l : Launch} {G : UG} {V : uV} {t : Nat} (hS : uSt G t) {S S' : (Nat → Nat → Int32)} {a2 : Int32} (h : fX8_turn S a2 = some S') : uMv l G yX8_turn cX8_turn 3 (uR 5 119) [.ref (ga G t 0), .int a2] (va_up V t S) (va_up V t S') := by
  refine uMv_of rfl (Nat.le_of_ble_eq_true rfl) (fun p e s m args below meth c ls X hret hl M => ?_)
  have hl : lv_has ls 3 [(0, .ref (ga G t 0)), (1, .int a2)] := hl
  have hx := X.hx
  have hb := X.hb
  unfold fX8_turn at h
  refine lv_iload_n hx hb dX8_turn_0 rfl (lv_at hl 1 rfl) ?_
  refine lv_bipush (v := 16) hx hb dX8_turn_1 (by decide) ?_
  refine lv_idiv hx hb dX8_turn_3 (by decide) ?_
  obtain ⟨x1, e2, h⟩ := lt_e h
  refine u_topi e2 ?_
  refine lv_istore_n (lv' := [(2, .int x1), (0, .ref (ga G t 0)), (1, .int a2)]) hx hb dX8_turn_4 rfl hl (by decide) rfl (fun ls hl => ?_)
  refine lv_iload_n hx hb dX8_turn_5 rfl (lv_at hl 2 rfl) ?_
  refine lv_bipush (v := 16) hx hb dX8_turn_6 (by decide) ?_
  refine lv_irem hx hb dX8_turn_8 (by decide) ?_
  obtain ⟨x3, e4, h⟩ := lt_e h
  refine u_topi e4 ?_
  by_cases c5 : x3 = 0
  · have h := it_t h c5
    refine lv_tableIn (off := 51) (tgt := 60) hx hb dX8_turn_9 (by rw [c5]; decide) (by rw [c5]; decide) (by rw [c5]; rfl) (by decide) ?_
    refine lv_aload_n hx hb dX8_turn_60 rfl (lv_at hl 1 rfl) ?_
    refine lv_iload_n hx hb dX8_turn_61 rfl (lv_at hl 0 rfl) ?_
    refine lv_bipush (v := 40) hx hb dX8_turn_62 (by decide) ?_
    refine lv_irem hx hb dX8_turn_64 (by decide) ?_
    obtain ⟨x7, S8, e6, h⟩ := bd2_e h
    refine u_cVi X M hl.1 (kX10_tryIssue hS e6) cw_X8_7 ⟨by decide, by decide⟩ (rc_X10 X M hS) rfl rfl (Nat.le_of_ble_eq_true rfl) ⟨Nat.zero_le _, Nat.zero_le _⟩ dX8_turn_65 (fun H locs M n9 => ?_)
    refine lv_pop hx hb dX8_turn_68 rfl ?_
    refine lv_goto (tgt := 181) hx hb dX8_turn_69 (by decide) ?_
    exact u_vret X hret M (congrArg (va_up V t) (Option.some.inj h)) dX8_turn_181
  · have h := it_f h c5
    by_cases c10 : x3 = 1
    · have h := it_t h c10
      refine lv_tableIn (off := 63) (tgt := 72) hx hb dX8_turn_9 (by rw [c10]; decide) (by rw [c10]; decide) (by rw [c10]; rfl) (by decide) ?_
      refine lv_aload_n hx hb dX8_turn_72 rfl (lv_at hl 1 rfl) ?_
      refine lv_iload_n hx hb dX8_turn_73 rfl (lv_at hl 0 rfl) ?_
      refine lv_bipush (v := 10) hx hb dX8_turn_74 (by decide) ?_
      refine lv_irem hx hb dX8_turn_76 (by decide) ?_
      obtain ⟨x12, S13, e11, h⟩ := bd2_e h
      refine u_cVi X M hl.1 (kX10_tryCopy hS e11) cw_X8_13 ⟨by decide, by decide⟩ (rc_X10 X M hS) rfl rfl (Nat.le_of_ble_eq_true rfl) ⟨Nat.zero_le _, Nat.zero_le _⟩ dX8_turn_77 (fun H locs M n14 => ?_)
      refine lv_pop hx hb dX8_turn_80 rfl ?_
      refine lv_goto (tgt := 181) hx hb dX8_turn_81 (by decide) ?_
      exact u_vret X hret M (congrArg (va_up V t) (Option.some.inj h)) dX8_turn_181
    · have h := it_f h c10
      by_cases c15 : x3 = 2
      · have h := it_t h c15
        refine lv_tableIn (off := 75) (tgt := 84) hx hb dX8_turn_9 (by rw [c15]; decide) (by rw [c15]; decide) (by rw [c15]; rfl) (by decide) ?_
        refine lv_aload_n hx hb dX8_turn_84 rfl (lv_at hl 1 rfl) ?_
        refine lv_iload_n hx hb dX8_turn_85 rfl (lv_at hl 0 rfl) ?_
        refine lv_iconst (v := 4) hx hb dX8_turn_86 (by decide) ?_
        refine lv_irem hx hb dX8_turn_87 (by decide) ?_
        obtain ⟨x17, S18, e16, h⟩ := bd2_e h
        refine u_cVi X M hl.1 (kX10_tryDown hS e16) cw_X8_16 ⟨by decide, by decide⟩ (rc_X10 X M hS) rfl rfl (Nat.le_of_ble_eq_true rfl) ⟨Nat.zero_le _, Nat.zero_le _⟩ dX8_turn_88 (fun H locs M n19 => ?_)
        refine lv_pop hx hb dX8_turn_91 rfl ?_
        refine lv_goto (tgt := 181) hx hb dX8_turn_92 (by decide) ?_
        exact u_vret X hret M (congrArg (va_up V t) (Option.some.inj h)) dX8_turn_181
      · have h := it_f h c15
        by_cases c20 : x3 = 3
        · have h := it_t h c20
          refine lv_tableIn (off := 86) (tgt := 95) hx hb dX8_turn_9 (by rw [c20]; decide) (by rw [c20]; decide) (by rw [c20]; rfl) (by decide) ?_
          refine lv_aload_n hx hb dX8_turn_95 rfl (lv_at hl 1 rfl) ?_
          refine lv_iload_n hx hb dX8_turn_96 rfl (lv_at hl 0 rfl) ?_
          refine lv_iconst (v := 4) hx hb dX8_turn_97 (by decide) ?_
          refine lv_irem hx hb dX8_turn_98 (by decide) ?_
          obtain ⟨x22, S23, e21, h⟩ := bd2_e h
          refine u_cVi X M hl.1 (kX10_tryUp hS e21) cw_X8_19 ⟨by decide, by decide⟩ (rc_X10 X M hS) rfl rfl (Nat.le_of_ble_eq_true rfl) ⟨Nat.zero_le _, Nat.zero_le _⟩ dX8_turn_99 (fun H locs M n24 => ?_)
          refine lv_pop hx hb dX8_turn_102 rfl ?_
          refine lv_goto (tgt := 181) hx hb dX8_turn_103 (by decide) ?_
          exact u_vret X hret M (congrArg (va_up V t) (Option.some.inj h)) dX8_turn_181
        · have h := it_f h c20
          by_cases c25 : x3 = 4
          · have h := it_t h c25
            refine lv_tableIn (off := 97) (tgt := 106) hx hb dX8_turn_9 (by rw [c25]; decide) (by rw [c25]; decide) (by rw [c25]; rfl) (by decide) ?_
            refine lv_aload_n hx hb dX8_turn_106 rfl (lv_at hl 1 rfl) ?_
            refine lv_iload_n hx hb dX8_turn_107 rfl (lv_at hl 0 rfl) ?_
            refine lv_bipush (v := 8) hx hb dX8_turn_108 (by decide) ?_
            refine lv_irem hx hb dX8_turn_110 (by decide) ?_
            refine lv_iconst (v := 1) hx hb dX8_turn_111 (by decide) ?_
            refine lv_iload_n hx hb dX8_turn_112 rfl (lv_at hl 2 rfl) ?_
            refine lv_sipush (v := 128) hx hb dX8_turn_113 (by decide) ?_
            refine lv_idiv hx hb dX8_turn_116 (by decide) ?_
            refine lv_bipush (v := 30) hx hb dX8_turn_117 (by decide) ?_
            refine lv_irem hx hb dX8_turn_119 (by decide) ?_
            refine lv_iadd hx hb dX8_turn_120 ?_
            obtain ⟨x27, S28, e26, h⟩ := bd2_e h
            refine u_cVi X M hl.1 (kX10_tryPay hS e26) cw_X8_22 ⟨by decide, by decide⟩ (rc_X10 X M hS) rfl rfl (Nat.le_of_ble_eq_true rfl) ⟨Nat.zero_le _, Nat.zero_le _⟩ dX8_turn_121 (fun H locs M n29 => ?_)
            refine lv_pop hx hb dX8_turn_124 rfl ?_
            refine lv_goto (tgt := 181) hx hb dX8_turn_125 (by decide) ?_
            exact u_vret X hret M (congrArg (va_up V t) (Option.some.inj h)) dX8_turn_181
          · have h := it_f h c25
            by_cases c30 : x3 = 5
            · have h := it_t h c30
              refine lv_tableIn (off := 119) (tgt := 128) hx hb dX8_turn_9 (by rw [c30]; decide) (by rw [c30]; decide) (by rw [c30]; rfl) (by decide) ?_
              refine lv_aload_n hx hb dX8_turn_128 rfl (lv_at hl 1 rfl) ?_
              refine lv_iload_n hx hb dX8_turn_129 rfl (lv_at hl 0 rfl) ?_
              refine lv_iconst (v := 4) hx hb dX8_turn_130 (by decide) ?_
              refine lv_irem hx hb dX8_turn_131 (by decide) ?_
              obtain ⟨x32, S33, e31, h⟩ := bd2_e h
              refine u_cVi X M hl.1 (kX10_tryOpen hS e31) cw_X8_26 ⟨by decide, by decide⟩ (rc_X10 X M hS) rfl rfl (Nat.le_of_ble_eq_true rfl) ⟨Nat.zero_le _, Nat.zero_le _⟩ dX8_turn_132 (fun H locs M n34 => ?_)
              refine lv_pop hx hb dX8_turn_135 rfl ?_
              refine lv_goto (tgt := 181) hx hb dX8_turn_136 (by decide) ?_
              exact u_vret X hret M (congrArg (va_up V t) (Option.some.inj h)) dX8_turn_181
            · have h := it_f h c30
              by_cases c35 : x3 = 6
              · have h := it_t h c35
                refine lv_tableIn (off := 130) (tgt := 139) hx hb dX8_turn_9 (by rw [c35]; decide) (by rw [c35]; decide) (by rw [c35]; rfl) (by decide) ?_
                refine lv_aload_n hx hb dX8_turn_139 rfl (lv_at hl 1 rfl) ?_
                refine lv_iload_n hx hb dX8_turn_140 rfl (lv_at hl 0 rfl) ?_
                refine lv_bipush (v := 8) hx hb dX8_turn_141 (by decide) ?_
                refine lv_irem hx hb dX8_turn_143 (by decide) ?_
                obtain ⟨x37, S38, e36, h⟩ := bd2_e h
                refine u_cVi X M hl.1 (kX10_tryPardon hS e36) cw_X8_29 ⟨by decide, by decide⟩ (rc_X10 X M hS) rfl rfl (Nat.le_of_ble_eq_true rfl) ⟨Nat.zero_le _, Nat.zero_le _⟩ dX8_turn_144 (fun H locs M n39 => ?_)
                refine lv_pop hx hb dX8_turn_147 rfl ?_
                refine lv_goto (tgt := 181) hx hb dX8_turn_148 (by decide) ?_
                exact u_vret X hret M (congrArg (va_up V t) (Option.some.inj h)) dX8_turn_181
              · have h := it_f h c35
                by_cases c40 : x3 = 7
                · have h := it_t h c40
                  refine lv_tableIn (off := 142) (tgt := 151) hx hb dX8_turn_9 (by rw [c40]; decide) (by rw [c40]; decide) (by rw [c40]; rfl) (by decide) ?_
                  refine lv_aload_n hx hb dX8_turn_151 rfl (lv_at hl 1 rfl) ?_
                  refine lv_iconst (v := 1) hx hb dX8_turn_152 (by decide) ?_
                  refine lv_iload_n hx hb dX8_turn_153 rfl (lv_at hl 0 rfl) ?_
                  refine lv_bipush (v := 20) hx hb dX8_turn_154 (by decide) ?_
                  refine lv_irem hx hb dX8_turn_156 (by decide) ?_
                  refine lv_iadd hx hb dX8_turn_157 ?_
                  obtain ⟨x42, S43, e41, h⟩ := bd2_e h
                  refine u_cVi X M hl.1 (kX10_tryRun hS e41) cw_X8_32 ⟨by decide, by decide⟩ (rc_X10 X M hS) rfl rfl (Nat.le_of_ble_eq_true rfl) ⟨Nat.zero_le _, Nat.zero_le _⟩ dX8_turn_158 (fun H locs M n44 => ?_)
                  refine lv_pop hx hb dX8_turn_161 rfl ?_
                  refine lv_goto (tgt := 181) hx hb dX8_turn_162 (by decide) ?_
                  exact u_vret X hret M (congrArg (va_up V t) (Option.some.inj h)) dX8_turn_181
                · have h := it_f h c40
                  by_cases c45 : x3 = 8
                  · have h := it_t h c45
                    refine lv_tableIn (off := 142) (tgt := 151) hx hb dX8_turn_9 (by rw [c45]; decide) (by rw [c45]; decide) (by rw [c45]; rfl) (by decide) ?_
                    refine lv_aload_n hx hb dX8_turn_151 rfl (lv_at hl 1 rfl) ?_
                    refine lv_iconst (v := 1) hx hb dX8_turn_152 (by decide) ?_
                    refine lv_iload_n hx hb dX8_turn_153 rfl (lv_at hl 0 rfl) ?_
                    refine lv_bipush (v := 20) hx hb dX8_turn_154 (by decide) ?_
                    refine lv_irem hx hb dX8_turn_156 (by decide) ?_
                    refine lv_iadd hx hb dX8_turn_157 ?_
                    obtain ⟨x47, S48, e46, h⟩ := bd2_e h
                    refine u_cVi X M hl.1 (kX10_tryRun hS e46) cw_X8_32 ⟨by decide, by decide⟩ (rc_X10 X M hS) rfl rfl (Nat.le_of_ble_eq_true rfl) ⟨Nat.zero_le _, Nat.zero_le _⟩ dX8_turn_158 (fun H locs M n49 => ?_)
                    refine lv_pop hx hb dX8_turn_161 rfl ?_
                    refine lv_goto (tgt := 181) hx hb dX8_turn_162 (by decide) ?_
                    exact u_vret X hret M (congrArg (va_up V t) (Option.some.inj h)) dX8_turn_181
                  · have h := it_f h c45
                    have tc5 := lv_neT (a := 0) c5 (by decide)
                    have tc10 := lv_neT (a := 1) c10 (by decide)
                    have tc15 := lv_neT (a := 2) c15 (by decide)
                    have tc20 := lv_neT (a := 3) c20 (by decide)
                    have tc25 := lv_neT (a := 4) c25 (by decide)
                    have tc30 := lv_neT (a := 5) c30 (by decide)
                    have tc35 := lv_neT (a := 6) c35 (by decide)
                    have tc40 := lv_neT (a := 7) c40 (by decide)
                    have tc45 := lv_neT (a := 8) c45 (by decide)
                    refine lv_tableOut (tgt := 165) hx hb dX8_turn_9 (by omega) (by decide) ?_
                    refine lv_aload_n hx hb dX8_turn_165 rfl (lv_at hl 1 rfl) ?_
                    refine lv_iload_n hx hb dX8_turn_166 rfl (lv_at hl 0 rfl) ?_
                    refine lv_bipush (v := 10) hx hb dX8_turn_167 (by decide) ?_
                    refine lv_irem hx hb dX8_turn_169 (by decide) ?_
                    refine lv_iload_n hx hb dX8_turn_170 rfl (lv_at hl 2 rfl) ?_
                    refine lv_sipush (v := 256) hx hb dX8_turn_171 (by decide) ?_
                    refine lv_idiv hx hb dX8_turn_174 (by decide) ?_
                    refine lv_iconst (v := 4) hx hb dX8_turn_175 (by decide) ?_
                    refine lv_irem hx hb dX8_turn_176 (by decide) ?_
                    obtain ⟨x51, S52, e50, h⟩ := bd2_e h
                    refine u_cVi X M hl.1 (kX10_showCard hS e50) cw_X8_35 ⟨by decide, by decide⟩ (rc_X10 X M hS) rfl rfl (Nat.le_of_ble_eq_true rfl) ⟨Nat.zero_le _, Nat.zero_le _⟩ dX8_turn_177 (fun H locs M n53 => ?_)
                    refine lv_pop hx hb dX8_turn_180 rfl ?_
                    exact u_vret X hret M (congrArg (va_up V t) (Option.some.inj h)) dX8_turn_181
