theorem dL_act_0 : decode cL_act 0 = .ok (.iload_n 1, 1) := by decide +kernel
theorem dL_act_1 : decode cL_act 1 = .ok (.bipush 16, 2) := by decide +kernel
theorem dL_act_3 : decode cL_act 3 = .ok (.idiv, 1) := by decide +kernel
theorem dL_act_4 : decode cL_act 4 = .ok (.istore_n 2, 1) := by decide +kernel
theorem dL_act_5 : decode cL_act 5 = .ok (.iload_n 1, 1) := by decide +kernel
theorem dL_act_6 : decode cL_act 6 = .ok (.bipush 16, 2) := by decide +kernel
theorem dL_act_8 : decode cL_act 8 = .ok (.irem, 1) := by decide +kernel
theorem dL_act_9 : decode cL_act 9 = .ok (.tableswitch 291 0 8 #[51, 64, 77, 89, 101, 123, 162, 205, 220], 51) := by decide +kernel
theorem dL_act_60 : decode cL_act 60 = .ok (.aload_n 0, 1) := by decide +kernel
theorem dL_act_61 : decode cL_act 61 = .ok (.bipush 8, 2) := by decide +kernel
theorem dL_act_63 : decode cL_act 63 = .ok (.iload_n 2, 1) := by decide +kernel
theorem dL_act_64 : decode cL_act 64 = .ok (.bipush 60, 2) := by decide +kernel
theorem dL_act_66 : decode cL_act 66 = .ok (.irem, 1) := by decide +kernel
theorem dL_act_67 : decode cL_act 67 = .ok (.iconst 0, 1) := by decide +kernel
theorem dL_act_68 : decode cL_act 68 = .ok (.iconst 0, 1) := by decide +kernel
theorem dL_act_69 : decode cL_act 69 = .ok (.invokestatic 194, 3) := by decide +kernel
theorem dL_act_72 : decode cL_act 72 = .ok (.ireturn, 1) := by decide +kernel
theorem dL_act_73 : decode cL_act 73 = .ok (.aload_n 0, 1) := by decide +kernel
theorem dL_act_74 : decode cL_act 74 = .ok (.bipush 9, 2) := by decide +kernel
theorem dL_act_76 : decode cL_act 76 = .ok (.iload_n 2, 1) := by decide +kernel
theorem dL_act_77 : decode cL_act 77 = .ok (.bipush 10, 2) := by decide +kernel
theorem dL_act_79 : decode cL_act 79 = .ok (.irem, 1) := by decide +kernel
theorem dL_act_80 : decode cL_act 80 = .ok (.iconst 0, 1) := by decide +kernel
theorem dL_act_81 : decode cL_act 81 = .ok (.iconst 0, 1) := by decide +kernel
theorem dL_act_82 : decode cL_act 82 = .ok (.invokestatic 194, 3) := by decide +kernel
theorem dL_act_85 : decode cL_act 85 = .ok (.ireturn, 1) := by decide +kernel
theorem dL_act_86 : decode cL_act 86 = .ok (.aload_n 0, 1) := by decide +kernel
theorem dL_act_87 : decode cL_act 87 = .ok (.bipush 13, 2) := by decide +kernel
theorem dL_act_89 : decode cL_act 89 = .ok (.iload_n 2, 1) := by decide +kernel
theorem dL_act_90 : decode cL_act 90 = .ok (.iconst 4, 1) := by decide +kernel
theorem dL_act_91 : decode cL_act 91 = .ok (.irem, 1) := by decide +kernel
theorem dL_act_92 : decode cL_act 92 = .ok (.iconst 0, 1) := by decide +kernel
theorem dL_act_93 : decode cL_act 93 = .ok (.iconst 0, 1) := by decide +kernel
theorem dL_act_94 : decode cL_act 94 = .ok (.invokestatic 194, 3) := by decide +kernel
theorem dL_act_97 : decode cL_act 97 = .ok (.ireturn, 1) := by decide +kernel
theorem dL_act_98 : decode cL_act 98 = .ok (.aload_n 0, 1) := by decide +kernel
theorem dL_act_99 : decode cL_act 99 = .ok (.bipush 14, 2) := by decide +kernel
theorem dL_act_101 : decode cL_act 101 = .ok (.iload_n 2, 1) := by decide +kernel
theorem dL_act_102 : decode cL_act 102 = .ok (.iconst 4, 1) := by decide +kernel
theorem dL_act_103 : decode cL_act 103 = .ok (.irem, 1) := by decide +kernel
theorem dL_act_104 : decode cL_act 104 = .ok (.iconst 0, 1) := by decide +kernel
theorem dL_act_105 : decode cL_act 105 = .ok (.iconst 0, 1) := by decide +kernel
theorem dL_act_106 : decode cL_act 106 = .ok (.invokestatic 194, 3) := by decide +kernel
theorem dL_act_109 : decode cL_act 109 = .ok (.ireturn, 1) := by decide +kernel
theorem dL_act_110 : decode cL_act 110 = .ok (.aload_n 0, 1) := by decide +kernel
theorem dL_act_111 : decode cL_act 111 = .ok (.bipush 11, 2) := by decide +kernel
theorem dL_act_113 : decode cL_act 113 = .ok (.iload_n 2, 1) := by decide +kernel
theorem dL_act_114 : decode cL_act 114 = .ok (.bipush 8, 2) := by decide +kernel
theorem dL_act_116 : decode cL_act 116 = .ok (.irem, 1) := by decide +kernel
theorem dL_act_117 : decode cL_act 117 = .ok (.iconst 1, 1) := by decide +kernel
theorem dL_act_118 : decode cL_act 118 = .ok (.iload_n 1, 1) := by decide +kernel
theorem dL_act_119 : decode cL_act 119 = .ok (.sipush 128, 3) := by decide +kernel
theorem dL_act_122 : decode cL_act 122 = .ok (.idiv, 1) := by decide +kernel
theorem dL_act_123 : decode cL_act 123 = .ok (.bipush 30, 2) := by decide +kernel
theorem dL_act_125 : decode cL_act 125 = .ok (.irem, 1) := by decide +kernel
theorem dL_act_126 : decode cL_act 126 = .ok (.iadd, 1) := by decide +kernel
theorem dL_act_127 : decode cL_act 127 = .ok (.iconst 0, 1) := by decide +kernel
theorem dL_act_128 : decode cL_act 128 = .ok (.invokestatic 194, 3) := by decide +kernel
theorem dL_act_131 : decode cL_act 131 = .ok (.ireturn, 1) := by decide +kernel
theorem dL_act_132 : decode cL_act 132 = .ok (.iload_n 2, 1) := by decide +kernel
theorem dL_act_133 : decode cL_act 133 = .ok (.iconst 3, 1) := by decide +kernel
theorem dL_act_134 : decode cL_act 134 = .ok (.irem, 1) := by decide +kernel
theorem dL_act_135 : decode cL_act 135 = .ok (.ifCond .ne 17, 3) := by decide +kernel
theorem dL_act_138 : decode cL_act 138 = .ok (.aload_n 0, 1) := by decide +kernel
theorem dL_act_139 : decode cL_act 139 = .ok (.bipush 15, 2) := by decide +kernel
theorem dL_act_141 : decode cL_act 141 = .ok (.iload_n 2, 1) := by decide +kernel
theorem dL_act_142 : decode cL_act 142 = .ok (.iconst 4, 1) := by decide +kernel
theorem dL_act_143 : decode cL_act 143 = .ok (.irem, 1) := by decide +kernel
theorem dL_act_144 : decode cL_act 144 = .ok (.iconst 0, 1) := by decide +kernel
theorem dL_act_145 : decode cL_act 145 = .ok (.iconst 0, 1) := by decide +kernel
theorem dL_act_146 : decode cL_act 146 = .ok (.invokestatic 194, 3) := by decide +kernel
theorem dL_act_149 : decode cL_act 149 = .ok (.goto 21, 3) := by decide +kernel
theorem dL_act_152 : decode cL_act 152 = .ok (.aload_n 0, 1) := by decide +kernel
theorem dL_act_153 : decode cL_act 153 = .ok (.bipush 16, 2) := by decide +kernel
theorem dL_act_155 : decode cL_act 155 = .ok (.iload_n 2, 1) := by decide +kernel
theorem dL_act_156 : decode cL_act 156 = .ok (.iconst 4, 1) := by decide +kernel
theorem dL_act_157 : decode cL_act 157 = .ok (.irem, 1) := by decide +kernel
theorem dL_act_158 : decode cL_act 158 = .ok (.iconst 1, 1) := by decide +kernel
theorem dL_act_159 : decode cL_act 159 = .ok (.iload_n 2, 1) := by decide +kernel
theorem dL_act_160 : decode cL_act 160 = .ok (.iconst 4, 1) := by decide +kernel
theorem dL_act_161 : decode cL_act 161 = .ok (.idiv, 1) := by decide +kernel
theorem dL_act_162 : decode cL_act 162 = .ok (.bipush 9, 2) := by decide +kernel
theorem dL_act_164 : decode cL_act 164 = .ok (.irem, 1) := by decide +kernel
theorem dL_act_165 : decode cL_act 165 = .ok (.iadd, 1) := by decide +kernel
theorem dL_act_166 : decode cL_act 166 = .ok (.iconst 0, 1) := by decide +kernel
theorem dL_act_167 : decode cL_act 167 = .ok (.invokestatic 194, 3) := by decide +kernel
theorem dL_act_170 : decode cL_act 170 = .ok (.ireturn, 1) := by decide +kernel
theorem dL_act_171 : decode cL_act 171 = .ok (.iload_n 2, 1) := by decide +kernel
theorem dL_act_172 : decode cL_act 172 = .ok (.iconst 2, 1) := by decide +kernel
theorem dL_act_173 : decode cL_act 173 = .ok (.irem, 1) := by decide +kernel
theorem dL_act_174 : decode cL_act 174 = .ok (.ifCond .ne 20, 3) := by decide +kernel
theorem dL_act_177 : decode cL_act 177 = .ok (.aload_n 0, 1) := by decide +kernel
theorem dL_act_178 : decode cL_act 178 = .ok (.bipush 12, 2) := by decide +kernel
theorem dL_act_180 : decode cL_act 180 = .ok (.iload_n 2, 1) := by decide +kernel
theorem dL_act_181 : decode cL_act 181 = .ok (.iconst 2, 1) := by decide +kernel
theorem dL_act_182 : decode cL_act 182 = .ok (.idiv, 1) := by decide +kernel
theorem dL_act_183 : decode cL_act 183 = .ok (.bipush 8, 2) := by decide +kernel
theorem dL_act_185 : decode cL_act 185 = .ok (.irem, 1) := by decide +kernel
theorem dL_act_186 : decode cL_act 186 = .ok (.iconst 0, 1) := by decide +kernel
theorem dL_act_187 : decode cL_act 187 = .ok (.iconst 0, 1) := by decide +kernel
theorem dL_act_188 : decode cL_act 188 = .ok (.invokestatic 194, 3) := by decide +kernel
theorem dL_act_191 : decode cL_act 191 = .ok (.goto 22, 3) := by decide +kernel
theorem dL_act_194 : decode cL_act 194 = .ok (.aload_n 0, 1) := by decide +kernel
theorem dL_act_195 : decode cL_act 195 = .ok (.bipush 18, 2) := by decide +kernel
theorem dL_act_197 : decode cL_act 197 = .ok (.iload_n 2, 1) := by decide +kernel
theorem dL_act_198 : decode cL_act 198 = .ok (.iconst 2, 1) := by decide +kernel
theorem dL_act_199 : decode cL_act 199 = .ok (.idiv, 1) := by decide +kernel
theorem dL_act_200 : decode cL_act 200 = .ok (.iconst 4, 1) := by decide +kernel
theorem dL_act_201 : decode cL_act 201 = .ok (.irem, 1) := by decide +kernel
theorem dL_act_202 : decode cL_act 202 = .ok (.iload_n 2, 1) := by decide +kernel
theorem dL_act_203 : decode cL_act 203 = .ok (.bipush 8, 2) := by decide +kernel
theorem dL_act_205 : decode cL_act 205 = .ok (.idiv, 1) := by decide +kernel
theorem dL_act_206 : decode cL_act 206 = .ok (.bipush 9, 2) := by decide +kernel
theorem dL_act_208 : decode cL_act 208 = .ok (.irem, 1) := by decide +kernel
theorem dL_act_209 : decode cL_act 209 = .ok (.iconst 0, 1) := by decide +kernel
theorem dL_act_210 : decode cL_act 210 = .ok (.invokestatic 194, 3) := by decide +kernel
theorem dL_act_213 : decode cL_act 213 = .ok (.ireturn, 1) := by decide +kernel
theorem dL_act_214 : decode cL_act 214 = .ok (.aload_n 0, 1) := by decide +kernel
theorem dL_act_215 : decode cL_act 215 = .ok (.bipush 17, 2) := by decide +kernel
theorem dL_act_217 : decode cL_act 217 = .ok (.iconst 1, 1) := by decide +kernel
theorem dL_act_218 : decode cL_act 218 = .ok (.iload_n 2, 1) := by decide +kernel
theorem dL_act_219 : decode cL_act 219 = .ok (.bipush 20, 2) := by decide +kernel
theorem dL_act_221 : decode cL_act 221 = .ok (.irem, 1) := by decide +kernel
theorem dL_act_222 : decode cL_act 222 = .ok (.iadd, 1) := by decide +kernel
theorem dL_act_223 : decode cL_act 223 = .ok (.iconst 0, 1) := by decide +kernel
theorem dL_act_224 : decode cL_act 224 = .ok (.iconst 0, 1) := by decide +kernel
theorem dL_act_225 : decode cL_act 225 = .ok (.invokestatic 194, 3) := by decide +kernel
theorem dL_act_228 : decode cL_act 228 = .ok (.ireturn, 1) := by decide +kernel
theorem dL_act_229 : decode cL_act 229 = .ok (.iload_n 2, 1) := by decide +kernel
theorem dL_act_230 : decode cL_act 230 = .ok (.iconst 3, 1) := by decide +kernel
theorem dL_act_231 : decode cL_act 231 = .ok (.irem, 1) := by decide +kernel
theorem dL_act_232 : decode cL_act 232 = .ok (.ifCond .ne 31, 3) := by decide +kernel
theorem dL_act_235 : decode cL_act 235 = .ok (.aload_n 0, 1) := by decide +kernel
theorem dL_act_236 : decode cL_act 236 = .ok (.iconst 2, 1) := by decide +kernel
theorem dL_act_237 : decode cL_act 237 = .ok (.iconst 0, 1) := by decide +kernel
theorem dL_act_238 : decode cL_act 238 = .ok (.iconst 0, 1) := by decide +kernel
theorem dL_act_239 : decode cL_act 239 = .ok (.iconst 0, 1) := by decide +kernel
theorem dL_act_240 : decode cL_act 240 = .ok (.invokestatic 194, 3) := by decide +kernel
theorem dL_act_243 : decode cL_act 243 = .ok (.iconst 2, 1) := by decide +kernel
theorem dL_act_244 : decode cL_act 244 = .ok (.if_icmp .ge 7, 3) := by decide +kernel
theorem dL_act_247 : decode cL_act 247 = .ok (.iconst (-1), 1) := by decide +kernel
theorem dL_act_248 : decode cL_act 248 = .ok (.goto 51, 3) := by decide +kernel
theorem dL_act_251 : decode cL_act 251 = .ok (.aload_n 0, 1) := by decide +kernel
theorem dL_act_252 : decode cL_act 252 = .ok (.bipush 19, 2) := by decide +kernel
theorem dL_act_254 : decode cL_act 254 = .ok (.iconst 0, 1) := by decide +kernel
theorem dL_act_255 : decode cL_act 255 = .ok (.iconst 0, 1) := by decide +kernel
theorem dL_act_256 : decode cL_act 256 = .ok (.iconst 0, 1) := by decide +kernel
theorem dL_act_257 : decode cL_act 257 = .ok (.invokestatic 194, 3) := by decide +kernel
theorem dL_act_260 : decode cL_act 260 = .ok (.goto 39, 3) := by decide +kernel
theorem dL_act_263 : decode cL_act 263 = .ok (.iload_n 2, 1) := by decide +kernel
theorem dL_act_264 : decode cL_act 264 = .ok (.iconst 3, 1) := by decide +kernel
theorem dL_act_265 : decode cL_act 265 = .ok (.irem, 1) := by decide +kernel
theorem dL_act_266 : decode cL_act 266 = .ok (.iconst 1, 1) := by decide +kernel
theorem dL_act_267 : decode cL_act 267 = .ok (.if_icmp .ne 19, 3) := by decide +kernel
theorem dL_act_270 : decode cL_act 270 = .ok (.aload_n 0, 1) := by decide +kernel
theorem dL_act_271 : decode cL_act 271 = .ok (.bipush 24, 2) := by decide +kernel
theorem dL_act_273 : decode cL_act 273 = .ok (.iload_n 2, 1) := by decide +kernel
theorem dL_act_274 : decode cL_act 274 = .ok (.iconst 3, 1) := by decide +kernel
theorem dL_act_275 : decode cL_act 275 = .ok (.idiv, 1) := by decide +kernel
theorem dL_act_276 : decode cL_act 276 = .ok (.iconst 2, 1) := by decide +kernel
theorem dL_act_277 : decode cL_act 277 = .ok (.irem, 1) := by decide +kernel
theorem dL_act_278 : decode cL_act 278 = .ok (.iconst 0, 1) := by decide +kernel
theorem dL_act_279 : decode cL_act 279 = .ok (.iconst 0, 1) := by decide +kernel
theorem dL_act_280 : decode cL_act 280 = .ok (.invokestatic 194, 3) := by decide +kernel
theorem dL_act_283 : decode cL_act 283 = .ok (.goto 16, 3) := by decide +kernel
theorem dL_act_286 : decode cL_act 286 = .ok (.aload_n 0, 1) := by decide +kernel
theorem dL_act_287 : decode cL_act 287 = .ok (.bipush 25, 2) := by decide +kernel
theorem dL_act_289 : decode cL_act 289 = .ok (.iload_n 2, 1) := by decide +kernel
theorem dL_act_290 : decode cL_act 290 = .ok (.iconst 3, 1) := by decide +kernel
theorem dL_act_291 : decode cL_act 291 = .ok (.idiv, 1) := by decide +kernel
theorem dL_act_292 : decode cL_act 292 = .ok (.iconst 2, 1) := by decide +kernel
theorem dL_act_293 : decode cL_act 293 = .ok (.irem, 1) := by decide +kernel
theorem dL_act_294 : decode cL_act 294 = .ok (.iconst 0, 1) := by decide +kernel
theorem dL_act_295 : decode cL_act 295 = .ok (.iconst 0, 1) := by decide +kernel
theorem dL_act_296 : decode cL_act 296 = .ok (.invokestatic 194, 3) := by decide +kernel
theorem dL_act_299 : decode cL_act 299 = .ok (.ireturn, 1) := by decide +kernel
theorem dL_act_300 : decode cL_act 300 = .ok (.aload_n 0, 1) := by decide +kernel
theorem dL_act_301 : decode cL_act 301 = .ok (.bipush 10, 2) := by decide +kernel
theorem dL_act_303 : decode cL_act 303 = .ok (.iload_n 2, 1) := by decide +kernel
theorem dL_act_304 : decode cL_act 304 = .ok (.bipush 10, 2) := by decide +kernel
theorem dL_act_306 : decode cL_act 306 = .ok (.irem, 1) := by decide +kernel
theorem dL_act_307 : decode cL_act 307 = .ok (.iload_n 1, 1) := by decide +kernel
theorem dL_act_308 : decode cL_act 308 = .ok (.sipush 256, 3) := by decide +kernel
theorem dL_act_311 : decode cL_act 311 = .ok (.idiv, 1) := by decide +kernel
theorem dL_act_312 : decode cL_act 312 = .ok (.iconst 4, 1) := by decide +kernel
theorem dL_act_313 : decode cL_act 313 = .ok (.irem, 1) := by decide +kernel
theorem dL_act_314 : decode cL_act 314 = .ok (.iconst 0, 1) := by decide +kernel
theorem dL_act_315 : decode cL_act 315 = .ok (.invokestatic 194, 3) := by decide +kernel
theorem dL_act_318 : decode cL_act 318 = .ok (.ireturn, 1) := by decide +kernel
noncomputable def fL_act (M : Nat → Nat → Int32) (a1 : Int32) : Option (Int32 × (Nat → Nat → Int32)) :=
  lt_ ((a1 / 16)) fun x1 =>
  lt_ ((a1 - a1 / 16 * 16)) fun x3 =>
  if x3 = 0 then
    bd2 (rcall M 8 (x1 - x1 / 60 * 60) 0 0) fun x6 M9 =>
    some (x6, M9)
  else if x3 = 1 then
    bd2 (rcall M 9 (x1 - x1 / 10 * 10) 0 0) fun x11 M14 =>
    some (x11, M14)
  else if x3 = 2 then
    bd2 (rcall M 13 (x1 - x1 / 4 * 4) 0 0) fun x16 M19 =>
    some (x16, M19)
  else if x3 = 3 then
    bd2 (rcall M 14 (x1 - x1 / 4 * 4) 0 0) fun x21 M24 =>
    some (x21, M24)
  else if x3 = 4 then
    bd2 (rcall M 11 (x1 - x1 / 8 * 8) (1 + ((a1 / 128) - (a1 / 128) / 30 * 30)) 0) fun x26 M29 =>
    some (x26, M29)
  else if x3 = 5 then
    if (x1 - x1 / 3 * 3) = 0 then
      bd2 (rcall M 15 (x1 - x1 / 4 * 4) 0 0) fun x36 M39 =>
      some (x36, M39)
    else
      bd2 (rcall M 16 (x1 - x1 / 4 * 4) (1 + ((x1 / 4) - (x1 / 4) / 9 * 9)) 0) fun x32 M35 =>
      some (x32, M35)
  else if x3 = 6 then
    if (x1 - x1 / 2 * 2) = 0 then
      bd2 (rcall M 12 ((x1 / 2) - (x1 / 2) / 8 * 8) 0 0) fun x46 M49 =>
      some (x46, M49)
    else
      bd2 (rcall M 18 ((x1 / 2) - (x1 / 2) / 4 * 4) ((x1 / 8) - (x1 / 8) / 9 * 9) 0) fun x42 M45 =>
      some (x42, M45)
  else if x3 = 7 then
    bd2 (rcall M 17 (1 + (x1 - x1 / 20 * 20)) 0 0) fun x51 M54 =>
    some (x51, M54)
  else if x3 = 8 then
    if (x1 - x1 / 3 * 3) = 0 then
      bd (qk (rcall M 2 0 0 0) M) fun x66 =>
      if 2 ≤ x66 then
        bd2 (rcall M 19 0 0 0) fun x70 M73 =>
        some (x70, M73)
      else
        some ((-1), M)
    else
      if (x1 - x1 / 3 * 3) = 1 then
        bd2 (rcall M 24 ((x1 / 3) - (x1 / 3) / 2 * 2) 0 0) fun x62 M65 =>
        some (x62, M65)
      else
        bd2 (rcall M 25 ((x1 / 3) - (x1 / 3) / 2 * 2) 0 0) fun x58 M61 =>
        some (x58, M61)
  else 
  bd2 (rcall M 10 (x1 - x1 / 10 * 10) ((a1 / 256) - (a1 / 256) / 4 * 4) 0) fun x74 M77 =>
  some (x74, M77)
set_option maxHeartbeats 8000000 in
set_option maxRecDepth 20000 in
theorem kL_act {l : Launch} {G : UG} (hG : uAll G) (hN : uNo G) (hlt : l.stackTraces = false) {n : Nat} (hn : n ≤ 850) {M M' : Nat → Nat → Int32} {a1 : Int32} {r : Int32} (h : fL_act M a1 = some (r, M')) : uGi l G yL_act cL_act 3 .int 11 7 42 214 [.ref (ga G 18 0), .int a1] n M r (n + 1) M' := by
  have hA : ∀ q, uA G q → uA G q := fun q h => h
  refine uGi_body rfl (Nat.le_of_ble_eq_true rfl) (fun p e s m args below meth c ls X hret hl Z => ?_)
  have hx := X.hx
  have hb := X.hb
  have hl : lv_has ls 3 [(0, .ref (ga G 18 0)), (1, .int a1)] := hl
  unfold fL_act at h
  refine lv_iload_n hx hb dL_act_0 rfl (lv_at hl 1 rfl) ?_
  refine lv_bipush (v := 16) hx hb dL_act_1 (by decide) ?_
  refine lv_idiv hx hb dL_act_3 (by decide) ?_
  obtain ⟨x1, e2, h⟩ := lt_e h
  refine u_topi e2 ?_
  refine lv_istore_n (lv' := [(2, .int x1), (0, .ref (ga G 18 0)), (1, .int a1)]) hx hb dL_act_4 rfl hl (by decide) rfl (fun ls hl => ?_)
  refine lv_iload_n hx hb dL_act_5 rfl (lv_at hl 2 rfl) ?_
  refine lv_bipush (v := 16) hx hb dL_act_6 (by decide) ?_
  refine lv_irem hx hb dL_act_8 (by decide) ?_
  obtain ⟨x3, e4, h⟩ := lt_e h
  refine u_topi e4 ?_
  by_cases c5 : x3 = 0
  · have h := it_t h c5
    refine lv_tableIn (off := 51) (tgt := 60) hx hb dL_act_9 (by rw [c5]; decide) (by rw [c5]; decide) (by rw [c5]; rfl) (by decide) ?_
    refine lv_aload_n hx hb dL_act_60 rfl (lv_at hl 1 rfl) ?_
    refine lv_bipush (v := 8) hx hb dL_act_61 (by decide) ?_
    refine lv_iload_n hx hb dL_act_63 rfl (lv_at hl 0 rfl) ?_
    refine lv_bipush (v := 60) hx hb dL_act_64 (by decide) ?_
    refine lv_irem hx hb dL_act_66 (by decide) ?_
    refine lv_iconst (v := 0) hx hb dL_act_67 (by decide) ?_
    refine lv_iconst (v := 0) hx hb dL_act_68 (by decide) ?_
    obtain ⟨x6, M9, e7, h⟩ := bd2_e h
    refine o_cS X hA (stb_t _) Z hl.1 (kG_call hG hN hlt hn e7) cw_L_194 ⟨Nat.le_of_ble_eq_true rfl, Nat.le_of_ble_eq_true rfl⟩ rfl rfl (Nat.le_of_ble_eq_true rfl) ⟨Nat.le_of_ble_eq_true rfl, Nat.le_of_ble_eq_true rfl⟩ dL_act_69 (fun H locs Z n8 => ?_)
    refine W.widen (k := 7) (n := 42) (by omega) (by omega) ?_
    obtain ⟨e1, e2⟩ := rt2 h
    subst e2
    exact o_iret X hret (Z.up (by omega)) e1 rfl dL_act_72
  · have h := it_f h c5
    by_cases c10 : x3 = 1
    · have h := it_t h c10
      refine lv_tableIn (off := 64) (tgt := 73) hx hb dL_act_9 (by rw [c10]; decide) (by rw [c10]; decide) (by rw [c10]; rfl) (by decide) ?_
      refine lv_aload_n hx hb dL_act_73 rfl (lv_at hl 1 rfl) ?_
      refine lv_bipush (v := 9) hx hb dL_act_74 (by decide) ?_
      refine lv_iload_n hx hb dL_act_76 rfl (lv_at hl 0 rfl) ?_
      refine lv_bipush (v := 10) hx hb dL_act_77 (by decide) ?_
      refine lv_irem hx hb dL_act_79 (by decide) ?_
      refine lv_iconst (v := 0) hx hb dL_act_80 (by decide) ?_
      refine lv_iconst (v := 0) hx hb dL_act_81 (by decide) ?_
      obtain ⟨x11, M14, e12, h⟩ := bd2_e h
      refine o_cS X hA (stb_t _) Z hl.1 (kG_call hG hN hlt hn e12) cw_L_194 ⟨Nat.le_of_ble_eq_true rfl, Nat.le_of_ble_eq_true rfl⟩ rfl rfl (Nat.le_of_ble_eq_true rfl) ⟨Nat.le_of_ble_eq_true rfl, Nat.le_of_ble_eq_true rfl⟩ dL_act_82 (fun H locs Z n13 => ?_)
      refine W.widen (k := 7) (n := 42) (by omega) (by omega) ?_
      obtain ⟨e1, e2⟩ := rt2 h
      subst e2
      exact o_iret X hret (Z.up (by omega)) e1 rfl dL_act_85
    · have h := it_f h c10
      by_cases c15 : x3 = 2
      · have h := it_t h c15
        refine lv_tableIn (off := 77) (tgt := 86) hx hb dL_act_9 (by rw [c15]; decide) (by rw [c15]; decide) (by rw [c15]; rfl) (by decide) ?_
        refine lv_aload_n hx hb dL_act_86 rfl (lv_at hl 1 rfl) ?_
        refine lv_bipush (v := 13) hx hb dL_act_87 (by decide) ?_
        refine lv_iload_n hx hb dL_act_89 rfl (lv_at hl 0 rfl) ?_
        refine lv_iconst (v := 4) hx hb dL_act_90 (by decide) ?_
        refine lv_irem hx hb dL_act_91 (by decide) ?_
        refine lv_iconst (v := 0) hx hb dL_act_92 (by decide) ?_
        refine lv_iconst (v := 0) hx hb dL_act_93 (by decide) ?_
        obtain ⟨x16, M19, e17, h⟩ := bd2_e h
        refine o_cS X hA (stb_t _) Z hl.1 (kG_call hG hN hlt hn e17) cw_L_194 ⟨Nat.le_of_ble_eq_true rfl, Nat.le_of_ble_eq_true rfl⟩ rfl rfl (Nat.le_of_ble_eq_true rfl) ⟨Nat.le_of_ble_eq_true rfl, Nat.le_of_ble_eq_true rfl⟩ dL_act_94 (fun H locs Z n18 => ?_)
        refine W.widen (k := 7) (n := 42) (by omega) (by omega) ?_
        obtain ⟨e1, e2⟩ := rt2 h
        subst e2
        exact o_iret X hret (Z.up (by omega)) e1 rfl dL_act_97
      · have h := it_f h c15
        by_cases c20 : x3 = 3
        · have h := it_t h c20
          refine lv_tableIn (off := 89) (tgt := 98) hx hb dL_act_9 (by rw [c20]; decide) (by rw [c20]; decide) (by rw [c20]; rfl) (by decide) ?_
          refine lv_aload_n hx hb dL_act_98 rfl (lv_at hl 1 rfl) ?_
          refine lv_bipush (v := 14) hx hb dL_act_99 (by decide) ?_
          refine lv_iload_n hx hb dL_act_101 rfl (lv_at hl 0 rfl) ?_
          refine lv_iconst (v := 4) hx hb dL_act_102 (by decide) ?_
          refine lv_irem hx hb dL_act_103 (by decide) ?_
          refine lv_iconst (v := 0) hx hb dL_act_104 (by decide) ?_
          refine lv_iconst (v := 0) hx hb dL_act_105 (by decide) ?_
          obtain ⟨x21, M24, e22, h⟩ := bd2_e h
          refine o_cS X hA (stb_t _) Z hl.1 (kG_call hG hN hlt hn e22) cw_L_194 ⟨Nat.le_of_ble_eq_true rfl, Nat.le_of_ble_eq_true rfl⟩ rfl rfl (Nat.le_of_ble_eq_true rfl) ⟨Nat.le_of_ble_eq_true rfl, Nat.le_of_ble_eq_true rfl⟩ dL_act_106 (fun H locs Z n23 => ?_)
          refine W.widen (k := 7) (n := 42) (by omega) (by omega) ?_
          obtain ⟨e1, e2⟩ := rt2 h
          subst e2
          exact o_iret X hret (Z.up (by omega)) e1 rfl dL_act_109
        · have h := it_f h c20
          by_cases c25 : x3 = 4
          · have h := it_t h c25
            refine lv_tableIn (off := 101) (tgt := 110) hx hb dL_act_9 (by rw [c25]; decide) (by rw [c25]; decide) (by rw [c25]; rfl) (by decide) ?_
            refine lv_aload_n hx hb dL_act_110 rfl (lv_at hl 1 rfl) ?_
            refine lv_bipush (v := 11) hx hb dL_act_111 (by decide) ?_
            refine lv_iload_n hx hb dL_act_113 rfl (lv_at hl 0 rfl) ?_
            refine lv_bipush (v := 8) hx hb dL_act_114 (by decide) ?_
            refine lv_irem hx hb dL_act_116 (by decide) ?_
            refine lv_iconst (v := 1) hx hb dL_act_117 (by decide) ?_
            refine lv_iload_n hx hb dL_act_118 rfl (lv_at hl 2 rfl) ?_
            refine lv_sipush (v := 128) hx hb dL_act_119 (by decide) ?_
            refine lv_idiv hx hb dL_act_122 (by decide) ?_
            refine lv_bipush (v := 30) hx hb dL_act_123 (by decide) ?_
            refine lv_irem hx hb dL_act_125 (by decide) ?_
            refine lv_iadd hx hb dL_act_126 ?_
            refine lv_iconst (v := 0) hx hb dL_act_127 (by decide) ?_
            obtain ⟨x26, M29, e27, h⟩ := bd2_e h
            refine o_cS X hA (stb_t _) Z hl.1 (kG_call hG hN hlt hn e27) cw_L_194 ⟨Nat.le_of_ble_eq_true rfl, Nat.le_of_ble_eq_true rfl⟩ rfl rfl (Nat.le_of_ble_eq_true rfl) ⟨Nat.le_of_ble_eq_true rfl, Nat.le_of_ble_eq_true rfl⟩ dL_act_128 (fun H locs Z n28 => ?_)
            refine W.widen (k := 7) (n := 42) (by omega) (by omega) ?_
            obtain ⟨e1, e2⟩ := rt2 h
            subst e2
            exact o_iret X hret (Z.up (by omega)) e1 rfl dL_act_131
          · have h := it_f h c25
            by_cases c30 : x3 = 5
            · have h := it_t h c30
              refine lv_tableIn (off := 123) (tgt := 132) hx hb dL_act_9 (by rw [c30]; decide) (by rw [c30]; decide) (by rw [c30]; rfl) (by decide) ?_
              refine lv_iload_n hx hb dL_act_132 rfl (lv_at hl 0 rfl) ?_
              refine lv_iconst (v := 3) hx hb dL_act_133 (by decide) ?_
              refine lv_irem hx hb dL_act_134 (by decide) ?_
              refine lv_if_ne (tgt := 152) hx hb dL_act_135 (by decide) (fun c31 => ?_) (fun c31 => ?_)
              · have h := it_f h c31
                refine lv_aload_n hx hb dL_act_152 rfl (lv_at hl 1 rfl) ?_
                refine lv_bipush (v := 16) hx hb dL_act_153 (by decide) ?_
                refine lv_iload_n hx hb dL_act_155 rfl (lv_at hl 0 rfl) ?_
                refine lv_iconst (v := 4) hx hb dL_act_156 (by decide) ?_
                refine lv_irem hx hb dL_act_157 (by decide) ?_
                refine lv_iconst (v := 1) hx hb dL_act_158 (by decide) ?_
                refine lv_iload_n hx hb dL_act_159 rfl (lv_at hl 0 rfl) ?_
                refine lv_iconst (v := 4) hx hb dL_act_160 (by decide) ?_
                refine lv_idiv hx hb dL_act_161 (by decide) ?_
                refine lv_bipush (v := 9) hx hb dL_act_162 (by decide) ?_
                refine lv_irem hx hb dL_act_164 (by decide) ?_
                refine lv_iadd hx hb dL_act_165 ?_
                refine lv_iconst (v := 0) hx hb dL_act_166 (by decide) ?_
                obtain ⟨x32, M35, e33, h⟩ := bd2_e h
                refine o_cS X hA (stb_t _) Z hl.1 (kG_call hG hN hlt hn e33) cw_L_194 ⟨Nat.le_of_ble_eq_true rfl, Nat.le_of_ble_eq_true rfl⟩ rfl rfl (Nat.le_of_ble_eq_true rfl) ⟨Nat.le_of_ble_eq_true rfl, Nat.le_of_ble_eq_true rfl⟩ dL_act_167 (fun H locs Z n34 => ?_)
                refine W.widen (k := 7) (n := 42) (by omega) (by omega) ?_
                obtain ⟨e1, e2⟩ := rt2 h
                subst e2
                exact o_iret X hret (Z.up (by omega)) e1 rfl dL_act_170
              · have h := it_t h c31
                refine lv_aload_n hx hb dL_act_138 rfl (lv_at hl 1 rfl) ?_
                refine lv_bipush (v := 15) hx hb dL_act_139 (by decide) ?_
                refine lv_iload_n hx hb dL_act_141 rfl (lv_at hl 0 rfl) ?_
                refine lv_iconst (v := 4) hx hb dL_act_142 (by decide) ?_
                refine lv_irem hx hb dL_act_143 (by decide) ?_
                refine lv_iconst (v := 0) hx hb dL_act_144 (by decide) ?_
                refine lv_iconst (v := 0) hx hb dL_act_145 (by decide) ?_
                obtain ⟨x36, M39, e37, h⟩ := bd2_e h
                refine o_cS X hA (stb_t _) Z hl.1 (kG_call hG hN hlt hn e37) cw_L_194 ⟨Nat.le_of_ble_eq_true rfl, Nat.le_of_ble_eq_true rfl⟩ rfl rfl (Nat.le_of_ble_eq_true rfl) ⟨Nat.le_of_ble_eq_true rfl, Nat.le_of_ble_eq_true rfl⟩ dL_act_146 (fun H locs Z n38 => ?_)
                refine lv_goto (tgt := 170) hx hb dL_act_149 (by decide) ?_
                refine W.widen (k := 7) (n := 42) (by omega) (by omega) ?_
                obtain ⟨e1, e2⟩ := rt2 h
                subst e2
                exact o_iret X hret (Z.up (by omega)) e1 rfl dL_act_170
            · have h := it_f h c30
              by_cases c40 : x3 = 6
              · have h := it_t h c40
                refine lv_tableIn (off := 162) (tgt := 171) hx hb dL_act_9 (by rw [c40]; decide) (by rw [c40]; decide) (by rw [c40]; rfl) (by decide) ?_
                refine lv_iload_n hx hb dL_act_171 rfl (lv_at hl 0 rfl) ?_
                refine lv_iconst (v := 2) hx hb dL_act_172 (by decide) ?_
                refine lv_irem hx hb dL_act_173 (by decide) ?_
                refine lv_if_ne (tgt := 194) hx hb dL_act_174 (by decide) (fun c41 => ?_) (fun c41 => ?_)
                · have h := it_f h c41
                  refine lv_aload_n hx hb dL_act_194 rfl (lv_at hl 1 rfl) ?_
                  refine lv_bipush (v := 18) hx hb dL_act_195 (by decide) ?_
                  refine lv_iload_n hx hb dL_act_197 rfl (lv_at hl 0 rfl) ?_
                  refine lv_iconst (v := 2) hx hb dL_act_198 (by decide) ?_
                  refine lv_idiv hx hb dL_act_199 (by decide) ?_
                  refine lv_iconst (v := 4) hx hb dL_act_200 (by decide) ?_
                  refine lv_irem hx hb dL_act_201 (by decide) ?_
                  refine lv_iload_n hx hb dL_act_202 rfl (lv_at hl 0 rfl) ?_
                  refine lv_bipush (v := 8) hx hb dL_act_203 (by decide) ?_
                  refine lv_idiv hx hb dL_act_205 (by decide) ?_
                  refine lv_bipush (v := 9) hx hb dL_act_206 (by decide) ?_
                  refine lv_irem hx hb dL_act_208 (by decide) ?_
                  refine lv_iconst (v := 0) hx hb dL_act_209 (by decide) ?_
                  obtain ⟨x42, M45, e43, h⟩ := bd2_e h
                  refine o_cS X hA (stb_t _) Z hl.1 (kG_call hG hN hlt hn e43) cw_L_194 ⟨Nat.le_of_ble_eq_true rfl, Nat.le_of_ble_eq_true rfl⟩ rfl rfl (Nat.le_of_ble_eq_true rfl) ⟨Nat.le_of_ble_eq_true rfl, Nat.le_of_ble_eq_true rfl⟩ dL_act_210 (fun H locs Z n44 => ?_)
                  refine W.widen (k := 7) (n := 42) (by omega) (by omega) ?_
                  obtain ⟨e1, e2⟩ := rt2 h
                  subst e2
                  exact o_iret X hret (Z.up (by omega)) e1 rfl dL_act_213
                · have h := it_t h c41
                  refine lv_aload_n hx hb dL_act_177 rfl (lv_at hl 1 rfl) ?_
                  refine lv_bipush (v := 12) hx hb dL_act_178 (by decide) ?_
                  refine lv_iload_n hx hb dL_act_180 rfl (lv_at hl 0 rfl) ?_
                  refine lv_iconst (v := 2) hx hb dL_act_181 (by decide) ?_
                  refine lv_idiv hx hb dL_act_182 (by decide) ?_
                  refine lv_bipush (v := 8) hx hb dL_act_183 (by decide) ?_
                  refine lv_irem hx hb dL_act_185 (by decide) ?_
                  refine lv_iconst (v := 0) hx hb dL_act_186 (by decide) ?_
                  refine lv_iconst (v := 0) hx hb dL_act_187 (by decide) ?_
                  obtain ⟨x46, M49, e47, h⟩ := bd2_e h
                  refine o_cS X hA (stb_t _) Z hl.1 (kG_call hG hN hlt hn e47) cw_L_194 ⟨Nat.le_of_ble_eq_true rfl, Nat.le_of_ble_eq_true rfl⟩ rfl rfl (Nat.le_of_ble_eq_true rfl) ⟨Nat.le_of_ble_eq_true rfl, Nat.le_of_ble_eq_true rfl⟩ dL_act_188 (fun H locs Z n48 => ?_)
                  refine lv_goto (tgt := 213) hx hb dL_act_191 (by decide) ?_
                  refine W.widen (k := 7) (n := 42) (by omega) (by omega) ?_
                  obtain ⟨e1, e2⟩ := rt2 h
                  subst e2
                  exact o_iret X hret (Z.up (by omega)) e1 rfl dL_act_213
              · have h := it_f h c40
                by_cases c50 : x3 = 7
                · have h := it_t h c50
                  refine lv_tableIn (off := 205) (tgt := 214) hx hb dL_act_9 (by rw [c50]; decide) (by rw [c50]; decide) (by rw [c50]; rfl) (by decide) ?_
                  refine lv_aload_n hx hb dL_act_214 rfl (lv_at hl 1 rfl) ?_
                  refine lv_bipush (v := 17) hx hb dL_act_215 (by decide) ?_
                  refine lv_iconst (v := 1) hx hb dL_act_217 (by decide) ?_
                  refine lv_iload_n hx hb dL_act_218 rfl (lv_at hl 0 rfl) ?_
                  refine lv_bipush (v := 20) hx hb dL_act_219 (by decide) ?_
                  refine lv_irem hx hb dL_act_221 (by decide) ?_
                  refine lv_iadd hx hb dL_act_222 ?_
                  refine lv_iconst (v := 0) hx hb dL_act_223 (by decide) ?_
                  refine lv_iconst (v := 0) hx hb dL_act_224 (by decide) ?_
                  obtain ⟨x51, M54, e52, h⟩ := bd2_e h
                  refine o_cS X hA (stb_t _) Z hl.1 (kG_call hG hN hlt hn e52) cw_L_194 ⟨Nat.le_of_ble_eq_true rfl, Nat.le_of_ble_eq_true rfl⟩ rfl rfl (Nat.le_of_ble_eq_true rfl) ⟨Nat.le_of_ble_eq_true rfl, Nat.le_of_ble_eq_true rfl⟩ dL_act_225 (fun H locs Z n53 => ?_)
                  refine W.widen (k := 7) (n := 42) (by omega) (by omega) ?_
                  obtain ⟨e1, e2⟩ := rt2 h
                  subst e2
                  exact o_iret X hret (Z.up (by omega)) e1 rfl dL_act_228
                · have h := it_f h c50
                  by_cases c55 : x3 = 8
                  · have h := it_t h c55
                    refine lv_tableIn (off := 220) (tgt := 229) hx hb dL_act_9 (by rw [c55]; decide) (by rw [c55]; decide) (by rw [c55]; rfl) (by decide) ?_
                    refine lv_iload_n hx hb dL_act_229 rfl (lv_at hl 0 rfl) ?_
                    refine lv_iconst (v := 3) hx hb dL_act_230 (by decide) ?_
                    refine lv_irem hx hb dL_act_231 (by decide) ?_
                    refine lv_if_ne (tgt := 263) hx hb dL_act_232 (by decide) (fun c56 => ?_) (fun c56 => ?_)
                    · have h := it_f h c56
                      refine lv_iload_n hx hb dL_act_263 rfl (lv_at hl 0 rfl) ?_
                      refine lv_iconst (v := 3) hx hb dL_act_264 (by decide) ?_
                      refine lv_irem hx hb dL_act_265 (by decide) ?_
                      refine lv_iconst (v := 1) hx hb dL_act_266 (by decide) ?_
                      refine lv_icmp_ne (tgt := 286) hx hb dL_act_267 (by decide) (fun c57 => ?_) (fun c57 => ?_)
                      · have h := it_f h c57
                        refine lv_aload_n hx hb dL_act_286 rfl (lv_at hl 1 rfl) ?_
                        refine lv_bipush (v := 25) hx hb dL_act_287 (by decide) ?_
                        refine lv_iload_n hx hb dL_act_289 rfl (lv_at hl 0 rfl) ?_
                        refine lv_iconst (v := 3) hx hb dL_act_290 (by decide) ?_
                        refine lv_idiv hx hb dL_act_291 (by decide) ?_
                        refine lv_iconst (v := 2) hx hb dL_act_292 (by decide) ?_
                        refine lv_irem hx hb dL_act_293 (by decide) ?_
                        refine lv_iconst (v := 0) hx hb dL_act_294 (by decide) ?_
                        refine lv_iconst (v := 0) hx hb dL_act_295 (by decide) ?_
                        obtain ⟨x58, M61, e59, h⟩ := bd2_e h
                        refine o_cS X hA (stb_t _) Z hl.1 (kG_call hG hN hlt hn e59) cw_L_194 ⟨Nat.le_of_ble_eq_true rfl, Nat.le_of_ble_eq_true rfl⟩ rfl rfl (Nat.le_of_ble_eq_true rfl) ⟨Nat.le_of_ble_eq_true rfl, Nat.le_of_ble_eq_true rfl⟩ dL_act_296 (fun H locs Z n60 => ?_)
                        refine W.widen (k := 7) (n := 42) (by omega) (by omega) ?_
                        obtain ⟨e1, e2⟩ := rt2 h
                        subst e2
                        exact o_iret X hret (Z.up (by omega)) e1 rfl dL_act_299
                      · have h := it_t h c57
                        refine lv_aload_n hx hb dL_act_270 rfl (lv_at hl 1 rfl) ?_
                        refine lv_bipush (v := 24) hx hb dL_act_271 (by decide) ?_
                        refine lv_iload_n hx hb dL_act_273 rfl (lv_at hl 0 rfl) ?_
                        refine lv_iconst (v := 3) hx hb dL_act_274 (by decide) ?_
                        refine lv_idiv hx hb dL_act_275 (by decide) ?_
                        refine lv_iconst (v := 2) hx hb dL_act_276 (by decide) ?_
                        refine lv_irem hx hb dL_act_277 (by decide) ?_
                        refine lv_iconst (v := 0) hx hb dL_act_278 (by decide) ?_
                        refine lv_iconst (v := 0) hx hb dL_act_279 (by decide) ?_
                        obtain ⟨x62, M65, e63, h⟩ := bd2_e h
                        refine o_cS X hA (stb_t _) Z hl.1 (kG_call hG hN hlt hn e63) cw_L_194 ⟨Nat.le_of_ble_eq_true rfl, Nat.le_of_ble_eq_true rfl⟩ rfl rfl (Nat.le_of_ble_eq_true rfl) ⟨Nat.le_of_ble_eq_true rfl, Nat.le_of_ble_eq_true rfl⟩ dL_act_280 (fun H locs Z n64 => ?_)
                        refine lv_goto (tgt := 299) hx hb dL_act_283 (by decide) ?_
                        refine W.widen (k := 7) (n := 42) (by omega) (by omega) ?_
                        obtain ⟨e1, e2⟩ := rt2 h
                        subst e2
                        exact o_iret X hret (Z.up (by omega)) e1 rfl dL_act_299
                    · have h := it_t h c56
                      refine lv_aload_n hx hb dL_act_235 rfl (lv_at hl 1 rfl) ?_
                      refine lv_iconst (v := 2) hx hb dL_act_236 (by decide) ?_
                      refine lv_iconst (v := 0) hx hb dL_act_237 (by decide) ?_
                      refine lv_iconst (v := 0) hx hb dL_act_238 (by decide) ?_
                      refine lv_iconst (v := 0) hx hb dL_act_239 (by decide) ?_
                      obtain ⟨x66, e67, h⟩ := bd_e h
                      refine o_cS X hA (stb_t _) Z hl.1 (kG_callq hG hN hlt hn (qk_e e67)) cw_L_194 ⟨Nat.le_of_ble_eq_true rfl, Nat.le_of_ble_eq_true rfl⟩ rfl rfl (Nat.le_of_ble_eq_true rfl) ⟨Nat.le_of_ble_eq_true rfl, Nat.le_of_ble_eq_true rfl⟩ dL_act_240 (fun H locs Z n68 => ?_)
                      refine lv_iconst (v := 2) hx hb dL_act_243 (by decide) ?_
                      refine lv_icmp_ge (tgt := 251) hx hb dL_act_244 (by decide) (fun c69 => ?_) (fun c69 => ?_)
                      · have h := it_t h c69
                        refine lv_aload_n hx hb dL_act_251 rfl (lv_at hl 1 rfl) ?_
                        refine lv_bipush (v := 19) hx hb dL_act_252 (by decide) ?_
                        refine lv_iconst (v := 0) hx hb dL_act_254 (by decide) ?_
                        refine lv_iconst (v := 0) hx hb dL_act_255 (by decide) ?_
                        refine lv_iconst (v := 0) hx hb dL_act_256 (by decide) ?_
                        obtain ⟨x70, M73, e71, h⟩ := bd2_e h
                        refine o_cS X hA (stb_t _) Z hl.1 (kG_call hG hN hlt hn e71) cw_L_194 ⟨Nat.le_of_ble_eq_true rfl, Nat.le_of_ble_eq_true rfl⟩ rfl rfl (Nat.le_of_ble_eq_true rfl) ⟨Nat.le_of_ble_eq_true rfl, Nat.le_of_ble_eq_true rfl⟩ dL_act_257 (fun H locs Z n72 => ?_)
                        refine lv_goto (tgt := 299) hx hb dL_act_260 (by decide) ?_
                        refine W.widen (k := 7) (n := 42) (by omega) (by omega) ?_
                        obtain ⟨e1, e2⟩ := rt2 h
                        subst e2
                        exact o_iret X hret (Z.up (by omega)) e1 rfl dL_act_299
                      · have h := it_f h c69
                        refine lv_iconst (v := (-1)) hx hb dL_act_247 (by decide) ?_
                        refine lv_goto (tgt := 299) hx hb dL_act_248 (by decide) ?_
                        refine W.widen (k := 7) (n := 42) (by omega) (by omega) ?_
                        obtain ⟨e1, e2⟩ := rt2 h
                        subst e2
                        exact o_iret X hret (Z.up (by omega)) e1 rfl dL_act_299
                  · have h := it_f h c55
                    have tc5 := lv_neT (a := 0) c5 (by decide)
                    have tc10 := lv_neT (a := 1) c10 (by decide)
                    have tc15 := lv_neT (a := 2) c15 (by decide)
                    have tc20 := lv_neT (a := 3) c20 (by decide)
                    have tc25 := lv_neT (a := 4) c25 (by decide)
                    have tc30 := lv_neT (a := 5) c30 (by decide)
                    have tc40 := lv_neT (a := 6) c40 (by decide)
                    have tc50 := lv_neT (a := 7) c50 (by decide)
                    have tc55 := lv_neT (a := 8) c55 (by decide)
                    refine lv_tableOut (tgt := 300) hx hb dL_act_9 (by omega) (by decide) ?_
                    refine lv_aload_n hx hb dL_act_300 rfl (lv_at hl 1 rfl) ?_
                    refine lv_bipush (v := 10) hx hb dL_act_301 (by decide) ?_
                    refine lv_iload_n hx hb dL_act_303 rfl (lv_at hl 0 rfl) ?_
                    refine lv_bipush (v := 10) hx hb dL_act_304 (by decide) ?_
                    refine lv_irem hx hb dL_act_306 (by decide) ?_
                    refine lv_iload_n hx hb dL_act_307 rfl (lv_at hl 2 rfl) ?_
                    refine lv_sipush (v := 256) hx hb dL_act_308 (by decide) ?_
                    refine lv_idiv hx hb dL_act_311 (by decide) ?_
                    refine lv_iconst (v := 4) hx hb dL_act_312 (by decide) ?_
                    refine lv_irem hx hb dL_act_313 (by decide) ?_
                    refine lv_iconst (v := 0) hx hb dL_act_314 (by decide) ?_
                    obtain ⟨x74, M77, e75, h⟩ := bd2_e h
                    refine o_cS X hA (stb_t _) Z hl.1 (kG_call hG hN hlt hn e75) cw_L_194 ⟨Nat.le_of_ble_eq_true rfl, Nat.le_of_ble_eq_true rfl⟩ rfl rfl (Nat.le_of_ble_eq_true rfl) ⟨Nat.le_of_ble_eq_true rfl, Nat.le_of_ble_eq_true rfl⟩ dL_act_315 (fun H locs Z n76 => ?_)
                    refine W.widen (k := 7) (n := 42) (by omega) (by omega) ?_
                    obtain ⟨e1, e2⟩ := rt2 h
                    subst e2
                    exact o_iret X hret (Z.up (by omega)) e1 rfl dL_act_318
