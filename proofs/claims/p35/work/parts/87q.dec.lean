theorem dL_law_154 : decode code 154 = .ok (.if_icmp .ne 7, 3) := by decide +kernel
theorem dL_law_157 : decode code 157 = .ok (.iconst 1, 1) := by decide +kernel
theorem dL_law_158 : decode code 158 = .ok (.goto 4, 3) := by decide +kernel
theorem dL_law_161 : decode code 161 = .ok (.iconst 0, 1) := by decide +kernel
theorem dL_law_162 : decode code 162 = .ok (.istore 4, 2) := by decide +kernel
theorem dL_law_164 : decode code 164 = .ok (.bipush 10, 2) := by decide +kernel
theorem dL_law_166 : decode code 166 = .ok (.aload_n 0, 1) := by decide +kernel
theorem dL_law_167 : decode code 167 = .ok (.iconst 1, 1) := by decide +kernel
theorem dL_law_168 : decode code 168 = .ok (.invokestatic 215, 3) := by decide +kernel
theorem dL_law_171 : decode code 171 = .ok (.bipush 21, 2) := by decide +kernel
theorem dL_law_173 : decode code 173 = .ok (.irem, 1) := by decide +kernel
theorem dL_law_174 : decode code 174 = .ok (.iadd, 1) := by decide +kernel
theorem dL_law_175 : decode code 175 = .ok (.istore 5, 2) := by decide +kernel
theorem dL_law_177 : decode code 177 = .ok (.iconst 0, 1) := by decide +kernel
theorem dL_law_178 : decode code 178 = .ok (.istore 6, 2) := by decide +kernel
theorem dL_law_180 : decode code 180 = .ok (.iload 6, 2) := by decide +kernel
theorem dL_law_182 : decode code 182 = .ok (.iload 5, 2) := by decide +kernel
theorem dL_law_184 : decode code 184 = .ok (.if_icmp .ge 417, 3) := by decide +kernel
theorem dL_law_187 : decode code 187 = .ok (.iload 4, 2) := by decide +kernel
theorem dL_law_189 : decode code 189 = .ok (.ifCond .eq 412, 3) := by decide +kernel
theorem dL_law_192 : decode code 192 = .ok (.aload_n 0, 1) := by decide +kernel
theorem dL_law_193 : decode code 193 = .ok (.iconst 2, 1) := by decide +kernel
theorem dL_law_194 : decode code 194 = .ok (.iload 6, 2) := by decide +kernel
theorem dL_law_196 : decode code 196 = .ok (.iadd, 1) := by decide +kernel
theorem dL_law_197 : decode code 197 = .ok (.invokestatic 215, 3) := by decide +kernel
theorem dL_law_200 : decode code 200 = .ok (.istore 7, 2) := by decide +kernel
theorem dL_law_202 : decode code 202 = .ok (.aload_n 1, 1) := by decide +kernel
theorem dL_law_203 : decode code 203 = .ok (.iload 7, 2) := by decide +kernel
theorem dL_law_205 : decode code 205 = .ok (.invokestatic 219, 3) := by decide +kernel
theorem dL_law_208 : decode code 208 = .ok (.istore 8, 2) := by decide +kernel
theorem dL_law_210 : decode code 210 = .ok (.aload_n 2, 1) := by decide +kernel
theorem dL_law_211 : decode code 211 = .ok (.iload 7, 2) := by decide +kernel
theorem dL_law_213 : decode code 213 = .ok (.ldc 222, 2) := by decide +kernel
theorem dL_law_215 : decode code 215 = .ok (.irem, 1) := by decide +kernel
theorem dL_law_216 : decode code 216 = .ok (.invokestatic 223, 3) := by decide +kernel
theorem dL_law_219 : decode code 219 = .ok (.ifCond .eq 67, 3) := by decide +kernel
theorem dL_law_222 : decode code 222 = .ok (.aload_n 2, 1) := by decide +kernel
theorem dL_law_223 : decode code 223 = .ok (.iload 7, 2) := by decide +kernel
theorem dL_law_225 : decode code 225 = .ok (.invokestatic 219, 3) := by decide +kernel
theorem dL_law_228 : decode code 228 = .ok (.iload 8, 2) := by decide +kernel
theorem dL_law_230 : decode code 230 = .ok (.if_icmp .ne 56, 3) := by decide +kernel
theorem dL_law_233 : decode code 233 = .ok (.aload_n 2, 1) := by decide +kernel
theorem dL_law_234 : decode code 234 = .ok (.iload 7, 2) := by decide +kernel
theorem dL_law_236 : decode code 236 = .ok (.sipush 1000, 3) := by decide +kernel
theorem dL_law_239 : decode code 239 = .ok (.irem, 1) := by decide +kernel
theorem dL_law_240 : decode code 240 = .ok (.invokestatic 223, 3) := by decide +kernel
theorem dL_law_243 : decode code 243 = .ok (.ifCond .eq 43, 3) := by decide +kernel
theorem dL_law_246 : decode code 246 = .ok (.aload_n 1, 1) := by decide +kernel
theorem dL_law_247 : decode code 247 = .ok (.aload_n 2, 1) := by decide +kernel
theorem dL_law_248 : decode code 248 = .ok (.iload 7, 2) := by decide +kernel
theorem dL_law_250 : decode code 250 = .ok (.sipush 5000, 3) := by decide +kernel
theorem dL_law_253 : decode code 253 = .ok (.irem, 1) := by decide +kernel
theorem dL_law_254 : decode code 254 = .ok (.invokestatic 227, 3) := by decide +kernel
theorem dL_law_257 : decode code 257 = .ok (.ifCond .eq 29, 3) := by decide +kernel
theorem dL_law_260 : decode code 260 = .ok (.aload_n 1, 1) := by decide +kernel
theorem dL_law_261 : decode code 261 = .ok (.iload 7, 2) := by decide +kernel
theorem dL_law_263 : decode code 263 = .ok (.iconst 3, 1) := by decide +kernel
theorem dL_law_264 : decode code 264 = .ok (.idiv, 1) := by decide +kernel
theorem dL_law_265 : decode code 265 = .ok (.invokestatic 231, 3) := by decide +kernel
theorem dL_law_268 : decode code 268 = .ok (.ifCond .eq 18, 3) := by decide +kernel
theorem dL_law_271 : decode code 271 = .ok (.aload_n 2, 1) := by decide +kernel
theorem dL_law_272 : decode code 272 = .ok (.iload 7, 2) := by decide +kernel
theorem dL_law_274 : decode code 274 = .ok (.iconst 5, 1) := by decide +kernel
theorem dL_law_275 : decode code 275 = .ok (.idiv, 1) := by decide +kernel
theorem dL_law_276 : decode code 276 = .ok (.invokestatic 231, 3) := by decide +kernel
theorem dL_law_279 : decode code 279 = .ok (.ifCond .eq 7, 3) := by decide +kernel
theorem dL_law_282 : decode code 282 = .ok (.iconst 1, 1) := by decide +kernel
theorem dL_law_283 : decode code 283 = .ok (.goto 4, 3) := by decide +kernel
theorem dL_law_286 : decode code 286 = .ok (.iconst 0, 1) := by decide +kernel
theorem dL_law_287 : decode code 287 = .ok (.istore 4, 2) := by decide +kernel
theorem dL_law_289 : decode code 289 = .ok (.iload 7, 2) := by decide +kernel
theorem dL_law_291 : decode code 291 = .ok (.bipush 7, 2) := by decide +kernel
theorem dL_law_293 : decode code 293 = .ok (.idiv, 1) := by decide +kernel
theorem dL_law_294 : decode code 294 = .ok (.iconst 4, 1) := by decide +kernel
theorem dL_law_295 : decode code 295 = .ok (.irem, 1) := by decide +kernel
theorem dL_law_296 : decode code 296 = .ok (.istore 9, 2) := by decide +kernel
theorem dL_law_298 : decode code 298 = .ok (.aload_n 1, 1) := by decide +kernel
theorem dL_law_299 : decode code 299 = .ok (.bipush 22, 2) := by decide +kernel
theorem dL_law_301 : decode code 301 = .ok (.iload 9, 2) := by decide +kernel
theorem dL_law_303 : decode code 303 = .ok (.iconst 1, 1) := by decide +kernel
theorem dL_law_304 : decode code 304 = .ok (.iconst 0, 1) := by decide +kernel
theorem dL_law_305 : decode code 305 = .ok (.invokestatic 194, 3) := by decide +kernel
theorem dL_law_308 : decode code 308 = .ok (.istore 10, 2) := by decide +kernel
theorem dL_law_310 : decode code 310 = .ok (.aload_n 1, 1) := by decide +kernel
theorem dL_law_311 : decode code 311 = .ok (.bipush 22, 2) := by decide +kernel
theorem dL_law_313 : decode code 313 = .ok (.iload 9, 2) := by decide +kernel
theorem dL_law_315 : decode code 315 = .ok (.iconst 2, 1) := by decide +kernel
theorem dL_law_316 : decode code 316 = .ok (.iconst 0, 1) := by decide +kernel
theorem dL_law_317 : decode code 317 = .ok (.invokestatic 194, 3) := by decide +kernel
theorem dL_law_320 : decode code 320 = .ok (.istore 11, 2) := by decide +kernel
