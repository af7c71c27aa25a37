
def uCH (own : String) (index : Nat) (y : MethodName) (bytes : ByteArray) (ml : Nat) (hh : List (Nat × Nat × Nat × Nat)) (n : Nat) : Prop :=
  (Cond.methodLink own index y) ∈ gtbl ∧ (Cond.static y) ∈ gtbl ∧ (Cond.initialized y.cls) ∈ gtbl ∧ (Cond.codeWith y bytes ml (some .int) hh) ∈ gtbl ∧ (y.cls ≠ "java/lang/invoke/MethodHandle" ∧ y.cls ≠ "java/lang/invoke/VarHandle" ∧ (parseMethodDescriptor y.desc).map (fun d => d.parameters.length) = some n)
section LAWROWS
variable {p : Program} {l : Launch} {e : Env} {R : Room} {s : State} {m : MethodId} {args : Array Value} {below : List Frame} {meth : Method} {c : Code} {H : Heap} {locs : List Loc} {cells slots : Nat} {Q : State → Prop}
variable {cc : ByteArray} {pc nL : Nat} {ls : Array Slot} {rest : List Value} {own : String} {g : UG} {V V' : uV}
theorem u_lald (X : UC p s m args meth c cc nL own g) (M : UM g V s H locs) (hk : (20, 0) ∈ gk g) {x : Int64} (hx : x = (V 20 0 0).toInt64) (hdg : decode cc pc = .ok (.laload, 1))
    (kk : W p l e R s m args below meth c H locs cells slots Q (F0 m (pc + 1) ls (.long x :: rest))) : W p l e R s m args below meth c H locs cells slots Q (F0 m pc ls (.int 0 :: .ref (ga g 20 0) :: rest)) := by
  obtain ⟨j, hj, hw⟩ := uW_at (V := V) hk
  subst hx
  exact va_lald X.hx X.hb X.2.1 M.1.1 j 2 hw rfl (show vp_in (nI 0) 1 from vp_in_nI (by decide) (by decide)) hdg kk
theorem l_cSW {y : MethodName} {bytes : ByteArray} {ml index fr lo n : Nat} {hh : List (Nat × Nat × Nat × Nat)} {As st0 : List Value} {r : Int32} (X : UC p s m args meth c cc nL own g) (M : UM g V s H locs) (hl : ls.size = nL) (hM : uHi l g y bytes ml hh fr lo As V r V') (hC : uCH own index y bytes ml hh n) (hR : fr + 1 ≤ R.frames ∧ 8 + (ml + 11) + lo ≤ R.locals) (hn : As.length = n) (hst : st0 = As.reverse ++ rest) (hw : (rest.map fun v => v.category).sum ≤ 8) (hf : cells + 1 ≤ R.cells ∧ slots + 6 ≤ R.slots) (hdg : decode cc pc = .ok (.invokestatic index, 3))
    (kk : ∀ (H1 : Heap) (locs1 : List Loc), UM g V' s H1 locs1 → W p l e R s m args below meth c H1 locs1 (cells + 1) (slots + 6) Q (F0 m (pc + 3) ls (.int r :: rest))) : W p l e R s m args below meth c H locs cells slots Q (F0 m pc ls st0) := by
  obtain ⟨g1, g2, g4, g5, g7⟩ := hC
  have hcw : vx_CSW R s args own index y bytes ml (some .int) hh (.codeWith y bytes ml (some .int) hh :: gtbl) (nR fr 1 6 lo) 1 6 n := by
    refine ⟨⟨rfl, rfl, hR.1, hR.2, pay_in (big := gtbl) (fun w h => X.hts h) (gt_cons g5 gt_good (fun _ h => h)), List.mem_cons_self⟩, X.hts g5, X.hts g4, ⟨g7.1, g7.2.1⟩, fun sig h => ?_, X.hts g1, X.hts g2⟩
    have h2 := g7.2.2
    rw [h] at h2
    exact (Option.some.inj h2).symm
  refine va_calli (vx_runSW (As := As) (rest := rest) X.1 hM hcw ⟨u_blind, fun U hU hW => ⟨rfl, u_pre X M hU hW⟩⟩ rfl hn hl hst (lv_room hw) hdg hf) M.2 (fun q _ h => h) (fun q h => h) (fun r1 u t H1 locs1 ht hvm hw hB hz1 hk1 hS => ?_)
  obtain ⟨rfl, -⟩ := hw
  rw [ht] at hB
  exact kk H1 locs1 ⟨hB, hS⟩
end LAWROWS
theorem dL_law_0 : decode code 0 = .ok (.new 8, 3) := by decide +kernel
theorem dL_law_3 : decode code 3 = .ok (.dup, 1) := by decide +kernel
theorem dL_law_4 : decode code 4 = .ok (.invokespecial 105, 3) := by decide +kernel
theorem dL_law_7 : decode code 7 = .ok (.astore_n 1, 1) := by decide +kernel
theorem dL_law_8 : decode code 8 = .ok (.new 106, 3) := by decide +kernel
theorem dL_law_11 : decode code 11 = .ok (.dup, 1) := by decide +kernel
theorem dL_law_12 : decode code 12 = .ok (.invokespecial 108, 3) := by decide +kernel
theorem dL_law_15 : decode code 15 = .ok (.astore_n 2, 1) := by decide +kernel
theorem dL_law_16 : decode code 16 = .ok (.iconst 1, 1) := by decide +kernel
theorem dL_law_17 : decode code 17 = .ok (.newarray .long, 2) := by decide +kernel
theorem dL_law_19 : decode code 19 = .ok (.astore_n 3, 1) := by decide +kernel
theorem dL_law_20 : decode code 20 = .ok (.iconst 0, 1) := by decide +kernel
theorem dL_law_21 : decode code 21 = .ok (.istore 4, 2) := by decide +kernel
theorem dL_law_23 : decode code 23 = .ok (.iload 4, 2) := by decide +kernel
theorem dL_law_25 : decode code 25 = .ok (.aload_n 0, 1) := by decide +kernel
theorem dL_law_26 : decode code 26 = .ok (.arraylength, 1) := by decide +kernel
theorem dL_law_27 : decode code 27 = .ok (.iconst 4, 1) := by decide +kernel
theorem dL_law_28 : decode code 28 = .ok (.isub, 1) := by decide +kernel
theorem dL_law_29 : decode code 29 = .ok (.if_icmp .gt 1985, 3) := by decide +kernel
theorem dL_law_32 : decode code 32 = .ok (.aload_n 0, 1) := by decide +kernel
theorem dL_law_33 : decode code 33 = .ok (.iload 4, 2) := by decide +kernel
theorem dL_law_35 : decode code 35 = .ok (.iaload, 1) := by decide +kernel
theorem dL_law_36 : decode code 36 = .ok (.bipush 31, 2) := by decide +kernel
theorem dL_law_38 : decode code 38 = .ok (.iand, 1) := by decide +kernel
theorem dL_law_39 : decode code 39 = .ok (.tableswitch 1969 0 31 #[141, 197, 210, 223, 267, 323, 391, 459, 527, 607, 663, 719, 775, 843, 911, 967, 1023, 1079, 1135, 1203, 1259, 1327, 1371, 1439, 1507, 1575, 1588, 1601, 1657, 1757, 1857, 1913], 141) := by decide +kernel
theorem dL_law_180 : decode code 180 = .ok (.aload_n 1, 1) := by decide +kernel
theorem dL_law_181 : decode code 181 = .ok (.aload_n 0, 1) := by decide +kernel
theorem dL_law_182 : decode code 182 = .ok (.iload 4, 2) := by decide +kernel
theorem dL_law_184 : decode code 184 = .ok (.iconst 1, 1) := by decide +kernel
theorem dL_law_185 : decode code 185 = .ok (.iadd, 1) := by decide +kernel
theorem dL_law_186 : decode code 186 = .ok (.iaload, 1) := by decide +kernel
theorem dL_law_187 : decode code 187 = .ok (.aload_n 3, 1) := by decide +kernel
theorem dL_law_188 : decode code 188 = .ok (.invokestatic 109, 3) := by decide +kernel
theorem dL_law_191 : decode code 191 = .ok (.istore 5, 2) := by decide +kernel
theorem dL_law_193 : decode code 193 = .ok (.aload_n 2, 1) := by decide +kernel
theorem dL_law_194 : decode code 194 = .ok (.aload_n 0, 1) := by decide +kernel
theorem dL_law_195 : decode code 195 = .ok (.iload 4, 2) := by decide +kernel
theorem dL_law_197 : decode code 197 = .ok (.iconst 1, 1) := by decide +kernel
theorem dL_law_198 : decode code 198 = .ok (.iadd, 1) := by decide +kernel
theorem dL_law_199 : decode code 199 = .ok (.iaload, 1) := by decide +kernel
theorem dL_law_200 : decode code 200 = .ok (.invokevirtual 114, 3) := by decide +kernel
theorem dL_law_203 : decode code 203 = .ok (.istore 6, 2) := by decide +kernel
theorem dL_law_205 : decode code 205 = .ok (.aload_n 2, 1) := by decide +kernel
theorem dL_law_206 : decode code 206 = .ok (.invokevirtual 115, 3) := by decide +kernel
theorem dL_law_209 : decode code 209 = .ok (.iload 5, 2) := by decide +kernel
theorem dL_law_211 : decode code 211 = .ok (.if_icmp .eq 5, 3) := by decide +kernel
theorem dL_law_214 : decode code 214 = .ok (.iconst 0, 1) := by decide +kernel
theorem dL_law_215 : decode code 215 = .ok (.ireturn, 1) := by decide +kernel
theorem dL_law_216 : decode code 216 = .ok (.iload 5, 2) := by decide +kernel
theorem dL_law_218 : decode code 218 = .ok (.ifCond .ne 15, 3) := by decide +kernel
theorem dL_law_221 : decode code 221 = .ok (.aload_n 3, 1) := by decide +kernel
theorem dL_law_222 : decode code 222 = .ok (.iconst 0, 1) := by decide +kernel
theorem dL_law_223 : decode code 223 = .ok (.laload, 1) := by decide +kernel
theorem dL_law_224 : decode code 224 = .ok (.iload 6, 2) := by decide +kernel
theorem dL_law_226 : decode code 226 = .ok (.i2l, 1) := by decide +kernel
theorem dL_law_227 : decode code 227 = .ok (.lcmp, 1) := by decide +kernel
theorem dL_law_228 : decode code 228 = .ok (.ifCond .eq 5, 3) := by decide +kernel
theorem dL_law_231 : decode code 231 = .ok (.iconst 0, 1) := by decide +kernel
theorem dL_law_232 : decode code 232 = .ok (.ireturn, 1) := by decide +kernel
theorem dL_law_233 : decode code 233 = .ok (.goto 1775, 3) := by decide +kernel
theorem dL_law_236 : decode code 236 = .ok (.aload_n 1, 1) := by decide +kernel
theorem dL_law_237 : decode code 237 = .ok (.invokevirtual 118, 3) := by decide +kernel
theorem dL_law_240 : decode code 240 = .ok (.aload_n 2, 1) := by decide +kernel
theorem dL_law_241 : decode code 241 = .ok (.invokevirtual 121, 3) := by decide +kernel
theorem dL_law_244 : decode code 244 = .ok (.if_icmp .eq 1764, 3) := by decide +kernel
theorem dL_law_247 : decode code 247 = .ok (.iconst 0, 1) := by decide +kernel
theorem dL_law_248 : decode code 248 = .ok (.ireturn, 1) := by decide +kernel
theorem dL_law_249 : decode code 249 = .ok (.aload_n 1, 1) := by decide +kernel
theorem dL_law_250 : decode code 250 = .ok (.invokevirtual 122, 3) := by decide +kernel
theorem dL_law_253 : decode code 253 = .ok (.aload_n 2, 1) := by decide +kernel
theorem dL_law_254 : decode code 254 = .ok (.invokevirtual 125, 3) := by decide +kernel
theorem dL_law_257 : decode code 257 = .ok (.if_icmp .eq 1751, 3) := by decide +kernel
theorem dL_law_260 : decode code 260 = .ok (.iconst 0, 1) := by decide +kernel
theorem dL_law_261 : decode code 261 = .ok (.ireturn, 1) := by decide +kernel
theorem dL_law_262 : decode code 262 = .ok (.aload_n 1, 1) := by decide +kernel
theorem dL_law_263 : decode code 263 = .ok (.aload_n 3, 1) := by decide +kernel
theorem dL_law_264 : decode code 264 = .ok (.invokestatic 126, 3) := by decide +kernel
theorem dL_law_267 : decode code 267 = .ok (.istore 5, 2) := by decide +kernel
theorem dL_law_269 : decode code 269 = .ok (.aload_n 2, 1) := by decide +kernel
theorem dL_law_270 : decode code 270 = .ok (.invokevirtual 129, 3) := by decide +kernel
theorem dL_law_273 : decode code 273 = .ok (.istore 6, 2) := by decide +kernel
theorem dL_law_275 : decode code 275 = .ok (.aload_n 2, 1) := by decide +kernel
theorem dL_law_276 : decode code 276 = .ok (.invokevirtual 115, 3) := by decide +kernel
theorem dL_law_279 : decode code 279 = .ok (.iload 5, 2) := by decide +kernel
theorem dL_law_281 : decode code 281 = .ok (.if_icmp .eq 5, 3) := by decide +kernel
theorem dL_law_284 : decode code 284 = .ok (.iconst 0, 1) := by decide +kernel
theorem dL_law_285 : decode code 285 = .ok (.ireturn, 1) := by decide +kernel
theorem dL_law_286 : decode code 286 = .ok (.iload 5, 2) := by decide +kernel
theorem dL_law_288 : decode code 288 = .ok (.ifCond .ne 15, 3) := by decide +kernel
theorem dL_law_291 : decode code 291 = .ok (.aload_n 3, 1) := by decide +kernel
theorem dL_law_292 : decode code 292 = .ok (.iconst 0, 1) := by decide +kernel
theorem dL_law_293 : decode code 293 = .ok (.laload, 1) := by decide +kernel
theorem dL_law_294 : decode code 294 = .ok (.iload 6, 2) := by decide +kernel
theorem dL_law_296 : decode code 296 = .ok (.i2l, 1) := by decide +kernel
theorem dL_law_297 : decode code 297 = .ok (.lcmp, 1) := by decide +kernel
theorem dL_law_298 : decode code 298 = .ok (.ifCond .eq 5, 3) := by decide +kernel
theorem dL_law_301 : decode code 301 = .ok (.iconst 0, 1) := by decide +kernel
theorem dL_law_302 : decode code 302 = .ok (.ireturn, 1) := by decide +kernel
theorem dL_law_303 : decode code 303 = .ok (.goto 1705, 3) := by decide +kernel
theorem dL_law_306 : decode code 306 = .ok (.aload_n 1, 1) := by decide +kernel
theorem dL_law_307 : decode code 307 = .ok (.aload_n 0, 1) := by decide +kernel
theorem dL_law_308 : decode code 308 = .ok (.iload 4, 2) := by decide +kernel
theorem dL_law_310 : decode code 310 = .ok (.iconst 1, 1) := by decide +kernel
theorem dL_law_311 : decode code 311 = .ok (.iadd, 1) := by decide +kernel
theorem dL_law_312 : decode code 312 = .ok (.iaload, 1) := by decide +kernel
theorem dL_law_313 : decode code 313 = .ok (.aload_n 3, 1) := by decide +kernel
theorem dL_law_314 : decode code 314 = .ok (.invokestatic 130, 3) := by decide +kernel
theorem dL_law_317 : decode code 317 = .ok (.istore 5, 2) := by decide +kernel
theorem dL_law_319 : decode code 319 = .ok (.aload_n 2, 1) := by decide +kernel
theorem dL_law_320 : decode code 320 = .ok (.aload_n 0, 1) := by decide +kernel
theorem dL_law_321 : decode code 321 = .ok (.iload 4, 2) := by decide +kernel
theorem dL_law_323 : decode code 323 = .ok (.iconst 1, 1) := by decide +kernel
theorem dL_law_324 : decode code 324 = .ok (.iadd, 1) := by decide +kernel
theorem dL_law_325 : decode code 325 = .ok (.iaload, 1) := by decide +kernel
theorem dL_law_326 : decode code 326 = .ok (.invokevirtual 132, 3) := by decide +kernel
theorem dL_law_329 : decode code 329 = .ok (.istore 6, 2) := by decide +kernel
theorem dL_law_331 : decode code 331 = .ok (.aload_n 2, 1) := by decide +kernel
theorem dL_law_332 : decode code 332 = .ok (.invokevirtual 115, 3) := by decide +kernel
theorem dL_law_335 : decode code 335 = .ok (.iload 5, 2) := by decide +kernel
theorem dL_law_337 : decode code 337 = .ok (.if_icmp .eq 5, 3) := by decide +kernel
theorem dL_law_340 : decode code 340 = .ok (.iconst 0, 1) := by decide +kernel
theorem dL_law_341 : decode code 341 = .ok (.ireturn, 1) := by decide +kernel
theorem dL_law_342 : decode code 342 = .ok (.iload 5, 2) := by decide +kernel
theorem dL_law_344 : decode code 344 = .ok (.ifCond .ne 15, 3) := by decide +kernel
theorem dL_law_347 : decode code 347 = .ok (.aload_n 3, 1) := by decide +kernel
theorem dL_law_348 : decode code 348 = .ok (.iconst 0, 1) := by decide +kernel
theorem dL_law_349 : decode code 349 = .ok (.laload, 1) := by decide +kernel
theorem dL_law_350 : decode code 350 = .ok (.iload 6, 2) := by decide +kernel
theorem dL_law_352 : decode code 352 = .ok (.i2l, 1) := by decide +kernel
theorem dL_law_353 : decode code 353 = .ok (.lcmp, 1) := by decide +kernel
theorem dL_law_354 : decode code 354 = .ok (.ifCond .eq 5, 3) := by decide +kernel
theorem dL_law_357 : decode code 357 = .ok (.iconst 0, 1) := by decide +kernel
theorem dL_law_358 : decode code 358 = .ok (.ireturn, 1) := by decide +kernel
theorem dL_law_359 : decode code 359 = .ok (.goto 1649, 3) := by decide +kernel
theorem dL_law_362 : decode code 362 = .ok (.aload_n 1, 1) := by decide +kernel
theorem dL_law_363 : decode code 363 = .ok (.aload_n 0, 1) := by decide +kernel
theorem dL_law_364 : decode code 364 = .ok (.iload 4, 2) := by decide +kernel
theorem dL_law_366 : decode code 366 = .ok (.iconst 1, 1) := by decide +kernel
theorem dL_law_367 : decode code 367 = .ok (.iadd, 1) := by decide +kernel
theorem dL_law_368 : decode code 368 = .ok (.iaload, 1) := by decide +kernel
theorem dL_law_369 : decode code 369 = .ok (.aload_n 0, 1) := by decide +kernel
theorem dL_law_370 : decode code 370 = .ok (.iload 4, 2) := by decide +kernel
theorem dL_law_372 : decode code 372 = .ok (.iconst 2, 1) := by decide +kernel
theorem dL_law_373 : decode code 373 = .ok (.iadd, 1) := by decide +kernel
theorem dL_law_374 : decode code 374 = .ok (.iaload, 1) := by decide +kernel
theorem dL_law_375 : decode code 375 = .ok (.aload_n 3, 1) := by decide +kernel
theorem dL_law_376 : decode code 376 = .ok (.invokestatic 133, 3) := by decide +kernel
theorem dL_law_379 : decode code 379 = .ok (.istore 5, 2) := by decide +kernel
theorem dL_law_381 : decode code 381 = .ok (.aload_n 2, 1) := by decide +kernel
theorem dL_law_382 : decode code 382 = .ok (.aload_n 0, 1) := by decide +kernel
theorem dL_law_383 : decode code 383 = .ok (.iload 4, 2) := by decide +kernel
theorem dL_law_385 : decode code 385 = .ok (.iconst 1, 1) := by decide +kernel
theorem dL_law_386 : decode code 386 = .ok (.iadd, 1) := by decide +kernel
theorem dL_law_387 : decode code 387 = .ok (.iaload, 1) := by decide +kernel
theorem dL_law_388 : decode code 388 = .ok (.aload_n 0, 1) := by decide +kernel
theorem dL_law_389 : decode code 389 = .ok (.iload 4, 2) := by decide +kernel
theorem dL_law_391 : decode code 391 = .ok (.iconst 2, 1) := by decide +kernel
theorem dL_law_392 : decode code 392 = .ok (.iadd, 1) := by decide +kernel
theorem dL_law_393 : decode code 393 = .ok (.iaload, 1) := by decide +kernel
theorem dL_law_394 : decode code 394 = .ok (.invokevirtual 136, 3) := by decide +kernel
theorem dL_law_397 : decode code 397 = .ok (.istore 6, 2) := by decide +kernel
theorem dL_law_399 : decode code 399 = .ok (.aload_n 2, 1) := by decide +kernel
theorem dL_law_400 : decode code 400 = .ok (.invokevirtual 115, 3) := by decide +kernel
theorem dL_law_403 : decode code 403 = .ok (.iload 5, 2) := by decide +kernel
theorem dL_law_405 : decode code 405 = .ok (.if_icmp .eq 5, 3) := by decide +kernel
theorem dL_law_408 : decode code 408 = .ok (.iconst 0, 1) := by decide +kernel
theorem dL_law_409 : decode code 409 = .ok (.ireturn, 1) := by decide +kernel
theorem dL_law_410 : decode code 410 = .ok (.iload 5, 2) := by decide +kernel
theorem dL_law_412 : decode code 412 = .ok (.ifCond .ne 15, 3) := by decide +kernel
theorem dL_law_415 : decode code 415 = .ok (.aload_n 3, 1) := by decide +kernel
theorem dL_law_416 : decode code 416 = .ok (.iconst 0, 1) := by decide +kernel
theorem dL_law_417 : decode code 417 = .ok (.laload, 1) := by decide +kernel
theorem dL_law_418 : decode code 418 = .ok (.iload 6, 2) := by decide +kernel
theorem dL_law_420 : decode code 420 = .ok (.i2l, 1) := by decide +kernel
theorem dL_law_421 : decode code 421 = .ok (.lcmp, 1) := by decide +kernel
theorem dL_law_422 : decode code 422 = .ok (.ifCond .eq 5, 3) := by decide +kernel
theorem dL_law_425 : decode code 425 = .ok (.iconst 0, 1) := by decide +kernel
theorem dL_law_426 : decode code 426 = .ok (.ireturn, 1) := by decide +kernel
theorem dL_law_427 : decode code 427 = .ok (.goto 1581, 3) := by decide +kernel
theorem dL_law_430 : decode code 430 = .ok (.aload_n 1, 1) := by decide +kernel
theorem dL_law_431 : decode code 431 = .ok (.aload_n 0, 1) := by decide +kernel
theorem dL_law_432 : decode code 432 = .ok (.iload 4, 2) := by decide +kernel
theorem dL_law_434 : decode code 434 = .ok (.iconst 1, 1) := by decide +kernel
theorem dL_law_435 : decode code 435 = .ok (.iadd, 1) := by decide +kernel
theorem dL_law_436 : decode code 436 = .ok (.iaload, 1) := by decide +kernel
theorem dL_law_437 : decode code 437 = .ok (.aload_n 0, 1) := by decide +kernel
theorem dL_law_438 : decode code 438 = .ok (.iload 4, 2) := by decide +kernel
theorem dL_law_440 : decode code 440 = .ok (.iconst 2, 1) := by decide +kernel
theorem dL_law_441 : decode code 441 = .ok (.iadd, 1) := by decide +kernel
theorem dL_law_442 : decode code 442 = .ok (.iaload, 1) := by decide +kernel
theorem dL_law_443 : decode code 443 = .ok (.aload_n 3, 1) := by decide +kernel
theorem dL_law_444 : decode code 444 = .ok (.invokestatic 137, 3) := by decide +kernel
theorem dL_law_447 : decode code 447 = .ok (.istore 5, 2) := by decide +kernel
theorem dL_law_449 : decode code 449 = .ok (.aload_n 2, 1) := by decide +kernel
theorem dL_law_450 : decode code 450 = .ok (.aload_n 0, 1) := by decide +kernel
theorem dL_law_451 : decode code 451 = .ok (.iload 4, 2) := by decide +kernel
theorem dL_law_453 : decode code 453 = .ok (.iconst 1, 1) := by decide +kernel
theorem dL_law_454 : decode code 454 = .ok (.iadd, 1) := by decide +kernel
theorem dL_law_455 : decode code 455 = .ok (.iaload, 1) := by decide +kernel
theorem dL_law_456 : decode code 456 = .ok (.aload_n 0, 1) := by decide +kernel
theorem dL_law_457 : decode code 457 = .ok (.iload 4, 2) := by decide +kernel
theorem dL_law_459 : decode code 459 = .ok (.iconst 2, 1) := by decide +kernel
theorem dL_law_460 : decode code 460 = .ok (.iadd, 1) := by decide +kernel
theorem dL_law_461 : decode code 461 = .ok (.iaload, 1) := by decide +kernel
theorem dL_law_462 : decode code 462 = .ok (.invokevirtual 139, 3) := by decide +kernel
theorem dL_law_465 : decode code 465 = .ok (.istore 6, 2) := by decide +kernel
theorem dL_law_467 : decode code 467 = .ok (.aload_n 2, 1) := by decide +kernel
theorem dL_law_468 : decode code 468 = .ok (.invokevirtual 115, 3) := by decide +kernel
theorem dL_law_471 : decode code 471 = .ok (.iload 5, 2) := by decide +kernel
theorem dL_law_473 : decode code 473 = .ok (.if_icmp .eq 5, 3) := by decide +kernel
theorem dL_law_476 : decode code 476 = .ok (.iconst 0, 1) := by decide +kernel
theorem dL_law_477 : decode code 477 = .ok (.ireturn, 1) := by decide +kernel
theorem dL_law_478 : decode code 478 = .ok (.iload 5, 2) := by decide +kernel
theorem dL_law_480 : decode code 480 = .ok (.ifCond .ne 15, 3) := by decide +kernel
theorem dL_law_483 : decode code 483 = .ok (.aload_n 3, 1) := by decide +kernel
theorem dL_law_484 : decode code 484 = .ok (.iconst 0, 1) := by decide +kernel
theorem dL_law_485 : decode code 485 = .ok (.laload, 1) := by decide +kernel
theorem dL_law_486 : decode code 486 = .ok (.iload 6, 2) := by decide +kernel
theorem dL_law_488 : decode code 488 = .ok (.i2l, 1) := by decide +kernel
theorem dL_law_489 : decode code 489 = .ok (.lcmp, 1) := by decide +kernel
theorem dL_law_490 : decode code 490 = .ok (.ifCond .eq 5, 3) := by decide +kernel
theorem dL_law_493 : decode code 493 = .ok (.iconst 0, 1) := by decide +kernel
theorem dL_law_494 : decode code 494 = .ok (.ireturn, 1) := by decide +kernel
theorem dL_law_495 : decode code 495 = .ok (.goto 1513, 3) := by decide +kernel
theorem dL_law_498 : decode code 498 = .ok (.aload_n 1, 1) := by decide +kernel
theorem dL_law_499 : decode code 499 = .ok (.aload_n 0, 1) := by decide +kernel
theorem dL_law_500 : decode code 500 = .ok (.iload 4, 2) := by decide +kernel
theorem dL_law_502 : decode code 502 = .ok (.iconst 1, 1) := by decide +kernel
theorem dL_law_503 : decode code 503 = .ok (.iadd, 1) := by decide +kernel
theorem dL_law_504 : decode code 504 = .ok (.iaload, 1) := by decide +kernel
theorem dL_law_505 : decode code 505 = .ok (.aload_n 0, 1) := by decide +kernel
theorem dL_law_506 : decode code 506 = .ok (.iload 4, 2) := by decide +kernel
theorem dL_law_508 : decode code 508 = .ok (.iconst 2, 1) := by decide +kernel
theorem dL_law_509 : decode code 509 = .ok (.iadd, 1) := by decide +kernel
theorem dL_law_510 : decode code 510 = .ok (.iaload, 1) := by decide +kernel
theorem dL_law_511 : decode code 511 = .ok (.aload_n 3, 1) := by decide +kernel
theorem dL_law_512 : decode code 512 = .ok (.invokestatic 140, 3) := by decide +kernel
theorem dL_law_515 : decode code 515 = .ok (.istore 5, 2) := by decide +kernel
theorem dL_law_517 : decode code 517 = .ok (.aload_n 2, 1) := by decide +kernel
theorem dL_law_518 : decode code 518 = .ok (.aload_n 0, 1) := by decide +kernel
theorem dL_law_519 : decode code 519 = .ok (.iload 4, 2) := by decide +kernel
theorem dL_law_521 : decode code 521 = .ok (.iconst 1, 1) := by decide +kernel
theorem dL_law_522 : decode code 522 = .ok (.iadd, 1) := by decide +kernel
theorem dL_law_523 : decode code 523 = .ok (.iaload, 1) := by decide +kernel
theorem dL_law_524 : decode code 524 = .ok (.aload_n 0, 1) := by decide +kernel
theorem dL_law_525 : decode code 525 = .ok (.iload 4, 2) := by decide +kernel
theorem dL_law_527 : decode code 527 = .ok (.iconst 2, 1) := by decide +kernel
theorem dL_law_528 : decode code 528 = .ok (.iadd, 1) := by decide +kernel
theorem dL_law_529 : decode code 529 = .ok (.iaload, 1) := by decide +kernel
theorem dL_law_530 : decode code 530 = .ok (.invokevirtual 142, 3) := by decide +kernel
theorem dL_law_533 : decode code 533 = .ok (.istore 6, 2) := by decide +kernel
theorem dL_law_535 : decode code 535 = .ok (.aload_n 2, 1) := by decide +kernel
theorem dL_law_536 : decode code 536 = .ok (.invokevirtual 115, 3) := by decide +kernel
theorem dL_law_539 : decode code 539 = .ok (.iload 5, 2) := by decide +kernel
theorem dL_law_541 : decode code 541 = .ok (.if_icmp .eq 5, 3) := by decide +kernel
theorem dL_law_544 : decode code 544 = .ok (.iconst 0, 1) := by decide +kernel
theorem dL_law_545 : decode code 545 = .ok (.ireturn, 1) := by decide +kernel
theorem dL_law_546 : decode code 546 = .ok (.iload 5, 2) := by decide +kernel
theorem dL_law_548 : decode code 548 = .ok (.ifCond .ne 15, 3) := by decide +kernel
theorem dL_law_551 : decode code 551 = .ok (.aload_n 3, 1) := by decide +kernel
theorem dL_law_552 : decode code 552 = .ok (.iconst 0, 1) := by decide +kernel
theorem dL_law_553 : decode code 553 = .ok (.laload, 1) := by decide +kernel
theorem dL_law_554 : decode code 554 = .ok (.iload 6, 2) := by decide +kernel
theorem dL_law_556 : decode code 556 = .ok (.i2l, 1) := by decide +kernel
theorem dL_law_557 : decode code 557 = .ok (.lcmp, 1) := by decide +kernel
theorem dL_law_558 : decode code 558 = .ok (.ifCond .eq 5, 3) := by decide +kernel
theorem dL_law_561 : decode code 561 = .ok (.iconst 0, 1) := by decide +kernel
theorem dL_law_562 : decode code 562 = .ok (.ireturn, 1) := by decide +kernel
theorem dL_law_563 : decode code 563 = .ok (.goto 1445, 3) := by decide +kernel
theorem dL_law_566 : decode code 566 = .ok (.aload_n 1, 1) := by decide +kernel
theorem dL_law_567 : decode code 567 = .ok (.aload_n 0, 1) := by decide +kernel
theorem dL_law_568 : decode code 568 = .ok (.iload 4, 2) := by decide +kernel
theorem dL_law_570 : decode code 570 = .ok (.iconst 1, 1) := by decide +kernel
theorem dL_law_571 : decode code 571 = .ok (.iadd, 1) := by decide +kernel
theorem dL_law_572 : decode code 572 = .ok (.iaload, 1) := by decide +kernel
theorem dL_law_573 : decode code 573 = .ok (.aload_n 0, 1) := by decide +kernel
theorem dL_law_574 : decode code 574 = .ok (.iload 4, 2) := by decide +kernel
theorem dL_law_576 : decode code 576 = .ok (.iconst 2, 1) := by decide +kernel
theorem dL_law_577 : decode code 577 = .ok (.iadd, 1) := by decide +kernel
theorem dL_law_578 : decode code 578 = .ok (.iaload, 1) := by decide +kernel
theorem dL_law_579 : decode code 579 = .ok (.aload_n 0, 1) := by decide +kernel
theorem dL_law_580 : decode code 580 = .ok (.iload 4, 2) := by decide +kernel
theorem dL_law_582 : decode code 582 = .ok (.iconst 3, 1) := by decide +kernel
theorem dL_law_583 : decode code 583 = .ok (.iadd, 1) := by decide +kernel
theorem dL_law_584 : decode code 584 = .ok (.iaload, 1) := by decide +kernel
theorem dL_law_585 : decode code 585 = .ok (.aload_n 3, 1) := by decide +kernel
theorem dL_law_586 : decode code 586 = .ok (.invokestatic 143, 3) := by decide +kernel
theorem dL_law_589 : decode code 589 = .ok (.istore 5, 2) := by decide +kernel
theorem dL_law_591 : decode code 591 = .ok (.aload_n 2, 1) := by decide +kernel
theorem dL_law_592 : decode code 592 = .ok (.aload_n 0, 1) := by decide +kernel
theorem dL_law_593 : decode code 593 = .ok (.iload 4, 2) := by decide +kernel
theorem dL_law_595 : decode code 595 = .ok (.iconst 1, 1) := by decide +kernel
theorem dL_law_596 : decode code 596 = .ok (.iadd, 1) := by decide +kernel
theorem dL_law_597 : decode code 597 = .ok (.iaload, 1) := by decide +kernel
theorem dL_law_598 : decode code 598 = .ok (.aload_n 0, 1) := by decide +kernel
theorem dL_law_599 : decode code 599 = .ok (.iload 4, 2) := by decide +kernel
theorem dL_law_601 : decode code 601 = .ok (.iconst 2, 1) := by decide +kernel
theorem dL_law_602 : decode code 602 = .ok (.iadd, 1) := by decide +kernel
theorem dL_law_603 : decode code 603 = .ok (.iaload, 1) := by decide +kernel
theorem dL_law_604 : decode code 604 = .ok (.aload_n 0, 1) := by decide +kernel
theorem dL_law_605 : decode code 605 = .ok (.iload 4, 2) := by decide +kernel
theorem dL_law_607 : decode code 607 = .ok (.iconst 3, 1) := by decide +kernel
theorem dL_law_608 : decode code 608 = .ok (.iadd, 1) := by decide +kernel
theorem dL_law_609 : decode code 609 = .ok (.iaload, 1) := by decide +kernel
theorem dL_law_610 : decode code 610 = .ok (.invokevirtual 146, 3) := by decide +kernel
theorem dL_law_613 : decode code 613 = .ok (.istore 6, 2) := by decide +kernel
theorem dL_law_615 : decode code 615 = .ok (.aload_n 2, 1) := by decide +kernel
theorem dL_law_616 : decode code 616 = .ok (.invokevirtual 115, 3) := by decide +kernel
theorem dL_law_619 : decode code 619 = .ok (.iload 5, 2) := by decide +kernel
theorem dL_law_621 : decode code 621 = .ok (.if_icmp .eq 5, 3) := by decide +kernel
theorem dL_law_624 : decode code 624 = .ok (.iconst 0, 1) := by decide +kernel
theorem dL_law_625 : decode code 625 = .ok (.ireturn, 1) := by decide +kernel
theorem dL_law_626 : decode code 626 = .ok (.iload 5, 2) := by decide +kernel
theorem dL_law_628 : decode code 628 = .ok (.ifCond .ne 15, 3) := by decide +kernel
theorem dL_law_631 : decode code 631 = .ok (.aload_n 3, 1) := by decide +kernel
theorem dL_law_632 : decode code 632 = .ok (.iconst 0, 1) := by decide +kernel
theorem dL_law_633 : decode code 633 = .ok (.laload, 1) := by decide +kernel
theorem dL_law_634 : decode code 634 = .ok (.iload 6, 2) := by decide +kernel
theorem dL_law_636 : decode code 636 = .ok (.i2l, 1) := by decide +kernel
theorem dL_law_637 : decode code 637 = .ok (.lcmp, 1) := by decide +kernel
theorem dL_law_638 : decode code 638 = .ok (.ifCond .eq 5, 3) := by decide +kernel
theorem dL_law_641 : decode code 641 = .ok (.iconst 0, 1) := by decide +kernel
theorem dL_law_642 : decode code 642 = .ok (.ireturn, 1) := by decide +kernel
theorem dL_law_643 : decode code 643 = .ok (.goto 1365, 3) := by decide +kernel
theorem dL_law_646 : decode code 646 = .ok (.aload_n 1, 1) := by decide +kernel
theorem dL_law_647 : decode code 647 = .ok (.aload_n 0, 1) := by decide +kernel
theorem dL_law_648 : decode code 648 = .ok (.iload 4, 2) := by decide +kernel
theorem dL_law_650 : decode code 650 = .ok (.iconst 1, 1) := by decide +kernel
theorem dL_law_651 : decode code 651 = .ok (.iadd, 1) := by decide +kernel
theorem dL_law_652 : decode code 652 = .ok (.iaload, 1) := by decide +kernel
theorem dL_law_653 : decode code 653 = .ok (.aload_n 3, 1) := by decide +kernel
theorem dL_law_654 : decode code 654 = .ok (.invokestatic 147, 3) := by decide +kernel
theorem dL_law_657 : decode code 657 = .ok (.istore 5, 2) := by decide +kernel
theorem dL_law_659 : decode code 659 = .ok (.aload_n 2, 1) := by decide +kernel
theorem dL_law_660 : decode code 660 = .ok (.aload_n 0, 1) := by decide +kernel
theorem dL_law_661 : decode code 661 = .ok (.iload 4, 2) := by decide +kernel
theorem dL_law_663 : decode code 663 = .ok (.iconst 1, 1) := by decide +kernel
theorem dL_law_664 : decode code 664 = .ok (.iadd, 1) := by decide +kernel
theorem dL_law_665 : decode code 665 = .ok (.iaload, 1) := by decide +kernel
theorem dL_law_666 : decode code 666 = .ok (.invokevirtual 149, 3) := by decide +kernel
theorem dL_law_669 : decode code 669 = .ok (.istore 6, 2) := by decide +kernel
theorem dL_law_671 : decode code 671 = .ok (.aload_n 2, 1) := by decide +kernel
theorem dL_law_672 : decode code 672 = .ok (.invokevirtual 115, 3) := by decide +kernel
theorem dL_law_675 : decode code 675 = .ok (.iload 5, 2) := by decide +kernel
theorem dL_law_677 : decode code 677 = .ok (.if_icmp .eq 5, 3) := by decide +kernel
theorem dL_law_680 : decode code 680 = .ok (.iconst 0, 1) := by decide +kernel
theorem dL_law_681 : decode code 681 = .ok (.ireturn, 1) := by decide +kernel
theorem dL_law_682 : decode code 682 = .ok (.iload 5, 2) := by decide +kernel
theorem dL_law_684 : decode code 684 = .ok (.ifCond .ne 15, 3) := by decide +kernel
theorem dL_law_687 : decode code 687 = .ok (.aload_n 3, 1) := by decide +kernel
theorem dL_law_688 : decode code 688 = .ok (.iconst 0, 1) := by decide +kernel
theorem dL_law_689 : decode code 689 = .ok (.laload, 1) := by decide +kernel
theorem dL_law_690 : decode code 690 = .ok (.iload 6, 2) := by decide +kernel
theorem dL_law_692 : decode code 692 = .ok (.i2l, 1) := by decide +kernel
theorem dL_law_693 : decode code 693 = .ok (.lcmp, 1) := by decide +kernel
theorem dL_law_694 : decode code 694 = .ok (.ifCond .eq 5, 3) := by decide +kernel
theorem dL_law_697 : decode code 697 = .ok (.iconst 0, 1) := by decide +kernel
theorem dL_law_698 : decode code 698 = .ok (.ireturn, 1) := by decide +kernel
theorem dL_law_699 : decode code 699 = .ok (.goto 1309, 3) := by decide +kernel
theorem dL_law_702 : decode code 702 = .ok (.aload_n 1, 1) := by decide +kernel
theorem dL_law_703 : decode code 703 = .ok (.aload_n 0, 1) := by decide +kernel
theorem dL_law_704 : decode code 704 = .ok (.iload 4, 2) := by decide +kernel
theorem dL_law_706 : decode code 706 = .ok (.iconst 1, 1) := by decide +kernel
theorem dL_law_707 : decode code 707 = .ok (.iadd, 1) := by decide +kernel
theorem dL_law_708 : decode code 708 = .ok (.iaload, 1) := by decide +kernel
theorem dL_law_709 : decode code 709 = .ok (.aload_n 3, 1) := by decide +kernel
theorem dL_law_710 : decode code 710 = .ok (.invokestatic 150, 3) := by decide +kernel
theorem dL_law_713 : decode code 713 = .ok (.istore 5, 2) := by decide +kernel
theorem dL_law_715 : decode code 715 = .ok (.aload_n 2, 1) := by decide +kernel
theorem dL_law_716 : decode code 716 = .ok (.aload_n 0, 1) := by decide +kernel
theorem dL_law_717 : decode code 717 = .ok (.iload 4, 2) := by decide +kernel
theorem dL_law_719 : decode code 719 = .ok (.iconst 1, 1) := by decide +kernel
theorem dL_law_720 : decode code 720 = .ok (.iadd, 1) := by decide +kernel
theorem dL_law_721 : decode code 721 = .ok (.iaload, 1) := by decide +kernel
theorem dL_law_722 : decode code 722 = .ok (.invokevirtual 152, 3) := by decide +kernel
theorem dL_law_725 : decode code 725 = .ok (.istore 6, 2) := by decide +kernel
theorem dL_law_727 : decode code 727 = .ok (.aload_n 2, 1) := by decide +kernel
theorem dL_law_728 : decode code 728 = .ok (.invokevirtual 115, 3) := by decide +kernel
theorem dL_law_731 : decode code 731 = .ok (.iload 5, 2) := by decide +kernel
theorem dL_law_733 : decode code 733 = .ok (.if_icmp .eq 5, 3) := by decide +kernel
theorem dL_law_736 : decode code 736 = .ok (.iconst 0, 1) := by decide +kernel
theorem dL_law_737 : decode code 737 = .ok (.ireturn, 1) := by decide +kernel
theorem dL_law_738 : decode code 738 = .ok (.iload 5, 2) := by decide +kernel
theorem dL_law_740 : decode code 740 = .ok (.ifCond .ne 15, 3) := by decide +kernel
theorem dL_law_743 : decode code 743 = .ok (.aload_n 3, 1) := by decide +kernel
theorem dL_law_744 : decode code 744 = .ok (.iconst 0, 1) := by decide +kernel
theorem dL_law_745 : decode code 745 = .ok (.laload, 1) := by decide +kernel
theorem dL_law_746 : decode code 746 = .ok (.iload 6, 2) := by decide +kernel
theorem dL_law_748 : decode code 748 = .ok (.i2l, 1) := by decide +kernel
theorem dL_law_749 : decode code 749 = .ok (.lcmp, 1) := by decide +kernel
theorem dL_law_750 : decode code 750 = .ok (.ifCond .eq 5, 3) := by decide +kernel
theorem dL_law_753 : decode code 753 = .ok (.iconst 0, 1) := by decide +kernel
theorem dL_law_754 : decode code 754 = .ok (.ireturn, 1) := by decide +kernel
theorem dL_law_755 : decode code 755 = .ok (.goto 1253, 3) := by decide +kernel
theorem dL_law_758 : decode code 758 = .ok (.aload_n 1, 1) := by decide +kernel
theorem dL_law_759 : decode code 759 = .ok (.aload_n 0, 1) := by decide +kernel
theorem dL_law_760 : decode code 760 = .ok (.iload 4, 2) := by decide +kernel
theorem dL_law_762 : decode code 762 = .ok (.iconst 1, 1) := by decide +kernel
theorem dL_law_763 : decode code 763 = .ok (.iadd, 1) := by decide +kernel
theorem dL_law_764 : decode code 764 = .ok (.iaload, 1) := by decide +kernel
theorem dL_law_765 : decode code 765 = .ok (.aload_n 3, 1) := by decide +kernel
theorem dL_law_766 : decode code 766 = .ok (.invokestatic 153, 3) := by decide +kernel
theorem dL_law_769 : decode code 769 = .ok (.istore 5, 2) := by decide +kernel
theorem dL_law_771 : decode code 771 = .ok (.aload_n 2, 1) := by decide +kernel
theorem dL_law_772 : decode code 772 = .ok (.aload_n 0, 1) := by decide +kernel
theorem dL_law_773 : decode code 773 = .ok (.iload 4, 2) := by decide +kernel
theorem dL_law_775 : decode code 775 = .ok (.iconst 1, 1) := by decide +kernel
theorem dL_law_776 : decode code 776 = .ok (.iadd, 1) := by decide +kernel
theorem dL_law_777 : decode code 777 = .ok (.iaload, 1) := by decide +kernel
theorem dL_law_778 : decode code 778 = .ok (.invokevirtual 155, 3) := by decide +kernel
theorem dL_law_781 : decode code 781 = .ok (.istore 6, 2) := by decide +kernel
theorem dL_law_783 : decode code 783 = .ok (.aload_n 2, 1) := by decide +kernel
theorem dL_law_784 : decode code 784 = .ok (.invokevirtual 115, 3) := by decide +kernel
theorem dL_law_787 : decode code 787 = .ok (.iload 5, 2) := by decide +kernel
theorem dL_law_789 : decode code 789 = .ok (.if_icmp .eq 5, 3) := by decide +kernel
theorem dL_law_792 : decode code 792 = .ok (.iconst 0, 1) := by decide +kernel
theorem dL_law_793 : decode code 793 = .ok (.ireturn, 1) := by decide +kernel
theorem dL_law_794 : decode code 794 = .ok (.iload 5, 2) := by decide +kernel
theorem dL_law_796 : decode code 796 = .ok (.ifCond .ne 15, 3) := by decide +kernel
theorem dL_law_799 : decode code 799 = .ok (.aload_n 3, 1) := by decide +kernel
theorem dL_law_800 : decode code 800 = .ok (.iconst 0, 1) := by decide +kernel
theorem dL_law_801 : decode code 801 = .ok (.laload, 1) := by decide +kernel
theorem dL_law_802 : decode code 802 = .ok (.iload 6, 2) := by decide +kernel
theorem dL_law_804 : decode code 804 = .ok (.i2l, 1) := by decide +kernel
theorem dL_law_805 : decode code 805 = .ok (.lcmp, 1) := by decide +kernel
theorem dL_law_806 : decode code 806 = .ok (.ifCond .eq 5, 3) := by decide +kernel
theorem dL_law_809 : decode code 809 = .ok (.iconst 0, 1) := by decide +kernel
theorem dL_law_810 : decode code 810 = .ok (.ireturn, 1) := by decide +kernel
theorem dL_law_811 : decode code 811 = .ok (.goto 1197, 3) := by decide +kernel
theorem dL_law_814 : decode code 814 = .ok (.aload_n 1, 1) := by decide +kernel
theorem dL_law_815 : decode code 815 = .ok (.aload_n 0, 1) := by decide +kernel
theorem dL_law_816 : decode code 816 = .ok (.iload 4, 2) := by decide +kernel
theorem dL_law_818 : decode code 818 = .ok (.iconst 1, 1) := by decide +kernel
theorem dL_law_819 : decode code 819 = .ok (.iadd, 1) := by decide +kernel
theorem dL_law_820 : decode code 820 = .ok (.iaload, 1) := by decide +kernel
theorem dL_law_821 : decode code 821 = .ok (.aload_n 0, 1) := by decide +kernel
theorem dL_law_822 : decode code 822 = .ok (.iload 4, 2) := by decide +kernel
theorem dL_law_824 : decode code 824 = .ok (.iconst 2, 1) := by decide +kernel
theorem dL_law_825 : decode code 825 = .ok (.iadd, 1) := by decide +kernel
theorem dL_law_826 : decode code 826 = .ok (.iaload, 1) := by decide +kernel
theorem dL_law_827 : decode code 827 = .ok (.aload_n 3, 1) := by decide +kernel
theorem dL_law_828 : decode code 828 = .ok (.invokestatic 156, 3) := by decide +kernel
theorem dL_law_831 : decode code 831 = .ok (.istore 5, 2) := by decide +kernel
theorem dL_law_833 : decode code 833 = .ok (.aload_n 2, 1) := by decide +kernel
theorem dL_law_834 : decode code 834 = .ok (.aload_n 0, 1) := by decide +kernel
theorem dL_law_835 : decode code 835 = .ok (.iload 4, 2) := by decide +kernel
theorem dL_law_837 : decode code 837 = .ok (.iconst 1, 1) := by decide +kernel
theorem dL_law_838 : decode code 838 = .ok (.iadd, 1) := by decide +kernel
theorem dL_law_839 : decode code 839 = .ok (.iaload, 1) := by decide +kernel
theorem dL_law_840 : decode code 840 = .ok (.aload_n 0, 1) := by decide +kernel
theorem dL_law_841 : decode code 841 = .ok (.iload 4, 2) := by decide +kernel
theorem dL_law_843 : decode code 843 = .ok (.iconst 2, 1) := by decide +kernel
theorem dL_law_844 : decode code 844 = .ok (.iadd, 1) := by decide +kernel
theorem dL_law_845 : decode code 845 = .ok (.iaload, 1) := by decide +kernel
theorem dL_law_846 : decode code 846 = .ok (.invokevirtual 158, 3) := by decide +kernel
theorem dL_law_849 : decode code 849 = .ok (.istore 6, 2) := by decide +kernel
theorem dL_law_851 : decode code 851 = .ok (.aload_n 2, 1) := by decide +kernel
theorem dL_law_852 : decode code 852 = .ok (.invokevirtual 115, 3) := by decide +kernel
theorem dL_law_855 : decode code 855 = .ok (.iload 5, 2) := by decide +kernel
theorem dL_law_857 : decode code 857 = .ok (.if_icmp .eq 5, 3) := by decide +kernel
theorem dL_law_860 : decode code 860 = .ok (.iconst 0, 1) := by decide +kernel
theorem dL_law_861 : decode code 861 = .ok (.ireturn, 1) := by decide +kernel
theorem dL_law_862 : decode code 862 = .ok (.iload 5, 2) := by decide +kernel
theorem dL_law_864 : decode code 864 = .ok (.ifCond .ne 15, 3) := by decide +kernel
theorem dL_law_867 : decode code 867 = .ok (.aload_n 3, 1) := by decide +kernel
theorem dL_law_868 : decode code 868 = .ok (.iconst 0, 1) := by decide +kernel
theorem dL_law_869 : decode code 869 = .ok (.laload, 1) := by decide +kernel
theorem dL_law_870 : decode code 870 = .ok (.iload 6, 2) := by decide +kernel
theorem dL_law_872 : decode code 872 = .ok (.i2l, 1) := by decide +kernel
theorem dL_law_873 : decode code 873 = .ok (.lcmp, 1) := by decide +kernel
theorem dL_law_874 : decode code 874 = .ok (.ifCond .eq 5, 3) := by decide +kernel
theorem dL_law_877 : decode code 877 = .ok (.iconst 0, 1) := by decide +kernel
theorem dL_law_878 : decode code 878 = .ok (.ireturn, 1) := by decide +kernel
theorem dL_law_879 : decode code 879 = .ok (.goto 1129, 3) := by decide +kernel
theorem dL_law_882 : decode code 882 = .ok (.aload_n 1, 1) := by decide +kernel
theorem dL_law_883 : decode code 883 = .ok (.aload_n 0, 1) := by decide +kernel
theorem dL_law_884 : decode code 884 = .ok (.iload 4, 2) := by decide +kernel
theorem dL_law_886 : decode code 886 = .ok (.iconst 1, 1) := by decide +kernel
theorem dL_law_887 : decode code 887 = .ok (.iadd, 1) := by decide +kernel
theorem dL_law_888 : decode code 888 = .ok (.iaload, 1) := by decide +kernel
theorem dL_law_889 : decode code 889 = .ok (.aload_n 0, 1) := by decide +kernel
theorem dL_law_890 : decode code 890 = .ok (.iload 4, 2) := by decide +kernel
theorem dL_law_892 : decode code 892 = .ok (.iconst 2, 1) := by decide +kernel
theorem dL_law_893 : decode code 893 = .ok (.iadd, 1) := by decide +kernel
theorem dL_law_894 : decode code 894 = .ok (.iaload, 1) := by decide +kernel
theorem dL_law_895 : decode code 895 = .ok (.aload_n 3, 1) := by decide +kernel
theorem dL_law_896 : decode code 896 = .ok (.invokestatic 159, 3) := by decide +kernel
theorem dL_law_899 : decode code 899 = .ok (.istore 5, 2) := by decide +kernel
theorem dL_law_901 : decode code 901 = .ok (.aload_n 2, 1) := by decide +kernel
theorem dL_law_902 : decode code 902 = .ok (.aload_n 0, 1) := by decide +kernel
theorem dL_law_903 : decode code 903 = .ok (.iload 4, 2) := by decide +kernel
theorem dL_law_905 : decode code 905 = .ok (.iconst 1, 1) := by decide +kernel
theorem dL_law_906 : decode code 906 = .ok (.iadd, 1) := by decide +kernel
theorem dL_law_907 : decode code 907 = .ok (.iaload, 1) := by decide +kernel
theorem dL_law_908 : decode code 908 = .ok (.aload_n 0, 1) := by decide +kernel
theorem dL_law_909 : decode code 909 = .ok (.iload 4, 2) := by decide +kernel
theorem dL_law_911 : decode code 911 = .ok (.iconst 2, 1) := by decide +kernel
theorem dL_law_912 : decode code 912 = .ok (.iadd, 1) := by decide +kernel
theorem dL_law_913 : decode code 913 = .ok (.iaload, 1) := by decide +kernel
theorem dL_law_914 : decode code 914 = .ok (.invokevirtual 161, 3) := by decide +kernel
theorem dL_law_917 : decode code 917 = .ok (.istore 6, 2) := by decide +kernel
theorem dL_law_919 : decode code 919 = .ok (.aload_n 2, 1) := by decide +kernel
theorem dL_law_920 : decode code 920 = .ok (.invokevirtual 115, 3) := by decide +kernel
theorem dL_law_923 : decode code 923 = .ok (.iload 5, 2) := by decide +kernel
theorem dL_law_925 : decode code 925 = .ok (.if_icmp .eq 5, 3) := by decide +kernel
theorem dL_law_928 : decode code 928 = .ok (.iconst 0, 1) := by decide +kernel
theorem dL_law_929 : decode code 929 = .ok (.ireturn, 1) := by decide +kernel
theorem dL_law_930 : decode code 930 = .ok (.iload 5, 2) := by decide +kernel
theorem dL_law_932 : decode code 932 = .ok (.ifCond .ne 15, 3) := by decide +kernel
theorem dL_law_935 : decode code 935 = .ok (.aload_n 3, 1) := by decide +kernel
theorem dL_law_936 : decode code 936 = .ok (.iconst 0, 1) := by decide +kernel
theorem dL_law_937 : decode code 937 = .ok (.laload, 1) := by decide +kernel
theorem dL_law_938 : decode code 938 = .ok (.iload 6, 2) := by decide +kernel
theorem dL_law_940 : decode code 940 = .ok (.i2l, 1) := by decide +kernel
theorem dL_law_941 : decode code 941 = .ok (.lcmp, 1) := by decide +kernel
theorem dL_law_942 : decode code 942 = .ok (.ifCond .eq 5, 3) := by decide +kernel
theorem dL_law_945 : decode code 945 = .ok (.iconst 0, 1) := by decide +kernel
theorem dL_law_946 : decode code 946 = .ok (.ireturn, 1) := by decide +kernel
theorem dL_law_947 : decode code 947 = .ok (.goto 1061, 3) := by decide +kernel
theorem dL_law_950 : decode code 950 = .ok (.aload_n 1, 1) := by decide +kernel
theorem dL_law_951 : decode code 951 = .ok (.aload_n 0, 1) := by decide +kernel
theorem dL_law_952 : decode code 952 = .ok (.iload 4, 2) := by decide +kernel
theorem dL_law_954 : decode code 954 = .ok (.iconst 1, 1) := by decide +kernel
theorem dL_law_955 : decode code 955 = .ok (.iadd, 1) := by decide +kernel
theorem dL_law_956 : decode code 956 = .ok (.iaload, 1) := by decide +kernel
theorem dL_law_957 : decode code 957 = .ok (.aload_n 3, 1) := by decide +kernel
theorem dL_law_958 : decode code 958 = .ok (.invokestatic 162, 3) := by decide +kernel
theorem dL_law_961 : decode code 961 = .ok (.istore 5, 2) := by decide +kernel
theorem dL_law_963 : decode code 963 = .ok (.aload_n 2, 1) := by decide +kernel
theorem dL_law_964 : decode code 964 = .ok (.aload_n 0, 1) := by decide +kernel
theorem dL_law_965 : decode code 965 = .ok (.iload 4, 2) := by decide +kernel
theorem dL_law_967 : decode code 967 = .ok (.iconst 1, 1) := by decide +kernel
theorem dL_law_968 : decode code 968 = .ok (.iadd, 1) := by decide +kernel
theorem dL_law_969 : decode code 969 = .ok (.iaload, 1) := by decide +kernel
theorem dL_law_970 : decode code 970 = .ok (.invokevirtual 164, 3) := by decide +kernel
theorem dL_law_973 : decode code 973 = .ok (.istore 6, 2) := by decide +kernel
theorem dL_law_975 : decode code 975 = .ok (.aload_n 2, 1) := by decide +kernel
theorem dL_law_976 : decode code 976 = .ok (.invokevirtual 115, 3) := by decide +kernel
theorem dL_law_979 : decode code 979 = .ok (.iload 5, 2) := by decide +kernel
theorem dL_law_981 : decode code 981 = .ok (.if_icmp .eq 5, 3) := by decide +kernel
theorem dL_law_984 : decode code 984 = .ok (.iconst 0, 1) := by decide +kernel
theorem dL_law_985 : decode code 985 = .ok (.ireturn, 1) := by decide +kernel
theorem dL_law_986 : decode code 986 = .ok (.iload 5, 2) := by decide +kernel
theorem dL_law_988 : decode code 988 = .ok (.ifCond .ne 15, 3) := by decide +kernel
theorem dL_law_991 : decode code 991 = .ok (.aload_n 3, 1) := by decide +kernel
theorem dL_law_992 : decode code 992 = .ok (.iconst 0, 1) := by decide +kernel
theorem dL_law_993 : decode code 993 = .ok (.laload, 1) := by decide +kernel
theorem dL_law_994 : decode code 994 = .ok (.iload 6, 2) := by decide +kernel
theorem dL_law_996 : decode code 996 = .ok (.i2l, 1) := by decide +kernel
theorem dL_law_997 : decode code 997 = .ok (.lcmp, 1) := by decide +kernel
theorem dL_law_998 : decode code 998 = .ok (.ifCond .eq 5, 3) := by decide +kernel
theorem dL_law_1001 : decode code 1001 = .ok (.iconst 0, 1) := by decide +kernel
theorem dL_law_1002 : decode code 1002 = .ok (.ireturn, 1) := by decide +kernel
theorem dL_law_1003 : decode code 1003 = .ok (.goto 1005, 3) := by decide +kernel
theorem dL_law_1006 : decode code 1006 = .ok (.aload_n 1, 1) := by decide +kernel
theorem dL_law_1007 : decode code 1007 = .ok (.aload_n 0, 1) := by decide +kernel
theorem dL_law_1008 : decode code 1008 = .ok (.iload 4, 2) := by decide +kernel
theorem dL_law_1010 : decode code 1010 = .ok (.iconst 1, 1) := by decide +kernel
theorem dL_law_1011 : decode code 1011 = .ok (.iadd, 1) := by decide +kernel
theorem dL_law_1012 : decode code 1012 = .ok (.iaload, 1) := by decide +kernel
theorem dL_law_1013 : decode code 1013 = .ok (.aload_n 3, 1) := by decide +kernel
theorem dL_law_1014 : decode code 1014 = .ok (.invokestatic 165, 3) := by decide +kernel
theorem dL_law_1017 : decode code 1017 = .ok (.istore 5, 2) := by decide +kernel
theorem dL_law_1019 : decode code 1019 = .ok (.aload_n 2, 1) := by decide +kernel
theorem dL_law_1020 : decode code 1020 = .ok (.aload_n 0, 1) := by decide +kernel
theorem dL_law_1021 : decode code 1021 = .ok (.iload 4, 2) := by decide +kernel
theorem dL_law_1023 : decode code 1023 = .ok (.iconst 1, 1) := by decide +kernel
theorem dL_law_1024 : decode code 1024 = .ok (.iadd, 1) := by decide +kernel
theorem dL_law_1025 : decode code 1025 = .ok (.iaload, 1) := by decide +kernel
theorem dL_law_1026 : decode code 1026 = .ok (.invokevirtual 167, 3) := by decide +kernel
theorem dL_law_1029 : decode code 1029 = .ok (.istore 6, 2) := by decide +kernel
theorem dL_law_1031 : decode code 1031 = .ok (.aload_n 2, 1) := by decide +kernel
theorem dL_law_1032 : decode code 1032 = .ok (.invokevirtual 115, 3) := by decide +kernel
theorem dL_law_1035 : decode code 1035 = .ok (.iload 5, 2) := by decide +kernel
theorem dL_law_1037 : decode code 1037 = .ok (.if_icmp .eq 5, 3) := by decide +kernel
theorem dL_law_1040 : decode code 1040 = .ok (.iconst 0, 1) := by decide +kernel
theorem dL_law_1041 : decode code 1041 = .ok (.ireturn, 1) := by decide +kernel
theorem dL_law_1042 : decode code 1042 = .ok (.iload 5, 2) := by decide +kernel
theorem dL_law_1044 : decode code 1044 = .ok (.ifCond .ne 15, 3) := by decide +kernel
theorem dL_law_1047 : decode code 1047 = .ok (.aload_n 3, 1) := by decide +kernel
theorem dL_law_1048 : decode code 1048 = .ok (.iconst 0, 1) := by decide +kernel
theorem dL_law_1049 : decode code 1049 = .ok (.laload, 1) := by decide +kernel
theorem dL_law_1050 : decode code 1050 = .ok (.iload 6, 2) := by decide +kernel
theorem dL_law_1052 : decode code 1052 = .ok (.i2l, 1) := by decide +kernel
theorem dL_law_1053 : decode code 1053 = .ok (.lcmp, 1) := by decide +kernel
theorem dL_law_1054 : decode code 1054 = .ok (.ifCond .eq 5, 3) := by decide +kernel
theorem dL_law_1057 : decode code 1057 = .ok (.iconst 0, 1) := by decide +kernel
theorem dL_law_1058 : decode code 1058 = .ok (.ireturn, 1) := by decide +kernel
theorem dL_law_1059 : decode code 1059 = .ok (.goto 949, 3) := by decide +kernel
theorem dL_law_1062 : decode code 1062 = .ok (.aload_n 1, 1) := by decide +kernel
theorem dL_law_1063 : decode code 1063 = .ok (.aload_n 0, 1) := by decide +kernel
theorem dL_law_1064 : decode code 1064 = .ok (.iload 4, 2) := by decide +kernel
theorem dL_law_1066 : decode code 1066 = .ok (.iconst 1, 1) := by decide +kernel
theorem dL_law_1067 : decode code 1067 = .ok (.iadd, 1) := by decide +kernel
theorem dL_law_1068 : decode code 1068 = .ok (.iaload, 1) := by decide +kernel
theorem dL_law_1069 : decode code 1069 = .ok (.aload_n 3, 1) := by decide +kernel
theorem dL_law_1070 : decode code 1070 = .ok (.invokestatic 168, 3) := by decide +kernel
theorem dL_law_1073 : decode code 1073 = .ok (.istore 5, 2) := by decide +kernel
theorem dL_law_1075 : decode code 1075 = .ok (.aload_n 2, 1) := by decide +kernel
theorem dL_law_1076 : decode code 1076 = .ok (.aload_n 0, 1) := by decide +kernel
theorem dL_law_1077 : decode code 1077 = .ok (.iload 4, 2) := by decide +kernel
theorem dL_law_1079 : decode code 1079 = .ok (.iconst 1, 1) := by decide +kernel
theorem dL_law_1080 : decode code 1080 = .ok (.iadd, 1) := by decide +kernel
theorem dL_law_1081 : decode code 1081 = .ok (.iaload, 1) := by decide +kernel
theorem dL_law_1082 : decode code 1082 = .ok (.invokevirtual 170, 3) := by decide +kernel
theorem dL_law_1085 : decode code 1085 = .ok (.istore 6, 2) := by decide +kernel
theorem dL_law_1087 : decode code 1087 = .ok (.aload_n 2, 1) := by decide +kernel
theorem dL_law_1088 : decode code 1088 = .ok (.invokevirtual 115, 3) := by decide +kernel
theorem dL_law_1091 : decode code 1091 = .ok (.iload 5, 2) := by decide +kernel
theorem dL_law_1093 : decode code 1093 = .ok (.if_icmp .eq 5, 3) := by decide +kernel
theorem dL_law_1096 : decode code 1096 = .ok (.iconst 0, 1) := by decide +kernel
theorem dL_law_1097 : decode code 1097 = .ok (.ireturn, 1) := by decide +kernel
theorem dL_law_1098 : decode code 1098 = .ok (.iload 5, 2) := by decide +kernel
theorem dL_law_1100 : decode code 1100 = .ok (.ifCond .ne 15, 3) := by decide +kernel
theorem dL_law_1103 : decode code 1103 = .ok (.aload_n 3, 1) := by decide +kernel
theorem dL_law_1104 : decode code 1104 = .ok (.iconst 0, 1) := by decide +kernel
theorem dL_law_1105 : decode code 1105 = .ok (.laload, 1) := by decide +kernel
theorem dL_law_1106 : decode code 1106 = .ok (.iload 6, 2) := by decide +kernel
theorem dL_law_1108 : decode code 1108 = .ok (.i2l, 1) := by decide +kernel
theorem dL_law_1109 : decode code 1109 = .ok (.lcmp, 1) := by decide +kernel
theorem dL_law_1110 : decode code 1110 = .ok (.ifCond .eq 5, 3) := by decide +kernel
theorem dL_law_1113 : decode code 1113 = .ok (.iconst 0, 1) := by decide +kernel
theorem dL_law_1114 : decode code 1114 = .ok (.ireturn, 1) := by decide +kernel
theorem dL_law_1115 : decode code 1115 = .ok (.goto 893, 3) := by decide +kernel
theorem dL_law_1118 : decode code 1118 = .ok (.aload_n 1, 1) := by decide +kernel
theorem dL_law_1119 : decode code 1119 = .ok (.aload_n 0, 1) := by decide +kernel
theorem dL_law_1120 : decode code 1120 = .ok (.iload 4, 2) := by decide +kernel
theorem dL_law_1122 : decode code 1122 = .ok (.iconst 1, 1) := by decide +kernel
theorem dL_law_1123 : decode code 1123 = .ok (.iadd, 1) := by decide +kernel
theorem dL_law_1124 : decode code 1124 = .ok (.iaload, 1) := by decide +kernel
theorem dL_law_1125 : decode code 1125 = .ok (.aload_n 3, 1) := by decide +kernel
theorem dL_law_1126 : decode code 1126 = .ok (.invokestatic 171, 3) := by decide +kernel
theorem dL_law_1129 : decode code 1129 = .ok (.istore 5, 2) := by decide +kernel
theorem dL_law_1131 : decode code 1131 = .ok (.aload_n 2, 1) := by decide +kernel
theorem dL_law_1132 : decode code 1132 = .ok (.aload_n 0, 1) := by decide +kernel
theorem dL_law_1133 : decode code 1133 = .ok (.iload 4, 2) := by decide +kernel
theorem dL_law_1135 : decode code 1135 = .ok (.iconst 1, 1) := by decide +kernel
theorem dL_law_1136 : decode code 1136 = .ok (.iadd, 1) := by decide +kernel
theorem dL_law_1137 : decode code 1137 = .ok (.iaload, 1) := by decide +kernel
theorem dL_law_1138 : decode code 1138 = .ok (.invokevirtual 173, 3) := by decide +kernel
theorem dL_law_1141 : decode code 1141 = .ok (.istore 6, 2) := by decide +kernel
theorem dL_law_1143 : decode code 1143 = .ok (.aload_n 2, 1) := by decide +kernel
theorem dL_law_1144 : decode code 1144 = .ok (.invokevirtual 115, 3) := by decide +kernel
theorem dL_law_1147 : decode code 1147 = .ok (.iload 5, 2) := by decide +kernel
theorem dL_law_1149 : decode code 1149 = .ok (.if_icmp .eq 5, 3) := by decide +kernel
theorem dL_law_1152 : decode code 1152 = .ok (.iconst 0, 1) := by decide +kernel
theorem dL_law_1153 : decode code 1153 = .ok (.ireturn, 1) := by decide +kernel
theorem dL_law_1154 : decode code 1154 = .ok (.iload 5, 2) := by decide +kernel
theorem dL_law_1156 : decode code 1156 = .ok (.ifCond .ne 15, 3) := by decide +kernel
theorem dL_law_1159 : decode code 1159 = .ok (.aload_n 3, 1) := by decide +kernel
theorem dL_law_1160 : decode code 1160 = .ok (.iconst 0, 1) := by decide +kernel
theorem dL_law_1161 : decode code 1161 = .ok (.laload, 1) := by decide +kernel
theorem dL_law_1162 : decode code 1162 = .ok (.iload 6, 2) := by decide +kernel
theorem dL_law_1164 : decode code 1164 = .ok (.i2l, 1) := by decide +kernel
theorem dL_law_1165 : decode code 1165 = .ok (.lcmp, 1) := by decide +kernel
theorem dL_law_1166 : decode code 1166 = .ok (.ifCond .eq 5, 3) := by decide +kernel
theorem dL_law_1169 : decode code 1169 = .ok (.iconst 0, 1) := by decide +kernel
theorem dL_law_1170 : decode code 1170 = .ok (.ireturn, 1) := by decide +kernel
theorem dL_law_1171 : decode code 1171 = .ok (.goto 837, 3) := by decide +kernel
theorem dL_law_1174 : decode code 1174 = .ok (.aload_n 1, 1) := by decide +kernel
theorem dL_law_1175 : decode code 1175 = .ok (.aload_n 0, 1) := by decide +kernel
theorem dL_law_1176 : decode code 1176 = .ok (.iload 4, 2) := by decide +kernel
theorem dL_law_1178 : decode code 1178 = .ok (.iconst 1, 1) := by decide +kernel
theorem dL_law_1179 : decode code 1179 = .ok (.iadd, 1) := by decide +kernel
theorem dL_law_1180 : decode code 1180 = .ok (.iaload, 1) := by decide +kernel
theorem dL_law_1181 : decode code 1181 = .ok (.aload_n 0, 1) := by decide +kernel
theorem dL_law_1182 : decode code 1182 = .ok (.iload 4, 2) := by decide +kernel
theorem dL_law_1184 : decode code 1184 = .ok (.iconst 2, 1) := by decide +kernel
theorem dL_law_1185 : decode code 1185 = .ok (.iadd, 1) := by decide +kernel
theorem dL_law_1186 : decode code 1186 = .ok (.iaload, 1) := by decide +kernel
theorem dL_law_1187 : decode code 1187 = .ok (.aload_n 3, 1) := by decide +kernel
theorem dL_law_1188 : decode code 1188 = .ok (.invokestatic 174, 3) := by decide +kernel
theorem dL_law_1191 : decode code 1191 = .ok (.istore 5, 2) := by decide +kernel
theorem dL_law_1193 : decode code 1193 = .ok (.aload_n 2, 1) := by decide +kernel
theorem dL_law_1194 : decode code 1194 = .ok (.aload_n 0, 1) := by decide +kernel
theorem dL_law_1195 : decode code 1195 = .ok (.iload 4, 2) := by decide +kernel
theorem dL_law_1197 : decode code 1197 = .ok (.iconst 1, 1) := by decide +kernel
theorem dL_law_1198 : decode code 1198 = .ok (.iadd, 1) := by decide +kernel
theorem dL_law_1199 : decode code 1199 = .ok (.iaload, 1) := by decide +kernel
theorem dL_law_1200 : decode code 1200 = .ok (.aload_n 0, 1) := by decide +kernel
theorem dL_law_1201 : decode code 1201 = .ok (.iload 4, 2) := by decide +kernel
theorem dL_law_1203 : decode code 1203 = .ok (.iconst 2, 1) := by decide +kernel
theorem dL_law_1204 : decode code 1204 = .ok (.iadd, 1) := by decide +kernel
theorem dL_law_1205 : decode code 1205 = .ok (.iaload, 1) := by decide +kernel
theorem dL_law_1206 : decode code 1206 = .ok (.invokevirtual 176, 3) := by decide +kernel
theorem dL_law_1209 : decode code 1209 = .ok (.istore 6, 2) := by decide +kernel
theorem dL_law_1211 : decode code 1211 = .ok (.aload_n 2, 1) := by decide +kernel
theorem dL_law_1212 : decode code 1212 = .ok (.invokevirtual 115, 3) := by decide +kernel
theorem dL_law_1215 : decode code 1215 = .ok (.iload 5, 2) := by decide +kernel
theorem dL_law_1217 : decode code 1217 = .ok (.if_icmp .eq 5, 3) := by decide +kernel
theorem dL_law_1220 : decode code 1220 = .ok (.iconst 0, 1) := by decide +kernel
theorem dL_law_1221 : decode code 1221 = .ok (.ireturn, 1) := by decide +kernel
theorem dL_law_1222 : decode code 1222 = .ok (.iload 5, 2) := by decide +kernel
theorem dL_law_1224 : decode code 1224 = .ok (.ifCond .ne 15, 3) := by decide +kernel
theorem dL_law_1227 : decode code 1227 = .ok (.aload_n 3, 1) := by decide +kernel
theorem dL_law_1228 : decode code 1228 = .ok (.iconst 0, 1) := by decide +kernel
theorem dL_law_1229 : decode code 1229 = .ok (.laload, 1) := by decide +kernel
theorem dL_law_1230 : decode code 1230 = .ok (.iload 6, 2) := by decide +kernel
theorem dL_law_1232 : decode code 1232 = .ok (.i2l, 1) := by decide +kernel
theorem dL_law_1233 : decode code 1233 = .ok (.lcmp, 1) := by decide +kernel
theorem dL_law_1234 : decode code 1234 = .ok (.ifCond .eq 5, 3) := by decide +kernel
theorem dL_law_1237 : decode code 1237 = .ok (.iconst 0, 1) := by decide +kernel
theorem dL_law_1238 : decode code 1238 = .ok (.ireturn, 1) := by decide +kernel
theorem dL_law_1239 : decode code 1239 = .ok (.goto 769, 3) := by decide +kernel
theorem dL_law_1242 : decode code 1242 = .ok (.aload_n 1, 1) := by decide +kernel
theorem dL_law_1243 : decode code 1243 = .ok (.aload_n 0, 1) := by decide +kernel
theorem dL_law_1244 : decode code 1244 = .ok (.iload 4, 2) := by decide +kernel
theorem dL_law_1246 : decode code 1246 = .ok (.iconst 1, 1) := by decide +kernel
theorem dL_law_1247 : decode code 1247 = .ok (.iadd, 1) := by decide +kernel
theorem dL_law_1248 : decode code 1248 = .ok (.iaload, 1) := by decide +kernel
theorem dL_law_1249 : decode code 1249 = .ok (.aload_n 3, 1) := by decide +kernel
theorem dL_law_1250 : decode code 1250 = .ok (.invokestatic 177, 3) := by decide +kernel
theorem dL_law_1253 : decode code 1253 = .ok (.istore 5, 2) := by decide +kernel
theorem dL_law_1255 : decode code 1255 = .ok (.aload_n 2, 1) := by decide +kernel
theorem dL_law_1256 : decode code 1256 = .ok (.aload_n 0, 1) := by decide +kernel
theorem dL_law_1257 : decode code 1257 = .ok (.iload 4, 2) := by decide +kernel
theorem dL_law_1259 : decode code 1259 = .ok (.iconst 1, 1) := by decide +kernel
theorem dL_law_1260 : decode code 1260 = .ok (.iadd, 1) := by decide +kernel
theorem dL_law_1261 : decode code 1261 = .ok (.iaload, 1) := by decide +kernel
theorem dL_law_1262 : decode code 1262 = .ok (.invokevirtual 179, 3) := by decide +kernel
theorem dL_law_1265 : decode code 1265 = .ok (.istore 6, 2) := by decide +kernel
theorem dL_law_1267 : decode code 1267 = .ok (.aload_n 2, 1) := by decide +kernel
theorem dL_law_1268 : decode code 1268 = .ok (.invokevirtual 115, 3) := by decide +kernel
theorem dL_law_1271 : decode code 1271 = .ok (.iload 5, 2) := by decide +kernel
theorem dL_law_1273 : decode code 1273 = .ok (.if_icmp .eq 5, 3) := by decide +kernel
theorem dL_law_1276 : decode code 1276 = .ok (.iconst 0, 1) := by decide +kernel
theorem dL_law_1277 : decode code 1277 = .ok (.ireturn, 1) := by decide +kernel
theorem dL_law_1278 : decode code 1278 = .ok (.iload 5, 2) := by decide +kernel
theorem dL_law_1280 : decode code 1280 = .ok (.ifCond .ne 15, 3) := by decide +kernel
theorem dL_law_1283 : decode code 1283 = .ok (.aload_n 3, 1) := by decide +kernel
theorem dL_law_1284 : decode code 1284 = .ok (.iconst 0, 1) := by decide +kernel
theorem dL_law_1285 : decode code 1285 = .ok (.laload, 1) := by decide +kernel
theorem dL_law_1286 : decode code 1286 = .ok (.iload 6, 2) := by decide +kernel
theorem dL_law_1288 : decode code 1288 = .ok (.i2l, 1) := by decide +kernel
theorem dL_law_1289 : decode code 1289 = .ok (.lcmp, 1) := by decide +kernel
theorem dL_law_1290 : decode code 1290 = .ok (.ifCond .eq 5, 3) := by decide +kernel
theorem dL_law_1293 : decode code 1293 = .ok (.iconst 0, 1) := by decide +kernel
theorem dL_law_1294 : decode code 1294 = .ok (.ireturn, 1) := by decide +kernel
theorem dL_law_1295 : decode code 1295 = .ok (.goto 713, 3) := by decide +kernel
theorem dL_law_1298 : decode code 1298 = .ok (.aload_n 1, 1) := by decide +kernel
theorem dL_law_1299 : decode code 1299 = .ok (.aload_n 0, 1) := by decide +kernel
theorem dL_law_1300 : decode code 1300 = .ok (.iload 4, 2) := by decide +kernel
theorem dL_law_1302 : decode code 1302 = .ok (.iconst 1, 1) := by decide +kernel
theorem dL_law_1303 : decode code 1303 = .ok (.iadd, 1) := by decide +kernel
theorem dL_law_1304 : decode code 1304 = .ok (.iaload, 1) := by decide +kernel
theorem dL_law_1305 : decode code 1305 = .ok (.aload_n 0, 1) := by decide +kernel
theorem dL_law_1306 : decode code 1306 = .ok (.iload 4, 2) := by decide +kernel
theorem dL_law_1308 : decode code 1308 = .ok (.iconst 2, 1) := by decide +kernel
theorem dL_law_1309 : decode code 1309 = .ok (.iadd, 1) := by decide +kernel
theorem dL_law_1310 : decode code 1310 = .ok (.iaload, 1) := by decide +kernel
theorem dL_law_1311 : decode code 1311 = .ok (.aload_n 3, 1) := by decide +kernel
theorem dL_law_1312 : decode code 1312 = .ok (.invokestatic 180, 3) := by decide +kernel
theorem dL_law_1315 : decode code 1315 = .ok (.istore 5, 2) := by decide +kernel
theorem dL_law_1317 : decode code 1317 = .ok (.aload_n 2, 1) := by decide +kernel
theorem dL_law_1318 : decode code 1318 = .ok (.aload_n 0, 1) := by decide +kernel
theorem dL_law_1319 : decode code 1319 = .ok (.iload 4, 2) := by decide +kernel
theorem dL_law_1321 : decode code 1321 = .ok (.iconst 1, 1) := by decide +kernel
theorem dL_law_1322 : decode code 1322 = .ok (.iadd, 1) := by decide +kernel
theorem dL_law_1323 : decode code 1323 = .ok (.iaload, 1) := by decide +kernel
theorem dL_law_1324 : decode code 1324 = .ok (.aload_n 0, 1) := by decide +kernel
theorem dL_law_1325 : decode code 1325 = .ok (.iload 4, 2) := by decide +kernel
theorem dL_law_1327 : decode code 1327 = .ok (.iconst 2, 1) := by decide +kernel
theorem dL_law_1328 : decode code 1328 = .ok (.iadd, 1) := by decide +kernel
theorem dL_law_1329 : decode code 1329 = .ok (.iaload, 1) := by decide +kernel
theorem dL_law_1330 : decode code 1330 = .ok (.invokevirtual 182, 3) := by decide +kernel
theorem dL_law_1333 : decode code 1333 = .ok (.istore 6, 2) := by decide +kernel
theorem dL_law_1335 : decode code 1335 = .ok (.aload_n 2, 1) := by decide +kernel
theorem dL_law_1336 : decode code 1336 = .ok (.invokevirtual 115, 3) := by decide +kernel
theorem dL_law_1339 : decode code 1339 = .ok (.iload 5, 2) := by decide +kernel
theorem dL_law_1341 : decode code 1341 = .ok (.if_icmp .eq 5, 3) := by decide +kernel
theorem dL_law_1344 : decode code 1344 = .ok (.iconst 0, 1) := by decide +kernel
theorem dL_law_1345 : decode code 1345 = .ok (.ireturn, 1) := by decide +kernel
theorem dL_law_1346 : decode code 1346 = .ok (.iload 5, 2) := by decide +kernel
theorem dL_law_1348 : decode code 1348 = .ok (.ifCond .ne 15, 3) := by decide +kernel
theorem dL_law_1351 : decode code 1351 = .ok (.aload_n 3, 1) := by decide +kernel
theorem dL_law_1352 : decode code 1352 = .ok (.iconst 0, 1) := by decide +kernel
theorem dL_law_1353 : decode code 1353 = .ok (.laload, 1) := by decide +kernel
theorem dL_law_1354 : decode code 1354 = .ok (.iload 6, 2) := by decide +kernel
theorem dL_law_1356 : decode code 1356 = .ok (.i2l, 1) := by decide +kernel
theorem dL_law_1357 : decode code 1357 = .ok (.lcmp, 1) := by decide +kernel
theorem dL_law_1358 : decode code 1358 = .ok (.ifCond .eq 5, 3) := by decide +kernel
theorem dL_law_1361 : decode code 1361 = .ok (.iconst 0, 1) := by decide +kernel
theorem dL_law_1362 : decode code 1362 = .ok (.ireturn, 1) := by decide +kernel
theorem dL_law_1363 : decode code 1363 = .ok (.goto 645, 3) := by decide +kernel
theorem dL_law_1366 : decode code 1366 = .ok (.aload_n 1, 1) := by decide +kernel
theorem dL_law_1367 : decode code 1367 = .ok (.aload_n 3, 1) := by decide +kernel
theorem dL_law_1368 : decode code 1368 = .ok (.invokestatic 183, 3) := by decide +kernel
theorem dL_law_1371 : decode code 1371 = .ok (.istore 5, 2) := by decide +kernel
theorem dL_law_1373 : decode code 1373 = .ok (.aload_n 2, 1) := by decide +kernel
theorem dL_law_1374 : decode code 1374 = .ok (.invokevirtual 185, 3) := by decide +kernel
theorem dL_law_1377 : decode code 1377 = .ok (.istore 6, 2) := by decide +kernel
theorem dL_law_1379 : decode code 1379 = .ok (.aload_n 2, 1) := by decide +kernel
theorem dL_law_1380 : decode code 1380 = .ok (.invokevirtual 115, 3) := by decide +kernel
theorem dL_law_1383 : decode code 1383 = .ok (.iload 5, 2) := by decide +kernel
theorem dL_law_1385 : decode code 1385 = .ok (.if_icmp .eq 5, 3) := by decide +kernel
theorem dL_law_1388 : decode code 1388 = .ok (.iconst 0, 1) := by decide +kernel
theorem dL_law_1389 : decode code 1389 = .ok (.ireturn, 1) := by decide +kernel
theorem dL_law_1390 : decode code 1390 = .ok (.iload 5, 2) := by decide +kernel
theorem dL_law_1392 : decode code 1392 = .ok (.ifCond .ne 15, 3) := by decide +kernel
theorem dL_law_1395 : decode code 1395 = .ok (.aload_n 3, 1) := by decide +kernel
theorem dL_law_1396 : decode code 1396 = .ok (.iconst 0, 1) := by decide +kernel
theorem dL_law_1397 : decode code 1397 = .ok (.laload, 1) := by decide +kernel
theorem dL_law_1398 : decode code 1398 = .ok (.iload 6, 2) := by decide +kernel
theorem dL_law_1400 : decode code 1400 = .ok (.i2l, 1) := by decide +kernel
theorem dL_law_1401 : decode code 1401 = .ok (.lcmp, 1) := by decide +kernel
theorem dL_law_1402 : decode code 1402 = .ok (.ifCond .eq 5, 3) := by decide +kernel
theorem dL_law_1405 : decode code 1405 = .ok (.iconst 0, 1) := by decide +kernel
theorem dL_law_1406 : decode code 1406 = .ok (.ireturn, 1) := by decide +kernel
theorem dL_law_1407 : decode code 1407 = .ok (.goto 601, 3) := by decide +kernel
theorem dL_law_1410 : decode code 1410 = .ok (.aload_n 1, 1) := by decide +kernel
theorem dL_law_1411 : decode code 1411 = .ok (.aload_n 0, 1) := by decide +kernel
theorem dL_law_1412 : decode code 1412 = .ok (.iload 4, 2) := by decide +kernel
theorem dL_law_1414 : decode code 1414 = .ok (.iconst 1, 1) := by decide +kernel
theorem dL_law_1415 : decode code 1415 = .ok (.iadd, 1) := by decide +kernel
theorem dL_law_1416 : decode code 1416 = .ok (.iaload, 1) := by decide +kernel
theorem dL_law_1417 : decode code 1417 = .ok (.aload_n 0, 1) := by decide +kernel
theorem dL_law_1418 : decode code 1418 = .ok (.iload 4, 2) := by decide +kernel
theorem dL_law_1420 : decode code 1420 = .ok (.iconst 2, 1) := by decide +kernel
theorem dL_law_1421 : decode code 1421 = .ok (.iadd, 1) := by decide +kernel
theorem dL_law_1422 : decode code 1422 = .ok (.iaload, 1) := by decide +kernel
theorem dL_law_1423 : decode code 1423 = .ok (.aload_n 3, 1) := by decide +kernel
theorem dL_law_1424 : decode code 1424 = .ok (.invokestatic 186, 3) := by decide +kernel
theorem dL_law_1427 : decode code 1427 = .ok (.istore 5, 2) := by decide +kernel
theorem dL_law_1429 : decode code 1429 = .ok (.aload_n 2, 1) := by decide +kernel
theorem dL_law_1430 : decode code 1430 = .ok (.aload_n 0, 1) := by decide +kernel
theorem dL_law_1431 : decode code 1431 = .ok (.iload 4, 2) := by decide +kernel
theorem dL_law_1433 : decode code 1433 = .ok (.iconst 1, 1) := by decide +kernel
theorem dL_law_1434 : decode code 1434 = .ok (.iadd, 1) := by decide +kernel
theorem dL_law_1435 : decode code 1435 = .ok (.iaload, 1) := by decide +kernel
theorem dL_law_1436 : decode code 1436 = .ok (.aload_n 0, 1) := by decide +kernel
theorem dL_law_1437 : decode code 1437 = .ok (.iload 4, 2) := by decide +kernel
theorem dL_law_1439 : decode code 1439 = .ok (.iconst 2, 1) := by decide +kernel
theorem dL_law_1440 : decode code 1440 = .ok (.iadd, 1) := by decide +kernel
theorem dL_law_1441 : decode code 1441 = .ok (.iaload, 1) := by decide +kernel
theorem dL_law_1442 : decode code 1442 = .ok (.invokevirtual 188, 3) := by decide +kernel
theorem dL_law_1445 : decode code 1445 = .ok (.istore 6, 2) := by decide +kernel
theorem dL_law_1447 : decode code 1447 = .ok (.aload_n 2, 1) := by decide +kernel
theorem dL_law_1448 : decode code 1448 = .ok (.invokevirtual 115, 3) := by decide +kernel
theorem dL_law_1451 : decode code 1451 = .ok (.iload 5, 2) := by decide +kernel
theorem dL_law_1453 : decode code 1453 = .ok (.if_icmp .eq 5, 3) := by decide +kernel
theorem dL_law_1456 : decode code 1456 = .ok (.iconst 0, 1) := by decide +kernel
theorem dL_law_1457 : decode code 1457 = .ok (.ireturn, 1) := by decide +kernel
theorem dL_law_1458 : decode code 1458 = .ok (.iload 5, 2) := by decide +kernel
theorem dL_law_1460 : decode code 1460 = .ok (.ifCond .ne 15, 3) := by decide +kernel
theorem dL_law_1463 : decode code 1463 = .ok (.aload_n 3, 1) := by decide +kernel
theorem dL_law_1464 : decode code 1464 = .ok (.iconst 0, 1) := by decide +kernel
theorem dL_law_1465 : decode code 1465 = .ok (.laload, 1) := by decide +kernel
theorem dL_law_1466 : decode code 1466 = .ok (.iload 6, 2) := by decide +kernel
theorem dL_law_1468 : decode code 1468 = .ok (.i2l, 1) := by decide +kernel
theorem dL_law_1469 : decode code 1469 = .ok (.lcmp, 1) := by decide +kernel
theorem dL_law_1470 : decode code 1470 = .ok (.ifCond .eq 5, 3) := by decide +kernel
theorem dL_law_1473 : decode code 1473 = .ok (.iconst 0, 1) := by decide +kernel
theorem dL_law_1474 : decode code 1474 = .ok (.ireturn, 1) := by decide +kernel
theorem dL_law_1475 : decode code 1475 = .ok (.goto 533, 3) := by decide +kernel
theorem dL_law_1478 : decode code 1478 = .ok (.aload_n 1, 1) := by decide +kernel
theorem dL_law_1479 : decode code 1479 = .ok (.aload_n 0, 1) := by decide +kernel
theorem dL_law_1480 : decode code 1480 = .ok (.iload 4, 2) := by decide +kernel
theorem dL_law_1482 : decode code 1482 = .ok (.iconst 1, 1) := by decide +kernel
theorem dL_law_1483 : decode code 1483 = .ok (.iadd, 1) := by decide +kernel
theorem dL_law_1484 : decode code 1484 = .ok (.iaload, 1) := by decide +kernel
theorem dL_law_1485 : decode code 1485 = .ok (.aload_n 0, 1) := by decide +kernel
theorem dL_law_1486 : decode code 1486 = .ok (.iload 4, 2) := by decide +kernel
theorem dL_law_1488 : decode code 1488 = .ok (.iconst 2, 1) := by decide +kernel
theorem dL_law_1489 : decode code 1489 = .ok (.iadd, 1) := by decide +kernel
theorem dL_law_1490 : decode code 1490 = .ok (.iaload, 1) := by decide +kernel
theorem dL_law_1491 : decode code 1491 = .ok (.aload_n 3, 1) := by decide +kernel
theorem dL_law_1492 : decode code 1492 = .ok (.invokestatic 189, 3) := by decide +kernel
theorem dL_law_1495 : decode code 1495 = .ok (.istore 5, 2) := by decide +kernel
theorem dL_law_1497 : decode code 1497 = .ok (.aload_n 2, 1) := by decide +kernel
theorem dL_law_1498 : decode code 1498 = .ok (.aload_n 0, 1) := by decide +kernel
theorem dL_law_1499 : decode code 1499 = .ok (.iload 4, 2) := by decide +kernel
theorem dL_law_1501 : decode code 1501 = .ok (.iconst 1, 1) := by decide +kernel
theorem dL_law_1502 : decode code 1502 = .ok (.iadd, 1) := by decide +kernel
theorem dL_law_1503 : decode code 1503 = .ok (.iaload, 1) := by decide +kernel
theorem dL_law_1504 : decode code 1504 = .ok (.aload_n 0, 1) := by decide +kernel
theorem dL_law_1505 : decode code 1505 = .ok (.iload 4, 2) := by decide +kernel
theorem dL_law_1507 : decode code 1507 = .ok (.iconst 2, 1) := by decide +kernel
theorem dL_law_1508 : decode code 1508 = .ok (.iadd, 1) := by decide +kernel
theorem dL_law_1509 : decode code 1509 = .ok (.iaload, 1) := by decide +kernel
theorem dL_law_1510 : decode code 1510 = .ok (.invokevirtual 191, 3) := by decide +kernel
theorem dL_law_1513 : decode code 1513 = .ok (.istore 6, 2) := by decide +kernel
theorem dL_law_1515 : decode code 1515 = .ok (.aload_n 2, 1) := by decide +kernel
theorem dL_law_1516 : decode code 1516 = .ok (.invokevirtual 115, 3) := by decide +kernel
theorem dL_law_1519 : decode code 1519 = .ok (.iload 5, 2) := by decide +kernel
theorem dL_law_1521 : decode code 1521 = .ok (.if_icmp .eq 5, 3) := by decide +kernel
theorem dL_law_1524 : decode code 1524 = .ok (.iconst 0, 1) := by decide +kernel
theorem dL_law_1525 : decode code 1525 = .ok (.ireturn, 1) := by decide +kernel
theorem dL_law_1526 : decode code 1526 = .ok (.iload 5, 2) := by decide +kernel
theorem dL_law_1528 : decode code 1528 = .ok (.ifCond .ne 15, 3) := by decide +kernel
theorem dL_law_1531 : decode code 1531 = .ok (.aload_n 3, 1) := by decide +kernel
theorem dL_law_1532 : decode code 1532 = .ok (.iconst 0, 1) := by decide +kernel
theorem dL_law_1533 : decode code 1533 = .ok (.laload, 1) := by decide +kernel
theorem dL_law_1534 : decode code 1534 = .ok (.iload 6, 2) := by decide +kernel
theorem dL_law_1536 : decode code 1536 = .ok (.i2l, 1) := by decide +kernel
theorem dL_law_1537 : decode code 1537 = .ok (.lcmp, 1) := by decide +kernel
theorem dL_law_1538 : decode code 1538 = .ok (.ifCond .eq 5, 3) := by decide +kernel
theorem dL_law_1541 : decode code 1541 = .ok (.iconst 0, 1) := by decide +kernel
theorem dL_law_1542 : decode code 1542 = .ok (.ireturn, 1) := by decide +kernel
theorem dL_law_1543 : decode code 1543 = .ok (.goto 465, 3) := by decide +kernel
theorem dL_law_1546 : decode code 1546 = .ok (.aload_n 1, 1) := by decide +kernel
theorem dL_law_1547 : decode code 1547 = .ok (.aload_n 0, 1) := by decide +kernel
theorem dL_law_1548 : decode code 1548 = .ok (.iload 4, 2) := by decide +kernel
theorem dL_law_1550 : decode code 1550 = .ok (.iconst 1, 1) := by decide +kernel
theorem dL_law_1551 : decode code 1551 = .ok (.iadd, 1) := by decide +kernel
theorem dL_law_1552 : decode code 1552 = .ok (.iaload, 1) := by decide +kernel
theorem dL_law_1553 : decode code 1553 = .ok (.aload_n 0, 1) := by decide +kernel
theorem dL_law_1554 : decode code 1554 = .ok (.iload 4, 2) := by decide +kernel
theorem dL_law_1556 : decode code 1556 = .ok (.iconst 2, 1) := by decide +kernel
theorem dL_law_1557 : decode code 1557 = .ok (.iadd, 1) := by decide +kernel
theorem dL_law_1558 : decode code 1558 = .ok (.iaload, 1) := by decide +kernel
theorem dL_law_1559 : decode code 1559 = .ok (.aload_n 3, 1) := by decide +kernel
theorem dL_law_1560 : decode code 1560 = .ok (.invokestatic 192, 3) := by decide +kernel
theorem dL_law_1563 : decode code 1563 = .ok (.istore 5, 2) := by decide +kernel
theorem dL_law_1565 : decode code 1565 = .ok (.aload_n 2, 1) := by decide +kernel
theorem dL_law_1566 : decode code 1566 = .ok (.aload_n 0, 1) := by decide +kernel
theorem dL_law_1567 : decode code 1567 = .ok (.iload 4, 2) := by decide +kernel
theorem dL_law_1569 : decode code 1569 = .ok (.iconst 1, 1) := by decide +kernel
theorem dL_law_1570 : decode code 1570 = .ok (.iadd, 1) := by decide +kernel
theorem dL_law_1571 : decode code 1571 = .ok (.iaload, 1) := by decide +kernel
theorem dL_law_1572 : decode code 1572 = .ok (.aload_n 0, 1) := by decide +kernel
theorem dL_law_1573 : decode code 1573 = .ok (.iload 4, 2) := by decide +kernel
theorem dL_law_1575 : decode code 1575 = .ok (.iconst 2, 1) := by decide +kernel
theorem dL_law_1576 : decode code 1576 = .ok (.iadd, 1) := by decide +kernel
theorem dL_law_1577 : decode code 1577 = .ok (.iaload, 1) := by decide +kernel
theorem dL_law_1578 : decode code 1578 = .ok (.invokevirtual 194, 3) := by decide +kernel
theorem dL_law_1581 : decode code 1581 = .ok (.istore 6, 2) := by decide +kernel
theorem dL_law_1583 : decode code 1583 = .ok (.aload_n 2, 1) := by decide +kernel
theorem dL_law_1584 : decode code 1584 = .ok (.invokevirtual 115, 3) := by decide +kernel
theorem dL_law_1587 : decode code 1587 = .ok (.iload 5, 2) := by decide +kernel
theorem dL_law_1589 : decode code 1589 = .ok (.if_icmp .eq 5, 3) := by decide +kernel
theorem dL_law_1592 : decode code 1592 = .ok (.iconst 0, 1) := by decide +kernel
theorem dL_law_1593 : decode code 1593 = .ok (.ireturn, 1) := by decide +kernel
theorem dL_law_1594 : decode code 1594 = .ok (.iload 5, 2) := by decide +kernel
theorem dL_law_1596 : decode code 1596 = .ok (.ifCond .ne 15, 3) := by decide +kernel
theorem dL_law_1599 : decode code 1599 = .ok (.aload_n 3, 1) := by decide +kernel
theorem dL_law_1600 : decode code 1600 = .ok (.iconst 0, 1) := by decide +kernel
theorem dL_law_1601 : decode code 1601 = .ok (.laload, 1) := by decide +kernel
theorem dL_law_1602 : decode code 1602 = .ok (.iload 6, 2) := by decide +kernel
theorem dL_law_1604 : decode code 1604 = .ok (.i2l, 1) := by decide +kernel
theorem dL_law_1605 : decode code 1605 = .ok (.lcmp, 1) := by decide +kernel
theorem dL_law_1606 : decode code 1606 = .ok (.ifCond .eq 5, 3) := by decide +kernel
theorem dL_law_1609 : decode code 1609 = .ok (.iconst 0, 1) := by decide +kernel
theorem dL_law_1610 : decode code 1610 = .ok (.ireturn, 1) := by decide +kernel
theorem dL_law_1611 : decode code 1611 = .ok (.goto 397, 3) := by decide +kernel
theorem dL_law_1614 : decode code 1614 = .ok (.aload_n 1, 1) := by decide +kernel
theorem dL_law_1615 : decode code 1615 = .ok (.invokevirtual 195, 3) := by decide +kernel
theorem dL_law_1618 : decode code 1618 = .ok (.aload_n 2, 1) := by decide +kernel
theorem dL_law_1619 : decode code 1619 = .ok (.invokevirtual 198, 3) := by decide +kernel
theorem dL_law_1622 : decode code 1622 = .ok (.if_icmp .eq 386, 3) := by decide +kernel
theorem dL_law_1625 : decode code 1625 = .ok (.iconst 0, 1) := by decide +kernel
theorem dL_law_1626 : decode code 1626 = .ok (.ireturn, 1) := by decide +kernel
theorem dL_law_1627 : decode code 1627 = .ok (.aload_n 1, 1) := by decide +kernel
theorem dL_law_1628 : decode code 1628 = .ok (.invokevirtual 199, 3) := by decide +kernel
theorem dL_law_1631 : decode code 1631 = .ok (.aload_n 2, 1) := by decide +kernel
theorem dL_law_1632 : decode code 1632 = .ok (.invokevirtual 202, 3) := by decide +kernel
theorem dL_law_1635 : decode code 1635 = .ok (.if_icmp .eq 373, 3) := by decide +kernel
theorem dL_law_1638 : decode code 1638 = .ok (.iconst 0, 1) := by decide +kernel
theorem dL_law_1639 : decode code 1639 = .ok (.ireturn, 1) := by decide +kernel
theorem dL_law_1640 : decode code 1640 = .ok (.aload_n 1, 1) := by decide +kernel
theorem dL_law_1641 : decode code 1641 = .ok (.aload_n 0, 1) := by decide +kernel
theorem dL_law_1642 : decode code 1642 = .ok (.iload 4, 2) := by decide +kernel
theorem dL_law_1644 : decode code 1644 = .ok (.iconst 1, 1) := by decide +kernel
theorem dL_law_1645 : decode code 1645 = .ok (.iadd, 1) := by decide +kernel
theorem dL_law_1646 : decode code 1646 = .ok (.iaload, 1) := by decide +kernel
theorem dL_law_1647 : decode code 1647 = .ok (.aload_n 3, 1) := by decide +kernel
theorem dL_law_1648 : decode code 1648 = .ok (.invokestatic 203, 3) := by decide +kernel
theorem dL_law_1651 : decode code 1651 = .ok (.istore 5, 2) := by decide +kernel
theorem dL_law_1653 : decode code 1653 = .ok (.aload_n 2, 1) := by decide +kernel
theorem dL_law_1654 : decode code 1654 = .ok (.aload_n 0, 1) := by decide +kernel
theorem dL_law_1655 : decode code 1655 = .ok (.iload 4, 2) := by decide +kernel
theorem dL_law_1657 : decode code 1657 = .ok (.iconst 1, 1) := by decide +kernel
theorem dL_law_1658 : decode code 1658 = .ok (.iadd, 1) := by decide +kernel
theorem dL_law_1659 : decode code 1659 = .ok (.iaload, 1) := by decide +kernel
theorem dL_law_1660 : decode code 1660 = .ok (.invokevirtual 205, 3) := by decide +kernel
theorem dL_law_1663 : decode code 1663 = .ok (.istore 6, 2) := by decide +kernel
theorem dL_law_1665 : decode code 1665 = .ok (.aload_n 2, 1) := by decide +kernel
theorem dL_law_1666 : decode code 1666 = .ok (.invokevirtual 115, 3) := by decide +kernel
theorem dL_law_1669 : decode code 1669 = .ok (.iload 5, 2) := by decide +kernel
theorem dL_law_1671 : decode code 1671 = .ok (.if_icmp .eq 5, 3) := by decide +kernel
theorem dL_law_1674 : decode code 1674 = .ok (.iconst 0, 1) := by decide +kernel
theorem dL_law_1675 : decode code 1675 = .ok (.ireturn, 1) := by decide +kernel
theorem dL_law_1676 : decode code 1676 = .ok (.iload 5, 2) := by decide +kernel
theorem dL_law_1678 : decode code 1678 = .ok (.ifCond .ne 15, 3) := by decide +kernel
theorem dL_law_1681 : decode code 1681 = .ok (.aload_n 3, 1) := by decide +kernel
theorem dL_law_1682 : decode code 1682 = .ok (.iconst 0, 1) := by decide +kernel
theorem dL_law_1683 : decode code 1683 = .ok (.laload, 1) := by decide +kernel
theorem dL_law_1684 : decode code 1684 = .ok (.iload 6, 2) := by decide +kernel
theorem dL_law_1686 : decode code 1686 = .ok (.i2l, 1) := by decide +kernel
theorem dL_law_1687 : decode code 1687 = .ok (.lcmp, 1) := by decide +kernel
theorem dL_law_1688 : decode code 1688 = .ok (.ifCond .eq 5, 3) := by decide +kernel
theorem dL_law_1691 : decode code 1691 = .ok (.iconst 0, 1) := by decide +kernel
theorem dL_law_1692 : decode code 1692 = .ok (.ireturn, 1) := by decide +kernel
theorem dL_law_1693 : decode code 1693 = .ok (.goto 315, 3) := by decide +kernel
theorem dL_law_1696 : decode code 1696 = .ok (.aload_n 1, 1) := by decide +kernel
theorem dL_law_1697 : decode code 1697 = .ok (.aload_n 0, 1) := by decide +kernel
theorem dL_law_1698 : decode code 1698 = .ok (.iload 4, 2) := by decide +kernel
theorem dL_law_1700 : decode code 1700 = .ok (.iconst 1, 1) := by decide +kernel
theorem dL_law_1701 : decode code 1701 = .ok (.iadd, 1) := by decide +kernel
theorem dL_law_1702 : decode code 1702 = .ok (.iaload, 1) := by decide +kernel
theorem dL_law_1703 : decode code 1703 = .ok (.aload_n 0, 1) := by decide +kernel
theorem dL_law_1704 : decode code 1704 = .ok (.iload 4, 2) := by decide +kernel
theorem dL_law_1706 : decode code 1706 = .ok (.iconst 2, 1) := by decide +kernel
theorem dL_law_1707 : decode code 1707 = .ok (.iadd, 1) := by decide +kernel
theorem dL_law_1708 : decode code 1708 = .ok (.iaload, 1) := by decide +kernel
theorem dL_law_1709 : decode code 1709 = .ok (.i2l, 1) := by decide +kernel
theorem dL_law_1710 : decode code 1710 = .ok (.bipush 32, 2) := by decide +kernel
theorem dL_law_1712 : decode code 1712 = .ok (.lshl, 1) := by decide +kernel
theorem dL_law_1713 : decode code 1713 = .ok (.aload_n 0, 1) := by decide +kernel
theorem dL_law_1714 : decode code 1714 = .ok (.iload 4, 2) := by decide +kernel
theorem dL_law_1716 : decode code 1716 = .ok (.iconst 3, 1) := by decide +kernel
theorem dL_law_1717 : decode code 1717 = .ok (.iadd, 1) := by decide +kernel
theorem dL_law_1718 : decode code 1718 = .ok (.iaload, 1) := by decide +kernel
theorem dL_law_1719 : decode code 1719 = .ok (.i2l, 1) := by decide +kernel
theorem dL_law_1720 : decode code 1720 = .ok (.ldc2_w 206, 3) := by decide +kernel
theorem dL_law_1723 : decode code 1723 = .ok (.land, 1) := by decide +kernel
theorem dL_law_1724 : decode code 1724 = .ok (.lor, 1) := by decide +kernel
theorem dL_law_1725 : decode code 1725 = .ok (.aload_n 3, 1) := by decide +kernel
theorem dL_law_1726 : decode code 1726 = .ok (.invokestatic 208, 3) := by decide +kernel
theorem dL_law_1729 : decode code 1729 = .ok (.istore 5, 2) := by decide +kernel
theorem dL_law_1731 : decode code 1731 = .ok (.aload_n 2, 1) := by decide +kernel
theorem dL_law_1732 : decode code 1732 = .ok (.aload_n 0, 1) := by decide +kernel
theorem dL_law_1733 : decode code 1733 = .ok (.iload 4, 2) := by decide +kernel
theorem dL_law_1735 : decode code 1735 = .ok (.iconst 1, 1) := by decide +kernel
theorem dL_law_1736 : decode code 1736 = .ok (.iadd, 1) := by decide +kernel
theorem dL_law_1737 : decode code 1737 = .ok (.iaload, 1) := by decide +kernel
theorem dL_law_1738 : decode code 1738 = .ok (.aload_n 0, 1) := by decide +kernel
theorem dL_law_1739 : decode code 1739 = .ok (.iload 4, 2) := by decide +kernel
theorem dL_law_1741 : decode code 1741 = .ok (.iconst 2, 1) := by decide +kernel
theorem dL_law_1742 : decode code 1742 = .ok (.iadd, 1) := by decide +kernel
theorem dL_law_1743 : decode code 1743 = .ok (.iaload, 1) := by decide +kernel
theorem dL_law_1744 : decode code 1744 = .ok (.i2l, 1) := by decide +kernel
theorem dL_law_1745 : decode code 1745 = .ok (.bipush 32, 2) := by decide +kernel
theorem dL_law_1747 : decode code 1747 = .ok (.lshl, 1) := by decide +kernel
theorem dL_law_1748 : decode code 1748 = .ok (.aload_n 0, 1) := by decide +kernel
theorem dL_law_1749 : decode code 1749 = .ok (.iload 4, 2) := by decide +kernel
theorem dL_law_1751 : decode code 1751 = .ok (.iconst 3, 1) := by decide +kernel
theorem dL_law_1752 : decode code 1752 = .ok (.iadd, 1) := by decide +kernel
theorem dL_law_1753 : decode code 1753 = .ok (.iaload, 1) := by decide +kernel
theorem dL_law_1754 : decode code 1754 = .ok (.i2l, 1) := by decide +kernel
theorem dL_law_1755 : decode code 1755 = .ok (.ldc2_w 206, 3) := by decide +kernel
theorem dL_law_1758 : decode code 1758 = .ok (.land, 1) := by decide +kernel
theorem dL_law_1759 : decode code 1759 = .ok (.lor, 1) := by decide +kernel
theorem dL_law_1760 : decode code 1760 = .ok (.invokevirtual 211, 3) := by decide +kernel
theorem dL_law_1763 : decode code 1763 = .ok (.istore 6, 2) := by decide +kernel
theorem dL_law_1765 : decode code 1765 = .ok (.aload_n 2, 1) := by decide +kernel
theorem dL_law_1766 : decode code 1766 = .ok (.invokevirtual 115, 3) := by decide +kernel
theorem dL_law_1769 : decode code 1769 = .ok (.iload 5, 2) := by decide +kernel
theorem dL_law_1771 : decode code 1771 = .ok (.if_icmp .eq 5, 3) := by decide +kernel
theorem dL_law_1774 : decode code 1774 = .ok (.iconst 0, 1) := by decide +kernel
theorem dL_law_1775 : decode code 1775 = .ok (.ireturn, 1) := by decide +kernel
theorem dL_law_1776 : decode code 1776 = .ok (.iload 5, 2) := by decide +kernel
theorem dL_law_1778 : decode code 1778 = .ok (.ifCond .ne 15, 3) := by decide +kernel
theorem dL_law_1781 : decode code 1781 = .ok (.aload_n 3, 1) := by decide +kernel
theorem dL_law_1782 : decode code 1782 = .ok (.iconst 0, 1) := by decide +kernel
theorem dL_law_1783 : decode code 1783 = .ok (.laload, 1) := by decide +kernel
theorem dL_law_1784 : decode code 1784 = .ok (.iload 6, 2) := by decide +kernel
theorem dL_law_1786 : decode code 1786 = .ok (.i2l, 1) := by decide +kernel
theorem dL_law_1787 : decode code 1787 = .ok (.lcmp, 1) := by decide +kernel
theorem dL_law_1788 : decode code 1788 = .ok (.ifCond .eq 5, 3) := by decide +kernel
theorem dL_law_1791 : decode code 1791 = .ok (.iconst 0, 1) := by decide +kernel
theorem dL_law_1792 : decode code 1792 = .ok (.ireturn, 1) := by decide +kernel
theorem dL_law_1793 : decode code 1793 = .ok (.goto 215, 3) := by decide +kernel
theorem dL_law_1796 : decode code 1796 = .ok (.aload_n 1, 1) := by decide +kernel
theorem dL_law_1797 : decode code 1797 = .ok (.aload_n 0, 1) := by decide +kernel
theorem dL_law_1798 : decode code 1798 = .ok (.iload 4, 2) := by decide +kernel
theorem dL_law_1800 : decode code 1800 = .ok (.iconst 1, 1) := by decide +kernel
theorem dL_law_1801 : decode code 1801 = .ok (.iadd, 1) := by decide +kernel
theorem dL_law_1802 : decode code 1802 = .ok (.iaload, 1) := by decide +kernel
theorem dL_law_1803 : decode code 1803 = .ok (.i2l, 1) := by decide +kernel
theorem dL_law_1804 : decode code 1804 = .ok (.bipush 32, 2) := by decide +kernel
theorem dL_law_1806 : decode code 1806 = .ok (.lshl, 1) := by decide +kernel
theorem dL_law_1807 : decode code 1807 = .ok (.aload_n 0, 1) := by decide +kernel
theorem dL_law_1808 : decode code 1808 = .ok (.iload 4, 2) := by decide +kernel
theorem dL_law_1810 : decode code 1810 = .ok (.iconst 2, 1) := by decide +kernel
theorem dL_law_1811 : decode code 1811 = .ok (.iadd, 1) := by decide +kernel
theorem dL_law_1812 : decode code 1812 = .ok (.iaload, 1) := by decide +kernel
theorem dL_law_1813 : decode code 1813 = .ok (.i2l, 1) := by decide +kernel
theorem dL_law_1814 : decode code 1814 = .ok (.ldc2_w 206, 3) := by decide +kernel
theorem dL_law_1817 : decode code 1817 = .ok (.land, 1) := by decide +kernel
theorem dL_law_1818 : decode code 1818 = .ok (.lor, 1) := by decide +kernel
theorem dL_law_1819 : decode code 1819 = .ok (.aload_n 0, 1) := by decide +kernel
theorem dL_law_1820 : decode code 1820 = .ok (.iload 4, 2) := by decide +kernel
theorem dL_law_1822 : decode code 1822 = .ok (.iconst 3, 1) := by decide +kernel
theorem dL_law_1823 : decode code 1823 = .ok (.iadd, 1) := by decide +kernel
theorem dL_law_1824 : decode code 1824 = .ok (.iaload, 1) := by decide +kernel
theorem dL_law_1825 : decode code 1825 = .ok (.aload_n 3, 1) := by decide +kernel
theorem dL_law_1826 : decode code 1826 = .ok (.invokestatic 212, 3) := by decide +kernel
theorem dL_law_1829 : decode code 1829 = .ok (.istore 5, 2) := by decide +kernel
theorem dL_law_1831 : decode code 1831 = .ok (.aload_n 2, 1) := by decide +kernel
theorem dL_law_1832 : decode code 1832 = .ok (.aload_n 0, 1) := by decide +kernel
theorem dL_law_1833 : decode code 1833 = .ok (.iload 4, 2) := by decide +kernel
theorem dL_law_1835 : decode code 1835 = .ok (.iconst 1, 1) := by decide +kernel
theorem dL_law_1836 : decode code 1836 = .ok (.iadd, 1) := by decide +kernel
theorem dL_law_1837 : decode code 1837 = .ok (.iaload, 1) := by decide +kernel
theorem dL_law_1838 : decode code 1838 = .ok (.i2l, 1) := by decide +kernel
theorem dL_law_1839 : decode code 1839 = .ok (.bipush 32, 2) := by decide +kernel
theorem dL_law_1841 : decode code 1841 = .ok (.lshl, 1) := by decide +kernel
theorem dL_law_1842 : decode code 1842 = .ok (.aload_n 0, 1) := by decide +kernel
theorem dL_law_1843 : decode code 1843 = .ok (.iload 4, 2) := by decide +kernel
theorem dL_law_1845 : decode code 1845 = .ok (.iconst 2, 1) := by decide +kernel
theorem dL_law_1846 : decode code 1846 = .ok (.iadd, 1) := by decide +kernel
theorem dL_law_1847 : decode code 1847 = .ok (.iaload, 1) := by decide +kernel
theorem dL_law_1848 : decode code 1848 = .ok (.i2l, 1) := by decide +kernel
theorem dL_law_1849 : decode code 1849 = .ok (.ldc2_w 206, 3) := by decide +kernel
theorem dL_law_1852 : decode code 1852 = .ok (.land, 1) := by decide +kernel
theorem dL_law_1853 : decode code 1853 = .ok (.lor, 1) := by decide +kernel
theorem dL_law_1854 : decode code 1854 = .ok (.aload_n 0, 1) := by decide +kernel
theorem dL_law_1855 : decode code 1855 = .ok (.iload 4, 2) := by decide +kernel
theorem dL_law_1857 : decode code 1857 = .ok (.iconst 3, 1) := by decide +kernel
theorem dL_law_1858 : decode code 1858 = .ok (.iadd, 1) := by decide +kernel
theorem dL_law_1859 : decode code 1859 = .ok (.iaload, 1) := by decide +kernel
theorem dL_law_1860 : decode code 1860 = .ok (.invokevirtual 215, 3) := by decide +kernel
theorem dL_law_1863 : decode code 1863 = .ok (.istore 6, 2) := by decide +kernel
theorem dL_law_1865 : decode code 1865 = .ok (.aload_n 2, 1) := by decide +kernel
theorem dL_law_1866 : decode code 1866 = .ok (.invokevirtual 115, 3) := by decide +kernel
theorem dL_law_1869 : decode code 1869 = .ok (.iload 5, 2) := by decide +kernel
theorem dL_law_1871 : decode code 1871 = .ok (.if_icmp .eq 5, 3) := by decide +kernel
theorem dL_law_1874 : decode code 1874 = .ok (.iconst 0, 1) := by decide +kernel
theorem dL_law_1875 : decode code 1875 = .ok (.ireturn, 1) := by decide +kernel
theorem dL_law_1876 : decode code 1876 = .ok (.iload 5, 2) := by decide +kernel
theorem dL_law_1878 : decode code 1878 = .ok (.ifCond .ne 15, 3) := by decide +kernel
theorem dL_law_1881 : decode code 1881 = .ok (.aload_n 3, 1) := by decide +kernel
theorem dL_law_1882 : decode code 1882 = .ok (.iconst 0, 1) := by decide +kernel
theorem dL_law_1883 : decode code 1883 = .ok (.laload, 1) := by decide +kernel
theorem dL_law_1884 : decode code 1884 = .ok (.iload 6, 2) := by decide +kernel
theorem dL_law_1886 : decode code 1886 = .ok (.i2l, 1) := by decide +kernel
theorem dL_law_1887 : decode code 1887 = .ok (.lcmp, 1) := by decide +kernel
theorem dL_law_1888 : decode code 1888 = .ok (.ifCond .eq 5, 3) := by decide +kernel
theorem dL_law_1891 : decode code 1891 = .ok (.iconst 0, 1) := by decide +kernel
theorem dL_law_1892 : decode code 1892 = .ok (.ireturn, 1) := by decide +kernel
theorem dL_law_1893 : decode code 1893 = .ok (.goto 115, 3) := by decide +kernel
theorem dL_law_1896 : decode code 1896 = .ok (.aload_n 1, 1) := by decide +kernel
theorem dL_law_1897 : decode code 1897 = .ok (.aload_n 0, 1) := by decide +kernel
theorem dL_law_1898 : decode code 1898 = .ok (.iload 4, 2) := by decide +kernel
theorem dL_law_1900 : decode code 1900 = .ok (.iconst 1, 1) := by decide +kernel
theorem dL_law_1901 : decode code 1901 = .ok (.iadd, 1) := by decide +kernel
theorem dL_law_1902 : decode code 1902 = .ok (.iaload, 1) := by decide +kernel
theorem dL_law_1903 : decode code 1903 = .ok (.aload_n 3, 1) := by decide +kernel
theorem dL_law_1904 : decode code 1904 = .ok (.invokestatic 216, 3) := by decide +kernel
theorem dL_law_1907 : decode code 1907 = .ok (.istore 5, 2) := by decide +kernel
theorem dL_law_1909 : decode code 1909 = .ok (.aload_n 2, 1) := by decide +kernel
theorem dL_law_1910 : decode code 1910 = .ok (.aload_n 0, 1) := by decide +kernel
theorem dL_law_1911 : decode code 1911 = .ok (.iload 4, 2) := by decide +kernel
theorem dL_law_1913 : decode code 1913 = .ok (.iconst 1, 1) := by decide +kernel
theorem dL_law_1914 : decode code 1914 = .ok (.iadd, 1) := by decide +kernel
theorem dL_law_1915 : decode code 1915 = .ok (.iaload, 1) := by decide +kernel
theorem dL_law_1916 : decode code 1916 = .ok (.invokevirtual 218, 3) := by decide +kernel
theorem dL_law_1919 : decode code 1919 = .ok (.istore 6, 2) := by decide +kernel
theorem dL_law_1921 : decode code 1921 = .ok (.aload_n 2, 1) := by decide +kernel
theorem dL_law_1922 : decode code 1922 = .ok (.invokevirtual 115, 3) := by decide +kernel
theorem dL_law_1925 : decode code 1925 = .ok (.iload 5, 2) := by decide +kernel
theorem dL_law_1927 : decode code 1927 = .ok (.if_icmp .eq 5, 3) := by decide +kernel
theorem dL_law_1930 : decode code 1930 = .ok (.iconst 0, 1) := by decide +kernel
theorem dL_law_1931 : decode code 1931 = .ok (.ireturn, 1) := by decide +kernel
theorem dL_law_1932 : decode code 1932 = .ok (.iload 5, 2) := by decide +kernel
theorem dL_law_1934 : decode code 1934 = .ok (.ifCond .ne 15, 3) := by decide +kernel
theorem dL_law_1937 : decode code 1937 = .ok (.aload_n 3, 1) := by decide +kernel
theorem dL_law_1938 : decode code 1938 = .ok (.iconst 0, 1) := by decide +kernel
theorem dL_law_1939 : decode code 1939 = .ok (.laload, 1) := by decide +kernel
theorem dL_law_1940 : decode code 1940 = .ok (.iload 6, 2) := by decide +kernel
theorem dL_law_1942 : decode code 1942 = .ok (.i2l, 1) := by decide +kernel
theorem dL_law_1943 : decode code 1943 = .ok (.lcmp, 1) := by decide +kernel
theorem dL_law_1944 : decode code 1944 = .ok (.ifCond .eq 5, 3) := by decide +kernel
theorem dL_law_1947 : decode code 1947 = .ok (.iconst 0, 1) := by decide +kernel
theorem dL_law_1948 : decode code 1948 = .ok (.ireturn, 1) := by decide +kernel
theorem dL_law_1949 : decode code 1949 = .ok (.goto 59, 3) := by decide +kernel
theorem dL_law_1952 : decode code 1952 = .ok (.aload_n 1, 1) := by decide +kernel
theorem dL_law_1953 : decode code 1953 = .ok (.aload_n 0, 1) := by decide +kernel
theorem dL_law_1954 : decode code 1954 = .ok (.iload 4, 2) := by decide +kernel
theorem dL_law_1956 : decode code 1956 = .ok (.iconst 1, 1) := by decide +kernel
theorem dL_law_1957 : decode code 1957 = .ok (.iadd, 1) := by decide +kernel
theorem dL_law_1958 : decode code 1958 = .ok (.iaload, 1) := by decide +kernel
theorem dL_law_1959 : decode code 1959 = .ok (.aload_n 3, 1) := by decide +kernel
theorem dL_law_1960 : decode code 1960 = .ok (.invokestatic 219, 3) := by decide +kernel
theorem dL_law_1963 : decode code 1963 = .ok (.istore 5, 2) := by decide +kernel
theorem dL_law_1965 : decode code 1965 = .ok (.aload_n 2, 1) := by decide +kernel
theorem dL_law_1966 : decode code 1966 = .ok (.aload_n 0, 1) := by decide +kernel
theorem dL_law_1967 : decode code 1967 = .ok (.iload 4, 2) := by decide +kernel
theorem dL_law_1969 : decode code 1969 = .ok (.iconst 1, 1) := by decide +kernel
theorem dL_law_1970 : decode code 1970 = .ok (.iadd, 1) := by decide +kernel
theorem dL_law_1971 : decode code 1971 = .ok (.iaload, 1) := by decide +kernel
theorem dL_law_1972 : decode code 1972 = .ok (.invokevirtual 221, 3) := by decide +kernel
theorem dL_law_1975 : decode code 1975 = .ok (.istore 6, 2) := by decide +kernel
theorem dL_law_1977 : decode code 1977 = .ok (.aload_n 2, 1) := by decide +kernel
theorem dL_law_1978 : decode code 1978 = .ok (.invokevirtual 115, 3) := by decide +kernel
theorem dL_law_1981 : decode code 1981 = .ok (.iload 5, 2) := by decide +kernel
theorem dL_law_1983 : decode code 1983 = .ok (.if_icmp .eq 5, 3) := by decide +kernel
theorem dL_law_1986 : decode code 1986 = .ok (.iconst 0, 1) := by decide +kernel
theorem dL_law_1987 : decode code 1987 = .ok (.ireturn, 1) := by decide +kernel
theorem dL_law_1988 : decode code 1988 = .ok (.iload 5, 2) := by decide +kernel
theorem dL_law_1990 : decode code 1990 = .ok (.ifCond .ne 15, 3) := by decide +kernel
theorem dL_law_1993 : decode code 1993 = .ok (.aload_n 3, 1) := by decide +kernel
theorem dL_law_1994 : decode code 1994 = .ok (.iconst 0, 1) := by decide +kernel
theorem dL_law_1995 : decode code 1995 = .ok (.laload, 1) := by decide +kernel
theorem dL_law_1996 : decode code 1996 = .ok (.iload 6, 2) := by decide +kernel
theorem dL_law_1998 : decode code 1998 = .ok (.i2l, 1) := by decide +kernel
theorem dL_law_1999 : decode code 1999 = .ok (.lcmp, 1) := by decide +kernel
theorem dL_law_2000 : decode code 2000 = .ok (.ifCond .eq 5, 3) := by decide +kernel
theorem dL_law_2003 : decode code 2003 = .ok (.iconst 0, 1) := by decide +kernel
theorem dL_law_2004 : decode code 2004 = .ok (.ireturn, 1) := by decide +kernel
theorem dL_law_2005 : decode code 2005 = .ok (.goto 3, 3) := by decide +kernel
theorem dL_law_2008 : decode code 2008 = .ok (.iinc 4 4, 3) := by decide +kernel
theorem dL_law_2011 : decode code 2011 = .ok (.goto (-1988), 3) := by decide +kernel
theorem dL_law_2014 : decode code 2014 = .ok (.iconst 1, 1) := by decide +kernel
theorem dL_law_2015 : decode code 2015 = .ok (.ireturn, 1) := by decide +kernel
theorem yf_X12_append : (Cond.instanceMethod yX12_append) ∈ gtbl ∧ (Cond.selects RX12 yX12_append yX12_append) ∈ gtbl ∧ (Cond.initialized RX12) ∈ gtbl ∧ (Cond.code yX12_append cX12_append 2 (some .int)) ∈ gtbl ∧ (yX12_append.cls = RX12 ∧ yX12_append.cls ≠ "java/lang/invoke/MethodHandle" ∧ yX12_append.cls ≠ "java/lang/invoke/VarHandle" ∧ (parseMethodDescriptor yX12_append.desc).map (fun d => d.parameters.length) = some 1) := ⟨gt_in 1104 (by decide +kernel) (by decide +kernel), gt_in 1105 (by decide +kernel) (by decide +kernel), gt_in 27 (by decide +kernel) (by decide +kernel), gt_in 1106 (by decide +kernel) (by decide +kernel), by decide +kernel⟩
theorem cw_L_114 : uCW RL RX12 114 yX12_append cX12_append 2 (some .int) 1 := ⟨gt_in 1103 (by decide +kernel) (by decide +kernel), yf_X12_append⟩
theorem yf_X12_thrown : (Cond.instanceMethod yX12_thrown) ∈ gtbl ∧ (Cond.selects RX12 yX12_thrown yX12_thrown) ∈ gtbl ∧ (Cond.initialized RX12) ∈ gtbl ∧ (Cond.code yX12_thrown cX12_thrown 1 (some .int)) ∈ gtbl ∧ (yX12_thrown.cls = RX12 ∧ yX12_thrown.cls ≠ "java/lang/invoke/MethodHandle" ∧ yX12_thrown.cls ≠ "java/lang/invoke/VarHandle" ∧ (parseMethodDescriptor yX12_thrown.desc).map (fun d => d.parameters.length) = some 0) := ⟨gt_in 1100 (by decide +kernel) (by decide +kernel), gt_in 1101 (by decide +kernel) (by decide +kernel), gt_in 27 (by decide +kernel) (by decide +kernel), gt_in 1102 (by decide +kernel) (by decide +kernel), by decide +kernel⟩
theorem cw_L_115 : uCW RL RX12 115 yX12_thrown cX12_thrown 1 (some .int) 0 := ⟨gt_in 1099 (by decide +kernel) (by decide +kernel), yf_X12_thrown⟩
theorem yf_X11_clearText : (Cond.instanceMethod yX11_clearText) ∈ gtbl ∧ (Cond.selects RX11 yX11_clearText yX11_clearText) ∈ gtbl ∧ (Cond.initialized RX11) ∈ gtbl ∧ (Cond.code yX11_clearText cX11_clearText 1 (some .int)) ∈ gtbl ∧ (yX11_clearText.cls = RX11 ∧ yX11_clearText.cls ≠ "java/lang/invoke/MethodHandle" ∧ yX11_clearText.cls ≠ "java/lang/invoke/VarHandle" ∧ (parseMethodDescriptor yX11_clearText.desc).map (fun d => d.parameters.length) = some 0) := ⟨gt_in 306 (by decide +kernel) (by decide +kernel), gt_in 307 (by decide +kernel) (by decide +kernel), gt_in 17 (by decide +kernel) (by decide +kernel), gt_in 308 (by decide +kernel) (by decide +kernel), by decide +kernel⟩
theorem cw_L_118 : uCW RL RX11 118 yX11_clearText cX11_clearText 1 (some .int) 0 := ⟨gt_in 305 (by decide +kernel) (by decide +kernel), yf_X11_clearText⟩
theorem yf_X12_clearText : (Cond.instanceMethod yX12_clearText) ∈ gtbl ∧ (Cond.selects RX12 yX12_clearText yX12_clearText) ∈ gtbl ∧ (Cond.initialized RX12) ∈ gtbl ∧ (Cond.code yX12_clearText cX12_clearText 2 (some .int)) ∈ gtbl ∧ (yX12_clearText.cls = RX12 ∧ yX12_clearText.cls ≠ "java/lang/invoke/MethodHandle" ∧ yX12_clearText.cls ≠ "java/lang/invoke/VarHandle" ∧ (parseMethodDescriptor yX12_clearText.desc).map (fun d => d.parameters.length) = some 0) := ⟨gt_in 1116 (by decide +kernel) (by decide +kernel), gt_in 1117 (by decide +kernel) (by decide +kernel), gt_in 27 (by decide +kernel) (by decide +kernel), gt_in 1118 (by decide +kernel) (by decide +kernel), by decide +kernel⟩
theorem cw_L_121 : uCW RL RX12 121 yX12_clearText cX12_clearText 2 (some .int) 0 := ⟨gt_in 1115 (by decide +kernel) (by decide +kernel), yf_X12_clearText⟩
theorem yf_X11_errorPosition : (Cond.instanceMethod yX11_errorPosition) ∈ gtbl ∧ (Cond.selects RX11 yX11_errorPosition yX11_errorPosition) ∈ gtbl ∧ (Cond.initialized RX11) ∈ gtbl ∧ (Cond.code yX11_errorPosition cX11_errorPosition 1 (some .int)) ∈ gtbl ∧ (yX11_errorPosition.cls = RX11 ∧ yX11_errorPosition.cls ≠ "java/lang/invoke/MethodHandle" ∧ yX11_errorPosition.cls ≠ "java/lang/invoke/VarHandle" ∧ (parseMethodDescriptor yX11_errorPosition.desc).map (fun d => d.parameters.length) = some 0) := ⟨gt_in 314 (by decide +kernel) (by decide +kernel), gt_in 315 (by decide +kernel) (by decide +kernel), gt_in 17 (by decide +kernel) (by decide +kernel), gt_in 316 (by decide +kernel) (by decide +kernel), by decide +kernel⟩
theorem cw_L_122 : uCW RL RX11 122 yX11_errorPosition cX11_errorPosition 1 (some .int) 0 := ⟨gt_in 313 (by decide +kernel) (by decide +kernel), yf_X11_errorPosition⟩
theorem yf_X12_errorPosition : (Cond.instanceMethod yX12_errorPosition) ∈ gtbl ∧ (Cond.selects RX12 yX12_errorPosition yX12_errorPosition) ∈ gtbl ∧ (Cond.initialized RX12) ∈ gtbl ∧ (Cond.code yX12_errorPosition cX12_errorPosition 1 (some .int)) ∈ gtbl ∧ (yX12_errorPosition.cls = RX12 ∧ yX12_errorPosition.cls ≠ "java/lang/invoke/MethodHandle" ∧ yX12_errorPosition.cls ≠ "java/lang/invoke/VarHandle" ∧ (parseMethodDescriptor yX12_errorPosition.desc).map (fun d => d.parameters.length) = some 0) := ⟨gt_in 1120 (by decide +kernel) (by decide +kernel), gt_in 1121 (by decide +kernel) (by decide +kernel), gt_in 27 (by decide +kernel) (by decide +kernel), gt_in 1122 (by decide +kernel) (by decide +kernel), by decide +kernel⟩
theorem cw_L_125 : uCW RL RX12 125 yX12_errorPosition cX12_errorPosition 1 (some .int) 0 := ⟨gt_in 1119 (by decide +kernel) (by decide +kernel), yf_X12_errorPosition⟩
theorem yf_X12_load : (Cond.instanceMethod yX12_load) ∈ gtbl ∧ (Cond.selects RX12 yX12_load yX12_load) ∈ gtbl ∧ (Cond.initialized RX12) ∈ gtbl ∧ (Cond.code yX12_load cX12_load 1 (some .int)) ∈ gtbl ∧ (yX12_load.cls = RX12 ∧ yX12_load.cls ≠ "java/lang/invoke/MethodHandle" ∧ yX12_load.cls ≠ "java/lang/invoke/VarHandle" ∧ (parseMethodDescriptor yX12_load.desc).map (fun d => d.parameters.length) = some 0) := ⟨gt_in 1210 (by decide +kernel) (by decide +kernel), gt_in 1211 (by decide +kernel) (by decide +kernel), gt_in 27 (by decide +kernel) (by decide +kernel), gt_in 1212 (by decide +kernel) (by decide +kernel), by decide +kernel⟩
theorem cw_L_129 : uCW RL RX12 129 yX12_load cX12_load 1 (some .int) 0 := ⟨gt_in 1209 (by decide +kernel) (by decide +kernel), yf_X12_load⟩
theorem yf_X12_about : (Cond.instanceMethod yX12_about) ∈ gtbl ∧ (Cond.selects RX12 yX12_about yX12_about) ∈ gtbl ∧ (Cond.initialized RX12) ∈ gtbl ∧ (Cond.code yX12_about cX12_about 2 (some .int)) ∈ gtbl ∧ (yX12_about.cls = RX12 ∧ yX12_about.cls ≠ "java/lang/invoke/MethodHandle" ∧ yX12_about.cls ≠ "java/lang/invoke/VarHandle" ∧ (parseMethodDescriptor yX12_about.desc).map (fun d => d.parameters.length) = some 1) := ⟨gt_in 1217 (by decide +kernel) (by decide +kernel), gt_in 1218 (by decide +kernel) (by decide +kernel), gt_in 27 (by decide +kernel) (by decide +kernel), gt_in 1219 (by decide +kernel) (by decide +kernel), by decide +kernel⟩
theorem cw_L_132 : uCW RL RX12 132 yX12_about cX12_about 2 (some .int) 1 := ⟨gt_in 1216 (by decide +kernel) (by decide +kernel), yf_X12_about⟩
theorem yf_X12_card : (Cond.instanceMethod yX12_card) ∈ gtbl ∧ (Cond.selects RX12 yX12_card yX12_card) ∈ gtbl ∧ (Cond.initialized RX12) ∈ gtbl ∧ (Cond.code yX12_card cX12_card 3 (some .int)) ∈ gtbl ∧ (yX12_card.cls = RX12 ∧ yX12_card.cls ≠ "java/lang/invoke/MethodHandle" ∧ yX12_card.cls ≠ "java/lang/invoke/VarHandle" ∧ (parseMethodDescriptor yX12_card.desc).map (fun d => d.parameters.length) = some 2) := ⟨gt_in 1225 (by decide +kernel) (by decide +kernel), gt_in 1226 (by decide +kernel) (by decide +kernel), gt_in 27 (by decide +kernel) (by decide +kernel), gt_in 1227 (by decide +kernel) (by decide +kernel), by decide +kernel⟩
theorem cw_L_136 : uCW RL RX12 136 yX12_card cX12_card 3 (some .int) 2 := ⟨gt_in 1224 (by decide +kernel) (by decide +kernel), yf_X12_card⟩
theorem yf_X12_account : (Cond.instanceMethod yX12_account) ∈ gtbl ∧ (Cond.selects RX12 yX12_account yX12_account) ∈ gtbl ∧ (Cond.initialized RX12) ∈ gtbl ∧ (Cond.code yX12_account cX12_account 4 (some .int)) ∈ gtbl ∧ (yX12_account.cls = RX12 ∧ yX12_account.cls ≠ "java/lang/invoke/MethodHandle" ∧ yX12_account.cls ≠ "java/lang/invoke/VarHandle" ∧ (parseMethodDescriptor yX12_account.desc).map (fun d => d.parameters.length) = some 2) := ⟨gt_in 1230 (by decide +kernel) (by decide +kernel), gt_in 1231 (by decide +kernel) (by decide +kernel), gt_in 27 (by decide +kernel) (by decide +kernel), gt_in 1232 (by decide +kernel) (by decide +kernel), by decide +kernel⟩
theorem cw_L_139 : uCW RL RX12 139 yX12_account cX12_account 4 (some .int) 2 := ⟨gt_in 1229 (by decide +kernel) (by decide +kernel), yf_X12_account⟩
theorem yf_X12_gate : (Cond.instanceMethod yX12_gate) ∈ gtbl ∧ (Cond.selects RX12 yX12_gate yX12_gate) ∈ gtbl ∧ (Cond.initialized RX12) ∈ gtbl ∧ (Cond.code yX12_gate cX12_gate 3 (some .int)) ∈ gtbl ∧ (yX12_gate.cls = RX12 ∧ yX12_gate.cls ≠ "java/lang/invoke/MethodHandle" ∧ yX12_gate.cls ≠ "java/lang/invoke/VarHandle" ∧ (parseMethodDescriptor yX12_gate.desc).map (fun d => d.parameters.length) = some 2) := ⟨gt_in 1238 (by decide +kernel) (by decide +kernel), gt_in 1239 (by decide +kernel) (by decide +kernel), gt_in 27 (by decide +kernel) (by decide +kernel), gt_in 1240 (by decide +kernel) (by decide +kernel), by decide +kernel⟩
theorem cw_L_142 : uCW RL RX12 142 yX12_gate cX12_gate 3 (some .int) 2 := ⟨gt_in 1237 (by decide +kernel) (by decide +kernel), yf_X12_gate⟩
theorem yf_X12_logged : (Cond.instanceMethod yX12_logged) ∈ gtbl ∧ (Cond.selects RX12 yX12_logged yX12_logged) ∈ gtbl ∧ (Cond.initialized RX12) ∈ gtbl ∧ (Cond.code yX12_logged cX12_logged 4 (some .int)) ∈ gtbl ∧ (yX12_logged.cls = RX12 ∧ yX12_logged.cls ≠ "java/lang/invoke/MethodHandle" ∧ yX12_logged.cls ≠ "java/lang/invoke/VarHandle" ∧ (parseMethodDescriptor yX12_logged.desc).map (fun d => d.parameters.length) = some 3) := ⟨gt_in 1246 (by decide +kernel) (by decide +kernel), gt_in 1247 (by decide +kernel) (by decide +kernel), gt_in 27 (by decide +kernel) (by decide +kernel), gt_in 1248 (by decide +kernel) (by decide +kernel), by decide +kernel⟩
theorem cw_L_146 : uCW RL RX12 146 yX12_logged cX12_logged 4 (some .int) 3 := ⟨gt_in 1245 (by decide +kernel) (by decide +kernel), yf_X12_logged⟩
theorem yf_X12_setting : (Cond.instanceMethod yX12_setting) ∈ gtbl ∧ (Cond.selects RX12 yX12_setting yX12_setting) ∈ gtbl ∧ (Cond.initialized RX12) ∈ gtbl ∧ (Cond.code yX12_setting cX12_setting 2 (some .int)) ∈ gtbl ∧ (yX12_setting.cls = RX12 ∧ yX12_setting.cls ≠ "java/lang/invoke/MethodHandle" ∧ yX12_setting.cls ≠ "java/lang/invoke/VarHandle" ∧ (parseMethodDescriptor yX12_setting.desc).map (fun d => d.parameters.length) = some 1) := ⟨gt_in 1251 (by decide +kernel) (by decide +kernel), gt_in 1252 (by decide +kernel) (by decide +kernel), gt_in 27 (by decide +kernel) (by decide +kernel), gt_in 1253 (by decide +kernel) (by decide +kernel), by decide +kernel⟩
theorem cw_L_149 : uCW RL RX12 149 yX12_setting cX12_setting 2 (some .int) 1 := ⟨gt_in 1250 (by decide +kernel) (by decide +kernel), yf_X12_setting⟩
theorem yf_X12_issue : (Cond.instanceMethod yX12_issue) ∈ gtbl ∧ (Cond.selects RX12 yX12_issue yX12_issue) ∈ gtbl ∧ (Cond.initialized RX12) ∈ gtbl ∧ (Cond.code yX12_issue cX12_issue 2 (some .int)) ∈ gtbl ∧ (yX12_issue.cls = RX12 ∧ yX12_issue.cls ≠ "java/lang/invoke/MethodHandle" ∧ yX12_issue.cls ≠ "java/lang/invoke/VarHandle" ∧ (parseMethodDescriptor yX12_issue.desc).map (fun d => d.parameters.length) = some 1) := ⟨gt_in 1255 (by decide +kernel) (by decide +kernel), gt_in 1256 (by decide +kernel) (by decide +kernel), gt_in 27 (by decide +kernel) (by decide +kernel), gt_in 1257 (by decide +kernel) (by decide +kernel), by decide +kernel⟩
theorem cw_L_152 : uCW RL RX12 152 yX12_issue cX12_issue 2 (some .int) 1 := ⟨gt_in 1254 (by decide +kernel) (by decide +kernel), yf_X12_issue⟩
theorem yf_X12_copy : (Cond.instanceMethod yX12_copy) ∈ gtbl ∧ (Cond.selects RX12 yX12_copy yX12_copy) ∈ gtbl ∧ (Cond.initialized RX12) ∈ gtbl ∧ (Cond.code yX12_copy cX12_copy 2 (some .int)) ∈ gtbl ∧ (yX12_copy.cls = RX12 ∧ yX12_copy.cls ≠ "java/lang/invoke/MethodHandle" ∧ yX12_copy.cls ≠ "java/lang/invoke/VarHandle" ∧ (parseMethodDescriptor yX12_copy.desc).map (fun d => d.parameters.length) = some 1) := ⟨gt_in 1264 (by decide +kernel) (by decide +kernel), gt_in 1265 (by decide +kernel) (by decide +kernel), gt_in 27 (by decide +kernel) (by decide +kernel), gt_in 1266 (by decide +kernel) (by decide +kernel), by decide +kernel⟩
theorem cw_L_155 : uCW RL RX12 155 yX12_copy cX12_copy 2 (some .int) 1 := ⟨gt_in 1263 (by decide +kernel) (by decide +kernel), yf_X12_copy⟩
theorem yf_X12_ride : (Cond.instanceMethod yX12_ride) ∈ gtbl ∧ (Cond.selects RX12 yX12_ride yX12_ride) ∈ gtbl ∧ (Cond.initialized RX12) ∈ gtbl ∧ (Cond.code yX12_ride cX12_ride 3 (some .int)) ∈ gtbl ∧ (yX12_ride.cls = RX12 ∧ yX12_ride.cls ≠ "java/lang/invoke/MethodHandle" ∧ yX12_ride.cls ≠ "java/lang/invoke/VarHandle" ∧ (parseMethodDescriptor yX12_ride.desc).map (fun d => d.parameters.length) = some 2) := ⟨gt_in 1268 (by decide +kernel) (by decide +kernel), gt_in 1269 (by decide +kernel) (by decide +kernel), gt_in 27 (by decide +kernel) (by decide +kernel), gt_in 1270 (by decide +kernel) (by decide +kernel), by decide +kernel⟩
theorem cw_L_158 : uCW RL RX12 158 yX12_ride cX12_ride 3 (some .int) 2 := ⟨gt_in 1267 (by decide +kernel) (by decide +kernel), yf_X12_ride⟩
theorem yf_X12_pay : (Cond.instanceMethod yX12_pay) ∈ gtbl ∧ (Cond.selects RX12 yX12_pay yX12_pay) ∈ gtbl ∧ (Cond.initialized RX12) ∈ gtbl ∧ (Cond.code yX12_pay cX12_pay 3 (some .int)) ∈ gtbl ∧ (yX12_pay.cls = RX12 ∧ yX12_pay.cls ≠ "java/lang/invoke/MethodHandle" ∧ yX12_pay.cls ≠ "java/lang/invoke/VarHandle" ∧ (parseMethodDescriptor yX12_pay.desc).map (fun d => d.parameters.length) = some 2) := ⟨gt_in 1272 (by decide +kernel) (by decide +kernel), gt_in 1273 (by decide +kernel) (by decide +kernel), gt_in 27 (by decide +kernel) (by decide +kernel), gt_in 1274 (by decide +kernel) (by decide +kernel), by decide +kernel⟩
theorem cw_L_161 : uCW RL RX12 161 yX12_pay cX12_pay 3 (some .int) 2 := ⟨gt_in 1271 (by decide +kernel) (by decide +kernel), yf_X12_pay⟩
theorem yf_X12_pardon : (Cond.instanceMethod yX12_pardon) ∈ gtbl ∧ (Cond.selects RX12 yX12_pardon yX12_pardon) ∈ gtbl ∧ (Cond.initialized RX12) ∈ gtbl ∧ (Cond.code yX12_pardon cX12_pardon 2 (some .int)) ∈ gtbl ∧ (yX12_pardon.cls = RX12 ∧ yX12_pardon.cls ≠ "java/lang/invoke/MethodHandle" ∧ yX12_pardon.cls ≠ "java/lang/invoke/VarHandle" ∧ (parseMethodDescriptor yX12_pardon.desc).map (fun d => d.parameters.length) = some 1) := ⟨gt_in 1276 (by decide +kernel) (by decide +kernel), gt_in 1277 (by decide +kernel) (by decide +kernel), gt_in 27 (by decide +kernel) (by decide +kernel), gt_in 1278 (by decide +kernel) (by decide +kernel), by decide +kernel⟩
theorem cw_L_164 : uCW RL RX12 164 yX12_pardon cX12_pardon 2 (some .int) 1 := ⟨gt_in 1275 (by decide +kernel) (by decide +kernel), yf_X12_pardon⟩
theorem yf_X12_down : (Cond.instanceMethod yX12_down) ∈ gtbl ∧ (Cond.selects RX12 yX12_down yX12_down) ∈ gtbl ∧ (Cond.initialized RX12) ∈ gtbl ∧ (Cond.code yX12_down cX12_down 2 (some .int)) ∈ gtbl ∧ (yX12_down.cls = RX12 ∧ yX12_down.cls ≠ "java/lang/invoke/MethodHandle" ∧ yX12_down.cls ≠ "java/lang/invoke/VarHandle" ∧ (parseMethodDescriptor yX12_down.desc).map (fun d => d.parameters.length) = some 1) := ⟨gt_in 1283 (by decide +kernel) (by decide +kernel), gt_in 1284 (by decide +kernel) (by decide +kernel), gt_in 27 (by decide +kernel) (by decide +kernel), gt_in 1285 (by decide +kernel) (by decide +kernel), by decide +kernel⟩
theorem cw_L_167 : uCW RL RX12 167 yX12_down cX12_down 2 (some .int) 1 := ⟨gt_in 1282 (by decide +kernel) (by decide +kernel), yf_X12_down⟩
theorem yf_X12_up : (Cond.instanceMethod yX12_up) ∈ gtbl ∧ (Cond.selects RX12 yX12_up yX12_up) ∈ gtbl ∧ (Cond.initialized RX12) ∈ gtbl ∧ (Cond.code yX12_up cX12_up 2 (some .int)) ∈ gtbl ∧ (yX12_up.cls = RX12 ∧ yX12_up.cls ≠ "java/lang/invoke/MethodHandle" ∧ yX12_up.cls ≠ "java/lang/invoke/VarHandle" ∧ (parseMethodDescriptor yX12_up.desc).map (fun d => d.parameters.length) = some 1) := ⟨gt_in 1287 (by decide +kernel) (by decide +kernel), gt_in 1288 (by decide +kernel) (by decide +kernel), gt_in 27 (by decide +kernel) (by decide +kernel), gt_in 1289 (by decide +kernel) (by decide +kernel), by decide +kernel⟩
theorem cw_L_170 : uCW RL RX12 170 yX12_up cX12_up 2 (some .int) 1 := ⟨gt_in 1286 (by decide +kernel) (by decide +kernel), yf_X12_up⟩
theorem yf_X12_open : (Cond.instanceMethod yX12_open) ∈ gtbl ∧ (Cond.selects RX12 yX12_open yX12_open) ∈ gtbl ∧ (Cond.initialized RX12) ∈ gtbl ∧ (Cond.code yX12_open cX12_open 2 (some .int)) ∈ gtbl ∧ (yX12_open.cls = RX12 ∧ yX12_open.cls ≠ "java/lang/invoke/MethodHandle" ∧ yX12_open.cls ≠ "java/lang/invoke/VarHandle" ∧ (parseMethodDescriptor yX12_open.desc).map (fun d => d.parameters.length) = some 1) := ⟨gt_in 1291 (by decide +kernel) (by decide +kernel), gt_in 1292 (by decide +kernel) (by decide +kernel), gt_in 27 (by decide +kernel) (by decide +kernel), gt_in 1293 (by decide +kernel) (by decide +kernel), by decide +kernel⟩
theorem cw_L_173 : uCW RL RX12 173 yX12_open cX12_open 2 (some .int) 1 := ⟨gt_in 1290 (by decide +kernel) (by decide +kernel), yf_X12_open⟩
theorem yf_X12_fare : (Cond.instanceMethod yX12_fare) ∈ gtbl ∧ (Cond.selects RX12 yX12_fare yX12_fare) ∈ gtbl ∧ (Cond.initialized RX12) ∈ gtbl ∧ (Cond.code yX12_fare cX12_fare 4 (some .int)) ∈ gtbl ∧ (yX12_fare.cls = RX12 ∧ yX12_fare.cls ≠ "java/lang/invoke/MethodHandle" ∧ yX12_fare.cls ≠ "java/lang/invoke/VarHandle" ∧ (parseMethodDescriptor yX12_fare.desc).map (fun d => d.parameters.length) = some 2) := ⟨gt_in 1295 (by decide +kernel) (by decide +kernel), gt_in 1296 (by decide +kernel) (by decide +kernel), gt_in 27 (by decide +kernel) (by decide +kernel), gt_in 1297 (by decide +kernel) (by decide +kernel), by decide +kernel⟩
theorem cw_L_176 : uCW RL RX12 176 yX12_fare cX12_fare 4 (some .int) 2 := ⟨gt_in 1294 (by decide +kernel) (by decide +kernel), yf_X12_fare⟩
theorem yf_X12_run : (Cond.instanceMethod yX12_run) ∈ gtbl ∧ (Cond.selects RX12 yX12_run yX12_run) ∈ gtbl ∧ (Cond.initialized RX12) ∈ gtbl ∧ (Cond.code yX12_run cX12_run 2 (some .int)) ∈ gtbl ∧ (yX12_run.cls = RX12 ∧ yX12_run.cls ≠ "java/lang/invoke/MethodHandle" ∧ yX12_run.cls ≠ "java/lang/invoke/VarHandle" ∧ (parseMethodDescriptor yX12_run.desc).map (fun d => d.parameters.length) = some 1) := ⟨gt_in 1299 (by decide +kernel) (by decide +kernel), gt_in 1300 (by decide +kernel) (by decide +kernel), gt_in 27 (by decide +kernel) (by decide +kernel), gt_in 1301 (by decide +kernel) (by decide +kernel), by decide +kernel⟩
theorem cw_L_179 : uCW RL RX12 179 yX12_run cX12_run 2 (some .int) 1 := ⟨gt_in 1298 (by decide +kernel) (by decide +kernel), yf_X12_run⟩
theorem yf_X12_set : (Cond.instanceMethod yX12_set) ∈ gtbl ∧ (Cond.selects RX12 yX12_set yX12_set) ∈ gtbl ∧ (Cond.initialized RX12) ∈ gtbl ∧ (Cond.code yX12_set cX12_set 4 (some .int)) ∈ gtbl ∧ (yX12_set.cls = RX12 ∧ yX12_set.cls ≠ "java/lang/invoke/MethodHandle" ∧ yX12_set.cls ≠ "java/lang/invoke/VarHandle" ∧ (parseMethodDescriptor yX12_set.desc).map (fun d => d.parameters.length) = some 2) := ⟨gt_in 1304 (by decide +kernel) (by decide +kernel), gt_in 1305 (by decide +kernel) (by decide +kernel), gt_in 27 (by decide +kernel) (by decide +kernel), gt_in 1306 (by decide +kernel) (by decide +kernel), by decide +kernel⟩
theorem cw_L_182 : uCW RL RX12 182 yX12_set cX12_set 4 (some .int) 2 := ⟨gt_in 1303 (by decide +kernel) (by decide +kernel), yf_X12_set⟩
theorem yf_X12_undo : (Cond.instanceMethod yX12_undo) ∈ gtbl ∧ (Cond.selects RX12 yX12_undo yX12_undo) ∈ gtbl ∧ (Cond.initialized RX12) ∈ gtbl ∧ (Cond.code yX12_undo cX12_undo 1 (some .int)) ∈ gtbl ∧ (yX12_undo.cls = RX12 ∧ yX12_undo.cls ≠ "java/lang/invoke/MethodHandle" ∧ yX12_undo.cls ≠ "java/lang/invoke/VarHandle" ∧ (parseMethodDescriptor yX12_undo.desc).map (fun d => d.parameters.length) = some 0) := ⟨gt_in 1313 (by decide +kernel) (by decide +kernel), gt_in 1314 (by decide +kernel) (by decide +kernel), gt_in 27 (by decide +kernel) (by decide +kernel), gt_in 1315 (by decide +kernel) (by decide +kernel), by decide +kernel⟩
theorem cw_L_185 : uCW RL RX12 185 yX12_undo cX12_undo 1 (some .int) 0 := ⟨gt_in 1312 (by decide +kernel) (by decide +kernel), yf_X12_undo⟩
theorem yf_X12_would : (Cond.instanceMethod yX12_would) ∈ gtbl ∧ (Cond.selects RX12 yX12_would yX12_would) ∈ gtbl ∧ (Cond.initialized RX12) ∈ gtbl ∧ (Cond.code yX12_would cX12_would 3 (some .int)) ∈ gtbl ∧ (yX12_would.cls = RX12 ∧ yX12_would.cls ≠ "java/lang/invoke/MethodHandle" ∧ yX12_would.cls ≠ "java/lang/invoke/VarHandle" ∧ (parseMethodDescriptor yX12_would.desc).map (fun d => d.parameters.length) = some 2) := ⟨gt_in 1317 (by decide +kernel) (by decide +kernel), gt_in 1318 (by decide +kernel) (by decide +kernel), gt_in 27 (by decide +kernel) (by decide +kernel), gt_in 1319 (by decide +kernel) (by decide +kernel), by decide +kernel⟩
theorem cw_L_188 : uCW RL RX12 188 yX12_would cX12_would 3 (some .int) 2 := ⟨gt_in 1316 (by decide +kernel) (by decide +kernel), yf_X12_would⟩
theorem yf_X12_rides : (Cond.instanceMethod yX12_rides) ∈ gtbl ∧ (Cond.selects RX12 yX12_rides yX12_rides) ∈ gtbl ∧ (Cond.initialized RX12) ∈ gtbl ∧ (Cond.code yX12_rides cX12_rides 4 (some .int)) ∈ gtbl ∧ (yX12_rides.cls = RX12 ∧ yX12_rides.cls ≠ "java/lang/invoke/MethodHandle" ∧ yX12_rides.cls ≠ "java/lang/invoke/VarHandle" ∧ (parseMethodDescriptor yX12_rides.desc).map (fun d => d.parameters.length) = some 2) := ⟨gt_in 1321 (by decide +kernel) (by decide +kernel), gt_in 1322 (by decide +kernel) (by decide +kernel), gt_in 27 (by decide +kernel) (by decide +kernel), gt_in 1323 (by decide +kernel) (by decide +kernel), by decide +kernel⟩
theorem cw_L_191 : uCW RL RX12 191 yX12_rides cX12_rides 4 (some .int) 2 := ⟨gt_in 1320 (by decide +kernel) (by decide +kernel), yf_X12_rides⟩
theorem yf_X12_ifUp : (Cond.instanceMethod yX12_ifUp) ∈ gtbl ∧ (Cond.selects RX12 yX12_ifUp yX12_ifUp) ∈ gtbl ∧ (Cond.initialized RX12) ∈ gtbl ∧ (Cond.code yX12_ifUp cX12_ifUp 3 (some .int)) ∈ gtbl ∧ (yX12_ifUp.cls = RX12 ∧ yX12_ifUp.cls ≠ "java/lang/invoke/MethodHandle" ∧ yX12_ifUp.cls ≠ "java/lang/invoke/VarHandle" ∧ (parseMethodDescriptor yX12_ifUp.desc).map (fun d => d.parameters.length) = some 2) := ⟨gt_in 1328 (by decide +kernel) (by decide +kernel), gt_in 1329 (by decide +kernel) (by decide +kernel), gt_in 27 (by decide +kernel) (by decide +kernel), gt_in 1330 (by decide +kernel) (by decide +kernel), by decide +kernel⟩
theorem cw_L_194 : uCW RL RX12 194 yX12_ifUp cX12_ifUp 3 (some .int) 2 := ⟨gt_in 1327 (by decide +kernel) (by decide +kernel), yf_X12_ifUp⟩
theorem yf_X11_bestUp : (Cond.instanceMethod yX11_bestUp) ∈ gtbl ∧ (Cond.selects RX11 yX11_bestUp yX11_bestUp) ∈ gtbl ∧ (Cond.initialized RX11) ∈ gtbl ∧ (Cond.code yX11_bestUp cX11_bestUp 5 (some .int)) ∈ gtbl ∧ (yX11_bestUp.cls = RX11 ∧ yX11_bestUp.cls ≠ "java/lang/invoke/MethodHandle" ∧ yX11_bestUp.cls ≠ "java/lang/invoke/VarHandle" ∧ (parseMethodDescriptor yX11_bestUp.desc).map (fun d => d.parameters.length) = some 0) := ⟨gt_in 341 (by decide +kernel) (by decide +kernel), gt_in 342 (by decide +kernel) (by decide +kernel), gt_in 17 (by decide +kernel) (by decide +kernel), gt_in 343 (by decide +kernel) (by decide +kernel), by decide +kernel⟩
theorem cw_L_195 : uCW RL RX11 195 yX11_bestUp cX11_bestUp 5 (some .int) 0 := ⟨gt_in 340 (by decide +kernel) (by decide +kernel), yf_X11_bestUp⟩
theorem yf_X12_bestUp : (Cond.instanceMethod yX12_bestUp) ∈ gtbl ∧ (Cond.selects RX12 yX12_bestUp yX12_bestUp) ∈ gtbl ∧ (Cond.initialized RX12) ∈ gtbl ∧ (Cond.code yX12_bestUp cX12_bestUp 5 (some .int)) ∈ gtbl ∧ (yX12_bestUp.cls = RX12 ∧ yX12_bestUp.cls ≠ "java/lang/invoke/MethodHandle" ∧ yX12_bestUp.cls ≠ "java/lang/invoke/VarHandle" ∧ (parseMethodDescriptor yX12_bestUp.desc).map (fun d => d.parameters.length) = some 0) := ⟨gt_in 1336 (by decide +kernel) (by decide +kernel), gt_in 1337 (by decide +kernel) (by decide +kernel), gt_in 27 (by decide +kernel) (by decide +kernel), gt_in 1338 (by decide +kernel) (by decide +kernel), by decide +kernel⟩
theorem cw_L_198 : uCW RL RX12 198 yX12_bestUp cX12_bestUp 5 (some .int) 0 := ⟨gt_in 1335 (by decide +kernel) (by decide +kernel), yf_X12_bestUp⟩
theorem yf_X11_worst : (Cond.instanceMethod yX11_worst) ∈ gtbl ∧ (Cond.selects RX11 yX11_worst yX11_worst) ∈ gtbl ∧ (Cond.initialized RX11) ∈ gtbl ∧ (Cond.code yX11_worst cX11_worst 5 (some .int)) ∈ gtbl ∧ (yX11_worst.cls = RX11 ∧ yX11_worst.cls ≠ "java/lang/invoke/MethodHandle" ∧ yX11_worst.cls ≠ "java/lang/invoke/VarHandle" ∧ (parseMethodDescriptor yX11_worst.desc).map (fun d => d.parameters.length) = some 0) := ⟨gt_in 439 (by decide +kernel) (by decide +kernel), gt_in 440 (by decide +kernel) (by decide +kernel), gt_in 17 (by decide +kernel) (by decide +kernel), gt_in 441 (by decide +kernel) (by decide +kernel), by decide +kernel⟩
theorem cw_L_199 : uCW RL RX11 199 yX11_worst cX11_worst 5 (some .int) 0 := ⟨gt_in 438 (by decide +kernel) (by decide +kernel), yf_X11_worst⟩
theorem yf_X12_worst : (Cond.instanceMethod yX12_worst) ∈ gtbl ∧ (Cond.selects RX12 yX12_worst yX12_worst) ∈ gtbl ∧ (Cond.initialized RX12) ∈ gtbl ∧ (Cond.code yX12_worst cX12_worst 3 (some .int)) ∈ gtbl ∧ (yX12_worst.cls = RX12 ∧ yX12_worst.cls ≠ "java/lang/invoke/MethodHandle" ∧ yX12_worst.cls ≠ "java/lang/invoke/VarHandle" ∧ (parseMethodDescriptor yX12_worst.desc).map (fun d => d.parameters.length) = some 0) := ⟨gt_in 1340 (by decide +kernel) (by decide +kernel), gt_in 1341 (by decide +kernel) (by decide +kernel), gt_in 27 (by decide +kernel) (by decide +kernel), gt_in 1342 (by decide +kernel) (by decide +kernel), by decide +kernel⟩
theorem cw_L_202 : uCW RL RX12 202 yX12_worst cX12_worst 3 (some .int) 0 := ⟨gt_in 1339 (by decide +kernel) (by decide +kernel), yf_X12_worst⟩
theorem yf_X12_owes : (Cond.instanceMethod yX12_owes) ∈ gtbl ∧ (Cond.selects RX12 yX12_owes yX12_owes) ∈ gtbl ∧ (Cond.initialized RX12) ∈ gtbl ∧ (Cond.code yX12_owes cX12_owes 3 (some .int)) ∈ gtbl ∧ (yX12_owes.cls = RX12 ∧ yX12_owes.cls ≠ "java/lang/invoke/MethodHandle" ∧ yX12_owes.cls ≠ "java/lang/invoke/VarHandle" ∧ (parseMethodDescriptor yX12_owes.desc).map (fun d => d.parameters.length) = some 1) := ⟨gt_in 1347 (by decide +kernel) (by decide +kernel), gt_in 1348 (by decide +kernel) (by decide +kernel), gt_in 27 (by decide +kernel) (by decide +kernel), gt_in 1349 (by decide +kernel) (by decide +kernel), by decide +kernel⟩
theorem cw_L_205 : uCW RL RX12 205 yX12_owes cX12_owes 3 (some .int) 1 := ⟨gt_in 1346 (by decide +kernel) (by decide +kernel), yf_X12_owes⟩
theorem yf_X12_runScript : (Cond.instanceMethod yX12_runScript) ∈ gtbl ∧ (Cond.selects RX12 yX12_runScript yX12_runScript) ∈ gtbl ∧ (Cond.initialized RX12) ∈ gtbl ∧ (Cond.code yX12_runScript cX12_runScript 8 (some .int)) ∈ gtbl ∧ (yX12_runScript.cls = RX12 ∧ yX12_runScript.cls ≠ "java/lang/invoke/MethodHandle" ∧ yX12_runScript.cls ≠ "java/lang/invoke/VarHandle" ∧ (parseMethodDescriptor yX12_runScript.desc).map (fun d => d.parameters.length) = some 2) := ⟨gt_in 1351 (by decide +kernel) (by decide +kernel), gt_in 1352 (by decide +kernel) (by decide +kernel), gt_in 27 (by decide +kernel) (by decide +kernel), gt_in 1353 (by decide +kernel) (by decide +kernel), by decide +kernel⟩
theorem cw_L_211 : uCW RL RX12 211 yX12_runScript cX12_runScript 8 (some .int) 2 := ⟨gt_in 1350 (by decide +kernel) (by decide +kernel), yf_X12_runScript⟩
theorem yf_X12_simulate : (Cond.instanceMethod yX12_simulate) ∈ gtbl ∧ (Cond.selects RX12 yX12_simulate yX12_simulate) ∈ gtbl ∧ (Cond.initialized RX12) ∈ gtbl ∧ (Cond.code yX12_simulate cX12_simulate 7 (some .int)) ∈ gtbl ∧ (yX12_simulate.cls = RX12 ∧ yX12_simulate.cls ≠ "java/lang/invoke/MethodHandle" ∧ yX12_simulate.cls ≠ "java/lang/invoke/VarHandle" ∧ (parseMethodDescriptor yX12_simulate.desc).map (fun d => d.parameters.length) = some 2) := ⟨gt_in 1359 (by decide +kernel) (by decide +kernel), gt_in 1360 (by decide +kernel) (by decide +kernel), gt_in 27 (by decide +kernel) (by decide +kernel), gt_in 1361 (by decide +kernel) (by decide +kernel), by decide +kernel⟩
theorem cw_L_215 : uCW RL RX12 215 yX12_simulate cX12_simulate 7 (some .int) 2 := ⟨gt_in 1358 (by decide +kernel) (by decide +kernel), yf_X12_simulate⟩
theorem yf_X12_save : (Cond.instanceMethod yX12_save) ∈ gtbl ∧ (Cond.selects RX12 yX12_save yX12_save) ∈ gtbl ∧ (Cond.initialized RX12) ∈ gtbl ∧ (Cond.code yX12_save cX12_save 2 (some .int)) ∈ gtbl ∧ (yX12_save.cls = RX12 ∧ yX12_save.cls ≠ "java/lang/invoke/MethodHandle" ∧ yX12_save.cls ≠ "java/lang/invoke/VarHandle" ∧ (parseMethodDescriptor yX12_save.desc).map (fun d => d.parameters.length) = some 1) := ⟨gt_in 1369 (by decide +kernel) (by decide +kernel), gt_in 1370 (by decide +kernel) (by decide +kernel), gt_in 27 (by decide +kernel) (by decide +kernel), gt_in 1371 (by decide +kernel) (by decide +kernel), by decide +kernel⟩
theorem cw_L_218 : uCW RL RX12 218 yX12_save cX12_save 2 (some .int) 1 := ⟨gt_in 1368 (by decide +kernel) (by decide +kernel), yf_X12_save⟩
theorem yf_X12_restore : (Cond.instanceMethod yX12_restore) ∈ gtbl ∧ (Cond.selects RX12 yX12_restore yX12_restore) ∈ gtbl ∧ (Cond.initialized RX12) ∈ gtbl ∧ (Cond.code yX12_restore cX12_restore 2 (some .int)) ∈ gtbl ∧ (yX12_restore.cls = RX12 ∧ yX12_restore.cls ≠ "java/lang/invoke/MethodHandle" ∧ yX12_restore.cls ≠ "java/lang/invoke/VarHandle" ∧ (parseMethodDescriptor yX12_restore.desc).map (fun d => d.parameters.length) = some 1) := ⟨gt_in 1373 (by decide +kernel) (by decide +kernel), gt_in 1374 (by decide +kernel) (by decide +kernel), gt_in 27 (by decide +kernel) (by decide +kernel), gt_in 1375 (by decide +kernel) (by decide +kernel), by decide +kernel⟩
theorem cw_L_221 : uCW RL RX12 221 yX12_restore cX12_restore 2 (some .int) 1 := ⟨gt_in 1372 (by decide +kernel) (by decide +kernel), yf_X12_restore⟩
theorem cl_109 : uCH RL 109 yL_append cL_append 4 [(0, 9, 12, 13), (0, 9, 15, 15)] 3 := ⟨gt_in 451 (by decide +kernel) (by decide +kernel), gt_in 452 (by decide +kernel) (by decide +kernel), gt_in 16 (by decide +kernel) (by decide +kernel), gt_in 453 (by decide +kernel) (by decide +kernel), by decide +kernel⟩
theorem cl_126 : uCH RL 126 yL_load cL_load 3 [(0, 8, 11, 15)] 2 := ⟨gt_in 562 (by decide +kernel) (by decide +kernel), gt_in 563 (by decide +kernel) (by decide +kernel), gt_in 16 (by decide +kernel) (by decide +kernel), gt_in 564 (by decide +kernel) (by decide +kernel), by decide +kernel⟩
theorem cl_130 : uCH RL 130 yL_about cL_about 4 [(0, 9, 12, 13)] 3 := ⟨gt_in 711 (by decide +kernel) (by decide +kernel), gt_in 712 (by decide +kernel) (by decide +kernel), gt_in 16 (by decide +kernel) (by decide +kernel), gt_in 713 (by decide +kernel) (by decide +kernel), by decide +kernel⟩
theorem cl_133 : uCH RL 133 yL_card cL_card 5 [(0, 10, 13, 28), (0, 10, 17, 13)] 4 := ⟨gt_in 727 (by decide +kernel) (by decide +kernel), gt_in 728 (by decide +kernel) (by decide +kernel), gt_in 16 (by decide +kernel) (by decide +kernel), gt_in 729 (by decide +kernel) (by decide +kernel), by decide +kernel⟩
theorem cl_137 : uCH RL 137 yL_account cL_account 5 [(0, 10, 13, 28), (0, 10, 17, 13)] 4 := ⟨gt_in 759 (by decide +kernel) (by decide +kernel), gt_in 760 (by decide +kernel) (by decide +kernel), gt_in 16 (by decide +kernel) (by decide +kernel), gt_in 761 (by decide +kernel) (by decide +kernel), by decide +kernel⟩
theorem cl_140 : uCH RL 140 yL_gate cL_gate 5 [(0, 10, 13, 28), (0, 10, 17, 13)] 4 := ⟨gt_in 775 (by decide +kernel) (by decide +kernel), gt_in 776 (by decide +kernel) (by decide +kernel), gt_in 16 (by decide +kernel) (by decide +kernel), gt_in 777 (by decide +kernel) (by decide +kernel), by decide +kernel⟩
theorem cl_143 : uCH RL 143 yL_logged cL_logged 6 [(0, 12, 15, 28), (0, 12, 19, 13)] 5 := ⟨gt_in 791 (by decide +kernel) (by decide +kernel), gt_in 792 (by decide +kernel) (by decide +kernel), gt_in 16 (by decide +kernel) (by decide +kernel), gt_in 793 (by decide +kernel) (by decide +kernel), by decide +kernel⟩
theorem cl_147 : uCH RL 147 yL_setting cL_setting 4 [(0, 9, 12, 13)] 3 := ⟨gt_in 803 (by decide +kernel) (by decide +kernel), gt_in 804 (by decide +kernel) (by decide +kernel), gt_in 16 (by decide +kernel) (by decide +kernel), gt_in 805 (by decide +kernel) (by decide +kernel), by decide +kernel⟩
theorem cl_150 : uCH RL 150 yL_issue cL_issue 4 [(0, 9, 12, 13), (0, 9, 15, 15)] 3 := ⟨gt_in 810 (by decide +kernel) (by decide +kernel), gt_in 811 (by decide +kernel) (by decide +kernel), gt_in 16 (by decide +kernel) (by decide +kernel), gt_in 812 (by decide +kernel) (by decide +kernel), by decide +kernel⟩
theorem cl_153 : uCH RL 153 yL_copy cL_copy 4 [(0, 9, 12, 28), (0, 9, 15, 15)] 3 := ⟨gt_in 828 (by decide +kernel) (by decide +kernel), gt_in 829 (by decide +kernel) (by decide +kernel), gt_in 16 (by decide +kernel) (by decide +kernel), gt_in 830 (by decide +kernel) (by decide +kernel), by decide +kernel⟩
theorem cl_156 : uCH RL 156 yL_ride cL_ride 5 [(0, 10, 13, 28)] 4 := ⟨gt_in 837 (by decide +kernel) (by decide +kernel), gt_in 838 (by decide +kernel) (by decide +kernel), gt_in 16 (by decide +kernel) (by decide +kernel), gt_in 839 (by decide +kernel) (by decide +kernel), by decide +kernel⟩
theorem cl_159 : uCH RL 159 yL_pay cL_pay 5 [(0, 10, 13, 28), (0, 10, 17, 13)] 4 := ⟨gt_in 845 (by decide +kernel) (by decide +kernel), gt_in 846 (by decide +kernel) (by decide +kernel), gt_in 16 (by decide +kernel) (by decide +kernel), gt_in 847 (by decide +kernel) (by decide +kernel), by decide +kernel⟩
theorem cl_162 : uCH RL 162 yL_pardon cL_pardon 4 [(0, 9, 12, 28), (0, 9, 15, 15)] 3 := ⟨gt_in 853 (by decide +kernel) (by decide +kernel), gt_in 854 (by decide +kernel) (by decide +kernel), gt_in 16 (by decide +kernel) (by decide +kernel), gt_in 855 (by decide +kernel) (by decide +kernel), by decide +kernel⟩
theorem cl_165 : uCH RL 165 yL_down cL_down 4 [(0, 9, 12, 28), (0, 9, 15, 15)] 3 := ⟨gt_in 868 (by decide +kernel) (by decide +kernel), gt_in 869 (by decide +kernel) (by decide +kernel), gt_in 16 (by decide +kernel) (by decide +kernel), gt_in 870 (by decide +kernel) (by decide +kernel), by decide +kernel⟩
theorem cl_168 : uCH RL 168 yL_up cL_up 4 [(0, 9, 12, 28), (0, 9, 15, 15)] 3 := ⟨gt_in 876 (by decide +kernel) (by decide +kernel), gt_in 877 (by decide +kernel) (by decide +kernel), gt_in 16 (by decide +kernel) (by decide +kernel), gt_in 878 (by decide +kernel) (by decide +kernel), by decide +kernel⟩
theorem cl_171 : uCH RL 171 yL_open cL_open 4 [(0, 9, 12, 28)] 3 := ⟨gt_in 884 (by decide +kernel) (by decide +kernel), gt_in 885 (by decide +kernel) (by decide +kernel), gt_in 16 (by decide +kernel) (by decide +kernel), gt_in 886 (by decide +kernel) (by decide +kernel), by decide +kernel⟩
theorem cl_174 : uCH RL 174 yL_fare cL_fare 5 [(0, 10, 13, 28), (0, 10, 17, 13)] 4 := ⟨gt_in 892 (by decide +kernel) (by decide +kernel), gt_in 893 (by decide +kernel) (by decide +kernel), gt_in 16 (by decide +kernel) (by decide +kernel), gt_in 894 (by decide +kernel) (by decide +kernel), by decide +kernel⟩
theorem cl_177 : uCH RL 177 yL_run cL_run 4 [(0, 9, 12, 13)] 3 := ⟨gt_in 900 (by decide +kernel) (by decide +kernel), gt_in 901 (by decide +kernel) (by decide +kernel), gt_in 16 (by decide +kernel) (by decide +kernel), gt_in 902 (by decide +kernel) (by decide +kernel), by decide +kernel⟩
theorem cl_180 : uCH RL 180 yL_set cL_set 5 [(0, 10, 13, 13)] 4 := ⟨gt_in 907 (by decide +kernel) (by decide +kernel), gt_in 908 (by decide +kernel) (by decide +kernel), gt_in 16 (by decide +kernel) (by decide +kernel), gt_in 909 (by decide +kernel) (by decide +kernel), by decide +kernel⟩
theorem cl_183 : uCH RL 183 yL_undo cL_undo 3 [(0, 8, 11, 15)] 2 := ⟨gt_in 917 (by decide +kernel) (by decide +kernel), gt_in 918 (by decide +kernel) (by decide +kernel), gt_in 16 (by decide +kernel) (by decide +kernel), gt_in 919 (by decide +kernel) (by decide +kernel), by decide +kernel⟩
theorem cl_186 : uCH RL 186 yL_would cL_would 5 [(0, 10, 13, 28)] 4 := ⟨gt_in 932 (by decide +kernel) (by decide +kernel), gt_in 933 (by decide +kernel) (by decide +kernel), gt_in 16 (by decide +kernel) (by decide +kernel), gt_in 934 (by decide +kernel) (by decide +kernel), by decide +kernel⟩
theorem cl_189 : uCH RL 189 yL_rides cL_rides 5 [(0, 10, 13, 28)] 4 := ⟨gt_in 939 (by decide +kernel) (by decide +kernel), gt_in 940 (by decide +kernel) (by decide +kernel), gt_in 16 (by decide +kernel) (by decide +kernel), gt_in 941 (by decide +kernel) (by decide +kernel), by decide +kernel⟩
theorem cl_192 : uCH RL 192 yL_ifUp cL_ifUp 5 [(0, 10, 13, 28), (0, 10, 17, 13)] 4 := ⟨gt_in 947 (by decide +kernel) (by decide +kernel), gt_in 948 (by decide +kernel) (by decide +kernel), gt_in 16 (by decide +kernel) (by decide +kernel), gt_in 949 (by decide +kernel) (by decide +kernel), by decide +kernel⟩
theorem cl_203 : uCH RL 203 yL_owes cL_owes 4 [(0, 9, 12, 28)] 3 := ⟨gt_in 954 (by decide +kernel) (by decide +kernel), gt_in 955 (by decide +kernel) (by decide +kernel), gt_in 16 (by decide +kernel) (by decide +kernel), gt_in 956 (by decide +kernel) (by decide +kernel), by decide +kernel⟩
theorem cl_208 : uCH RL 208 yL_runScript cL_runScript 6 [(0, 11, 14, 13)] 4 := ⟨gt_in 962 (by decide +kernel) (by decide +kernel), gt_in 963 (by decide +kernel) (by decide +kernel), gt_in 16 (by decide +kernel) (by decide +kernel), gt_in 964 (by decide +kernel) (by decide +kernel), by decide +kernel⟩
theorem cl_212 : uCH RL 212 yL_simulate cL_simulate 6 [(0, 11, 14, 13)] 4 := ⟨gt_in 992 (by decide +kernel) (by decide +kernel), gt_in 993 (by decide +kernel) (by decide +kernel), gt_in 16 (by decide +kernel) (by decide +kernel), gt_in 994 (by decide +kernel) (by decide +kernel), by decide +kernel⟩
theorem cl_216 : uCH RL 216 yL_save cL_save 4 [(0, 9, 12, 28)] 3 := ⟨gt_in 1018 (by decide +kernel) (by decide +kernel), gt_in 1019 (by decide +kernel) (by decide +kernel), gt_in 16 (by decide +kernel) (by decide +kernel), gt_in 1020 (by decide +kernel) (by decide +kernel), by decide +kernel⟩
theorem cl_219 : uCH RL 219 yL_restore cL_restore 4 [(0, 9, 12, 28), (0, 9, 15, 15)] 3 := ⟨gt_in 1034 (by decide +kernel) (by decide +kernel), gt_in 1035 (by decide +kernel) (by decide +kernel), gt_in 16 (by decide +kernel) (by decide +kernel), gt_in 1036 (by decide +kernel) (by decide +kernel), by decide +kernel⟩
def fLc_0 (xs : Nat → Int32) (L : Nat) (V : uV) (i : Int32) : Option uV :=
  gd (inb (i + 1) L) <|
  lt_ (xs ((i + 1) : Int32).toNatClampNeg) fun x2 =>
  bd2 (fL_append V x2) fun x4 V5 =>
  lt_ (xs ((i + 1) : Int32).toNatClampNeg) fun x7 =>
  bd2 (fX12_append (V5 19) x7) fun x10 S11 =>
  lt_ (va_up V5 19 S11) fun V13 =>
  lt_ (fX12_thrown (V13 19)) fun x16 =>
  if x16 = x4 then
    if x4 = 0 then
      lt_ ((V13 20 0 0).toInt64) fun x20 =>
      if (lg_cmp x20 ((x10 : Int32).toInt64)) = 0 then
        some V13
      else
        none
    else
      some V13
  else
    none
set_option maxHeartbeats 4000000 in
set_option maxRecDepth 20000 in
theorem kLc_0 {l : Launch} {G : UG} (hG : uAll G) (hlt : l.stackTraces = false) {b L : Nat} {xs : Nat → Int32} {V V' : uV} {i : Int32} (h : fLc_0 xs L V i = some V') {p : Program} {e : Env} {s : State} {m : MethodId} {below : List Frame} {meth : Method} {c : Code} (X : UC p s m #[.ref b] meth c code 7 RL G) (hX : va_X b L xs s s.heap) (hbl : b < s.heap.size) (hbA : ¬ uA G b) {Q : State → Prop} {H : Heap} {locs : List Loc} {ls : Array Slot} {cells slots : Nat} (hfa : cells ≤ room_1.cells ∧ slots ≤ room_1.slots) (hfb : cells + 1 ≤ room_1.cells ∧ slots + 6 ≤ room_1.slots) (M : UM G V s H locs) (hl : lv_has ls 7 [(0, .ref b), (1, .ref (ga G 18 0)), (2, .ref (ga G 19 0)), (3, .ref (ga G 20 0)), (4, .int i)])
    (kk : ∀ (H : Heap) (locs : List Loc) (ls : Array Slot), UM G V' s H locs → lv_has ls 7 [(0, .ref b), (1, .ref (ga G 18 0)), (2, .ref (ga G 19 0)), (3, .ref (ga G 20 0)), (4, .int i)] → W p l e room_1 s m #[.ref b] below meth c H locs (cells + 1) (slots + 6) Q (F0 m 2008 ls [])) : W p l e room_1 s m #[.ref b] below meth c H locs cells slots Q (F0 m 180 ls []) := by
  have hx := X.hx
  have hb := X.hb
  unfold fLc_0 at h
  refine lv_aload_n hx hb dL_law_180 rfl (lv_at hl 1 rfl) ?_
  refine lv_aload_n hx hb dL_law_181 rfl (lv_at hl 0 rfl) ?_
  refine lv_iload hx hb dL_law_182 (lv_at hl 4 rfl) ?_
  refine lv_iconst (v := 1) hx hb dL_law_184 (by decide) ?_
  refine lv_iadd hx hb dL_law_185 ?_
  obtain ⟨g1, h⟩ := gd_e h
  obtain ⟨x2, e3, h⟩ := lt_e h
  refine va_sld hx hb hX hbl hbA M.2 (inb_e g1) dL_law_186 ?_
  refine u_topi e3 ?_
  refine lv_aload_n hx hb dL_law_187 rfl (lv_at hl 3 rfl) ?_
  obtain ⟨x4, V5, e6, h⟩ := bd2_e h
  refine l_cSW X M hl.1 (kL_append hG hlt e6) cl_109 ⟨Nat.le_of_ble_eq_true rfl, Nat.le_of_ble_eq_true rfl⟩ rfl rfl (Nat.le_of_ble_eq_true rfl) hfb dL_law_188 (fun H locs M => ?_)
  refine lv_istore (lv' := [(5, .int x4), (0, .ref b), (1, .ref (ga G 18 0)), (2, .ref (ga G 19 0)), (3, .ref (ga G 20 0)), (4, .int i)]) hx hb dL_law_191 hl (by decide) rfl (fun ls hl => ?_)
  refine lv_aload_n hx hb dL_law_193 rfl (lv_at hl 3 rfl) ?_
  refine lv_aload_n hx hb dL_law_194 rfl (lv_at hl 1 rfl) ?_
  refine lv_iload hx hb dL_law_195 (lv_at hl 5 rfl) ?_
  refine lv_iconst (v := 1) hx hb dL_law_197 (by decide) ?_
  refine lv_iadd hx hb dL_law_198 ?_
  obtain ⟨x7, e8, h⟩ := lt_e h
  refine va_sld hx hb hX hbl hbA M.2 (inb_e g1) dL_law_199 ?_
  refine u_topi e8 ?_
  obtain ⟨x10, S11, e9, h⟩ := bd2_e h
  have M := um_in 19 M
  refine u_cVi X M hl.1 (kX12_append hG.2.2.1 e9) cw_L_114 ⟨Nat.le_of_ble_eq_true rfl, Nat.le_of_ble_eq_true rfl⟩ (rc_X12 X M hG.2.2.1) rfl rfl (Nat.le_of_ble_eq_true rfl) hfb dL_law_200 (fun H locs M n12 => ?_)
  obtain ⟨V13, e14, h⟩ := lt_e h
  rw [← e14] at M
  refine lv_istore (lv' := [(6, .int x10), (5, .int x4), (0, .ref b), (1, .ref (ga G 18 0)), (2, .ref (ga G 19 0)), (3, .ref (ga G 20 0)), (4, .int i)]) hx hb dL_law_203 hl (by decide) rfl (fun ls hl => ?_)
  refine lv_aload_n hx hb dL_law_205 rfl (lv_at hl 4 rfl) ?_
  obtain ⟨x16, e15, h⟩ := lt_e h
  refine u_cVi X M hl.1 (kX12_thrown hG.2.2.1 rfl e15.symm) cw_L_115 ⟨Nat.le_of_ble_eq_true rfl, Nat.le_of_ble_eq_true rfl⟩ (rc_X12 X M hG.2.2.1) rfl rfl (Nat.le_of_ble_eq_true rfl) hfb dL_law_206 (fun H locs M n17 => ?_)
  refine lv_iload hx hb dL_law_209 (lv_at hl 1 rfl) ?_
  refine lv_icmp_eq (tgt := 216) hx hb dL_law_211 (by decide) (fun c18 => ?_) (fun c18 => ?_)
  · have h := it_t h c18
    refine lv_iload hx hb dL_law_216 (lv_at hl 1 rfl) ?_
    refine lv_if_ne (tgt := 233) hx hb dL_law_218 (by decide) (fun c19 => ?_) (fun c19 => ?_)
    · have h := it_f h c19
      refine lv_goto (tgt := 2008) hx hb dL_law_233 (by decide) ?_
      exact kk H locs ls (Option.some.inj h ▸ M) (lv_sub hl [2, 3, 4, 5, 6] rfl)
    · have h := it_t h c19
      refine lv_aload_n hx hb dL_law_221 rfl (lv_at hl 5 rfl) ?_
      refine lv_iconst (v := 0) hx hb dL_law_222 (by decide) ?_
      obtain ⟨x20, e21, h⟩ := lt_e h
      refine u_lald X M hG.2.2.2.1 e21 dL_law_223 ?_
      refine lv_iload hx hb dL_law_224 (lv_at hl 0 rfl) ?_
      refine lv_i2l hx hb dL_law_226 rfl ?_
      refine W.lcmp hx hb dL_law_227 ?_
      refine lv_if_eq (tgt := 233) hx hb dL_law_228 (by decide) (fun c22 => ?_) (fun c22 => ?_)
      · have h := it_t h c22
        refine lv_goto (tgt := 2008) hx hb dL_law_233 (by decide) ?_
        exact kk H locs ls (Option.some.inj h ▸ M) (lv_sub hl [2, 3, 4, 5, 6] rfl)
      · have h := it_f h c22
        refine lv_iconst (v := 0) hx hb dL_law_231 (by decide) ?_
        cases h
  · have h := it_f h c18
    refine lv_iconst (v := 0) hx hb dL_law_214 (by decide) ?_
    cases h
def fLc_1 (xs : Nat → Int32) (L : Nat) (V : uV) (i : Int32) : Option uV :=
  bd2 (fX11_clearText V) fun x2 S3 =>
  bd2 (fX12_clearText (S3 19)) fun x6 S7 =>
  lt_ (va_up S3 19 S7) fun V9 =>
  if x2 = x6 then
    some V9
  else
    none
set_option maxHeartbeats 4000000 in
set_option maxRecDepth 20000 in
theorem kLc_1 {l : Launch} {G : UG} (hG : uAll G) (hlt : l.stackTraces = false) {b L : Nat} {xs : Nat → Int32} {V V' : uV} {i : Int32} (h : fLc_1 xs L V i = some V') {p : Program} {e : Env} {s : State} {m : MethodId} {below : List Frame} {meth : Method} {c : Code} (X : UC p s m #[.ref b] meth c code 7 RL G) (hX : va_X b L xs s s.heap) (hbl : b < s.heap.size) (hbA : ¬ uA G b) {Q : State → Prop} {H : Heap} {locs : List Loc} {ls : Array Slot} {cells slots : Nat} (hfa : cells ≤ room_1.cells ∧ slots ≤ room_1.slots) (hfb : cells + 1 ≤ room_1.cells ∧ slots + 6 ≤ room_1.slots) (M : UM G V s H locs) (hl : lv_has ls 7 [(0, .ref b), (1, .ref (ga G 18 0)), (2, .ref (ga G 19 0)), (3, .ref (ga G 20 0)), (4, .int i)])
    (kk : ∀ (H : Heap) (locs : List Loc) (ls : Array Slot), UM G V' s H locs → lv_has ls 7 [(0, .ref b), (1, .ref (ga G 18 0)), (2, .ref (ga G 19 0)), (3, .ref (ga G 20 0)), (4, .int i)] → W p l e room_1 s m #[.ref b] below meth c H locs (cells + 1) (slots + 6) Q (F0 m 2008 ls [])) : W p l e room_1 s m #[.ref b] below meth c H locs cells slots Q (F0 m 236 ls []) := by
  have hx := X.hx
  have hb := X.hb
  unfold fLc_1 at h
  refine lv_aload_n hx hb dL_law_236 rfl (lv_at hl 1 rfl) ?_
  obtain ⟨x2, S3, e1, h⟩ := bd2_e h
  refine u_cVi X M hl.1 (kX11_clearText hG e1) cw_L_118 ⟨Nat.le_of_ble_eq_true rfl, Nat.le_of_ble_eq_true rfl⟩ (rc_X11 X M hG.2.1) rfl rfl (Nat.le_of_ble_eq_true rfl) hfa dL_law_237 (fun H locs M n4 => ?_)
  refine lv_aload_n hx hb dL_law_240 rfl (lv_at hl 2 rfl) ?_
  obtain ⟨x6, S7, e5, h⟩ := bd2_e h
  have M := um_in 19 M
  refine u_cVi X M hl.1 (kX12_clearText hG.2.2.1 e5) cw_L_121 ⟨Nat.le_of_ble_eq_true rfl, Nat.le_of_ble_eq_true rfl⟩ (rc_X12 X M hG.2.2.1) rfl rfl (Nat.le_of_ble_eq_true rfl) hfa dL_law_241 (fun H locs M n8 => ?_)
  obtain ⟨V9, e10, h⟩ := lt_e h
  rw [← e10] at M
  refine lv_icmp_eq (tgt := 2008) hx hb dL_law_244 (by decide) (fun c11 => ?_) (fun c11 => ?_)
  · have h := it_t h c11
    exact W.widen (k := cells + 1) (n := slots + 6) (by omega) (by omega) (kk H locs ls (Option.some.inj h ▸ M) (lv_sub hl [0, 1, 2, 3, 4] rfl))
  · have h := it_f h c11
    refine lv_iconst (v := 0) hx hb dL_law_247 (by decide) ?_
    cases h
def fLc_2 (xs : Nat → Int32) (L : Nat) (V : uV) (i : Int32) : Option uV :=
  bd2 (fX11_errorPosition V) fun x2 S3 =>
  bd2 (fX12_errorPosition (S3 19)) fun x6 S7 =>
  lt_ (va_up S3 19 S7) fun V9 =>
  if x2 = x6 then
    some V9
  else
    none
set_option maxHeartbeats 4000000 in
set_option maxRecDepth 20000 in
theorem kLc_2 {l : Launch} {G : UG} (hG : uAll G) (hlt : l.stackTraces = false) {b L : Nat} {xs : Nat → Int32} {V V' : uV} {i : Int32} (h : fLc_2 xs L V i = some V') {p : Program} {e : Env} {s : State} {m : MethodId} {below : List Frame} {meth : Method} {c : Code} (X : UC p s m #[.ref b] meth c code 7 RL G) (hX : va_X b L xs s s.heap) (hbl : b < s.heap.size) (hbA : ¬ uA G b) {Q : State → Prop} {H : Heap} {locs : List Loc} {ls : Array Slot} {cells slots : Nat} (hfa : cells ≤ room_1.cells ∧ slots ≤ room_1.slots) (hfb : cells + 1 ≤ room_1.cells ∧ slots + 6 ≤ room_1.slots) (M : UM G V s H locs) (hl : lv_has ls 7 [(0, .ref b), (1, .ref (ga G 18 0)), (2, .ref (ga G 19 0)), (3, .ref (ga G 20 0)), (4, .int i)])
    (kk : ∀ (H : Heap) (locs : List Loc) (ls : Array Slot), UM G V' s H locs → lv_has ls 7 [(0, .ref b), (1, .ref (ga G 18 0)), (2, .ref (ga G 19 0)), (3, .ref (ga G 20 0)), (4, .int i)] → W p l e room_1 s m #[.ref b] below meth c H locs (cells + 1) (slots + 6) Q (F0 m 2008 ls [])) : W p l e room_1 s m #[.ref b] below meth c H locs cells slots Q (F0 m 249 ls []) := by
  have hx := X.hx
  have hb := X.hb
  unfold fLc_2 at h
  refine lv_aload_n hx hb dL_law_249 rfl (lv_at hl 1 rfl) ?_
  obtain ⟨x2, S3, e1, h⟩ := bd2_e h
  refine u_cVi X M hl.1 (kX11_errorPosition hG e1) cw_L_122 ⟨Nat.le_of_ble_eq_true rfl, Nat.le_of_ble_eq_true rfl⟩ (rc_X11 X M hG.2.1) rfl rfl (Nat.le_of_ble_eq_true rfl) hfa dL_law_250 (fun H locs M n4 => ?_)
  refine lv_aload_n hx hb dL_law_253 rfl (lv_at hl 2 rfl) ?_
  obtain ⟨x6, S7, e5, h⟩ := bd2_e h
  have M := um_in 19 M
  refine u_cVi X M hl.1 (kX12_errorPosition hG.2.2.1 e5) cw_L_125 ⟨Nat.le_of_ble_eq_true rfl, Nat.le_of_ble_eq_true rfl⟩ (rc_X12 X M hG.2.2.1) rfl rfl (Nat.le_of_ble_eq_true rfl) hfa dL_law_254 (fun H locs M n8 => ?_)
  obtain ⟨V9, e10, h⟩ := lt_e h
  rw [← e10] at M
  refine lv_icmp_eq (tgt := 2008) hx hb dL_law_257 (by decide) (fun c11 => ?_) (fun c11 => ?_)
  · have h := it_t h c11
    exact W.widen (k := cells + 1) (n := slots + 6) (by omega) (by omega) (kk H locs ls (Option.some.inj h ▸ M) (lv_sub hl [0, 1, 2, 3, 4] rfl))
  · have h := it_f h c11
    refine lv_iconst (v := 0) hx hb dL_law_260 (by decide) ?_
    cases h
def fLc_3 (xs : Nat → Int32) (L : Nat) (V : uV) (i : Int32) : Option uV :=
  bd2 (fL_load V ) fun x1 V2 =>
  bd2 (fX12_load (V2 19)) fun x5 S6 =>
  lt_ (va_up V2 19 S6) fun V8 =>
  lt_ (fX12_thrown (V8 19)) fun x11 =>
  if x11 = x1 then
    if x1 = 0 then
      lt_ ((V8 20 0 0).toInt64) fun x15 =>
      if (lg_cmp x15 ((x5 : Int32).toInt64)) = 0 then
        some V8
      else
        none
    else
      some V8
  else
    none
set_option maxHeartbeats 4000000 in
set_option maxRecDepth 20000 in
theorem kLc_3 {l : Launch} {G : UG} (hG : uAll G) (hlt : l.stackTraces = false) {b L : Nat} {xs : Nat → Int32} {V V' : uV} {i : Int32} (h : fLc_3 xs L V i = some V') {p : Program} {e : Env} {s : State} {m : MethodId} {below : List Frame} {meth : Method} {c : Code} (X : UC p s m #[.ref b] meth c code 7 RL G) (hX : va_X b L xs s s.heap) (hbl : b < s.heap.size) (hbA : ¬ uA G b) {Q : State → Prop} {H : Heap} {locs : List Loc} {ls : Array Slot} {cells slots : Nat} (hfa : cells ≤ room_1.cells ∧ slots ≤ room_1.slots) (hfb : cells + 1 ≤ room_1.cells ∧ slots + 6 ≤ room_1.slots) (M : UM G V s H locs) (hl : lv_has ls 7 [(0, .ref b), (1, .ref (ga G 18 0)), (2, .ref (ga G 19 0)), (3, .ref (ga G 20 0)), (4, .int i)])
    (kk : ∀ (H : Heap) (locs : List Loc) (ls : Array Slot), UM G V' s H locs → lv_has ls 7 [(0, .ref b), (1, .ref (ga G 18 0)), (2, .ref (ga G 19 0)), (3, .ref (ga G 20 0)), (4, .int i)] → W p l e room_1 s m #[.ref b] below meth c H locs (cells + 1) (slots + 6) Q (F0 m 2008 ls [])) : W p l e room_1 s m #[.ref b] below meth c H locs cells slots Q (F0 m 262 ls []) := by
  have hx := X.hx
  have hb := X.hb
  unfold fLc_3 at h
  refine lv_aload_n hx hb dL_law_262 rfl (lv_at hl 1 rfl) ?_
  refine lv_aload_n hx hb dL_law_263 rfl (lv_at hl 3 rfl) ?_
  obtain ⟨x1, V2, e3, h⟩ := bd2_e h
  refine l_cSW X M hl.1 (kL_load hG hlt e3) cl_126 ⟨Nat.le_of_ble_eq_true rfl, Nat.le_of_ble_eq_true rfl⟩ rfl rfl (Nat.le_of_ble_eq_true rfl) hfb dL_law_264 (fun H locs M => ?_)
  refine lv_istore (lv' := [(5, .int x1), (0, .ref b), (1, .ref (ga G 18 0)), (2, .ref (ga G 19 0)), (3, .ref (ga G 20 0)), (4, .int i)]) hx hb dL_law_267 hl (by decide) rfl (fun ls hl => ?_)
  refine lv_aload_n hx hb dL_law_269 rfl (lv_at hl 3 rfl) ?_
  obtain ⟨x5, S6, e4, h⟩ := bd2_e h
  have M := um_in 19 M
  refine u_cVi X M hl.1 (kX12_load hG.2.2.1 e4) cw_L_129 ⟨Nat.le_of_ble_eq_true rfl, Nat.le_of_ble_eq_true rfl⟩ (rc_X12 X M hG.2.2.1) rfl rfl (Nat.le_of_ble_eq_true rfl) hfb dL_law_270 (fun H locs M n7 => ?_)
  obtain ⟨V8, e9, h⟩ := lt_e h
  rw [← e9] at M
  refine lv_istore (lv' := [(6, .int x5), (5, .int x1), (0, .ref b), (1, .ref (ga G 18 0)), (2, .ref (ga G 19 0)), (3, .ref (ga G 20 0)), (4, .int i)]) hx hb dL_law_273 hl (by decide) rfl (fun ls hl => ?_)
  refine lv_aload_n hx hb dL_law_275 rfl (lv_at hl 4 rfl) ?_
  obtain ⟨x11, e10, h⟩ := lt_e h
  refine u_cVi X M hl.1 (kX12_thrown hG.2.2.1 rfl e10.symm) cw_L_115 ⟨Nat.le_of_ble_eq_true rfl, Nat.le_of_ble_eq_true rfl⟩ (rc_X12 X M hG.2.2.1) rfl rfl (Nat.le_of_ble_eq_true rfl) hfb dL_law_276 (fun H locs M n12 => ?_)
  refine lv_iload hx hb dL_law_279 (lv_at hl 1 rfl) ?_
  refine lv_icmp_eq (tgt := 286) hx hb dL_law_281 (by decide) (fun c13 => ?_) (fun c13 => ?_)
  · have h := it_t h c13
    refine lv_iload hx hb dL_law_286 (lv_at hl 1 rfl) ?_
    refine lv_if_ne (tgt := 303) hx hb dL_law_288 (by decide) (fun c14 => ?_) (fun c14 => ?_)
    · have h := it_f h c14
      refine lv_goto (tgt := 2008) hx hb dL_law_303 (by decide) ?_
      exact kk H locs ls (Option.some.inj h ▸ M) (lv_sub hl [2, 3, 4, 5, 6] rfl)
    · have h := it_t h c14
      refine lv_aload_n hx hb dL_law_291 rfl (lv_at hl 5 rfl) ?_
      refine lv_iconst (v := 0) hx hb dL_law_292 (by decide) ?_
      obtain ⟨x15, e16, h⟩ := lt_e h
      refine u_lald X M hG.2.2.2.1 e16 dL_law_293 ?_
      refine lv_iload hx hb dL_law_294 (lv_at hl 0 rfl) ?_
      refine lv_i2l hx hb dL_law_296 rfl ?_
      refine W.lcmp hx hb dL_law_297 ?_
      refine lv_if_eq (tgt := 303) hx hb dL_law_298 (by decide) (fun c17 => ?_) (fun c17 => ?_)
      · have h := it_t h c17
        refine lv_goto (tgt := 2008) hx hb dL_law_303 (by decide) ?_
        exact kk H locs ls (Option.some.inj h ▸ M) (lv_sub hl [2, 3, 4, 5, 6] rfl)
      · have h := it_f h c17
        refine lv_iconst (v := 0) hx hb dL_law_301 (by decide) ?_
        cases h
  · have h := it_f h c13
    refine lv_iconst (v := 0) hx hb dL_law_284 (by decide) ?_
    cases h
def fLc_4 (xs : Nat → Int32) (L : Nat) (V : uV) (i : Int32) : Option uV :=
  gd (inb (i + 1) L) <|
  lt_ (xs ((i + 1) : Int32).toNatClampNeg) fun x2 =>
  bd2 (fL_about V x2) fun x4 V5 =>
  lt_ (xs ((i + 1) : Int32).toNatClampNeg) fun x7 =>
  bd2 (fX12_about (V5 19) x7) fun x10 S11 =>
  lt_ (va_up V5 19 S11) fun V13 =>
  lt_ (fX12_thrown (V13 19)) fun x16 =>
  if x16 = x4 then
    if x4 = 0 then
      lt_ ((V13 20 0 0).toInt64) fun x20 =>
      if (lg_cmp x20 ((x10 : Int32).toInt64)) = 0 then
        some V13
      else
        none
    else
      some V13
  else
    none
set_option maxHeartbeats 4000000 in
set_option maxRecDepth 20000 in
theorem kLc_4 {l : Launch} {G : UG} (hG : uAll G) (hlt : l.stackTraces = false) {b L : Nat} {xs : Nat → Int32} {V V' : uV} {i : Int32} (h : fLc_4 xs L V i = some V') {p : Program} {e : Env} {s : State} {m : MethodId} {below : List Frame} {meth : Method} {c : Code} (X : UC p s m #[.ref b] meth c code 7 RL G) (hX : va_X b L xs s s.heap) (hbl : b < s.heap.size) (hbA : ¬ uA G b) {Q : State → Prop} {H : Heap} {locs : List Loc} {ls : Array Slot} {cells slots : Nat} (hfa : cells ≤ room_1.cells ∧ slots ≤ room_1.slots) (hfb : cells + 1 ≤ room_1.cells ∧ slots + 6 ≤ room_1.slots) (M : UM G V s H locs) (hl : lv_has ls 7 [(0, .ref b), (1, .ref (ga G 18 0)), (2, .ref (ga G 19 0)), (3, .ref (ga G 20 0)), (4, .int i)])
    (kk : ∀ (H : Heap) (locs : List Loc) (ls : Array Slot), UM G V' s H locs → lv_has ls 7 [(0, .ref b), (1, .ref (ga G 18 0)), (2, .ref (ga G 19 0)), (3, .ref (ga G 20 0)), (4, .int i)] → W p l e room_1 s m #[.ref b] below meth c H locs (cells + 1) (slots + 6) Q (F0 m 2008 ls [])) : W p l e room_1 s m #[.ref b] below meth c H locs cells slots Q (F0 m 306 ls []) := by
  have hx := X.hx
  have hb := X.hb
  unfold fLc_4 at h
  refine lv_aload_n hx hb dL_law_306 rfl (lv_at hl 1 rfl) ?_
  refine lv_aload_n hx hb dL_law_307 rfl (lv_at hl 0 rfl) ?_
  refine lv_iload hx hb dL_law_308 (lv_at hl 4 rfl) ?_
  refine lv_iconst (v := 1) hx hb dL_law_310 (by decide) ?_
  refine lv_iadd hx hb dL_law_311 ?_
  obtain ⟨g1, h⟩ := gd_e h
  obtain ⟨x2, e3, h⟩ := lt_e h
  refine va_sld hx hb hX hbl hbA M.2 (inb_e g1) dL_law_312 ?_
  refine u_topi e3 ?_
  refine lv_aload_n hx hb dL_law_313 rfl (lv_at hl 3 rfl) ?_
  obtain ⟨x4, V5, e6, h⟩ := bd2_e h
  refine l_cSW X M hl.1 (kL_about hG hlt e6) cl_130 ⟨Nat.le_of_ble_eq_true rfl, Nat.le_of_ble_eq_true rfl⟩ rfl rfl (Nat.le_of_ble_eq_true rfl) hfb dL_law_314 (fun H locs M => ?_)
  refine lv_istore (lv' := [(5, .int x4), (0, .ref b), (1, .ref (ga G 18 0)), (2, .ref (ga G 19 0)), (3, .ref (ga G 20 0)), (4, .int i)]) hx hb dL_law_317 hl (by decide) rfl (fun ls hl => ?_)
  refine lv_aload_n hx hb dL_law_319 rfl (lv_at hl 3 rfl) ?_
  refine lv_aload_n hx hb dL_law_320 rfl (lv_at hl 1 rfl) ?_
  refine lv_iload hx hb dL_law_321 (lv_at hl 5 rfl) ?_
  refine lv_iconst (v := 1) hx hb dL_law_323 (by decide) ?_
  refine lv_iadd hx hb dL_law_324 ?_
  obtain ⟨x7, e8, h⟩ := lt_e h
  refine va_sld hx hb hX hbl hbA M.2 (inb_e g1) dL_law_325 ?_
  refine u_topi e8 ?_
  obtain ⟨x10, S11, e9, h⟩ := bd2_e h
  have M := um_in 19 M
  refine u_cVi X M hl.1 (kX12_about hG.2.2.1 e9) cw_L_132 ⟨Nat.le_of_ble_eq_true rfl, Nat.le_of_ble_eq_true rfl⟩ (rc_X12 X M hG.2.2.1) rfl rfl (Nat.le_of_ble_eq_true rfl) hfb dL_law_326 (fun H locs M n12 => ?_)
  obtain ⟨V13, e14, h⟩ := lt_e h
  rw [← e14] at M
  refine lv_istore (lv' := [(6, .int x10), (5, .int x4), (0, .ref b), (1, .ref (ga G 18 0)), (2, .ref (ga G 19 0)), (3, .ref (ga G 20 0)), (4, .int i)]) hx hb dL_law_329 hl (by decide) rfl (fun ls hl => ?_)
  refine lv_aload_n hx hb dL_law_331 rfl (lv_at hl 4 rfl) ?_
  obtain ⟨x16, e15, h⟩ := lt_e h
  refine u_cVi X M hl.1 (kX12_thrown hG.2.2.1 rfl e15.symm) cw_L_115 ⟨Nat.le_of_ble_eq_true rfl, Nat.le_of_ble_eq_true rfl⟩ (rc_X12 X M hG.2.2.1) rfl rfl (Nat.le_of_ble_eq_true rfl) hfb dL_law_332 (fun H locs M n17 => ?_)
  refine lv_iload hx hb dL_law_335 (lv_at hl 1 rfl) ?_
  refine lv_icmp_eq (tgt := 342) hx hb dL_law_337 (by decide) (fun c18 => ?_) (fun c18 => ?_)
  · have h := it_t h c18
    refine lv_iload hx hb dL_law_342 (lv_at hl 1 rfl) ?_
    refine lv_if_ne (tgt := 359) hx hb dL_law_344 (by decide) (fun c19 => ?_) (fun c19 => ?_)
    · have h := it_f h c19
      refine lv_goto (tgt := 2008) hx hb dL_law_359 (by decide) ?_
      exact kk H locs ls (Option.some.inj h ▸ M) (lv_sub hl [2, 3, 4, 5, 6] rfl)
    · have h := it_t h c19
      refine lv_aload_n hx hb dL_law_347 rfl (lv_at hl 5 rfl) ?_
      refine lv_iconst (v := 0) hx hb dL_law_348 (by decide) ?_
      obtain ⟨x20, e21, h⟩ := lt_e h
      refine u_lald X M hG.2.2.2.1 e21 dL_law_349 ?_
      refine lv_iload hx hb dL_law_350 (lv_at hl 0 rfl) ?_
      refine lv_i2l hx hb dL_law_352 rfl ?_
      refine W.lcmp hx hb dL_law_353 ?_
      refine lv_if_eq (tgt := 359) hx hb dL_law_354 (by decide) (fun c22 => ?_) (fun c22 => ?_)
      · have h := it_t h c22
        refine lv_goto (tgt := 2008) hx hb dL_law_359 (by decide) ?_
        exact kk H locs ls (Option.some.inj h ▸ M) (lv_sub hl [2, 3, 4, 5, 6] rfl)
      · have h := it_f h c22
        refine lv_iconst (v := 0) hx hb dL_law_357 (by decide) ?_
        cases h
  · have h := it_f h c18
    refine lv_iconst (v := 0) hx hb dL_law_340 (by decide) ?_
    cases h
def fLc_5 (xs : Nat → Int32) (L : Nat) (V : uV) (i : Int32) : Option uV :=
  gd (inb (i + 1) L) <|
  lt_ (xs ((i + 1) : Int32).toNatClampNeg) fun x2 =>
  gd (inb (i + 2) L) <|
  lt_ (xs ((i + 2) : Int32).toNatClampNeg) fun x5 =>
  bd2 (fL_card V x2 x5) fun x7 V8 =>
  lt_ (xs ((i + 1) : Int32).toNatClampNeg) fun x10 =>
  lt_ (xs ((i + 2) : Int32).toNatClampNeg) fun x12 =>
  bd2 (fX12_card (V8 19) x10 x12) fun x15 S16 =>
  lt_ (va_up V8 19 S16) fun V18 =>
  lt_ (fX12_thrown (V18 19)) fun x21 =>
  if x21 = x7 then
    if x7 = 0 then
      lt_ ((V18 20 0 0).toInt64) fun x25 =>
      if (lg_cmp x25 ((x15 : Int32).toInt64)) = 0 then
        some V18
      else
        none
    else
      some V18
  else
    none
set_option maxHeartbeats 4000000 in
set_option maxRecDepth 20000 in
theorem kLc_5 {l : Launch} {G : UG} (hG : uAll G) (hlt : l.stackTraces = false) {b L : Nat} {xs : Nat → Int32} {V V' : uV} {i : Int32} (h : fLc_5 xs L V i = some V') {p : Program} {e : Env} {s : State} {m : MethodId} {below : List Frame} {meth : Method} {c : Code} (X : UC p s m #[.ref b] meth c code 7 RL G) (hX : va_X b L xs s s.heap) (hbl : b < s.heap.size) (hbA : ¬ uA G b) {Q : State → Prop} {H : Heap} {locs : List Loc} {ls : Array Slot} {cells slots : Nat} (hfa : cells ≤ room_1.cells ∧ slots ≤ room_1.slots) (hfb : cells + 1 ≤ room_1.cells ∧ slots + 6 ≤ room_1.slots) (M : UM G V s H locs) (hl : lv_has ls 7 [(0, .ref b), (1, .ref (ga G 18 0)), (2, .ref (ga G 19 0)), (3, .ref (ga G 20 0)), (4, .int i)])
    (kk : ∀ (H : Heap) (locs : List Loc) (ls : Array Slot), UM G V' s H locs → lv_has ls 7 [(0, .ref b), (1, .ref (ga G 18 0)), (2, .ref (ga G 19 0)), (3, .ref (ga G 20 0)), (4, .int i)] → W p l e room_1 s m #[.ref b] below meth c H locs (cells + 1) (slots + 6) Q (F0 m 2008 ls [])) : W p l e room_1 s m #[.ref b] below meth c H locs cells slots Q (F0 m 362 ls []) := by
  have hx := X.hx
  have hb := X.hb
  unfold fLc_5 at h
  refine lv_aload_n hx hb dL_law_362 rfl (lv_at hl 1 rfl) ?_
  refine lv_aload_n hx hb dL_law_363 rfl (lv_at hl 0 rfl) ?_
  refine lv_iload hx hb dL_law_364 (lv_at hl 4 rfl) ?_
  refine lv_iconst (v := 1) hx hb dL_law_366 (by decide) ?_
  refine lv_iadd hx hb dL_law_367 ?_
  obtain ⟨g1, h⟩ := gd_e h
  obtain ⟨x2, e3, h⟩ := lt_e h
  refine va_sld hx hb hX hbl hbA M.2 (inb_e g1) dL_law_368 ?_
  refine u_topi e3 ?_
  refine lv_aload_n hx hb dL_law_369 rfl (lv_at hl 0 rfl) ?_
  refine lv_iload hx hb dL_law_370 (lv_at hl 4 rfl) ?_
  refine lv_iconst (v := 2) hx hb dL_law_372 (by decide) ?_
  refine lv_iadd hx hb dL_law_373 ?_
  obtain ⟨g4, h⟩ := gd_e h
  obtain ⟨x5, e6, h⟩ := lt_e h
  refine va_sld hx hb hX hbl hbA M.2 (inb_e g4) dL_law_374 ?_
  refine u_topi e6 ?_
  refine lv_aload_n hx hb dL_law_375 rfl (lv_at hl 3 rfl) ?_
  obtain ⟨x7, V8, e9, h⟩ := bd2_e h
  refine l_cSW X M hl.1 (kL_card hG hlt e9) cl_133 ⟨Nat.le_of_ble_eq_true rfl, Nat.le_of_ble_eq_true rfl⟩ rfl rfl (Nat.le_of_ble_eq_true rfl) hfb dL_law_376 (fun H locs M => ?_)
  refine lv_istore (lv' := [(5, .int x7), (0, .ref b), (1, .ref (ga G 18 0)), (2, .ref (ga G 19 0)), (3, .ref (ga G 20 0)), (4, .int i)]) hx hb dL_law_379 hl (by decide) rfl (fun ls hl => ?_)
  refine lv_aload_n hx hb dL_law_381 rfl (lv_at hl 3 rfl) ?_
  refine lv_aload_n hx hb dL_law_382 rfl (lv_at hl 1 rfl) ?_
  refine lv_iload hx hb dL_law_383 (lv_at hl 5 rfl) ?_
  refine lv_iconst (v := 1) hx hb dL_law_385 (by decide) ?_
  refine lv_iadd hx hb dL_law_386 ?_
  obtain ⟨x10, e11, h⟩ := lt_e h
  refine va_sld hx hb hX hbl hbA M.2 (inb_e g1) dL_law_387 ?_
  refine u_topi e11 ?_
  refine lv_aload_n hx hb dL_law_388 rfl (lv_at hl 1 rfl) ?_
  refine lv_iload hx hb dL_law_389 (lv_at hl 5 rfl) ?_
  refine lv_iconst (v := 2) hx hb dL_law_391 (by decide) ?_
  refine lv_iadd hx hb dL_law_392 ?_
  obtain ⟨x12, e13, h⟩ := lt_e h
  refine va_sld hx hb hX hbl hbA M.2 (inb_e g4) dL_law_393 ?_
  refine u_topi e13 ?_
  obtain ⟨x15, S16, e14, h⟩ := bd2_e h
  have M := um_in 19 M
  refine u_cVi X M hl.1 (kX12_card hG.2.2.1 e14) cw_L_136 ⟨Nat.le_of_ble_eq_true rfl, Nat.le_of_ble_eq_true rfl⟩ (rc_X12 X M hG.2.2.1) rfl rfl (Nat.le_of_ble_eq_true rfl) hfb dL_law_394 (fun H locs M n17 => ?_)
  obtain ⟨V18, e19, h⟩ := lt_e h
  rw [← e19] at M
  refine lv_istore (lv' := [(6, .int x15), (5, .int x7), (0, .ref b), (1, .ref (ga G 18 0)), (2, .ref (ga G 19 0)), (3, .ref (ga G 20 0)), (4, .int i)]) hx hb dL_law_397 hl (by decide) rfl (fun ls hl => ?_)
  refine lv_aload_n hx hb dL_law_399 rfl (lv_at hl 4 rfl) ?_
  obtain ⟨x21, e20, h⟩ := lt_e h
  refine u_cVi X M hl.1 (kX12_thrown hG.2.2.1 rfl e20.symm) cw_L_115 ⟨Nat.le_of_ble_eq_true rfl, Nat.le_of_ble_eq_true rfl⟩ (rc_X12 X M hG.2.2.1) rfl rfl (Nat.le_of_ble_eq_true rfl) hfb dL_law_400 (fun H locs M n22 => ?_)
  refine lv_iload hx hb dL_law_403 (lv_at hl 1 rfl) ?_
  refine lv_icmp_eq (tgt := 410) hx hb dL_law_405 (by decide) (fun c23 => ?_) (fun c23 => ?_)
  · have h := it_t h c23
    refine lv_iload hx hb dL_law_410 (lv_at hl 1 rfl) ?_
    refine lv_if_ne (tgt := 427) hx hb dL_law_412 (by decide) (fun c24 => ?_) (fun c24 => ?_)
    · have h := it_f h c24
      refine lv_goto (tgt := 2008) hx hb dL_law_427 (by decide) ?_
      exact kk H locs ls (Option.some.inj h ▸ M) (lv_sub hl [2, 3, 4, 5, 6] rfl)
    · have h := it_t h c24
      refine lv_aload_n hx hb dL_law_415 rfl (lv_at hl 5 rfl) ?_
      refine lv_iconst (v := 0) hx hb dL_law_416 (by decide) ?_
      obtain ⟨x25, e26, h⟩ := lt_e h
      refine u_lald X M hG.2.2.2.1 e26 dL_law_417 ?_
      refine lv_iload hx hb dL_law_418 (lv_at hl 0 rfl) ?_
      refine lv_i2l hx hb dL_law_420 rfl ?_
      refine W.lcmp hx hb dL_law_421 ?_
      refine lv_if_eq (tgt := 427) hx hb dL_law_422 (by decide) (fun c27 => ?_) (fun c27 => ?_)
      · have h := it_t h c27
        refine lv_goto (tgt := 2008) hx hb dL_law_427 (by decide) ?_
        exact kk H locs ls (Option.some.inj h ▸ M) (lv_sub hl [2, 3, 4, 5, 6] rfl)
      · have h := it_f h c27
        refine lv_iconst (v := 0) hx hb dL_law_425 (by decide) ?_
        cases h
  · have h := it_f h c23
    refine lv_iconst (v := 0) hx hb dL_law_408 (by decide) ?_
    cases h
def fLc_6 (xs : Nat → Int32) (L : Nat) (V : uV) (i : Int32) : Option uV :=
  gd (inb (i + 1) L) <|
  lt_ (xs ((i + 1) : Int32).toNatClampNeg) fun x2 =>
  gd (inb (i + 2) L) <|
  lt_ (xs ((i + 2) : Int32).toNatClampNeg) fun x5 =>
  bd2 (fL_account V x2 x5) fun x7 V8 =>
  lt_ (xs ((i + 1) : Int32).toNatClampNeg) fun x10 =>
  lt_ (xs ((i + 2) : Int32).toNatClampNeg) fun x12 =>
  bd2 (fX12_account (V8 19) x10 x12) fun x15 S16 =>
  lt_ (va_up V8 19 S16) fun V18 =>
  lt_ (fX12_thrown (V18 19)) fun x21 =>
  if x21 = x7 then
    if x7 = 0 then
      lt_ ((V18 20 0 0).toInt64) fun x25 =>
      if (lg_cmp x25 ((x15 : Int32).toInt64)) = 0 then
        some V18
      else
        none
    else
      some V18
  else
    none
set_option maxHeartbeats 4000000 in
set_option maxRecDepth 20000 in
theorem kLc_6 {l : Launch} {G : UG} (hG : uAll G) (hlt : l.stackTraces = false) {b L : Nat} {xs : Nat → Int32} {V V' : uV} {i : Int32} (h : fLc_6 xs L V i = some V') {p : Program} {e : Env} {s : State} {m : MethodId} {below : List Frame} {meth : Method} {c : Code} (X : UC p s m #[.ref b] meth c code 7 RL G) (hX : va_X b L xs s s.heap) (hbl : b < s.heap.size) (hbA : ¬ uA G b) {Q : State → Prop} {H : Heap} {locs : List Loc} {ls : Array Slot} {cells slots : Nat} (hfa : cells ≤ room_1.cells ∧ slots ≤ room_1.slots) (hfb : cells + 1 ≤ room_1.cells ∧ slots + 6 ≤ room_1.slots) (M : UM G V s H locs) (hl : lv_has ls 7 [(0, .ref b), (1, .ref (ga G 18 0)), (2, .ref (ga G 19 0)), (3, .ref (ga G 20 0)), (4, .int i)])
    (kk : ∀ (H : Heap) (locs : List Loc) (ls : Array Slot), UM G V' s H locs → lv_has ls 7 [(0, .ref b), (1, .ref (ga G 18 0)), (2, .ref (ga G 19 0)), (3, .ref (ga G 20 0)), (4, .int i)] → W p l e room_1 s m #[.ref b] below meth c H locs (cells + 1) (slots + 6) Q (F0 m 2008 ls [])) : W p l e room_1 s m #[.ref b] below meth c H locs cells slots Q (F0 m 430 ls []) := by
  have hx := X.hx
  have hb := X.hb
  unfold fLc_6 at h
  refine lv_aload_n hx hb dL_law_430 rfl (lv_at hl 1 rfl) ?_
  refine lv_aload_n hx hb dL_law_431 rfl (lv_at hl 0 rfl) ?_
  refine lv_iload hx hb dL_law_432 (lv_at hl 4 rfl) ?_
  refine lv_iconst (v := 1) hx hb dL_law_434 (by decide) ?_
  refine lv_iadd hx hb dL_law_435 ?_
  obtain ⟨g1, h⟩ := gd_e h
  obtain ⟨x2, e3, h⟩ := lt_e h
  refine va_sld hx hb hX hbl hbA M.2 (inb_e g1) dL_law_436 ?_
  refine u_topi e3 ?_
  refine lv_aload_n hx hb dL_law_437 rfl (lv_at hl 0 rfl) ?_
  refine lv_iload hx hb dL_law_438 (lv_at hl 4 rfl) ?_
  refine lv_iconst (v := 2) hx hb dL_law_440 (by decide) ?_
  refine lv_iadd hx hb dL_law_441 ?_
  obtain ⟨g4, h⟩ := gd_e h
  obtain ⟨x5, e6, h⟩ := lt_e h
  refine va_sld hx hb hX hbl hbA M.2 (inb_e g4) dL_law_442 ?_
  refine u_topi e6 ?_
  refine lv_aload_n hx hb dL_law_443 rfl (lv_at hl 3 rfl) ?_
  obtain ⟨x7, V8, e9, h⟩ := bd2_e h
  refine l_cSW X M hl.1 (kL_account hG hlt e9) cl_137 ⟨Nat.le_of_ble_eq_true rfl, Nat.le_of_ble_eq_true rfl⟩ rfl rfl (Nat.le_of_ble_eq_true rfl) hfb dL_law_444 (fun H locs M => ?_)
  refine lv_istore (lv' := [(5, .int x7), (0, .ref b), (1, .ref (ga G 18 0)), (2, .ref (ga G 19 0)), (3, .ref (ga G 20 0)), (4, .int i)]) hx hb dL_law_447 hl (by decide) rfl (fun ls hl => ?_)
  refine lv_aload_n hx hb dL_law_449 rfl (lv_at hl 3 rfl) ?_
  refine lv_aload_n hx hb dL_law_450 rfl (lv_at hl 1 rfl) ?_
  refine lv_iload hx hb dL_law_451 (lv_at hl 5 rfl) ?_
  refine lv_iconst (v := 1) hx hb dL_law_453 (by decide) ?_
  refine lv_iadd hx hb dL_law_454 ?_
  obtain ⟨x10, e11, h⟩ := lt_e h
  refine va_sld hx hb hX hbl hbA M.2 (inb_e g1) dL_law_455 ?_
  refine u_topi e11 ?_
  refine lv_aload_n hx hb dL_law_456 rfl (lv_at hl 1 rfl) ?_
  refine lv_iload hx hb dL_law_457 (lv_at hl 5 rfl) ?_
  refine lv_iconst (v := 2) hx hb dL_law_459 (by decide) ?_
  refine lv_iadd hx hb dL_law_460 ?_
  obtain ⟨x12, e13, h⟩ := lt_e h
  refine va_sld hx hb hX hbl hbA M.2 (inb_e g4) dL_law_461 ?_
  refine u_topi e13 ?_
  obtain ⟨x15, S16, e14, h⟩ := bd2_e h
  have M := um_in 19 M
  refine u_cVi X M hl.1 (kX12_account hG.2.2.1 e14) cw_L_139 ⟨Nat.le_of_ble_eq_true rfl, Nat.le_of_ble_eq_true rfl⟩ (rc_X12 X M hG.2.2.1) rfl rfl (Nat.le_of_ble_eq_true rfl) hfb dL_law_462 (fun H locs M n17 => ?_)
  obtain ⟨V18, e19, h⟩ := lt_e h
  rw [← e19] at M
  refine lv_istore (lv' := [(6, .int x15), (5, .int x7), (0, .ref b), (1, .ref (ga G 18 0)), (2, .ref (ga G 19 0)), (3, .ref (ga G 20 0)), (4, .int i)]) hx hb dL_law_465 hl (by decide) rfl (fun ls hl => ?_)
  refine lv_aload_n hx hb dL_law_467 rfl (lv_at hl 4 rfl) ?_
  obtain ⟨x21, e20, h⟩ := lt_e h
  refine u_cVi X M hl.1 (kX12_thrown hG.2.2.1 rfl e20.symm) cw_L_115 ⟨Nat.le_of_ble_eq_true rfl, Nat.le_of_ble_eq_true rfl⟩ (rc_X12 X M hG.2.2.1) rfl rfl (Nat.le_of_ble_eq_true rfl) hfb dL_law_468 (fun H locs M n22 => ?_)
  refine lv_iload hx hb dL_law_471 (lv_at hl 1 rfl) ?_
  refine lv_icmp_eq (tgt := 478) hx hb dL_law_473 (by decide) (fun c23 => ?_) (fun c23 => ?_)
  · have h := it_t h c23
    refine lv_iload hx hb dL_law_478 (lv_at hl 1 rfl) ?_
    refine lv_if_ne (tgt := 495) hx hb dL_law_480 (by decide) (fun c24 => ?_) (fun c24 => ?_)
    · have h := it_f h c24
      refine lv_goto (tgt := 2008) hx hb dL_law_495 (by decide) ?_
      exact kk H locs ls (Option.some.inj h ▸ M) (lv_sub hl [2, 3, 4, 5, 6] rfl)
    · have h := it_t h c24
      refine lv_aload_n hx hb dL_law_483 rfl (lv_at hl 5 rfl) ?_
      refine lv_iconst (v := 0) hx hb dL_law_484 (by decide) ?_
      obtain ⟨x25, e26, h⟩ := lt_e h
      refine u_lald X M hG.2.2.2.1 e26 dL_law_485 ?_
      refine lv_iload hx hb dL_law_486 (lv_at hl 0 rfl) ?_
      refine lv_i2l hx hb dL_law_488 rfl ?_
      refine W.lcmp hx hb dL_law_489 ?_
      refine lv_if_eq (tgt := 495) hx hb dL_law_490 (by decide) (fun c27 => ?_) (fun c27 => ?_)
      · have h := it_t h c27
        refine lv_goto (tgt := 2008) hx hb dL_law_495 (by decide) ?_
        exact kk H locs ls (Option.some.inj h ▸ M) (lv_sub hl [2, 3, 4, 5, 6] rfl)
      · have h := it_f h c27
        refine lv_iconst (v := 0) hx hb dL_law_493 (by decide) ?_
        cases h
  · have h := it_f h c23
    refine lv_iconst (v := 0) hx hb dL_law_476 (by decide) ?_
    cases h
def fLc_7 (xs : Nat → Int32) (L : Nat) (V : uV) (i : Int32) : Option uV :=
  gd (inb (i + 1) L) <|
  lt_ (xs ((i + 1) : Int32).toNatClampNeg) fun x2 =>
  gd (inb (i + 2) L) <|
  lt_ (xs ((i + 2) : Int32).toNatClampNeg) fun x5 =>
  bd2 (fL_gate V x2 x5) fun x7 V8 =>
  lt_ (xs ((i + 1) : Int32).toNatClampNeg) fun x10 =>
  lt_ (xs ((i + 2) : Int32).toNatClampNeg) fun x12 =>
  bd2 (fX12_gate (V8 19) x10 x12) fun x15 S16 =>
  lt_ (va_up V8 19 S16) fun V18 =>
  lt_ (fX12_thrown (V18 19)) fun x21 =>
  if x21 = x7 then
    if x7 = 0 then
      lt_ ((V18 20 0 0).toInt64) fun x25 =>
      if (lg_cmp x25 ((x15 : Int32).toInt64)) = 0 then
        some V18
      else
        none
    else
      some V18
  else
    none
set_option maxHeartbeats 4000000 in
set_option maxRecDepth 20000 in
theorem kLc_7 {l : Launch} {G : UG} (hG : uAll G) (hlt : l.stackTraces = false) {b L : Nat} {xs : Nat → Int32} {V V' : uV} {i : Int32} (h : fLc_7 xs L V i = some V') {p : Program} {e : Env} {s : State} {m : MethodId} {below : List Frame} {meth : Method} {c : Code} (X : UC p s m #[.ref b] meth c code 7 RL G) (hX : va_X b L xs s s.heap) (hbl : b < s.heap.size) (hbA : ¬ uA G b) {Q : State → Prop} {H : Heap} {locs : List Loc} {ls : Array Slot} {cells slots : Nat} (hfa : cells ≤ room_1.cells ∧ slots ≤ room_1.slots) (hfb : cells + 1 ≤ room_1.cells ∧ slots + 6 ≤ room_1.slots) (M : UM G V s H locs) (hl : lv_has ls 7 [(0, .ref b), (1, .ref (ga G 18 0)), (2, .ref (ga G 19 0)), (3, .ref (ga G 20 0)), (4, .int i)])
    (kk : ∀ (H : Heap) (locs : List Loc) (ls : Array Slot), UM G V' s H locs → lv_has ls 7 [(0, .ref b), (1, .ref (ga G 18 0)), (2, .ref (ga G 19 0)), (3, .ref (ga G 20 0)), (4, .int i)] → W p l e room_1 s m #[.ref b] below meth c H locs (cells + 1) (slots + 6) Q (F0 m 2008 ls [])) : W p l e room_1 s m #[.ref b] below meth c H locs cells slots Q (F0 m 498 ls []) := by
  have hx := X.hx
  have hb := X.hb
  unfold fLc_7 at h
  refine lv_aload_n hx hb dL_law_498 rfl (lv_at hl 1 rfl) ?_
  refine lv_aload_n hx hb dL_law_499 rfl (lv_at hl 0 rfl) ?_
  refine lv_iload hx hb dL_law_500 (lv_at hl 4 rfl) ?_
  refine lv_iconst (v := 1) hx hb dL_law_502 (by decide) ?_
  refine lv_iadd hx hb dL_law_503 ?_
  obtain ⟨g1, h⟩ := gd_e h
  obtain ⟨x2, e3, h⟩ := lt_e h
  refine va_sld hx hb hX hbl hbA M.2 (inb_e g1) dL_law_504 ?_
  refine u_topi e3 ?_
  refine lv_aload_n hx hb dL_law_505 rfl (lv_at hl 0 rfl) ?_
  refine lv_iload hx hb dL_law_506 (lv_at hl 4 rfl) ?_
  refine lv_iconst (v := 2) hx hb dL_law_508 (by decide) ?_
  refine lv_iadd hx hb dL_law_509 ?_
  obtain ⟨g4, h⟩ := gd_e h
  obtain ⟨x5, e6, h⟩ := lt_e h
  refine va_sld hx hb hX hbl hbA M.2 (inb_e g4) dL_law_510 ?_
  refine u_topi e6 ?_
  refine lv_aload_n hx hb dL_law_511 rfl (lv_at hl 3 rfl) ?_
  obtain ⟨x7, V8, e9, h⟩ := bd2_e h
  refine l_cSW X M hl.1 (kL_gate hG hlt e9) cl_140 ⟨Nat.le_of_ble_eq_true rfl, Nat.le_of_ble_eq_true rfl⟩ rfl rfl (Nat.le_of_ble_eq_true rfl) hfb dL_law_512 (fun H locs M => ?_)
  refine lv_istore (lv' := [(5, .int x7), (0, .ref b), (1, .ref (ga G 18 0)), (2, .ref (ga G 19 0)), (3, .ref (ga G 20 0)), (4, .int i)]) hx hb dL_law_515 hl (by decide) rfl (fun ls hl => ?_)
  refine lv_aload_n hx hb dL_law_517 rfl (lv_at hl 3 rfl) ?_
  refine lv_aload_n hx hb dL_law_518 rfl (lv_at hl 1 rfl) ?_
  refine lv_iload hx hb dL_law_519 (lv_at hl 5 rfl) ?_
  refine lv_iconst (v := 1) hx hb dL_law_521 (by decide) ?_
  refine lv_iadd hx hb dL_law_522 ?_
  obtain ⟨x10, e11, h⟩ := lt_e h
  refine va_sld hx hb hX hbl hbA M.2 (inb_e g1) dL_law_523 ?_
  refine u_topi e11 ?_
  refine lv_aload_n hx hb dL_law_524 rfl (lv_at hl 1 rfl) ?_
  refine lv_iload hx hb dL_law_525 (lv_at hl 5 rfl) ?_
  refine lv_iconst (v := 2) hx hb dL_law_527 (by decide) ?_
  refine lv_iadd hx hb dL_law_528 ?_
  obtain ⟨x12, e13, h⟩ := lt_e h
  refine va_sld hx hb hX hbl hbA M.2 (inb_e g4) dL_law_529 ?_
  refine u_topi e13 ?_
  obtain ⟨x15, S16, e14, h⟩ := bd2_e h
  have M := um_in 19 M
  refine u_cVi X M hl.1 (kX12_gate hG.2.2.1 e14) cw_L_142 ⟨Nat.le_of_ble_eq_true rfl, Nat.le_of_ble_eq_true rfl⟩ (rc_X12 X M hG.2.2.1) rfl rfl (Nat.le_of_ble_eq_true rfl) hfb dL_law_530 (fun H locs M n17 => ?_)
  obtain ⟨V18, e19, h⟩ := lt_e h
  rw [← e19] at M
  refine lv_istore (lv' := [(6, .int x15), (5, .int x7), (0, .ref b), (1, .ref (ga G 18 0)), (2, .ref (ga G 19 0)), (3, .ref (ga G 20 0)), (4, .int i)]) hx hb dL_law_533 hl (by decide) rfl (fun ls hl => ?_)
  refine lv_aload_n hx hb dL_law_535 rfl (lv_at hl 4 rfl) ?_
  obtain ⟨x21, e20, h⟩ := lt_e h
  refine u_cVi X M hl.1 (kX12_thrown hG.2.2.1 rfl e20.symm) cw_L_115 ⟨Nat.le_of_ble_eq_true rfl, Nat.le_of_ble_eq_true rfl⟩ (rc_X12 X M hG.2.2.1) rfl rfl (Nat.le_of_ble_eq_true rfl) hfb dL_law_536 (fun H locs M n22 => ?_)
  refine lv_iload hx hb dL_law_539 (lv_at hl 1 rfl) ?_
  refine lv_icmp_eq (tgt := 546) hx hb dL_law_541 (by decide) (fun c23 => ?_) (fun c23 => ?_)
  · have h := it_t h c23
    refine lv_iload hx hb dL_law_546 (lv_at hl 1 rfl) ?_
    refine lv_if_ne (tgt := 563) hx hb dL_law_548 (by decide) (fun c24 => ?_) (fun c24 => ?_)
    · have h := it_f h c24
      refine lv_goto (tgt := 2008) hx hb dL_law_563 (by decide) ?_
      exact kk H locs ls (Option.some.inj h ▸ M) (lv_sub hl [2, 3, 4, 5, 6] rfl)
    · have h := it_t h c24
      refine lv_aload_n hx hb dL_law_551 rfl (lv_at hl 5 rfl) ?_
      refine lv_iconst (v := 0) hx hb dL_law_552 (by decide) ?_
      obtain ⟨x25, e26, h⟩ := lt_e h
      refine u_lald X M hG.2.2.2.1 e26 dL_law_553 ?_
      refine lv_iload hx hb dL_law_554 (lv_at hl 0 rfl) ?_
      refine lv_i2l hx hb dL_law_556 rfl ?_
      refine W.lcmp hx hb dL_law_557 ?_
      refine lv_if_eq (tgt := 563) hx hb dL_law_558 (by decide) (fun c27 => ?_) (fun c27 => ?_)
      · have h := it_t h c27
        refine lv_goto (tgt := 2008) hx hb dL_law_563 (by decide) ?_
        exact kk H locs ls (Option.some.inj h ▸ M) (lv_sub hl [2, 3, 4, 5, 6] rfl)
      · have h := it_f h c27
        refine lv_iconst (v := 0) hx hb dL_law_561 (by decide) ?_
        cases h
  · have h := it_f h c23
    refine lv_iconst (v := 0) hx hb dL_law_544 (by decide) ?_
    cases h
def fLc_8 (xs : Nat → Int32) (L : Nat) (V : uV) (i : Int32) : Option uV :=
  gd (inb (i + 1) L) <|
  lt_ (xs ((i + 1) : Int32).toNatClampNeg) fun x2 =>
  gd (inb (i + 2) L) <|
  lt_ (xs ((i + 2) : Int32).toNatClampNeg) fun x5 =>
  gd (inb (i + 3) L) <|
  lt_ (xs ((i + 3) : Int32).toNatClampNeg) fun x8 =>
  bd2 (fL_logged V x2 x5 x8) fun x10 V11 =>
  lt_ (xs ((i + 1) : Int32).toNatClampNeg) fun x13 =>
  lt_ (xs ((i + 2) : Int32).toNatClampNeg) fun x15 =>
  lt_ (xs ((i + 3) : Int32).toNatClampNeg) fun x17 =>
  bd2 (fX12_logged (V11 19) x13 x15 x17) fun x20 S21 =>
  lt_ (va_up V11 19 S21) fun V23 =>
  lt_ (fX12_thrown (V23 19)) fun x26 =>
  if x26 = x10 then
    if x10 = 0 then
      lt_ ((V23 20 0 0).toInt64) fun x30 =>
      if (lg_cmp x30 ((x20 : Int32).toInt64)) = 0 then
        some V23
      else
        none
    else
      some V23
  else
    none
set_option maxHeartbeats 4000000 in
set_option maxRecDepth 20000 in
theorem kLc_8 {l : Launch} {G : UG} (hG : uAll G) (hlt : l.stackTraces = false) {b L : Nat} {xs : Nat → Int32} {V V' : uV} {i : Int32} (h : fLc_8 xs L V i = some V') {p : Program} {e : Env} {s : State} {m : MethodId} {below : List Frame} {meth : Method} {c : Code} (X : UC p s m #[.ref b] meth c code 7 RL G) (hX : va_X b L xs s s.heap) (hbl : b < s.heap.size) (hbA : ¬ uA G b) {Q : State → Prop} {H : Heap} {locs : List Loc} {ls : Array Slot} {cells slots : Nat} (hfa : cells ≤ room_1.cells ∧ slots ≤ room_1.slots) (hfb : cells + 1 ≤ room_1.cells ∧ slots + 6 ≤ room_1.slots) (M : UM G V s H locs) (hl : lv_has ls 7 [(0, .ref b), (1, .ref (ga G 18 0)), (2, .ref (ga G 19 0)), (3, .ref (ga G 20 0)), (4, .int i)])
    (kk : ∀ (H : Heap) (locs : List Loc) (ls : Array Slot), UM G V' s H locs → lv_has ls 7 [(0, .ref b), (1, .ref (ga G 18 0)), (2, .ref (ga G 19 0)), (3, .ref (ga G 20 0)), (4, .int i)] → W p l e room_1 s m #[.ref b] below meth c H locs (cells + 1) (slots + 6) Q (F0 m 2008 ls [])) : W p l e room_1 s m #[.ref b] below meth c H locs cells slots Q (F0 m 566 ls []) := by
  have hx := X.hx
  have hb := X.hb
  unfold fLc_8 at h
  refine lv_aload_n hx hb dL_law_566 rfl (lv_at hl 1 rfl) ?_
  refine lv_aload_n hx hb dL_law_567 rfl (lv_at hl 0 rfl) ?_
  refine lv_iload hx hb dL_law_568 (lv_at hl 4 rfl) ?_
  refine lv_iconst (v := 1) hx hb dL_law_570 (by decide) ?_
  refine lv_iadd hx hb dL_law_571 ?_
  obtain ⟨g1, h⟩ := gd_e h
  obtain ⟨x2, e3, h⟩ := lt_e h
  refine va_sld hx hb hX hbl hbA M.2 (inb_e g1) dL_law_572 ?_
  refine u_topi e3 ?_
  refine lv_aload_n hx hb dL_law_573 rfl (lv_at hl 0 rfl) ?_
  refine lv_iload hx hb dL_law_574 (lv_at hl 4 rfl) ?_
  refine lv_iconst (v := 2) hx hb dL_law_576 (by decide) ?_
  refine lv_iadd hx hb dL_law_577 ?_
  obtain ⟨g4, h⟩ := gd_e h
  obtain ⟨x5, e6, h⟩ := lt_e h
  refine va_sld hx hb hX hbl hbA M.2 (inb_e g4) dL_law_578 ?_
  refine u_topi e6 ?_
  refine lv_aload_n hx hb dL_law_579 rfl (lv_at hl 0 rfl) ?_
  refine lv_iload hx hb dL_law_580 (lv_at hl 4 rfl) ?_
  refine lv_iconst (v := 3) hx hb dL_law_582 (by decide) ?_
  refine lv_iadd hx hb dL_law_583 ?_
  obtain ⟨g7, h⟩ := gd_e h
  obtain ⟨x8, e9, h⟩ := lt_e h
  refine va_sld hx hb hX hbl hbA M.2 (inb_e g7) dL_law_584 ?_
  refine u_topi e9 ?_
  refine lv_aload_n hx hb dL_law_585 rfl (lv_at hl 3 rfl) ?_
  obtain ⟨x10, V11, e12, h⟩ := bd2_e h
  refine l_cSW X M hl.1 (kL_logged hG hlt e12) cl_143 ⟨Nat.le_of_ble_eq_true rfl, Nat.le_of_ble_eq_true rfl⟩ rfl rfl (Nat.le_of_ble_eq_true rfl) hfb dL_law_586 (fun H locs M => ?_)
  refine lv_istore (lv' := [(5, .int x10), (0, .ref b), (1, .ref (ga G 18 0)), (2, .ref (ga G 19 0)), (3, .ref (ga G 20 0)), (4, .int i)]) hx hb dL_law_589 hl (by decide) rfl (fun ls hl => ?_)
  refine lv_aload_n hx hb dL_law_591 rfl (lv_at hl 3 rfl) ?_
  refine lv_aload_n hx hb dL_law_592 rfl (lv_at hl 1 rfl) ?_
  refine lv_iload hx hb dL_law_593 (lv_at hl 5 rfl) ?_
  refine lv_iconst (v := 1) hx hb dL_law_595 (by decide) ?_
  refine lv_iadd hx hb dL_law_596 ?_
  obtain ⟨x13, e14, h⟩ := lt_e h
  refine va_sld hx hb hX hbl hbA M.2 (inb_e g1) dL_law_597 ?_
  refine u_topi e14 ?_
  refine lv_aload_n hx hb dL_law_598 rfl (lv_at hl 1 rfl) ?_
  refine lv_iload hx hb dL_law_599 (lv_at hl 5 rfl) ?_
  refine lv_iconst (v := 2) hx hb dL_law_601 (by decide) ?_
  refine lv_iadd hx hb dL_law_602 ?_
  obtain ⟨x15, e16, h⟩ := lt_e h
  refine va_sld hx hb hX hbl hbA M.2 (inb_e g4) dL_law_603 ?_
  refine u_topi e16 ?_
  refine lv_aload_n hx hb dL_law_604 rfl (lv_at hl 1 rfl) ?_
  refine lv_iload hx hb dL_law_605 (lv_at hl 5 rfl) ?_
  refine lv_iconst (v := 3) hx hb dL_law_607 (by decide) ?_
  refine lv_iadd hx hb dL_law_608 ?_
  obtain ⟨x17, e18, h⟩ := lt_e h
  refine va_sld hx hb hX hbl hbA M.2 (inb_e g7) dL_law_609 ?_
  refine u_topi e18 ?_
  obtain ⟨x20, S21, e19, h⟩ := bd2_e h
  have M := um_in 19 M
  refine u_cVi X M hl.1 (kX12_logged hG.2.2.1 e19) cw_L_146 ⟨Nat.le_of_ble_eq_true rfl, Nat.le_of_ble_eq_true rfl⟩ (rc_X12 X M hG.2.2.1) rfl rfl (Nat.le_of_ble_eq_true rfl) hfb dL_law_610 (fun H locs M n22 => ?_)
  obtain ⟨V23, e24, h⟩ := lt_e h
  rw [← e24] at M
  refine lv_istore (lv' := [(6, .int x20), (5, .int x10), (0, .ref b), (1, .ref (ga G 18 0)), (2, .ref (ga G 19 0)), (3, .ref (ga G 20 0)), (4, .int i)]) hx hb dL_law_613 hl (by decide) rfl (fun ls hl => ?_)
  refine lv_aload_n hx hb dL_law_615 rfl (lv_at hl 4 rfl) ?_
  obtain ⟨x26, e25, h⟩ := lt_e h
  refine u_cVi X M hl.1 (kX12_thrown hG.2.2.1 rfl e25.symm) cw_L_115 ⟨Nat.le_of_ble_eq_true rfl, Nat.le_of_ble_eq_true rfl⟩ (rc_X12 X M hG.2.2.1) rfl rfl (Nat.le_of_ble_eq_true rfl) hfb dL_law_616 (fun H locs M n27 => ?_)
  refine lv_iload hx hb dL_law_619 (lv_at hl 1 rfl) ?_
  refine lv_icmp_eq (tgt := 626) hx hb dL_law_621 (by decide) (fun c28 => ?_) (fun c28 => ?_)
  · have h := it_t h c28
    refine lv_iload hx hb dL_law_626 (lv_at hl 1 rfl) ?_
    refine lv_if_ne (tgt := 643) hx hb dL_law_628 (by decide) (fun c29 => ?_) (fun c29 => ?_)
    · have h := it_f h c29
      refine lv_goto (tgt := 2008) hx hb dL_law_643 (by decide) ?_
      exact kk H locs ls (Option.some.inj h ▸ M) (lv_sub hl [2, 3, 4, 5, 6] rfl)
    · have h := it_t h c29
      refine lv_aload_n hx hb dL_law_631 rfl (lv_at hl 5 rfl) ?_
      refine lv_iconst (v := 0) hx hb dL_law_632 (by decide) ?_
      obtain ⟨x30, e31, h⟩ := lt_e h
      refine u_lald X M hG.2.2.2.1 e31 dL_law_633 ?_
      refine lv_iload hx hb dL_law_634 (lv_at hl 0 rfl) ?_
      refine lv_i2l hx hb dL_law_636 rfl ?_
      refine W.lcmp hx hb dL_law_637 ?_
      refine lv_if_eq (tgt := 643) hx hb dL_law_638 (by decide) (fun c32 => ?_) (fun c32 => ?_)
      · have h := it_t h c32
        refine lv_goto (tgt := 2008) hx hb dL_law_643 (by decide) ?_
        exact kk H locs ls (Option.some.inj h ▸ M) (lv_sub hl [2, 3, 4, 5, 6] rfl)
      · have h := it_f h c32
        refine lv_iconst (v := 0) hx hb dL_law_641 (by decide) ?_
        cases h
  · have h := it_f h c28
    refine lv_iconst (v := 0) hx hb dL_law_624 (by decide) ?_
    cases h
def fLc_9 (xs : Nat → Int32) (L : Nat) (V : uV) (i : Int32) : Option uV :=
  gd (inb (i + 1) L) <|
  lt_ (xs ((i + 1) : Int32).toNatClampNeg) fun x2 =>
  bd2 (fL_setting V x2) fun x4 V5 =>
  lt_ (xs ((i + 1) : Int32).toNatClampNeg) fun x7 =>
  bd2 (fX12_setting (V5 19) x7) fun x10 S11 =>
  lt_ (va_up V5 19 S11) fun V13 =>
  lt_ (fX12_thrown (V13 19)) fun x16 =>
  if x16 = x4 then
    if x4 = 0 then
      lt_ ((V13 20 0 0).toInt64) fun x20 =>
      if (lg_cmp x20 ((x10 : Int32).toInt64)) = 0 then
        some V13
      else
        none
    else
      some V13
  else
    none
set_option maxHeartbeats 4000000 in
set_option maxRecDepth 20000 in
theorem kLc_9 {l : Launch} {G : UG} (hG : uAll G) (hlt : l.stackTraces = false) {b L : Nat} {xs : Nat → Int32} {V V' : uV} {i : Int32} (h : fLc_9 xs L V i = some V') {p : Program} {e : Env} {s : State} {m : MethodId} {below : List Frame} {meth : Method} {c : Code} (X : UC p s m #[.ref b] meth c code 7 RL G) (hX : va_X b L xs s s.heap) (hbl : b < s.heap.size) (hbA : ¬ uA G b) {Q : State → Prop} {H : Heap} {locs : List Loc} {ls : Array Slot} {cells slots : Nat} (hfa : cells ≤ room_1.cells ∧ slots ≤ room_1.slots) (hfb : cells + 1 ≤ room_1.cells ∧ slots + 6 ≤ room_1.slots) (M : UM G V s H locs) (hl : lv_has ls 7 [(0, .ref b), (1, .ref (ga G 18 0)), (2, .ref (ga G 19 0)), (3, .ref (ga G 20 0)), (4, .int i)])
    (kk : ∀ (H : Heap) (locs : List Loc) (ls : Array Slot), UM G V' s H locs → lv_has ls 7 [(0, .ref b), (1, .ref (ga G 18 0)), (2, .ref (ga G 19 0)), (3, .ref (ga G 20 0)), (4, .int i)] → W p l e room_1 s m #[.ref b] below meth c H locs (cells + 1) (slots + 6) Q (F0 m 2008 ls [])) : W p l e room_1 s m #[.ref b] below meth c H locs cells slots Q (F0 m 646 ls []) := by
  have hx := X.hx
  have hb := X.hb
  unfold fLc_9 at h
  refine lv_aload_n hx hb dL_law_646 rfl (lv_at hl 1 rfl) ?_
  refine lv_aload_n hx hb dL_law_647 rfl (lv_at hl 0 rfl) ?_
  refine lv_iload hx hb dL_law_648 (lv_at hl 4 rfl) ?_
  refine lv_iconst (v := 1) hx hb dL_law_650 (by decide) ?_
  refine lv_iadd hx hb dL_law_651 ?_
  obtain ⟨g1, h⟩ := gd_e h
  obtain ⟨x2, e3, h⟩ := lt_e h
  refine va_sld hx hb hX hbl hbA M.2 (inb_e g1) dL_law_652 ?_
  refine u_topi e3 ?_
  refine lv_aload_n hx hb dL_law_653 rfl (lv_at hl 3 rfl) ?_
  obtain ⟨x4, V5, e6, h⟩ := bd2_e h
  refine l_cSW X M hl.1 (kL_setting hG hlt e6) cl_147 ⟨Nat.le_of_ble_eq_true rfl, Nat.le_of_ble_eq_true rfl⟩ rfl rfl (Nat.le_of_ble_eq_true rfl) hfb dL_law_654 (fun H locs M => ?_)
  refine lv_istore (lv' := [(5, .int x4), (0, .ref b), (1, .ref (ga G 18 0)), (2, .ref (ga G 19 0)), (3, .ref (ga G 20 0)), (4, .int i)]) hx hb dL_law_657 hl (by decide) rfl (fun ls hl => ?_)
  refine lv_aload_n hx hb dL_law_659 rfl (lv_at hl 3 rfl) ?_
  refine lv_aload_n hx hb dL_law_660 rfl (lv_at hl 1 rfl) ?_
  refine lv_iload hx hb dL_law_661 (lv_at hl 5 rfl) ?_
  refine lv_iconst (v := 1) hx hb dL_law_663 (by decide) ?_
  refine lv_iadd hx hb dL_law_664 ?_
  obtain ⟨x7, e8, h⟩ := lt_e h
  refine va_sld hx hb hX hbl hbA M.2 (inb_e g1) dL_law_665 ?_
  refine u_topi e8 ?_
  obtain ⟨x10, S11, e9, h⟩ := bd2_e h
  have M := um_in 19 M
  refine u_cVi X M hl.1 (kX12_setting hG.2.2.1 e9) cw_L_149 ⟨Nat.le_of_ble_eq_true rfl, Nat.le_of_ble_eq_true rfl⟩ (rc_X12 X M hG.2.2.1) rfl rfl (Nat.le_of_ble_eq_true rfl) hfb dL_law_666 (fun H locs M n12 => ?_)
  obtain ⟨V13, e14, h⟩ := lt_e h
  rw [← e14] at M
  refine lv_istore (lv' := [(6, .int x10), (5, .int x4), (0, .ref b), (1, .ref (ga G 18 0)), (2, .ref (ga G 19 0)), (3, .ref (ga G 20 0)), (4, .int i)]) hx hb dL_law_669 hl (by decide) rfl (fun ls hl => ?_)
  refine lv_aload_n hx hb dL_law_671 rfl (lv_at hl 4 rfl) ?_
  obtain ⟨x16, e15, h⟩ := lt_e h
  refine u_cVi X M hl.1 (kX12_thrown hG.2.2.1 rfl e15.symm) cw_L_115 ⟨Nat.le_of_ble_eq_true rfl, Nat.le_of_ble_eq_true rfl⟩ (rc_X12 X M hG.2.2.1) rfl rfl (Nat.le_of_ble_eq_true rfl) hfb dL_law_672 (fun H locs M n17 => ?_)
  refine lv_iload hx hb dL_law_675 (lv_at hl 1 rfl) ?_
  refine lv_icmp_eq (tgt := 682) hx hb dL_law_677 (by decide) (fun c18 => ?_) (fun c18 => ?_)
  · have h := it_t h c18
    refine lv_iload hx hb dL_law_682 (lv_at hl 1 rfl) ?_
    refine lv_if_ne (tgt := 699) hx hb dL_law_684 (by decide) (fun c19 => ?_) (fun c19 => ?_)
    · have h := it_f h c19
      refine lv_goto (tgt := 2008) hx hb dL_law_699 (by decide) ?_
      exact kk H locs ls (Option.some.inj h ▸ M) (lv_sub hl [2, 3, 4, 5, 6] rfl)
    · have h := it_t h c19
      refine lv_aload_n hx hb dL_law_687 rfl (lv_at hl 5 rfl) ?_
      refine lv_iconst (v := 0) hx hb dL_law_688 (by decide) ?_
      obtain ⟨x20, e21, h⟩ := lt_e h
      refine u_lald X M hG.2.2.2.1 e21 dL_law_689 ?_
      refine lv_iload hx hb dL_law_690 (lv_at hl 0 rfl) ?_
      refine lv_i2l hx hb dL_law_692 rfl ?_
      refine W.lcmp hx hb dL_law_693 ?_
      refine lv_if_eq (tgt := 699) hx hb dL_law_694 (by decide) (fun c22 => ?_) (fun c22 => ?_)
      · have h := it_t h c22
        refine lv_goto (tgt := 2008) hx hb dL_law_699 (by decide) ?_
        exact kk H locs ls (Option.some.inj h ▸ M) (lv_sub hl [2, 3, 4, 5, 6] rfl)
      · have h := it_f h c22
        refine lv_iconst (v := 0) hx hb dL_law_697 (by decide) ?_
        cases h
  · have h := it_f h c18
    refine lv_iconst (v := 0) hx hb dL_law_680 (by decide) ?_
    cases h
def fLc_10 (xs : Nat → Int32) (L : Nat) (V : uV) (i : Int32) : Option uV :=
  gd (inb (i + 1) L) <|
  lt_ (xs ((i + 1) : Int32).toNatClampNeg) fun x2 =>
  bd2 (fL_issue V x2) fun x4 V5 =>
  lt_ (xs ((i + 1) : Int32).toNatClampNeg) fun x7 =>
  bd2 (fX12_issue (V5 19) x7) fun x10 S11 =>
  lt_ (va_up V5 19 S11) fun V13 =>
  lt_ (fX12_thrown (V13 19)) fun x16 =>
  if x16 = x4 then
    if x4 = 0 then
      lt_ ((V13 20 0 0).toInt64) fun x20 =>
      if (lg_cmp x20 ((x10 : Int32).toInt64)) = 0 then
        some V13
      else
        none
    else
      some V13
  else
    none
set_option maxHeartbeats 4000000 in
set_option maxRecDepth 20000 in
theorem kLc_10 {l : Launch} {G : UG} (hG : uAll G) (hlt : l.stackTraces = false) {b L : Nat} {xs : Nat → Int32} {V V' : uV} {i : Int32} (h : fLc_10 xs L V i = some V') {p : Program} {e : Env} {s : State} {m : MethodId} {below : List Frame} {meth : Method} {c : Code} (X : UC p s m #[.ref b] meth c code 7 RL G) (hX : va_X b L xs s s.heap) (hbl : b < s.heap.size) (hbA : ¬ uA G b) {Q : State → Prop} {H : Heap} {locs : List Loc} {ls : Array Slot} {cells slots : Nat} (hfa : cells ≤ room_1.cells ∧ slots ≤ room_1.slots) (hfb : cells + 1 ≤ room_1.cells ∧ slots + 6 ≤ room_1.slots) (M : UM G V s H locs) (hl : lv_has ls 7 [(0, .ref b), (1, .ref (ga G 18 0)), (2, .ref (ga G 19 0)), (3, .ref (ga G 20 0)), (4, .int i)])
    (kk : ∀ (H : Heap) (locs : List Loc) (ls : Array Slot), UM G V' s H locs → lv_has ls 7 [(0, .ref b), (1, .ref (ga G 18 0)), (2, .ref (ga G 19 0)), (3, .ref (ga G 20 0)), (4, .int i)] → W p l e room_1 s m #[.ref b] below meth c H locs (cells + 1) (slots + 6) Q (F0 m 2008 ls [])) : W p l e room_1 s m #[.ref b] below meth c H locs cells slots Q (F0 m 702 ls []) := by
  have hx := X.hx
  have hb := X.hb
  unfold fLc_10 at h
  refine lv_aload_n hx hb dL_law_702 rfl (lv_at hl 1 rfl) ?_
  refine lv_aload_n hx hb dL_law_703 rfl (lv_at hl 0 rfl) ?_
  refine lv_iload hx hb dL_law_704 (lv_at hl 4 rfl) ?_
  refine lv_iconst (v := 1) hx hb dL_law_706 (by decide) ?_
  refine lv_iadd hx hb dL_law_707 ?_
  obtain ⟨g1, h⟩ := gd_e h
  obtain ⟨x2, e3, h⟩ := lt_e h
  refine va_sld hx hb hX hbl hbA M.2 (inb_e g1) dL_law_708 ?_
  refine u_topi e3 ?_
  refine lv_aload_n hx hb dL_law_709 rfl (lv_at hl 3 rfl) ?_
  obtain ⟨x4, V5, e6, h⟩ := bd2_e h
  refine l_cSW X M hl.1 (kL_issue hG hlt e6) cl_150 ⟨Nat.le_of_ble_eq_true rfl, Nat.le_of_ble_eq_true rfl⟩ rfl rfl (Nat.le_of_ble_eq_true rfl) hfb dL_law_710 (fun H locs M => ?_)
  refine lv_istore (lv' := [(5, .int x4), (0, .ref b), (1, .ref (ga G 18 0)), (2, .ref (ga G 19 0)), (3, .ref (ga G 20 0)), (4, .int i)]) hx hb dL_law_713 hl (by decide) rfl (fun ls hl => ?_)
  refine lv_aload_n hx hb dL_law_715 rfl (lv_at hl 3 rfl) ?_
  refine lv_aload_n hx hb dL_law_716 rfl (lv_at hl 1 rfl) ?_
  refine lv_iload hx hb dL_law_717 (lv_at hl 5 rfl) ?_
  refine lv_iconst (v := 1) hx hb dL_law_719 (by decide) ?_
  refine lv_iadd hx hb dL_law_720 ?_
  obtain ⟨x7, e8, h⟩ := lt_e h
  refine va_sld hx hb hX hbl hbA M.2 (inb_e g1) dL_law_721 ?_
  refine u_topi e8 ?_
  obtain ⟨x10, S11, e9, h⟩ := bd2_e h
  have M := um_in 19 M
  refine u_cVi X M hl.1 (kX12_issue hG.2.2.1 e9) cw_L_152 ⟨Nat.le_of_ble_eq_true rfl, Nat.le_of_ble_eq_true rfl⟩ (rc_X12 X M hG.2.2.1) rfl rfl (Nat.le_of_ble_eq_true rfl) hfb dL_law_722 (fun H locs M n12 => ?_)
  obtain ⟨V13, e14, h⟩ := lt_e h
  rw [← e14] at M
  refine lv_istore (lv' := [(6, .int x10), (5, .int x4), (0, .ref b), (1, .ref (ga G 18 0)), (2, .ref (ga G 19 0)), (3, .ref (ga G 20 0)), (4, .int i)]) hx hb dL_law_725 hl (by decide) rfl (fun ls hl => ?_)
  refine lv_aload_n hx hb dL_law_727 rfl (lv_at hl 4 rfl) ?_
  obtain ⟨x16, e15, h⟩ := lt_e h
  refine u_cVi X M hl.1 (kX12_thrown hG.2.2.1 rfl e15.symm) cw_L_115 ⟨Nat.le_of_ble_eq_true rfl, Nat.le_of_ble_eq_true rfl⟩ (rc_X12 X M hG.2.2.1) rfl rfl (Nat.le_of_ble_eq_true rfl) hfb dL_law_728 (fun H locs M n17 => ?_)
  refine lv_iload hx hb dL_law_731 (lv_at hl 1 rfl) ?_
  refine lv_icmp_eq (tgt := 738) hx hb dL_law_733 (by decide) (fun c18 => ?_) (fun c18 => ?_)
  · have h := it_t h c18
    refine lv_iload hx hb dL_law_738 (lv_at hl 1 rfl) ?_
    refine lv_if_ne (tgt := 755) hx hb dL_law_740 (by decide) (fun c19 => ?_) (fun c19 => ?_)
    · have h := it_f h c19
      refine lv_goto (tgt := 2008) hx hb dL_law_755 (by decide) ?_
      exact kk H locs ls (Option.some.inj h ▸ M) (lv_sub hl [2, 3, 4, 5, 6] rfl)
    · have h := it_t h c19
      refine lv_aload_n hx hb dL_law_743 rfl (lv_at hl 5 rfl) ?_
      refine lv_iconst (v := 0) hx hb dL_law_744 (by decide) ?_
      obtain ⟨x20, e21, h⟩ := lt_e h
      refine u_lald X M hG.2.2.2.1 e21 dL_law_745 ?_
      refine lv_iload hx hb dL_law_746 (lv_at hl 0 rfl) ?_
      refine lv_i2l hx hb dL_law_748 rfl ?_
      refine W.lcmp hx hb dL_law_749 ?_
      refine lv_if_eq (tgt := 755) hx hb dL_law_750 (by decide) (fun c22 => ?_) (fun c22 => ?_)
      · have h := it_t h c22
        refine lv_goto (tgt := 2008) hx hb dL_law_755 (by decide) ?_
        exact kk H locs ls (Option.some.inj h ▸ M) (lv_sub hl [2, 3, 4, 5, 6] rfl)
      · have h := it_f h c22
        refine lv_iconst (v := 0) hx hb dL_law_753 (by decide) ?_
        cases h
  · have h := it_f h c18
    refine lv_iconst (v := 0) hx hb dL_law_736 (by decide) ?_
    cases h
def fLc_11 (xs : Nat → Int32) (L : Nat) (V : uV) (i : Int32) : Option uV :=
  gd (inb (i + 1) L) <|
  lt_ (xs ((i + 1) : Int32).toNatClampNeg) fun x2 =>
  bd2 (fL_copy V x2) fun x4 V5 =>
  lt_ (xs ((i + 1) : Int32).toNatClampNeg) fun x7 =>
  bd2 (fX12_copy (V5 19) x7) fun x10 S11 =>
  lt_ (va_up V5 19 S11) fun V13 =>
  lt_ (fX12_thrown (V13 19)) fun x16 =>
  if x16 = x4 then
    if x4 = 0 then
      lt_ ((V13 20 0 0).toInt64) fun x20 =>
      if (lg_cmp x20 ((x10 : Int32).toInt64)) = 0 then
        some V13
      else
        none
    else
      some V13
  else
    none
set_option maxHeartbeats 4000000 in
set_option maxRecDepth 20000 in
theorem kLc_11 {l : Launch} {G : UG} (hG : uAll G) (hlt : l.stackTraces = false) {b L : Nat} {xs : Nat → Int32} {V V' : uV} {i : Int32} (h : fLc_11 xs L V i = some V') {p : Program} {e : Env} {s : State} {m : MethodId} {below : List Frame} {meth : Method} {c : Code} (X : UC p s m #[.ref b] meth c code 7 RL G) (hX : va_X b L xs s s.heap) (hbl : b < s.heap.size) (hbA : ¬ uA G b) {Q : State → Prop} {H : Heap} {locs : List Loc} {ls : Array Slot} {cells slots : Nat} (hfa : cells ≤ room_1.cells ∧ slots ≤ room_1.slots) (hfb : cells + 1 ≤ room_1.cells ∧ slots + 6 ≤ room_1.slots) (M : UM G V s H locs) (hl : lv_has ls 7 [(0, .ref b), (1, .ref (ga G 18 0)), (2, .ref (ga G 19 0)), (3, .ref (ga G 20 0)), (4, .int i)])
    (kk : ∀ (H : Heap) (locs : List Loc) (ls : Array Slot), UM G V' s H locs → lv_has ls 7 [(0, .ref b), (1, .ref (ga G 18 0)), (2, .ref (ga G 19 0)), (3, .ref (ga G 20 0)), (4, .int i)] → W p l e room_1 s m #[.ref b] below meth c H locs (cells + 1) (slots + 6) Q (F0 m 2008 ls [])) : W p l e room_1 s m #[.ref b] below meth c H locs cells slots Q (F0 m 758 ls []) := by
  have hx := X.hx
  have hb := X.hb
  unfold fLc_11 at h
  refine lv_aload_n hx hb dL_law_758 rfl (lv_at hl 1 rfl) ?_
  refine lv_aload_n hx hb dL_law_759 rfl (lv_at hl 0 rfl) ?_
  refine lv_iload hx hb dL_law_760 (lv_at hl 4 rfl) ?_
  refine lv_iconst (v := 1) hx hb dL_law_762 (by decide) ?_
  refine lv_iadd hx hb dL_law_763 ?_
  obtain ⟨g1, h⟩ := gd_e h
  obtain ⟨x2, e3, h⟩ := lt_e h
  refine va_sld hx hb hX hbl hbA M.2 (inb_e g1) dL_law_764 ?_
  refine u_topi e3 ?_
  refine lv_aload_n hx hb dL_law_765 rfl (lv_at hl 3 rfl) ?_
  obtain ⟨x4, V5, e6, h⟩ := bd2_e h
  refine l_cSW X M hl.1 (kL_copy hG hlt e6) cl_153 ⟨Nat.le_of_ble_eq_true rfl, Nat.le_of_ble_eq_true rfl⟩ rfl rfl (Nat.le_of_ble_eq_true rfl) hfb dL_law_766 (fun H locs M => ?_)
  refine lv_istore (lv' := [(5, .int x4), (0, .ref b), (1, .ref (ga G 18 0)), (2, .ref (ga G 19 0)), (3, .ref (ga G 20 0)), (4, .int i)]) hx hb dL_law_769 hl (by decide) rfl (fun ls hl => ?_)
  refine lv_aload_n hx hb dL_law_771 rfl (lv_at hl 3 rfl) ?_
  refine lv_aload_n hx hb dL_law_772 rfl (lv_at hl 1 rfl) ?_
  refine lv_iload hx hb dL_law_773 (lv_at hl 5 rfl) ?_
  refine lv_iconst (v := 1) hx hb dL_law_775 (by decide) ?_
  refine lv_iadd hx hb dL_law_776 ?_
  obtain ⟨x7, e8, h⟩ := lt_e h
  refine va_sld hx hb hX hbl hbA M.2 (inb_e g1) dL_law_777 ?_
  refine u_topi e8 ?_
  obtain ⟨x10, S11, e9, h⟩ := bd2_e h
  have M := um_in 19 M
  refine u_cVi X M hl.1 (kX12_copy hG.2.2.1 e9) cw_L_155 ⟨Nat.le_of_ble_eq_true rfl, Nat.le_of_ble_eq_true rfl⟩ (rc_X12 X M hG.2.2.1) rfl rfl (Nat.le_of_ble_eq_true rfl) hfb dL_law_778 (fun H locs M n12 => ?_)
  obtain ⟨V13, e14, h⟩ := lt_e h
  rw [← e14] at M
  refine lv_istore (lv' := [(6, .int x10), (5, .int x4), (0, .ref b), (1, .ref (ga G 18 0)), (2, .ref (ga G 19 0)), (3, .ref (ga G 20 0)), (4, .int i)]) hx hb dL_law_781 hl (by decide) rfl (fun ls hl => ?_)
  refine lv_aload_n hx hb dL_law_783 rfl (lv_at hl 4 rfl) ?_
  obtain ⟨x16, e15, h⟩ := lt_e h
  refine u_cVi X M hl.1 (kX12_thrown hG.2.2.1 rfl e15.symm) cw_L_115 ⟨Nat.le_of_ble_eq_true rfl, Nat.le_of_ble_eq_true rfl⟩ (rc_X12 X M hG.2.2.1) rfl rfl (Nat.le_of_ble_eq_true rfl) hfb dL_law_784 (fun H locs M n17 => ?_)
  refine lv_iload hx hb dL_law_787 (lv_at hl 1 rfl) ?_
  refine lv_icmp_eq (tgt := 794) hx hb dL_law_789 (by decide) (fun c18 => ?_) (fun c18 => ?_)
  · have h := it_t h c18
    refine lv_iload hx hb dL_law_794 (lv_at hl 1 rfl) ?_
    refine lv_if_ne (tgt := 811) hx hb dL_law_796 (by decide) (fun c19 => ?_) (fun c19 => ?_)
    · have h := it_f h c19
      refine lv_goto (tgt := 2008) hx hb dL_law_811 (by decide) ?_
      exact kk H locs ls (Option.some.inj h ▸ M) (lv_sub hl [2, 3, 4, 5, 6] rfl)
    · have h := it_t h c19
      refine lv_aload_n hx hb dL_law_799 rfl (lv_at hl 5 rfl) ?_
      refine lv_iconst (v := 0) hx hb dL_law_800 (by decide) ?_
      obtain ⟨x20, e21, h⟩ := lt_e h
      refine u_lald X M hG.2.2.2.1 e21 dL_law_801 ?_
      refine lv_iload hx hb dL_law_802 (lv_at hl 0 rfl) ?_
      refine lv_i2l hx hb dL_law_804 rfl ?_
      refine W.lcmp hx hb dL_law_805 ?_
      refine lv_if_eq (tgt := 811) hx hb dL_law_806 (by decide) (fun c22 => ?_) (fun c22 => ?_)
      · have h := it_t h c22
        refine lv_goto (tgt := 2008) hx hb dL_law_811 (by decide) ?_
        exact kk H locs ls (Option.some.inj h ▸ M) (lv_sub hl [2, 3, 4, 5, 6] rfl)
      · have h := it_f h c22
        refine lv_iconst (v := 0) hx hb dL_law_809 (by decide) ?_
        cases h
  · have h := it_f h c18
    refine lv_iconst (v := 0) hx hb dL_law_792 (by decide) ?_
    cases h
def fLc_12 (xs : Nat → Int32) (L : Nat) (V : uV) (i : Int32) : Option uV :=
  gd (inb (i + 1) L) <|
  lt_ (xs ((i + 1) : Int32).toNatClampNeg) fun x2 =>
  gd (inb (i + 2) L) <|
  lt_ (xs ((i + 2) : Int32).toNatClampNeg) fun x5 =>
  bd2 (fL_ride V x2 x5) fun x7 V8 =>
  lt_ (xs ((i + 1) : Int32).toNatClampNeg) fun x10 =>
  lt_ (xs ((i + 2) : Int32).toNatClampNeg) fun x12 =>
  bd2 (fX12_ride (V8 19) x10 x12) fun x15 S16 =>
  lt_ (va_up V8 19 S16) fun V18 =>
  lt_ (fX12_thrown (V18 19)) fun x21 =>
  if x21 = x7 then
    if x7 = 0 then
      lt_ ((V18 20 0 0).toInt64) fun x25 =>
      if (lg_cmp x25 ((x15 : Int32).toInt64)) = 0 then
        some V18
      else
        none
    else
      some V18
  else
    none
set_option maxHeartbeats 4000000 in
set_option maxRecDepth 20000 in
theorem kLc_12 {l : Launch} {G : UG} (hG : uAll G) (hlt : l.stackTraces = false) {b L : Nat} {xs : Nat → Int32} {V V' : uV} {i : Int32} (h : fLc_12 xs L V i = some V') {p : Program} {e : Env} {s : State} {m : MethodId} {below : List Frame} {meth : Method} {c : Code} (X : UC p s m #[.ref b] meth c code 7 RL G) (hX : va_X b L xs s s.heap) (hbl : b < s.heap.size) (hbA : ¬ uA G b) {Q : State → Prop} {H : Heap} {locs : List Loc} {ls : Array Slot} {cells slots : Nat} (hfa : cells ≤ room_1.cells ∧ slots ≤ room_1.slots) (hfb : cells + 1 ≤ room_1.cells ∧ slots + 6 ≤ room_1.slots) (M : UM G V s H locs) (hl : lv_has ls 7 [(0, .ref b), (1, .ref (ga G 18 0)), (2, .ref (ga G 19 0)), (3, .ref (ga G 20 0)), (4, .int i)])
    (kk : ∀ (H : Heap) (locs : List Loc) (ls : Array Slot), UM G V' s H locs → lv_has ls 7 [(0, .ref b), (1, .ref (ga G 18 0)), (2, .ref (ga G 19 0)), (3, .ref (ga G 20 0)), (4, .int i)] → W p l e room_1 s m #[.ref b] below meth c H locs (cells + 1) (slots + 6) Q (F0 m 2008 ls [])) : W p l e room_1 s m #[.ref b] below meth c H locs cells slots Q (F0 m 814 ls []) := by
  have hx := X.hx
  have hb := X.hb
  unfold fLc_12 at h
  refine lv_aload_n hx hb dL_law_814 rfl (lv_at hl 1 rfl) ?_
  refine lv_aload_n hx hb dL_law_815 rfl (lv_at hl 0 rfl) ?_
  refine lv_iload hx hb dL_law_816 (lv_at hl 4 rfl) ?_
  refine lv_iconst (v := 1) hx hb dL_law_818 (by decide) ?_
  refine lv_iadd hx hb dL_law_819 ?_
  obtain ⟨g1, h⟩ := gd_e h
  obtain ⟨x2, e3, h⟩ := lt_e h
  refine va_sld hx hb hX hbl hbA M.2 (inb_e g1) dL_law_820 ?_
  refine u_topi e3 ?_
  refine lv_aload_n hx hb dL_law_821 rfl (lv_at hl 0 rfl) ?_
  refine lv_iload hx hb dL_law_822 (lv_at hl 4 rfl) ?_
  refine lv_iconst (v := 2) hx hb dL_law_824 (by decide) ?_
  refine lv_iadd hx hb dL_law_825 ?_
  obtain ⟨g4, h⟩ := gd_e h
  obtain ⟨x5, e6, h⟩ := lt_e h
  refine va_sld hx hb hX hbl hbA M.2 (inb_e g4) dL_law_826 ?_
  refine u_topi e6 ?_
  refine lv_aload_n hx hb dL_law_827 rfl (lv_at hl 3 rfl) ?_
  obtain ⟨x7, V8, e9, h⟩ := bd2_e h
  refine l_cSW X M hl.1 (kL_ride hG hlt e9) cl_156 ⟨Nat.le_of_ble_eq_true rfl, Nat.le_of_ble_eq_true rfl⟩ rfl rfl (Nat.le_of_ble_eq_true rfl) hfb dL_law_828 (fun H locs M => ?_)
  refine lv_istore (lv' := [(5, .int x7), (0, .ref b), (1, .ref (ga G 18 0)), (2, .ref (ga G 19 0)), (3, .ref (ga G 20 0)), (4, .int i)]) hx hb dL_law_831 hl (by decide) rfl (fun ls hl => ?_)
  refine lv_aload_n hx hb dL_law_833 rfl (lv_at hl 3 rfl) ?_
  refine lv_aload_n hx hb dL_law_834 rfl (lv_at hl 1 rfl) ?_
  refine lv_iload hx hb dL_law_835 (lv_at hl 5 rfl) ?_
  refine lv_iconst (v := 1) hx hb dL_law_837 (by decide) ?_
  refine lv_iadd hx hb dL_law_838 ?_
  obtain ⟨x10, e11, h⟩ := lt_e h
  refine va_sld hx hb hX hbl hbA M.2 (inb_e g1) dL_law_839 ?_
  refine u_topi e11 ?_
  refine lv_aload_n hx hb dL_law_840 rfl (lv_at hl 1 rfl) ?_
  refine lv_iload hx hb dL_law_841 (lv_at hl 5 rfl) ?_
  refine lv_iconst (v := 2) hx hb dL_law_843 (by decide) ?_
  refine lv_iadd hx hb dL_law_844 ?_
  obtain ⟨x12, e13, h⟩ := lt_e h
  refine va_sld hx hb hX hbl hbA M.2 (inb_e g4) dL_law_845 ?_
  refine u_topi e13 ?_
  obtain ⟨x15, S16, e14, h⟩ := bd2_e h
  have M := um_in 19 M
  refine u_cVi X M hl.1 (kX12_ride hG.2.2.1 e14) cw_L_158 ⟨Nat.le_of_ble_eq_true rfl, Nat.le_of_ble_eq_true rfl⟩ (rc_X12 X M hG.2.2.1) rfl rfl (Nat.le_of_ble_eq_true rfl) hfb dL_law_846 (fun H locs M n17 => ?_)
  obtain ⟨V18, e19, h⟩ := lt_e h
  rw [← e19] at M
  refine lv_istore (lv' := [(6, .int x15), (5, .int x7), (0, .ref b), (1, .ref (ga G 18 0)), (2, .ref (ga G 19 0)), (3, .ref (ga G 20 0)), (4, .int i)]) hx hb dL_law_849 hl (by decide) rfl (fun ls hl => ?_)
  refine lv_aload_n hx hb dL_law_851 rfl (lv_at hl 4 rfl) ?_
  obtain ⟨x21, e20, h⟩ := lt_e h
  refine u_cVi X M hl.1 (kX12_thrown hG.2.2.1 rfl e20.symm) cw_L_115 ⟨Nat.le_of_ble_eq_true rfl, Nat.le_of_ble_eq_true rfl⟩ (rc_X12 X M hG.2.2.1) rfl rfl (Nat.le_of_ble_eq_true rfl) hfb dL_law_852 (fun H locs M n22 => ?_)
  refine lv_iload hx hb dL_law_855 (lv_at hl 1 rfl) ?_
  refine lv_icmp_eq (tgt := 862) hx hb dL_law_857 (by decide) (fun c23 => ?_) (fun c23 => ?_)
  · have h := it_t h c23
    refine lv_iload hx hb dL_law_862 (lv_at hl 1 rfl) ?_
    refine lv_if_ne (tgt := 879) hx hb dL_law_864 (by decide) (fun c24 => ?_) (fun c24 => ?_)
    · have h := it_f h c24
      refine lv_goto (tgt := 2008) hx hb dL_law_879 (by decide) ?_
      exact kk H locs ls (Option.some.inj h ▸ M) (lv_sub hl [2, 3, 4, 5, 6] rfl)
    · have h := it_t h c24
      refine lv_aload_n hx hb dL_law_867 rfl (lv_at hl 5 rfl) ?_
      refine lv_iconst (v := 0) hx hb dL_law_868 (by decide) ?_
      obtain ⟨x25, e26, h⟩ := lt_e h
      refine u_lald X M hG.2.2.2.1 e26 dL_law_869 ?_
      refine lv_iload hx hb dL_law_870 (lv_at hl 0 rfl) ?_
      refine lv_i2l hx hb dL_law_872 rfl ?_
      refine W.lcmp hx hb dL_law_873 ?_
      refine lv_if_eq (tgt := 879) hx hb dL_law_874 (by decide) (fun c27 => ?_) (fun c27 => ?_)
      · have h := it_t h c27
        refine lv_goto (tgt := 2008) hx hb dL_law_879 (by decide) ?_
        exact kk H locs ls (Option.some.inj h ▸ M) (lv_sub hl [2, 3, 4, 5, 6] rfl)
      · have h := it_f h c27
        refine lv_iconst (v := 0) hx hb dL_law_877 (by decide) ?_
        cases h
  · have h := it_f h c23
    refine lv_iconst (v := 0) hx hb dL_law_860 (by decide) ?_
    cases h
def fLc_13 (xs : Nat → Int32) (L : Nat) (V : uV) (i : Int32) : Option uV :=
  gd (inb (i + 1) L) <|
  lt_ (xs ((i + 1) : Int32).toNatClampNeg) fun x2 =>
  gd (inb (i + 2) L) <|
  lt_ (xs ((i + 2) : Int32).toNatClampNeg) fun x5 =>
  bd2 (fL_pay V x2 x5) fun x7 V8 =>
  lt_ (xs ((i + 1) : Int32).toNatClampNeg) fun x10 =>
  lt_ (xs ((i + 2) : Int32).toNatClampNeg) fun x12 =>
  bd2 (fX12_pay (V8 19) x10 x12) fun x15 S16 =>
  lt_ (va_up V8 19 S16) fun V18 =>
  lt_ (fX12_thrown (V18 19)) fun x21 =>
  if x21 = x7 then
    if x7 = 0 then
      lt_ ((V18 20 0 0).toInt64) fun x25 =>
      if (lg_cmp x25 ((x15 : Int32).toInt64)) = 0 then
        some V18
      else
        none
    else
      some V18
  else
    none
set_option maxHeartbeats 4000000 in
set_option maxRecDepth 20000 in
theorem kLc_13 {l : Launch} {G : UG} (hG : uAll G) (hlt : l.stackTraces = false) {b L : Nat} {xs : Nat → Int32} {V V' : uV} {i : Int32} (h : fLc_13 xs L V i = some V') {p : Program} {e : Env} {s : State} {m : MethodId} {below : List Frame} {meth : Method} {c : Code} (X : UC p s m #[.ref b] meth c code 7 RL G) (hX : va_X b L xs s s.heap) (hbl : b < s.heap.size) (hbA : ¬ uA G b) {Q : State → Prop} {H : Heap} {locs : List Loc} {ls : Array Slot} {cells slots : Nat} (hfa : cells ≤ room_1.cells ∧ slots ≤ room_1.slots) (hfb : cells + 1 ≤ room_1.cells ∧ slots + 6 ≤ room_1.slots) (M : UM G V s H locs) (hl : lv_has ls 7 [(0, .ref b), (1, .ref (ga G 18 0)), (2, .ref (ga G 19 0)), (3, .ref (ga G 20 0)), (4, .int i)])
    (kk : ∀ (H : Heap) (locs : List Loc) (ls : Array Slot), UM G V' s H locs → lv_has ls 7 [(0, .ref b), (1, .ref (ga G 18 0)), (2, .ref (ga G 19 0)), (3, .ref (ga G 20 0)), (4, .int i)] → W p l e room_1 s m #[.ref b] below meth c H locs (cells + 1) (slots + 6) Q (F0 m 2008 ls [])) : W p l e room_1 s m #[.ref b] below meth c H locs cells slots Q (F0 m 882 ls []) := by
  have hx := X.hx
  have hb := X.hb
  unfold fLc_13 at h
  refine lv_aload_n hx hb dL_law_882 rfl (lv_at hl 1 rfl) ?_
  refine lv_aload_n hx hb dL_law_883 rfl (lv_at hl 0 rfl) ?_
  refine lv_iload hx hb dL_law_884 (lv_at hl 4 rfl) ?_
  refine lv_iconst (v := 1) hx hb dL_law_886 (by decide) ?_
  refine lv_iadd hx hb dL_law_887 ?_
  obtain ⟨g1, h⟩ := gd_e h
  obtain ⟨x2, e3, h⟩ := lt_e h
  refine va_sld hx hb hX hbl hbA M.2 (inb_e g1) dL_law_888 ?_
  refine u_topi e3 ?_
  refine lv_aload_n hx hb dL_law_889 rfl (lv_at hl 0 rfl) ?_
  refine lv_iload hx hb dL_law_890 (lv_at hl 4 rfl) ?_
  refine lv_iconst (v := 2) hx hb dL_law_892 (by decide) ?_
  refine lv_iadd hx hb dL_law_893 ?_
  obtain ⟨g4, h⟩ := gd_e h
  obtain ⟨x5, e6, h⟩ := lt_e h
  refine va_sld hx hb hX hbl hbA M.2 (inb_e g4) dL_law_894 ?_
  refine u_topi e6 ?_
  refine lv_aload_n hx hb dL_law_895 rfl (lv_at hl 3 rfl) ?_
  obtain ⟨x7, V8, e9, h⟩ := bd2_e h
  refine l_cSW X M hl.1 (kL_pay hG hlt e9) cl_159 ⟨Nat.le_of_ble_eq_true rfl, Nat.le_of_ble_eq_true rfl⟩ rfl rfl (Nat.le_of_ble_eq_true rfl) hfb dL_law_896 (fun H locs M => ?_)
  refine lv_istore (lv' := [(5, .int x7), (0, .ref b), (1, .ref (ga G 18 0)), (2, .ref (ga G 19 0)), (3, .ref (ga G 20 0)), (4, .int i)]) hx hb dL_law_899 hl (by decide) rfl (fun ls hl => ?_)
  refine lv_aload_n hx hb dL_law_901 rfl (lv_at hl 3 rfl) ?_
  refine lv_aload_n hx hb dL_law_902 rfl (lv_at hl 1 rfl) ?_
  refine lv_iload hx hb dL_law_903 (lv_at hl 5 rfl) ?_
  refine lv_iconst (v := 1) hx hb dL_law_905 (by decide) ?_
  refine lv_iadd hx hb dL_law_906 ?_
  obtain ⟨x10, e11, h⟩ := lt_e h
  refine va_sld hx hb hX hbl hbA M.2 (inb_e g1) dL_law_907 ?_
  refine u_topi e11 ?_
  refine lv_aload_n hx hb dL_law_908 rfl (lv_at hl 1 rfl) ?_
  refine lv_iload hx hb dL_law_909 (lv_at hl 5 rfl) ?_
  refine lv_iconst (v := 2) hx hb dL_law_911 (by decide) ?_
  refine lv_iadd hx hb dL_law_912 ?_
  obtain ⟨x12, e13, h⟩ := lt_e h
  refine va_sld hx hb hX hbl hbA M.2 (inb_e g4) dL_law_913 ?_
  refine u_topi e13 ?_
  obtain ⟨x15, S16, e14, h⟩ := bd2_e h
  have M := um_in 19 M
  refine u_cVi X M hl.1 (kX12_pay hG.2.2.1 e14) cw_L_161 ⟨Nat.le_of_ble_eq_true rfl, Nat.le_of_ble_eq_true rfl⟩ (rc_X12 X M hG.2.2.1) rfl rfl (Nat.le_of_ble_eq_true rfl) hfb dL_law_914 (fun H locs M n17 => ?_)
  obtain ⟨V18, e19, h⟩ := lt_e h
  rw [← e19] at M
  refine lv_istore (lv' := [(6, .int x15), (5, .int x7), (0, .ref b), (1, .ref (ga G 18 0)), (2, .ref (ga G 19 0)), (3, .ref (ga G 20 0)), (4, .int i)]) hx hb dL_law_917 hl (by decide) rfl (fun ls hl => ?_)
  refine lv_aload_n hx hb dL_law_919 rfl (lv_at hl 4 rfl) ?_
  obtain ⟨x21, e20, h⟩ := lt_e h
  refine u_cVi X M hl.1 (kX12_thrown hG.2.2.1 rfl e20.symm) cw_L_115 ⟨Nat.le_of_ble_eq_true rfl, Nat.le_of_ble_eq_true rfl⟩ (rc_X12 X M hG.2.2.1) rfl rfl (Nat.le_of_ble_eq_true rfl) hfb dL_law_920 (fun H locs M n22 => ?_)
  refine lv_iload hx hb dL_law_923 (lv_at hl 1 rfl) ?_
  refine lv_icmp_eq (tgt := 930) hx hb dL_law_925 (by decide) (fun c23 => ?_) (fun c23 => ?_)
  · have h := it_t h c23
    refine lv_iload hx hb dL_law_930 (lv_at hl 1 rfl) ?_
    refine lv_if_ne (tgt := 947) hx hb dL_law_932 (by decide) (fun c24 => ?_) (fun c24 => ?_)
    · have h := it_f h c24
      refine lv_goto (tgt := 2008) hx hb dL_law_947 (by decide) ?_
      exact kk H locs ls (Option.some.inj h ▸ M) (lv_sub hl [2, 3, 4, 5, 6] rfl)
    · have h := it_t h c24
      refine lv_aload_n hx hb dL_law_935 rfl (lv_at hl 5 rfl) ?_
      refine lv_iconst (v := 0) hx hb dL_law_936 (by decide) ?_
      obtain ⟨x25, e26, h⟩ := lt_e h
      refine u_lald X M hG.2.2.2.1 e26 dL_law_937 ?_
      refine lv_iload hx hb dL_law_938 (lv_at hl 0 rfl) ?_
      refine lv_i2l hx hb dL_law_940 rfl ?_
      refine W.lcmp hx hb dL_law_941 ?_
      refine lv_if_eq (tgt := 947) hx hb dL_law_942 (by decide) (fun c27 => ?_) (fun c27 => ?_)
      · have h := it_t h c27
        refine lv_goto (tgt := 2008) hx hb dL_law_947 (by decide) ?_
        exact kk H locs ls (Option.some.inj h ▸ M) (lv_sub hl [2, 3, 4, 5, 6] rfl)
      · have h := it_f h c27
        refine lv_iconst (v := 0) hx hb dL_law_945 (by decide) ?_
        cases h
  · have h := it_f h c23
    refine lv_iconst (v := 0) hx hb dL_law_928 (by decide) ?_
    cases h
def fLc_14 (xs : Nat → Int32) (L : Nat) (V : uV) (i : Int32) : Option uV :=
  gd (inb (i + 1) L) <|
  lt_ (xs ((i + 1) : Int32).toNatClampNeg) fun x2 =>
  bd2 (fL_pardon V x2) fun x4 V5 =>
  lt_ (xs ((i + 1) : Int32).toNatClampNeg) fun x7 =>
  bd2 (fX12_pardon (V5 19) x7) fun x10 S11 =>
  lt_ (va_up V5 19 S11) fun V13 =>
  lt_ (fX12_thrown (V13 19)) fun x16 =>
  if x16 = x4 then
    if x4 = 0 then
      lt_ ((V13 20 0 0).toInt64) fun x20 =>
      if (lg_cmp x20 ((x10 : Int32).toInt64)) = 0 then
        some V13
      else
        none
    else
      some V13
  else
    none
set_option maxHeartbeats 4000000 in
set_option maxRecDepth 20000 in
theorem kLc_14 {l : Launch} {G : UG} (hG : uAll G) (hlt : l.stackTraces = false) {b L : Nat} {xs : Nat → Int32} {V V' : uV} {i : Int32} (h : fLc_14 xs L V i = some V') {p : Program} {e : Env} {s : State} {m : MethodId} {below : List Frame} {meth : Method} {c : Code} (X : UC p s m #[.ref b] meth c code 7 RL G) (hX : va_X b L xs s s.heap) (hbl : b < s.heap.size) (hbA : ¬ uA G b) {Q : State → Prop} {H : Heap} {locs : List Loc} {ls : Array Slot} {cells slots : Nat} (hfa : cells ≤ room_1.cells ∧ slots ≤ room_1.slots) (hfb : cells + 1 ≤ room_1.cells ∧ slots + 6 ≤ room_1.slots) (M : UM G V s H locs) (hl : lv_has ls 7 [(0, .ref b), (1, .ref (ga G 18 0)), (2, .ref (ga G 19 0)), (3, .ref (ga G 20 0)), (4, .int i)])
    (kk : ∀ (H : Heap) (locs : List Loc) (ls : Array Slot), UM G V' s H locs → lv_has ls 7 [(0, .ref b), (1, .ref (ga G 18 0)), (2, .ref (ga G 19 0)), (3, .ref (ga G 20 0)), (4, .int i)] → W p l e room_1 s m #[.ref b] below meth c H locs (cells + 1) (slots + 6) Q (F0 m 2008 ls [])) : W p l e room_1 s m #[.ref b] below meth c H locs cells slots Q (F0 m 950 ls []) := by
  have hx := X.hx
  have hb := X.hb
  unfold fLc_14 at h
  refine lv_aload_n hx hb dL_law_950 rfl (lv_at hl 1 rfl) ?_
  refine lv_aload_n hx hb dL_law_951 rfl (lv_at hl 0 rfl) ?_
  refine lv_iload hx hb dL_law_952 (lv_at hl 4 rfl) ?_
  refine lv_iconst (v := 1) hx hb dL_law_954 (by decide) ?_
  refine lv_iadd hx hb dL_law_955 ?_
  obtain ⟨g1, h⟩ := gd_e h
  obtain ⟨x2, e3, h⟩ := lt_e h
  refine va_sld hx hb hX hbl hbA M.2 (inb_e g1) dL_law_956 ?_
  refine u_topi e3 ?_
  refine lv_aload_n hx hb dL_law_957 rfl (lv_at hl 3 rfl) ?_
  obtain ⟨x4, V5, e6, h⟩ := bd2_e h
  refine l_cSW X M hl.1 (kL_pardon hG hlt e6) cl_162 ⟨Nat.le_of_ble_eq_true rfl, Nat.le_of_ble_eq_true rfl⟩ rfl rfl (Nat.le_of_ble_eq_true rfl) hfb dL_law_958 (fun H locs M => ?_)
  refine lv_istore (lv' := [(5, .int x4), (0, .ref b), (1, .ref (ga G 18 0)), (2, .ref (ga G 19 0)), (3, .ref (ga G 20 0)), (4, .int i)]) hx hb dL_law_961 hl (by decide) rfl (fun ls hl => ?_)
  refine lv_aload_n hx hb dL_law_963 rfl (lv_at hl 3 rfl) ?_
  refine lv_aload_n hx hb dL_law_964 rfl (lv_at hl 1 rfl) ?_
  refine lv_iload hx hb dL_law_965 (lv_at hl 5 rfl) ?_
  refine lv_iconst (v := 1) hx hb dL_law_967 (by decide) ?_
  refine lv_iadd hx hb dL_law_968 ?_
  obtain ⟨x7, e8, h⟩ := lt_e h
  refine va_sld hx hb hX hbl hbA M.2 (inb_e g1) dL_law_969 ?_
  refine u_topi e8 ?_
  obtain ⟨x10, S11, e9, h⟩ := bd2_e h
  have M := um_in 19 M
  refine u_cVi X M hl.1 (kX12_pardon hG.2.2.1 e9) cw_L_164 ⟨Nat.le_of_ble_eq_true rfl, Nat.le_of_ble_eq_true rfl⟩ (rc_X12 X M hG.2.2.1) rfl rfl (Nat.le_of_ble_eq_true rfl) hfb dL_law_970 (fun H locs M n12 => ?_)
  obtain ⟨V13, e14, h⟩ := lt_e h
  rw [← e14] at M
  refine lv_istore (lv' := [(6, .int x10), (5, .int x4), (0, .ref b), (1, .ref (ga G 18 0)), (2, .ref (ga G 19 0)), (3, .ref (ga G 20 0)), (4, .int i)]) hx hb dL_law_973 hl (by decide) rfl (fun ls hl => ?_)
  refine lv_aload_n hx hb dL_law_975 rfl (lv_at hl 4 rfl) ?_
  obtain ⟨x16, e15, h⟩ := lt_e h
  refine u_cVi X M hl.1 (kX12_thrown hG.2.2.1 rfl e15.symm) cw_L_115 ⟨Nat.le_of_ble_eq_true rfl, Nat.le_of_ble_eq_true rfl⟩ (rc_X12 X M hG.2.2.1) rfl rfl (Nat.le_of_ble_eq_true rfl) hfb dL_law_976 (fun H locs M n17 => ?_)
  refine lv_iload hx hb dL_law_979 (lv_at hl 1 rfl) ?_
  refine lv_icmp_eq (tgt := 986) hx hb dL_law_981 (by decide) (fun c18 => ?_) (fun c18 => ?_)
  · have h := it_t h c18
    refine lv_iload hx hb dL_law_986 (lv_at hl 1 rfl) ?_
    refine lv_if_ne (tgt := 1003) hx hb dL_law_988 (by decide) (fun c19 => ?_) (fun c19 => ?_)
    · have h := it_f h c19
      refine lv_goto (tgt := 2008) hx hb dL_law_1003 (by decide) ?_
      exact kk H locs ls (Option.some.inj h ▸ M) (lv_sub hl [2, 3, 4, 5, 6] rfl)
    · have h := it_t h c19
      refine lv_aload_n hx hb dL_law_991 rfl (lv_at hl 5 rfl) ?_
      refine lv_iconst (v := 0) hx hb dL_law_992 (by decide) ?_
      obtain ⟨x20, e21, h⟩ := lt_e h
      refine u_lald X M hG.2.2.2.1 e21 dL_law_993 ?_
      refine lv_iload hx hb dL_law_994 (lv_at hl 0 rfl) ?_
      refine lv_i2l hx hb dL_law_996 rfl ?_
      refine W.lcmp hx hb dL_law_997 ?_
      refine lv_if_eq (tgt := 1003) hx hb dL_law_998 (by decide) (fun c22 => ?_) (fun c22 => ?_)
      · have h := it_t h c22
        refine lv_goto (tgt := 2008) hx hb dL_law_1003 (by decide) ?_
        exact kk H locs ls (Option.some.inj h ▸ M) (lv_sub hl [2, 3, 4, 5, 6] rfl)
      · have h := it_f h c22
        refine lv_iconst (v := 0) hx hb dL_law_1001 (by decide) ?_
        cases h
  · have h := it_f h c18
    refine lv_iconst (v := 0) hx hb dL_law_984 (by decide) ?_
    cases h
def fLc_15 (xs : Nat → Int32) (L : Nat) (V : uV) (i : Int32) : Option uV :=
  gd (inb (i + 1) L) <|
  lt_ (xs ((i + 1) : Int32).toNatClampNeg) fun x2 =>
  bd2 (fL_down V x2) fun x4 V5 =>
  lt_ (xs ((i + 1) : Int32).toNatClampNeg) fun x7 =>
  bd2 (fX12_down (V5 19) x7) fun x10 S11 =>
  lt_ (va_up V5 19 S11) fun V13 =>
  lt_ (fX12_thrown (V13 19)) fun x16 =>
  if x16 = x4 then
    if x4 = 0 then
      lt_ ((V13 20 0 0).toInt64) fun x20 =>
      if (lg_cmp x20 ((x10 : Int32).toInt64)) = 0 then
        some V13
      else
        none
    else
      some V13
  else
    none
set_option maxHeartbeats 4000000 in
set_option maxRecDepth 20000 in
theorem kLc_15 {l : Launch} {G : UG} (hG : uAll G) (hlt : l.stackTraces = false) {b L : Nat} {xs : Nat → Int32} {V V' : uV} {i : Int32} (h : fLc_15 xs L V i = some V') {p : Program} {e : Env} {s : State} {m : MethodId} {below : List Frame} {meth : Method} {c : Code} (X : UC p s m #[.ref b] meth c code 7 RL G) (hX : va_X b L xs s s.heap) (hbl : b < s.heap.size) (hbA : ¬ uA G b) {Q : State → Prop} {H : Heap} {locs : List Loc} {ls : Array Slot} {cells slots : Nat} (hfa : cells ≤ room_1.cells ∧ slots ≤ room_1.slots) (hfb : cells + 1 ≤ room_1.cells ∧ slots + 6 ≤ room_1.slots) (M : UM G V s H locs) (hl : lv_has ls 7 [(0, .ref b), (1, .ref (ga G 18 0)), (2, .ref (ga G 19 0)), (3, .ref (ga G 20 0)), (4, .int i)])
    (kk : ∀ (H : Heap) (locs : List Loc) (ls : Array Slot), UM G V' s H locs → lv_has ls 7 [(0, .ref b), (1, .ref (ga G 18 0)), (2, .ref (ga G 19 0)), (3, .ref (ga G 20 0)), (4, .int i)] → W p l e room_1 s m #[.ref b] below meth c H locs (cells + 1) (slots + 6) Q (F0 m 2008 ls [])) : W p l e room_1 s m #[.ref b] below meth c H locs cells slots Q (F0 m 1006 ls []) := by
  have hx := X.hx
  have hb := X.hb
  unfold fLc_15 at h
  refine lv_aload_n hx hb dL_law_1006 rfl (lv_at hl 1 rfl) ?_
  refine lv_aload_n hx hb dL_law_1007 rfl (lv_at hl 0 rfl) ?_
  refine lv_iload hx hb dL_law_1008 (lv_at hl 4 rfl) ?_
  refine lv_iconst (v := 1) hx hb dL_law_1010 (by decide) ?_
  refine lv_iadd hx hb dL_law_1011 ?_
  obtain ⟨g1, h⟩ := gd_e h
  obtain ⟨x2, e3, h⟩ := lt_e h
  refine va_sld hx hb hX hbl hbA M.2 (inb_e g1) dL_law_1012 ?_
  refine u_topi e3 ?_
  refine lv_aload_n hx hb dL_law_1013 rfl (lv_at hl 3 rfl) ?_
  obtain ⟨x4, V5, e6, h⟩ := bd2_e h
  refine l_cSW X M hl.1 (kL_down hG hlt e6) cl_165 ⟨Nat.le_of_ble_eq_true rfl, Nat.le_of_ble_eq_true rfl⟩ rfl rfl (Nat.le_of_ble_eq_true rfl) hfb dL_law_1014 (fun H locs M => ?_)
  refine lv_istore (lv' := [(5, .int x4), (0, .ref b), (1, .ref (ga G 18 0)), (2, .ref (ga G 19 0)), (3, .ref (ga G 20 0)), (4, .int i)]) hx hb dL_law_1017 hl (by decide) rfl (fun ls hl => ?_)
  refine lv_aload_n hx hb dL_law_1019 rfl (lv_at hl 3 rfl) ?_
  refine lv_aload_n hx hb dL_law_1020 rfl (lv_at hl 1 rfl) ?_
  refine lv_iload hx hb dL_law_1021 (lv_at hl 5 rfl) ?_
  refine lv_iconst (v := 1) hx hb dL_law_1023 (by decide) ?_
  refine lv_iadd hx hb dL_law_1024 ?_
  obtain ⟨x7, e8, h⟩ := lt_e h
  refine va_sld hx hb hX hbl hbA M.2 (inb_e g1) dL_law_1025 ?_
  refine u_topi e8 ?_
  obtain ⟨x10, S11, e9, h⟩ := bd2_e h
  have M := um_in 19 M
  refine u_cVi X M hl.1 (kX12_down hG.2.2.1 e9) cw_L_167 ⟨Nat.le_of_ble_eq_true rfl, Nat.le_of_ble_eq_true rfl⟩ (rc_X12 X M hG.2.2.1) rfl rfl (Nat.le_of_ble_eq_true rfl) hfb dL_law_1026 (fun H locs M n12 => ?_)
  obtain ⟨V13, e14, h⟩ := lt_e h
  rw [← e14] at M
  refine lv_istore (lv' := [(6, .int x10), (5, .int x4), (0, .ref b), (1, .ref (ga G 18 0)), (2, .ref (ga G 19 0)), (3, .ref (ga G 20 0)), (4, .int i)]) hx hb dL_law_1029 hl (by decide) rfl (fun ls hl => ?_)
  refine lv_aload_n hx hb dL_law_1031 rfl (lv_at hl 4 rfl) ?_
  obtain ⟨x16, e15, h⟩ := lt_e h
  refine u_cVi X M hl.1 (kX12_thrown hG.2.2.1 rfl e15.symm) cw_L_115 ⟨Nat.le_of_ble_eq_true rfl, Nat.le_of_ble_eq_true rfl⟩ (rc_X12 X M hG.2.2.1) rfl rfl (Nat.le_of_ble_eq_true rfl) hfb dL_law_1032 (fun H locs M n17 => ?_)
  refine lv_iload hx hb dL_law_1035 (lv_at hl 1 rfl) ?_
  refine lv_icmp_eq (tgt := 1042) hx hb dL_law_1037 (by decide) (fun c18 => ?_) (fun c18 => ?_)
  · have h := it_t h c18
    refine lv_iload hx hb dL_law_1042 (lv_at hl 1 rfl) ?_
    refine lv_if_ne (tgt := 1059) hx hb dL_law_1044 (by decide) (fun c19 => ?_) (fun c19 => ?_)
    · have h := it_f h c19
      refine lv_goto (tgt := 2008) hx hb dL_law_1059 (by decide) ?_
      exact kk H locs ls (Option.some.inj h ▸ M) (lv_sub hl [2, 3, 4, 5, 6] rfl)
    · have h := it_t h c19
      refine lv_aload_n hx hb dL_law_1047 rfl (lv_at hl 5 rfl) ?_
      refine lv_iconst (v := 0) hx hb dL_law_1048 (by decide) ?_
      obtain ⟨x20, e21, h⟩ := lt_e h
      refine u_lald X M hG.2.2.2.1 e21 dL_law_1049 ?_
      refine lv_iload hx hb dL_law_1050 (lv_at hl 0 rfl) ?_
      refine lv_i2l hx hb dL_law_1052 rfl ?_
      refine W.lcmp hx hb dL_law_1053 ?_
      refine lv_if_eq (tgt := 1059) hx hb dL_law_1054 (by decide) (fun c22 => ?_) (fun c22 => ?_)
      · have h := it_t h c22
        refine lv_goto (tgt := 2008) hx hb dL_law_1059 (by decide) ?_
        exact kk H locs ls (Option.some.inj h ▸ M) (lv_sub hl [2, 3, 4, 5, 6] rfl)
      · have h := it_f h c22
        refine lv_iconst (v := 0) hx hb dL_law_1057 (by decide) ?_
        cases h
  · have h := it_f h c18
    refine lv_iconst (v := 0) hx hb dL_law_1040 (by decide) ?_
    cases h
def fLc_16 (xs : Nat → Int32) (L : Nat) (V : uV) (i : Int32) : Option uV :=
  gd (inb (i + 1) L) <|
  lt_ (xs ((i + 1) : Int32).toNatClampNeg) fun x2 =>
  bd2 (fL_up V x2) fun x4 V5 =>
  lt_ (xs ((i + 1) : Int32).toNatClampNeg) fun x7 =>
  bd2 (fX12_up (V5 19) x7) fun x10 S11 =>
  lt_ (va_up V5 19 S11) fun V13 =>
  lt_ (fX12_thrown (V13 19)) fun x16 =>
  if x16 = x4 then
    if x4 = 0 then
      lt_ ((V13 20 0 0).toInt64) fun x20 =>
      if (lg_cmp x20 ((x10 : Int32).toInt64)) = 0 then
        some V13
      else
        none
    else
      some V13
  else
    none
set_option maxHeartbeats 4000000 in
set_option maxRecDepth 20000 in
theorem kLc_16 {l : Launch} {G : UG} (hG : uAll G) (hlt : l.stackTraces = false) {b L : Nat} {xs : Nat → Int32} {V V' : uV} {i : Int32} (h : fLc_16 xs L V i = some V') {p : Program} {e : Env} {s : State} {m : MethodId} {below : List Frame} {meth : Method} {c : Code} (X : UC p s m #[.ref b] meth c code 7 RL G) (hX : va_X b L xs s s.heap) (hbl : b < s.heap.size) (hbA : ¬ uA G b) {Q : State → Prop} {H : Heap} {locs : List Loc} {ls : Array Slot} {cells slots : Nat} (hfa : cells ≤ room_1.cells ∧ slots ≤ room_1.slots) (hfb : cells + 1 ≤ room_1.cells ∧ slots + 6 ≤ room_1.slots) (M : UM G V s H locs) (hl : lv_has ls 7 [(0, .ref b), (1, .ref (ga G 18 0)), (2, .ref (ga G 19 0)), (3, .ref (ga G 20 0)), (4, .int i)])
    (kk : ∀ (H : Heap) (locs : List Loc) (ls : Array Slot), UM G V' s H locs → lv_has ls 7 [(0, .ref b), (1, .ref (ga G 18 0)), (2, .ref (ga G 19 0)), (3, .ref (ga G 20 0)), (4, .int i)] → W p l e room_1 s m #[.ref b] below meth c H locs (cells + 1) (slots + 6) Q (F0 m 2008 ls [])) : W p l e room_1 s m #[.ref b] below meth c H locs cells slots Q (F0 m 1062 ls []) := by
  have hx := X.hx
  have hb := X.hb
  unfold fLc_16 at h
  refine lv_aload_n hx hb dL_law_1062 rfl (lv_at hl 1 rfl) ?_
  refine lv_aload_n hx hb dL_law_1063 rfl (lv_at hl 0 rfl) ?_
  refine lv_iload hx hb dL_law_1064 (lv_at hl 4 rfl) ?_
  refine lv_iconst (v := 1) hx hb dL_law_1066 (by decide) ?_
  refine lv_iadd hx hb dL_law_1067 ?_
  obtain ⟨g1, h⟩ := gd_e h
  obtain ⟨x2, e3, h⟩ := lt_e h
  refine va_sld hx hb hX hbl hbA M.2 (inb_e g1) dL_law_1068 ?_
  refine u_topi e3 ?_
  refine lv_aload_n hx hb dL_law_1069 rfl (lv_at hl 3 rfl) ?_
  obtain ⟨x4, V5, e6, h⟩ := bd2_e h
  refine l_cSW X M hl.1 (kL_up hG hlt e6) cl_168 ⟨Nat.le_of_ble_eq_true rfl, Nat.le_of_ble_eq_true rfl⟩ rfl rfl (Nat.le_of_ble_eq_true rfl) hfb dL_law_1070 (fun H locs M => ?_)
  refine lv_istore (lv' := [(5, .int x4), (0, .ref b), (1, .ref (ga G 18 0)), (2, .ref (ga G 19 0)), (3, .ref (ga G 20 0)), (4, .int i)]) hx hb dL_law_1073 hl (by decide) rfl (fun ls hl => ?_)
  refine lv_aload_n hx hb dL_law_1075 rfl (lv_at hl 3 rfl) ?_
  refine lv_aload_n hx hb dL_law_1076 rfl (lv_at hl 1 rfl) ?_
  refine lv_iload hx hb dL_law_1077 (lv_at hl 5 rfl) ?_
  refine lv_iconst (v := 1) hx hb dL_law_1079 (by decide) ?_
  refine lv_iadd hx hb dL_law_1080 ?_
  obtain ⟨x7, e8, h⟩ := lt_e h
  refine va_sld hx hb hX hbl hbA M.2 (inb_e g1) dL_law_1081 ?_
  refine u_topi e8 ?_
  obtain ⟨x10, S11, e9, h⟩ := bd2_e h
  have M := um_in 19 M
  refine u_cVi X M hl.1 (kX12_up hG.2.2.1 e9) cw_L_170 ⟨Nat.le_of_ble_eq_true rfl, Nat.le_of_ble_eq_true rfl⟩ (rc_X12 X M hG.2.2.1) rfl rfl (Nat.le_of_ble_eq_true rfl) hfb dL_law_1082 (fun H locs M n12 => ?_)
  obtain ⟨V13, e14, h⟩ := lt_e h
  rw [← e14] at M
  refine lv_istore (lv' := [(6, .int x10), (5, .int x4), (0, .ref b), (1, .ref (ga G 18 0)), (2, .ref (ga G 19 0)), (3, .ref (ga G 20 0)), (4, .int i)]) hx hb dL_law_1085 hl (by decide) rfl (fun ls hl => ?_)
  refine lv_aload_n hx hb dL_law_1087 rfl (lv_at hl 4 rfl) ?_
  obtain ⟨x16, e15, h⟩ := lt_e h
  refine u_cVi X M hl.1 (kX12_thrown hG.2.2.1 rfl e15.symm) cw_L_115 ⟨Nat.le_of_ble_eq_true rfl, Nat.le_of_ble_eq_true rfl⟩ (rc_X12 X M hG.2.2.1) rfl rfl (Nat.le_of_ble_eq_true rfl) hfb dL_law_1088 (fun H locs M n17 => ?_)
  refine lv_iload hx hb dL_law_1091 (lv_at hl 1 rfl) ?_
  refine lv_icmp_eq (tgt := 1098) hx hb dL_law_1093 (by decide) (fun c18 => ?_) (fun c18 => ?_)
  · have h := it_t h c18
    refine lv_iload hx hb dL_law_1098 (lv_at hl 1 rfl) ?_
    refine lv_if_ne (tgt := 1115) hx hb dL_law_1100 (by decide) (fun c19 => ?_) (fun c19 => ?_)
    · have h := it_f h c19
      refine lv_goto (tgt := 2008) hx hb dL_law_1115 (by decide) ?_
      exact kk H locs ls (Option.some.inj h ▸ M) (lv_sub hl [2, 3, 4, 5, 6] rfl)
    · have h := it_t h c19
      refine lv_aload_n hx hb dL_law_1103 rfl (lv_at hl 5 rfl) ?_
      refine lv_iconst (v := 0) hx hb dL_law_1104 (by decide) ?_
      obtain ⟨x20, e21, h⟩ := lt_e h
      refine u_lald X M hG.2.2.2.1 e21 dL_law_1105 ?_
      refine lv_iload hx hb dL_law_1106 (lv_at hl 0 rfl) ?_
      refine lv_i2l hx hb dL_law_1108 rfl ?_
      refine W.lcmp hx hb dL_law_1109 ?_
      refine lv_if_eq (tgt := 1115) hx hb dL_law_1110 (by decide) (fun c22 => ?_) (fun c22 => ?_)
      · have h := it_t h c22
        refine lv_goto (tgt := 2008) hx hb dL_law_1115 (by decide) ?_
        exact kk H locs ls (Option.some.inj h ▸ M) (lv_sub hl [2, 3, 4, 5, 6] rfl)
      · have h := it_f h c22
        refine lv_iconst (v := 0) hx hb dL_law_1113 (by decide) ?_
        cases h
  · have h := it_f h c18
    refine lv_iconst (v := 0) hx hb dL_law_1096 (by decide) ?_
    cases h
def fLc_17 (xs : Nat → Int32) (L : Nat) (V : uV) (i : Int32) : Option uV :=
  gd (inb (i + 1) L) <|
  lt_ (xs ((i + 1) : Int32).toNatClampNeg) fun x2 =>
  bd2 (fL_open V x2) fun x4 V5 =>
  lt_ (xs ((i + 1) : Int32).toNatClampNeg) fun x7 =>
  bd2 (fX12_open (V5 19) x7) fun x10 S11 =>
  lt_ (va_up V5 19 S11) fun V13 =>
  lt_ (fX12_thrown (V13 19)) fun x16 =>
  if x16 = x4 then
    if x4 = 0 then
      lt_ ((V13 20 0 0).toInt64) fun x20 =>
      if (lg_cmp x20 ((x10 : Int32).toInt64)) = 0 then
        some V13
      else
        none
    else
      some V13
  else
    none
set_option maxHeartbeats 4000000 in
set_option maxRecDepth 20000 in
theorem kLc_17 {l : Launch} {G : UG} (hG : uAll G) (hlt : l.stackTraces = false) {b L : Nat} {xs : Nat → Int32} {V V' : uV} {i : Int32} (h : fLc_17 xs L V i = some V') {p : Program} {e : Env} {s : State} {m : MethodId} {below : List Frame} {meth : Method} {c : Code} (X : UC p s m #[.ref b] meth c code 7 RL G) (hX : va_X b L xs s s.heap) (hbl : b < s.heap.size) (hbA : ¬ uA G b) {Q : State → Prop} {H : Heap} {locs : List Loc} {ls : Array Slot} {cells slots : Nat} (hfa : cells ≤ room_1.cells ∧ slots ≤ room_1.slots) (hfb : cells + 1 ≤ room_1.cells ∧ slots + 6 ≤ room_1.slots) (M : UM G V s H locs) (hl : lv_has ls 7 [(0, .ref b), (1, .ref (ga G 18 0)), (2, .ref (ga G 19 0)), (3, .ref (ga G 20 0)), (4, .int i)])
    (kk : ∀ (H : Heap) (locs : List Loc) (ls : Array Slot), UM G V' s H locs → lv_has ls 7 [(0, .ref b), (1, .ref (ga G 18 0)), (2, .ref (ga G 19 0)), (3, .ref (ga G 20 0)), (4, .int i)] → W p l e room_1 s m #[.ref b] below meth c H locs (cells + 1) (slots + 6) Q (F0 m 2008 ls [])) : W p l e room_1 s m #[.ref b] below meth c H locs cells slots Q (F0 m 1118 ls []) := by
  have hx := X.hx
  have hb := X.hb
  unfold fLc_17 at h
  refine lv_aload_n hx hb dL_law_1118 rfl (lv_at hl 1 rfl) ?_
  refine lv_aload_n hx hb dL_law_1119 rfl (lv_at hl 0 rfl) ?_
  refine lv_iload hx hb dL_law_1120 (lv_at hl 4 rfl) ?_
  refine lv_iconst (v := 1) hx hb dL_law_1122 (by decide) ?_
  refine lv_iadd hx hb dL_law_1123 ?_
  obtain ⟨g1, h⟩ := gd_e h
  obtain ⟨x2, e3, h⟩ := lt_e h
  refine va_sld hx hb hX hbl hbA M.2 (inb_e g1) dL_law_1124 ?_
  refine u_topi e3 ?_
  refine lv_aload_n hx hb dL_law_1125 rfl (lv_at hl 3 rfl) ?_
  obtain ⟨x4, V5, e6, h⟩ := bd2_e h
  refine l_cSW X M hl.1 (kL_open hG hlt e6) cl_171 ⟨Nat.le_of_ble_eq_true rfl, Nat.le_of_ble_eq_true rfl⟩ rfl rfl (Nat.le_of_ble_eq_true rfl) hfb dL_law_1126 (fun H locs M => ?_)
  refine lv_istore (lv' := [(5, .int x4), (0, .ref b), (1, .ref (ga G 18 0)), (2, .ref (ga G 19 0)), (3, .ref (ga G 20 0)), (4, .int i)]) hx hb dL_law_1129 hl (by decide) rfl (fun ls hl => ?_)
  refine lv_aload_n hx hb dL_law_1131 rfl (lv_at hl 3 rfl) ?_
  refine lv_aload_n hx hb dL_law_1132 rfl (lv_at hl 1 rfl) ?_
  refine lv_iload hx hb dL_law_1133 (lv_at hl 5 rfl) ?_
  refine lv_iconst (v := 1) hx hb dL_law_1135 (by decide) ?_
  refine lv_iadd hx hb dL_law_1136 ?_
  obtain ⟨x7, e8, h⟩ := lt_e h
  refine va_sld hx hb hX hbl hbA M.2 (inb_e g1) dL_law_1137 ?_
  refine u_topi e8 ?_
  obtain ⟨x10, S11, e9, h⟩ := bd2_e h
  have M := um_in 19 M
  refine u_cVi X M hl.1 (kX12_open hG.2.2.1 e9) cw_L_173 ⟨Nat.le_of_ble_eq_true rfl, Nat.le_of_ble_eq_true rfl⟩ (rc_X12 X M hG.2.2.1) rfl rfl (Nat.le_of_ble_eq_true rfl) hfb dL_law_1138 (fun H locs M n12 => ?_)
  obtain ⟨V13, e14, h⟩ := lt_e h
  rw [← e14] at M
  refine lv_istore (lv' := [(6, .int x10), (5, .int x4), (0, .ref b), (1, .ref (ga G 18 0)), (2, .ref (ga G 19 0)), (3, .ref (ga G 20 0)), (4, .int i)]) hx hb dL_law_1141 hl (by decide) rfl (fun ls hl => ?_)
  refine lv_aload_n hx hb dL_law_1143 rfl (lv_at hl 4 rfl) ?_
  obtain ⟨x16, e15, h⟩ := lt_e h
  refine u_cVi X M hl.1 (kX12_thrown hG.2.2.1 rfl e15.symm) cw_L_115 ⟨Nat.le_of_ble_eq_true rfl, Nat.le_of_ble_eq_true rfl⟩ (rc_X12 X M hG.2.2.1) rfl rfl (Nat.le_of_ble_eq_true rfl) hfb dL_law_1144 (fun H locs M n17 => ?_)
  refine lv_iload hx hb dL_law_1147 (lv_at hl 1 rfl) ?_
  refine lv_icmp_eq (tgt := 1154) hx hb dL_law_1149 (by decide) (fun c18 => ?_) (fun c18 => ?_)
  · have h := it_t h c18
    refine lv_iload hx hb dL_law_1154 (lv_at hl 1 rfl) ?_
    refine lv_if_ne (tgt := 1171) hx hb dL_law_1156 (by decide) (fun c19 => ?_) (fun c19 => ?_)
    · have h := it_f h c19
      refine lv_goto (tgt := 2008) hx hb dL_law_1171 (by decide) ?_
      exact kk H locs ls (Option.some.inj h ▸ M) (lv_sub hl [2, 3, 4, 5, 6] rfl)
    · have h := it_t h c19
      refine lv_aload_n hx hb dL_law_1159 rfl (lv_at hl 5 rfl) ?_
      refine lv_iconst (v := 0) hx hb dL_law_1160 (by decide) ?_
      obtain ⟨x20, e21, h⟩ := lt_e h
      refine u_lald X M hG.2.2.2.1 e21 dL_law_1161 ?_
      refine lv_iload hx hb dL_law_1162 (lv_at hl 0 rfl) ?_
      refine lv_i2l hx hb dL_law_1164 rfl ?_
      refine W.lcmp hx hb dL_law_1165 ?_
      refine lv_if_eq (tgt := 1171) hx hb dL_law_1166 (by decide) (fun c22 => ?_) (fun c22 => ?_)
      · have h := it_t h c22
        refine lv_goto (tgt := 2008) hx hb dL_law_1171 (by decide) ?_
        exact kk H locs ls (Option.some.inj h ▸ M) (lv_sub hl [2, 3, 4, 5, 6] rfl)
      · have h := it_f h c22
        refine lv_iconst (v := 0) hx hb dL_law_1169 (by decide) ?_
        cases h
  · have h := it_f h c18
    refine lv_iconst (v := 0) hx hb dL_law_1152 (by decide) ?_
    cases h
def fLc_18 (xs : Nat → Int32) (L : Nat) (V : uV) (i : Int32) : Option uV :=
  gd (inb (i + 1) L) <|
  lt_ (xs ((i + 1) : Int32).toNatClampNeg) fun x2 =>
  gd (inb (i + 2) L) <|
  lt_ (xs ((i + 2) : Int32).toNatClampNeg) fun x5 =>
  bd2 (fL_fare V x2 x5) fun x7 V8 =>
  lt_ (xs ((i + 1) : Int32).toNatClampNeg) fun x10 =>
  lt_ (xs ((i + 2) : Int32).toNatClampNeg) fun x12 =>
  bd2 (fX12_fare (V8 19) x10 x12) fun x15 S16 =>
  lt_ (va_up V8 19 S16) fun V18 =>
  lt_ (fX12_thrown (V18 19)) fun x21 =>
  if x21 = x7 then
    if x7 = 0 then
      lt_ ((V18 20 0 0).toInt64) fun x25 =>
      if (lg_cmp x25 ((x15 : Int32).toInt64)) = 0 then
        some V18
      else
        none
    else
      some V18
  else
    none
set_option maxHeartbeats 4000000 in
set_option maxRecDepth 20000 in
theorem kLc_18 {l : Launch} {G : UG} (hG : uAll G) (hlt : l.stackTraces = false) {b L : Nat} {xs : Nat → Int32} {V V' : uV} {i : Int32} (h : fLc_18 xs L V i = some V') {p : Program} {e : Env} {s : State} {m : MethodId} {below : List Frame} {meth : Method} {c : Code} (X : UC p s m #[.ref b] meth c code 7 RL G) (hX : va_X b L xs s s.heap) (hbl : b < s.heap.size) (hbA : ¬ uA G b) {Q : State → Prop} {H : Heap} {locs : List Loc} {ls : Array Slot} {cells slots : Nat} (hfa : cells ≤ room_1.cells ∧ slots ≤ room_1.slots) (hfb : cells + 1 ≤ room_1.cells ∧ slots + 6 ≤ room_1.slots) (M : UM G V s H locs) (hl : lv_has ls 7 [(0, .ref b), (1, .ref (ga G 18 0)), (2, .ref (ga G 19 0)), (3, .ref (ga G 20 0)), (4, .int i)])
    (kk : ∀ (H : Heap) (locs : List Loc) (ls : Array Slot), UM G V' s H locs → lv_has ls 7 [(0, .ref b), (1, .ref (ga G 18 0)), (2, .ref (ga G 19 0)), (3, .ref (ga G 20 0)), (4, .int i)] → W p l e room_1 s m #[.ref b] below meth c H locs (cells + 1) (slots + 6) Q (F0 m 2008 ls [])) : W p l e room_1 s m #[.ref b] below meth c H locs cells slots Q (F0 m 1174 ls []) := by
  have hx := X.hx
  have hb := X.hb
  unfold fLc_18 at h
  refine lv_aload_n hx hb dL_law_1174 rfl (lv_at hl 1 rfl) ?_
  refine lv_aload_n hx hb dL_law_1175 rfl (lv_at hl 0 rfl) ?_
  refine lv_iload hx hb dL_law_1176 (lv_at hl 4 rfl) ?_
  refine lv_iconst (v := 1) hx hb dL_law_1178 (by decide) ?_
  refine lv_iadd hx hb dL_law_1179 ?_
  obtain ⟨g1, h⟩ := gd_e h
  obtain ⟨x2, e3, h⟩ := lt_e h
  refine va_sld hx hb hX hbl hbA M.2 (inb_e g1) dL_law_1180 ?_
  refine u_topi e3 ?_
  refine lv_aload_n hx hb dL_law_1181 rfl (lv_at hl 0 rfl) ?_
  refine lv_iload hx hb dL_law_1182 (lv_at hl 4 rfl) ?_
  refine lv_iconst (v := 2) hx hb dL_law_1184 (by decide) ?_
  refine lv_iadd hx hb dL_law_1185 ?_
  obtain ⟨g4, h⟩ := gd_e h
  obtain ⟨x5, e6, h⟩ := lt_e h
  refine va_sld hx hb hX hbl hbA M.2 (inb_e g4) dL_law_1186 ?_
  refine u_topi e6 ?_
  refine lv_aload_n hx hb dL_law_1187 rfl (lv_at hl 3 rfl) ?_
  obtain ⟨x7, V8, e9, h⟩ := bd2_e h
  refine l_cSW X M hl.1 (kL_fare hG hlt e9) cl_174 ⟨Nat.le_of_ble_eq_true rfl, Nat.le_of_ble_eq_true rfl⟩ rfl rfl (Nat.le_of_ble_eq_true rfl) hfb dL_law_1188 (fun H locs M => ?_)
  refine lv_istore (lv' := [(5, .int x7), (0, .ref b), (1, .ref (ga G 18 0)), (2, .ref (ga G 19 0)), (3, .ref (ga G 20 0)), (4, .int i)]) hx hb dL_law_1191 hl (by decide) rfl (fun ls hl => ?_)
  refine lv_aload_n hx hb dL_law_1193 rfl (lv_at hl 3 rfl) ?_
  refine lv_aload_n hx hb dL_law_1194 rfl (lv_at hl 1 rfl) ?_
  refine lv_iload hx hb dL_law_1195 (lv_at hl 5 rfl) ?_
  refine lv_iconst (v := 1) hx hb dL_law_1197 (by decide) ?_
  refine lv_iadd hx hb dL_law_1198 ?_
  obtain ⟨x10, e11, h⟩ := lt_e h
  refine va_sld hx hb hX hbl hbA M.2 (inb_e g1) dL_law_1199 ?_
  refine u_topi e11 ?_
  refine lv_aload_n hx hb dL_law_1200 rfl (lv_at hl 1 rfl) ?_
  refine lv_iload hx hb dL_law_1201 (lv_at hl 5 rfl) ?_
  refine lv_iconst (v := 2) hx hb dL_law_1203 (by decide) ?_
  refine lv_iadd hx hb dL_law_1204 ?_
  obtain ⟨x12, e13, h⟩ := lt_e h
  refine va_sld hx hb hX hbl hbA M.2 (inb_e g4) dL_law_1205 ?_
  refine u_topi e13 ?_
  obtain ⟨x15, S16, e14, h⟩ := bd2_e h
  have M := um_in 19 M
  refine u_cVi X M hl.1 (kX12_fare hG.2.2.1 e14) cw_L_176 ⟨Nat.le_of_ble_eq_true rfl, Nat.le_of_ble_eq_true rfl⟩ (rc_X12 X M hG.2.2.1) rfl rfl (Nat.le_of_ble_eq_true rfl) hfb dL_law_1206 (fun H locs M n17 => ?_)
  obtain ⟨V18, e19, h⟩ := lt_e h
  rw [← e19] at M
  refine lv_istore (lv' := [(6, .int x15), (5, .int x7), (0, .ref b), (1, .ref (ga G 18 0)), (2, .ref (ga G 19 0)), (3, .ref (ga G 20 0)), (4, .int i)]) hx hb dL_law_1209 hl (by decide) rfl (fun ls hl => ?_)
  refine lv_aload_n hx hb dL_law_1211 rfl (lv_at hl 4 rfl) ?_
  obtain ⟨x21, e20, h⟩ := lt_e h
  refine u_cVi X M hl.1 (kX12_thrown hG.2.2.1 rfl e20.symm) cw_L_115 ⟨Nat.le_of_ble_eq_true rfl, Nat.le_of_ble_eq_true rfl⟩ (rc_X12 X M hG.2.2.1) rfl rfl (Nat.le_of_ble_eq_true rfl) hfb dL_law_1212 (fun H locs M n22 => ?_)
  refine lv_iload hx hb dL_law_1215 (lv_at hl 1 rfl) ?_
  refine lv_icmp_eq (tgt := 1222) hx hb dL_law_1217 (by decide) (fun c23 => ?_) (fun c23 => ?_)
  · have h := it_t h c23
    refine lv_iload hx hb dL_law_1222 (lv_at hl 1 rfl) ?_
    refine lv_if_ne (tgt := 1239) hx hb dL_law_1224 (by decide) (fun c24 => ?_) (fun c24 => ?_)
    · have h := it_f h c24
      refine lv_goto (tgt := 2008) hx hb dL_law_1239 (by decide) ?_
      exact kk H locs ls (Option.some.inj h ▸ M) (lv_sub hl [2, 3, 4, 5, 6] rfl)
    · have h := it_t h c24
      refine lv_aload_n hx hb dL_law_1227 rfl (lv_at hl 5 rfl) ?_
      refine lv_iconst (v := 0) hx hb dL_law_1228 (by decide) ?_
      obtain ⟨x25, e26, h⟩ := lt_e h
      refine u_lald X M hG.2.2.2.1 e26 dL_law_1229 ?_
      refine lv_iload hx hb dL_law_1230 (lv_at hl 0 rfl) ?_
      refine lv_i2l hx hb dL_law_1232 rfl ?_
      refine W.lcmp hx hb dL_law_1233 ?_
      refine lv_if_eq (tgt := 1239) hx hb dL_law_1234 (by decide) (fun c27 => ?_) (fun c27 => ?_)
      · have h := it_t h c27
        refine lv_goto (tgt := 2008) hx hb dL_law_1239 (by decide) ?_
        exact kk H locs ls (Option.some.inj h ▸ M) (lv_sub hl [2, 3, 4, 5, 6] rfl)
      · have h := it_f h c27
        refine lv_iconst (v := 0) hx hb dL_law_1237 (by decide) ?_
        cases h
  · have h := it_f h c23
    refine lv_iconst (v := 0) hx hb dL_law_1220 (by decide) ?_
    cases h
def fLc_19 (xs : Nat → Int32) (L : Nat) (V : uV) (i : Int32) : Option uV :=
  gd (inb (i + 1) L) <|
  lt_ (xs ((i + 1) : Int32).toNatClampNeg) fun x2 =>
  bd2 (fL_run V x2) fun x4 V5 =>
  lt_ (xs ((i + 1) : Int32).toNatClampNeg) fun x7 =>
  bd2 (fX12_run (V5 19) x7) fun x10 S11 =>
  lt_ (va_up V5 19 S11) fun V13 =>
  lt_ (fX12_thrown (V13 19)) fun x16 =>
  if x16 = x4 then
    if x4 = 0 then
      lt_ ((V13 20 0 0).toInt64) fun x20 =>
      if (lg_cmp x20 ((x10 : Int32).toInt64)) = 0 then
        some V13
      else
        none
    else
      some V13
  else
    none
set_option maxHeartbeats 4000000 in
set_option maxRecDepth 20000 in
theorem kLc_19 {l : Launch} {G : UG} (hG : uAll G) (hlt : l.stackTraces = false) {b L : Nat} {xs : Nat → Int32} {V V' : uV} {i : Int32} (h : fLc_19 xs L V i = some V') {p : Program} {e : Env} {s : State} {m : MethodId} {below : List Frame} {meth : Method} {c : Code} (X : UC p s m #[.ref b] meth c code 7 RL G) (hX : va_X b L xs s s.heap) (hbl : b < s.heap.size) (hbA : ¬ uA G b) {Q : State → Prop} {H : Heap} {locs : List Loc} {ls : Array Slot} {cells slots : Nat} (hfa : cells ≤ room_1.cells ∧ slots ≤ room_1.slots) (hfb : cells + 1 ≤ room_1.cells ∧ slots + 6 ≤ room_1.slots) (M : UM G V s H locs) (hl : lv_has ls 7 [(0, .ref b), (1, .ref (ga G 18 0)), (2, .ref (ga G 19 0)), (3, .ref (ga G 20 0)), (4, .int i)])
    (kk : ∀ (H : Heap) (locs : List Loc) (ls : Array Slot), UM G V' s H locs → lv_has ls 7 [(0, .ref b), (1, .ref (ga G 18 0)), (2, .ref (ga G 19 0)), (3, .ref (ga G 20 0)), (4, .int i)] → W p l e room_1 s m #[.ref b] below meth c H locs (cells + 1) (slots + 6) Q (F0 m 2008 ls [])) : W p l e room_1 s m #[.ref b] below meth c H locs cells slots Q (F0 m 1242 ls []) := by
  have hx := X.hx
  have hb := X.hb
  unfold fLc_19 at h
  refine lv_aload_n hx hb dL_law_1242 rfl (lv_at hl 1 rfl) ?_
  refine lv_aload_n hx hb dL_law_1243 rfl (lv_at hl 0 rfl) ?_
  refine lv_iload hx hb dL_law_1244 (lv_at hl 4 rfl) ?_
  refine lv_iconst (v := 1) hx hb dL_law_1246 (by decide) ?_
  refine lv_iadd hx hb dL_law_1247 ?_
  obtain ⟨g1, h⟩ := gd_e h
  obtain ⟨x2, e3, h⟩ := lt_e h
  refine va_sld hx hb hX hbl hbA M.2 (inb_e g1) dL_law_1248 ?_
  refine u_topi e3 ?_
  refine lv_aload_n hx hb dL_law_1249 rfl (lv_at hl 3 rfl) ?_
  obtain ⟨x4, V5, e6, h⟩ := bd2_e h
  refine l_cSW X M hl.1 (kL_run hG hlt e6) cl_177 ⟨Nat.le_of_ble_eq_true rfl, Nat.le_of_ble_eq_true rfl⟩ rfl rfl (Nat.le_of_ble_eq_true rfl) hfb dL_law_1250 (fun H locs M => ?_)
  refine lv_istore (lv' := [(5, .int x4), (0, .ref b), (1, .ref (ga G 18 0)), (2, .ref (ga G 19 0)), (3, .ref (ga G 20 0)), (4, .int i)]) hx hb dL_law_1253 hl (by decide) rfl (fun ls hl => ?_)
  refine lv_aload_n hx hb dL_law_1255 rfl (lv_at hl 3 rfl) ?_
  refine lv_aload_n hx hb dL_law_1256 rfl (lv_at hl 1 rfl) ?_
  refine lv_iload hx hb dL_law_1257 (lv_at hl 5 rfl) ?_
  refine lv_iconst (v := 1) hx hb dL_law_1259 (by decide) ?_
  refine lv_iadd hx hb dL_law_1260 ?_
  obtain ⟨x7, e8, h⟩ := lt_e h
  refine va_sld hx hb hX hbl hbA M.2 (inb_e g1) dL_law_1261 ?_
  refine u_topi e8 ?_
  obtain ⟨x10, S11, e9, h⟩ := bd2_e h
  have M := um_in 19 M
  refine u_cVi X M hl.1 (kX12_run hG.2.2.1 e9) cw_L_179 ⟨Nat.le_of_ble_eq_true rfl, Nat.le_of_ble_eq_true rfl⟩ (rc_X12 X M hG.2.2.1) rfl rfl (Nat.le_of_ble_eq_true rfl) hfb dL_law_1262 (fun H locs M n12 => ?_)
  obtain ⟨V13, e14, h⟩ := lt_e h
  rw [← e14] at M
  refine lv_istore (lv' := [(6, .int x10), (5, .int x4), (0, .ref b), (1, .ref (ga G 18 0)), (2, .ref (ga G 19 0)), (3, .ref (ga G 20 0)), (4, .int i)]) hx hb dL_law_1265 hl (by decide) rfl (fun ls hl => ?_)
  refine lv_aload_n hx hb dL_law_1267 rfl (lv_at hl 4 rfl) ?_
  obtain ⟨x16, e15, h⟩ := lt_e h
  refine u_cVi X M hl.1 (kX12_thrown hG.2.2.1 rfl e15.symm) cw_L_115 ⟨Nat.le_of_ble_eq_true rfl, Nat.le_of_ble_eq_true rfl⟩ (rc_X12 X M hG.2.2.1) rfl rfl (Nat.le_of_ble_eq_true rfl) hfb dL_law_1268 (fun H locs M n17 => ?_)
  refine lv_iload hx hb dL_law_1271 (lv_at hl 1 rfl) ?_
  refine lv_icmp_eq (tgt := 1278) hx hb dL_law_1273 (by decide) (fun c18 => ?_) (fun c18 => ?_)
  · have h := it_t h c18
    refine lv_iload hx hb dL_law_1278 (lv_at hl 1 rfl) ?_
    refine lv_if_ne (tgt := 1295) hx hb dL_law_1280 (by decide) (fun c19 => ?_) (fun c19 => ?_)
    · have h := it_f h c19
      refine lv_goto (tgt := 2008) hx hb dL_law_1295 (by decide) ?_
      exact kk H locs ls (Option.some.inj h ▸ M) (lv_sub hl [2, 3, 4, 5, 6] rfl)
    · have h := it_t h c19
      refine lv_aload_n hx hb dL_law_1283 rfl (lv_at hl 5 rfl) ?_
      refine lv_iconst (v := 0) hx hb dL_law_1284 (by decide) ?_
      obtain ⟨x20, e21, h⟩ := lt_e h
      refine u_lald X M hG.2.2.2.1 e21 dL_law_1285 ?_
      refine lv_iload hx hb dL_law_1286 (lv_at hl 0 rfl) ?_
      refine lv_i2l hx hb dL_law_1288 rfl ?_
      refine W.lcmp hx hb dL_law_1289 ?_
      refine lv_if_eq (tgt := 1295) hx hb dL_law_1290 (by decide) (fun c22 => ?_) (fun c22 => ?_)
      · have h := it_t h c22
        refine lv_goto (tgt := 2008) hx hb dL_law_1295 (by decide) ?_
        exact kk H locs ls (Option.some.inj h ▸ M) (lv_sub hl [2, 3, 4, 5, 6] rfl)
      · have h := it_f h c22
        refine lv_iconst (v := 0) hx hb dL_law_1293 (by decide) ?_
        cases h
  · have h := it_f h c18
    refine lv_iconst (v := 0) hx hb dL_law_1276 (by decide) ?_
    cases h
def fLc_20 (xs : Nat → Int32) (L : Nat) (V : uV) (i : Int32) : Option uV :=
  gd (inb (i + 1) L) <|
  lt_ (xs ((i + 1) : Int32).toNatClampNeg) fun x2 =>
  gd (inb (i + 2) L) <|
  lt_ (xs ((i + 2) : Int32).toNatClampNeg) fun x5 =>
  bd2 (fL_set V x2 x5) fun x7 V8 =>
  lt_ (xs ((i + 1) : Int32).toNatClampNeg) fun x10 =>
  lt_ (xs ((i + 2) : Int32).toNatClampNeg) fun x12 =>
  bd2 (fX12_set (V8 19) x10 x12) fun x15 S16 =>
  lt_ (va_up V8 19 S16) fun V18 =>
  lt_ (fX12_thrown (V18 19)) fun x21 =>
  if x21 = x7 then
    if x7 = 0 then
      lt_ ((V18 20 0 0).toInt64) fun x25 =>
      if (lg_cmp x25 ((x15 : Int32).toInt64)) = 0 then
        some V18
      else
        none
    else
      some V18
  else
    none
set_option maxHeartbeats 4000000 in
set_option maxRecDepth 20000 in
theorem kLc_20 {l : Launch} {G : UG} (hG : uAll G) (hlt : l.stackTraces = false) {b L : Nat} {xs : Nat → Int32} {V V' : uV} {i : Int32} (h : fLc_20 xs L V i = some V') {p : Program} {e : Env} {s : State} {m : MethodId} {below : List Frame} {meth : Method} {c : Code} (X : UC p s m #[.ref b] meth c code 7 RL G) (hX : va_X b L xs s s.heap) (hbl : b < s.heap.size) (hbA : ¬ uA G b) {Q : State → Prop} {H : Heap} {locs : List Loc} {ls : Array Slot} {cells slots : Nat} (hfa : cells ≤ room_1.cells ∧ slots ≤ room_1.slots) (hfb : cells + 1 ≤ room_1.cells ∧ slots + 6 ≤ room_1.slots) (M : UM G V s H locs) (hl : lv_has ls 7 [(0, .ref b), (1, .ref (ga G 18 0)), (2, .ref (ga G 19 0)), (3, .ref (ga G 20 0)), (4, .int i)])
    (kk : ∀ (H : Heap) (locs : List Loc) (ls : Array Slot), UM G V' s H locs → lv_has ls 7 [(0, .ref b), (1, .ref (ga G 18 0)), (2, .ref (ga G 19 0)), (3, .ref (ga G 20 0)), (4, .int i)] → W p l e room_1 s m #[.ref b] below meth c H locs (cells + 1) (slots + 6) Q (F0 m 2008 ls [])) : W p l e room_1 s m #[.ref b] below meth c H locs cells slots Q (F0 m 1298 ls []) := by
  have hx := X.hx
  have hb := X.hb
  unfold fLc_20 at h
  refine lv_aload_n hx hb dL_law_1298 rfl (lv_at hl 1 rfl) ?_
  refine lv_aload_n hx hb dL_law_1299 rfl (lv_at hl 0 rfl) ?_
  refine lv_iload hx hb dL_law_1300 (lv_at hl 4 rfl) ?_
  refine lv_iconst (v := 1) hx hb dL_law_1302 (by decide) ?_
  refine lv_iadd hx hb dL_law_1303 ?_
  obtain ⟨g1, h⟩ := gd_e h
  obtain ⟨x2, e3, h⟩ := lt_e h
  refine va_sld hx hb hX hbl hbA M.2 (inb_e g1) dL_law_1304 ?_
  refine u_topi e3 ?_
  refine lv_aload_n hx hb dL_law_1305 rfl (lv_at hl 0 rfl) ?_
  refine lv_iload hx hb dL_law_1306 (lv_at hl 4 rfl) ?_
  refine lv_iconst (v := 2) hx hb dL_law_1308 (by decide) ?_
  refine lv_iadd hx hb dL_law_1309 ?_
  obtain ⟨g4, h⟩ := gd_e h
  obtain ⟨x5, e6, h⟩ := lt_e h
  refine va_sld hx hb hX hbl hbA M.2 (inb_e g4) dL_law_1310 ?_
  refine u_topi e6 ?_
  refine lv_aload_n hx hb dL_law_1311 rfl (lv_at hl 3 rfl) ?_
  obtain ⟨x7, V8, e9, h⟩ := bd2_e h
  refine l_cSW X M hl.1 (kL_set hG hlt e9) cl_180 ⟨Nat.le_of_ble_eq_true rfl, Nat.le_of_ble_eq_true rfl⟩ rfl rfl (Nat.le_of_ble_eq_true rfl) hfb dL_law_1312 (fun H locs M => ?_)
  refine lv_istore (lv' := [(5, .int x7), (0, .ref b), (1, .ref (ga G 18 0)), (2, .ref (ga G 19 0)), (3, .ref (ga G 20 0)), (4, .int i)]) hx hb dL_law_1315 hl (by decide) rfl (fun ls hl => ?_)
  refine lv_aload_n hx hb dL_law_1317 rfl (lv_at hl 3 rfl) ?_
  refine lv_aload_n hx hb dL_law_1318 rfl (lv_at hl 1 rfl) ?_
  refine lv_iload hx hb dL_law_1319 (lv_at hl 5 rfl) ?_
  refine lv_iconst (v := 1) hx hb dL_law_1321 (by decide) ?_
  refine lv_iadd hx hb dL_law_1322 ?_
  obtain ⟨x10, e11, h⟩ := lt_e h
  refine va_sld hx hb hX hbl hbA M.2 (inb_e g1) dL_law_1323 ?_
  refine u_topi e11 ?_
  refine lv_aload_n hx hb dL_law_1324 rfl (lv_at hl 1 rfl) ?_
  refine lv_iload hx hb dL_law_1325 (lv_at hl 5 rfl) ?_
  refine lv_iconst (v := 2) hx hb dL_law_1327 (by decide) ?_
  refine lv_iadd hx hb dL_law_1328 ?_
  obtain ⟨x12, e13, h⟩ := lt_e h
  refine va_sld hx hb hX hbl hbA M.2 (inb_e g4) dL_law_1329 ?_
  refine u_topi e13 ?_
  obtain ⟨x15, S16, e14, h⟩ := bd2_e h
  have M := um_in 19 M
  refine u_cVi X M hl.1 (kX12_set hG.2.2.1 e14) cw_L_182 ⟨Nat.le_of_ble_eq_true rfl, Nat.le_of_ble_eq_true rfl⟩ (rc_X12 X M hG.2.2.1) rfl rfl (Nat.le_of_ble_eq_true rfl) hfb dL_law_1330 (fun H locs M n17 => ?_)
  obtain ⟨V18, e19, h⟩ := lt_e h
  rw [← e19] at M
  refine lv_istore (lv' := [(6, .int x15), (5, .int x7), (0, .ref b), (1, .ref (ga G 18 0)), (2, .ref (ga G 19 0)), (3, .ref (ga G 20 0)), (4, .int i)]) hx hb dL_law_1333 hl (by decide) rfl (fun ls hl => ?_)
  refine lv_aload_n hx hb dL_law_1335 rfl (lv_at hl 4 rfl) ?_
  obtain ⟨x21, e20, h⟩ := lt_e h
  refine u_cVi X M hl.1 (kX12_thrown hG.2.2.1 rfl e20.symm) cw_L_115 ⟨Nat.le_of_ble_eq_true rfl, Nat.le_of_ble_eq_true rfl⟩ (rc_X12 X M hG.2.2.1) rfl rfl (Nat.le_of_ble_eq_true rfl) hfb dL_law_1336 (fun H locs M n22 => ?_)
  refine lv_iload hx hb dL_law_1339 (lv_at hl 1 rfl) ?_
  refine lv_icmp_eq (tgt := 1346) hx hb dL_law_1341 (by decide) (fun c23 => ?_) (fun c23 => ?_)
  · have h := it_t h c23
    refine lv_iload hx hb dL_law_1346 (lv_at hl 1 rfl) ?_
    refine lv_if_ne (tgt := 1363) hx hb dL_law_1348 (by decide) (fun c24 => ?_) (fun c24 => ?_)
    · have h := it_f h c24
      refine lv_goto (tgt := 2008) hx hb dL_law_1363 (by decide) ?_
      exact kk H locs ls (Option.some.inj h ▸ M) (lv_sub hl [2, 3, 4, 5, 6] rfl)
    · have h := it_t h c24
      refine lv_aload_n hx hb dL_law_1351 rfl (lv_at hl 5 rfl) ?_
      refine lv_iconst (v := 0) hx hb dL_law_1352 (by decide) ?_
      obtain ⟨x25, e26, h⟩ := lt_e h
      refine u_lald X M hG.2.2.2.1 e26 dL_law_1353 ?_
      refine lv_iload hx hb dL_law_1354 (lv_at hl 0 rfl) ?_
      refine lv_i2l hx hb dL_law_1356 rfl ?_
      refine W.lcmp hx hb dL_law_1357 ?_
      refine lv_if_eq (tgt := 1363) hx hb dL_law_1358 (by decide) (fun c27 => ?_) (fun c27 => ?_)
      · have h := it_t h c27
        refine lv_goto (tgt := 2008) hx hb dL_law_1363 (by decide) ?_
        exact kk H locs ls (Option.some.inj h ▸ M) (lv_sub hl [2, 3, 4, 5, 6] rfl)
      · have h := it_f h c27
        refine lv_iconst (v := 0) hx hb dL_law_1361 (by decide) ?_
        cases h
  · have h := it_f h c23
    refine lv_iconst (v := 0) hx hb dL_law_1344 (by decide) ?_
    cases h
def fLc_21 (xs : Nat → Int32) (L : Nat) (V : uV) (i : Int32) : Option uV :=
  bd2 (fL_undo V ) fun x1 V2 =>
  bd2 (fX12_undo (V2 19)) fun x5 S6 =>
  lt_ (va_up V2 19 S6) fun V8 =>
  lt_ (fX12_thrown (V8 19)) fun x11 =>
  if x11 = x1 then
    if x1 = 0 then
      lt_ ((V8 20 0 0).toInt64) fun x15 =>
      if (lg_cmp x15 ((x5 : Int32).toInt64)) = 0 then
        some V8
      else
        none
    else
      some V8
  else
    none
set_option maxHeartbeats 4000000 in
set_option maxRecDepth 20000 in
theorem kLc_21 {l : Launch} {G : UG} (hG : uAll G) (hlt : l.stackTraces = false) {b L : Nat} {xs : Nat → Int32} {V V' : uV} {i : Int32} (h : fLc_21 xs L V i = some V') {p : Program} {e : Env} {s : State} {m : MethodId} {below : List Frame} {meth : Method} {c : Code} (X : UC p s m #[.ref b] meth c code 7 RL G) (hX : va_X b L xs s s.heap) (hbl : b < s.heap.size) (hbA : ¬ uA G b) {Q : State → Prop} {H : Heap} {locs : List Loc} {ls : Array Slot} {cells slots : Nat} (hfa : cells ≤ room_1.cells ∧ slots ≤ room_1.slots) (hfb : cells + 1 ≤ room_1.cells ∧ slots + 6 ≤ room_1.slots) (M : UM G V s H locs) (hl : lv_has ls 7 [(0, .ref b), (1, .ref (ga G 18 0)), (2, .ref (ga G 19 0)), (3, .ref (ga G 20 0)), (4, .int i)])
    (kk : ∀ (H : Heap) (locs : List Loc) (ls : Array Slot), UM G V' s H locs → lv_has ls 7 [(0, .ref b), (1, .ref (ga G 18 0)), (2, .ref (ga G 19 0)), (3, .ref (ga G 20 0)), (4, .int i)] → W p l e room_1 s m #[.ref b] below meth c H locs (cells + 1) (slots + 6) Q (F0 m 2008 ls [])) : W p l e room_1 s m #[.ref b] below meth c H locs cells slots Q (F0 m 1366 ls []) := by
  have hx := X.hx
  have hb := X.hb
  unfold fLc_21 at h
  refine lv_aload_n hx hb dL_law_1366 rfl (lv_at hl 1 rfl) ?_
  refine lv_aload_n hx hb dL_law_1367 rfl (lv_at hl 3 rfl) ?_
  obtain ⟨x1, V2, e3, h⟩ := bd2_e h
  refine l_cSW X M hl.1 (kL_undo hG hlt e3) cl_183 ⟨Nat.le_of_ble_eq_true rfl, Nat.le_of_ble_eq_true rfl⟩ rfl rfl (Nat.le_of_ble_eq_true rfl) hfb dL_law_1368 (fun H locs M => ?_)
  refine lv_istore (lv' := [(5, .int x1), (0, .ref b), (1, .ref (ga G 18 0)), (2, .ref (ga G 19 0)), (3, .ref (ga G 20 0)), (4, .int i)]) hx hb dL_law_1371 hl (by decide) rfl (fun ls hl => ?_)
  refine lv_aload_n hx hb dL_law_1373 rfl (lv_at hl 3 rfl) ?_
  obtain ⟨x5, S6, e4, h⟩ := bd2_e h
  have M := um_in 19 M
  refine u_cVi X M hl.1 (kX12_undo hG.2.2.1 e4) cw_L_185 ⟨Nat.le_of_ble_eq_true rfl, Nat.le_of_ble_eq_true rfl⟩ (rc_X12 X M hG.2.2.1) rfl rfl (Nat.le_of_ble_eq_true rfl) hfb dL_law_1374 (fun H locs M n7 => ?_)
  obtain ⟨V8, e9, h⟩ := lt_e h
  rw [← e9] at M
  refine lv_istore (lv' := [(6, .int x5), (5, .int x1), (0, .ref b), (1, .ref (ga G 18 0)), (2, .ref (ga G 19 0)), (3, .ref (ga G 20 0)), (4, .int i)]) hx hb dL_law_1377 hl (by decide) rfl (fun ls hl => ?_)
  refine lv_aload_n hx hb dL_law_1379 rfl (lv_at hl 4 rfl) ?_
  obtain ⟨x11, e10, h⟩ := lt_e h
  refine u_cVi X M hl.1 (kX12_thrown hG.2.2.1 rfl e10.symm) cw_L_115 ⟨Nat.le_of_ble_eq_true rfl, Nat.le_of_ble_eq_true rfl⟩ (rc_X12 X M hG.2.2.1) rfl rfl (Nat.le_of_ble_eq_true rfl) hfb dL_law_1380 (fun H locs M n12 => ?_)
  refine lv_iload hx hb dL_law_1383 (lv_at hl 1 rfl) ?_
  refine lv_icmp_eq (tgt := 1390) hx hb dL_law_1385 (by decide) (fun c13 => ?_) (fun c13 => ?_)
  · have h := it_t h c13
    refine lv_iload hx hb dL_law_1390 (lv_at hl 1 rfl) ?_
    refine lv_if_ne (tgt := 1407) hx hb dL_law_1392 (by decide) (fun c14 => ?_) (fun c14 => ?_)
    · have h := it_f h c14
      refine lv_goto (tgt := 2008) hx hb dL_law_1407 (by decide) ?_
      exact kk H locs ls (Option.some.inj h ▸ M) (lv_sub hl [2, 3, 4, 5, 6] rfl)
    · have h := it_t h c14
      refine lv_aload_n hx hb dL_law_1395 rfl (lv_at hl 5 rfl) ?_
      refine lv_iconst (v := 0) hx hb dL_law_1396 (by decide) ?_
      obtain ⟨x15, e16, h⟩ := lt_e h
      refine u_lald X M hG.2.2.2.1 e16 dL_law_1397 ?_
      refine lv_iload hx hb dL_law_1398 (lv_at hl 0 rfl) ?_
      refine lv_i2l hx hb dL_law_1400 rfl ?_
      refine W.lcmp hx hb dL_law_1401 ?_
      refine lv_if_eq (tgt := 1407) hx hb dL_law_1402 (by decide) (fun c17 => ?_) (fun c17 => ?_)
      · have h := it_t h c17
        refine lv_goto (tgt := 2008) hx hb dL_law_1407 (by decide) ?_
        exact kk H locs ls (Option.some.inj h ▸ M) (lv_sub hl [2, 3, 4, 5, 6] rfl)
      · have h := it_f h c17
        refine lv_iconst (v := 0) hx hb dL_law_1405 (by decide) ?_
        cases h
  · have h := it_f h c13
    refine lv_iconst (v := 0) hx hb dL_law_1388 (by decide) ?_
    cases h
def fLc_22 (xs : Nat → Int32) (L : Nat) (V : uV) (i : Int32) : Option uV :=
  gd (inb (i + 1) L) <|
  lt_ (xs ((i + 1) : Int32).toNatClampNeg) fun x2 =>
  gd (inb (i + 2) L) <|
  lt_ (xs ((i + 2) : Int32).toNatClampNeg) fun x5 =>
  bd2 (fL_would V x2 x5) fun x7 V8 =>
  lt_ (xs ((i + 1) : Int32).toNatClampNeg) fun x10 =>
  lt_ (xs ((i + 2) : Int32).toNatClampNeg) fun x12 =>
  bd2 (fX12_would (V8 19) x10 x12) fun x15 S16 =>
  lt_ (va_up V8 19 S16) fun V18 =>
  lt_ (fX12_thrown (V18 19)) fun x21 =>
  if x21 = x7 then
    if x7 = 0 then
      lt_ ((V18 20 0 0).toInt64) fun x25 =>
      if (lg_cmp x25 ((x15 : Int32).toInt64)) = 0 then
        some V18
      else
        none
    else
      some V18
  else
    none
set_option maxHeartbeats 4000000 in
set_option maxRecDepth 20000 in
theorem kLc_22 {l : Launch} {G : UG} (hG : uAll G) (hlt : l.stackTraces = false) {b L : Nat} {xs : Nat → Int32} {V V' : uV} {i : Int32} (h : fLc_22 xs L V i = some V') {p : Program} {e : Env} {s : State} {m : MethodId} {below : List Frame} {meth : Method} {c : Code} (X : UC p s m #[.ref b] meth c code 7 RL G) (hX : va_X b L xs s s.heap) (hbl : b < s.heap.size) (hbA : ¬ uA G b) {Q : State → Prop} {H : Heap} {locs : List Loc} {ls : Array Slot} {cells slots : Nat} (hfa : cells ≤ room_1.cells ∧ slots ≤ room_1.slots) (hfb : cells + 1 ≤ room_1.cells ∧ slots + 6 ≤ room_1.slots) (M : UM G V s H locs) (hl : lv_has ls 7 [(0, .ref b), (1, .ref (ga G 18 0)), (2, .ref (ga G 19 0)), (3, .ref (ga G 20 0)), (4, .int i)])
    (kk : ∀ (H : Heap) (locs : List Loc) (ls : Array Slot), UM G V' s H locs → lv_has ls 7 [(0, .ref b), (1, .ref (ga G 18 0)), (2, .ref (ga G 19 0)), (3, .ref (ga G 20 0)), (4, .int i)] → W p l e room_1 s m #[.ref b] below meth c H locs (cells + 1) (slots + 6) Q (F0 m 2008 ls [])) : W p l e room_1 s m #[.ref b] below meth c H locs cells slots Q (F0 m 1410 ls []) := by
  have hx := X.hx
  have hb := X.hb
  unfold fLc_22 at h
  refine lv_aload_n hx hb dL_law_1410 rfl (lv_at hl 1 rfl) ?_
  refine lv_aload_n hx hb dL_law_1411 rfl (lv_at hl 0 rfl) ?_
  refine lv_iload hx hb dL_law_1412 (lv_at hl 4 rfl) ?_
  refine lv_iconst (v := 1) hx hb dL_law_1414 (by decide) ?_
  refine lv_iadd hx hb dL_law_1415 ?_
  obtain ⟨g1, h⟩ := gd_e h
  obtain ⟨x2, e3, h⟩ := lt_e h
  refine va_sld hx hb hX hbl hbA M.2 (inb_e g1) dL_law_1416 ?_
  refine u_topi e3 ?_
  refine lv_aload_n hx hb dL_law_1417 rfl (lv_at hl 0 rfl) ?_
  refine lv_iload hx hb dL_law_1418 (lv_at hl 4 rfl) ?_
  refine lv_iconst (v := 2) hx hb dL_law_1420 (by decide) ?_
  refine lv_iadd hx hb dL_law_1421 ?_
  obtain ⟨g4, h⟩ := gd_e h
  obtain ⟨x5, e6, h⟩ := lt_e h
  refine va_sld hx hb hX hbl hbA M.2 (inb_e g4) dL_law_1422 ?_
  refine u_topi e6 ?_
  refine lv_aload_n hx hb dL_law_1423 rfl (lv_at hl 3 rfl) ?_
  obtain ⟨x7, V8, e9, h⟩ := bd2_e h
  refine l_cSW X M hl.1 (kL_would hG hlt e9) cl_186 ⟨Nat.le_of_ble_eq_true rfl, Nat.le_of_ble_eq_true rfl⟩ rfl rfl (Nat.le_of_ble_eq_true rfl) hfb dL_law_1424 (fun H locs M => ?_)
  refine lv_istore (lv' := [(5, .int x7), (0, .ref b), (1, .ref (ga G 18 0)), (2, .ref (ga G 19 0)), (3, .ref (ga G 20 0)), (4, .int i)]) hx hb dL_law_1427 hl (by decide) rfl (fun ls hl => ?_)
  refine lv_aload_n hx hb dL_law_1429 rfl (lv_at hl 3 rfl) ?_
  refine lv_aload_n hx hb dL_law_1430 rfl (lv_at hl 1 rfl) ?_
  refine lv_iload hx hb dL_law_1431 (lv_at hl 5 rfl) ?_
  refine lv_iconst (v := 1) hx hb dL_law_1433 (by decide) ?_
  refine lv_iadd hx hb dL_law_1434 ?_
  obtain ⟨x10, e11, h⟩ := lt_e h
  refine va_sld hx hb hX hbl hbA M.2 (inb_e g1) dL_law_1435 ?_
  refine u_topi e11 ?_
  refine lv_aload_n hx hb dL_law_1436 rfl (lv_at hl 1 rfl) ?_
  refine lv_iload hx hb dL_law_1437 (lv_at hl 5 rfl) ?_
  refine lv_iconst (v := 2) hx hb dL_law_1439 (by decide) ?_
  refine lv_iadd hx hb dL_law_1440 ?_
  obtain ⟨x12, e13, h⟩ := lt_e h
  refine va_sld hx hb hX hbl hbA M.2 (inb_e g4) dL_law_1441 ?_
  refine u_topi e13 ?_
  obtain ⟨x15, S16, e14, h⟩ := bd2_e h
  have M := um_in 19 M
  refine u_cVi X M hl.1 (kX12_would hG.2.2.1 e14) cw_L_188 ⟨Nat.le_of_ble_eq_true rfl, Nat.le_of_ble_eq_true rfl⟩ (rc_X12 X M hG.2.2.1) rfl rfl (Nat.le_of_ble_eq_true rfl) hfb dL_law_1442 (fun H locs M n17 => ?_)
  obtain ⟨V18, e19, h⟩ := lt_e h
  rw [← e19] at M
  refine lv_istore (lv' := [(6, .int x15), (5, .int x7), (0, .ref b), (1, .ref (ga G 18 0)), (2, .ref (ga G 19 0)), (3, .ref (ga G 20 0)), (4, .int i)]) hx hb dL_law_1445 hl (by decide) rfl (fun ls hl => ?_)
  refine lv_aload_n hx hb dL_law_1447 rfl (lv_at hl 4 rfl) ?_
  obtain ⟨x21, e20, h⟩ := lt_e h
  refine u_cVi X M hl.1 (kX12_thrown hG.2.2.1 rfl e20.symm) cw_L_115 ⟨Nat.le_of_ble_eq_true rfl, Nat.le_of_ble_eq_true rfl⟩ (rc_X12 X M hG.2.2.1) rfl rfl (Nat.le_of_ble_eq_true rfl) hfb dL_law_1448 (fun H locs M n22 => ?_)
  refine lv_iload hx hb dL_law_1451 (lv_at hl 1 rfl) ?_
  refine lv_icmp_eq (tgt := 1458) hx hb dL_law_1453 (by decide) (fun c23 => ?_) (fun c23 => ?_)
  · have h := it_t h c23
    refine lv_iload hx hb dL_law_1458 (lv_at hl 1 rfl) ?_
    refine lv_if_ne (tgt := 1475) hx hb dL_law_1460 (by decide) (fun c24 => ?_) (fun c24 => ?_)
    · have h := it_f h c24
      refine lv_goto (tgt := 2008) hx hb dL_law_1475 (by decide) ?_
      exact kk H locs ls (Option.some.inj h ▸ M) (lv_sub hl [2, 3, 4, 5, 6] rfl)
    · have h := it_t h c24
      refine lv_aload_n hx hb dL_law_1463 rfl (lv_at hl 5 rfl) ?_
      refine lv_iconst (v := 0) hx hb dL_law_1464 (by decide) ?_
      obtain ⟨x25, e26, h⟩ := lt_e h
      refine u_lald X M hG.2.2.2.1 e26 dL_law_1465 ?_
      refine lv_iload hx hb dL_law_1466 (lv_at hl 0 rfl) ?_
      refine lv_i2l hx hb dL_law_1468 rfl ?_
      refine W.lcmp hx hb dL_law_1469 ?_
      refine lv_if_eq (tgt := 1475) hx hb dL_law_1470 (by decide) (fun c27 => ?_) (fun c27 => ?_)
      · have h := it_t h c27
        refine lv_goto (tgt := 2008) hx hb dL_law_1475 (by decide) ?_
        exact kk H locs ls (Option.some.inj h ▸ M) (lv_sub hl [2, 3, 4, 5, 6] rfl)
      · have h := it_f h c27
        refine lv_iconst (v := 0) hx hb dL_law_1473 (by decide) ?_
        cases h
  · have h := it_f h c23
    refine lv_iconst (v := 0) hx hb dL_law_1456 (by decide) ?_
    cases h
def fLc_23 (xs : Nat → Int32) (L : Nat) (V : uV) (i : Int32) : Option uV :=
  gd (inb (i + 1) L) <|
  lt_ (xs ((i + 1) : Int32).toNatClampNeg) fun x2 =>
  gd (inb (i + 2) L) <|
  lt_ (xs ((i + 2) : Int32).toNatClampNeg) fun x5 =>
  bd2 (fL_rides V x2 x5) fun x7 V8 =>
  lt_ (xs ((i + 1) : Int32).toNatClampNeg) fun x10 =>
  lt_ (xs ((i + 2) : Int32).toNatClampNeg) fun x12 =>
  bd2 (fX12_rides (V8 19) x10 x12) fun x15 S16 =>
  lt_ (va_up V8 19 S16) fun V18 =>
  lt_ (fX12_thrown (V18 19)) fun x21 =>
  if x21 = x7 then
    if x7 = 0 then
      lt_ ((V18 20 0 0).toInt64) fun x25 =>
      if (lg_cmp x25 ((x15 : Int32).toInt64)) = 0 then
        some V18
      else
        none
    else
      some V18
  else
    none
set_option maxHeartbeats 4000000 in
set_option maxRecDepth 20000 in
theorem kLc_23 {l : Launch} {G : UG} (hG : uAll G) (hlt : l.stackTraces = false) {b L : Nat} {xs : Nat → Int32} {V V' : uV} {i : Int32} (h : fLc_23 xs L V i = some V') {p : Program} {e : Env} {s : State} {m : MethodId} {below : List Frame} {meth : Method} {c : Code} (X : UC p s m #[.ref b] meth c code 7 RL G) (hX : va_X b L xs s s.heap) (hbl : b < s.heap.size) (hbA : ¬ uA G b) {Q : State → Prop} {H : Heap} {locs : List Loc} {ls : Array Slot} {cells slots : Nat} (hfa : cells ≤ room_1.cells ∧ slots ≤ room_1.slots) (hfb : cells + 1 ≤ room_1.cells ∧ slots + 6 ≤ room_1.slots) (M : UM G V s H locs) (hl : lv_has ls 7 [(0, .ref b), (1, .ref (ga G 18 0)), (2, .ref (ga G 19 0)), (3, .ref (ga G 20 0)), (4, .int i)])
    (kk : ∀ (H : Heap) (locs : List Loc) (ls : Array Slot), UM G V' s H locs → lv_has ls 7 [(0, .ref b), (1, .ref (ga G 18 0)), (2, .ref (ga G 19 0)), (3, .ref (ga G 20 0)), (4, .int i)] → W p l e room_1 s m #[.ref b] below meth c H locs (cells + 1) (slots + 6) Q (F0 m 2008 ls [])) : W p l e room_1 s m #[.ref b] below meth c H locs cells slots Q (F0 m 1478 ls []) := by
  have hx := X.hx
  have hb := X.hb
  unfold fLc_23 at h
  refine lv_aload_n hx hb dL_law_1478 rfl (lv_at hl 1 rfl) ?_
  refine lv_aload_n hx hb dL_law_1479 rfl (lv_at hl 0 rfl) ?_
  refine lv_iload hx hb dL_law_1480 (lv_at hl 4 rfl) ?_
  refine lv_iconst (v := 1) hx hb dL_law_1482 (by decide) ?_
  refine lv_iadd hx hb dL_law_1483 ?_
  obtain ⟨g1, h⟩ := gd_e h
  obtain ⟨x2, e3, h⟩ := lt_e h
  refine va_sld hx hb hX hbl hbA M.2 (inb_e g1) dL_law_1484 ?_
  refine u_topi e3 ?_
  refine lv_aload_n hx hb dL_law_1485 rfl (lv_at hl 0 rfl) ?_
  refine lv_iload hx hb dL_law_1486 (lv_at hl 4 rfl) ?_
  refine lv_iconst (v := 2) hx hb dL_law_1488 (by decide) ?_
  refine lv_iadd hx hb dL_law_1489 ?_
  obtain ⟨g4, h⟩ := gd_e h
  obtain ⟨x5, e6, h⟩ := lt_e h
  refine va_sld hx hb hX hbl hbA M.2 (inb_e g4) dL_law_1490 ?_
  refine u_topi e6 ?_
  refine lv_aload_n hx hb dL_law_1491 rfl (lv_at hl 3 rfl) ?_
  obtain ⟨x7, V8, e9, h⟩ := bd2_e h
  refine l_cSW X M hl.1 (kL_rides hG hlt e9) cl_189 ⟨Nat.le_of_ble_eq_true rfl, Nat.le_of_ble_eq_true rfl⟩ rfl rfl (Nat.le_of_ble_eq_true rfl) hfb dL_law_1492 (fun H locs M => ?_)
  refine lv_istore (lv' := [(5, .int x7), (0, .ref b), (1, .ref (ga G 18 0)), (2, .ref (ga G 19 0)), (3, .ref (ga G 20 0)), (4, .int i)]) hx hb dL_law_1495 hl (by decide) rfl (fun ls hl => ?_)
  refine lv_aload_n hx hb dL_law_1497 rfl (lv_at hl 3 rfl) ?_
  refine lv_aload_n hx hb dL_law_1498 rfl (lv_at hl 1 rfl) ?_
  refine lv_iload hx hb dL_law_1499 (lv_at hl 5 rfl) ?_
  refine lv_iconst (v := 1) hx hb dL_law_1501 (by decide) ?_
  refine lv_iadd hx hb dL_law_1502 ?_
  obtain ⟨x10, e11, h⟩ := lt_e h
  refine va_sld hx hb hX hbl hbA M.2 (inb_e g1) dL_law_1503 ?_
  refine u_topi e11 ?_
  refine lv_aload_n hx hb dL_law_1504 rfl (lv_at hl 1 rfl) ?_
  refine lv_iload hx hb dL_law_1505 (lv_at hl 5 rfl) ?_
  refine lv_iconst (v := 2) hx hb dL_law_1507 (by decide) ?_
  refine lv_iadd hx hb dL_law_1508 ?_
  obtain ⟨x12, e13, h⟩ := lt_e h
  refine va_sld hx hb hX hbl hbA M.2 (inb_e g4) dL_law_1509 ?_
  refine u_topi e13 ?_
  obtain ⟨x15, S16, e14, h⟩ := bd2_e h
  have M := um_in 19 M
  refine u_cVi X M hl.1 (kX12_rides hG.2.2.1 e14) cw_L_191 ⟨Nat.le_of_ble_eq_true rfl, Nat.le_of_ble_eq_true rfl⟩ (rc_X12 X M hG.2.2.1) rfl rfl (Nat.le_of_ble_eq_true rfl) hfb dL_law_1510 (fun H locs M n17 => ?_)
  obtain ⟨V18, e19, h⟩ := lt_e h
  rw [← e19] at M
  refine lv_istore (lv' := [(6, .int x15), (5, .int x7), (0, .ref b), (1, .ref (ga G 18 0)), (2, .ref (ga G 19 0)), (3, .ref (ga G 20 0)), (4, .int i)]) hx hb dL_law_1513 hl (by decide) rfl (fun ls hl => ?_)
  refine lv_aload_n hx hb dL_law_1515 rfl (lv_at hl 4 rfl) ?_
  obtain ⟨x21, e20, h⟩ := lt_e h
  refine u_cVi X M hl.1 (kX12_thrown hG.2.2.1 rfl e20.symm) cw_L_115 ⟨Nat.le_of_ble_eq_true rfl, Nat.le_of_ble_eq_true rfl⟩ (rc_X12 X M hG.2.2.1) rfl rfl (Nat.le_of_ble_eq_true rfl) hfb dL_law_1516 (fun H locs M n22 => ?_)
  refine lv_iload hx hb dL_law_1519 (lv_at hl 1 rfl) ?_
  refine lv_icmp_eq (tgt := 1526) hx hb dL_law_1521 (by decide) (fun c23 => ?_) (fun c23 => ?_)
  · have h := it_t h c23
    refine lv_iload hx hb dL_law_1526 (lv_at hl 1 rfl) ?_
    refine lv_if_ne (tgt := 1543) hx hb dL_law_1528 (by decide) (fun c24 => ?_) (fun c24 => ?_)
    · have h := it_f h c24
      refine lv_goto (tgt := 2008) hx hb dL_law_1543 (by decide) ?_
      exact kk H locs ls (Option.some.inj h ▸ M) (lv_sub hl [2, 3, 4, 5, 6] rfl)
    · have h := it_t h c24
      refine lv_aload_n hx hb dL_law_1531 rfl (lv_at hl 5 rfl) ?_
      refine lv_iconst (v := 0) hx hb dL_law_1532 (by decide) ?_
      obtain ⟨x25, e26, h⟩ := lt_e h
      refine u_lald X M hG.2.2.2.1 e26 dL_law_1533 ?_
      refine lv_iload hx hb dL_law_1534 (lv_at hl 0 rfl) ?_
      refine lv_i2l hx hb dL_law_1536 rfl ?_
      refine W.lcmp hx hb dL_law_1537 ?_
      refine lv_if_eq (tgt := 1543) hx hb dL_law_1538 (by decide) (fun c27 => ?_) (fun c27 => ?_)
      · have h := it_t h c27
        refine lv_goto (tgt := 2008) hx hb dL_law_1543 (by decide) ?_
        exact kk H locs ls (Option.some.inj h ▸ M) (lv_sub hl [2, 3, 4, 5, 6] rfl)
      · have h := it_f h c27
        refine lv_iconst (v := 0) hx hb dL_law_1541 (by decide) ?_
        cases h
  · have h := it_f h c23
    refine lv_iconst (v := 0) hx hb dL_law_1524 (by decide) ?_
    cases h
def fLc_24 (xs : Nat → Int32) (L : Nat) (V : uV) (i : Int32) : Option uV :=
  gd (inb (i + 1) L) <|
  lt_ (xs ((i + 1) : Int32).toNatClampNeg) fun x2 =>
  gd (inb (i + 2) L) <|
  lt_ (xs ((i + 2) : Int32).toNatClampNeg) fun x5 =>
  bd2 (fL_ifUp V x2 x5) fun x7 V8 =>
  lt_ (xs ((i + 1) : Int32).toNatClampNeg) fun x10 =>
  lt_ (xs ((i + 2) : Int32).toNatClampNeg) fun x12 =>
  bd2 (fX12_ifUp (V8 19) x10 x12) fun x15 S16 =>
  lt_ (va_up V8 19 S16) fun V18 =>
  lt_ (fX12_thrown (V18 19)) fun x21 =>
  if x21 = x7 then
    if x7 = 0 then
      lt_ ((V18 20 0 0).toInt64) fun x25 =>
      if (lg_cmp x25 ((x15 : Int32).toInt64)) = 0 then
        some V18
      else
        none
    else
      some V18
  else
    none
set_option maxHeartbeats 4000000 in
set_option maxRecDepth 20000 in
theorem kLc_24 {l : Launch} {G : UG} (hG : uAll G) (hlt : l.stackTraces = false) {b L : Nat} {xs : Nat → Int32} {V V' : uV} {i : Int32} (h : fLc_24 xs L V i = some V') {p : Program} {e : Env} {s : State} {m : MethodId} {below : List Frame} {meth : Method} {c : Code} (X : UC p s m #[.ref b] meth c code 7 RL G) (hX : va_X b L xs s s.heap) (hbl : b < s.heap.size) (hbA : ¬ uA G b) {Q : State → Prop} {H : Heap} {locs : List Loc} {ls : Array Slot} {cells slots : Nat} (hfa : cells ≤ room_1.cells ∧ slots ≤ room_1.slots) (hfb : cells + 1 ≤ room_1.cells ∧ slots + 6 ≤ room_1.slots) (M : UM G V s H locs) (hl : lv_has ls 7 [(0, .ref b), (1, .ref (ga G 18 0)), (2, .ref (ga G 19 0)), (3, .ref (ga G 20 0)), (4, .int i)])
    (kk : ∀ (H : Heap) (locs : List Loc) (ls : Array Slot), UM G V' s H locs → lv_has ls 7 [(0, .ref b), (1, .ref (ga G 18 0)), (2, .ref (ga G 19 0)), (3, .ref (ga G 20 0)), (4, .int i)] → W p l e room_1 s m #[.ref b] below meth c H locs (cells + 1) (slots + 6) Q (F0 m 2008 ls [])) : W p l e room_1 s m #[.ref b] below meth c H locs cells slots Q (F0 m 1546 ls []) := by
  have hx := X.hx
  have hb := X.hb
  unfold fLc_24 at h
  refine lv_aload_n hx hb dL_law_1546 rfl (lv_at hl 1 rfl) ?_
  refine lv_aload_n hx hb dL_law_1547 rfl (lv_at hl 0 rfl) ?_
  refine lv_iload hx hb dL_law_1548 (lv_at hl 4 rfl) ?_
  refine lv_iconst (v := 1) hx hb dL_law_1550 (by decide) ?_
  refine lv_iadd hx hb dL_law_1551 ?_
  obtain ⟨g1, h⟩ := gd_e h
  obtain ⟨x2, e3, h⟩ := lt_e h
  refine va_sld hx hb hX hbl hbA M.2 (inb_e g1) dL_law_1552 ?_
  refine u_topi e3 ?_
  refine lv_aload_n hx hb dL_law_1553 rfl (lv_at hl 0 rfl) ?_
  refine lv_iload hx hb dL_law_1554 (lv_at hl 4 rfl) ?_
  refine lv_iconst (v := 2) hx hb dL_law_1556 (by decide) ?_
  refine lv_iadd hx hb dL_law_1557 ?_
  obtain ⟨g4, h⟩ := gd_e h
  obtain ⟨x5, e6, h⟩ := lt_e h
  refine va_sld hx hb hX hbl hbA M.2 (inb_e g4) dL_law_1558 ?_
  refine u_topi e6 ?_
  refine lv_aload_n hx hb dL_law_1559 rfl (lv_at hl 3 rfl) ?_
  obtain ⟨x7, V8, e9, h⟩ := bd2_e h
  refine l_cSW X M hl.1 (kL_ifUp hG hlt e9) cl_192 ⟨Nat.le_of_ble_eq_true rfl, Nat.le_of_ble_eq_true rfl⟩ rfl rfl (Nat.le_of_ble_eq_true rfl) hfb dL_law_1560 (fun H locs M => ?_)
  refine lv_istore (lv' := [(5, .int x7), (0, .ref b), (1, .ref (ga G 18 0)), (2, .ref (ga G 19 0)), (3, .ref (ga G 20 0)), (4, .int i)]) hx hb dL_law_1563 hl (by decide) rfl (fun ls hl => ?_)
  refine lv_aload_n hx hb dL_law_1565 rfl (lv_at hl 3 rfl) ?_
  refine lv_aload_n hx hb dL_law_1566 rfl (lv_at hl 1 rfl) ?_
  refine lv_iload hx hb dL_law_1567 (lv_at hl 5 rfl) ?_
  refine lv_iconst (v := 1) hx hb dL_law_1569 (by decide) ?_
  refine lv_iadd hx hb dL_law_1570 ?_
  obtain ⟨x10, e11, h⟩ := lt_e h
  refine va_sld hx hb hX hbl hbA M.2 (inb_e g1) dL_law_1571 ?_
  refine u_topi e11 ?_
  refine lv_aload_n hx hb dL_law_1572 rfl (lv_at hl 1 rfl) ?_
  refine lv_iload hx hb dL_law_1573 (lv_at hl 5 rfl) ?_
  refine lv_iconst (v := 2) hx hb dL_law_1575 (by decide) ?_
  refine lv_iadd hx hb dL_law_1576 ?_
  obtain ⟨x12, e13, h⟩ := lt_e h
  refine va_sld hx hb hX hbl hbA M.2 (inb_e g4) dL_law_1577 ?_
  refine u_topi e13 ?_
  obtain ⟨x15, S16, e14, h⟩ := bd2_e h
  have M := um_in 19 M
  refine u_cVi X M hl.1 (kX12_ifUp hG.2.2.1 e14) cw_L_194 ⟨Nat.le_of_ble_eq_true rfl, Nat.le_of_ble_eq_true rfl⟩ (rc_X12 X M hG.2.2.1) rfl rfl (Nat.le_of_ble_eq_true rfl) hfb dL_law_1578 (fun H locs M n17 => ?_)
  obtain ⟨V18, e19, h⟩ := lt_e h
  rw [← e19] at M
  refine lv_istore (lv' := [(6, .int x15), (5, .int x7), (0, .ref b), (1, .ref (ga G 18 0)), (2, .ref (ga G 19 0)), (3, .ref (ga G 20 0)), (4, .int i)]) hx hb dL_law_1581 hl (by decide) rfl (fun ls hl => ?_)
  refine lv_aload_n hx hb dL_law_1583 rfl (lv_at hl 4 rfl) ?_
  obtain ⟨x21, e20, h⟩ := lt_e h
  refine u_cVi X M hl.1 (kX12_thrown hG.2.2.1 rfl e20.symm) cw_L_115 ⟨Nat.le_of_ble_eq_true rfl, Nat.le_of_ble_eq_true rfl⟩ (rc_X12 X M hG.2.2.1) rfl rfl (Nat.le_of_ble_eq_true rfl) hfb dL_law_1584 (fun H locs M n22 => ?_)
  refine lv_iload hx hb dL_law_1587 (lv_at hl 1 rfl) ?_
  refine lv_icmp_eq (tgt := 1594) hx hb dL_law_1589 (by decide) (fun c23 => ?_) (fun c23 => ?_)
  · have h := it_t h c23
    refine lv_iload hx hb dL_law_1594 (lv_at hl 1 rfl) ?_
    refine lv_if_ne (tgt := 1611) hx hb dL_law_1596 (by decide) (fun c24 => ?_) (fun c24 => ?_)
    · have h := it_f h c24
      refine lv_goto (tgt := 2008) hx hb dL_law_1611 (by decide) ?_
      exact kk H locs ls (Option.some.inj h ▸ M) (lv_sub hl [2, 3, 4, 5, 6] rfl)
    · have h := it_t h c24
      refine lv_aload_n hx hb dL_law_1599 rfl (lv_at hl 5 rfl) ?_
      refine lv_iconst (v := 0) hx hb dL_law_1600 (by decide) ?_
      obtain ⟨x25, e26, h⟩ := lt_e h
      refine u_lald X M hG.2.2.2.1 e26 dL_law_1601 ?_
      refine lv_iload hx hb dL_law_1602 (lv_at hl 0 rfl) ?_
      refine lv_i2l hx hb dL_law_1604 rfl ?_
      refine W.lcmp hx hb dL_law_1605 ?_
      refine lv_if_eq (tgt := 1611) hx hb dL_law_1606 (by decide) (fun c27 => ?_) (fun c27 => ?_)
      · have h := it_t h c27
        refine lv_goto (tgt := 2008) hx hb dL_law_1611 (by decide) ?_
        exact kk H locs ls (Option.some.inj h ▸ M) (lv_sub hl [2, 3, 4, 5, 6] rfl)
      · have h := it_f h c27
        refine lv_iconst (v := 0) hx hb dL_law_1609 (by decide) ?_
        cases h
  · have h := it_f h c23
    refine lv_iconst (v := 0) hx hb dL_law_1592 (by decide) ?_
    cases h
def fLc_25 (xs : Nat → Int32) (L : Nat) (V : uV) (i : Int32) : Option uV :=
  bd2 (fX11_bestUp V) fun x2 S3 =>
  bd2 (fX12_bestUp (S3 19)) fun x6 S7 =>
  lt_ (va_up S3 19 S7) fun V9 =>
  if x2 = x6 then
    some V9
  else
    none
set_option maxHeartbeats 4000000 in
set_option maxRecDepth 20000 in
theorem kLc_25 {l : Launch} {G : UG} (hG : uAll G) (hlt : l.stackTraces = false) {b L : Nat} {xs : Nat → Int32} {V V' : uV} {i : Int32} (h : fLc_25 xs L V i = some V') {p : Program} {e : Env} {s : State} {m : MethodId} {below : List Frame} {meth : Method} {c : Code} (X : UC p s m #[.ref b] meth c code 7 RL G) (hX : va_X b L xs s s.heap) (hbl : b < s.heap.size) (hbA : ¬ uA G b) {Q : State → Prop} {H : Heap} {locs : List Loc} {ls : Array Slot} {cells slots : Nat} (hfa : cells ≤ room_1.cells ∧ slots ≤ room_1.slots) (hfb : cells + 1 ≤ room_1.cells ∧ slots + 6 ≤ room_1.slots) (M : UM G V s H locs) (hl : lv_has ls 7 [(0, .ref b), (1, .ref (ga G 18 0)), (2, .ref (ga G 19 0)), (3, .ref (ga G 20 0)), (4, .int i)])
    (kk : ∀ (H : Heap) (locs : List Loc) (ls : Array Slot), UM G V' s H locs → lv_has ls 7 [(0, .ref b), (1, .ref (ga G 18 0)), (2, .ref (ga G 19 0)), (3, .ref (ga G 20 0)), (4, .int i)] → W p l e room_1 s m #[.ref b] below meth c H locs (cells + 1) (slots + 6) Q (F0 m 2008 ls [])) : W p l e room_1 s m #[.ref b] below meth c H locs cells slots Q (F0 m 1614 ls []) := by
  have hx := X.hx
  have hb := X.hb
  unfold fLc_25 at h
  refine lv_aload_n hx hb dL_law_1614 rfl (lv_at hl 1 rfl) ?_
  obtain ⟨x2, S3, e1, h⟩ := bd2_e h
  refine u_cVi X M hl.1 (kX11_bestUp hG e1) cw_L_195 ⟨Nat.le_of_ble_eq_true rfl, Nat.le_of_ble_eq_true rfl⟩ (rc_X11 X M hG.2.1) rfl rfl (Nat.le_of_ble_eq_true rfl) hfa dL_law_1615 (fun H locs M n4 => ?_)
  refine lv_aload_n hx hb dL_law_1618 rfl (lv_at hl 2 rfl) ?_
  obtain ⟨x6, S7, e5, h⟩ := bd2_e h
  have M := um_in 19 M
  refine u_cVi X M hl.1 (kX12_bestUp hG.2.2.1 e5) cw_L_198 ⟨Nat.le_of_ble_eq_true rfl, Nat.le_of_ble_eq_true rfl⟩ (rc_X12 X M hG.2.2.1) rfl rfl (Nat.le_of_ble_eq_true rfl) hfa dL_law_1619 (fun H locs M n8 => ?_)
  obtain ⟨V9, e10, h⟩ := lt_e h
  rw [← e10] at M
  refine lv_icmp_eq (tgt := 2008) hx hb dL_law_1622 (by decide) (fun c11 => ?_) (fun c11 => ?_)
  · have h := it_t h c11
    exact W.widen (k := cells + 1) (n := slots + 6) (by omega) (by omega) (kk H locs ls (Option.some.inj h ▸ M) (lv_sub hl [0, 1, 2, 3, 4] rfl))
  · have h := it_f h c11
    refine lv_iconst (v := 0) hx hb dL_law_1625 (by decide) ?_
    cases h
def fLc_26 (xs : Nat → Int32) (L : Nat) (V : uV) (i : Int32) : Option uV :=
  bd2 (fX11_worst V) fun x2 S3 =>
  bd2 (fX12_worst (S3 19)) fun x6 S7 =>
  lt_ (va_up S3 19 S7) fun V9 =>
  if x2 = x6 then
    some V9
  else
    none
set_option maxHeartbeats 4000000 in
set_option maxRecDepth 20000 in
theorem kLc_26 {l : Launch} {G : UG} (hG : uAll G) (hlt : l.stackTraces = false) {b L : Nat} {xs : Nat → Int32} {V V' : uV} {i : Int32} (h : fLc_26 xs L V i = some V') {p : Program} {e : Env} {s : State} {m : MethodId} {below : List Frame} {meth : Method} {c : Code} (X : UC p s m #[.ref b] meth c code 7 RL G) (hX : va_X b L xs s s.heap) (hbl : b < s.heap.size) (hbA : ¬ uA G b) {Q : State → Prop} {H : Heap} {locs : List Loc} {ls : Array Slot} {cells slots : Nat} (hfa : cells ≤ room_1.cells ∧ slots ≤ room_1.slots) (hfb : cells + 1 ≤ room_1.cells ∧ slots + 6 ≤ room_1.slots) (M : UM G V s H locs) (hl : lv_has ls 7 [(0, .ref b), (1, .ref (ga G 18 0)), (2, .ref (ga G 19 0)), (3, .ref (ga G 20 0)), (4, .int i)])
    (kk : ∀ (H : Heap) (locs : List Loc) (ls : Array Slot), UM G V' s H locs → lv_has ls 7 [(0, .ref b), (1, .ref (ga G 18 0)), (2, .ref (ga G 19 0)), (3, .ref (ga G 20 0)), (4, .int i)] → W p l e room_1 s m #[.ref b] below meth c H locs (cells + 1) (slots + 6) Q (F0 m 2008 ls [])) : W p l e room_1 s m #[.ref b] below meth c H locs cells slots Q (F0 m 1627 ls []) := by
  have hx := X.hx
  have hb := X.hb
  unfold fLc_26 at h
  refine lv_aload_n hx hb dL_law_1627 rfl (lv_at hl 1 rfl) ?_
  obtain ⟨x2, S3, e1, h⟩ := bd2_e h
  refine u_cVi X M hl.1 (kX11_worst hG e1) cw_L_199 ⟨Nat.le_of_ble_eq_true rfl, Nat.le_of_ble_eq_true rfl⟩ (rc_X11 X M hG.2.1) rfl rfl (Nat.le_of_ble_eq_true rfl) hfa dL_law_1628 (fun H locs M n4 => ?_)
  refine lv_aload_n hx hb dL_law_1631 rfl (lv_at hl 2 rfl) ?_
  obtain ⟨x6, S7, e5, h⟩ := bd2_e h
  have M := um_in 19 M
  refine u_cVi X M hl.1 (kX12_worst hG.2.2.1 e5) cw_L_202 ⟨Nat.le_of_ble_eq_true rfl, Nat.le_of_ble_eq_true rfl⟩ (rc_X12 X M hG.2.2.1) rfl rfl (Nat.le_of_ble_eq_true rfl) hfa dL_law_1632 (fun H locs M n8 => ?_)
  obtain ⟨V9, e10, h⟩ := lt_e h
  rw [← e10] at M
  refine lv_icmp_eq (tgt := 2008) hx hb dL_law_1635 (by decide) (fun c11 => ?_) (fun c11 => ?_)
  · have h := it_t h c11
    exact W.widen (k := cells + 1) (n := slots + 6) (by omega) (by omega) (kk H locs ls (Option.some.inj h ▸ M) (lv_sub hl [0, 1, 2, 3, 4] rfl))
  · have h := it_f h c11
    refine lv_iconst (v := 0) hx hb dL_law_1638 (by decide) ?_
    cases h
def fLc_27 (xs : Nat → Int32) (L : Nat) (V : uV) (i : Int32) : Option uV :=
  gd (inb (i + 1) L) <|
  lt_ (xs ((i + 1) : Int32).toNatClampNeg) fun x2 =>
  bd2 (fL_owes V x2) fun x4 V5 =>
  lt_ (xs ((i + 1) : Int32).toNatClampNeg) fun x7 =>
  bd2 (fX12_owes (V5 19) x7) fun x10 S11 =>
  lt_ (va_up V5 19 S11) fun V13 =>
  lt_ (fX12_thrown (V13 19)) fun x16 =>
  if x16 = x4 then
    if x4 = 0 then
      lt_ ((V13 20 0 0).toInt64) fun x20 =>
      if (lg_cmp x20 ((x10 : Int32).toInt64)) = 0 then
        some V13
      else
        none
    else
      some V13
  else
    none
set_option maxHeartbeats 4000000 in
set_option maxRecDepth 20000 in
theorem kLc_27 {l : Launch} {G : UG} (hG : uAll G) (hlt : l.stackTraces = false) {b L : Nat} {xs : Nat → Int32} {V V' : uV} {i : Int32} (h : fLc_27 xs L V i = some V') {p : Program} {e : Env} {s : State} {m : MethodId} {below : List Frame} {meth : Method} {c : Code} (X : UC p s m #[.ref b] meth c code 7 RL G) (hX : va_X b L xs s s.heap) (hbl : b < s.heap.size) (hbA : ¬ uA G b) {Q : State → Prop} {H : Heap} {locs : List Loc} {ls : Array Slot} {cells slots : Nat} (hfa : cells ≤ room_1.cells ∧ slots ≤ room_1.slots) (hfb : cells + 1 ≤ room_1.cells ∧ slots + 6 ≤ room_1.slots) (M : UM G V s H locs) (hl : lv_has ls 7 [(0, .ref b), (1, .ref (ga G 18 0)), (2, .ref (ga G 19 0)), (3, .ref (ga G 20 0)), (4, .int i)])
    (kk : ∀ (H : Heap) (locs : List Loc) (ls : Array Slot), UM G V' s H locs → lv_has ls 7 [(0, .ref b), (1, .ref (ga G 18 0)), (2, .ref (ga G 19 0)), (3, .ref (ga G 20 0)), (4, .int i)] → W p l e room_1 s m #[.ref b] below meth c H locs (cells + 1) (slots + 6) Q (F0 m 2008 ls [])) : W p l e room_1 s m #[.ref b] below meth c H locs cells slots Q (F0 m 1640 ls []) := by
  have hx := X.hx
  have hb := X.hb
  unfold fLc_27 at h
  refine lv_aload_n hx hb dL_law_1640 rfl (lv_at hl 1 rfl) ?_
  refine lv_aload_n hx hb dL_law_1641 rfl (lv_at hl 0 rfl) ?_
  refine lv_iload hx hb dL_law_1642 (lv_at hl 4 rfl) ?_
  refine lv_iconst (v := 1) hx hb dL_law_1644 (by decide) ?_
  refine lv_iadd hx hb dL_law_1645 ?_
  obtain ⟨g1, h⟩ := gd_e h
  obtain ⟨x2, e3, h⟩ := lt_e h
  refine va_sld hx hb hX hbl hbA M.2 (inb_e g1) dL_law_1646 ?_
  refine u_topi e3 ?_
  refine lv_aload_n hx hb dL_law_1647 rfl (lv_at hl 3 rfl) ?_
  obtain ⟨x4, V5, e6, h⟩ := bd2_e h
  refine l_cSW X M hl.1 (kL_owes hG hlt e6) cl_203 ⟨Nat.le_of_ble_eq_true rfl, Nat.le_of_ble_eq_true rfl⟩ rfl rfl (Nat.le_of_ble_eq_true rfl) hfb dL_law_1648 (fun H locs M => ?_)
  refine lv_istore (lv' := [(5, .int x4), (0, .ref b), (1, .ref (ga G 18 0)), (2, .ref (ga G 19 0)), (3, .ref (ga G 20 0)), (4, .int i)]) hx hb dL_law_1651 hl (by decide) rfl (fun ls hl => ?_)
  refine lv_aload_n hx hb dL_law_1653 rfl (lv_at hl 3 rfl) ?_
  refine lv_aload_n hx hb dL_law_1654 rfl (lv_at hl 1 rfl) ?_
  refine lv_iload hx hb dL_law_1655 (lv_at hl 5 rfl) ?_
  refine lv_iconst (v := 1) hx hb dL_law_1657 (by decide) ?_
  refine lv_iadd hx hb dL_law_1658 ?_
  obtain ⟨x7, e8, h⟩ := lt_e h
  refine va_sld hx hb hX hbl hbA M.2 (inb_e g1) dL_law_1659 ?_
  refine u_topi e8 ?_
  obtain ⟨x10, S11, e9, h⟩ := bd2_e h
  have M := um_in 19 M
  refine u_cVi X M hl.1 (kX12_owes hG.2.2.1 e9) cw_L_205 ⟨Nat.le_of_ble_eq_true rfl, Nat.le_of_ble_eq_true rfl⟩ (rc_X12 X M hG.2.2.1) rfl rfl (Nat.le_of_ble_eq_true rfl) hfb dL_law_1660 (fun H locs M n12 => ?_)
  obtain ⟨V13, e14, h⟩ := lt_e h
  rw [← e14] at M
  refine lv_istore (lv' := [(6, .int x10), (5, .int x4), (0, .ref b), (1, .ref (ga G 18 0)), (2, .ref (ga G 19 0)), (3, .ref (ga G 20 0)), (4, .int i)]) hx hb dL_law_1663 hl (by decide) rfl (fun ls hl => ?_)
  refine lv_aload_n hx hb dL_law_1665 rfl (lv_at hl 4 rfl) ?_
  obtain ⟨x16, e15, h⟩ := lt_e h
  refine u_cVi X M hl.1 (kX12_thrown hG.2.2.1 rfl e15.symm) cw_L_115 ⟨Nat.le_of_ble_eq_true rfl, Nat.le_of_ble_eq_true rfl⟩ (rc_X12 X M hG.2.2.1) rfl rfl (Nat.le_of_ble_eq_true rfl) hfb dL_law_1666 (fun H locs M n17 => ?_)
  refine lv_iload hx hb dL_law_1669 (lv_at hl 1 rfl) ?_
  refine lv_icmp_eq (tgt := 1676) hx hb dL_law_1671 (by decide) (fun c18 => ?_) (fun c18 => ?_)
  · have h := it_t h c18
    refine lv_iload hx hb dL_law_1676 (lv_at hl 1 rfl) ?_
    refine lv_if_ne (tgt := 1693) hx hb dL_law_1678 (by decide) (fun c19 => ?_) (fun c19 => ?_)
    · have h := it_f h c19
      refine lv_goto (tgt := 2008) hx hb dL_law_1693 (by decide) ?_
      exact kk H locs ls (Option.some.inj h ▸ M) (lv_sub hl [2, 3, 4, 5, 6] rfl)
    · have h := it_t h c19
      refine lv_aload_n hx hb dL_law_1681 rfl (lv_at hl 5 rfl) ?_
      refine lv_iconst (v := 0) hx hb dL_law_1682 (by decide) ?_
      obtain ⟨x20, e21, h⟩ := lt_e h
      refine u_lald X M hG.2.2.2.1 e21 dL_law_1683 ?_
      refine lv_iload hx hb dL_law_1684 (lv_at hl 0 rfl) ?_
      refine lv_i2l hx hb dL_law_1686 rfl ?_
      refine W.lcmp hx hb dL_law_1687 ?_
      refine lv_if_eq (tgt := 1693) hx hb dL_law_1688 (by decide) (fun c22 => ?_) (fun c22 => ?_)
      · have h := it_t h c22
        refine lv_goto (tgt := 2008) hx hb dL_law_1693 (by decide) ?_
        exact kk H locs ls (Option.some.inj h ▸ M) (lv_sub hl [2, 3, 4, 5, 6] rfl)
      · have h := it_f h c22
        refine lv_iconst (v := 0) hx hb dL_law_1691 (by decide) ?_
        cases h
  · have h := it_f h c18
    refine lv_iconst (v := 0) hx hb dL_law_1674 (by decide) ?_
    cases h
def fLc_28 (xs : Nat → Int32) (L : Nat) (V : uV) (i : Int32) : Option uV :=
  gd (inb (i + 1) L) <|
  lt_ (xs ((i + 1) : Int32).toNatClampNeg) fun x2 =>
  gd (inb (i + 2) L) <|
  lt_ (xs ((i + 2) : Int32).toNatClampNeg) fun x5 =>
  gd (inb (i + 3) L) <|
  lt_ (xs ((i + 3) : Int32).toNatClampNeg) fun x8 =>
  bd2 (fL_runScript V x2 ((((x5 : Int32).toInt64) <<< ((32 : Int32).toInt64 &&& 63)) ||| (((x8 : Int32).toInt64) &&& 4294967295))) fun x10 V11 =>
  lt_ (xs ((i + 1) : Int32).toNatClampNeg) fun x13 =>
  lt_ (xs ((i + 2) : Int32).toNatClampNeg) fun x15 =>
  lt_ (xs ((i + 3) : Int32).toNatClampNeg) fun x17 =>
  bd2 (fX12_runScript (V11 19) x13 ((((x15 : Int32).toInt64) <<< ((32 : Int32).toInt64 &&& 63)) ||| (((x17 : Int32).toInt64) &&& 4294967295))) fun x20 S21 =>
  lt_ (va_up V11 19 S21) fun V23 =>
  lt_ (fX12_thrown (V23 19)) fun x26 =>
  if x26 = x10 then
    if x10 = 0 then
      lt_ ((V23 20 0 0).toInt64) fun x30 =>
      if (lg_cmp x30 ((x20 : Int32).toInt64)) = 0 then
        some V23
      else
        none
    else
      some V23
  else
    none
set_option maxHeartbeats 4000000 in
set_option maxRecDepth 20000 in
theorem kLc_28 {l : Launch} {G : UG} (hG : uAll G) (hlt : l.stackTraces = false) {b L : Nat} {xs : Nat → Int32} {V V' : uV} {i : Int32} (h : fLc_28 xs L V i = some V') {p : Program} {e : Env} {s : State} {m : MethodId} {below : List Frame} {meth : Method} {c : Code} (X : UC p s m #[.ref b] meth c code 7 RL G) (hX : va_X b L xs s s.heap) (hbl : b < s.heap.size) (hbA : ¬ uA G b) {Q : State → Prop} {H : Heap} {locs : List Loc} {ls : Array Slot} {cells slots : Nat} (hfa : cells ≤ room_1.cells ∧ slots ≤ room_1.slots) (hfb : cells + 1 ≤ room_1.cells ∧ slots + 6 ≤ room_1.slots) (M : UM G V s H locs) (hl : lv_has ls 7 [(0, .ref b), (1, .ref (ga G 18 0)), (2, .ref (ga G 19 0)), (3, .ref (ga G 20 0)), (4, .int i)])
    (kk : ∀ (H : Heap) (locs : List Loc) (ls : Array Slot), UM G V' s H locs → lv_has ls 7 [(0, .ref b), (1, .ref (ga G 18 0)), (2, .ref (ga G 19 0)), (3, .ref (ga G 20 0)), (4, .int i)] → W p l e room_1 s m #[.ref b] below meth c H locs (cells + 1) (slots + 6) Q (F0 m 2008 ls [])) : W p l e room_1 s m #[.ref b] below meth c H locs cells slots Q (F0 m 1696 ls []) := by
  have hx := X.hx
  have hb := X.hb
  unfold fLc_28 at h
  refine lv_aload_n hx hb dL_law_1696 rfl (lv_at hl 1 rfl) ?_
  refine lv_aload_n hx hb dL_law_1697 rfl (lv_at hl 0 rfl) ?_
  refine lv_iload hx hb dL_law_1698 (lv_at hl 4 rfl) ?_
  refine lv_iconst (v := 1) hx hb dL_law_1700 (by decide) ?_
  refine lv_iadd hx hb dL_law_1701 ?_
  obtain ⟨g1, h⟩ := gd_e h
  obtain ⟨x2, e3, h⟩ := lt_e h
  refine va_sld hx hb hX hbl hbA M.2 (inb_e g1) dL_law_1702 ?_
  refine u_topi e3 ?_
  refine lv_aload_n hx hb dL_law_1703 rfl (lv_at hl 0 rfl) ?_
  refine lv_iload hx hb dL_law_1704 (lv_at hl 4 rfl) ?_
  refine lv_iconst (v := 2) hx hb dL_law_1706 (by decide) ?_
  refine lv_iadd hx hb dL_law_1707 ?_
  obtain ⟨g4, h⟩ := gd_e h
  obtain ⟨x5, e6, h⟩ := lt_e h
  refine va_sld hx hb hX hbl hbA M.2 (inb_e g4) dL_law_1708 ?_
  refine u_topi e6 ?_
  refine lv_i2l hx hb dL_law_1709 rfl ?_
  refine lv_bipush (v := 32) hx hb dL_law_1710 (by decide) ?_
  refine lv_lshl hx hb dL_law_1712 rfl ?_
  refine lv_aload_n hx hb dL_law_1713 rfl (lv_at hl 0 rfl) ?_
  refine lv_iload hx hb dL_law_1714 (lv_at hl 4 rfl) ?_
  refine lv_iconst (v := 3) hx hb dL_law_1716 (by decide) ?_
  refine lv_iadd hx hb dL_law_1717 ?_
  obtain ⟨g7, h⟩ := gd_e h
  obtain ⟨x8, e9, h⟩ := lt_e h
  refine va_sld hx hb hX hbl hbA M.2 (inb_e g7) dL_law_1718 ?_
  refine u_topi e9 ?_
  refine lv_i2l hx hb dL_law_1719 rfl ?_
  refine lv_ldc2 (v := 4294967295) hx hb X.1.2.2.2.1 (X.hts (gt_in 1376 (by decide +kernel) (by decide +kernel))) dL_law_1720 ?_
  refine lv_land hx hb dL_law_1723 ?_
  refine lv_lor hx hb dL_law_1724 ?_
  refine lv_aload_n hx hb dL_law_1725 rfl (lv_at hl 3 rfl) ?_
  obtain ⟨x10, V11, e12, h⟩ := bd2_e h
  refine l_cSW X M hl.1 (kL_runScript hG hlt e12) cl_208 ⟨Nat.le_of_ble_eq_true rfl, Nat.le_of_ble_eq_true rfl⟩ rfl rfl (Nat.le_of_ble_eq_true rfl) hfb dL_law_1726 (fun H locs M => ?_)
  refine lv_istore (lv' := [(5, .int x10), (0, .ref b), (1, .ref (ga G 18 0)), (2, .ref (ga G 19 0)), (3, .ref (ga G 20 0)), (4, .int i)]) hx hb dL_law_1729 hl (by decide) rfl (fun ls hl => ?_)
  refine lv_aload_n hx hb dL_law_1731 rfl (lv_at hl 3 rfl) ?_
  refine lv_aload_n hx hb dL_law_1732 rfl (lv_at hl 1 rfl) ?_
  refine lv_iload hx hb dL_law_1733 (lv_at hl 5 rfl) ?_
  refine lv_iconst (v := 1) hx hb dL_law_1735 (by decide) ?_
  refine lv_iadd hx hb dL_law_1736 ?_
  obtain ⟨x13, e14, h⟩ := lt_e h
  refine va_sld hx hb hX hbl hbA M.2 (inb_e g1) dL_law_1737 ?_
  refine u_topi e14 ?_
  refine lv_aload_n hx hb dL_law_1738 rfl (lv_at hl 1 rfl) ?_
  refine lv_iload hx hb dL_law_1739 (lv_at hl 5 rfl) ?_
  refine lv_iconst (v := 2) hx hb dL_law_1741 (by decide) ?_
  refine lv_iadd hx hb dL_law_1742 ?_
  obtain ⟨x15, e16, h⟩ := lt_e h
  refine va_sld hx hb hX hbl hbA M.2 (inb_e g4) dL_law_1743 ?_
  refine u_topi e16 ?_
  refine lv_i2l hx hb dL_law_1744 rfl ?_
  refine lv_bipush (v := 32) hx hb dL_law_1745 (by decide) ?_
  refine lv_lshl hx hb dL_law_1747 rfl ?_
  refine lv_aload_n hx hb dL_law_1748 rfl (lv_at hl 1 rfl) ?_
  refine lv_iload hx hb dL_law_1749 (lv_at hl 5 rfl) ?_
  refine lv_iconst (v := 3) hx hb dL_law_1751 (by decide) ?_
  refine lv_iadd hx hb dL_law_1752 ?_
  obtain ⟨x17, e18, h⟩ := lt_e h
  refine va_sld hx hb hX hbl hbA M.2 (inb_e g7) dL_law_1753 ?_
  refine u_topi e18 ?_
  refine lv_i2l hx hb dL_law_1754 rfl ?_
  refine lv_ldc2 (v := 4294967295) hx hb X.1.2.2.2.1 (X.hts (gt_in 1376 (by decide +kernel) (by decide +kernel))) dL_law_1755 ?_
  refine lv_land hx hb dL_law_1758 ?_
  refine lv_lor hx hb dL_law_1759 ?_
  obtain ⟨x20, S21, e19, h⟩ := bd2_e h
  have M := um_in 19 M
  refine u_cVi X M hl.1 (kX12_runScript hG.2.2.1 e19) cw_L_211 ⟨Nat.le_of_ble_eq_true rfl, Nat.le_of_ble_eq_true rfl⟩ (rc_X12 X M hG.2.2.1) rfl rfl (Nat.le_of_ble_eq_true rfl) hfb dL_law_1760 (fun H locs M n22 => ?_)
  obtain ⟨V23, e24, h⟩ := lt_e h
  rw [← e24] at M
  refine lv_istore (lv' := [(6, .int x20), (5, .int x10), (0, .ref b), (1, .ref (ga G 18 0)), (2, .ref (ga G 19 0)), (3, .ref (ga G 20 0)), (4, .int i)]) hx hb dL_law_1763 hl (by decide) rfl (fun ls hl => ?_)
  refine lv_aload_n hx hb dL_law_1765 rfl (lv_at hl 4 rfl) ?_
  obtain ⟨x26, e25, h⟩ := lt_e h
  refine u_cVi X M hl.1 (kX12_thrown hG.2.2.1 rfl e25.symm) cw_L_115 ⟨Nat.le_of_ble_eq_true rfl, Nat.le_of_ble_eq_true rfl⟩ (rc_X12 X M hG.2.2.1) rfl rfl (Nat.le_of_ble_eq_true rfl) hfb dL_law_1766 (fun H locs M n27 => ?_)
  refine lv_iload hx hb dL_law_1769 (lv_at hl 1 rfl) ?_
  refine lv_icmp_eq (tgt := 1776) hx hb dL_law_1771 (by decide) (fun c28 => ?_) (fun c28 => ?_)
  · have h := it_t h c28
    refine lv_iload hx hb dL_law_1776 (lv_at hl 1 rfl) ?_
    refine lv_if_ne (tgt := 1793) hx hb dL_law_1778 (by decide) (fun c29 => ?_) (fun c29 => ?_)
    · have h := it_f h c29
      refine lv_goto (tgt := 2008) hx hb dL_law_1793 (by decide) ?_
      exact kk H locs ls (Option.some.inj h ▸ M) (lv_sub hl [2, 3, 4, 5, 6] rfl)
    · have h := it_t h c29
      refine lv_aload_n hx hb dL_law_1781 rfl (lv_at hl 5 rfl) ?_
      refine lv_iconst (v := 0) hx hb dL_law_1782 (by decide) ?_
      obtain ⟨x30, e31, h⟩ := lt_e h
      refine u_lald X M hG.2.2.2.1 e31 dL_law_1783 ?_
      refine lv_iload hx hb dL_law_1784 (lv_at hl 0 rfl) ?_
      refine lv_i2l hx hb dL_law_1786 rfl ?_
      refine W.lcmp hx hb dL_law_1787 ?_
      refine lv_if_eq (tgt := 1793) hx hb dL_law_1788 (by decide) (fun c32 => ?_) (fun c32 => ?_)
      · have h := it_t h c32
        refine lv_goto (tgt := 2008) hx hb dL_law_1793 (by decide) ?_
        exact kk H locs ls (Option.some.inj h ▸ M) (lv_sub hl [2, 3, 4, 5, 6] rfl)
      · have h := it_f h c32
        refine lv_iconst (v := 0) hx hb dL_law_1791 (by decide) ?_
        cases h
  · have h := it_f h c28
    refine lv_iconst (v := 0) hx hb dL_law_1774 (by decide) ?_
    cases h
def fLc_29 (xs : Nat → Int32) (L : Nat) (V : uV) (i : Int32) : Option uV :=
  gd (inb (i + 1) L) <|
  lt_ (xs ((i + 1) : Int32).toNatClampNeg) fun x2 =>
  gd (inb (i + 2) L) <|
  lt_ (xs ((i + 2) : Int32).toNatClampNeg) fun x5 =>
  gd (inb (i + 3) L) <|
  lt_ (xs ((i + 3) : Int32).toNatClampNeg) fun x8 =>
  bd2 (fL_simulate V ((((x2 : Int32).toInt64) <<< ((32 : Int32).toInt64 &&& 63)) ||| (((x5 : Int32).toInt64) &&& 4294967295)) x8) fun x10 V11 =>
  lt_ (xs ((i + 1) : Int32).toNatClampNeg) fun x13 =>
  lt_ (xs ((i + 2) : Int32).toNatClampNeg) fun x15 =>
  lt_ (xs ((i + 3) : Int32).toNatClampNeg) fun x17 =>
  bd2 (fX12_simulate (V11 19) ((((x13 : Int32).toInt64) <<< ((32 : Int32).toInt64 &&& 63)) ||| (((x15 : Int32).toInt64) &&& 4294967295)) x17) fun x20 S21 =>
  lt_ (va_up V11 19 S21) fun V23 =>
  lt_ (fX12_thrown (V23 19)) fun x26 =>
  if x26 = x10 then
    if x10 = 0 then
      lt_ ((V23 20 0 0).toInt64) fun x30 =>
      if (lg_cmp x30 ((x20 : Int32).toInt64)) = 0 then
        some V23
      else
        none
    else
      some V23
  else
    none
set_option maxHeartbeats 4000000 in
set_option maxRecDepth 20000 in
theorem kLc_29 {l : Launch} {G : UG} (hG : uAll G) (hlt : l.stackTraces = false) {b L : Nat} {xs : Nat → Int32} {V V' : uV} {i : Int32} (h : fLc_29 xs L V i = some V') {p : Program} {e : Env} {s : State} {m : MethodId} {below : List Frame} {meth : Method} {c : Code} (X : UC p s m #[.ref b] meth c code 7 RL G) (hX : va_X b L xs s s.heap) (hbl : b < s.heap.size) (hbA : ¬ uA G b) {Q : State → Prop} {H : Heap} {locs : List Loc} {ls : Array Slot} {cells slots : Nat} (hfa : cells ≤ room_1.cells ∧ slots ≤ room_1.slots) (hfb : cells + 1 ≤ room_1.cells ∧ slots + 6 ≤ room_1.slots) (M : UM G V s H locs) (hl : lv_has ls 7 [(0, .ref b), (1, .ref (ga G 18 0)), (2, .ref (ga G 19 0)), (3, .ref (ga G 20 0)), (4, .int i)])
    (kk : ∀ (H : Heap) (locs : List Loc) (ls : Array Slot), UM G V' s H locs → lv_has ls 7 [(0, .ref b), (1, .ref (ga G 18 0)), (2, .ref (ga G 19 0)), (3, .ref (ga G 20 0)), (4, .int i)] → W p l e room_1 s m #[.ref b] below meth c H locs (cells + 1) (slots + 6) Q (F0 m 2008 ls [])) : W p l e room_1 s m #[.ref b] below meth c H locs cells slots Q (F0 m 1796 ls []) := by
  have hx := X.hx
  have hb := X.hb
  unfold fLc_29 at h
  refine lv_aload_n hx hb dL_law_1796 rfl (lv_at hl 1 rfl) ?_
  refine lv_aload_n hx hb dL_law_1797 rfl (lv_at hl 0 rfl) ?_
  refine lv_iload hx hb dL_law_1798 (lv_at hl 4 rfl) ?_
  refine lv_iconst (v := 1) hx hb dL_law_1800 (by decide) ?_
  refine lv_iadd hx hb dL_law_1801 ?_
  obtain ⟨g1, h⟩ := gd_e h
  obtain ⟨x2, e3, h⟩ := lt_e h
  refine va_sld hx hb hX hbl hbA M.2 (inb_e g1) dL_law_1802 ?_
  refine u_topi e3 ?_
  refine lv_i2l hx hb dL_law_1803 rfl ?_
  refine lv_bipush (v := 32) hx hb dL_law_1804 (by decide) ?_
  refine lv_lshl hx hb dL_law_1806 rfl ?_
  refine lv_aload_n hx hb dL_law_1807 rfl (lv_at hl 0 rfl) ?_
  refine lv_iload hx hb dL_law_1808 (lv_at hl 4 rfl) ?_
  refine lv_iconst (v := 2) hx hb dL_law_1810 (by decide) ?_
  refine lv_iadd hx hb dL_law_1811 ?_
  obtain ⟨g4, h⟩ := gd_e h
  obtain ⟨x5, e6, h⟩ := lt_e h
  refine va_sld hx hb hX hbl hbA M.2 (inb_e g4) dL_law_1812 ?_
  refine u_topi e6 ?_
  refine lv_i2l hx hb dL_law_1813 rfl ?_
  refine lv_ldc2 (v := 4294967295) hx hb X.1.2.2.2.1 (X.hts (gt_in 1376 (by decide +kernel) (by decide +kernel))) dL_law_1814 ?_
  refine lv_land hx hb dL_law_1817 ?_
  refine lv_lor hx hb dL_law_1818 ?_
  refine lv_aload_n hx hb dL_law_1819 rfl (lv_at hl 0 rfl) ?_
  refine lv_iload hx hb dL_law_1820 (lv_at hl 4 rfl) ?_
  refine lv_iconst (v := 3) hx hb dL_law_1822 (by decide) ?_
  refine lv_iadd hx hb dL_law_1823 ?_
  obtain ⟨g7, h⟩ := gd_e h
  obtain ⟨x8, e9, h⟩ := lt_e h
  refine va_sld hx hb hX hbl hbA M.2 (inb_e g7) dL_law_1824 ?_
  refine u_topi e9 ?_
  refine lv_aload_n hx hb dL_law_1825 rfl (lv_at hl 3 rfl) ?_
  obtain ⟨x10, V11, e12, h⟩ := bd2_e h
  refine l_cSW X M hl.1 (kL_simulate hG hlt e12) cl_212 ⟨Nat.le_of_ble_eq_true rfl, Nat.le_of_ble_eq_true rfl⟩ rfl rfl (Nat.le_of_ble_eq_true rfl) hfb dL_law_1826 (fun H locs M => ?_)
  refine lv_istore (lv' := [(5, .int x10), (0, .ref b), (1, .ref (ga G 18 0)), (2, .ref (ga G 19 0)), (3, .ref (ga G 20 0)), (4, .int i)]) hx hb dL_law_1829 hl (by decide) rfl (fun ls hl => ?_)
  refine lv_aload_n hx hb dL_law_1831 rfl (lv_at hl 3 rfl) ?_
  refine lv_aload_n hx hb dL_law_1832 rfl (lv_at hl 1 rfl) ?_
  refine lv_iload hx hb dL_law_1833 (lv_at hl 5 rfl) ?_
  refine lv_iconst (v := 1) hx hb dL_law_1835 (by decide) ?_
  refine lv_iadd hx hb dL_law_1836 ?_
  obtain ⟨x13, e14, h⟩ := lt_e h
  refine va_sld hx hb hX hbl hbA M.2 (inb_e g1) dL_law_1837 ?_
  refine u_topi e14 ?_
  refine lv_i2l hx hb dL_law_1838 rfl ?_
  refine lv_bipush (v := 32) hx hb dL_law_1839 (by decide) ?_
  refine lv_lshl hx hb dL_law_1841 rfl ?_
  refine lv_aload_n hx hb dL_law_1842 rfl (lv_at hl 1 rfl) ?_
  refine lv_iload hx hb dL_law_1843 (lv_at hl 5 rfl) ?_
  refine lv_iconst (v := 2) hx hb dL_law_1845 (by decide) ?_
  refine lv_iadd hx hb dL_law_1846 ?_
  obtain ⟨x15, e16, h⟩ := lt_e h
  refine va_sld hx hb hX hbl hbA M.2 (inb_e g4) dL_law_1847 ?_
  refine u_topi e16 ?_
  refine lv_i2l hx hb dL_law_1848 rfl ?_
  refine lv_ldc2 (v := 4294967295) hx hb X.1.2.2.2.1 (X.hts (gt_in 1376 (by decide +kernel) (by decide +kernel))) dL_law_1849 ?_
  refine lv_land hx hb dL_law_1852 ?_
  refine lv_lor hx hb dL_law_1853 ?_
  refine lv_aload_n hx hb dL_law_1854 rfl (lv_at hl 1 rfl) ?_
  refine lv_iload hx hb dL_law_1855 (lv_at hl 5 rfl) ?_
  refine lv_iconst (v := 3) hx hb dL_law_1857 (by decide) ?_
  refine lv_iadd hx hb dL_law_1858 ?_
  obtain ⟨x17, e18, h⟩ := lt_e h
  refine va_sld hx hb hX hbl hbA M.2 (inb_e g7) dL_law_1859 ?_
  refine u_topi e18 ?_
  obtain ⟨x20, S21, e19, h⟩ := bd2_e h
  have M := um_in 19 M
  refine u_cVi X M hl.1 (kX12_simulate hG.2.2.1 e19) cw_L_215 ⟨Nat.le_of_ble_eq_true rfl, Nat.le_of_ble_eq_true rfl⟩ (rc_X12 X M hG.2.2.1) rfl rfl (Nat.le_of_ble_eq_true rfl) hfb dL_law_1860 (fun H locs M n22 => ?_)
  obtain ⟨V23, e24, h⟩ := lt_e h
  rw [← e24] at M
  refine lv_istore (lv' := [(6, .int x20), (5, .int x10), (0, .ref b), (1, .ref (ga G 18 0)), (2, .ref (ga G 19 0)), (3, .ref (ga G 20 0)), (4, .int i)]) hx hb dL_law_1863 hl (by decide) rfl (fun ls hl => ?_)
  refine lv_aload_n hx hb dL_law_1865 rfl (lv_at hl 4 rfl) ?_
  obtain ⟨x26, e25, h⟩ := lt_e h
  refine u_cVi X M hl.1 (kX12_thrown hG.2.2.1 rfl e25.symm) cw_L_115 ⟨Nat.le_of_ble_eq_true rfl, Nat.le_of_ble_eq_true rfl⟩ (rc_X12 X M hG.2.2.1) rfl rfl (Nat.le_of_ble_eq_true rfl) hfb dL_law_1866 (fun H locs M n27 => ?_)
  refine lv_iload hx hb dL_law_1869 (lv_at hl 1 rfl) ?_
  refine lv_icmp_eq (tgt := 1876) hx hb dL_law_1871 (by decide) (fun c28 => ?_) (fun c28 => ?_)
  · have h := it_t h c28
    refine lv_iload hx hb dL_law_1876 (lv_at hl 1 rfl) ?_
    refine lv_if_ne (tgt := 1893) hx hb dL_law_1878 (by decide) (fun c29 => ?_) (fun c29 => ?_)
    · have h := it_f h c29
      refine lv_goto (tgt := 2008) hx hb dL_law_1893 (by decide) ?_
      exact kk H locs ls (Option.some.inj h ▸ M) (lv_sub hl [2, 3, 4, 5, 6] rfl)
    · have h := it_t h c29
      refine lv_aload_n hx hb dL_law_1881 rfl (lv_at hl 5 rfl) ?_
      refine lv_iconst (v := 0) hx hb dL_law_1882 (by decide) ?_
      obtain ⟨x30, e31, h⟩ := lt_e h
      refine u_lald X M hG.2.2.2.1 e31 dL_law_1883 ?_
      refine lv_iload hx hb dL_law_1884 (lv_at hl 0 rfl) ?_
      refine lv_i2l hx hb dL_law_1886 rfl ?_
      refine W.lcmp hx hb dL_law_1887 ?_
      refine lv_if_eq (tgt := 1893) hx hb dL_law_1888 (by decide) (fun c32 => ?_) (fun c32 => ?_)
      · have h := it_t h c32
        refine lv_goto (tgt := 2008) hx hb dL_law_1893 (by decide) ?_
        exact kk H locs ls (Option.some.inj h ▸ M) (lv_sub hl [2, 3, 4, 5, 6] rfl)
      · have h := it_f h c32
        refine lv_iconst (v := 0) hx hb dL_law_1891 (by decide) ?_
        cases h
  · have h := it_f h c28
    refine lv_iconst (v := 0) hx hb dL_law_1874 (by decide) ?_
    cases h
def fLc_30 (xs : Nat → Int32) (L : Nat) (V : uV) (i : Int32) : Option uV :=
  gd (inb (i + 1) L) <|
  lt_ (xs ((i + 1) : Int32).toNatClampNeg) fun x2 =>
  bd2 (fL_save V x2) fun x4 V5 =>
  lt_ (xs ((i + 1) : Int32).toNatClampNeg) fun x7 =>
  bd2 (fX12_save (V5 19) x7) fun x10 S11 =>
  lt_ (va_up V5 19 S11) fun V13 =>
  lt_ (fX12_thrown (V13 19)) fun x16 =>
  if x16 = x4 then
    if x4 = 0 then
      lt_ ((V13 20 0 0).toInt64) fun x20 =>
      if (lg_cmp x20 ((x10 : Int32).toInt64)) = 0 then
        some V13
      else
        none
    else
      some V13
  else
    none
set_option maxHeartbeats 4000000 in
set_option maxRecDepth 20000 in
theorem kLc_30 {l : Launch} {G : UG} (hG : uAll G) (hlt : l.stackTraces = false) {b L : Nat} {xs : Nat → Int32} {V V' : uV} {i : Int32} (h : fLc_30 xs L V i = some V') {p : Program} {e : Env} {s : State} {m : MethodId} {below : List Frame} {meth : Method} {c : Code} (X : UC p s m #[.ref b] meth c code 7 RL G) (hX : va_X b L xs s s.heap) (hbl : b < s.heap.size) (hbA : ¬ uA G b) {Q : State → Prop} {H : Heap} {locs : List Loc} {ls : Array Slot} {cells slots : Nat} (hfa : cells ≤ room_1.cells ∧ slots ≤ room_1.slots) (hfb : cells + 1 ≤ room_1.cells ∧ slots + 6 ≤ room_1.slots) (M : UM G V s H locs) (hl : lv_has ls 7 [(0, .ref b), (1, .ref (ga G 18 0)), (2, .ref (ga G 19 0)), (3, .ref (ga G 20 0)), (4, .int i)])
    (kk : ∀ (H : Heap) (locs : List Loc) (ls : Array Slot), UM G V' s H locs → lv_has ls 7 [(0, .ref b), (1, .ref (ga G 18 0)), (2, .ref (ga G 19 0)), (3, .ref (ga G 20 0)), (4, .int i)] → W p l e room_1 s m #[.ref b] below meth c H locs (cells + 1) (slots + 6) Q (F0 m 2008 ls [])) : W p l e room_1 s m #[.ref b] below meth c H locs cells slots Q (F0 m 1896 ls []) := by
  have hx := X.hx
  have hb := X.hb
  unfold fLc_30 at h
  refine lv_aload_n hx hb dL_law_1896 rfl (lv_at hl 1 rfl) ?_
  refine lv_aload_n hx hb dL_law_1897 rfl (lv_at hl 0 rfl) ?_
  refine lv_iload hx hb dL_law_1898 (lv_at hl 4 rfl) ?_
  refine lv_iconst (v := 1) hx hb dL_law_1900 (by decide) ?_
  refine lv_iadd hx hb dL_law_1901 ?_
  obtain ⟨g1, h⟩ := gd_e h
  obtain ⟨x2, e3, h⟩ := lt_e h
  refine va_sld hx hb hX hbl hbA M.2 (inb_e g1) dL_law_1902 ?_
  refine u_topi e3 ?_
  refine lv_aload_n hx hb dL_law_1903 rfl (lv_at hl 3 rfl) ?_
  obtain ⟨x4, V5, e6, h⟩ := bd2_e h
  refine l_cSW X M hl.1 (kL_save hG hlt e6) cl_216 ⟨Nat.le_of_ble_eq_true rfl, Nat.le_of_ble_eq_true rfl⟩ rfl rfl (Nat.le_of_ble_eq_true rfl) hfb dL_law_1904 (fun H locs M => ?_)
  refine lv_istore (lv' := [(5, .int x4), (0, .ref b), (1, .ref (ga G 18 0)), (2, .ref (ga G 19 0)), (3, .ref (ga G 20 0)), (4, .int i)]) hx hb dL_law_1907 hl (by decide) rfl (fun ls hl => ?_)
  refine lv_aload_n hx hb dL_law_1909 rfl (lv_at hl 3 rfl) ?_
  refine lv_aload_n hx hb dL_law_1910 rfl (lv_at hl 1 rfl) ?_
  refine lv_iload hx hb dL_law_1911 (lv_at hl 5 rfl) ?_
  refine lv_iconst (v := 1) hx hb dL_law_1913 (by decide) ?_
  refine lv_iadd hx hb dL_law_1914 ?_
  obtain ⟨x7, e8, h⟩ := lt_e h
  refine va_sld hx hb hX hbl hbA M.2 (inb_e g1) dL_law_1915 ?_
  refine u_topi e8 ?_
  obtain ⟨x10, S11, e9, h⟩ := bd2_e h
  have M := um_in 19 M
  refine u_cVi X M hl.1 (kX12_save hG.2.2.1 e9) cw_L_218 ⟨Nat.le_of_ble_eq_true rfl, Nat.le_of_ble_eq_true rfl⟩ (rc_X12 X M hG.2.2.1) rfl rfl (Nat.le_of_ble_eq_true rfl) hfb dL_law_1916 (fun H locs M n12 => ?_)
  obtain ⟨V13, e14, h⟩ := lt_e h
  rw [← e14] at M
  refine lv_istore (lv' := [(6, .int x10), (5, .int x4), (0, .ref b), (1, .ref (ga G 18 0)), (2, .ref (ga G 19 0)), (3, .ref (ga G 20 0)), (4, .int i)]) hx hb dL_law_1919 hl (by decide) rfl (fun ls hl => ?_)
  refine lv_aload_n hx hb dL_law_1921 rfl (lv_at hl 4 rfl) ?_
  obtain ⟨x16, e15, h⟩ := lt_e h
  refine u_cVi X M hl.1 (kX12_thrown hG.2.2.1 rfl e15.symm) cw_L_115 ⟨Nat.le_of_ble_eq_true rfl, Nat.le_of_ble_eq_true rfl⟩ (rc_X12 X M hG.2.2.1) rfl rfl (Nat.le_of_ble_eq_true rfl) hfb dL_law_1922 (fun H locs M n17 => ?_)
  refine lv_iload hx hb dL_law_1925 (lv_at hl 1 rfl) ?_
  refine lv_icmp_eq (tgt := 1932) hx hb dL_law_1927 (by decide) (fun c18 => ?_) (fun c18 => ?_)
  · have h := it_t h c18
    refine lv_iload hx hb dL_law_1932 (lv_at hl 1 rfl) ?_
    refine lv_if_ne (tgt := 1949) hx hb dL_law_1934 (by decide) (fun c19 => ?_) (fun c19 => ?_)
    · have h := it_f h c19
      refine lv_goto (tgt := 2008) hx hb dL_law_1949 (by decide) ?_
      exact kk H locs ls (Option.some.inj h ▸ M) (lv_sub hl [2, 3, 4, 5, 6] rfl)
    · have h := it_t h c19
      refine lv_aload_n hx hb dL_law_1937 rfl (lv_at hl 5 rfl) ?_
      refine lv_iconst (v := 0) hx hb dL_law_1938 (by decide) ?_
      obtain ⟨x20, e21, h⟩ := lt_e h
      refine u_lald X M hG.2.2.2.1 e21 dL_law_1939 ?_
      refine lv_iload hx hb dL_law_1940 (lv_at hl 0 rfl) ?_
      refine lv_i2l hx hb dL_law_1942 rfl ?_
      refine W.lcmp hx hb dL_law_1943 ?_
      refine lv_if_eq (tgt := 1949) hx hb dL_law_1944 (by decide) (fun c22 => ?_) (fun c22 => ?_)
      · have h := it_t h c22
        refine lv_goto (tgt := 2008) hx hb dL_law_1949 (by decide) ?_
        exact kk H locs ls (Option.some.inj h ▸ M) (lv_sub hl [2, 3, 4, 5, 6] rfl)
      · have h := it_f h c22
        refine lv_iconst (v := 0) hx hb dL_law_1947 (by decide) ?_
        cases h
  · have h := it_f h c18
    refine lv_iconst (v := 0) hx hb dL_law_1930 (by decide) ?_
    cases h
def fLc_31 (xs : Nat → Int32) (L : Nat) (V : uV) (i : Int32) : Option uV :=
  gd (inb (i + 1) L) <|
  lt_ (xs ((i + 1) : Int32).toNatClampNeg) fun x2 =>
  bd2 (fL_restore V x2) fun x4 V5 =>
  lt_ (xs ((i + 1) : Int32).toNatClampNeg) fun x7 =>
  bd2 (fX12_restore (V5 19) x7) fun x10 S11 =>
  lt_ (va_up V5 19 S11) fun V13 =>
  lt_ (fX12_thrown (V13 19)) fun x16 =>
  if x16 = x4 then
    if x4 = 0 then
      lt_ ((V13 20 0 0).toInt64) fun x20 =>
      if (lg_cmp x20 ((x10 : Int32).toInt64)) = 0 then
        some V13
      else
        none
    else
      some V13
  else
    none
set_option maxHeartbeats 4000000 in
set_option maxRecDepth 20000 in
theorem kLc_31 {l : Launch} {G : UG} (hG : uAll G) (hlt : l.stackTraces = false) {b L : Nat} {xs : Nat → Int32} {V V' : uV} {i : Int32} (h : fLc_31 xs L V i = some V') {p : Program} {e : Env} {s : State} {m : MethodId} {below : List Frame} {meth : Method} {c : Code} (X : UC p s m #[.ref b] meth c code 7 RL G) (hX : va_X b L xs s s.heap) (hbl : b < s.heap.size) (hbA : ¬ uA G b) {Q : State → Prop} {H : Heap} {locs : List Loc} {ls : Array Slot} {cells slots : Nat} (hfa : cells ≤ room_1.cells ∧ slots ≤ room_1.slots) (hfb : cells + 1 ≤ room_1.cells ∧ slots + 6 ≤ room_1.slots) (M : UM G V s H locs) (hl : lv_has ls 7 [(0, .ref b), (1, .ref (ga G 18 0)), (2, .ref (ga G 19 0)), (3, .ref (ga G 20 0)), (4, .int i)])
    (kk : ∀ (H : Heap) (locs : List Loc) (ls : Array Slot), UM G V' s H locs → lv_has ls 7 [(0, .ref b), (1, .ref (ga G 18 0)), (2, .ref (ga G 19 0)), (3, .ref (ga G 20 0)), (4, .int i)] → W p l e room_1 s m #[.ref b] below meth c H locs (cells + 1) (slots + 6) Q (F0 m 2008 ls [])) : W p l e room_1 s m #[.ref b] below meth c H locs cells slots Q (F0 m 1952 ls []) := by
  have hx := X.hx
  have hb := X.hb
  unfold fLc_31 at h
  refine lv_aload_n hx hb dL_law_1952 rfl (lv_at hl 1 rfl) ?_
  refine lv_aload_n hx hb dL_law_1953 rfl (lv_at hl 0 rfl) ?_
  refine lv_iload hx hb dL_law_1954 (lv_at hl 4 rfl) ?_
  refine lv_iconst (v := 1) hx hb dL_law_1956 (by decide) ?_
  refine lv_iadd hx hb dL_law_1957 ?_
  obtain ⟨g1, h⟩ := gd_e h
  obtain ⟨x2, e3, h⟩ := lt_e h
  refine va_sld hx hb hX hbl hbA M.2 (inb_e g1) dL_law_1958 ?_
  refine u_topi e3 ?_
  refine lv_aload_n hx hb dL_law_1959 rfl (lv_at hl 3 rfl) ?_
  obtain ⟨x4, V5, e6, h⟩ := bd2_e h
  refine l_cSW X M hl.1 (kL_restore hG hlt e6) cl_219 ⟨Nat.le_of_ble_eq_true rfl, Nat.le_of_ble_eq_true rfl⟩ rfl rfl (Nat.le_of_ble_eq_true rfl) hfb dL_law_1960 (fun H locs M => ?_)
  refine lv_istore (lv' := [(5, .int x4), (0, .ref b), (1, .ref (ga G 18 0)), (2, .ref (ga G 19 0)), (3, .ref (ga G 20 0)), (4, .int i)]) hx hb dL_law_1963 hl (by decide) rfl (fun ls hl => ?_)
  refine lv_aload_n hx hb dL_law_1965 rfl (lv_at hl 3 rfl) ?_
  refine lv_aload_n hx hb dL_law_1966 rfl (lv_at hl 1 rfl) ?_
  refine lv_iload hx hb dL_law_1967 (lv_at hl 5 rfl) ?_
  refine lv_iconst (v := 1) hx hb dL_law_1969 (by decide) ?_
  refine lv_iadd hx hb dL_law_1970 ?_
  obtain ⟨x7, e8, h⟩ := lt_e h
  refine va_sld hx hb hX hbl hbA M.2 (inb_e g1) dL_law_1971 ?_
  refine u_topi e8 ?_
  obtain ⟨x10, S11, e9, h⟩ := bd2_e h
  have M := um_in 19 M
  refine u_cVi X M hl.1 (kX12_restore hG.2.2.1 e9) cw_L_221 ⟨Nat.le_of_ble_eq_true rfl, Nat.le_of_ble_eq_true rfl⟩ (rc_X12 X M hG.2.2.1) rfl rfl (Nat.le_of_ble_eq_true rfl) hfb dL_law_1972 (fun H locs M n12 => ?_)
  obtain ⟨V13, e14, h⟩ := lt_e h
  rw [← e14] at M
  refine lv_istore (lv' := [(6, .int x10), (5, .int x4), (0, .ref b), (1, .ref (ga G 18 0)), (2, .ref (ga G 19 0)), (3, .ref (ga G 20 0)), (4, .int i)]) hx hb dL_law_1975 hl (by decide) rfl (fun ls hl => ?_)
  refine lv_aload_n hx hb dL_law_1977 rfl (lv_at hl 4 rfl) ?_
  obtain ⟨x16, e15, h⟩ := lt_e h
  refine u_cVi X M hl.1 (kX12_thrown hG.2.2.1 rfl e15.symm) cw_L_115 ⟨Nat.le_of_ble_eq_true rfl, Nat.le_of_ble_eq_true rfl⟩ (rc_X12 X M hG.2.2.1) rfl rfl (Nat.le_of_ble_eq_true rfl) hfb dL_law_1978 (fun H locs M n17 => ?_)
  refine lv_iload hx hb dL_law_1981 (lv_at hl 1 rfl) ?_
  refine lv_icmp_eq (tgt := 1988) hx hb dL_law_1983 (by decide) (fun c18 => ?_) (fun c18 => ?_)
  · have h := it_t h c18
    refine lv_iload hx hb dL_law_1988 (lv_at hl 1 rfl) ?_
    refine lv_if_ne (tgt := 2005) hx hb dL_law_1990 (by decide) (fun c19 => ?_) (fun c19 => ?_)
    · have h := it_f h c19
      refine lv_goto (tgt := 2008) hx hb dL_law_2005 (by decide) ?_
      exact kk H locs ls (Option.some.inj h ▸ M) (lv_sub hl [2, 3, 4, 5, 6] rfl)
    · have h := it_t h c19
      refine lv_aload_n hx hb dL_law_1993 rfl (lv_at hl 5 rfl) ?_
      refine lv_iconst (v := 0) hx hb dL_law_1994 (by decide) ?_
      obtain ⟨x20, e21, h⟩ := lt_e h
      refine u_lald X M hG.2.2.2.1 e21 dL_law_1995 ?_
      refine lv_iload hx hb dL_law_1996 (lv_at hl 0 rfl) ?_
      refine lv_i2l hx hb dL_law_1998 rfl ?_
      refine W.lcmp hx hb dL_law_1999 ?_
      refine lv_if_eq (tgt := 2005) hx hb dL_law_2000 (by decide) (fun c22 => ?_) (fun c22 => ?_)
      · have h := it_t h c22
        refine lv_goto (tgt := 2008) hx hb dL_law_2005 (by decide) ?_
        exact kk H locs ls (Option.some.inj h ▸ M) (lv_sub hl [2, 3, 4, 5, 6] rfl)
      · have h := it_f h c22
        refine lv_iconst (v := 0) hx hb dL_law_2003 (by decide) ?_
        cases h
  · have h := it_f h c18
    refine lv_iconst (v := 0) hx hb dL_law_1986 (by decide) ?_
    cases h
