
/-! the law's call(): what it does by its first number -/
def uCH (own : String) (index : Nat) (y : MethodName) (bytes : ByteArray) (ml : Nat) (hh : List (Nat × Nat × Nat × Nat)) (n : Nat) : Prop :=
  (Cond.methodLink own index y) ∈ gtbl ∧ (Cond.static y) ∈ gtbl ∧ (Cond.initialized y.cls) ∈ gtbl ∧ (Cond.codeWith y bytes ml (some .int) hh) ∈ gtbl ∧ (y.cls ≠ "java/lang/invoke/MethodHandle" ∧ y.cls ≠ "java/lang/invoke/VarHandle" ∧ (parseMethodDescriptor y.desc).map (fun d => d.parameters.length) = some n)
/-- a method that answers an int, and may make cells -/
def uCi (l : Launch) (g : UG) (y : MethodName) (bytes : ByteArray) (ml : Nat) (ty : FieldType) (fr mc ms lo : Nat) (As : List Value) (V : uV) (r : Int32) (V' : uV) : Prop :=
  Met l y (.code y bytes ml (some ty) :: gtbl) (nR fr mc ms lo) (va_Pc As (uPre g V)) (uQi g ty r V') mc ms (uA g)
theorem uCi_of {l : Launch} {g : UG} {y : MethodName} {bytes : ByteArray} {ml : Nat} {ty : FieldType} {fr mc ms lo : Nat} {As : List Value} {V : uV} {r : Int32} {V' : uV} (hy : plainName y.cls = true) (hlen : (lg_sl As).length ≤ ml)
    (body : ∀ (p : Program) (e : Env) (s : State) (m : MethodId) (args : Array Value) (below : List Frame) (meth : Method) (c : Code) (ls : Array Slot), UC p s m args meth c bytes ml y.cls g → meth.sig.returnType = some ty → lv_has ls ml (lv_args 0 As) → UM g V s s.heap [] →
      W p l e (nR fr mc ms lo) s m args below meth c s.heap [] 0 0 (MQ below (uQi g ty r V') args s mc ms (uA g)) (F0 m 0 ls [])) : uCi l g y bytes ml ty fr mc ms lo As V r V' := by
  refine Met.ofW (cc := bytes) (maxL := ml) (ret := some ty) hy rfl ?_
  intro p e s m args below meth c s₁ B hml hv
  obtain ⟨rfl, hU, hK, hX⟩ := hv
  have hts := atoms_spec (ws := .code y bytes ml (some ty) :: gtbl) B.pre
  have hl := lv_entry As (n := ml) hlen
  rw [lg_entry_eq]
  exact body p e s m As.toArray below meth c _ ⟨⟨B.exec, B.bytes, hml, findClass_of_methodNamed B.named, fun w h => hts w (List.mem_cons_of_mem _ h)⟩, hK, hX, B.notSynchronized⟩ B.returns hl ⟨hU, va_S.rf⟩
section LAWROWS
variable {p : Program} {l : Launch} {e : Env} {R : Room} {s : State} {m : MethodId} {args : Array Value} {below : List Frame} {meth : Method} {c : Code} {H : Heap} {locs : List Loc} {cells slots : Nat} {Q : State → Prop}
variable {cc : ByteArray} {pc nL : Nat} {ls : Array Slot} {rest : List Value} {own : String} {g : UG} {V V' : uV}
theorem l_hw {y : MethodName} {bytes : ByteArray} {ml index fr lo n : Nat} {hh : List (Nat × Nat × Nat × Nat)} (X : UC p s m args meth c cc nL own g) (hC : uCH own index y bytes ml hh n) (hR : fr + 1 ≤ R.frames ∧ 8 + (ml + 11) + lo ≤ R.locals) : vx_CSW R s args own index y bytes ml (some .int) hh (.codeWith y bytes ml (some .int) hh :: gtbl) (nR fr 1 6 lo) 1 6 n := by
  obtain ⟨g1, g2, g4, g5, g7⟩ := hC
  refine ⟨⟨rfl, rfl, hR.1, hR.2, pay_in (big := gtbl) (fun w h => X.hts h) (gt_cons g5 gt_good (fun _ h => h)), List.mem_cons_self⟩, X.hts g5, X.hts g4, ⟨g7.1, g7.2.1⟩, fun sig h => ?_, X.hts g1, X.hts g2⟩
  have h2 := g7.2.2
  rw [h] at h2
  exact (Option.some.inj h2).symm
theorem l_cSW {y : MethodName} {bytes : ByteArray} {ml index fr lo n : Nat} {hh : List (Nat × Nat × Nat × Nat)} {As st0 : List Value} {r : Int32} (X : UC p s m args meth c cc nL own g) (M : UM g V s H locs) (hl : ls.size = nL) (hM : uHi l g y bytes ml hh fr lo As V r V') (hC : uCH own index y bytes ml hh n) (hR : fr + 1 ≤ R.frames ∧ 8 + (ml + 11) + lo ≤ R.locals) (hn : As.length = n) (hst : st0 = As.reverse ++ rest) (hw : (rest.map fun v => v.category).sum ≤ 8) (hf : cells + 1 ≤ R.cells ∧ slots + 6 ≤ R.slots) (hdg : decode cc pc = .ok (.invokestatic index, 3))
    (kk : ∀ (H1 : Heap) (locs1 : List Loc), UM g V' s H1 locs1 → W p l e R s m args below meth c H1 locs1 (cells + 1) (slots + 6) Q (F0 m (pc + 3) ls (.int r :: rest))) : W p l e R s m args below meth c H locs cells slots Q (F0 m pc ls st0) := by
  refine va_calli (vx_runSW (As := As) (rest := rest) X.1 hM (l_hw X hC hR) ⟨u_blind, fun U hU hW => ⟨rfl, u_pre X M hU hW⟩⟩ rfl hn hl hst (lv_room hw) hdg hf) M.2 (fun q _ h => h) (fun q h => h) (fun r1 u t H1 locs1 ht hvm hw hB hz1 hk1 hS => ?_)
  obtain ⟨rfl, -⟩ := hw
  rw [ht] at hB
  exact kk H1 locs1 ⟨hB, hS⟩
end LAWROWS
theorem dL_call_0 : decode cL_call 0 = .ok (.iload_n 1, 1) := by decide +kernel
theorem dL_call_1 : decode cL_call 1 = .ok (.tableswitch 276 0 24 #[115, 121, 126, 132, 139, 146, 153, 162, 168, 174, 180, 187, 194, 200, 206, 212, 218, 225, 231, 238, 243, 250, 257, 264, 270], 115) := by decide +kernel
theorem dL_call_116 : decode cL_call 116 = .ok (.aload_n 0, 1) := by decide +kernel
theorem dL_call_117 : decode cL_call 117 = .ok (.iload_n 2, 1) := by decide +kernel
theorem dL_call_118 : decode cL_call 118 = .ok (.invokestatic 108, 3) := by decide +kernel
theorem dL_call_121 : decode cL_call 121 = .ok (.ireturn, 1) := by decide +kernel
theorem dL_call_122 : decode cL_call 122 = .ok (.aload_n 0, 1) := by decide +kernel
theorem dL_call_123 : decode cL_call 123 = .ok (.invokestatic 114, 3) := by decide +kernel
theorem dL_call_126 : decode cL_call 126 = .ok (.ireturn, 1) := by decide +kernel
theorem dL_call_127 : decode cL_call 127 = .ok (.aload_n 0, 1) := by decide +kernel
theorem dL_call_128 : decode cL_call 128 = .ok (.iload_n 2, 1) := by decide +kernel
theorem dL_call_129 : decode cL_call 129 = .ok (.invokestatic 118, 3) := by decide +kernel
theorem dL_call_132 : decode cL_call 132 = .ok (.ireturn, 1) := by decide +kernel
theorem dL_call_133 : decode cL_call 133 = .ok (.aload_n 0, 1) := by decide +kernel
theorem dL_call_134 : decode cL_call 134 = .ok (.iload_n 2, 1) := by decide +kernel
theorem dL_call_135 : decode cL_call 135 = .ok (.iload_n 3, 1) := by decide +kernel
theorem dL_call_136 : decode cL_call 136 = .ok (.invokestatic 121, 3) := by decide +kernel
theorem dL_call_139 : decode cL_call 139 = .ok (.ireturn, 1) := by decide +kernel
theorem dL_call_140 : decode cL_call 140 = .ok (.aload_n 0, 1) := by decide +kernel
theorem dL_call_141 : decode cL_call 141 = .ok (.iload_n 2, 1) := by decide +kernel
theorem dL_call_142 : decode cL_call 142 = .ok (.iload_n 3, 1) := by decide +kernel
theorem dL_call_143 : decode cL_call 143 = .ok (.invokestatic 125, 3) := by decide +kernel
theorem dL_call_146 : decode cL_call 146 = .ok (.ireturn, 1) := by decide +kernel
theorem dL_call_147 : decode cL_call 147 = .ok (.aload_n 0, 1) := by decide +kernel
theorem dL_call_148 : decode cL_call 148 = .ok (.iload_n 2, 1) := by decide +kernel
theorem dL_call_149 : decode cL_call 149 = .ok (.iload_n 3, 1) := by decide +kernel
theorem dL_call_150 : decode cL_call 150 = .ok (.invokestatic 128, 3) := by decide +kernel
theorem dL_call_153 : decode cL_call 153 = .ok (.ireturn, 1) := by decide +kernel
theorem dL_call_154 : decode cL_call 154 = .ok (.aload_n 0, 1) := by decide +kernel
theorem dL_call_155 : decode cL_call 155 = .ok (.iload_n 2, 1) := by decide +kernel
theorem dL_call_156 : decode cL_call 156 = .ok (.iload_n 3, 1) := by decide +kernel
theorem dL_call_157 : decode cL_call 157 = .ok (.iload 4, 2) := by decide +kernel
theorem dL_call_159 : decode cL_call 159 = .ok (.invokestatic 131, 3) := by decide +kernel
theorem dL_call_162 : decode cL_call 162 = .ok (.ireturn, 1) := by decide +kernel
theorem dL_call_163 : decode cL_call 163 = .ok (.aload_n 0, 1) := by decide +kernel
theorem dL_call_164 : decode cL_call 164 = .ok (.iload_n 2, 1) := by decide +kernel
theorem dL_call_165 : decode cL_call 165 = .ok (.invokestatic 135, 3) := by decide +kernel
theorem dL_call_168 : decode cL_call 168 = .ok (.ireturn, 1) := by decide +kernel
theorem dL_call_169 : decode cL_call 169 = .ok (.aload_n 0, 1) := by decide +kernel
theorem dL_call_170 : decode cL_call 170 = .ok (.iload_n 2, 1) := by decide +kernel
theorem dL_call_171 : decode cL_call 171 = .ok (.invokestatic 138, 3) := by decide +kernel
theorem dL_call_174 : decode cL_call 174 = .ok (.ireturn, 1) := by decide +kernel
theorem dL_call_175 : decode cL_call 175 = .ok (.aload_n 0, 1) := by decide +kernel
theorem dL_call_176 : decode cL_call 176 = .ok (.iload_n 2, 1) := by decide +kernel
theorem dL_call_177 : decode cL_call 177 = .ok (.invokestatic 141, 3) := by decide +kernel
theorem dL_call_180 : decode cL_call 180 = .ok (.ireturn, 1) := by decide +kernel
theorem dL_call_181 : decode cL_call 181 = .ok (.aload_n 0, 1) := by decide +kernel
theorem dL_call_182 : decode cL_call 182 = .ok (.iload_n 2, 1) := by decide +kernel
theorem dL_call_183 : decode cL_call 183 = .ok (.iload_n 3, 1) := by decide +kernel
theorem dL_call_184 : decode cL_call 184 = .ok (.invokestatic 144, 3) := by decide +kernel
theorem dL_call_187 : decode cL_call 187 = .ok (.ireturn, 1) := by decide +kernel
theorem dL_call_188 : decode cL_call 188 = .ok (.aload_n 0, 1) := by decide +kernel
theorem dL_call_189 : decode cL_call 189 = .ok (.iload_n 2, 1) := by decide +kernel
theorem dL_call_190 : decode cL_call 190 = .ok (.iload_n 3, 1) := by decide +kernel
theorem dL_call_191 : decode cL_call 191 = .ok (.invokestatic 147, 3) := by decide +kernel
theorem dL_call_194 : decode cL_call 194 = .ok (.ireturn, 1) := by decide +kernel
theorem dL_call_195 : decode cL_call 195 = .ok (.aload_n 0, 1) := by decide +kernel
theorem dL_call_196 : decode cL_call 196 = .ok (.iload_n 2, 1) := by decide +kernel
theorem dL_call_197 : decode cL_call 197 = .ok (.invokestatic 150, 3) := by decide +kernel
theorem dL_call_200 : decode cL_call 200 = .ok (.ireturn, 1) := by decide +kernel
theorem dL_call_201 : decode cL_call 201 = .ok (.aload_n 0, 1) := by decide +kernel
theorem dL_call_202 : decode cL_call 202 = .ok (.iload_n 2, 1) := by decide +kernel
theorem dL_call_203 : decode cL_call 203 = .ok (.invokestatic 153, 3) := by decide +kernel
theorem dL_call_206 : decode cL_call 206 = .ok (.ireturn, 1) := by decide +kernel
theorem dL_call_207 : decode cL_call 207 = .ok (.aload_n 0, 1) := by decide +kernel
theorem dL_call_208 : decode cL_call 208 = .ok (.iload_n 2, 1) := by decide +kernel
theorem dL_call_209 : decode cL_call 209 = .ok (.invokestatic 156, 3) := by decide +kernel
theorem dL_call_212 : decode cL_call 212 = .ok (.ireturn, 1) := by decide +kernel
theorem dL_call_213 : decode cL_call 213 = .ok (.aload_n 0, 1) := by decide +kernel
theorem dL_call_214 : decode cL_call 214 = .ok (.iload_n 2, 1) := by decide +kernel
theorem dL_call_215 : decode cL_call 215 = .ok (.invokestatic 159, 3) := by decide +kernel
theorem dL_call_218 : decode cL_call 218 = .ok (.ireturn, 1) := by decide +kernel
theorem dL_call_219 : decode cL_call 219 = .ok (.aload_n 0, 1) := by decide +kernel
theorem dL_call_220 : decode cL_call 220 = .ok (.iload_n 2, 1) := by decide +kernel
theorem dL_call_221 : decode cL_call 221 = .ok (.iload_n 3, 1) := by decide +kernel
theorem dL_call_222 : decode cL_call 222 = .ok (.invokestatic 162, 3) := by decide +kernel
theorem dL_call_225 : decode cL_call 225 = .ok (.ireturn, 1) := by decide +kernel
theorem dL_call_226 : decode cL_call 226 = .ok (.aload_n 0, 1) := by decide +kernel
theorem dL_call_227 : decode cL_call 227 = .ok (.iload_n 2, 1) := by decide +kernel
theorem dL_call_228 : decode cL_call 228 = .ok (.invokestatic 165, 3) := by decide +kernel
theorem dL_call_231 : decode cL_call 231 = .ok (.ireturn, 1) := by decide +kernel
theorem dL_call_232 : decode cL_call 232 = .ok (.aload_n 0, 1) := by decide +kernel
theorem dL_call_233 : decode cL_call 233 = .ok (.iload_n 2, 1) := by decide +kernel
theorem dL_call_234 : decode cL_call 234 = .ok (.iload_n 3, 1) := by decide +kernel
theorem dL_call_235 : decode cL_call 235 = .ok (.invokestatic 168, 3) := by decide +kernel
theorem dL_call_238 : decode cL_call 238 = .ok (.ireturn, 1) := by decide +kernel
theorem dL_call_239 : decode cL_call 239 = .ok (.aload_n 0, 1) := by decide +kernel
theorem dL_call_240 : decode cL_call 240 = .ok (.invokestatic 171, 3) := by decide +kernel
theorem dL_call_243 : decode cL_call 243 = .ok (.ireturn, 1) := by decide +kernel
theorem dL_call_244 : decode cL_call 244 = .ok (.aload_n 0, 1) := by decide +kernel
theorem dL_call_245 : decode cL_call 245 = .ok (.iload_n 2, 1) := by decide +kernel
theorem dL_call_246 : decode cL_call 246 = .ok (.iload_n 3, 1) := by decide +kernel
theorem dL_call_247 : decode cL_call 247 = .ok (.invokestatic 174, 3) := by decide +kernel
theorem dL_call_250 : decode cL_call 250 = .ok (.ireturn, 1) := by decide +kernel
theorem dL_call_251 : decode cL_call 251 = .ok (.aload_n 0, 1) := by decide +kernel
theorem dL_call_252 : decode cL_call 252 = .ok (.iload_n 2, 1) := by decide +kernel
theorem dL_call_253 : decode cL_call 253 = .ok (.iload_n 3, 1) := by decide +kernel
theorem dL_call_254 : decode cL_call 254 = .ok (.invokestatic 177, 3) := by decide +kernel
theorem dL_call_257 : decode cL_call 257 = .ok (.ireturn, 1) := by decide +kernel
theorem dL_call_258 : decode cL_call 258 = .ok (.aload_n 0, 1) := by decide +kernel
theorem dL_call_259 : decode cL_call 259 = .ok (.iload_n 2, 1) := by decide +kernel
theorem dL_call_260 : decode cL_call 260 = .ok (.iload_n 3, 1) := by decide +kernel
theorem dL_call_261 : decode cL_call 261 = .ok (.invokestatic 180, 3) := by decide +kernel
theorem dL_call_264 : decode cL_call 264 = .ok (.ireturn, 1) := by decide +kernel
theorem dL_call_265 : decode cL_call 265 = .ok (.aload_n 0, 1) := by decide +kernel
theorem dL_call_266 : decode cL_call 266 = .ok (.iload_n 2, 1) := by decide +kernel
theorem dL_call_267 : decode cL_call 267 = .ok (.invokestatic 183, 3) := by decide +kernel
theorem dL_call_270 : decode cL_call 270 = .ok (.ireturn, 1) := by decide +kernel
theorem dL_call_271 : decode cL_call 271 = .ok (.aload_n 0, 1) := by decide +kernel
theorem dL_call_272 : decode cL_call 272 = .ok (.iload_n 2, 1) := by decide +kernel
theorem dL_call_273 : decode cL_call 273 = .ok (.invokestatic 186, 3) := by decide +kernel
theorem dL_call_276 : decode cL_call 276 = .ok (.ireturn, 1) := by decide +kernel
theorem dL_call_277 : decode cL_call 277 = .ok (.aload_n 0, 1) := by decide +kernel
theorem dL_call_278 : decode cL_call 278 = .ok (.iload_n 2, 1) := by decide +kernel
theorem dL_call_279 : decode cL_call 279 = .ok (.invokestatic 189, 3) := by decide +kernel
theorem dL_call_282 : decode cL_call 282 = .ok (.ireturn, 1) := by decide +kernel
theorem cl_108 : uCH RL 108 yL_tryAppend cL_tryAppend 3 [(0, 5, 6, 13), (0, 5, 10, 24)] 2 := ⟨gt_in 300 (by decide +kernel) (by decide +kernel), gt_in 301 (by decide +kernel) (by decide +kernel), gt_in 9 (by decide +kernel) (by decide +kernel), gt_in 302 (by decide +kernel) (by decide +kernel), by decide +kernel⟩
theorem cl_118 : uCH RL 118 yL_tryAbout cL_tryAbout 3 [(0, 5, 6, 13)] 2 := ⟨gt_in 643 (by decide +kernel) (by decide +kernel), gt_in 644 (by decide +kernel) (by decide +kernel), gt_in 9 (by decide +kernel) (by decide +kernel), gt_in 645 (by decide +kernel) (by decide +kernel), by decide +kernel⟩
theorem cl_121 : uCH RL 121 yL_tryCard cL_tryCard 4 [(0, 6, 7, 38), (0, 6, 11, 13)] 3 := ⟨gt_in 666 (by decide +kernel) (by decide +kernel), gt_in 667 (by decide +kernel) (by decide +kernel), gt_in 9 (by decide +kernel) (by decide +kernel), gt_in 668 (by decide +kernel) (by decide +kernel), by decide +kernel⟩
theorem cl_125 : uCH RL 125 yL_tryAccount cL_tryAccount 4 [(0, 6, 7, 38), (0, 6, 11, 13)] 3 := ⟨gt_in 699 (by decide +kernel) (by decide +kernel), gt_in 700 (by decide +kernel) (by decide +kernel), gt_in 9 (by decide +kernel) (by decide +kernel), gt_in 701 (by decide +kernel) (by decide +kernel), by decide +kernel⟩
theorem cl_128 : uCH RL 128 yL_tryGate cL_tryGate 4 [(0, 6, 7, 38), (0, 6, 11, 13)] 3 := ⟨gt_in 715 (by decide +kernel) (by decide +kernel), gt_in 716 (by decide +kernel) (by decide +kernel), gt_in 9 (by decide +kernel) (by decide +kernel), gt_in 717 (by decide +kernel) (by decide +kernel), by decide +kernel⟩
theorem cl_131 : uCH RL 131 yL_tryLogged cL_tryLogged 5 [(0, 7, 8, 38), (0, 7, 13, 13)] 4 := ⟨gt_in 731 (by decide +kernel) (by decide +kernel), gt_in 732 (by decide +kernel) (by decide +kernel), gt_in 9 (by decide +kernel) (by decide +kernel), gt_in 733 (by decide +kernel) (by decide +kernel), by decide +kernel⟩
theorem cl_135 : uCH RL 135 yL_trySetting cL_trySetting 3 [(0, 5, 6, 13)] 2 := ⟨gt_in 743 (by decide +kernel) (by decide +kernel), gt_in 744 (by decide +kernel) (by decide +kernel), gt_in 9 (by decide +kernel) (by decide +kernel), gt_in 745 (by decide +kernel) (by decide +kernel), by decide +kernel⟩
theorem cl_138 : uCH RL 138 yL_tryIssue cL_tryIssue 3 [(0, 5, 6, 13), (0, 5, 10, 24)] 2 := ⟨gt_in 751 (by decide +kernel) (by decide +kernel), gt_in 752 (by decide +kernel) (by decide +kernel), gt_in 9 (by decide +kernel) (by decide +kernel), gt_in 753 (by decide +kernel) (by decide +kernel), by decide +kernel⟩
theorem cl_141 : uCH RL 141 yL_tryCopy cL_tryCopy 3 [(0, 5, 6, 38), (0, 5, 10, 24)] 2 := ⟨gt_in 797 (by decide +kernel) (by decide +kernel), gt_in 798 (by decide +kernel) (by decide +kernel), gt_in 9 (by decide +kernel) (by decide +kernel), gt_in 799 (by decide +kernel) (by decide +kernel), by decide +kernel⟩
theorem cl_144 : uCH RL 144 yL_tryRide cL_tryRide 4 [(0, 6, 7, 38)] 3 := ⟨gt_in 806 (by decide +kernel) (by decide +kernel), gt_in 807 (by decide +kernel) (by decide +kernel), gt_in 9 (by decide +kernel) (by decide +kernel), gt_in 808 (by decide +kernel) (by decide +kernel), by decide +kernel⟩
theorem cl_147 : uCH RL 147 yL_tryPay cL_tryPay 4 [(0, 6, 7, 38), (0, 6, 11, 13)] 3 := ⟨gt_in 814 (by decide +kernel) (by decide +kernel), gt_in 815 (by decide +kernel) (by decide +kernel), gt_in 9 (by decide +kernel) (by decide +kernel), gt_in 816 (by decide +kernel) (by decide +kernel), by decide +kernel⟩
theorem cl_150 : uCH RL 150 yL_tryPardon cL_tryPardon 3 [(0, 5, 6, 38), (0, 5, 10, 24)] 2 := ⟨gt_in 822 (by decide +kernel) (by decide +kernel), gt_in 823 (by decide +kernel) (by decide +kernel), gt_in 9 (by decide +kernel) (by decide +kernel), gt_in 824 (by decide +kernel) (by decide +kernel), by decide +kernel⟩
theorem cl_153 : uCH RL 153 yL_tryDown cL_tryDown 3 [(0, 5, 6, 38), (0, 5, 10, 24)] 2 := ⟨gt_in 837 (by decide +kernel) (by decide +kernel), gt_in 838 (by decide +kernel) (by decide +kernel), gt_in 9 (by decide +kernel) (by decide +kernel), gt_in 839 (by decide +kernel) (by decide +kernel), by decide +kernel⟩
theorem cl_156 : uCH RL 156 yL_tryUp cL_tryUp 3 [(0, 5, 6, 38), (0, 5, 10, 24)] 2 := ⟨gt_in 846 (by decide +kernel) (by decide +kernel), gt_in 847 (by decide +kernel) (by decide +kernel), gt_in 9 (by decide +kernel) (by decide +kernel), gt_in 848 (by decide +kernel) (by decide +kernel), by decide +kernel⟩
theorem cl_159 : uCH RL 159 yL_tryOpen cL_tryOpen 3 [(0, 5, 6, 38)] 2 := ⟨gt_in 854 (by decide +kernel) (by decide +kernel), gt_in 855 (by decide +kernel) (by decide +kernel), gt_in 9 (by decide +kernel) (by decide +kernel), gt_in 856 (by decide +kernel) (by decide +kernel), by decide +kernel⟩
theorem cl_162 : uCH RL 162 yL_tryFare cL_tryFare 4 [(0, 6, 7, 38), (0, 6, 11, 13)] 3 := ⟨gt_in 862 (by decide +kernel) (by decide +kernel), gt_in 863 (by decide +kernel) (by decide +kernel), gt_in 9 (by decide +kernel) (by decide +kernel), gt_in 864 (by decide +kernel) (by decide +kernel), by decide +kernel⟩
theorem cl_165 : uCH RL 165 yL_tryRun cL_tryRun 3 [(0, 5, 6, 13)] 2 := ⟨gt_in 870 (by decide +kernel) (by decide +kernel), gt_in 871 (by decide +kernel) (by decide +kernel), gt_in 9 (by decide +kernel) (by decide +kernel), gt_in 872 (by decide +kernel) (by decide +kernel), by decide +kernel⟩
theorem cl_168 : uCH RL 168 yL_tryLay cL_tryLay 4 [(0, 6, 7, 13)] 3 := ⟨gt_in 877 (by decide +kernel) (by decide +kernel), gt_in 878 (by decide +kernel) (by decide +kernel), gt_in 9 (by decide +kernel) (by decide +kernel), gt_in 879 (by decide +kernel) (by decide +kernel), by decide +kernel⟩
theorem cl_171 : uCH RL 171 yL_tryUndo cL_tryUndo 2 [(0, 4, 5, 24)] 1 := ⟨gt_in 887 (by decide +kernel) (by decide +kernel), gt_in 888 (by decide +kernel) (by decide +kernel), gt_in 9 (by decide +kernel) (by decide +kernel), gt_in 889 (by decide +kernel) (by decide +kernel), by decide +kernel⟩
theorem cl_174 : uCH RL 174 yL_tryWould cL_tryWould 4 [(0, 6, 7, 38)] 3 := ⟨gt_in 902 (by decide +kernel) (by decide +kernel), gt_in 903 (by decide +kernel) (by decide +kernel), gt_in 9 (by decide +kernel) (by decide +kernel), gt_in 904 (by decide +kernel) (by decide +kernel), by decide +kernel⟩
theorem cl_177 : uCH RL 177 yL_tryRides cL_tryRides 4 [(0, 6, 7, 38)] 3 := ⟨gt_in 910 (by decide +kernel) (by decide +kernel), gt_in 911 (by decide +kernel) (by decide +kernel), gt_in 9 (by decide +kernel) (by decide +kernel), gt_in 912 (by decide +kernel) (by decide +kernel), by decide +kernel⟩
theorem cl_180 : uCH RL 180 yL_tryBrings cL_tryBrings 4 [(0, 6, 7, 38), (0, 6, 11, 13)] 3 := ⟨gt_in 918 (by decide +kernel) (by decide +kernel), gt_in 919 (by decide +kernel) (by decide +kernel), gt_in 9 (by decide +kernel) (by decide +kernel), gt_in 920 (by decide +kernel) (by decide +kernel), by decide +kernel⟩
theorem cl_183 : uCH RL 183 yL_tryOwes cL_tryOwes 3 [(0, 5, 6, 38)] 2 := ⟨gt_in 931 (by decide +kernel) (by decide +kernel), gt_in 932 (by decide +kernel) (by decide +kernel), gt_in 9 (by decide +kernel) (by decide +kernel), gt_in 933 (by decide +kernel) (by decide +kernel), by decide +kernel⟩
theorem cl_186 : uCH RL 186 yL_tryKeep cL_tryKeep 3 [(0, 5, 6, 38)] 2 := ⟨gt_in 939 (by decide +kernel) (by decide +kernel), gt_in 940 (by decide +kernel) (by decide +kernel), gt_in 9 (by decide +kernel) (by decide +kernel), gt_in 941 (by decide +kernel) (by decide +kernel), by decide +kernel⟩
theorem cl_189 : uCH RL 189 yL_tryBack cL_tryBack 3 [(0, 5, 6, 38), (0, 5, 10, 24)] 2 := ⟨gt_in 955 (by decide +kernel) (by decide +kernel), gt_in 956 (by decide +kernel) (by decide +kernel), gt_in 9 (by decide +kernel) (by decide +kernel), gt_in 957 (by decide +kernel) (by decide +kernel), by decide +kernel⟩
def fL_call (V : uV) (a1 : Int32) (a2 : Int32) (a3 : Int32) (a4 : Int32) : Option (Int32 × uV) :=
  if a1 = 0 then fL_tryAppend V a2 else
  if a1 = 1 then none else
  if a1 = 2 then fL_tryAbout V a2 else
  if a1 = 3 then fL_tryCard V a2 a3 else
  if a1 = 4 then fL_tryAccount V a2 a3 else
  if a1 = 5 then fL_tryGate V a2 a3 else
  if a1 = 6 then fL_tryLogged V a2 a3 a4 else
  if a1 = 7 then fL_trySetting V a2 else
  if a1 = 8 then fL_tryIssue V a2 else
  if a1 = 9 then fL_tryCopy V a2 else
  if a1 = 10 then fL_tryRide V a2 a3 else
  if a1 = 11 then fL_tryPay V a2 a3 else
  if a1 = 12 then fL_tryPardon V a2 else
  if a1 = 13 then fL_tryDown V a2 else
  if a1 = 14 then fL_tryUp V a2 else
  if a1 = 15 then fL_tryOpen V a2 else
  if a1 = 16 then fL_tryFare V a2 a3 else
  if a1 = 17 then fL_tryRun V a2 else
  if a1 = 18 then fL_tryLay V a2 a3 else
  if a1 = 19 then fL_tryUndo V  else
  if a1 = 20 then fL_tryWould V a2 a3 else
  if a1 = 21 then fL_tryRides V a2 a3 else
  if a1 = 22 then fL_tryBrings V a2 a3 else
  if a1 = 23 then fL_tryOwes V a2 else
  if a1 = 24 then fL_tryKeep V a2 else
  fL_tryBack V a2
set_option maxHeartbeats 8000000 in
set_option maxRecDepth 20000 in
theorem kL_call {l : Launch} {G : UG} (hG : uAll G) (hN : uNo G) (hlt : l.stackTraces = false) {V V' : uV} {a1 a2 a3 a4 r : Int32} (h : fL_call V a1 a2 a3 a4 = some (r, V')) : uCi l G yL_call cL_call 5 .int 10 1 6 190 [.ref (ga G 18 0), .int a1, .int a2, .int a3, .int a4] V r V' := by
  refine uCi_of rfl (Nat.le_of_ble_eq_true rfl) (fun p e s m args below meth c ls X hret hl M => ?_)
  have hl : lv_has ls 5 [(0, .ref (ga G 18 0)), (1, .int a1), (2, .int a2), (3, .int a3), (4, .int a4)] := hl
  have hx := X.hx
  have hb := X.hb
  unfold fL_call at h
  refine lv_iload_n hx hb dL_call_0 rfl (lv_at hl 1 rfl) ?_
  by_cases c0 : a1 = 0
  · have h := it_t h c0
    refine lv_tableIn (off := 115) (tgt := 116) hx hb dL_call_1 (by rw [c0]; decide) (by rw [c0]; decide) (by rw [c0]; rfl) (by decide) ?_
    refine lv_aload_n hx hb dL_call_116 rfl (lv_at hl 0 rfl) ?_
    refine lv_iload_n hx hb dL_call_117 rfl (lv_at hl 2 rfl) ?_
    refine l_cSW X M hl.1 (kL_tryAppend hG hN hlt h) cl_108 ⟨Nat.le_of_ble_eq_true rfl, Nat.le_of_ble_eq_true rfl⟩ rfl rfl (Nat.le_of_ble_eq_true rfl) ⟨Nat.le_of_ble_eq_true rfl, Nat.le_of_ble_eq_true rfl⟩ dL_call_118 (fun H locs M => ?_)
    exact u_iret X hret M rfl rfl rfl dL_call_121
  · have h := it_f h c0
    by_cases c1 : a1 = 1
    · have h := it_t h c1
      cases h
    · have h := it_f h c1
      by_cases c2 : a1 = 2
      · have h := it_t h c2
        refine lv_tableIn (off := 126) (tgt := 127) hx hb dL_call_1 (by rw [c2]; decide) (by rw [c2]; decide) (by rw [c2]; rfl) (by decide) ?_
        refine lv_aload_n hx hb dL_call_127 rfl (lv_at hl 0 rfl) ?_
        refine lv_iload_n hx hb dL_call_128 rfl (lv_at hl 2 rfl) ?_
        refine l_cSW X M hl.1 (kL_tryAbout hG hN hlt h) cl_118 ⟨Nat.le_of_ble_eq_true rfl, Nat.le_of_ble_eq_true rfl⟩ rfl rfl (Nat.le_of_ble_eq_true rfl) ⟨Nat.le_of_ble_eq_true rfl, Nat.le_of_ble_eq_true rfl⟩ dL_call_129 (fun H locs M => ?_)
        exact u_iret X hret M rfl rfl rfl dL_call_132
      · have h := it_f h c2
        by_cases c3 : a1 = 3
        · have h := it_t h c3
          refine lv_tableIn (off := 132) (tgt := 133) hx hb dL_call_1 (by rw [c3]; decide) (by rw [c3]; decide) (by rw [c3]; rfl) (by decide) ?_
          refine lv_aload_n hx hb dL_call_133 rfl (lv_at hl 0 rfl) ?_
          refine lv_iload_n hx hb dL_call_134 rfl (lv_at hl 2 rfl) ?_
          refine lv_iload_n hx hb dL_call_135 rfl (lv_at hl 3 rfl) ?_
          refine l_cSW X M hl.1 (kL_tryCard hG hN hlt h) cl_121 ⟨Nat.le_of_ble_eq_true rfl, Nat.le_of_ble_eq_true rfl⟩ rfl rfl (Nat.le_of_ble_eq_true rfl) ⟨Nat.le_of_ble_eq_true rfl, Nat.le_of_ble_eq_true rfl⟩ dL_call_136 (fun H locs M => ?_)
          exact u_iret X hret M rfl rfl rfl dL_call_139
        · have h := it_f h c3
          by_cases c4 : a1 = 4
          · have h := it_t h c4
            refine lv_tableIn (off := 139) (tgt := 140) hx hb dL_call_1 (by rw [c4]; decide) (by rw [c4]; decide) (by rw [c4]; rfl) (by decide) ?_
            refine lv_aload_n hx hb dL_call_140 rfl (lv_at hl 0 rfl) ?_
            refine lv_iload_n hx hb dL_call_141 rfl (lv_at hl 2 rfl) ?_
            refine lv_iload_n hx hb dL_call_142 rfl (lv_at hl 3 rfl) ?_
            refine l_cSW X M hl.1 (kL_tryAccount hG hN hlt h) cl_125 ⟨Nat.le_of_ble_eq_true rfl, Nat.le_of_ble_eq_true rfl⟩ rfl rfl (Nat.le_of_ble_eq_true rfl) ⟨Nat.le_of_ble_eq_true rfl, Nat.le_of_ble_eq_true rfl⟩ dL_call_143 (fun H locs M => ?_)
            exact u_iret X hret M rfl rfl rfl dL_call_146
          · have h := it_f h c4
            by_cases c5 : a1 = 5
            · have h := it_t h c5
              refine lv_tableIn (off := 146) (tgt := 147) hx hb dL_call_1 (by rw [c5]; decide) (by rw [c5]; decide) (by rw [c5]; rfl) (by decide) ?_
              refine lv_aload_n hx hb dL_call_147 rfl (lv_at hl 0 rfl) ?_
              refine lv_iload_n hx hb dL_call_148 rfl (lv_at hl 2 rfl) ?_
              refine lv_iload_n hx hb dL_call_149 rfl (lv_at hl 3 rfl) ?_
              refine l_cSW X M hl.1 (kL_tryGate hG hN hlt h) cl_128 ⟨Nat.le_of_ble_eq_true rfl, Nat.le_of_ble_eq_true rfl⟩ rfl rfl (Nat.le_of_ble_eq_true rfl) ⟨Nat.le_of_ble_eq_true rfl, Nat.le_of_ble_eq_true rfl⟩ dL_call_150 (fun H locs M => ?_)
              exact u_iret X hret M rfl rfl rfl dL_call_153
            · have h := it_f h c5
              by_cases c6 : a1 = 6
              · have h := it_t h c6
                refine lv_tableIn (off := 153) (tgt := 154) hx hb dL_call_1 (by rw [c6]; decide) (by rw [c6]; decide) (by rw [c6]; rfl) (by decide) ?_
                refine lv_aload_n hx hb dL_call_154 rfl (lv_at hl 0 rfl) ?_
                refine lv_iload_n hx hb dL_call_155 rfl (lv_at hl 2 rfl) ?_
                refine lv_iload_n hx hb dL_call_156 rfl (lv_at hl 3 rfl) ?_
                refine lv_iload hx hb dL_call_157 (lv_at hl 4 rfl) ?_
                refine l_cSW X M hl.1 (kL_tryLogged hG hN hlt h) cl_131 ⟨Nat.le_of_ble_eq_true rfl, Nat.le_of_ble_eq_true rfl⟩ rfl rfl (Nat.le_of_ble_eq_true rfl) ⟨Nat.le_of_ble_eq_true rfl, Nat.le_of_ble_eq_true rfl⟩ dL_call_159 (fun H locs M => ?_)
                exact u_iret X hret M rfl rfl rfl dL_call_162
              · have h := it_f h c6
                by_cases c7 : a1 = 7
                · have h := it_t h c7
                  refine lv_tableIn (off := 162) (tgt := 163) hx hb dL_call_1 (by rw [c7]; decide) (by rw [c7]; decide) (by rw [c7]; rfl) (by decide) ?_
                  refine lv_aload_n hx hb dL_call_163 rfl (lv_at hl 0 rfl) ?_
                  refine lv_iload_n hx hb dL_call_164 rfl (lv_at hl 2 rfl) ?_
                  refine l_cSW X M hl.1 (kL_trySetting hG hN hlt h) cl_135 ⟨Nat.le_of_ble_eq_true rfl, Nat.le_of_ble_eq_true rfl⟩ rfl rfl (Nat.le_of_ble_eq_true rfl) ⟨Nat.le_of_ble_eq_true rfl, Nat.le_of_ble_eq_true rfl⟩ dL_call_165 (fun H locs M => ?_)
                  exact u_iret X hret M rfl rfl rfl dL_call_168
                · have h := it_f h c7
                  by_cases c8 : a1 = 8
                  · have h := it_t h c8
                    refine lv_tableIn (off := 168) (tgt := 169) hx hb dL_call_1 (by rw [c8]; decide) (by rw [c8]; decide) (by rw [c8]; rfl) (by decide) ?_
                    refine lv_aload_n hx hb dL_call_169 rfl (lv_at hl 0 rfl) ?_
                    refine lv_iload_n hx hb dL_call_170 rfl (lv_at hl 2 rfl) ?_
                    refine l_cSW X M hl.1 (kL_tryIssue hG hN hlt h) cl_138 ⟨Nat.le_of_ble_eq_true rfl, Nat.le_of_ble_eq_true rfl⟩ rfl rfl (Nat.le_of_ble_eq_true rfl) ⟨Nat.le_of_ble_eq_true rfl, Nat.le_of_ble_eq_true rfl⟩ dL_call_171 (fun H locs M => ?_)
                    exact u_iret X hret M rfl rfl rfl dL_call_174
                  · have h := it_f h c8
                    by_cases c9 : a1 = 9
                    · have h := it_t h c9
                      refine lv_tableIn (off := 174) (tgt := 175) hx hb dL_call_1 (by rw [c9]; decide) (by rw [c9]; decide) (by rw [c9]; rfl) (by decide) ?_
                      refine lv_aload_n hx hb dL_call_175 rfl (lv_at hl 0 rfl) ?_
                      refine lv_iload_n hx hb dL_call_176 rfl (lv_at hl 2 rfl) ?_
                      refine l_cSW X M hl.1 (kL_tryCopy hG hN hlt h) cl_141 ⟨Nat.le_of_ble_eq_true rfl, Nat.le_of_ble_eq_true rfl⟩ rfl rfl (Nat.le_of_ble_eq_true rfl) ⟨Nat.le_of_ble_eq_true rfl, Nat.le_of_ble_eq_true rfl⟩ dL_call_177 (fun H locs M => ?_)
                      exact u_iret X hret M rfl rfl rfl dL_call_180
                    · have h := it_f h c9
                      by_cases c10 : a1 = 10
                      · have h := it_t h c10
                        refine lv_tableIn (off := 180) (tgt := 181) hx hb dL_call_1 (by rw [c10]; decide) (by rw [c10]; decide) (by rw [c10]; rfl) (by decide) ?_
                        refine lv_aload_n hx hb dL_call_181 rfl (lv_at hl 0 rfl) ?_
                        refine lv_iload_n hx hb dL_call_182 rfl (lv_at hl 2 rfl) ?_
                        refine lv_iload_n hx hb dL_call_183 rfl (lv_at hl 3 rfl) ?_
                        refine l_cSW X M hl.1 (kL_tryRide hG hN hlt h) cl_144 ⟨Nat.le_of_ble_eq_true rfl, Nat.le_of_ble_eq_true rfl⟩ rfl rfl (Nat.le_of_ble_eq_true rfl) ⟨Nat.le_of_ble_eq_true rfl, Nat.le_of_ble_eq_true rfl⟩ dL_call_184 (fun H locs M => ?_)
                        exact u_iret X hret M rfl rfl rfl dL_call_187
                      · have h := it_f h c10
                        by_cases c11 : a1 = 11
                        · have h := it_t h c11
                          refine lv_tableIn (off := 187) (tgt := 188) hx hb dL_call_1 (by rw [c11]; decide) (by rw [c11]; decide) (by rw [c11]; rfl) (by decide) ?_
                          refine lv_aload_n hx hb dL_call_188 rfl (lv_at hl 0 rfl) ?_
                          refine lv_iload_n hx hb dL_call_189 rfl (lv_at hl 2 rfl) ?_
                          refine lv_iload_n hx hb dL_call_190 rfl (lv_at hl 3 rfl) ?_
                          refine l_cSW X M hl.1 (kL_tryPay hG hN hlt h) cl_147 ⟨Nat.le_of_ble_eq_true rfl, Nat.le_of_ble_eq_true rfl⟩ rfl rfl (Nat.le_of_ble_eq_true rfl) ⟨Nat.le_of_ble_eq_true rfl, Nat.le_of_ble_eq_true rfl⟩ dL_call_191 (fun H locs M => ?_)
                          exact u_iret X hret M rfl rfl rfl dL_call_194
                        · have h := it_f h c11
                          by_cases c12 : a1 = 12
                          · have h := it_t h c12
                            refine lv_tableIn (off := 194) (tgt := 195) hx hb dL_call_1 (by rw [c12]; decide) (by rw [c12]; decide) (by rw [c12]; rfl) (by decide) ?_
                            refine lv_aload_n hx hb dL_call_195 rfl (lv_at hl 0 rfl) ?_
                            refine lv_iload_n hx hb dL_call_196 rfl (lv_at hl 2 rfl) ?_
                            refine l_cSW X M hl.1 (kL_tryPardon hG hN hlt h) cl_150 ⟨Nat.le_of_ble_eq_true rfl, Nat.le_of_ble_eq_true rfl⟩ rfl rfl (Nat.le_of_ble_eq_true rfl) ⟨Nat.le_of_ble_eq_true rfl, Nat.le_of_ble_eq_true rfl⟩ dL_call_197 (fun H locs M => ?_)
                            exact u_iret X hret M rfl rfl rfl dL_call_200
                          · have h := it_f h c12
                            by_cases c13 : a1 = 13
                            · have h := it_t h c13
                              refine lv_tableIn (off := 200) (tgt := 201) hx hb dL_call_1 (by rw [c13]; decide) (by rw [c13]; decide) (by rw [c13]; rfl) (by decide) ?_
                              refine lv_aload_n hx hb dL_call_201 rfl (lv_at hl 0 rfl) ?_
                              refine lv_iload_n hx hb dL_call_202 rfl (lv_at hl 2 rfl) ?_
                              refine l_cSW X M hl.1 (kL_tryDown hG hN hlt h) cl_153 ⟨Nat.le_of_ble_eq_true rfl, Nat.le_of_ble_eq_true rfl⟩ rfl rfl (Nat.le_of_ble_eq_true rfl) ⟨Nat.le_of_ble_eq_true rfl, Nat.le_of_ble_eq_true rfl⟩ dL_call_203 (fun H locs M => ?_)
                              exact u_iret X hret M rfl rfl rfl dL_call_206
                            · have h := it_f h c13
                              by_cases c14 : a1 = 14
                              · have h := it_t h c14
                                refine lv_tableIn (off := 206) (tgt := 207) hx hb dL_call_1 (by rw [c14]; decide) (by rw [c14]; decide) (by rw [c14]; rfl) (by decide) ?_
                                refine lv_aload_n hx hb dL_call_207 rfl (lv_at hl 0 rfl) ?_
                                refine lv_iload_n hx hb dL_call_208 rfl (lv_at hl 2 rfl) ?_
                                refine l_cSW X M hl.1 (kL_tryUp hG hN hlt h) cl_156 ⟨Nat.le_of_ble_eq_true rfl, Nat.le_of_ble_eq_true rfl⟩ rfl rfl (Nat.le_of_ble_eq_true rfl) ⟨Nat.le_of_ble_eq_true rfl, Nat.le_of_ble_eq_true rfl⟩ dL_call_209 (fun H locs M => ?_)
                                exact u_iret X hret M rfl rfl rfl dL_call_212
                              · have h := it_f h c14
                                by_cases c15 : a1 = 15
                                · have h := it_t h c15
                                  refine lv_tableIn (off := 212) (tgt := 213) hx hb dL_call_1 (by rw [c15]; decide) (by rw [c15]; decide) (by rw [c15]; rfl) (by decide) ?_
                                  refine lv_aload_n hx hb dL_call_213 rfl (lv_at hl 0 rfl) ?_
                                  refine lv_iload_n hx hb dL_call_214 rfl (lv_at hl 2 rfl) ?_
                                  refine l_cSW X M hl.1 (kL_tryOpen hG hN hlt h) cl_159 ⟨Nat.le_of_ble_eq_true rfl, Nat.le_of_ble_eq_true rfl⟩ rfl rfl (Nat.le_of_ble_eq_true rfl) ⟨Nat.le_of_ble_eq_true rfl, Nat.le_of_ble_eq_true rfl⟩ dL_call_215 (fun H locs M => ?_)
                                  exact u_iret X hret M rfl rfl rfl dL_call_218
                                · have h := it_f h c15
                                  by_cases c16 : a1 = 16
                                  · have h := it_t h c16
                                    refine lv_tableIn (off := 218) (tgt := 219) hx hb dL_call_1 (by rw [c16]; decide) (by rw [c16]; decide) (by rw [c16]; rfl) (by decide) ?_
                                    refine lv_aload_n hx hb dL_call_219 rfl (lv_at hl 0 rfl) ?_
                                    refine lv_iload_n hx hb dL_call_220 rfl (lv_at hl 2 rfl) ?_
                                    refine lv_iload_n hx hb dL_call_221 rfl (lv_at hl 3 rfl) ?_
                                    refine l_cSW X M hl.1 (kL_tryFare hG hN hlt h) cl_162 ⟨Nat.le_of_ble_eq_true rfl, Nat.le_of_ble_eq_true rfl⟩ rfl rfl (Nat.le_of_ble_eq_true rfl) ⟨Nat.le_of_ble_eq_true rfl, Nat.le_of_ble_eq_true rfl⟩ dL_call_222 (fun H locs M => ?_)
                                    exact u_iret X hret M rfl rfl rfl dL_call_225
                                  · have h := it_f h c16
                                    by_cases c17 : a1 = 17
                                    · have h := it_t h c17
                                      refine lv_tableIn (off := 225) (tgt := 226) hx hb dL_call_1 (by rw [c17]; decide) (by rw [c17]; decide) (by rw [c17]; rfl) (by decide) ?_
                                      refine lv_aload_n hx hb dL_call_226 rfl (lv_at hl 0 rfl) ?_
                                      refine lv_iload_n hx hb dL_call_227 rfl (lv_at hl 2 rfl) ?_
                                      refine l_cSW X M hl.1 (kL_tryRun hG hN hlt h) cl_165 ⟨Nat.le_of_ble_eq_true rfl, Nat.le_of_ble_eq_true rfl⟩ rfl rfl (Nat.le_of_ble_eq_true rfl) ⟨Nat.le_of_ble_eq_true rfl, Nat.le_of_ble_eq_true rfl⟩ dL_call_228 (fun H locs M => ?_)
                                      exact u_iret X hret M rfl rfl rfl dL_call_231
                                    · have h := it_f h c17
                                      by_cases c18 : a1 = 18
                                      · have h := it_t h c18
                                        refine lv_tableIn (off := 231) (tgt := 232) hx hb dL_call_1 (by rw [c18]; decide) (by rw [c18]; decide) (by rw [c18]; rfl) (by decide) ?_
                                        refine lv_aload_n hx hb dL_call_232 rfl (lv_at hl 0 rfl) ?_
                                        refine lv_iload_n hx hb dL_call_233 rfl (lv_at hl 2 rfl) ?_
                                        refine lv_iload_n hx hb dL_call_234 rfl (lv_at hl 3 rfl) ?_
                                        refine l_cSW X M hl.1 (kL_tryLay hG hN hlt h) cl_168 ⟨Nat.le_of_ble_eq_true rfl, Nat.le_of_ble_eq_true rfl⟩ rfl rfl (Nat.le_of_ble_eq_true rfl) ⟨Nat.le_of_ble_eq_true rfl, Nat.le_of_ble_eq_true rfl⟩ dL_call_235 (fun H locs M => ?_)
                                        exact u_iret X hret M rfl rfl rfl dL_call_238
                                      · have h := it_f h c18
                                        by_cases c19 : a1 = 19
                                        · have h := it_t h c19
                                          refine lv_tableIn (off := 238) (tgt := 239) hx hb dL_call_1 (by rw [c19]; decide) (by rw [c19]; decide) (by rw [c19]; rfl) (by decide) ?_
                                          refine lv_aload_n hx hb dL_call_239 rfl (lv_at hl 0 rfl) ?_
                                          refine l_cSW X M hl.1 (kL_tryUndo hG hN hlt h) cl_171 ⟨Nat.le_of_ble_eq_true rfl, Nat.le_of_ble_eq_true rfl⟩ rfl rfl (Nat.le_of_ble_eq_true rfl) ⟨Nat.le_of_ble_eq_true rfl, Nat.le_of_ble_eq_true rfl⟩ dL_call_240 (fun H locs M => ?_)
                                          exact u_iret X hret M rfl rfl rfl dL_call_243
                                        · have h := it_f h c19
                                          by_cases c20 : a1 = 20
                                          · have h := it_t h c20
                                            refine lv_tableIn (off := 243) (tgt := 244) hx hb dL_call_1 (by rw [c20]; decide) (by rw [c20]; decide) (by rw [c20]; rfl) (by decide) ?_
                                            refine lv_aload_n hx hb dL_call_244 rfl (lv_at hl 0 rfl) ?_
                                            refine lv_iload_n hx hb dL_call_245 rfl (lv_at hl 2 rfl) ?_
                                            refine lv_iload_n hx hb dL_call_246 rfl (lv_at hl 3 rfl) ?_
                                            refine l_cSW X M hl.1 (kL_tryWould hG hN hlt h) cl_174 ⟨Nat.le_of_ble_eq_true rfl, Nat.le_of_ble_eq_true rfl⟩ rfl rfl (Nat.le_of_ble_eq_true rfl) ⟨Nat.le_of_ble_eq_true rfl, Nat.le_of_ble_eq_true rfl⟩ dL_call_247 (fun H locs M => ?_)
                                            exact u_iret X hret M rfl rfl rfl dL_call_250
                                          · have h := it_f h c20
                                            by_cases c21 : a1 = 21
                                            · have h := it_t h c21
                                              refine lv_tableIn (off := 250) (tgt := 251) hx hb dL_call_1 (by rw [c21]; decide) (by rw [c21]; decide) (by rw [c21]; rfl) (by decide) ?_
                                              refine lv_aload_n hx hb dL_call_251 rfl (lv_at hl 0 rfl) ?_
                                              refine lv_iload_n hx hb dL_call_252 rfl (lv_at hl 2 rfl) ?_
                                              refine lv_iload_n hx hb dL_call_253 rfl (lv_at hl 3 rfl) ?_
                                              refine l_cSW X M hl.1 (kL_tryRides hG hN hlt h) cl_177 ⟨Nat.le_of_ble_eq_true rfl, Nat.le_of_ble_eq_true rfl⟩ rfl rfl (Nat.le_of_ble_eq_true rfl) ⟨Nat.le_of_ble_eq_true rfl, Nat.le_of_ble_eq_true rfl⟩ dL_call_254 (fun H locs M => ?_)
                                              exact u_iret X hret M rfl rfl rfl dL_call_257
                                            · have h := it_f h c21
                                              by_cases c22 : a1 = 22
                                              · have h := it_t h c22
                                                refine lv_tableIn (off := 257) (tgt := 258) hx hb dL_call_1 (by rw [c22]; decide) (by rw [c22]; decide) (by rw [c22]; rfl) (by decide) ?_
                                                refine lv_aload_n hx hb dL_call_258 rfl (lv_at hl 0 rfl) ?_
                                                refine lv_iload_n hx hb dL_call_259 rfl (lv_at hl 2 rfl) ?_
                                                refine lv_iload_n hx hb dL_call_260 rfl (lv_at hl 3 rfl) ?_
                                                refine l_cSW X M hl.1 (kL_tryBrings hG hN hlt h) cl_180 ⟨Nat.le_of_ble_eq_true rfl, Nat.le_of_ble_eq_true rfl⟩ rfl rfl (Nat.le_of_ble_eq_true rfl) ⟨Nat.le_of_ble_eq_true rfl, Nat.le_of_ble_eq_true rfl⟩ dL_call_261 (fun H locs M => ?_)
                                                exact u_iret X hret M rfl rfl rfl dL_call_264
                                              · have h := it_f h c22
                                                by_cases c23 : a1 = 23
                                                · have h := it_t h c23
                                                  refine lv_tableIn (off := 264) (tgt := 265) hx hb dL_call_1 (by rw [c23]; decide) (by rw [c23]; decide) (by rw [c23]; rfl) (by decide) ?_
                                                  refine lv_aload_n hx hb dL_call_265 rfl (lv_at hl 0 rfl) ?_
                                                  refine lv_iload_n hx hb dL_call_266 rfl (lv_at hl 2 rfl) ?_
                                                  refine l_cSW X M hl.1 (kL_tryOwes hG hN hlt h) cl_183 ⟨Nat.le_of_ble_eq_true rfl, Nat.le_of_ble_eq_true rfl⟩ rfl rfl (Nat.le_of_ble_eq_true rfl) ⟨Nat.le_of_ble_eq_true rfl, Nat.le_of_ble_eq_true rfl⟩ dL_call_267 (fun H locs M => ?_)
                                                  exact u_iret X hret M rfl rfl rfl dL_call_270
                                                · have h := it_f h c23
                                                  by_cases c24 : a1 = 24
                                                  · have h := it_t h c24
                                                    refine lv_tableIn (off := 270) (tgt := 271) hx hb dL_call_1 (by rw [c24]; decide) (by rw [c24]; decide) (by rw [c24]; rfl) (by decide) ?_
                                                    refine lv_aload_n hx hb dL_call_271 rfl (lv_at hl 0 rfl) ?_
                                                    refine lv_iload_n hx hb dL_call_272 rfl (lv_at hl 2 rfl) ?_
                                                    refine l_cSW X M hl.1 (kL_tryKeep hG hN hlt h) cl_186 ⟨Nat.le_of_ble_eq_true rfl, Nat.le_of_ble_eq_true rfl⟩ rfl rfl (Nat.le_of_ble_eq_true rfl) ⟨Nat.le_of_ble_eq_true rfl, Nat.le_of_ble_eq_true rfl⟩ dL_call_273 (fun H locs M => ?_)
                                                    exact u_iret X hret M rfl rfl rfl dL_call_276
                                                  · have h := it_f h c24
                                                    have tc0 := lv_neT (a := 0) c0 (by decide)
                                                    have tc1 := lv_neT (a := 1) c1 (by decide)
                                                    have tc2 := lv_neT (a := 2) c2 (by decide)
                                                    have tc3 := lv_neT (a := 3) c3 (by decide)
                                                    have tc4 := lv_neT (a := 4) c4 (by decide)
                                                    have tc5 := lv_neT (a := 5) c5 (by decide)
                                                    have tc6 := lv_neT (a := 6) c6 (by decide)
                                                    have tc7 := lv_neT (a := 7) c7 (by decide)
                                                    have tc8 := lv_neT (a := 8) c8 (by decide)
                                                    have tc9 := lv_neT (a := 9) c9 (by decide)
                                                    have tc10 := lv_neT (a := 10) c10 (by decide)
                                                    have tc11 := lv_neT (a := 11) c11 (by decide)
                                                    have tc12 := lv_neT (a := 12) c12 (by decide)
                                                    have tc13 := lv_neT (a := 13) c13 (by decide)
                                                    have tc14 := lv_neT (a := 14) c14 (by decide)
                                                    have tc15 := lv_neT (a := 15) c15 (by decide)
                                                    have tc16 := lv_neT (a := 16) c16 (by decide)
                                                    have tc17 := lv_neT (a := 17) c17 (by decide)
                                                    have tc18 := lv_neT (a := 18) c18 (by decide)
                                                    have tc19 := lv_neT (a := 19) c19 (by decide)
                                                    have tc20 := lv_neT (a := 20) c20 (by decide)
                                                    have tc21 := lv_neT (a := 21) c21 (by decide)
                                                    have tc22 := lv_neT (a := 22) c22 (by decide)
                                                    have tc23 := lv_neT (a := 23) c23 (by decide)
                                                    have tc24 := lv_neT (a := 24) c24 (by decide)
                                                    refine lv_tableOut (tgt := 277) hx hb dL_call_1 (by omega) (by decide) ?_
                                                    refine lv_aload_n hx hb dL_call_277 rfl (lv_at hl 0 rfl) ?_
                                                    refine lv_iload_n hx hb dL_call_278 rfl (lv_at hl 2 rfl) ?_
                                                    refine l_cSW X M hl.1 (kL_tryBack hG hN hlt h) cl_189 ⟨Nat.le_of_ble_eq_true rfl, Nat.le_of_ble_eq_true rfl⟩ rfl rfl (Nat.le_of_ble_eq_true rfl) ⟨Nat.le_of_ble_eq_true rfl, Nat.le_of_ble_eq_true rfl⟩ dL_call_279 (fun H locs M => ?_)
                                                    exact u_iret X hret M rfl rfl rfl dL_call_282
