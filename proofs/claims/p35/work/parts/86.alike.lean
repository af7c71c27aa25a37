theorem dL_alike_0 : decode cL_alike 0 = .ok (.aload_n 0, 1) := by decide +kernel
theorem dL_alike_1 : decode cL_alike 1 = .ok (.iload_n 2, 1) := by decide +kernel
theorem dL_alike_2 : decode cL_alike 2 = .ok (.i2l, 1) := by decide +kernel
theorem dL_alike_3 : decode cL_alike 3 = .ok (.iconst 1, 1) := by decide +kernel
theorem dL_alike_4 : decode cL_alike 4 = .ok (.iload_n 2, 1) := by decide +kernel
theorem dL_alike_5 : decode cL_alike 5 = .ok (.bipush 40, 2) := by decide +kernel
theorem dL_alike_7 : decode cL_alike 7 = .ok (.irem, 1) := by decide +kernel
theorem dL_alike_8 : decode cL_alike 8 = .ok (.iadd, 1) := by decide +kernel
theorem dL_alike_9 : decode cL_alike 9 = .ok (.invokestatic 204, 3) := by decide +kernel
theorem dL_alike_12 : decode cL_alike 12 = .ok (.aload_n 1, 1) := by decide +kernel
theorem dL_alike_13 : decode cL_alike 13 = .ok (.iload_n 2, 1) := by decide +kernel
theorem dL_alike_14 : decode cL_alike 14 = .ok (.i2l, 1) := by decide +kernel
theorem dL_alike_15 : decode cL_alike 15 = .ok (.iconst 1, 1) := by decide +kernel
theorem dL_alike_16 : decode cL_alike 16 = .ok (.iload_n 2, 1) := by decide +kernel
theorem dL_alike_17 : decode cL_alike 17 = .ok (.bipush 40, 2) := by decide +kernel
theorem dL_alike_19 : decode cL_alike 19 = .ok (.irem, 1) := by decide +kernel
theorem dL_alike_20 : decode cL_alike 20 = .ok (.iadd, 1) := by decide +kernel
theorem dL_alike_21 : decode cL_alike 21 = .ok (.invokestatic 204, 3) := by decide +kernel
theorem dL_alike_24 : decode cL_alike 24 = .ok (.if_icmp .ne 29, 3) := by decide +kernel
theorem dL_alike_27 : decode cL_alike 27 = .ok (.aload_n 0, 1) := by decide +kernel
theorem dL_alike_28 : decode cL_alike 28 = .ok (.invokevirtual 211, 3) := by decide +kernel
theorem dL_alike_31 : decode cL_alike 31 = .ok (.aload_n 1, 1) := by decide +kernel
theorem dL_alike_32 : decode cL_alike 32 = .ok (.invokevirtual 211, 3) := by decide +kernel
theorem dL_alike_35 : decode cL_alike 35 = .ok (.if_icmp .ne 18, 3) := by decide +kernel
theorem dL_alike_38 : decode cL_alike 38 = .ok (.aload_n 0, 1) := by decide +kernel
theorem dL_alike_39 : decode cL_alike 39 = .ok (.invokevirtual 208, 3) := by decide +kernel
theorem dL_alike_42 : decode cL_alike 42 = .ok (.aload_n 1, 1) := by decide +kernel
theorem dL_alike_43 : decode cL_alike 43 = .ok (.invokevirtual 208, 3) := by decide +kernel
theorem dL_alike_46 : decode cL_alike 46 = .ok (.if_icmp .ne 7, 3) := by decide +kernel
theorem dL_alike_49 : decode cL_alike 49 = .ok (.iconst 1, 1) := by decide +kernel
theorem dL_alike_50 : decode cL_alike 50 = .ok (.goto 4, 3) := by decide +kernel
theorem dL_alike_53 : decode cL_alike 53 = .ok (.iconst 0, 1) := by decide +kernel
theorem dL_alike_54 : decode cL_alike 54 = .ok (.istore_n 3, 1) := by decide +kernel
theorem dL_alike_55 : decode cL_alike 55 = .ok (.iconst 0, 1) := by decide +kernel
theorem dL_alike_56 : decode cL_alike 56 = .ok (.istore 4, 2) := by decide +kernel
theorem dL_alike_58 : decode cL_alike 58 = .ok (.iload 4, 2) := by decide +kernel
theorem dL_alike_60 : decode cL_alike 60 = .ok (.bipush 11, 2) := by decide +kernel
theorem dL_alike_62 : decode cL_alike 62 = .ok (.if_icmp .ge 221, 3) := by decide +kernel
theorem dL_alike_65 : decode cL_alike 65 = .ok (.iload_n 3, 1) := by decide +kernel
theorem dL_alike_66 : decode cL_alike 66 = .ok (.ifCond .eq 217, 3) := by decide +kernel
theorem dL_alike_69 : decode cL_alike 69 = .ok (.aload_n 0, 1) := by decide +kernel
theorem dL_alike_70 : decode cL_alike 70 = .ok (.iconst 2, 1) := by decide +kernel
theorem dL_alike_71 : decode cL_alike 71 = .ok (.iload 4, 2) := by decide +kernel
theorem dL_alike_73 : decode cL_alike 73 = .ok (.iconst 0, 1) := by decide +kernel
theorem dL_alike_74 : decode cL_alike 74 = .ok (.iconst 0, 1) := by decide +kernel
theorem dL_alike_75 : decode cL_alike 75 = .ok (.invokestatic 194, 3) := by decide +kernel
theorem dL_alike_78 : decode cL_alike 78 = .ok (.aload_n 1, 1) := by decide +kernel
theorem dL_alike_79 : decode cL_alike 79 = .ok (.iconst 2, 1) := by decide +kernel
theorem dL_alike_80 : decode cL_alike 80 = .ok (.iload 4, 2) := by decide +kernel
theorem dL_alike_82 : decode cL_alike 82 = .ok (.iconst 0, 1) := by decide +kernel
theorem dL_alike_83 : decode cL_alike 83 = .ok (.iconst 0, 1) := by decide +kernel
theorem dL_alike_84 : decode cL_alike 84 = .ok (.invokestatic 194, 3) := by decide +kernel
theorem dL_alike_87 : decode cL_alike 87 = .ok (.if_icmp .ne 188, 3) := by decide +kernel
theorem dL_alike_90 : decode cL_alike 90 = .ok (.aload_n 0, 1) := by decide +kernel
theorem dL_alike_91 : decode cL_alike 91 = .ok (.iconst 3, 1) := by decide +kernel
theorem dL_alike_92 : decode cL_alike 92 = .ok (.iload 4, 2) := by decide +kernel
theorem dL_alike_94 : decode cL_alike 94 = .ok (.iload_n 2, 1) := by decide +kernel
theorem dL_alike_95 : decode cL_alike 95 = .ok (.iconst 4, 1) := by decide +kernel
theorem dL_alike_96 : decode cL_alike 96 = .ok (.irem, 1) := by decide +kernel
theorem dL_alike_97 : decode cL_alike 97 = .ok (.iconst 0, 1) := by decide +kernel
theorem dL_alike_98 : decode cL_alike 98 = .ok (.invokestatic 194, 3) := by decide +kernel
theorem dL_alike_101 : decode cL_alike 101 = .ok (.aload_n 1, 1) := by decide +kernel
theorem dL_alike_102 : decode cL_alike 102 = .ok (.iconst 3, 1) := by decide +kernel
theorem dL_alike_103 : decode cL_alike 103 = .ok (.iload 4, 2) := by decide +kernel
theorem dL_alike_105 : decode cL_alike 105 = .ok (.iload_n 2, 1) := by decide +kernel
theorem dL_alike_106 : decode cL_alike 106 = .ok (.iconst 4, 1) := by decide +kernel
theorem dL_alike_107 : decode cL_alike 107 = .ok (.irem, 1) := by decide +kernel
theorem dL_alike_108 : decode cL_alike 108 = .ok (.iconst 0, 1) := by decide +kernel
theorem dL_alike_109 : decode cL_alike 109 = .ok (.invokestatic 194, 3) := by decide +kernel
theorem dL_alike_112 : decode cL_alike 112 = .ok (.if_icmp .ne 163, 3) := by decide +kernel
theorem dL_alike_115 : decode cL_alike 115 = .ok (.aload_n 0, 1) := by decide +kernel
theorem dL_alike_116 : decode cL_alike 116 = .ok (.iconst 4, 1) := by decide +kernel
theorem dL_alike_117 : decode cL_alike 117 = .ok (.iload 4, 2) := by decide +kernel
theorem dL_alike_119 : decode cL_alike 119 = .ok (.iload_n 2, 1) := by decide +kernel
theorem dL_alike_120 : decode cL_alike 120 = .ok (.bipush 8, 2) := by decide +kernel
theorem dL_alike_122 : decode cL_alike 122 = .ok (.irem, 1) := by decide +kernel
theorem dL_alike_123 : decode cL_alike 123 = .ok (.iconst 0, 1) := by decide +kernel
theorem dL_alike_124 : decode cL_alike 124 = .ok (.invokestatic 194, 3) := by decide +kernel
theorem dL_alike_127 : decode cL_alike 127 = .ok (.aload_n 1, 1) := by decide +kernel
theorem dL_alike_128 : decode cL_alike 128 = .ok (.iconst 4, 1) := by decide +kernel
theorem dL_alike_129 : decode cL_alike 129 = .ok (.iload 4, 2) := by decide +kernel
theorem dL_alike_131 : decode cL_alike 131 = .ok (.iload_n 2, 1) := by decide +kernel
theorem dL_alike_132 : decode cL_alike 132 = .ok (.bipush 8, 2) := by decide +kernel
theorem dL_alike_134 : decode cL_alike 134 = .ok (.irem, 1) := by decide +kernel
theorem dL_alike_135 : decode cL_alike 135 = .ok (.iconst 0, 1) := by decide +kernel
theorem dL_alike_136 : decode cL_alike 136 = .ok (.invokestatic 194, 3) := by decide +kernel
theorem dL_alike_139 : decode cL_alike 139 = .ok (.if_icmp .ne 136, 3) := by decide +kernel
theorem dL_alike_142 : decode cL_alike 142 = .ok (.aload_n 0, 1) := by decide +kernel
theorem dL_alike_143 : decode cL_alike 143 = .ok (.iconst 5, 1) := by decide +kernel
theorem dL_alike_144 : decode cL_alike 144 = .ok (.iload 4, 2) := by decide +kernel
theorem dL_alike_146 : decode cL_alike 146 = .ok (.iload_n 2, 1) := by decide +kernel
theorem dL_alike_147 : decode cL_alike 147 = .ok (.iconst 5, 1) := by decide +kernel
theorem dL_alike_148 : decode cL_alike 148 = .ok (.irem, 1) := by decide +kernel
theorem dL_alike_149 : decode cL_alike 149 = .ok (.iconst 0, 1) := by decide +kernel
theorem dL_alike_150 : decode cL_alike 150 = .ok (.invokestatic 194, 3) := by decide +kernel
theorem dL_alike_153 : decode cL_alike 153 = .ok (.aload_n 1, 1) := by decide +kernel
theorem dL_alike_154 : decode cL_alike 154 = .ok (.iconst 5, 1) := by decide +kernel
theorem dL_alike_155 : decode cL_alike 155 = .ok (.iload 4, 2) := by decide +kernel
theorem dL_alike_157 : decode cL_alike 157 = .ok (.iload_n 2, 1) := by decide +kernel
theorem dL_alike_158 : decode cL_alike 158 = .ok (.iconst 5, 1) := by decide +kernel
theorem dL_alike_159 : decode cL_alike 159 = .ok (.irem, 1) := by decide +kernel
theorem dL_alike_160 : decode cL_alike 160 = .ok (.iconst 0, 1) := by decide +kernel
theorem dL_alike_161 : decode cL_alike 161 = .ok (.invokestatic 194, 3) := by decide +kernel
theorem dL_alike_164 : decode cL_alike 164 = .ok (.if_icmp .ne 111, 3) := by decide +kernel
theorem dL_alike_167 : decode cL_alike 167 = .ok (.aload_n 0, 1) := by decide +kernel
theorem dL_alike_168 : decode cL_alike 168 = .ok (.bipush 6, 2) := by decide +kernel
theorem dL_alike_170 : decode cL_alike 170 = .ok (.iload_n 2, 1) := by decide +kernel
theorem dL_alike_171 : decode cL_alike 171 = .ok (.iconst 4, 1) := by decide +kernel
theorem dL_alike_172 : decode cL_alike 172 = .ok (.irem, 1) := by decide +kernel
theorem dL_alike_173 : decode cL_alike 173 = .ok (.iload 4, 2) := by decide +kernel
theorem dL_alike_175 : decode cL_alike 175 = .ok (.iload_n 2, 1) := by decide +kernel
theorem dL_alike_176 : decode cL_alike 176 = .ok (.iconst 3, 1) := by decide +kernel
theorem dL_alike_177 : decode cL_alike 177 = .ok (.irem, 1) := by decide +kernel
theorem dL_alike_178 : decode cL_alike 178 = .ok (.invokestatic 194, 3) := by decide +kernel
theorem dL_alike_181 : decode cL_alike 181 = .ok (.aload_n 1, 1) := by decide +kernel
theorem dL_alike_182 : decode cL_alike 182 = .ok (.bipush 6, 2) := by decide +kernel
theorem dL_alike_184 : decode cL_alike 184 = .ok (.iload_n 2, 1) := by decide +kernel
theorem dL_alike_185 : decode cL_alike 185 = .ok (.iconst 4, 1) := by decide +kernel
theorem dL_alike_186 : decode cL_alike 186 = .ok (.irem, 1) := by decide +kernel
theorem dL_alike_187 : decode cL_alike 187 = .ok (.iload 4, 2) := by decide +kernel
theorem dL_alike_189 : decode cL_alike 189 = .ok (.iload_n 2, 1) := by decide +kernel
theorem dL_alike_190 : decode cL_alike 190 = .ok (.iconst 3, 1) := by decide +kernel
theorem dL_alike_191 : decode cL_alike 191 = .ok (.irem, 1) := by decide +kernel
theorem dL_alike_192 : decode cL_alike 192 = .ok (.invokestatic 194, 3) := by decide +kernel
theorem dL_alike_195 : decode cL_alike 195 = .ok (.if_icmp .ne 80, 3) := by decide +kernel
theorem dL_alike_198 : decode cL_alike 198 = .ok (.aload_n 0, 1) := by decide +kernel
theorem dL_alike_199 : decode cL_alike 199 = .ok (.bipush 7, 2) := by decide +kernel
theorem dL_alike_201 : decode cL_alike 201 = .ok (.iload 4, 2) := by decide +kernel
theorem dL_alike_203 : decode cL_alike 203 = .ok (.iconst 0, 1) := by decide +kernel
theorem dL_alike_204 : decode cL_alike 204 = .ok (.iconst 0, 1) := by decide +kernel
theorem dL_alike_205 : decode cL_alike 205 = .ok (.invokestatic 194, 3) := by decide +kernel
theorem dL_alike_208 : decode cL_alike 208 = .ok (.aload_n 1, 1) := by decide +kernel
theorem dL_alike_209 : decode cL_alike 209 = .ok (.bipush 7, 2) := by decide +kernel
theorem dL_alike_211 : decode cL_alike 211 = .ok (.iload 4, 2) := by decide +kernel
theorem dL_alike_213 : decode cL_alike 213 = .ok (.iconst 0, 1) := by decide +kernel
theorem dL_alike_214 : decode cL_alike 214 = .ok (.iconst 0, 1) := by decide +kernel
theorem dL_alike_215 : decode cL_alike 215 = .ok (.invokestatic 194, 3) := by decide +kernel
theorem dL_alike_218 : decode cL_alike 218 = .ok (.if_icmp .ne 57, 3) := by decide +kernel
theorem dL_alike_221 : decode cL_alike 221 = .ok (.aload_n 0, 1) := by decide +kernel
theorem dL_alike_222 : decode cL_alike 222 = .ok (.bipush 23, 2) := by decide +kernel
theorem dL_alike_224 : decode cL_alike 224 = .ok (.iload 4, 2) := by decide +kernel
theorem dL_alike_226 : decode cL_alike 226 = .ok (.iconst 0, 1) := by decide +kernel
theorem dL_alike_227 : decode cL_alike 227 = .ok (.iconst 0, 1) := by decide +kernel
theorem dL_alike_228 : decode cL_alike 228 = .ok (.invokestatic 194, 3) := by decide +kernel
theorem dL_alike_231 : decode cL_alike 231 = .ok (.aload_n 1, 1) := by decide +kernel
theorem dL_alike_232 : decode cL_alike 232 = .ok (.bipush 23, 2) := by decide +kernel
theorem dL_alike_234 : decode cL_alike 234 = .ok (.iload 4, 2) := by decide +kernel
theorem dL_alike_236 : decode cL_alike 236 = .ok (.iconst 0, 1) := by decide +kernel
theorem dL_alike_237 : decode cL_alike 237 = .ok (.iconst 0, 1) := by decide +kernel
theorem dL_alike_238 : decode cL_alike 238 = .ok (.invokestatic 194, 3) := by decide +kernel
theorem dL_alike_241 : decode cL_alike 241 = .ok (.if_icmp .ne 34, 3) := by decide +kernel
theorem dL_alike_244 : decode cL_alike 244 = .ok (.aload_n 0, 1) := by decide +kernel
theorem dL_alike_245 : decode cL_alike 245 = .ok (.bipush 21, 2) := by decide +kernel
theorem dL_alike_247 : decode cL_alike 247 = .ok (.iload 4, 2) := by decide +kernel
theorem dL_alike_249 : decode cL_alike 249 = .ok (.iload_n 2, 1) := by decide +kernel
theorem dL_alike_250 : decode cL_alike 250 = .ok (.iconst 4, 1) := by decide +kernel
theorem dL_alike_251 : decode cL_alike 251 = .ok (.irem, 1) := by decide +kernel
theorem dL_alike_252 : decode cL_alike 252 = .ok (.iconst 0, 1) := by decide +kernel
theorem dL_alike_253 : decode cL_alike 253 = .ok (.invokestatic 194, 3) := by decide +kernel
theorem dL_alike_256 : decode cL_alike 256 = .ok (.aload_n 1, 1) := by decide +kernel
theorem dL_alike_257 : decode cL_alike 257 = .ok (.bipush 21, 2) := by decide +kernel
theorem dL_alike_259 : decode cL_alike 259 = .ok (.iload 4, 2) := by decide +kernel
theorem dL_alike_261 : decode cL_alike 261 = .ok (.iload_n 2, 1) := by decide +kernel
theorem dL_alike_262 : decode cL_alike 262 = .ok (.iconst 4, 1) := by decide +kernel
theorem dL_alike_263 : decode cL_alike 263 = .ok (.irem, 1) := by decide +kernel
theorem dL_alike_264 : decode cL_alike 264 = .ok (.iconst 0, 1) := by decide +kernel
theorem dL_alike_265 : decode cL_alike 265 = .ok (.invokestatic 194, 3) := by decide +kernel
theorem dL_alike_268 : decode cL_alike 268 = .ok (.if_icmp .ne 7, 3) := by decide +kernel
theorem dL_alike_271 : decode cL_alike 271 = .ok (.iconst 1, 1) := by decide +kernel
theorem dL_alike_272 : decode cL_alike 272 = .ok (.goto 4, 3) := by decide +kernel
theorem dL_alike_275 : decode cL_alike 275 = .ok (.iconst 0, 1) := by decide +kernel
theorem dL_alike_276 : decode cL_alike 276 = .ok (.istore_n 3, 1) := by decide +kernel
theorem dL_alike_277 : decode cL_alike 277 = .ok (.iinc 4 1, 3) := by decide +kernel
theorem dL_alike_280 : decode cL_alike 280 = .ok (.goto (-222), 3) := by decide +kernel
theorem dL_alike_283 : decode cL_alike 283 = .ok (.iload_n 3, 1) := by decide +kernel
theorem dL_alike_284 : decode cL_alike 284 = .ok (.ireturn, 1) := by decide +kernel
theorem yf_X11_worst : (Cond.instanceMethod yX11_worst) ∈ gtbl ∧ (Cond.selects RX11 yX11_worst yX11_worst) ∈ gtbl ∧ (Cond.initialized RX11) ∈ gtbl ∧ (Cond.code yX11_worst cX11_worst 5 (some .int)) ∈ gtbl ∧ (yX11_worst.cls = RX11 ∧ yX11_worst.cls ≠ "java/lang/invoke/MethodHandle" ∧ yX11_worst.cls ≠ "java/lang/invoke/VarHandle" ∧ (parseMethodDescriptor yX11_worst.desc).map (fun d => d.parameters.length) = some 0) := ⟨gt_in 1042 (by decide +kernel) (by decide +kernel), gt_in 1043 (by decide +kernel) (by decide +kernel), gt_in 10 (by decide +kernel) (by decide +kernel), gt_in 1044 (by decide +kernel) (by decide +kernel), by decide +kernel⟩
theorem cw_L_208 : uCW RL RX11 208 yX11_worst cX11_worst 5 (some .int) 0 := ⟨gt_in 1041 (by decide +kernel) (by decide +kernel), yf_X11_worst⟩
theorem yf_X11_bestUp : (Cond.instanceMethod yX11_bestUp) ∈ gtbl ∧ (Cond.selects RX11 yX11_bestUp yX11_bestUp) ∈ gtbl ∧ (Cond.initialized RX11) ∈ gtbl ∧ (Cond.code yX11_bestUp cX11_bestUp 5 (some .int)) ∈ gtbl ∧ (yX11_bestUp.cls = RX11 ∧ yX11_bestUp.cls ≠ "java/lang/invoke/MethodHandle" ∧ yX11_bestUp.cls ≠ "java/lang/invoke/VarHandle" ∧ (parseMethodDescriptor yX11_bestUp.desc).map (fun d => d.parameters.length) = some 0) := ⟨gt_in 1053 (by decide +kernel) (by decide +kernel), gt_in 1054 (by decide +kernel) (by decide +kernel), gt_in 10 (by decide +kernel) (by decide +kernel), gt_in 1055 (by decide +kernel) (by decide +kernel), by decide +kernel⟩
theorem cw_L_211 : uCW RL RX11 211 yX11_bestUp cX11_bestUp 5 (some .int) 0 := ⟨gt_in 1052 (by decide +kernel) (by decide +kernel), yf_X11_bestUp⟩
noncomputable def fL_alike_L58 (M : Nat → Nat → Int32) (N : Nat) (y2 : Int32) (y3 : Int32) (y4 : Int32) : Option Int32 :=
  match N with
  | 0 => none
  | N + 1 =>
    if 11 ≤ y4 then
      gd (isz y3) <| some y3
    else
      gd (decide (¬ (y3 = 0))) <|
      bd (qk (rcall M 2 y4 0 0) M) fun x29 =>
      bd (qk (rcall M 2 y4 0 0) M) fun x32 =>
      gd (decide (x29 = x32)) <|
      bd (qk (rcall M 3 y4 (y2 - y2 / 4 * 4) 0) M) fun x37 =>
      bd (qk (rcall M 3 y4 (y2 - y2 / 4 * 4) 0) M) fun x40 =>
      gd (decide (x37 = x40)) <|
      bd (qk (rcall M 4 y4 (y2 - y2 / 8 * 8) 0) M) fun x45 =>
      bd (qk (rcall M 4 y4 (y2 - y2 / 8 * 8) 0) M) fun x48 =>
      gd (decide (x45 = x48)) <|
      bd (qk (rcall M 5 y4 (y2 - y2 / 5 * 5) 0) M) fun x53 =>
      bd (qk (rcall M 5 y4 (y2 - y2 / 5 * 5) 0) M) fun x56 =>
      gd (decide (x53 = x56)) <|
      bd (qk (rcall M 6 (y2 - y2 / 4 * 4) y4 (y2 - y2 / 3 * 3)) M) fun x61 =>
      bd (qk (rcall M 6 (y2 - y2 / 4 * 4) y4 (y2 - y2 / 3 * 3)) M) fun x64 =>
      gd (decide (x61 = x64)) <|
      bd (qk (rcall M 7 y4 0 0) M) fun x69 =>
      bd (qk (rcall M 7 y4 0 0) M) fun x72 =>
      gd (decide (x69 = x72)) <|
      bd (qk (rcall M 23 y4 0 0) M) fun x77 =>
      bd (qk (rcall M 23 y4 0 0) M) fun x80 =>
      gd (decide (x77 = x80)) <|
      bd (qk (rcall M 21 y4 (y2 - y2 / 4 * 4) 0) M) fun x85 =>
      bd (qk (rcall M 21 y4 (y2 - y2 / 4 * 4) 0) M) fun x88 =>
      gd (decide (x85 = x88)) <|
      lt_ (y4 + 1) fun x93 =>
      fL_alike_L58 M N y2 1 x93
set_option maxHeartbeats 4000000 in
set_option maxRecDepth 20000 in
theorem lpL_alike_58 {l : Launch} {G1 G2 : UG} {A : Nat → Prop} (hG1 : uAll G1) (hG2 : uAll G2) (hN1 : uNo G1) (hN2 : uNo G2) (hlt : l.stackTraces = false) {n : Nat} (hn : n ≤ 850) {M : Nat → Nat → Int32} (hA1 : ∀ q, uA G1 q → A q) (hA2 : ∀ q, uA G2 q → A q) (hd12 : ∀ q, uA G1 q → uA G2 q → False) {r : Int32} {p : Program} {e : Env} {s : State} {m : MethodId} {args : Array Value} {below : List Frame} {meth : Method} {c : Code} (X1 : UC p s m args meth c cL_alike 5 RL (gA G1 A)) (X2 : UC p s m args meth c cL_alike 5 RL (gA G2 A)) (hret : meth.sig.returnType = some .boolean) : ∀ (N k : Nat) (y2 : Int32) (y3 : Int32) (y4 : Int32) (H : Heap) (locs : List Loc) (ls : Array Slot), fL_alike_L58 M N y2 y3 y4 = some r → k + (16 * N + 0) ≤ 199 → WO A (UQ G2 n M) G1 n M s H locs → lv_has ls 5 [(0, .ref (ga G1 18 0)), (1, .ref (ga G2 18 0)), (2, .int y2), (3, .int y3), (4, .int y4)] → W p l e (nR 11 199 1194 214) s m args below meth c H locs k (6 * k) (MQ below (oQ2 A G1 G2 .boolean r n M) args s 199 1194 A) (F0 m 58 ls []) := by
  have hx := X1.hx
  have hb := X1.hb
  have hd21 : ∀ q, uA G2 q → uA G1 q → False := fun q a b => hd12 q b a
  intro N
  induction N with
  | zero => intro k y2 y3 y4 H locs ls h hk Z hl; rw [fL_alike_L58] at h; cases h
  | succ N ih =>
    intro k y2 y3 y4 H locs ls h hk Z hl
    rw [fL_alike_L58] at h
    refine lv_iload hx hb dL_alike_58 (lv_at hl 4 rfl) ?_
    refine lv_bipush (v := 11) hx hb dL_alike_60 (by decide) ?_
    refine lv_icmp_ge (tgt := 283) hx hb dL_alike_62 (by decide) (fun c25 => ?_) (fun c25 => ?_)
    · have h := it_t h c25
      refine lv_iload_n hx hb dL_alike_283 rfl (lv_at hl 3 rfl) ?_
      obtain ⟨z26, h⟩ := gd_e h
      refine W.widen (k := 199) (n := 1194) (by omega) (by omega) ?_
      exact o_iret2 X1 hret Z (Option.some.inj h) (isz_e z26) dL_alike_284
    · have h := it_f h c25
      refine lv_iload_n hx hb dL_alike_65 rfl (lv_at hl 3 rfl) ?_
      obtain ⟨z28, h⟩ := gd_e h
      refine lv_if_eq (tgt := 283) hx hb dL_alike_66 (by decide) (fun cn => absurd cn (of_decide_eq_true z28)) (fun c27 => ?_)
      refine lv_aload_n hx hb dL_alike_69 rfl (lv_at hl 0 rfl) ?_
      refine lv_iconst (v := 2) hx hb dL_alike_70 (by decide) ?_
      refine lv_iload hx hb dL_alike_71 (lv_at hl 4 rfl) ?_
      refine lv_iconst (v := 0) hx hb dL_alike_73 (by decide) ?_
      refine lv_iconst (v := 0) hx hb dL_alike_74 (by decide) ?_
      obtain ⟨x29, e30, h⟩ := bd_e h
      refine o_cS X1 hA1 (stb_q hd21) Z hl.1 (kG_callq hG1 hN1 hlt hn (qk_e e30)) cw_L_194 ⟨Nat.le_of_ble_eq_true rfl, Nat.le_of_ble_eq_true rfl⟩ rfl rfl (Nat.le_of_ble_eq_true rfl) ⟨show k + 1 ≤ 199 by omega, show 6 * k + 6 ≤ 1194 by omega⟩ dL_alike_75 (fun H locs Z n31 => ?_)
      refine lv_aload_n hx hb dL_alike_78 rfl (lv_at hl 1 rfl) ?_
      refine lv_iconst (v := 2) hx hb dL_alike_79 (by decide) ?_
      refine lv_iload hx hb dL_alike_80 (lv_at hl 4 rfl) ?_
      refine lv_iconst (v := 0) hx hb dL_alike_82 (by decide) ?_
      refine lv_iconst (v := 0) hx hb dL_alike_83 (by decide) ?_
      obtain ⟨x32, e33, h⟩ := bd_e h
      refine o_cS X2 hA2 (stb_q hd12) Z.swap hl.1 (kG_callq hG2 hN2 hlt hn (qk_e e33)) cw_L_194 ⟨Nat.le_of_ble_eq_true rfl, Nat.le_of_ble_eq_true rfl⟩ rfl rfl (Nat.le_of_ble_eq_true rfl) ⟨show k + 1 + 1 ≤ 199 by omega, show 6 * k + 6 + 6 ≤ 1194 by omega⟩ dL_alike_84 (fun H locs Z n34 => ?_)
      have Z := Z.swap
      obtain ⟨z36, h⟩ := gd_e h
      refine lv_icmp_ne (tgt := 275) hx hb dL_alike_87 (by decide) (fun cn => absurd (of_decide_eq_true z36) cn) (fun c35 => ?_)
      refine lv_aload_n hx hb dL_alike_90 rfl (lv_at hl 0 rfl) ?_
      refine lv_iconst (v := 3) hx hb dL_alike_91 (by decide) ?_
      refine lv_iload hx hb dL_alike_92 (lv_at hl 4 rfl) ?_
      refine lv_iload_n hx hb dL_alike_94 rfl (lv_at hl 2 rfl) ?_
      refine lv_iconst (v := 4) hx hb dL_alike_95 (by decide) ?_
      refine lv_irem hx hb dL_alike_96 (by decide) ?_
      refine lv_iconst (v := 0) hx hb dL_alike_97 (by decide) ?_
      obtain ⟨x37, e38, h⟩ := bd_e h
      refine o_cS X1 hA1 (stb_q hd21) Z hl.1 (kG_callq hG1 hN1 hlt hn (qk_e e38)) cw_L_194 ⟨Nat.le_of_ble_eq_true rfl, Nat.le_of_ble_eq_true rfl⟩ rfl rfl (Nat.le_of_ble_eq_true rfl) ⟨show k + 1 + 1 + 1 ≤ 199 by omega, show 6 * k + 6 + 6 + 6 ≤ 1194 by omega⟩ dL_alike_98 (fun H locs Z n39 => ?_)
      refine lv_aload_n hx hb dL_alike_101 rfl (lv_at hl 1 rfl) ?_
      refine lv_iconst (v := 3) hx hb dL_alike_102 (by decide) ?_
      refine lv_iload hx hb dL_alike_103 (lv_at hl 4 rfl) ?_
      refine lv_iload_n hx hb dL_alike_105 rfl (lv_at hl 2 rfl) ?_
      refine lv_iconst (v := 4) hx hb dL_alike_106 (by decide) ?_
      refine lv_irem hx hb dL_alike_107 (by decide) ?_
      refine lv_iconst (v := 0) hx hb dL_alike_108 (by decide) ?_
      obtain ⟨x40, e41, h⟩ := bd_e h
      refine o_cS X2 hA2 (stb_q hd12) Z.swap hl.1 (kG_callq hG2 hN2 hlt hn (qk_e e41)) cw_L_194 ⟨Nat.le_of_ble_eq_true rfl, Nat.le_of_ble_eq_true rfl⟩ rfl rfl (Nat.le_of_ble_eq_true rfl) ⟨show k + 1 + 1 + 1 + 1 ≤ 199 by omega, show 6 * k + 6 + 6 + 6 + 6 ≤ 1194 by omega⟩ dL_alike_109 (fun H locs Z n42 => ?_)
      have Z := Z.swap
      obtain ⟨z44, h⟩ := gd_e h
      refine lv_icmp_ne (tgt := 275) hx hb dL_alike_112 (by decide) (fun cn => absurd (of_decide_eq_true z44) cn) (fun c43 => ?_)
      refine lv_aload_n hx hb dL_alike_115 rfl (lv_at hl 0 rfl) ?_
      refine lv_iconst (v := 4) hx hb dL_alike_116 (by decide) ?_
      refine lv_iload hx hb dL_alike_117 (lv_at hl 4 rfl) ?_
      refine lv_iload_n hx hb dL_alike_119 rfl (lv_at hl 2 rfl) ?_
      refine lv_bipush (v := 8) hx hb dL_alike_120 (by decide) ?_
      refine lv_irem hx hb dL_alike_122 (by decide) ?_
      refine lv_iconst (v := 0) hx hb dL_alike_123 (by decide) ?_
      obtain ⟨x45, e46, h⟩ := bd_e h
      refine o_cS X1 hA1 (stb_q hd21) Z hl.1 (kG_callq hG1 hN1 hlt hn (qk_e e46)) cw_L_194 ⟨Nat.le_of_ble_eq_true rfl, Nat.le_of_ble_eq_true rfl⟩ rfl rfl (Nat.le_of_ble_eq_true rfl) ⟨show k + 1 + 1 + 1 + 1 + 1 ≤ 199 by omega, show 6 * k + 6 + 6 + 6 + 6 + 6 ≤ 1194 by omega⟩ dL_alike_124 (fun H locs Z n47 => ?_)
      refine lv_aload_n hx hb dL_alike_127 rfl (lv_at hl 1 rfl) ?_
      refine lv_iconst (v := 4) hx hb dL_alike_128 (by decide) ?_
      refine lv_iload hx hb dL_alike_129 (lv_at hl 4 rfl) ?_
      refine lv_iload_n hx hb dL_alike_131 rfl (lv_at hl 2 rfl) ?_
      refine lv_bipush (v := 8) hx hb dL_alike_132 (by decide) ?_
      refine lv_irem hx hb dL_alike_134 (by decide) ?_
      refine lv_iconst (v := 0) hx hb dL_alike_135 (by decide) ?_
      obtain ⟨x48, e49, h⟩ := bd_e h
      refine o_cS X2 hA2 (stb_q hd12) Z.swap hl.1 (kG_callq hG2 hN2 hlt hn (qk_e e49)) cw_L_194 ⟨Nat.le_of_ble_eq_true rfl, Nat.le_of_ble_eq_true rfl⟩ rfl rfl (Nat.le_of_ble_eq_true rfl) ⟨show k + 1 + 1 + 1 + 1 + 1 + 1 ≤ 199 by omega, show 6 * k + 6 + 6 + 6 + 6 + 6 + 6 ≤ 1194 by omega⟩ dL_alike_136 (fun H locs Z n50 => ?_)
      have Z := Z.swap
      obtain ⟨z52, h⟩ := gd_e h
      refine lv_icmp_ne (tgt := 275) hx hb dL_alike_139 (by decide) (fun cn => absurd (of_decide_eq_true z52) cn) (fun c51 => ?_)
      refine lv_aload_n hx hb dL_alike_142 rfl (lv_at hl 0 rfl) ?_
      refine lv_iconst (v := 5) hx hb dL_alike_143 (by decide) ?_
      refine lv_iload hx hb dL_alike_144 (lv_at hl 4 rfl) ?_
      refine lv_iload_n hx hb dL_alike_146 rfl (lv_at hl 2 rfl) ?_
      refine lv_iconst (v := 5) hx hb dL_alike_147 (by decide) ?_
      refine lv_irem hx hb dL_alike_148 (by decide) ?_
      refine lv_iconst (v := 0) hx hb dL_alike_149 (by decide) ?_
      obtain ⟨x53, e54, h⟩ := bd_e h
      refine o_cS X1 hA1 (stb_q hd21) Z hl.1 (kG_callq hG1 hN1 hlt hn (qk_e e54)) cw_L_194 ⟨Nat.le_of_ble_eq_true rfl, Nat.le_of_ble_eq_true rfl⟩ rfl rfl (Nat.le_of_ble_eq_true rfl) ⟨show k + 1 + 1 + 1 + 1 + 1 + 1 + 1 ≤ 199 by omega, show 6 * k + 6 + 6 + 6 + 6 + 6 + 6 + 6 ≤ 1194 by omega⟩ dL_alike_150 (fun H locs Z n55 => ?_)
      refine lv_aload_n hx hb dL_alike_153 rfl (lv_at hl 1 rfl) ?_
      refine lv_iconst (v := 5) hx hb dL_alike_154 (by decide) ?_
      refine lv_iload hx hb dL_alike_155 (lv_at hl 4 rfl) ?_
      refine lv_iload_n hx hb dL_alike_157 rfl (lv_at hl 2 rfl) ?_
      refine lv_iconst (v := 5) hx hb dL_alike_158 (by decide) ?_
      refine lv_irem hx hb dL_alike_159 (by decide) ?_
      refine lv_iconst (v := 0) hx hb dL_alike_160 (by decide) ?_
      obtain ⟨x56, e57, h⟩ := bd_e h
      refine o_cS X2 hA2 (stb_q hd12) Z.swap hl.1 (kG_callq hG2 hN2 hlt hn (qk_e e57)) cw_L_194 ⟨Nat.le_of_ble_eq_true rfl, Nat.le_of_ble_eq_true rfl⟩ rfl rfl (Nat.le_of_ble_eq_true rfl) ⟨show k + 1 + 1 + 1 + 1 + 1 + 1 + 1 + 1 ≤ 199 by omega, show 6 * k + 6 + 6 + 6 + 6 + 6 + 6 + 6 + 6 ≤ 1194 by omega⟩ dL_alike_161 (fun H locs Z n58 => ?_)
      have Z := Z.swap
      obtain ⟨z60, h⟩ := gd_e h
      refine lv_icmp_ne (tgt := 275) hx hb dL_alike_164 (by decide) (fun cn => absurd (of_decide_eq_true z60) cn) (fun c59 => ?_)
      refine lv_aload_n hx hb dL_alike_167 rfl (lv_at hl 0 rfl) ?_
      refine lv_bipush (v := 6) hx hb dL_alike_168 (by decide) ?_
      refine lv_iload_n hx hb dL_alike_170 rfl (lv_at hl 2 rfl) ?_
      refine lv_iconst (v := 4) hx hb dL_alike_171 (by decide) ?_
      refine lv_irem hx hb dL_alike_172 (by decide) ?_
      refine lv_iload hx hb dL_alike_173 (lv_at hl 4 rfl) ?_
      refine lv_iload_n hx hb dL_alike_175 rfl (lv_at hl 2 rfl) ?_
      refine lv_iconst (v := 3) hx hb dL_alike_176 (by decide) ?_
      refine lv_irem hx hb dL_alike_177 (by decide) ?_
      obtain ⟨x61, e62, h⟩ := bd_e h
      refine o_cS X1 hA1 (stb_q hd21) Z hl.1 (kG_callq hG1 hN1 hlt hn (qk_e e62)) cw_L_194 ⟨Nat.le_of_ble_eq_true rfl, Nat.le_of_ble_eq_true rfl⟩ rfl rfl (Nat.le_of_ble_eq_true rfl) ⟨show k + 1 + 1 + 1 + 1 + 1 + 1 + 1 + 1 + 1 ≤ 199 by omega, show 6 * k + 6 + 6 + 6 + 6 + 6 + 6 + 6 + 6 + 6 ≤ 1194 by omega⟩ dL_alike_178 (fun H locs Z n63 => ?_)
      refine lv_aload_n hx hb dL_alike_181 rfl (lv_at hl 1 rfl) ?_
      refine lv_bipush (v := 6) hx hb dL_alike_182 (by decide) ?_
      refine lv_iload_n hx hb dL_alike_184 rfl (lv_at hl 2 rfl) ?_
      refine lv_iconst (v := 4) hx hb dL_alike_185 (by decide) ?_
      refine lv_irem hx hb dL_alike_186 (by decide) ?_
      refine lv_iload hx hb dL_alike_187 (lv_at hl 4 rfl) ?_
      refine lv_iload_n hx hb dL_alike_189 rfl (lv_at hl 2 rfl) ?_
      refine lv_iconst (v := 3) hx hb dL_alike_190 (by decide) ?_
      refine lv_irem hx hb dL_alike_191 (by decide) ?_
      obtain ⟨x64, e65, h⟩ := bd_e h
      refine o_cS X2 hA2 (stb_q hd12) Z.swap hl.1 (kG_callq hG2 hN2 hlt hn (qk_e e65)) cw_L_194 ⟨Nat.le_of_ble_eq_true rfl, Nat.le_of_ble_eq_true rfl⟩ rfl rfl (Nat.le_of_ble_eq_true rfl) ⟨show k + 1 + 1 + 1 + 1 + 1 + 1 + 1 + 1 + 1 + 1 ≤ 199 by omega, show 6 * k + 6 + 6 + 6 + 6 + 6 + 6 + 6 + 6 + 6 + 6 ≤ 1194 by omega⟩ dL_alike_192 (fun H locs Z n66 => ?_)
      have Z := Z.swap
      obtain ⟨z68, h⟩ := gd_e h
      refine lv_icmp_ne (tgt := 275) hx hb dL_alike_195 (by decide) (fun cn => absurd (of_decide_eq_true z68) cn) (fun c67 => ?_)
      refine lv_aload_n hx hb dL_alike_198 rfl (lv_at hl 0 rfl) ?_
      refine lv_bipush (v := 7) hx hb dL_alike_199 (by decide) ?_
      refine lv_iload hx hb dL_alike_201 (lv_at hl 4 rfl) ?_
      refine lv_iconst (v := 0) hx hb dL_alike_203 (by decide) ?_
      refine lv_iconst (v := 0) hx hb dL_alike_204 (by decide) ?_
      obtain ⟨x69, e70, h⟩ := bd_e h
      refine o_cS X1 hA1 (stb_q hd21) Z hl.1 (kG_callq hG1 hN1 hlt hn (qk_e e70)) cw_L_194 ⟨Nat.le_of_ble_eq_true rfl, Nat.le_of_ble_eq_true rfl⟩ rfl rfl (Nat.le_of_ble_eq_true rfl) ⟨show k + 1 + 1 + 1 + 1 + 1 + 1 + 1 + 1 + 1 + 1 + 1 ≤ 199 by omega, show 6 * k + 6 + 6 + 6 + 6 + 6 + 6 + 6 + 6 + 6 + 6 + 6 ≤ 1194 by omega⟩ dL_alike_205 (fun H locs Z n71 => ?_)
      refine lv_aload_n hx hb dL_alike_208 rfl (lv_at hl 1 rfl) ?_
      refine lv_bipush (v := 7) hx hb dL_alike_209 (by decide) ?_
      refine lv_iload hx hb dL_alike_211 (lv_at hl 4 rfl) ?_
      refine lv_iconst (v := 0) hx hb dL_alike_213 (by decide) ?_
      refine lv_iconst (v := 0) hx hb dL_alike_214 (by decide) ?_
      obtain ⟨x72, e73, h⟩ := bd_e h
      refine o_cS X2 hA2 (stb_q hd12) Z.swap hl.1 (kG_callq hG2 hN2 hlt hn (qk_e e73)) cw_L_194 ⟨Nat.le_of_ble_eq_true rfl, Nat.le_of_ble_eq_true rfl⟩ rfl rfl (Nat.le_of_ble_eq_true rfl) ⟨show k + 1 + 1 + 1 + 1 + 1 + 1 + 1 + 1 + 1 + 1 + 1 + 1 ≤ 199 by omega, show 6 * k + 6 + 6 + 6 + 6 + 6 + 6 + 6 + 6 + 6 + 6 + 6 + 6 ≤ 1194 by omega⟩ dL_alike_215 (fun H locs Z n74 => ?_)
      have Z := Z.swap
      obtain ⟨z76, h⟩ := gd_e h
      refine lv_icmp_ne (tgt := 275) hx hb dL_alike_218 (by decide) (fun cn => absurd (of_decide_eq_true z76) cn) (fun c75 => ?_)
      refine lv_aload_n hx hb dL_alike_221 rfl (lv_at hl 0 rfl) ?_
      refine lv_bipush (v := 23) hx hb dL_alike_222 (by decide) ?_
      refine lv_iload hx hb dL_alike_224 (lv_at hl 4 rfl) ?_
      refine lv_iconst (v := 0) hx hb dL_alike_226 (by decide) ?_
      refine lv_iconst (v := 0) hx hb dL_alike_227 (by decide) ?_
      obtain ⟨x77, e78, h⟩ := bd_e h
      refine o_cS X1 hA1 (stb_q hd21) Z hl.1 (kG_callq hG1 hN1 hlt hn (qk_e e78)) cw_L_194 ⟨Nat.le_of_ble_eq_true rfl, Nat.le_of_ble_eq_true rfl⟩ rfl rfl (Nat.le_of_ble_eq_true rfl) ⟨show k + 1 + 1 + 1 + 1 + 1 + 1 + 1 + 1 + 1 + 1 + 1 + 1 + 1 ≤ 199 by omega, show 6 * k + 6 + 6 + 6 + 6 + 6 + 6 + 6 + 6 + 6 + 6 + 6 + 6 + 6 ≤ 1194 by omega⟩ dL_alike_228 (fun H locs Z n79 => ?_)
      refine lv_aload_n hx hb dL_alike_231 rfl (lv_at hl 1 rfl) ?_
      refine lv_bipush (v := 23) hx hb dL_alike_232 (by decide) ?_
      refine lv_iload hx hb dL_alike_234 (lv_at hl 4 rfl) ?_
      refine lv_iconst (v := 0) hx hb dL_alike_236 (by decide) ?_
      refine lv_iconst (v := 0) hx hb dL_alike_237 (by decide) ?_
      obtain ⟨x80, e81, h⟩ := bd_e h
      refine o_cS X2 hA2 (stb_q hd12) Z.swap hl.1 (kG_callq hG2 hN2 hlt hn (qk_e e81)) cw_L_194 ⟨Nat.le_of_ble_eq_true rfl, Nat.le_of_ble_eq_true rfl⟩ rfl rfl (Nat.le_of_ble_eq_true rfl) ⟨show k + 1 + 1 + 1 + 1 + 1 + 1 + 1 + 1 + 1 + 1 + 1 + 1 + 1 + 1 ≤ 199 by omega, show 6 * k + 6 + 6 + 6 + 6 + 6 + 6 + 6 + 6 + 6 + 6 + 6 + 6 + 6 + 6 ≤ 1194 by omega⟩ dL_alike_238 (fun H locs Z n82 => ?_)
      have Z := Z.swap
      obtain ⟨z84, h⟩ := gd_e h
      refine lv_icmp_ne (tgt := 275) hx hb dL_alike_241 (by decide) (fun cn => absurd (of_decide_eq_true z84) cn) (fun c83 => ?_)
      refine lv_aload_n hx hb dL_alike_244 rfl (lv_at hl 0 rfl) ?_
      refine lv_bipush (v := 21) hx hb dL_alike_245 (by decide) ?_
      refine lv_iload hx hb dL_alike_247 (lv_at hl 4 rfl) ?_
      refine lv_iload_n hx hb dL_alike_249 rfl (lv_at hl 2 rfl) ?_
      refine lv_iconst (v := 4) hx hb dL_alike_250 (by decide) ?_
      refine lv_irem hx hb dL_alike_251 (by decide) ?_
      refine lv_iconst (v := 0) hx hb dL_alike_252 (by decide) ?_
      obtain ⟨x85, e86, h⟩ := bd_e h
      refine o_cS X1 hA1 (stb_q hd21) Z hl.1 (kG_callq hG1 hN1 hlt hn (qk_e e86)) cw_L_194 ⟨Nat.le_of_ble_eq_true rfl, Nat.le_of_ble_eq_true rfl⟩ rfl rfl (Nat.le_of_ble_eq_true rfl) ⟨show k + 1 + 1 + 1 + 1 + 1 + 1 + 1 + 1 + 1 + 1 + 1 + 1 + 1 + 1 + 1 ≤ 199 by omega, show 6 * k + 6 + 6 + 6 + 6 + 6 + 6 + 6 + 6 + 6 + 6 + 6 + 6 + 6 + 6 + 6 ≤ 1194 by omega⟩ dL_alike_253 (fun H locs Z n87 => ?_)
      refine lv_aload_n hx hb dL_alike_256 rfl (lv_at hl 1 rfl) ?_
      refine lv_bipush (v := 21) hx hb dL_alike_257 (by decide) ?_
      refine lv_iload hx hb dL_alike_259 (lv_at hl 4 rfl) ?_
      refine lv_iload_n hx hb dL_alike_261 rfl (lv_at hl 2 rfl) ?_
      refine lv_iconst (v := 4) hx hb dL_alike_262 (by decide) ?_
      refine lv_irem hx hb dL_alike_263 (by decide) ?_
      refine lv_iconst (v := 0) hx hb dL_alike_264 (by decide) ?_
      obtain ⟨x88, e89, h⟩ := bd_e h
      refine o_cS X2 hA2 (stb_q hd12) Z.swap hl.1 (kG_callq hG2 hN2 hlt hn (qk_e e89)) cw_L_194 ⟨Nat.le_of_ble_eq_true rfl, Nat.le_of_ble_eq_true rfl⟩ rfl rfl (Nat.le_of_ble_eq_true rfl) ⟨show k + 1 + 1 + 1 + 1 + 1 + 1 + 1 + 1 + 1 + 1 + 1 + 1 + 1 + 1 + 1 + 1 ≤ 199 by omega, show 6 * k + 6 + 6 + 6 + 6 + 6 + 6 + 6 + 6 + 6 + 6 + 6 + 6 + 6 + 6 + 6 + 6 ≤ 1194 by omega⟩ dL_alike_265 (fun H locs Z n90 => ?_)
      have Z := Z.swap
      obtain ⟨z92, h⟩ := gd_e h
      refine lv_icmp_ne (tgt := 275) hx hb dL_alike_268 (by decide) (fun cn => absurd (of_decide_eq_true z92) cn) (fun c91 => ?_)
      refine lv_iconst (v := 1) hx hb dL_alike_271 (by decide) ?_
      refine lv_goto (tgt := 276) hx hb dL_alike_272 (by decide) ?_
      refine lv_istore_n (lv' := [(3, .int 1), (0, .ref (ga G1 18 0)), (1, .ref (ga G2 18 0)), (2, .int y2), (4, .int y4)]) hx hb dL_alike_276 rfl hl (by decide) rfl (fun ls hl => ?_)
      obtain ⟨x93, e94, h⟩ := lt_e h
      refine lv_iinc (v := x93) (lv' := [(4, .int x93), (3, .int 1), (0, .ref (ga G1 18 0)), (1, .ref (ga G2 18 0)), (2, .int y2)]) hx hb dL_alike_277 hl (k := 4) rfl (by rw [e94]; rfl) (by decide) rfl (fun ls hl => ?_)
      refine lv_goto (tgt := 58) hx hb dL_alike_280 (by decide) ?_
      refine W.widen (k := k + 16) (n := 6 * (k + 16)) (by omega) (by omega) ?_
      exact ih (k + 16) _ _ _ _ _ _ h (by omega) Z (lv_sub hl [2, 3, 4, 1, 0] rfl)
noncomputable def fL_alike (M : Nat → Nat → Int32) (a1 : Int32) : Option Int32 :=
  bd (qk (rsim M ((a1 : Int32).toInt64) (1 + (a1 - a1 / 40 * 40))) M) fun x1 =>
  bd (qk (rsim M ((a1 : Int32).toInt64) (1 + (a1 - a1 / 40 * 40))) M) fun x4 =>
  gd (decide (x1 = x4)) <|
  bd (qk (rbest M) M) fun x9 =>
  bd (qk (rbest M) M) fun x12 =>
  gd (decide (x9 = x12)) <|
  bd (qk (rworst M) M) fun x17 =>
  bd (qk (rworst M) M) fun x20 =>
  gd (decide (x17 = x20)) <|
  fL_alike_L58 M 12 a1 1 0
set_option maxHeartbeats 8000000 in
set_option maxRecDepth 20000 in
theorem kL_alike {l : Launch} {G1 G2 : UG} {A : Nat → Prop} (hG1 : uAll G1) (hG2 : uAll G2) (hN1 : uNo G1) (hN2 : uNo G2) (hlt : l.stackTraces = false) {n : Nat} (hn : n ≤ 850) {M : Nat → Nat → Int32} (hA1 : ∀ q, uA G1 q → A q) (hA2 : ∀ q, uA G2 q → A q) (hd12 : ∀ q, uA G1 q → uA G2 q → False) {a1 : Int32} {r : Int32} (h : fL_alike M a1 = some r) : uG2 l A G1 G2 yL_alike cL_alike 5 .boolean 11 199 1194 214 [.ref (ga G1 18 0), .ref (ga G2 18 0), .int a1] n M r n M := by
  have hd21 : ∀ q, uA G2 q → uA G1 q → False := fun q a b => hd12 q b a
  refine uG2_body rfl (Nat.le_of_ble_eq_true rfl) (fun p e s m args below meth c ls X1 X2 hret hl Z => ?_)
  have hx := X1.hx
  have hb := X1.hb
  have hl : lv_has ls 5 [(0, .ref (ga G1 18 0)), (1, .ref (ga G2 18 0)), (2, .int a1)] := hl
  unfold fL_alike at h
  refine lv_aload_n hx hb dL_alike_0 rfl (lv_at hl 0 rfl) ?_
  refine lv_iload_n hx hb dL_alike_1 rfl (lv_at hl 2 rfl) ?_
  refine lv_i2l hx hb dL_alike_2 rfl ?_
  refine lv_iconst (v := 1) hx hb dL_alike_3 (by decide) ?_
  refine lv_iload_n hx hb dL_alike_4 rfl (lv_at hl 2 rfl) ?_
  refine lv_bipush (v := 40) hx hb dL_alike_5 (by decide) ?_
  refine lv_irem hx hb dL_alike_7 (by decide) ?_
  refine lv_iadd hx hb dL_alike_8 ?_
  obtain ⟨x1, e2, h⟩ := bd_e h
  refine o_cH X1 hA1 (stb_q hd21) Z hl.1 (kG_sim hG1 hN1 hlt hn (qk_e e2)) cl_204 ⟨Nat.le_of_ble_eq_true rfl, Nat.le_of_ble_eq_true rfl⟩ rfl rfl (Nat.le_of_ble_eq_true rfl) ⟨Nat.le_of_ble_eq_true rfl, Nat.le_of_ble_eq_true rfl⟩ dL_alike_9 (fun H locs Z n3 => ?_)
  refine lv_aload_n hx hb dL_alike_12 rfl (lv_at hl 1 rfl) ?_
  refine lv_iload_n hx hb dL_alike_13 rfl (lv_at hl 2 rfl) ?_
  refine lv_i2l hx hb dL_alike_14 rfl ?_
  refine lv_iconst (v := 1) hx hb dL_alike_15 (by decide) ?_
  refine lv_iload_n hx hb dL_alike_16 rfl (lv_at hl 2 rfl) ?_
  refine lv_bipush (v := 40) hx hb dL_alike_17 (by decide) ?_
  refine lv_irem hx hb dL_alike_19 (by decide) ?_
  refine lv_iadd hx hb dL_alike_20 ?_
  obtain ⟨x4, e5, h⟩ := bd_e h
  refine o_cH X2 hA2 (stb_q hd12) Z.swap hl.1 (kG_sim hG2 hN2 hlt hn (qk_e e5)) cl_204 ⟨Nat.le_of_ble_eq_true rfl, Nat.le_of_ble_eq_true rfl⟩ rfl rfl (Nat.le_of_ble_eq_true rfl) ⟨Nat.le_of_ble_eq_true rfl, Nat.le_of_ble_eq_true rfl⟩ dL_alike_21 (fun H locs Z n6 => ?_)
  have Z := Z.swap
  obtain ⟨z8, h⟩ := gd_e h
  refine lv_icmp_ne (tgt := 53) hx hb dL_alike_24 (by decide) (fun cn => absurd (of_decide_eq_true z8) cn) (fun c7 => ?_)
  refine lv_aload_n hx hb dL_alike_27 rfl (lv_at hl 0 rfl) ?_
  obtain ⟨x9, e10, h⟩ := bd_e h
  refine o_cV X1 hA1 (stb_q hd21) hG1 Z hl.1 (kG_best hG1 hN1 hn (qk_e e10)) cw_L_211 ⟨Nat.le_of_ble_eq_true rfl, Nat.le_of_ble_eq_true rfl⟩ rfl rfl (Nat.le_of_ble_eq_true rfl) ⟨Nat.le_of_ble_eq_true rfl, Nat.le_of_ble_eq_true rfl⟩ dL_alike_28 (fun H locs Z n11 => ?_)
  refine lv_aload_n hx hb dL_alike_31 rfl (lv_at hl 1 rfl) ?_
  obtain ⟨x12, e13, h⟩ := bd_e h
  refine o_cV X2 hA2 (stb_q hd12) hG2 Z.swap hl.1 (kG_best hG2 hN2 hn (qk_e e13)) cw_L_211 ⟨Nat.le_of_ble_eq_true rfl, Nat.le_of_ble_eq_true rfl⟩ rfl rfl (Nat.le_of_ble_eq_true rfl) ⟨Nat.le_of_ble_eq_true rfl, Nat.le_of_ble_eq_true rfl⟩ dL_alike_32 (fun H locs Z n14 => ?_)
  have Z := Z.swap
  obtain ⟨z16, h⟩ := gd_e h
  refine lv_icmp_ne (tgt := 53) hx hb dL_alike_35 (by decide) (fun cn => absurd (of_decide_eq_true z16) cn) (fun c15 => ?_)
  refine lv_aload_n hx hb dL_alike_38 rfl (lv_at hl 0 rfl) ?_
  obtain ⟨x17, e18, h⟩ := bd_e h
  refine o_cV X1 hA1 (stb_q hd21) hG1 Z hl.1 (kG_worst hG1 hN1 (qk_e e18)) cw_L_208 ⟨Nat.le_of_ble_eq_true rfl, Nat.le_of_ble_eq_true rfl⟩ rfl rfl (Nat.le_of_ble_eq_true rfl) ⟨Nat.le_of_ble_eq_true rfl, Nat.le_of_ble_eq_true rfl⟩ dL_alike_39 (fun H locs Z n19 => ?_)
  refine lv_aload_n hx hb dL_alike_42 rfl (lv_at hl 1 rfl) ?_
  obtain ⟨x20, e21, h⟩ := bd_e h
  refine o_cV X2 hA2 (stb_q hd12) hG2 Z.swap hl.1 (kG_worst hG2 hN2 (qk_e e21)) cw_L_208 ⟨Nat.le_of_ble_eq_true rfl, Nat.le_of_ble_eq_true rfl⟩ rfl rfl (Nat.le_of_ble_eq_true rfl) ⟨Nat.le_of_ble_eq_true rfl, Nat.le_of_ble_eq_true rfl⟩ dL_alike_43 (fun H locs Z n22 => ?_)
  have Z := Z.swap
  obtain ⟨z24, h⟩ := gd_e h
  refine lv_icmp_ne (tgt := 53) hx hb dL_alike_46 (by decide) (fun cn => absurd (of_decide_eq_true z24) cn) (fun c23 => ?_)
  refine lv_iconst (v := 1) hx hb dL_alike_49 (by decide) ?_
  refine lv_goto (tgt := 54) hx hb dL_alike_50 (by decide) ?_
  refine lv_istore_n (lv' := [(3, .int 1), (0, .ref (ga G1 18 0)), (1, .ref (ga G2 18 0)), (2, .int a1)]) hx hb dL_alike_54 rfl hl (by decide) rfl (fun ls hl => ?_)
  refine lv_iconst (v := 0) hx hb dL_alike_55 (by decide) ?_
  refine lv_istore (lv' := [(4, .int 0), (3, .int 1), (0, .ref (ga G1 18 0)), (1, .ref (ga G2 18 0)), (2, .int a1)]) hx hb dL_alike_56 hl (by decide) rfl (fun ls hl => ?_)
  refine W.widen (k := 2) (n := 6 * (2)) (by omega) (by omega) ?_
  exact lpL_alike_58 hG1 hG2 hN1 hN2 hlt hn hA1 hA2 hd12 X1 X2 hret 12 _ _ _ _ _ _ _ h (by omega) Z (lv_sub hl [2, 3, 4, 1, 0] rfl)
