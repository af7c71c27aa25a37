theorem dX2_length_0 : decode cX2_length 0 = .ok (.aload_n 0, 1) := by decide +kernel
theorem dX2_length_1 : decode cX2_length 1 = .ok (.getfield 20, 3) := by decide +kernel
theorem dX2_length_4 : decode cX2_length 4 = .ok (.ireturn, 1) := by decide +kernel
theorem dX2_sign_0 : decode cX2_sign 0 = .ok (.aload_n 0, 1) := by decide +kernel
theorem dX2_sign_1 : decode cX2_sign 1 = .ok (.getfield 14, 3) := by decide +kernel
theorem dX2_sign_4 : decode cX2_sign 4 = .ok (.iload_n 1, 1) := by decide +kernel
theorem dX2_sign_5 : decode cX2_sign 5 = .ok (.invokevirtual 24, 3) := by decide +kernel
theorem dX2_sign_8 : decode cX2_sign 8 = .ok (.ireturn, 1) := by decide +kernel
theorem dX2_digit_0 : decode cX2_digit 0 = .ok (.aload_n 0, 1) := by decide +kernel
theorem dX2_digit_1 : decode cX2_digit 1 = .ok (.getfield 14, 3) := by decide +kernel
theorem dX2_digit_4 : decode cX2_digit 4 = .ok (.iload_n 1, 1) := by decide +kernel
theorem dX2_digit_5 : decode cX2_digit 5 = .ok (.invokevirtual 24, 3) := by decide +kernel
theorem dX2_digit_8 : decode cX2_digit 8 = .ok (.bipush 48, 2) := by decide +kernel
theorem dX2_digit_10 : decode cX2_digit 10 = .ok (.isub, 1) := by decide +kernel
theorem dX2_digit_11 : decode cX2_digit 11 = .ok (.ireturn, 1) := by decide +kernel
theorem dX2_twoDigits_0 : decode cX2_twoDigits 0 = .ok (.bipush 10, 2) := by decide +kernel
theorem dX2_twoDigits_2 : decode cX2_twoDigits 2 = .ok (.aload_n 0, 1) := by decide +kernel
theorem dX2_twoDigits_3 : decode cX2_twoDigits 3 = .ok (.iload_n 1, 1) := by decide +kernel
theorem dX2_twoDigits_4 : decode cX2_twoDigits 4 = .ok (.invokevirtual 28, 3) := by decide +kernel
theorem dX2_twoDigits_7 : decode cX2_twoDigits 7 = .ok (.imul, 1) := by decide +kernel
theorem dX2_twoDigits_8 : decode cX2_twoDigits 8 = .ok (.aload_n 0, 1) := by decide +kernel
theorem dX2_twoDigits_9 : decode cX2_twoDigits 9 = .ok (.iload_n 1, 1) := by decide +kernel
theorem dX2_twoDigits_10 : decode cX2_twoDigits 10 = .ok (.iconst 1, 1) := by decide +kernel
theorem dX2_twoDigits_11 : decode cX2_twoDigits 11 = .ok (.iadd, 1) := by decide +kernel
theorem dX2_twoDigits_12 : decode cX2_twoDigits 12 = .ok (.invokevirtual 28, 3) := by decide +kernel
theorem dX2_twoDigits_15 : decode cX2_twoDigits 15 = .ok (.iadd, 1) := by decide +kernel
theorem dX2_twoDigits_16 : decode cX2_twoDigits 16 = .ok (.ireturn, 1) := by decide +kernel
theorem dX2_add_0 : decode cX2_add 0 = .ok (.aload_n 0, 1) := by decide +kernel
theorem dX2_add_1 : decode cX2_add 1 = .ok (.getfield 14, 3) := by decide +kernel
theorem dX2_add_4 : decode cX2_add 4 = .ok (.aload_n 0, 1) := by decide +kernel
theorem dX2_add_5 : decode cX2_add 5 = .ok (.getfield 20, 3) := by decide +kernel
theorem dX2_add_8 : decode cX2_add 8 = .ok (.iload_n 1, 1) := by decide +kernel
theorem dX2_add_9 : decode cX2_add 9 = .ok (.invokevirtual 31, 3) := by decide +kernel
theorem dX2_add_12 : decode cX2_add 12 = .ok (.aload_n 0, 1) := by decide +kernel
theorem dX2_add_13 : decode cX2_add 13 = .ok (.dup, 1) := by decide +kernel
theorem dX2_add_14 : decode cX2_add 14 = .ok (.getfield 20, 3) := by decide +kernel
theorem dX2_add_17 : decode cX2_add 17 = .ok (.iconst 1, 1) := by decide +kernel
theorem dX2_add_18 : decode cX2_add 18 = .ok (.iadd, 1) := by decide +kernel
theorem dX2_add_19 : decode cX2_add 19 = .ok (.putfield 20, 3) := by decide +kernel
theorem dX2_add_22 : decode cX2_add 22 = .ok (.aload_n 0, 1) := by decide +kernel
theorem dX2_add_23 : decode cX2_add 23 = .ok (.getfield 20, 3) := by decide +kernel
theorem dX2_add_26 : decode cX2_add 26 = .ok (.ireturn, 1) := by decide +kernel
theorem dX2_empty_0 : decode cX2_empty 0 = .ok (.aload_n 0, 1) := by decide +kernel
theorem dX2_empty_1 : decode cX2_empty 1 = .ok (.getfield 20, 3) := by decide +kernel
theorem dX2_empty_4 : decode cX2_empty 4 = .ok (.istore_n 1, 1) := by decide +kernel
theorem dX2_empty_5 : decode cX2_empty 5 = .ok (.aload_n 0, 1) := by decide +kernel
theorem dX2_empty_6 : decode cX2_empty 6 = .ok (.iconst 0, 1) := by decide +kernel
theorem dX2_empty_7 : decode cX2_empty 7 = .ok (.putfield 20, 3) := by decide +kernel
theorem dX2_empty_10 : decode cX2_empty 10 = .ok (.iload_n 1, 1) := by decide +kernel
theorem dX2_empty_11 : decode cX2_empty 11 = .ok (.ireturn, 1) := by decide +kernel
theorem dX2_digitsOf_0 : decode cX2_digitsOf 0 = .ok (.iload_n 0, 1) := by decide +kernel
theorem dX2_digitsOf_1 : decode cX2_digitsOf 1 = .ok (.tableswitch 97 99 117 #[91, 91, 97, 97, 97, 97, 93, 97, 97, 97, 93, 97, 91, 97, 97, 93, 97, 95, 91], 91) := by decide +kernel
theorem dX2_digitsOf_92 : decode cX2_digitsOf 92 = .ok (.iconst 1, 1) := by decide +kernel
theorem dX2_digitsOf_93 : decode cX2_digitsOf 93 = .ok (.ireturn, 1) := by decide +kernel
theorem dX2_digitsOf_94 : decode cX2_digitsOf 94 = .ok (.iconst 2, 1) := by decide +kernel
theorem dX2_digitsOf_95 : decode cX2_digitsOf 95 = .ok (.ireturn, 1) := by decide +kernel
theorem dX2_digitsOf_96 : decode cX2_digitsOf 96 = .ok (.iconst 3, 1) := by decide +kernel
theorem dX2_digitsOf_97 : decode cX2_digitsOf 97 = .ok (.ireturn, 1) := by decide +kernel
theorem dX2_digitsOf_98 : decode cX2_digitsOf 98 = .ok (.iconst 0, 1) := by decide +kernel
theorem dX2_digitsOf_99 : decode cX2_digitsOf 99 = .ok (.ireturn, 1) := by decide +kernel
theorem dX2_isAllowed_0 : decode cX2_isAllowed 0 = .ok (.aload_n 0, 1) := by decide +kernel
theorem dX2_isAllowed_1 : decode cX2_isAllowed 1 = .ok (.iload_n 1, 1) := by decide +kernel
theorem dX2_isAllowed_2 : decode cX2_isAllowed 2 = .ok (.iload_n 2, 1) := by decide +kernel
theorem dX2_isAllowed_3 : decode cX2_isAllowed 3 = .ok (.iadd, 1) := by decide +kernel
theorem dX2_isAllowed_4 : decode cX2_isAllowed 4 = .ok (.invokevirtual 28, 3) := by decide +kernel
theorem dX2_isAllowed_7 : decode cX2_isAllowed 7 = .ok (.istore_n 3, 1) := by decide +kernel
theorem dX2_isAllowed_8 : decode cX2_isAllowed 8 = .ok (.iload_n 3, 1) := by decide +kernel
theorem dX2_isAllowed_9 : decode cX2_isAllowed 9 = .ok (.ifCond .lt 9, 3) := by decide +kernel
theorem dX2_isAllowed_12 : decode cX2_isAllowed 12 = .ok (.iload_n 3, 1) := by decide +kernel
theorem dX2_isAllowed_13 : decode cX2_isAllowed 13 = .ok (.bipush 9, 2) := by decide +kernel
theorem dX2_isAllowed_15 : decode cX2_isAllowed 15 = .ok (.if_icmp .le 5, 3) := by decide +kernel
theorem dX2_isAllowed_18 : decode cX2_isAllowed 18 = .ok (.iconst 0, 1) := by decide +kernel
theorem dX2_isAllowed_19 : decode cX2_isAllowed 19 = .ok (.ireturn, 1) := by decide +kernel
theorem dX2_isAllowed_20 : decode cX2_isAllowed 20 = .ok (.aload_n 0, 1) := by decide +kernel
theorem dX2_isAllowed_21 : decode cX2_isAllowed 21 = .ok (.iload_n 1, 1) := by decide +kernel
theorem dX2_isAllowed_22 : decode cX2_isAllowed 22 = .ok (.iload_n 2, 1) := by decide +kernel
theorem dX2_isAllowed_23 : decode cX2_isAllowed 23 = .ok (.iadd, 1) := by decide +kernel
theorem dX2_isAllowed_24 : decode cX2_isAllowed 24 = .ok (.iconst 1, 1) := by decide +kernel
theorem dX2_isAllowed_25 : decode cX2_isAllowed 25 = .ok (.isub, 1) := by decide +kernel
theorem dX2_isAllowed_26 : decode cX2_isAllowed 26 = .ok (.invokevirtual 28, 3) := by decide +kernel
theorem dX2_isAllowed_29 : decode cX2_isAllowed 29 = .ok (.istore 4, 2) := by decide +kernel
theorem dX2_isAllowed_31 : decode cX2_isAllowed 31 = .ok (.aload_n 0, 1) := by decide +kernel
theorem dX2_isAllowed_32 : decode cX2_isAllowed 32 = .ok (.iload_n 1, 1) := by decide +kernel
theorem dX2_isAllowed_33 : decode cX2_isAllowed 33 = .ok (.invokevirtual 35, 3) := by decide +kernel
theorem dX2_isAllowed_36 : decode cX2_isAllowed 36 = .ok (.tableswitch 207 100 117 #[104, 207, 207, 207, 207, 207, 207, 207, 207, 154, 207, 104, 207, 207, 88, 207, 115, 104], 88) := by decide +kernel
theorem dX2_isAllowed_124 : decode cX2_isAllowed 124 = .ok (.iload_n 2, 1) := by decide +kernel
theorem dX2_isAllowed_125 : decode cX2_isAllowed 125 = .ok (.iconst 1, 1) := by decide +kernel
theorem dX2_isAllowed_126 : decode cX2_isAllowed 126 = .ok (.if_icmp .eq 8, 3) := by decide +kernel
theorem dX2_isAllowed_129 : decode cX2_isAllowed 129 = .ok (.iload_n 3, 1) := by decide +kernel
theorem dX2_isAllowed_130 : decode cX2_isAllowed 130 = .ok (.iconst 4, 1) := by decide +kernel
theorem dX2_isAllowed_131 : decode cX2_isAllowed 131 = .ok (.if_icmp .ge 7, 3) := by decide +kernel
theorem dX2_isAllowed_134 : decode cX2_isAllowed 134 = .ok (.iconst 1, 1) := by decide +kernel
theorem dX2_isAllowed_135 : decode cX2_isAllowed 135 = .ok (.goto 4, 3) := by decide +kernel
theorem dX2_isAllowed_138 : decode cX2_isAllowed 138 = .ok (.iconst 0, 1) := by decide +kernel
theorem dX2_isAllowed_139 : decode cX2_isAllowed 139 = .ok (.ireturn, 1) := by decide +kernel
theorem dX2_isAllowed_140 : decode cX2_isAllowed 140 = .ok (.iload_n 3, 1) := by decide +kernel
theorem dX2_isAllowed_141 : decode cX2_isAllowed 141 = .ok (.iconst 4, 1) := by decide +kernel
theorem dX2_isAllowed_142 : decode cX2_isAllowed 142 = .ok (.if_icmp .ge 7, 3) := by decide +kernel
theorem dX2_isAllowed_145 : decode cX2_isAllowed 145 = .ok (.iconst 1, 1) := by decide +kernel
theorem dX2_isAllowed_146 : decode cX2_isAllowed 146 = .ok (.goto 4, 3) := by decide +kernel
theorem dX2_isAllowed_149 : decode cX2_isAllowed 149 = .ok (.iconst 0, 1) := by decide +kernel
theorem dX2_isAllowed_150 : decode cX2_isAllowed 150 = .ok (.ireturn, 1) := by decide +kernel
theorem dX2_isAllowed_151 : decode cX2_isAllowed 151 = .ok (.iload_n 2, 1) := by decide +kernel
theorem dX2_isAllowed_152 : decode cX2_isAllowed 152 = .ok (.iconst 1, 1) := by decide +kernel
theorem dX2_isAllowed_153 : decode cX2_isAllowed 153 = .ok (.if_icmp .ne 17, 3) := by decide +kernel
theorem dX2_isAllowed_156 : decode cX2_isAllowed 156 = .ok (.iload_n 3, 1) := by decide +kernel
theorem dX2_isAllowed_157 : decode cX2_isAllowed 157 = .ok (.bipush 8, 2) := by decide +kernel
theorem dX2_isAllowed_159 : decode cX2_isAllowed 159 = .ok (.if_icmp .ge 7, 3) := by decide +kernel
theorem dX2_isAllowed_162 : decode cX2_isAllowed 162 = .ok (.iconst 1, 1) := by decide +kernel
theorem dX2_isAllowed_163 : decode cX2_isAllowed 163 = .ok (.goto 26, 3) := by decide +kernel
theorem dX2_isAllowed_166 : decode cX2_isAllowed 166 = .ok (.iconst 0, 1) := by decide +kernel
theorem dX2_isAllowed_167 : decode cX2_isAllowed 167 = .ok (.goto 22, 3) := by decide +kernel
theorem dX2_isAllowed_170 : decode cX2_isAllowed 170 = .ok (.iload_n 2, 1) := by decide +kernel
theorem dX2_isAllowed_171 : decode cX2_isAllowed 171 = .ok (.iconst 2, 1) := by decide +kernel
theorem dX2_isAllowed_172 : decode cX2_isAllowed 172 = .ok (.if_icmp .eq 12, 3) := by decide +kernel
theorem dX2_isAllowed_175 : decode cX2_isAllowed 175 = .ok (.iload 4, 2) := by decide +kernel
theorem dX2_isAllowed_177 : decode cX2_isAllowed 177 = .ok (.ifCond .gt 7, 3) := by decide +kernel
theorem dX2_isAllowed_180 : decode cX2_isAllowed 180 = .ok (.iload_n 3, 1) := by decide +kernel
theorem dX2_isAllowed_181 : decode cX2_isAllowed 181 = .ok (.ifCond .le 7, 3) := by decide +kernel
theorem dX2_isAllowed_184 : decode cX2_isAllowed 184 = .ok (.iconst 1, 1) := by decide +kernel
theorem dX2_isAllowed_185 : decode cX2_isAllowed 185 = .ok (.goto 4, 3) := by decide +kernel
theorem dX2_isAllowed_188 : decode cX2_isAllowed 188 = .ok (.iconst 0, 1) := by decide +kernel
theorem dX2_isAllowed_189 : decode cX2_isAllowed 189 = .ok (.ireturn, 1) := by decide +kernel
theorem dX2_isAllowed_190 : decode cX2_isAllowed 190 = .ok (.iload_n 2, 1) := by decide +kernel
theorem dX2_isAllowed_191 : decode cX2_isAllowed 191 = .ok (.iconst 1, 1) := by decide +kernel
theorem dX2_isAllowed_192 : decode cX2_isAllowed 192 = .ok (.if_icmp .ne 17, 3) := by decide +kernel
theorem dX2_isAllowed_195 : decode cX2_isAllowed 195 = .ok (.iload_n 3, 1) := by decide +kernel
theorem dX2_isAllowed_196 : decode cX2_isAllowed 196 = .ok (.bipush 6, 2) := by decide +kernel
theorem dX2_isAllowed_198 : decode cX2_isAllowed 198 = .ok (.if_icmp .gt 7, 3) := by decide +kernel
theorem dX2_isAllowed_201 : decode cX2_isAllowed 201 = .ok (.iconst 1, 1) := by decide +kernel
theorem dX2_isAllowed_202 : decode cX2_isAllowed 202 = .ok (.goto 40, 3) := by decide +kernel
theorem dX2_isAllowed_205 : decode cX2_isAllowed 205 = .ok (.iconst 0, 1) := by decide +kernel
theorem dX2_isAllowed_206 : decode cX2_isAllowed 206 = .ok (.goto 36, 3) := by decide +kernel
theorem dX2_isAllowed_209 : decode cX2_isAllowed 209 = .ok (.iload 4, 2) := by decide +kernel
theorem dX2_isAllowed_211 : decode cX2_isAllowed 211 = .ok (.ifCond .ne 15, 3) := by decide +kernel
theorem dX2_isAllowed_214 : decode cX2_isAllowed 214 = .ok (.iload_n 3, 1) := by decide +kernel
theorem dX2_isAllowed_215 : decode cX2_isAllowed 215 = .ok (.ifCond .le 7, 3) := by decide +kernel
theorem dX2_isAllowed_218 : decode cX2_isAllowed 218 = .ok (.iconst 1, 1) := by decide +kernel
theorem dX2_isAllowed_219 : decode cX2_isAllowed 219 = .ok (.goto 23, 3) := by decide +kernel
theorem dX2_isAllowed_222 : decode cX2_isAllowed 222 = .ok (.iconst 0, 1) := by decide +kernel
theorem dX2_isAllowed_223 : decode cX2_isAllowed 223 = .ok (.goto 19, 3) := by decide +kernel
theorem dX2_isAllowed_226 : decode cX2_isAllowed 226 = .ok (.iload 4, 2) := by decide +kernel
theorem dX2_isAllowed_228 : decode cX2_isAllowed 228 = .ok (.bipush 6, 2) := by decide +kernel
theorem dX2_isAllowed_230 : decode cX2_isAllowed 230 = .ok (.if_icmp .lt 7, 3) := by decide +kernel
theorem dX2_isAllowed_233 : decode cX2_isAllowed 233 = .ok (.iload_n 3, 1) := by decide +kernel
theorem dX2_isAllowed_234 : decode cX2_isAllowed 234 = .ok (.ifCond .ne 7, 3) := by decide +kernel
theorem dX2_isAllowed_237 : decode cX2_isAllowed 237 = .ok (.iconst 1, 1) := by decide +kernel
theorem dX2_isAllowed_238 : decode cX2_isAllowed 238 = .ok (.goto 4, 3) := by decide +kernel
theorem dX2_isAllowed_241 : decode cX2_isAllowed 241 = .ok (.iconst 0, 1) := by decide +kernel
theorem dX2_isAllowed_242 : decode cX2_isAllowed 242 = .ok (.ireturn, 1) := by decide +kernel
theorem dX2_isAllowed_243 : decode cX2_isAllowed 243 = .ok (.iconst 1, 1) := by decide +kernel
theorem dX2_isAllowed_244 : decode cX2_isAllowed 244 = .ok (.ireturn, 1) := by decide +kernel
theorem dX2_firstError_0 : decode cX2_firstError 0 = .ok (.aload_n 0, 1) := by decide +kernel
theorem dX2_firstError_1 : decode cX2_firstError 1 = .ok (.getfield 20, 3) := by decide +kernel
theorem dX2_firstError_4 : decode cX2_firstError 4 = .ok (.ifCond .eq 13, 3) := by decide +kernel
theorem dX2_firstError_7 : decode cX2_firstError 7 = .ok (.aload_n 0, 1) := by decide +kernel
theorem dX2_firstError_8 : decode cX2_firstError 8 = .ok (.iconst 0, 1) := by decide +kernel
theorem dX2_firstError_9 : decode cX2_firstError 9 = .ok (.invokevirtual 35, 3) := by decide +kernel
theorem dX2_firstError_12 : decode cX2_firstError 12 = .ok (.bipush 79, 2) := by decide +kernel
theorem dX2_firstError_14 : decode cX2_firstError 14 = .ok (.if_icmp .eq 5, 3) := by decide +kernel
theorem dX2_firstError_17 : decode cX2_firstError 17 = .ok (.iconst 0, 1) := by decide +kernel
theorem dX2_firstError_18 : decode cX2_firstError 18 = .ok (.ireturn, 1) := by decide +kernel
theorem dX2_firstError_19 : decode cX2_firstError 19 = .ok (.iconst 1, 1) := by decide +kernel
theorem dX2_firstError_20 : decode cX2_firstError 20 = .ok (.istore_n 1, 1) := by decide +kernel
theorem dX2_firstError_21 : decode cX2_firstError 21 = .ok (.iload_n 1, 1) := by decide +kernel
theorem dX2_firstError_22 : decode cX2_firstError 22 = .ok (.aload_n 0, 1) := by decide +kernel
theorem dX2_firstError_23 : decode cX2_firstError 23 = .ok (.getfield 20, 3) := by decide +kernel
theorem dX2_firstError_26 : decode cX2_firstError 26 = .ok (.if_icmp .ge 63, 3) := by decide +kernel
theorem dX2_firstError_29 : decode cX2_firstError 29 = .ok (.aload_n 0, 1) := by decide +kernel
theorem dX2_firstError_30 : decode cX2_firstError 30 = .ok (.iload_n 1, 1) := by decide +kernel
theorem dX2_firstError_31 : decode cX2_firstError 31 = .ok (.invokevirtual 35, 3) := by decide +kernel
theorem dX2_firstError_34 : decode cX2_firstError 34 = .ok (.invokestatic 38, 3) := by decide +kernel
theorem dX2_firstError_37 : decode cX2_firstError 37 = .ok (.istore_n 2, 1) := by decide +kernel
theorem dX2_firstError_38 : decode cX2_firstError 38 = .ok (.iload_n 2, 1) := by decide +kernel
theorem dX2_firstError_39 : decode cX2_firstError 39 = .ok (.ifCond .ne 5, 3) := by decide +kernel
theorem dX2_firstError_42 : decode cX2_firstError 42 = .ok (.iload_n 1, 1) := by decide +kernel
theorem dX2_firstError_43 : decode cX2_firstError 43 = .ok (.ireturn, 1) := by decide +kernel
theorem dX2_firstError_44 : decode cX2_firstError 44 = .ok (.iconst 1, 1) := by decide +kernel
theorem dX2_firstError_45 : decode cX2_firstError 45 = .ok (.istore_n 3, 1) := by decide +kernel
theorem dX2_firstError_46 : decode cX2_firstError 46 = .ok (.iload_n 3, 1) := by decide +kernel
theorem dX2_firstError_47 : decode cX2_firstError 47 = .ok (.iload_n 2, 1) := by decide +kernel
theorem dX2_firstError_48 : decode cX2_firstError 48 = .ok (.if_icmp .gt 32, 3) := by decide +kernel
theorem dX2_firstError_51 : decode cX2_firstError 51 = .ok (.iload_n 1, 1) := by decide +kernel
theorem dX2_firstError_52 : decode cX2_firstError 52 = .ok (.iload_n 3, 1) := by decide +kernel
theorem dX2_firstError_53 : decode cX2_firstError 53 = .ok (.iadd, 1) := by decide +kernel
theorem dX2_firstError_54 : decode cX2_firstError 54 = .ok (.aload_n 0, 1) := by decide +kernel
theorem dX2_firstError_55 : decode cX2_firstError 55 = .ok (.getfield 20, 3) := by decide +kernel
theorem dX2_firstError_58 : decode cX2_firstError 58 = .ok (.if_icmp .ge 12, 3) := by decide +kernel
theorem dX2_firstError_61 : decode cX2_firstError 61 = .ok (.aload_n 0, 1) := by decide +kernel
theorem dX2_firstError_62 : decode cX2_firstError 62 = .ok (.iload_n 1, 1) := by decide +kernel
theorem dX2_firstError_63 : decode cX2_firstError 63 = .ok (.iload_n 3, 1) := by decide +kernel
theorem dX2_firstError_64 : decode cX2_firstError 64 = .ok (.invokevirtual 41, 3) := by decide +kernel
theorem dX2_firstError_67 : decode cX2_firstError 67 = .ok (.ifCond .ne 7, 3) := by decide +kernel
theorem dX2_firstError_70 : decode cX2_firstError 70 = .ok (.iload_n 1, 1) := by decide +kernel
theorem dX2_firstError_71 : decode cX2_firstError 71 = .ok (.iload_n 3, 1) := by decide +kernel
theorem dX2_firstError_72 : decode cX2_firstError 72 = .ok (.iadd, 1) := by decide +kernel
theorem dX2_firstError_73 : decode cX2_firstError 73 = .ok (.ireturn, 1) := by decide +kernel
theorem dX2_firstError_74 : decode cX2_firstError 74 = .ok (.iinc 3 1, 3) := by decide +kernel
theorem dX2_firstError_77 : decode cX2_firstError 77 = .ok (.goto (-31), 3) := by decide +kernel
theorem dX2_firstError_80 : decode cX2_firstError 80 = .ok (.iload_n 1, 1) := by decide +kernel
theorem dX2_firstError_81 : decode cX2_firstError 81 = .ok (.iconst 1, 1) := by decide +kernel
theorem dX2_firstError_82 : decode cX2_firstError 82 = .ok (.iload_n 2, 1) := by decide +kernel
theorem dX2_firstError_83 : decode cX2_firstError 83 = .ok (.iadd, 1) := by decide +kernel
theorem dX2_firstError_84 : decode cX2_firstError 84 = .ok (.iadd, 1) := by decide +kernel
theorem dX2_firstError_85 : decode cX2_firstError 85 = .ok (.istore_n 1, 1) := by decide +kernel
theorem dX2_firstError_86 : decode cX2_firstError 86 = .ok (.goto (-65), 3) := by decide +kernel
theorem dX2_firstError_89 : decode cX2_firstError 89 = .ok (.iconst (-1), 1) := by decide +kernel
theorem dX2_firstError_90 : decode cX2_firstError 90 = .ok (.ireturn, 1) := by decide +kernel
theorem cw_X2_24 : uCW RX2 RX6 24 yX6_get cX6_get 2 (some .int) 1 := ⟨gt_in 325 (by decide +kernel) (by decide +kernel), yf_X6_get⟩
theorem yf_X2_digit : (Cond.instanceMethod yX2_digit) ∈ gtbl ∧ (Cond.selects RX2 yX2_digit yX2_digit) ∈ gtbl ∧ (Cond.initialized RX2) ∈ gtbl ∧ (Cond.code yX2_digit cX2_digit 2 (some .int)) ∈ gtbl ∧ (yX2_digit.cls = RX2 ∧ yX2_digit.cls ≠ "java/lang/invoke/MethodHandle" ∧ yX2_digit.cls ≠ "java/lang/invoke/VarHandle" ∧ (parseMethodDescriptor yX2_digit.desc).map (fun d => d.parameters.length) = some 1) := ⟨gt_in 337 (by decide +kernel) (by decide +kernel), gt_in 338 (by decide +kernel) (by decide +kernel), gt_in 24 (by decide +kernel) (by decide +kernel), gt_in 339 (by decide +kernel) (by decide +kernel), by decide +kernel⟩
theorem cw_X2_28 : uCW RX2 RX2 28 yX2_digit cX2_digit 2 (some .int) 1 := ⟨gt_in 336 (by decide +kernel) (by decide +kernel), yf_X2_digit⟩
theorem cw_X2_31 : uCW RX2 RX6 31 yX6_put cX6_put 3 none 2 := ⟨gt_in 561 (by decide +kernel) (by decide +kernel), yf_X6_put⟩
theorem yf_X2_sign : (Cond.instanceMethod yX2_sign) ∈ gtbl ∧ (Cond.selects RX2 yX2_sign yX2_sign) ∈ gtbl ∧ (Cond.initialized RX2) ∈ gtbl ∧ (Cond.code yX2_sign cX2_sign 2 (some .int)) ∈ gtbl ∧ (yX2_sign.cls = RX2 ∧ yX2_sign.cls ≠ "java/lang/invoke/MethodHandle" ∧ yX2_sign.cls ≠ "java/lang/invoke/VarHandle" ∧ (parseMethodDescriptor yX2_sign.desc).map (fun d => d.parameters.length) = some 1) := ⟨gt_in 322 (by decide +kernel) (by decide +kernel), gt_in 323 (by decide +kernel) (by decide +kernel), gt_in 24 (by decide +kernel) (by decide +kernel), gt_in 324 (by decide +kernel) (by decide +kernel), by decide +kernel⟩
theorem cw_X2_35 : uCW RX2 RX2 35 yX2_sign cX2_sign 2 (some .int) 1 := ⟨gt_in 321 (by decide +kernel) (by decide +kernel), yf_X2_sign⟩
theorem yf_X2_digitsOf : (Cond.static yX2_digitsOf) ∈ gtbl ∧ (Cond.initialized yX2_digitsOf.cls) ∈ gtbl ∧ (Cond.code yX2_digitsOf cX2_digitsOf 1 (some .int)) ∈ gtbl ∧ (yX2_digitsOf.cls ≠ "java/lang/invoke/MethodHandle" ∧ yX2_digitsOf.cls ≠ "java/lang/invoke/VarHandle" ∧ (parseMethodDescriptor yX2_digitsOf.desc).map (fun d => d.parameters.length) = some 1) := ⟨gt_in 330 (by decide +kernel) (by decide +kernel), gt_in 24 (by decide +kernel) (by decide +kernel), gt_in 331 (by decide +kernel) (by decide +kernel), by decide +kernel⟩
theorem cw_X2_38 : uCS RX2 38 yX2_digitsOf cX2_digitsOf 1 (some .int) 1 := ⟨gt_in 329 (by decide +kernel) (by decide +kernel), yf_X2_digitsOf⟩
theorem yf_X2_isAllowed : (Cond.instanceMethod yX2_isAllowed) ∈ gtbl ∧ (Cond.selects RX2 yX2_isAllowed yX2_isAllowed) ∈ gtbl ∧ (Cond.initialized RX2) ∈ gtbl ∧ (Cond.code yX2_isAllowed cX2_isAllowed 5 (some .boolean)) ∈ gtbl ∧ (yX2_isAllowed.cls = RX2 ∧ yX2_isAllowed.cls ≠ "java/lang/invoke/MethodHandle" ∧ yX2_isAllowed.cls ≠ "java/lang/invoke/VarHandle" ∧ (parseMethodDescriptor yX2_isAllowed.desc).map (fun d => d.parameters.length) = some 2) := ⟨gt_in 334 (by decide +kernel) (by decide +kernel), gt_in 0 (by decide +kernel) (by decide +kernel), gt_in 24 (by decide +kernel) (by decide +kernel), gt_in 335 (by decide +kernel) (by decide +kernel), by decide +kernel⟩
theorem cw_X2_41 : uCW RX2 RX2 41 yX2_isAllowed cX2_isAllowed 5 (some .boolean) 2 := ⟨gt_in 332 (by decide +kernel) (by decide +kernel), yf_X2_isAllowed⟩
def fX2_length (S : (Nat → Nat → Int32)) : Int32 :=
  lt_ (S 1 1) fun x1 =>
  x1
set_option maxHeartbeats 4000000 in
set_option maxRecDepth 20000 in
theorem kX2_length {l : Launch} {G : UG} {V : uV} (hN : uMn G) {S : (Nat → Nat → Int32)} (hV : V 18 = S)  {r : Int32} (h : fX2_length S = r) : uMi l G yX2_length cX2_length 1 .int (uR 0 0) [.ref (ga G 18 1)] V r V := by
  refine uMi_of rfl (Nat.le_of_ble_eq_true rfl) (fun p e s m args below meth c ls X hret hl M => ?_)
  have hl : lv_has ls 1 [(0, .ref (ga G 18 1))] := hl
  have hx := X.hx
  have hb := X.hb
  unfold fX2_length at h
  refine lv_aload_n hx hb dX2_length_0 rfl (lv_at hl 0 rfl) ?_
  obtain ⟨x1, e2, h⟩ := lt_e h
  refine gf_X2_20 X M hN hV e2 dX2_length_1 ?_
  exact u_iret X hret M h (rfl) rfl dX2_length_4
def fX2_sign (S : (Nat → Nat → Int32)) (a1 : Int32) : Int32 :=
  lt_ (fget 120 (S 3) a1) fun x2 =>
  x2
set_option maxHeartbeats 4000000 in
set_option maxRecDepth 20000 in
theorem kX2_sign {l : Launch} {G : UG} {V : uV} (hN : uMn G) {S : (Nat → Nat → Int32)} (hV : V 18 = S) {a1 : Int32} {r : Int32} (h : fX2_sign S a1 = r) : uMi l G yX2_sign cX2_sign 2 .int (uR 1 21) [.ref (ga G 18 1), .int a1] V r V := by
  refine uMi_of rfl (Nat.le_of_ble_eq_true rfl) (fun p e s m args below meth c ls X hret hl M => ?_)
  have hl : lv_has ls 2 [(0, .ref (ga G 18 1)), (1, .int a1)] := hl
  have hx := X.hx
  have hb := X.hb
  unfold fX2_sign at h
  refine lv_aload_n hx hb dX2_sign_0 rfl (lv_at hl 0 rfl) ?_
  refine gf_X2_14 X M hN dX2_sign_1 ?_
  refine lv_iload_n hx hb dX2_sign_4 rfl (lv_at hl 1 rfl) ?_
  obtain ⟨x2, e1, h⟩ := lt_e h
  refine u_cVi X M hl.1 (kX6_get (uRwN hN) (congrFun hV 3) e1.symm) cw_X2_24 ⟨by decide, by decide⟩ (uR_recv X M (uRwN hN)) rfl rfl (Nat.le_of_ble_eq_true rfl) ⟨Nat.zero_le _, Nat.zero_le _⟩ dX2_sign_5 (fun H locs M n3 => ?_)
  exact u_iret X hret M h (rfl) rfl dX2_sign_8
def fX2_digit (S : (Nat → Nat → Int32)) (a1 : Int32) : Int32 :=
  lt_ (fget 120 (S 3) a1) fun x2 =>
  (x2 - 48)
set_option maxHeartbeats 4000000 in
set_option maxRecDepth 20000 in
theorem kX2_digit {l : Launch} {G : UG} {V : uV} (hN : uMn G) {S : (Nat → Nat → Int32)} (hV : V 18 = S) {a1 : Int32} {r : Int32} (h : fX2_digit S a1 = r) : uMi l G yX2_digit cX2_digit 2 .int (uR 1 21) [.ref (ga G 18 1), .int a1] V r V := by
  refine uMi_of rfl (Nat.le_of_ble_eq_true rfl) (fun p e s m args below meth c ls X hret hl M => ?_)
  have hl : lv_has ls 2 [(0, .ref (ga G 18 1)), (1, .int a1)] := hl
  have hx := X.hx
  have hb := X.hb
  unfold fX2_digit at h
  refine lv_aload_n hx hb dX2_digit_0 rfl (lv_at hl 0 rfl) ?_
  refine gf_X2_14 X M hN dX2_digit_1 ?_
  refine lv_iload_n hx hb dX2_digit_4 rfl (lv_at hl 1 rfl) ?_
  obtain ⟨x2, e1, h⟩ := lt_e h
  refine u_cVi X M hl.1 (kX6_get (uRwN hN) (congrFun hV 3) e1.symm) cw_X2_24 ⟨by decide, by decide⟩ (uR_recv X M (uRwN hN)) rfl rfl (Nat.le_of_ble_eq_true rfl) ⟨Nat.zero_le _, Nat.zero_le _⟩ dX2_digit_5 (fun H locs M n3 => ?_)
  refine lv_bipush (v := 48) hx hb dX2_digit_8 (by decide) ?_
  refine lv_isub hx hb dX2_digit_10 ?_
  exact u_iret X hret M h (rfl) rfl dX2_digit_11
def fX2_twoDigits (S : (Nat → Nat → Int32)) (a1 : Int32) : Int32 :=
  lt_ (fX2_digit S a1) fun x2 =>
  lt_ (fX2_digit S (a1 + 1)) fun x5 =>
  ((10 * x2) + x5)
set_option maxHeartbeats 4000000 in
set_option maxRecDepth 20000 in
theorem kX2_twoDigits {l : Launch} {G : UG} {V : uV} (hN : uMn G) {S : (Nat → Nat → Int32)} (hV : V 18 = S) {a1 : Int32} {r : Int32} (h : fX2_twoDigits S a1 = r) : uMi l G yX2_twoDigits cX2_twoDigits 2 .int (uR 2 42) [.ref (ga G 18 1), .int a1] V r V := by
  refine uMi_of rfl (Nat.le_of_ble_eq_true rfl) (fun p e s m args below meth c ls X hret hl M => ?_)
  have hl : lv_has ls 2 [(0, .ref (ga G 18 1)), (1, .int a1)] := hl
  have hx := X.hx
  have hb := X.hb
  unfold fX2_twoDigits at h
  refine lv_bipush (v := 10) hx hb dX2_twoDigits_0 (by decide) ?_
  refine lv_aload_n hx hb dX2_twoDigits_2 rfl (lv_at hl 0 rfl) ?_
  refine lv_iload_n hx hb dX2_twoDigits_3 rfl (lv_at hl 1 rfl) ?_
  obtain ⟨x2, e1, h⟩ := lt_e h
  refine u_cVi X M hl.1 (kX2_digit hN hV e1.symm) cw_X2_28 ⟨by decide, by decide⟩ (rc_X2 X M hN) rfl rfl (Nat.le_of_ble_eq_true rfl) ⟨Nat.zero_le _, Nat.zero_le _⟩ dX2_twoDigits_4 (fun H locs M n3 => ?_)
  refine lv_imul hx hb dX2_twoDigits_7 ?_
  refine lv_aload_n hx hb dX2_twoDigits_8 rfl (lv_at hl 0 rfl) ?_
  refine lv_iload_n hx hb dX2_twoDigits_9 rfl (lv_at hl 1 rfl) ?_
  refine lv_iconst (v := 1) hx hb dX2_twoDigits_10 (by decide) ?_
  refine lv_iadd hx hb dX2_twoDigits_11 ?_
  obtain ⟨x5, e4, h⟩ := lt_e h
  refine u_cVi X M hl.1 (kX2_digit hN hV e4.symm) cw_X2_28 ⟨by decide, by decide⟩ (rc_X2 X M hN) rfl rfl (Nat.le_of_ble_eq_true rfl) ⟨Nat.zero_le _, Nat.zero_le _⟩ dX2_twoDigits_12 (fun H locs M n6 => ?_)
  refine lv_iadd hx hb dX2_twoDigits_15 ?_
  exact u_iret X hret M h (rfl) rfl dX2_twoDigits_16
def fX2_add (S : (Nat → Nat → Int32)) (a1 : Int32) : Option (Int32 × (Nat → Nat → Int32)) :=
  lt_ (S 1 1) fun x1 =>
  lt_ (va_up S 3 (fput 120 (S 3) x1 a1)) fun S4 =>
  lt_ (S4 1 1) fun x6 =>
  lt_ (va_up S4 1 (upd (S4 1) 1 (x6 + 1))) fun S8 =>
  lt_ (S8 1 1) fun x10 =>
  some (x10, S8)
set_option maxHeartbeats 4000000 in
set_option maxRecDepth 20000 in
theorem kX2_add {l : Launch} {G : UG} {V : uV} (hN : uMn G) {S S' : (Nat → Nat → Int32)} {a1 : Int32} {r : Int32} (h : fX2_add S a1 = some (r, S')) : uMi l G yX2_add cX2_add 2 .int (uR 1 22) [.ref (ga G 18 1), .int a1] (va_up V 18 S) r (va_up V 18 S') := by
  refine uMi_of rfl (Nat.le_of_ble_eq_true rfl) (fun p e s m args below meth c ls X hret hl M => ?_)
  have hl : lv_has ls 2 [(0, .ref (ga G 18 1)), (1, .int a1)] := hl
  have hx := X.hx
  have hb := X.hb
  unfold fX2_add at h
  refine lv_aload_n hx hb dX2_add_0 rfl (lv_at hl 0 rfl) ?_
  refine gf_X2_14 X M hN dX2_add_1 ?_
  refine lv_aload_n hx hb dX2_add_4 rfl (lv_at hl 0 rfl) ?_
  obtain ⟨x1, e2, h⟩ := lt_e h
  refine gf_X2_20 X M hN (va_up_s V 18 _) e2 dX2_add_5 ?_
  refine lv_iload_n hx hb dX2_add_8 rfl (lv_at hl 1 rfl) ?_
  obtain ⟨S4, e3, h⟩ := lt_e h
  refine u_cVv X M hl.1 (kX6_putS (uRwN hN) e3) cw_X2_31 ⟨by decide, by decide⟩ (uR_recv X M (uRwN hN)) rfl rfl (Nat.le_of_ble_eq_true rfl) ⟨Nat.zero_le _, Nat.zero_le _⟩ dX2_add_9 (fun H locs M => ?_)
  refine lv_aload_n hx hb dX2_add_12 rfl (lv_at hl 0 rfl) ?_
  refine lv_dup hx hb dX2_add_13 rfl ?_
  obtain ⟨x6, e7, h⟩ := lt_e h
  refine gf_X2_20 X M hN (va_up_s V 18 _) e7 dX2_add_14 ?_
  refine lv_iconst (v := 1) hx hb dX2_add_17 (by decide) ?_
  refine lv_iadd hx hb dX2_add_18 ?_
  obtain ⟨S8, e9, h⟩ := lt_e h
  refine pf_X2_20 X M hN e9 dX2_add_19 (fun H locs M => ?_)
  refine lv_aload_n hx hb dX2_add_22 rfl (lv_at hl 0 rfl) ?_
  obtain ⟨x10, e11, h⟩ := lt_e h
  refine gf_X2_20 X M hN (va_up_s V 18 _) e11 dX2_add_23 ?_
  exact u_iret X hret M (rt2 h).1 (congrArg (va_up V 18) ((rt2 h).2)) rfl dX2_add_26
def fX2_empty (S : (Nat → Nat → Int32)) : Option (Int32 × (Nat → Nat → Int32)) :=
  lt_ (S 1 1) fun x1 =>
  lt_ (va_up S 1 (upd (S 1) 1 0)) fun S3 =>
  some (x1, S3)
set_option maxHeartbeats 4000000 in
set_option maxRecDepth 20000 in
theorem kX2_empty {l : Launch} {G : UG} {V : uV} (hN : uMn G) {S S' : (Nat → Nat → Int32)}  {r : Int32} (h : fX2_empty S = some (r, S')) : uMi l G yX2_empty cX2_empty 2 .int (uR 0 0) [.ref (ga G 18 1)] (va_up V 18 S) r (va_up V 18 S') := by
  refine uMi_of rfl (Nat.le_of_ble_eq_true rfl) (fun p e s m args below meth c ls X hret hl M => ?_)
  have hl : lv_has ls 2 [(0, .ref (ga G 18 1))] := hl
  have hx := X.hx
  have hb := X.hb
  unfold fX2_empty at h
  refine lv_aload_n hx hb dX2_empty_0 rfl (lv_at hl 0 rfl) ?_
  obtain ⟨x1, e2, h⟩ := lt_e h
  refine gf_X2_20 X M hN (va_up_s V 18 _) e2 dX2_empty_1 ?_
  refine lv_istore_n (lv' := [(1, .int x1), (0, .ref (ga G 18 1))]) hx hb dX2_empty_4 rfl hl (by decide) rfl (fun ls hl => ?_)
  refine lv_aload_n hx hb dX2_empty_5 rfl (lv_at hl 1 rfl) ?_
  refine lv_iconst (v := 0) hx hb dX2_empty_6 (by decide) ?_
  obtain ⟨S3, e4, h⟩ := lt_e h
  refine pf_X2_20 X M hN e4 dX2_empty_7 (fun H locs M => ?_)
  refine lv_iload_n hx hb dX2_empty_10 rfl (lv_at hl 0 rfl) ?_
  exact u_iret X hret M (rt2 h).1 (congrArg (va_up V 18) ((rt2 h).2)) rfl dX2_empty_11
def fX2_digitsOf (a1 : Int32) : Int32 :=
  if a1 = 99 then
    1
  else if a1 = 100 then
    1
  else if a1 = 101 then
    0
  else if a1 = 102 then
    0
  else if a1 = 103 then
    0
  else if a1 = 104 then
    0
  else if a1 = 105 then
    2
  else if a1 = 106 then
    0
  else if a1 = 107 then
    0
  else if a1 = 108 then
    0
  else if a1 = 109 then
    2
  else if a1 = 110 then
    0
  else if a1 = 111 then
    1
  else if a1 = 112 then
    0
  else if a1 = 113 then
    0
  else if a1 = 114 then
    2
  else if a1 = 115 then
    0
  else if a1 = 116 then
    3
  else if a1 = 117 then
    1
  else 
  0
set_option maxHeartbeats 4000000 in
set_option maxRecDepth 20000 in
theorem kX2_digitsOf {l : Launch} {G : UG} {V : uV}  {a1 : Int32} {r : Int32} (h : fX2_digitsOf a1 = r) : uMi l G yX2_digitsOf cX2_digitsOf 1 .int (uR 0 0) [.int a1] V r V := by
  refine uMi_of rfl (Nat.le_of_ble_eq_true rfl) (fun p e s m args below meth c ls X hret hl M => ?_)
  have hl : lv_has ls 1 [(0, .int a1)] := hl
  have hx := X.hx
  have hb := X.hb
  unfold fX2_digitsOf at h
  refine lv_iload_n hx hb dX2_digitsOf_0 rfl (lv_at hl 0 rfl) ?_
  by_cases c1 : a1 = 99
  · have h := it_t h c1
    refine lv_tableIn (off := 91) (tgt := 92) hx hb dX2_digitsOf_1 (by rw [c1]; decide) (by rw [c1]; decide) (by rw [c1]; rfl) (by decide) ?_
    refine lv_iconst (v := 1) hx hb dX2_digitsOf_92 (by decide) ?_
    exact u_iret X hret M h (rfl) rfl dX2_digitsOf_93
  · have h := it_f h c1
    by_cases c2 : a1 = 100
    · have h := it_t h c2
      refine lv_tableIn (off := 91) (tgt := 92) hx hb dX2_digitsOf_1 (by rw [c2]; decide) (by rw [c2]; decide) (by rw [c2]; rfl) (by decide) ?_
      refine lv_iconst (v := 1) hx hb dX2_digitsOf_92 (by decide) ?_
      exact u_iret X hret M h (rfl) rfl dX2_digitsOf_93
    · have h := it_f h c2
      by_cases c3 : a1 = 101
      · have h := it_t h c3
        refine lv_tableIn (off := 97) (tgt := 98) hx hb dX2_digitsOf_1 (by rw [c3]; decide) (by rw [c3]; decide) (by rw [c3]; rfl) (by decide) ?_
        refine lv_iconst (v := 0) hx hb dX2_digitsOf_98 (by decide) ?_
        exact u_iret X hret M h (rfl) rfl dX2_digitsOf_99
      · have h := it_f h c3
        by_cases c4 : a1 = 102
        · have h := it_t h c4
          refine lv_tableIn (off := 97) (tgt := 98) hx hb dX2_digitsOf_1 (by rw [c4]; decide) (by rw [c4]; decide) (by rw [c4]; rfl) (by decide) ?_
          refine lv_iconst (v := 0) hx hb dX2_digitsOf_98 (by decide) ?_
          exact u_iret X hret M h (rfl) rfl dX2_digitsOf_99
        · have h := it_f h c4
          by_cases c5 : a1 = 103
          · have h := it_t h c5
            refine lv_tableIn (off := 97) (tgt := 98) hx hb dX2_digitsOf_1 (by rw [c5]; decide) (by rw [c5]; decide) (by rw [c5]; rfl) (by decide) ?_
            refine lv_iconst (v := 0) hx hb dX2_digitsOf_98 (by decide) ?_
            exact u_iret X hret M h (rfl) rfl dX2_digitsOf_99
          · have h := it_f h c5
            by_cases c6 : a1 = 104
            · have h := it_t h c6
              refine lv_tableIn (off := 97) (tgt := 98) hx hb dX2_digitsOf_1 (by rw [c6]; decide) (by rw [c6]; decide) (by rw [c6]; rfl) (by decide) ?_
              refine lv_iconst (v := 0) hx hb dX2_digitsOf_98 (by decide) ?_
              exact u_iret X hret M h (rfl) rfl dX2_digitsOf_99
            · have h := it_f h c6
              by_cases c7 : a1 = 105
              · have h := it_t h c7
                refine lv_tableIn (off := 93) (tgt := 94) hx hb dX2_digitsOf_1 (by rw [c7]; decide) (by rw [c7]; decide) (by rw [c7]; rfl) (by decide) ?_
                refine lv_iconst (v := 2) hx hb dX2_digitsOf_94 (by decide) ?_
                exact u_iret X hret M h (rfl) rfl dX2_digitsOf_95
              · have h := it_f h c7
                by_cases c8 : a1 = 106
                · have h := it_t h c8
                  refine lv_tableIn (off := 97) (tgt := 98) hx hb dX2_digitsOf_1 (by rw [c8]; decide) (by rw [c8]; decide) (by rw [c8]; rfl) (by decide) ?_
                  refine lv_iconst (v := 0) hx hb dX2_digitsOf_98 (by decide) ?_
                  exact u_iret X hret M h (rfl) rfl dX2_digitsOf_99
                · have h := it_f h c8
                  by_cases c9 : a1 = 107
                  · have h := it_t h c9
                    refine lv_tableIn (off := 97) (tgt := 98) hx hb dX2_digitsOf_1 (by rw [c9]; decide) (by rw [c9]; decide) (by rw [c9]; rfl) (by decide) ?_
                    refine lv_iconst (v := 0) hx hb dX2_digitsOf_98 (by decide) ?_
                    exact u_iret X hret M h (rfl) rfl dX2_digitsOf_99
                  · have h := it_f h c9
                    by_cases c10 : a1 = 108
                    · have h := it_t h c10
                      refine lv_tableIn (off := 97) (tgt := 98) hx hb dX2_digitsOf_1 (by rw [c10]; decide) (by rw [c10]; decide) (by rw [c10]; rfl) (by decide) ?_
                      refine lv_iconst (v := 0) hx hb dX2_digitsOf_98 (by decide) ?_
                      exact u_iret X hret M h (rfl) rfl dX2_digitsOf_99
                    · have h := it_f h c10
                      by_cases c11 : a1 = 109
                      · have h := it_t h c11
                        refine lv_tableIn (off := 93) (tgt := 94) hx hb dX2_digitsOf_1 (by rw [c11]; decide) (by rw [c11]; decide) (by rw [c11]; rfl) (by decide) ?_
                        refine lv_iconst (v := 2) hx hb dX2_digitsOf_94 (by decide) ?_
                        exact u_iret X hret M h (rfl) rfl dX2_digitsOf_95
                      · have h := it_f h c11
                        by_cases c12 : a1 = 110
                        · have h := it_t h c12
                          refine lv_tableIn (off := 97) (tgt := 98) hx hb dX2_digitsOf_1 (by rw [c12]; decide) (by rw [c12]; decide) (by rw [c12]; rfl) (by decide) ?_
                          refine lv_iconst (v := 0) hx hb dX2_digitsOf_98 (by decide) ?_
                          exact u_iret X hret M h (rfl) rfl dX2_digitsOf_99
                        · have h := it_f h c12
                          by_cases c13 : a1 = 111
                          · have h := it_t h c13
                            refine lv_tableIn (off := 91) (tgt := 92) hx hb dX2_digitsOf_1 (by rw [c13]; decide) (by rw [c13]; decide) (by rw [c13]; rfl) (by decide) ?_
                            refine lv_iconst (v := 1) hx hb dX2_digitsOf_92 (by decide) ?_
                            exact u_iret X hret M h (rfl) rfl dX2_digitsOf_93
                          · have h := it_f h c13
                            by_cases c14 : a1 = 112
                            · have h := it_t h c14
                              refine lv_tableIn (off := 97) (tgt := 98) hx hb dX2_digitsOf_1 (by rw [c14]; decide) (by rw [c14]; decide) (by rw [c14]; rfl) (by decide) ?_
                              refine lv_iconst (v := 0) hx hb dX2_digitsOf_98 (by decide) ?_
                              exact u_iret X hret M h (rfl) rfl dX2_digitsOf_99
                            · have h := it_f h c14
                              by_cases c15 : a1 = 113
                              · have h := it_t h c15
                                refine lv_tableIn (off := 97) (tgt := 98) hx hb dX2_digitsOf_1 (by rw [c15]; decide) (by rw [c15]; decide) (by rw [c15]; rfl) (by decide) ?_
                                refine lv_iconst (v := 0) hx hb dX2_digitsOf_98 (by decide) ?_
                                exact u_iret X hret M h (rfl) rfl dX2_digitsOf_99
                              · have h := it_f h c15
                                by_cases c16 : a1 = 114
                                · have h := it_t h c16
                                  refine lv_tableIn (off := 93) (tgt := 94) hx hb dX2_digitsOf_1 (by rw [c16]; decide) (by rw [c16]; decide) (by rw [c16]; rfl) (by decide) ?_
                                  refine lv_iconst (v := 2) hx hb dX2_digitsOf_94 (by decide) ?_
                                  exact u_iret X hret M h (rfl) rfl dX2_digitsOf_95
                                · have h := it_f h c16
                                  by_cases c17 : a1 = 115
                                  · have h := it_t h c17
                                    refine lv_tableIn (off := 97) (tgt := 98) hx hb dX2_digitsOf_1 (by rw [c17]; decide) (by rw [c17]; decide) (by rw [c17]; rfl) (by decide) ?_
                                    refine lv_iconst (v := 0) hx hb dX2_digitsOf_98 (by decide) ?_
                                    exact u_iret X hret M h (rfl) rfl dX2_digitsOf_99
                                  · have h := it_f h c17
                                    by_cases c18 : a1 = 116
                                    · have h := it_t h c18
                                      refine lv_tableIn (off := 95) (tgt := 96) hx hb dX2_digitsOf_1 (by rw [c18]; decide) (by rw [c18]; decide) (by rw [c18]; rfl) (by decide) ?_
                                      refine lv_iconst (v := 3) hx hb dX2_digitsOf_96 (by decide) ?_
                                      exact u_iret X hret M h (rfl) rfl dX2_digitsOf_97
                                    · have h := it_f h c18
                                      by_cases c19 : a1 = 117
                                      · have h := it_t h c19
                                        refine lv_tableIn (off := 91) (tgt := 92) hx hb dX2_digitsOf_1 (by rw [c19]; decide) (by rw [c19]; decide) (by rw [c19]; rfl) (by decide) ?_
                                        refine lv_iconst (v := 1) hx hb dX2_digitsOf_92 (by decide) ?_
                                        exact u_iret X hret M h (rfl) rfl dX2_digitsOf_93
                                      · have h := it_f h c19
                                        have tc1 := lv_neT (a := 99) c1 (by decide)
                                        have tc2 := lv_neT (a := 100) c2 (by decide)
                                        have tc3 := lv_neT (a := 101) c3 (by decide)
                                        have tc4 := lv_neT (a := 102) c4 (by decide)
                                        have tc5 := lv_neT (a := 103) c5 (by decide)
                                        have tc6 := lv_neT (a := 104) c6 (by decide)
                                        have tc7 := lv_neT (a := 105) c7 (by decide)
                                        have tc8 := lv_neT (a := 106) c8 (by decide)
                                        have tc9 := lv_neT (a := 107) c9 (by decide)
                                        have tc10 := lv_neT (a := 108) c10 (by decide)
                                        have tc11 := lv_neT (a := 109) c11 (by decide)
                                        have tc12 := lv_neT (a := 110) c12 (by decide)
                                        have tc13 := lv_neT (a := 111) c13 (by decide)
                                        have tc14 := lv_neT (a := 112) c14 (by decide)
                                        have tc15 := lv_neT (a := 113) c15 (by decide)
                                        have tc16 := lv_neT (a := 114) c16 (by decide)
                                        have tc17 := lv_neT (a := 115) c17 (by decide)
                                        have tc18 := lv_neT (a := 116) c18 (by decide)
                                        have tc19 := lv_neT (a := 117) c19 (by decide)
                                        refine lv_tableOut (tgt := 98) hx hb dX2_digitsOf_1 (by omega) (by decide) ?_
                                        refine lv_iconst (v := 0) hx hb dX2_digitsOf_98 (by decide) ?_
                                        exact u_iret X hret M h (rfl) rfl dX2_digitsOf_99
def fX2_isAllowed (S : (Nat → Nat → Int32)) (a1 : Int32) (a2 : Int32) : Int32 :=
  lt_ (fX2_digit S (a1 + a2)) fun x2 =>
  if x2 < 0 then
    0
  else
    if x2 ≤ 9 then
      lt_ (fX2_digit S ((a1 + a2) - 1)) fun x7 =>
      lt_ (fX2_sign S a1) fun x10 =>
      if x10 = 100 then
        if 4 ≤ x2 then
          0
        else
          1
      else if x10 = 101 then
        1
      else if x10 = 102 then
        1
      else if x10 = 103 then
        1
      else if x10 = 104 then
        1
      else if x10 = 105 then
        1
      else if x10 = 106 then
        1
      else if x10 = 107 then
        1
      else if x10 = 108 then
        1
      else if x10 = 109 then
        if a2 = 1 then
          if 6 < x2 then
            0
          else
            1
        else
          if x7 = 0 then
            if x2 ≤ 0 then
              0
            else
              1
          else
            if x7 < 6 then
              1
            else
              if x2 = 0 then
                1
              else
                0
      else if x10 = 110 then
        1
      else if x10 = 111 then
        if 4 ≤ x2 then
          0
        else
          1
      else if x10 = 112 then
        1
      else if x10 = 113 then
        1
      else if x10 = 114 then
        if a2 = 1 then
          1
        else
          if 4 ≤ x2 then
            0
          else
            1
      else if x10 = 115 then
        1
      else if x10 = 116 then
        if a2 = 1 then
          if 8 ≤ x2 then
            0
          else
            1
        else
          if a2 = 2 then
            1
          else
            if 0 < x7 then
              1
            else
              if x2 ≤ 0 then
                0
              else
                1
      else if x10 = 117 then
        if 4 ≤ x2 then
          0
        else
          1
      else 
      1
    else
      0
set_option maxHeartbeats 4000000 in
set_option maxRecDepth 20000 in
theorem kX2_isAllowed {l : Launch} {G : UG} {V : uV} (hN : uMn G) {S : (Nat → Nat → Int32)} (hV : V 18 = S) {a1 : Int32} {a2 : Int32} {r : Int32} (h : fX2_isAllowed S a1 a2 = r) : uMi l G yX2_isAllowed cX2_isAllowed 5 .boolean (uR 2 42) [.ref (ga G 18 1), .int a1, .int a2] V r V := by
  refine uMi_of rfl (Nat.le_of_ble_eq_true rfl) (fun p e s m args below meth c ls X hret hl M => ?_)
  have hl : lv_has ls 5 [(0, .ref (ga G 18 1)), (1, .int a1), (2, .int a2)] := hl
  have hx := X.hx
  have hb := X.hb
  unfold fX2_isAllowed at h
  refine lv_aload_n hx hb dX2_isAllowed_0 rfl (lv_at hl 0 rfl) ?_
  refine lv_iload_n hx hb dX2_isAllowed_1 rfl (lv_at hl 1 rfl) ?_
  refine lv_iload_n hx hb dX2_isAllowed_2 rfl (lv_at hl 2 rfl) ?_
  refine lv_iadd hx hb dX2_isAllowed_3 ?_
  obtain ⟨x2, e1, h⟩ := lt_e h
  refine u_cVi X M hl.1 (kX2_digit hN hV e1.symm) cw_X2_28 ⟨by decide, by decide⟩ (rc_X2 X M hN) rfl rfl (Nat.le_of_ble_eq_true rfl) ⟨Nat.zero_le _, Nat.zero_le _⟩ dX2_isAllowed_4 (fun H locs M n3 => ?_)
  refine lv_istore_n (lv' := [(3, .int x2), (0, .ref (ga G 18 1)), (1, .int a1), (2, .int a2)]) hx hb dX2_isAllowed_7 rfl hl (by decide) rfl (fun ls hl => ?_)
  refine lv_iload_n hx hb dX2_isAllowed_8 rfl (lv_at hl 0 rfl) ?_
  refine lv_if_lt (tgt := 18) hx hb dX2_isAllowed_9 (by decide) (fun c4 => ?_) (fun c4 => ?_)
  · have h := it_t h c4
    refine lv_iconst (v := 0) hx hb dX2_isAllowed_18 (by decide) ?_
    exact u_iret X hret M h (rfl) rfl dX2_isAllowed_19
  · have h := it_f h c4
    refine lv_iload_n hx hb dX2_isAllowed_12 rfl (lv_at hl 0 rfl) ?_
    refine lv_bipush (v := 9) hx hb dX2_isAllowed_13 (by decide) ?_
    refine lv_icmp_le (tgt := 20) hx hb dX2_isAllowed_15 (by decide) (fun c5 => ?_) (fun c5 => ?_)
    · have h := it_t h c5
      refine lv_aload_n hx hb dX2_isAllowed_20 rfl (lv_at hl 1 rfl) ?_
      refine lv_iload_n hx hb dX2_isAllowed_21 rfl (lv_at hl 2 rfl) ?_
      refine lv_iload_n hx hb dX2_isAllowed_22 rfl (lv_at hl 3 rfl) ?_
      refine lv_iadd hx hb dX2_isAllowed_23 ?_
      refine lv_iconst (v := 1) hx hb dX2_isAllowed_24 (by decide) ?_
      refine lv_isub hx hb dX2_isAllowed_25 ?_
      obtain ⟨x7, e6, h⟩ := lt_e h
      refine u_cVi X M hl.1 (kX2_digit hN hV e6.symm) cw_X2_28 ⟨by decide, by decide⟩ (rc_X2 X M hN) rfl rfl (Nat.le_of_ble_eq_true rfl) ⟨Nat.zero_le _, Nat.zero_le _⟩ dX2_isAllowed_26 (fun H locs M n8 => ?_)
      refine lv_istore (lv' := [(4, .int x7), (3, .int x2), (0, .ref (ga G 18 1)), (1, .int a1), (2, .int a2)]) hx hb dX2_isAllowed_29 hl (by decide) rfl (fun ls hl => ?_)
      refine lv_aload_n hx hb dX2_isAllowed_31 rfl (lv_at hl 2 rfl) ?_
      refine lv_iload_n hx hb dX2_isAllowed_32 rfl (lv_at hl 3 rfl) ?_
      obtain ⟨x10, e9, h⟩ := lt_e h
      refine u_cVi X M hl.1 (kX2_sign hN hV e9.symm) cw_X2_35 ⟨by decide, by decide⟩ (rc_X2 X M hN) rfl rfl (Nat.le_of_ble_eq_true rfl) ⟨Nat.zero_le _, Nat.zero_le _⟩ dX2_isAllowed_33 (fun H locs M n11 => ?_)
      by_cases c12 : x10 = 100
      · have h := it_t h c12
        refine lv_tableIn (off := 104) (tgt := 140) hx hb dX2_isAllowed_36 (by rw [c12]; decide) (by rw [c12]; decide) (by rw [c12]; rfl) (by decide) ?_
        refine lv_iload_n hx hb dX2_isAllowed_140 rfl (lv_at hl 1 rfl) ?_
        refine lv_iconst (v := 4) hx hb dX2_isAllowed_141 (by decide) ?_
        refine lv_icmp_ge (tgt := 149) hx hb dX2_isAllowed_142 (by decide) (fun c13 => ?_) (fun c13 => ?_)
        · have h := it_t h c13
          refine lv_iconst (v := 0) hx hb dX2_isAllowed_149 (by decide) ?_
          exact u_iret X hret M h (rfl) rfl dX2_isAllowed_150
        · have h := it_f h c13
          refine lv_iconst (v := 1) hx hb dX2_isAllowed_145 (by decide) ?_
          refine lv_goto (tgt := 150) hx hb dX2_isAllowed_146 (by decide) ?_
          exact u_iret X hret M h (rfl) rfl dX2_isAllowed_150
      · have h := it_f h c12
        by_cases c14 : x10 = 101
        · have h := it_t h c14
          refine lv_tableIn (off := 207) (tgt := 243) hx hb dX2_isAllowed_36 (by rw [c14]; decide) (by rw [c14]; decide) (by rw [c14]; rfl) (by decide) ?_
          refine lv_iconst (v := 1) hx hb dX2_isAllowed_243 (by decide) ?_
          exact u_iret X hret M h (rfl) rfl dX2_isAllowed_244
        · have h := it_f h c14
          by_cases c15 : x10 = 102
          · have h := it_t h c15
            refine lv_tableIn (off := 207) (tgt := 243) hx hb dX2_isAllowed_36 (by rw [c15]; decide) (by rw [c15]; decide) (by rw [c15]; rfl) (by decide) ?_
            refine lv_iconst (v := 1) hx hb dX2_isAllowed_243 (by decide) ?_
            exact u_iret X hret M h (rfl) rfl dX2_isAllowed_244
          · have h := it_f h c15
            by_cases c16 : x10 = 103
            · have h := it_t h c16
              refine lv_tableIn (off := 207) (tgt := 243) hx hb dX2_isAllowed_36 (by rw [c16]; decide) (by rw [c16]; decide) (by rw [c16]; rfl) (by decide) ?_
              refine lv_iconst (v := 1) hx hb dX2_isAllowed_243 (by decide) ?_
              exact u_iret X hret M h (rfl) rfl dX2_isAllowed_244
            · have h := it_f h c16
              by_cases c17 : x10 = 104
              · have h := it_t h c17
                refine lv_tableIn (off := 207) (tgt := 243) hx hb dX2_isAllowed_36 (by rw [c17]; decide) (by rw [c17]; decide) (by rw [c17]; rfl) (by decide) ?_
                refine lv_iconst (v := 1) hx hb dX2_isAllowed_243 (by decide) ?_
                exact u_iret X hret M h (rfl) rfl dX2_isAllowed_244
              · have h := it_f h c17
                by_cases c18 : x10 = 105
                · have h := it_t h c18
                  refine lv_tableIn (off := 207) (tgt := 243) hx hb dX2_isAllowed_36 (by rw [c18]; decide) (by rw [c18]; decide) (by rw [c18]; rfl) (by decide) ?_
                  refine lv_iconst (v := 1) hx hb dX2_isAllowed_243 (by decide) ?_
                  exact u_iret X hret M h (rfl) rfl dX2_isAllowed_244
                · have h := it_f h c18
                  by_cases c19 : x10 = 106
                  · have h := it_t h c19
                    refine lv_tableIn (off := 207) (tgt := 243) hx hb dX2_isAllowed_36 (by rw [c19]; decide) (by rw [c19]; decide) (by rw [c19]; rfl) (by decide) ?_
                    refine lv_iconst (v := 1) hx hb dX2_isAllowed_243 (by decide) ?_
                    exact u_iret X hret M h (rfl) rfl dX2_isAllowed_244
                  · have h := it_f h c19
                    by_cases c20 : x10 = 107
                    · have h := it_t h c20
                      refine lv_tableIn (off := 207) (tgt := 243) hx hb dX2_isAllowed_36 (by rw [c20]; decide) (by rw [c20]; decide) (by rw [c20]; rfl) (by decide) ?_
                      refine lv_iconst (v := 1) hx hb dX2_isAllowed_243 (by decide) ?_
                      exact u_iret X hret M h (rfl) rfl dX2_isAllowed_244
                    · have h := it_f h c20
                      by_cases c21 : x10 = 108
                      · have h := it_t h c21
                        refine lv_tableIn (off := 207) (tgt := 243) hx hb dX2_isAllowed_36 (by rw [c21]; decide) (by rw [c21]; decide) (by rw [c21]; rfl) (by decide) ?_
                        refine lv_iconst (v := 1) hx hb dX2_isAllowed_243 (by decide) ?_
                        exact u_iret X hret M h (rfl) rfl dX2_isAllowed_244
                      · have h := it_f h c21
                        by_cases c22 : x10 = 109
                        · have h := it_t h c22
                          refine lv_tableIn (off := 154) (tgt := 190) hx hb dX2_isAllowed_36 (by rw [c22]; decide) (by rw [c22]; decide) (by rw [c22]; rfl) (by decide) ?_
                          refine lv_iload_n hx hb dX2_isAllowed_190 rfl (lv_at hl 4 rfl) ?_
                          refine lv_iconst (v := 1) hx hb dX2_isAllowed_191 (by decide) ?_
                          refine lv_icmp_ne (tgt := 209) hx hb dX2_isAllowed_192 (by decide) (fun c23 => ?_) (fun c23 => ?_)
                          · have h := it_f h c23
                            refine lv_iload hx hb dX2_isAllowed_209 (lv_at hl 0 rfl) ?_
                            refine lv_if_ne (tgt := 226) hx hb dX2_isAllowed_211 (by decide) (fun c24 => ?_) (fun c24 => ?_)
                            · have h := it_f h c24
                              refine lv_iload hx hb dX2_isAllowed_226 (lv_at hl 0 rfl) ?_
                              refine lv_bipush (v := 6) hx hb dX2_isAllowed_228 (by decide) ?_
                              refine lv_icmp_lt (tgt := 237) hx hb dX2_isAllowed_230 (by decide) (fun c25 => ?_) (fun c25 => ?_)
                              · have h := it_t h c25
                                refine lv_iconst (v := 1) hx hb dX2_isAllowed_237 (by decide) ?_
                                refine lv_goto (tgt := 242) hx hb dX2_isAllowed_238 (by decide) ?_
                                exact u_iret X hret M h (rfl) rfl dX2_isAllowed_242
                              · have h := it_f h c25
                                refine lv_iload_n hx hb dX2_isAllowed_233 rfl (lv_at hl 1 rfl) ?_
                                refine lv_if_ne (tgt := 241) hx hb dX2_isAllowed_234 (by decide) (fun c26 => ?_) (fun c26 => ?_)
                                · have h := it_f h c26
                                  refine lv_iconst (v := 0) hx hb dX2_isAllowed_241 (by decide) ?_
                                  exact u_iret X hret M h (rfl) rfl dX2_isAllowed_242
                                · have h := it_t h c26
                                  refine lv_iconst (v := 1) hx hb dX2_isAllowed_237 (by decide) ?_
                                  refine lv_goto (tgt := 242) hx hb dX2_isAllowed_238 (by decide) ?_
                                  exact u_iret X hret M h (rfl) rfl dX2_isAllowed_242
                            · have h := it_t h c24
                              refine lv_iload_n hx hb dX2_isAllowed_214 rfl (lv_at hl 1 rfl) ?_
                              refine lv_if_le (tgt := 222) hx hb dX2_isAllowed_215 (by decide) (fun c27 => ?_) (fun c27 => ?_)
                              · have h := it_t h c27
                                refine lv_iconst (v := 0) hx hb dX2_isAllowed_222 (by decide) ?_
                                refine lv_goto (tgt := 242) hx hb dX2_isAllowed_223 (by decide) ?_
                                exact u_iret X hret M h (rfl) rfl dX2_isAllowed_242
                              · have h := it_f h c27
                                refine lv_iconst (v := 1) hx hb dX2_isAllowed_218 (by decide) ?_
                                refine lv_goto (tgt := 242) hx hb dX2_isAllowed_219 (by decide) ?_
                                exact u_iret X hret M h (rfl) rfl dX2_isAllowed_242
                          · have h := it_t h c23
                            refine lv_iload_n hx hb dX2_isAllowed_195 rfl (lv_at hl 1 rfl) ?_
                            refine lv_bipush (v := 6) hx hb dX2_isAllowed_196 (by decide) ?_
                            refine lv_icmp_gt (tgt := 205) hx hb dX2_isAllowed_198 (by decide) (fun c28 => ?_) (fun c28 => ?_)
                            · have h := it_t h c28
                              refine lv_iconst (v := 0) hx hb dX2_isAllowed_205 (by decide) ?_
                              refine lv_goto (tgt := 242) hx hb dX2_isAllowed_206 (by decide) ?_
                              exact u_iret X hret M h (rfl) rfl dX2_isAllowed_242
                            · have h := it_f h c28
                              refine lv_iconst (v := 1) hx hb dX2_isAllowed_201 (by decide) ?_
                              refine lv_goto (tgt := 242) hx hb dX2_isAllowed_202 (by decide) ?_
                              exact u_iret X hret M h (rfl) rfl dX2_isAllowed_242
                        · have h := it_f h c22
                          by_cases c29 : x10 = 110
                          · have h := it_t h c29
                            refine lv_tableIn (off := 207) (tgt := 243) hx hb dX2_isAllowed_36 (by rw [c29]; decide) (by rw [c29]; decide) (by rw [c29]; rfl) (by decide) ?_
                            refine lv_iconst (v := 1) hx hb dX2_isAllowed_243 (by decide) ?_
                            exact u_iret X hret M h (rfl) rfl dX2_isAllowed_244
                          · have h := it_f h c29
                            by_cases c30 : x10 = 111
                            · have h := it_t h c30
                              refine lv_tableIn (off := 104) (tgt := 140) hx hb dX2_isAllowed_36 (by rw [c30]; decide) (by rw [c30]; decide) (by rw [c30]; rfl) (by decide) ?_
                              refine lv_iload_n hx hb dX2_isAllowed_140 rfl (lv_at hl 1 rfl) ?_
                              refine lv_iconst (v := 4) hx hb dX2_isAllowed_141 (by decide) ?_
                              refine lv_icmp_ge (tgt := 149) hx hb dX2_isAllowed_142 (by decide) (fun c31 => ?_) (fun c31 => ?_)
                              · have h := it_t h c31
                                refine lv_iconst (v := 0) hx hb dX2_isAllowed_149 (by decide) ?_
                                exact u_iret X hret M h (rfl) rfl dX2_isAllowed_150
                              · have h := it_f h c31
                                refine lv_iconst (v := 1) hx hb dX2_isAllowed_145 (by decide) ?_
                                refine lv_goto (tgt := 150) hx hb dX2_isAllowed_146 (by decide) ?_
                                exact u_iret X hret M h (rfl) rfl dX2_isAllowed_150
                            · have h := it_f h c30
                              by_cases c32 : x10 = 112
                              · have h := it_t h c32
                                refine lv_tableIn (off := 207) (tgt := 243) hx hb dX2_isAllowed_36 (by rw [c32]; decide) (by rw [c32]; decide) (by rw [c32]; rfl) (by decide) ?_
                                refine lv_iconst (v := 1) hx hb dX2_isAllowed_243 (by decide) ?_
                                exact u_iret X hret M h (rfl) rfl dX2_isAllowed_244
                              · have h := it_f h c32
                                by_cases c33 : x10 = 113
                                · have h := it_t h c33
                                  refine lv_tableIn (off := 207) (tgt := 243) hx hb dX2_isAllowed_36 (by rw [c33]; decide) (by rw [c33]; decide) (by rw [c33]; rfl) (by decide) ?_
                                  refine lv_iconst (v := 1) hx hb dX2_isAllowed_243 (by decide) ?_
                                  exact u_iret X hret M h (rfl) rfl dX2_isAllowed_244
                                · have h := it_f h c33
                                  by_cases c34 : x10 = 114
                                  · have h := it_t h c34
                                    refine lv_tableIn (off := 88) (tgt := 124) hx hb dX2_isAllowed_36 (by rw [c34]; decide) (by rw [c34]; decide) (by rw [c34]; rfl) (by decide) ?_
                                    refine lv_iload_n hx hb dX2_isAllowed_124 rfl (lv_at hl 4 rfl) ?_
                                    refine lv_iconst (v := 1) hx hb dX2_isAllowed_125 (by decide) ?_
                                    refine lv_icmp_eq (tgt := 134) hx hb dX2_isAllowed_126 (by decide) (fun c35 => ?_) (fun c35 => ?_)
                                    · have h := it_t h c35
                                      refine lv_iconst (v := 1) hx hb dX2_isAllowed_134 (by decide) ?_
                                      refine lv_goto (tgt := 139) hx hb dX2_isAllowed_135 (by decide) ?_
                                      exact u_iret X hret M h (rfl) rfl dX2_isAllowed_139
                                    · have h := it_f h c35
                                      refine lv_iload_n hx hb dX2_isAllowed_129 rfl (lv_at hl 1 rfl) ?_
                                      refine lv_iconst (v := 4) hx hb dX2_isAllowed_130 (by decide) ?_
                                      refine lv_icmp_ge (tgt := 138) hx hb dX2_isAllowed_131 (by decide) (fun c36 => ?_) (fun c36 => ?_)
                                      · have h := it_t h c36
                                        refine lv_iconst (v := 0) hx hb dX2_isAllowed_138 (by decide) ?_
                                        exact u_iret X hret M h (rfl) rfl dX2_isAllowed_139
                                      · have h := it_f h c36
                                        refine lv_iconst (v := 1) hx hb dX2_isAllowed_134 (by decide) ?_
                                        refine lv_goto (tgt := 139) hx hb dX2_isAllowed_135 (by decide) ?_
                                        exact u_iret X hret M h (rfl) rfl dX2_isAllowed_139
                                  · have h := it_f h c34
                                    by_cases c37 : x10 = 115
                                    · have h := it_t h c37
                                      refine lv_tableIn (off := 207) (tgt := 243) hx hb dX2_isAllowed_36 (by rw [c37]; decide) (by rw [c37]; decide) (by rw [c37]; rfl) (by decide) ?_
                                      refine lv_iconst (v := 1) hx hb dX2_isAllowed_243 (by decide) ?_
                                      exact u_iret X hret M h (rfl) rfl dX2_isAllowed_244
                                    · have h := it_f h c37
                                      by_cases c38 : x10 = 116
                                      · have h := it_t h c38
                                        refine lv_tableIn (off := 115) (tgt := 151) hx hb dX2_isAllowed_36 (by rw [c38]; decide) (by rw [c38]; decide) (by rw [c38]; rfl) (by decide) ?_
                                        refine lv_iload_n hx hb dX2_isAllowed_151 rfl (lv_at hl 4 rfl) ?_
                                        refine lv_iconst (v := 1) hx hb dX2_isAllowed_152 (by decide) ?_
                                        refine lv_icmp_ne (tgt := 170) hx hb dX2_isAllowed_153 (by decide) (fun c39 => ?_) (fun c39 => ?_)
                                        · have h := it_f h c39
                                          refine lv_iload_n hx hb dX2_isAllowed_170 rfl (lv_at hl 4 rfl) ?_
                                          refine lv_iconst (v := 2) hx hb dX2_isAllowed_171 (by decide) ?_
                                          refine lv_icmp_eq (tgt := 184) hx hb dX2_isAllowed_172 (by decide) (fun c40 => ?_) (fun c40 => ?_)
                                          · have h := it_t h c40
                                            refine lv_iconst (v := 1) hx hb dX2_isAllowed_184 (by decide) ?_
                                            refine lv_goto (tgt := 189) hx hb dX2_isAllowed_185 (by decide) ?_
                                            exact u_iret X hret M h (rfl) rfl dX2_isAllowed_189
                                          · have h := it_f h c40
                                            refine lv_iload hx hb dX2_isAllowed_175 (lv_at hl 0 rfl) ?_
                                            refine lv_if_gt (tgt := 184) hx hb dX2_isAllowed_177 (by decide) (fun c41 => ?_) (fun c41 => ?_)
                                            · have h := it_t h c41
                                              refine lv_iconst (v := 1) hx hb dX2_isAllowed_184 (by decide) ?_
                                              refine lv_goto (tgt := 189) hx hb dX2_isAllowed_185 (by decide) ?_
                                              exact u_iret X hret M h (rfl) rfl dX2_isAllowed_189
                                            · have h := it_f h c41
                                              refine lv_iload_n hx hb dX2_isAllowed_180 rfl (lv_at hl 1 rfl) ?_
                                              refine lv_if_le (tgt := 188) hx hb dX2_isAllowed_181 (by decide) (fun c42 => ?_) (fun c42 => ?_)
                                              · have h := it_t h c42
                                                refine lv_iconst (v := 0) hx hb dX2_isAllowed_188 (by decide) ?_
                                                exact u_iret X hret M h (rfl) rfl dX2_isAllowed_189
                                              · have h := it_f h c42
                                                refine lv_iconst (v := 1) hx hb dX2_isAllowed_184 (by decide) ?_
                                                refine lv_goto (tgt := 189) hx hb dX2_isAllowed_185 (by decide) ?_
                                                exact u_iret X hret M h (rfl) rfl dX2_isAllowed_189
                                        · have h := it_t h c39
                                          refine lv_iload_n hx hb dX2_isAllowed_156 rfl (lv_at hl 1 rfl) ?_
                                          refine lv_bipush (v := 8) hx hb dX2_isAllowed_157 (by decide) ?_
                                          refine lv_icmp_ge (tgt := 166) hx hb dX2_isAllowed_159 (by decide) (fun c43 => ?_) (fun c43 => ?_)
                                          · have h := it_t h c43
                                            refine lv_iconst (v := 0) hx hb dX2_isAllowed_166 (by decide) ?_
                                            refine lv_goto (tgt := 189) hx hb dX2_isAllowed_167 (by decide) ?_
                                            exact u_iret X hret M h (rfl) rfl dX2_isAllowed_189
                                          · have h := it_f h c43
                                            refine lv_iconst (v := 1) hx hb dX2_isAllowed_162 (by decide) ?_
                                            refine lv_goto (tgt := 189) hx hb dX2_isAllowed_163 (by decide) ?_
                                            exact u_iret X hret M h (rfl) rfl dX2_isAllowed_189
                                      · have h := it_f h c38
                                        by_cases c44 : x10 = 117
                                        · have h := it_t h c44
                                          refine lv_tableIn (off := 104) (tgt := 140) hx hb dX2_isAllowed_36 (by rw [c44]; decide) (by rw [c44]; decide) (by rw [c44]; rfl) (by decide) ?_
                                          refine lv_iload_n hx hb dX2_isAllowed_140 rfl (lv_at hl 1 rfl) ?_
                                          refine lv_iconst (v := 4) hx hb dX2_isAllowed_141 (by decide) ?_
                                          refine lv_icmp_ge (tgt := 149) hx hb dX2_isAllowed_142 (by decide) (fun c45 => ?_) (fun c45 => ?_)
                                          · have h := it_t h c45
                                            refine lv_iconst (v := 0) hx hb dX2_isAllowed_149 (by decide) ?_
                                            exact u_iret X hret M h (rfl) rfl dX2_isAllowed_150
                                          · have h := it_f h c45
                                            refine lv_iconst (v := 1) hx hb dX2_isAllowed_145 (by decide) ?_
                                            refine lv_goto (tgt := 150) hx hb dX2_isAllowed_146 (by decide) ?_
                                            exact u_iret X hret M h (rfl) rfl dX2_isAllowed_150
                                        · have h := it_f h c44
                                          have tc12 := lv_neT (a := 100) c12 (by decide)
                                          have tc14 := lv_neT (a := 101) c14 (by decide)
                                          have tc15 := lv_neT (a := 102) c15 (by decide)
                                          have tc16 := lv_neT (a := 103) c16 (by decide)
                                          have tc17 := lv_neT (a := 104) c17 (by decide)
                                          have tc18 := lv_neT (a := 105) c18 (by decide)
                                          have tc19 := lv_neT (a := 106) c19 (by decide)
                                          have tc20 := lv_neT (a := 107) c20 (by decide)
                                          have tc21 := lv_neT (a := 108) c21 (by decide)
                                          have tc22 := lv_neT (a := 109) c22 (by decide)
                                          have tc29 := lv_neT (a := 110) c29 (by decide)
                                          have tc30 := lv_neT (a := 111) c30 (by decide)
                                          have tc32 := lv_neT (a := 112) c32 (by decide)
                                          have tc33 := lv_neT (a := 113) c33 (by decide)
                                          have tc34 := lv_neT (a := 114) c34 (by decide)
                                          have tc37 := lv_neT (a := 115) c37 (by decide)
                                          have tc38 := lv_neT (a := 116) c38 (by decide)
                                          have tc44 := lv_neT (a := 117) c44 (by decide)
                                          refine lv_tableOut (tgt := 243) hx hb dX2_isAllowed_36 (by omega) (by decide) ?_
                                          refine lv_iconst (v := 1) hx hb dX2_isAllowed_243 (by decide) ?_
                                          exact u_iret X hret M h (rfl) rfl dX2_isAllowed_244
    · have h := it_f h c5
      refine lv_iconst (v := 0) hx hb dX2_isAllowed_18 (by decide) ?_
      exact u_iret X hret M h (rfl) rfl dX2_isAllowed_19
def fX2_firstError_L46 (k : Int32 → Int32 → Int32 → Option Int32) (S : (Nat → Nat → Int32)) (n : Nat) (y1 : Int32) (y2 : Int32) (y3 : Int32) : Option Int32 :=
  match n with
  | 0 => none
  | n + 1 =>
    if y2 < y3 then
      k y1 y2 y3
    else
      lt_ (S 1 1) fun x19 =>
      if x19 ≤ (y1 + y3) then
        some (y1 + y3)
      else
        lt_ (fX2_isAllowed S y1 y3) fun x23 =>
        if x23 = 0 then
          some (y1 + y3)
        else
          lt_ (y3 + 1) fun x26 =>
          fX2_firstError_L46 k S n y1 y2 x26
set_option maxHeartbeats 4000000 in
set_option maxRecDepth 20000 in
theorem lpX2_firstError_46 {l : Launch} {G : UG} {V : uV} (hN : uMn G) {S : (Nat → Nat → Int32)} (hV : V 18 = S) {r : Int32} {p : Program} {e : Env} {s : State} {m : MethodId} {args : Array Value} {below : List Frame} {meth : Method} {c : Code} (X : UC p s m args meth c cX2_firstError 4 RX2 G) (hret : meth.sig.returnType = some .int) {k : Int32 → Int32 → Int32 → Option Int32} (kk : ∀ (y1 : Int32) (y2 : Int32) (y3 : Int32) (H : Heap) (locs : List Loc) (ls : Array Slot), k y1 y2 y3 = some r → UM G (V) s H locs → lv_has ls 4 [(0, .ref (ga G 18 1)), (1, .int y1), (2, .int y2), (3, .int y3)] → W p l e (uR 3 66) s m args below meth c H locs 0 0 (MQ below (uQi G .int r V) args s 0 0 (uA G)) (F0 m 80 ls [])) : ∀ (n : Nat) (y1 : Int32) (y2 : Int32) (y3 : Int32) (H : Heap) (locs : List Loc) (ls : Array Slot), fX2_firstError_L46 k S n y1 y2 y3 = some r → UM G (V) s H locs → lv_has ls 4 [(0, .ref (ga G 18 1)), (1, .int y1), (2, .int y2), (3, .int y3)] → W p l e (uR 3 66) s m args below meth c H locs 0 0 (MQ below (uQi G .int r V) args s 0 0 (uA G)) (F0 m 46 ls []) := by
  intro n
  have hx := X.hx
  have hb := X.hb
  induction n with
  | zero => intro y1 y2 y3 H locs ls h M hl; rw [fX2_firstError_L46] at h; cases h
  | succ n ih =>
    intro y1 y2 y3 H locs ls h M hl
    rw [fX2_firstError_L46] at h
    refine lv_iload_n hx hb dX2_firstError_46 rfl (lv_at hl 3 rfl) ?_
    refine lv_iload_n hx hb dX2_firstError_47 rfl (lv_at hl 2 rfl) ?_
    refine lv_icmp_gt (tgt := 80) hx hb dX2_firstError_48 (by decide) (fun c18 => ?_) (fun c18 => ?_)
    · have h := it_t h c18
      exact kk _ _ _ _ _ _ h M (lv_sub hl [0, 1, 2, 3] rfl)
    · have h := it_f h c18
      refine lv_iload_n hx hb dX2_firstError_51 rfl (lv_at hl 1 rfl) ?_
      refine lv_iload_n hx hb dX2_firstError_52 rfl (lv_at hl 3 rfl) ?_
      refine lv_iadd hx hb dX2_firstError_53 ?_
      refine lv_aload_n hx hb dX2_firstError_54 rfl (lv_at hl 0 rfl) ?_
      obtain ⟨x19, e20, h⟩ := lt_e h
      refine gf_X2_20 X M hN hV e20 dX2_firstError_55 ?_
      refine lv_icmp_ge (tgt := 70) hx hb dX2_firstError_58 (by decide) (fun c21 => ?_) (fun c21 => ?_)
      · have h := it_t h c21
        refine lv_iload_n hx hb dX2_firstError_70 rfl (lv_at hl 1 rfl) ?_
        refine lv_iload_n hx hb dX2_firstError_71 rfl (lv_at hl 3 rfl) ?_
        refine lv_iadd hx hb dX2_firstError_72 ?_
        exact u_iret X hret M (Option.some.inj h) (rfl) rfl dX2_firstError_73
      · have h := it_f h c21
        refine lv_aload_n hx hb dX2_firstError_61 rfl (lv_at hl 0 rfl) ?_
        refine lv_iload_n hx hb dX2_firstError_62 rfl (lv_at hl 1 rfl) ?_
        refine lv_iload_n hx hb dX2_firstError_63 rfl (lv_at hl 3 rfl) ?_
        obtain ⟨x23, e22, h⟩ := lt_e h
        refine u_cVi X M hl.1 (kX2_isAllowed hN hV e22.symm) cw_X2_41 ⟨by decide, by decide⟩ (rc_X2 X M hN) rfl rfl (Nat.le_of_ble_eq_true rfl) ⟨Nat.zero_le _, Nat.zero_le _⟩ dX2_firstError_64 (fun H locs M n24 => ?_)
        refine lv_if_ne (tgt := 74) hx hb dX2_firstError_67 (by decide) (fun c25 => ?_) (fun c25 => ?_)
        · have h := it_f h c25
          obtain ⟨x26, e27, h⟩ := lt_e h
          refine lv_iinc (v := x26) (lv' := [(3, .int x26), (0, .ref (ga G 18 1)), (1, .int y1), (2, .int y2)]) hx hb dX2_firstError_74 hl (k := 3) rfl (by rw [e27]; rfl) (by decide) rfl (fun ls hl => ?_)
          refine lv_goto (tgt := 46) hx hb dX2_firstError_77 (by decide) ?_
          exact ih _ _ _ _ _ _ h M (lv_sub hl [1, 2, 3, 0] rfl)
        · have h := it_t h c25
          refine lv_iload_n hx hb dX2_firstError_70 rfl (lv_at hl 1 rfl) ?_
          refine lv_iload_n hx hb dX2_firstError_71 rfl (lv_at hl 3 rfl) ?_
          refine lv_iadd hx hb dX2_firstError_72 ?_
          exact u_iret X hret M (Option.some.inj h) (rfl) rfl dX2_firstError_73
def fX2_firstError_L21 (S : (Nat → Nat → Int32)) (n : Nat) (y1 : Int32) : Option Int32 :=
  match n with
  | 0 => none
  | n + 1 =>
    lt_ (S 1 1) fun x8 =>
    if x8 ≤ y1 then
      some (-1)
    else
      lt_ (fX2_sign S y1) fun x12 =>
      lt_ (fX2_digitsOf  x12) fun x15 =>
      if x15 = 0 then
        some y1
      else
        fX2_firstError_L46 (fun x28 x29 x30 =>
            lt_ ((x28 + (1 + x29))) fun x31 =>
            fX2_firstError_L21 S n x31) S 3000 y1 x15 1
set_option maxHeartbeats 4000000 in
set_option maxRecDepth 20000 in
theorem lpX2_firstError_21 {l : Launch} {G : UG} {V : uV} (hN : uMn G) {S : (Nat → Nat → Int32)} (hV : V 18 = S) {r : Int32} {p : Program} {e : Env} {s : State} {m : MethodId} {args : Array Value} {below : List Frame} {meth : Method} {c : Code} (X : UC p s m args meth c cX2_firstError 4 RX2 G) (hret : meth.sig.returnType = some .int) : ∀ (n : Nat) (y1 : Int32) (H : Heap) (locs : List Loc) (ls : Array Slot), fX2_firstError_L21 S n y1 = some r → UM G (V) s H locs → lv_has ls 4 [(0, .ref (ga G 18 1)), (1, .int y1)] → W p l e (uR 3 66) s m args below meth c H locs 0 0 (MQ below (uQi G .int r V) args s 0 0 (uA G)) (F0 m 21 ls []) := by
  intro n
  have hx := X.hx
  have hb := X.hb
  induction n with
  | zero => intro y1 H locs ls h M hl; rw [fX2_firstError_L21] at h; cases h
  | succ n ih =>
    intro y1 H locs ls h M hl
    rw [fX2_firstError_L21] at h
    refine lv_iload_n hx hb dX2_firstError_21 rfl (lv_at hl 1 rfl) ?_
    refine lv_aload_n hx hb dX2_firstError_22 rfl (lv_at hl 0 rfl) ?_
    obtain ⟨x8, e9, h⟩ := lt_e h
    refine gf_X2_20 X M hN hV e9 dX2_firstError_23 ?_
    refine lv_icmp_ge (tgt := 89) hx hb dX2_firstError_26 (by decide) (fun c10 => ?_) (fun c10 => ?_)
    · have h := it_t h c10
      refine lv_iconst (v := (-1)) hx hb dX2_firstError_89 (by decide) ?_
      exact u_iret X hret M (Option.some.inj h) (rfl) rfl dX2_firstError_90
    · have h := it_f h c10
      refine lv_aload_n hx hb dX2_firstError_29 rfl (lv_at hl 0 rfl) ?_
      refine lv_iload_n hx hb dX2_firstError_30 rfl (lv_at hl 1 rfl) ?_
      obtain ⟨x12, e11, h⟩ := lt_e h
      refine u_cVi X M hl.1 (kX2_sign hN hV e11.symm) cw_X2_35 ⟨by decide, by decide⟩ (rc_X2 X M hN) rfl rfl (Nat.le_of_ble_eq_true rfl) ⟨Nat.zero_le _, Nat.zero_le _⟩ dX2_firstError_31 (fun H locs M n13 => ?_)
      obtain ⟨x15, e14, h⟩ := lt_e h
      refine u_cSi X M hl.1 (kX2_digitsOf  e14.symm) cw_X2_38 ⟨by decide, by decide⟩ rfl rfl (Nat.le_of_ble_eq_true rfl) ⟨Nat.zero_le _, Nat.zero_le _⟩ dX2_firstError_34 (fun H locs M n16 => ?_)
      refine lv_istore_n (lv' := [(2, .int x15), (0, .ref (ga G 18 1)), (1, .int y1)]) hx hb dX2_firstError_37 rfl hl (by decide) rfl (fun ls hl => ?_)
      refine lv_iload_n hx hb dX2_firstError_38 rfl (lv_at hl 0 rfl) ?_
      refine lv_if_ne (tgt := 44) hx hb dX2_firstError_39 (by decide) (fun c17 => ?_) (fun c17 => ?_)
      · have h := it_f h c17
        refine lv_iconst (v := 1) hx hb dX2_firstError_44 (by decide) ?_
        refine lv_istore_n (lv' := [(3, .int 1), (2, .int x15), (0, .ref (ga G 18 1)), (1, .int y1)]) hx hb dX2_firstError_45 rfl hl (by decide) rfl (fun ls hl => ?_)
        refine lpX2_firstError_46 hN hV X hret (fun x28 x29 x30 H locs ls h M hl => ?_) 3000 _ _ _ _ _ _ h M (lv_sub hl [2, 3, 1, 0] rfl)
        refine lv_iload_n hx hb dX2_firstError_80 rfl (lv_at hl 1 rfl) ?_
        refine lv_iconst (v := 1) hx hb dX2_firstError_81 (by decide) ?_
        refine lv_iload_n hx hb dX2_firstError_82 rfl (lv_at hl 2 rfl) ?_
        refine lv_iadd hx hb dX2_firstError_83 ?_
        refine lv_iadd hx hb dX2_firstError_84 ?_
        obtain ⟨x31, e32, h⟩ := lt_e h
        refine u_topi e32 ?_
        refine lv_istore_n (lv' := [(1, .int x31), (0, .ref (ga G 18 1)), (2, .int x29), (3, .int x30)]) hx hb dX2_firstError_85 rfl hl (by decide) rfl (fun ls hl => ?_)
        refine lv_goto (tgt := 21) hx hb dX2_firstError_86 (by decide) ?_
        exact ih _ _ _ _ h M (lv_sub hl [1, 0] rfl)
      · have h := it_t h c17
        refine lv_iload_n hx hb dX2_firstError_42 rfl (lv_at hl 2 rfl) ?_
        exact u_iret X hret M (Option.some.inj h) (rfl) rfl dX2_firstError_43
def fX2_firstError (S : (Nat → Nat → Int32)) : Option Int32 :=
  lt_ (S 1 1) fun x1 =>
  if x1 = 0 then
    some 0
  else
    lt_ (fX2_sign S 0) fun x5 =>
    if x5 = 79 then
      fX2_firstError_L21 S 3000 1
    else
      some 0
set_option maxHeartbeats 4000000 in
set_option maxRecDepth 20000 in
theorem kX2_firstError {l : Launch} {G : UG} {V : uV} (hN : uMn G) {S : (Nat → Nat → Int32)} (hV : V 18 = S)  {r : Int32} (h : fX2_firstError S = some r) : uMi l G yX2_firstError cX2_firstError 4 .int (uR 3 66) [.ref (ga G 18 1)] V r V := by
  refine uMi_of rfl (Nat.le_of_ble_eq_true rfl) (fun p e s m args below meth c ls X hret hl M => ?_)
  have hl : lv_has ls 4 [(0, .ref (ga G 18 1))] := hl
  have hx := X.hx
  have hb := X.hb
  unfold fX2_firstError at h
  refine lv_aload_n hx hb dX2_firstError_0 rfl (lv_at hl 0 rfl) ?_
  obtain ⟨x1, e2, h⟩ := lt_e h
  refine gf_X2_20 X M hN hV e2 dX2_firstError_1 ?_
  refine lv_if_eq (tgt := 17) hx hb dX2_firstError_4 (by decide) (fun c3 => ?_) (fun c3 => ?_)
  · have h := it_t h c3
    refine lv_iconst (v := 0) hx hb dX2_firstError_17 (by decide) ?_
    exact u_iret X hret M (Option.some.inj h) (rfl) rfl dX2_firstError_18
  · have h := it_f h c3
    refine lv_aload_n hx hb dX2_firstError_7 rfl (lv_at hl 0 rfl) ?_
    refine lv_iconst (v := 0) hx hb dX2_firstError_8 (by decide) ?_
    obtain ⟨x5, e4, h⟩ := lt_e h
    refine u_cVi X M hl.1 (kX2_sign hN hV e4.symm) cw_X2_35 ⟨by decide, by decide⟩ (rc_X2 X M hN) rfl rfl (Nat.le_of_ble_eq_true rfl) ⟨Nat.zero_le _, Nat.zero_le _⟩ dX2_firstError_9 (fun H locs M n6 => ?_)
    refine lv_bipush (v := 79) hx hb dX2_firstError_12 (by decide) ?_
    refine lv_icmp_eq (tgt := 19) hx hb dX2_firstError_14 (by decide) (fun c7 => ?_) (fun c7 => ?_)
    · have h := it_t h c7
      refine lv_iconst (v := 1) hx hb dX2_firstError_19 (by decide) ?_
      refine lv_istore_n (lv' := [(1, .int 1), (0, .ref (ga G 18 1))]) hx hb dX2_firstError_20 rfl hl (by decide) rfl (fun ls hl => ?_)
      exact lpX2_firstError_21 hN hV X hret 3000 _ _ _ _ h M (lv_sub hl [1, 0] rfl)
    · have h := it_f h c7
      refine lv_iconst (v := 0) hx hb dX2_firstError_17 (by decide) ?_
      exact u_iret X hret M (Option.some.inj h) (rfl) rfl dX2_firstError_18
