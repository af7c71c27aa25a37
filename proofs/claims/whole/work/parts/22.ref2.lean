theorem dX12_thrown_0 : decode cX12_thrown 0 = .ok (.aload_n 0, 1) := by decide +kernel
theorem dX12_thrown_1 : decode cX12_thrown 1 = .ok (.getfield 36, 3) := by decide +kernel
theorem dX12_thrown_4 : decode cX12_thrown 4 = .ok (.ireturn, 1) := by decide +kernel
theorem dX12_refused_0 : decode cX12_refused 0 = .ok (.aload_n 0, 1) := by decide +kernel
theorem dX12_refused_1 : decode cX12_refused 1 = .ok (.iload_n 1, 1) := by decide +kernel
theorem dX12_refused_2 : decode cX12_refused 2 = .ok (.putfield 36, 3) := by decide +kernel
theorem dX12_refused_5 : decode cX12_refused 5 = .ok (.iload_n 1, 1) := by decide +kernel
theorem dX12_refused_6 : decode cX12_refused 6 = .ok (.ifCond .le 7, 3) := by decide +kernel
theorem dX12_refused_9 : decode cX12_refused 9 = .ok (.iconst 1, 1) := by decide +kernel
theorem dX12_refused_10 : decode cX12_refused 10 = .ok (.goto 4, 3) := by decide +kernel
theorem dX12_refused_13 : decode cX12_refused 13 = .ok (.iconst 0, 1) := by decide +kernel
theorem dX12_refused_14 : decode cX12_refused 14 = .ok (.ireturn, 1) := by decide +kernel
theorem dX12_append_0 : decode cX12_append 0 = .ok (.aload_n 0, 1) := by decide +kernel
theorem dX12_append_1 : decode cX12_append 1 = .ok (.iload_n 1, 1) := by decide +kernel
theorem dX12_append_2 : decode cX12_append 2 = .ok (.i2l, 1) := by decide +kernel
theorem dX12_append_3 : decode cX12_append 3 = .ok (.lconst 0, 1) := by decide +kernel
theorem dX12_append_4 : decode cX12_append 4 = .ok (.ldc2_w 96, 3) := by decide +kernel
theorem dX12_append_7 : decode cX12_append 7 = .ok (.invokestatic 44, 3) := by decide +kernel
theorem dX12_append_10 : decode cX12_append 10 = .ok (.ifCond .ne 7, 3) := by decide +kernel
theorem dX12_append_13 : decode cX12_append 13 = .ok (.iconst 1, 1) := by decide +kernel
theorem dX12_append_14 : decode cX12_append 14 = .ok (.goto 17, 3) := by decide +kernel
theorem dX12_append_17 : decode cX12_append 17 = .ok (.aload_n 0, 1) := by decide +kernel
theorem dX12_append_18 : decode cX12_append 18 = .ok (.getfield 98, 3) := by decide +kernel
theorem dX12_append_21 : decode cX12_append 21 = .ok (.bipush 120, 2) := by decide +kernel
theorem dX12_append_23 : decode cX12_append 23 = .ok (.if_icmp .ne 7, 3) := by decide +kernel
theorem dX12_append_26 : decode cX12_append 26 = .ok (.iconst 2, 1) := by decide +kernel
theorem dX12_append_27 : decode cX12_append 27 = .ok (.goto 4, 3) := by decide +kernel
theorem dX12_append_30 : decode cX12_append 30 = .ok (.iconst 0, 1) := by decide +kernel
theorem dX12_append_31 : decode cX12_append 31 = .ok (.invokevirtual 101, 3) := by decide +kernel
theorem dX12_append_34 : decode cX12_append 34 = .ok (.ifCond .eq 5, 3) := by decide +kernel
theorem dX12_append_37 : decode cX12_append 37 = .ok (.iconst 0, 1) := by decide +kernel
theorem dX12_append_38 : decode cX12_append 38 = .ok (.ireturn, 1) := by decide +kernel
theorem dX12_append_39 : decode cX12_append 39 = .ok (.aload_n 0, 1) := by decide +kernel
theorem dX12_append_40 : decode cX12_append 40 = .ok (.getfield 7, 3) := by decide +kernel
theorem dX12_append_43 : decode cX12_append 43 = .ok (.aload_n 0, 1) := by decide +kernel
theorem dX12_append_44 : decode cX12_append 44 = .ok (.getfield 98, 3) := by decide +kernel
theorem dX12_append_47 : decode cX12_append 47 = .ok (.iload_n 1, 1) := by decide +kernel
theorem dX12_append_48 : decode cX12_append 48 = .ok (.iastore, 1) := by decide +kernel
theorem dX12_append_49 : decode cX12_append 49 = .ok (.aload_n 0, 1) := by decide +kernel
theorem dX12_append_50 : decode cX12_append 50 = .ok (.dup, 1) := by decide +kernel
theorem dX12_append_51 : decode cX12_append 51 = .ok (.getfield 98, 3) := by decide +kernel
theorem dX12_append_54 : decode cX12_append 54 = .ok (.iconst 1, 1) := by decide +kernel
theorem dX12_append_55 : decode cX12_append 55 = .ok (.iadd, 1) := by decide +kernel
theorem dX12_append_56 : decode cX12_append 56 = .ok (.putfield 98, 3) := by decide +kernel
theorem dX12_append_59 : decode cX12_append 59 = .ok (.aload_n 0, 1) := by decide +kernel
theorem dX12_append_60 : decode cX12_append 60 = .ok (.getfield 98, 3) := by decide +kernel
theorem dX12_append_63 : decode cX12_append 63 = .ok (.ireturn, 1) := by decide +kernel
theorem dX12_clearText_0 : decode cX12_clearText 0 = .ok (.aload_n 0, 1) := by decide +kernel
theorem dX12_clearText_1 : decode cX12_clearText 1 = .ok (.iconst 0, 1) := by decide +kernel
theorem dX12_clearText_2 : decode cX12_clearText 2 = .ok (.putfield 36, 3) := by decide +kernel
theorem dX12_clearText_5 : decode cX12_clearText 5 = .ok (.aload_n 0, 1) := by decide +kernel
theorem dX12_clearText_6 : decode cX12_clearText 6 = .ok (.getfield 98, 3) := by decide +kernel
theorem dX12_clearText_9 : decode cX12_clearText 9 = .ok (.istore_n 1, 1) := by decide +kernel
theorem dX12_clearText_10 : decode cX12_clearText 10 = .ok (.aload_n 0, 1) := by decide +kernel
theorem dX12_clearText_11 : decode cX12_clearText 11 = .ok (.iconst 0, 1) := by decide +kernel
theorem dX12_clearText_12 : decode cX12_clearText 12 = .ok (.putfield 98, 3) := by decide +kernel
theorem dX12_clearText_15 : decode cX12_clearText 15 = .ok (.iload_n 1, 1) := by decide +kernel
theorem dX12_clearText_16 : decode cX12_clearText 16 = .ok (.ireturn, 1) := by decide +kernel
theorem dX12_figures_0 : decode cX12_figures 0 = .ok (.iconst 0, 1) := by decide +kernel
theorem dX12_figures_1 : decode cX12_figures 1 = .ok (.istore 5, 2) := by decide +kernel
theorem dX12_figures_3 : decode cX12_figures 3 = .ok (.iload_n 2, 1) := by decide +kernel
theorem dX12_figures_4 : decode cX12_figures 4 = .ok (.iconst 2, 1) := by decide +kernel
theorem dX12_figures_5 : decode cX12_figures 5 = .ok (.if_icmp .ne 8, 3) := by decide +kernel
theorem dX12_figures_8 : decode cX12_figures 8 = .ok (.bipush 10, 2) := by decide +kernel
theorem dX12_figures_10 : decode cX12_figures 10 = .ok (.goto 4, 3) := by decide +kernel
theorem dX12_figures_13 : decode cX12_figures 13 = .ok (.iconst 1, 1) := by decide +kernel
theorem dX12_figures_14 : decode cX12_figures 14 = .ok (.istore 6, 2) := by decide +kernel
theorem dX12_figures_16 : decode cX12_figures 16 = .ok (.iload 6, 2) := by decide +kernel
theorem dX12_figures_18 : decode cX12_figures 18 = .ok (.ifCond .le 104, 3) := by decide +kernel
theorem dX12_figures_21 : decode cX12_figures 21 = .ok (.iload_n 1, 1) := by decide +kernel
theorem dX12_figures_22 : decode cX12_figures 22 = .ok (.iconst (-1), 1) := by decide +kernel
theorem dX12_figures_23 : decode cX12_figures 23 = .ok (.if_icmp .eq 99, 3) := by decide +kernel
theorem dX12_figures_26 : decode cX12_figures 26 = .ok (.aload_n 0, 1) := by decide +kernel
theorem dX12_figures_27 : decode cX12_figures 27 = .ok (.getfield 105, 3) := by decide +kernel
theorem dX12_figures_30 : decode cX12_figures 30 = .ok (.aload_n 0, 1) := by decide +kernel
theorem dX12_figures_31 : decode cX12_figures 31 = .ok (.getfield 98, 3) := by decide +kernel
theorem dX12_figures_34 : decode cX12_figures 34 = .ok (.if_icmp .ge 18, 3) := by decide +kernel
theorem dX12_figures_37 : decode cX12_figures 37 = .ok (.aload_n 0, 1) := by decide +kernel
theorem dX12_figures_38 : decode cX12_figures 38 = .ok (.getfield 7, 3) := by decide +kernel
theorem dX12_figures_41 : decode cX12_figures 41 = .ok (.aload_n 0, 1) := by decide +kernel
theorem dX12_figures_42 : decode cX12_figures 42 = .ok (.getfield 105, 3) := by decide +kernel
theorem dX12_figures_45 : decode cX12_figures 45 = .ok (.iaload, 1) := by decide +kernel
theorem dX12_figures_46 : decode cX12_figures 46 = .ok (.bipush 48, 2) := by decide +kernel
theorem dX12_figures_48 : decode cX12_figures 48 = .ok (.isub, 1) := by decide +kernel
theorem dX12_figures_49 : decode cX12_figures 49 = .ok (.goto 4, 3) := by decide +kernel
theorem dX12_figures_52 : decode cX12_figures 52 = .ok (.iconst (-1), 1) := by decide +kernel
theorem dX12_figures_53 : decode cX12_figures 53 = .ok (.istore 7, 2) := by decide +kernel
theorem dX12_figures_55 : decode cX12_figures 55 = .ok (.iload 5, 2) := by decide +kernel
theorem dX12_figures_57 : decode cX12_figures 57 = .ok (.iload 7, 2) := by decide +kernel
theorem dX12_figures_59 : decode cX12_figures 59 = .ok (.iload 6, 2) := by decide +kernel
theorem dX12_figures_61 : decode cX12_figures 61 = .ok (.imul, 1) := by decide +kernel
theorem dX12_figures_62 : decode cX12_figures 62 = .ok (.iadd, 1) := by decide +kernel
theorem dX12_figures_63 : decode cX12_figures 63 = .ok (.istore 8, 2) := by decide +kernel
theorem dX12_figures_65 : decode cX12_figures 65 = .ok (.iload 7, 2) := by decide +kernel
theorem dX12_figures_67 : decode cX12_figures 67 = .ok (.i2l, 1) := by decide +kernel
theorem dX12_figures_68 : decode cX12_figures 68 = .ok (.lconst 0, 1) := by decide +kernel
theorem dX12_figures_69 : decode cX12_figures 69 = .ok (.ldc2_w 108, 3) := by decide +kernel
theorem dX12_figures_72 : decode cX12_figures 72 = .ok (.invokestatic 44, 3) := by decide +kernel
theorem dX12_figures_75 : decode cX12_figures 75 = .ok (.ifCond .eq 21, 3) := by decide +kernel
theorem dX12_figures_78 : decode cX12_figures 78 = .ok (.iload 8, 2) := by decide +kernel
theorem dX12_figures_80 : decode cX12_figures 80 = .ok (.iload 4, 2) := by decide +kernel
theorem dX12_figures_82 : decode cX12_figures 82 = .ok (.if_icmp .gt 14, 3) := by decide +kernel
theorem dX12_figures_85 : decode cX12_figures 85 = .ok (.iload 8, 2) := by decide +kernel
theorem dX12_figures_87 : decode cX12_figures 87 = .ok (.iload 6, 2) := by decide +kernel
theorem dX12_figures_89 : decode cX12_figures 89 = .ok (.iadd, 1) := by decide +kernel
theorem dX12_figures_90 : decode cX12_figures 90 = .ok (.iconst 1, 1) := by decide +kernel
theorem dX12_figures_91 : decode cX12_figures 91 = .ok (.isub, 1) := by decide +kernel
theorem dX12_figures_92 : decode cX12_figures 92 = .ok (.iload_n 3, 1) := by decide +kernel
theorem dX12_figures_93 : decode cX12_figures 93 = .ok (.if_icmp .ge 5, 3) := by decide +kernel
theorem dX12_figures_96 : decode cX12_figures 96 = .ok (.iconst (-1), 1) := by decide +kernel
theorem dX12_figures_97 : decode cX12_figures 97 = .ok (.ireturn, 1) := by decide +kernel
theorem dX12_figures_98 : decode cX12_figures 98 = .ok (.iload 8, 2) := by decide +kernel
theorem dX12_figures_100 : decode cX12_figures 100 = .ok (.istore 5, 2) := by decide +kernel
theorem dX12_figures_102 : decode cX12_figures 102 = .ok (.aload_n 0, 1) := by decide +kernel
theorem dX12_figures_103 : decode cX12_figures 103 = .ok (.dup, 1) := by decide +kernel
theorem dX12_figures_104 : decode cX12_figures 104 = .ok (.getfield 105, 3) := by decide +kernel
theorem dX12_figures_107 : decode cX12_figures 107 = .ok (.iconst 1, 1) := by decide +kernel
theorem dX12_figures_108 : decode cX12_figures 108 = .ok (.iadd, 1) := by decide +kernel
theorem dX12_figures_109 : decode cX12_figures 109 = .ok (.putfield 105, 3) := by decide +kernel
theorem dX12_figures_112 : decode cX12_figures 112 = .ok (.iload 6, 2) := by decide +kernel
theorem dX12_figures_114 : decode cX12_figures 114 = .ok (.bipush 10, 2) := by decide +kernel
theorem dX12_figures_116 : decode cX12_figures 116 = .ok (.idiv, 1) := by decide +kernel
theorem dX12_figures_117 : decode cX12_figures 117 = .ok (.istore 6, 2) := by decide +kernel
theorem dX12_figures_119 : decode cX12_figures 119 = .ok (.goto (-103), 3) := by decide +kernel
theorem dX12_figures_122 : decode cX12_figures 122 = .ok (.iload_n 1, 1) := by decide +kernel
theorem dX12_figures_123 : decode cX12_figures 123 = .ok (.iconst (-1), 1) := by decide +kernel
theorem dX12_figures_124 : decode cX12_figures 124 = .ok (.if_icmp .ne 7, 3) := by decide +kernel
theorem dX12_figures_127 : decode cX12_figures 127 = .ok (.iconst (-1), 1) := by decide +kernel
theorem dX12_figures_128 : decode cX12_figures 128 = .ok (.goto 5, 3) := by decide +kernel
theorem dX12_figures_131 : decode cX12_figures 131 = .ok (.iload 5, 2) := by decide +kernel
theorem dX12_figures_133 : decode cX12_figures 133 = .ok (.ireturn, 1) := by decide +kernel
theorem dX12_done_0 : decode cX12_done 0 = .ok (.aload_n 0, 1) := by decide +kernel
theorem dX12_done_1 : decode cX12_done 1 = .ok (.dup, 1) := by decide +kernel
theorem dX12_done_2 : decode cX12_done 2 = .ok (.getfield 110, 3) := by decide +kernel
theorem dX12_done_5 : decode cX12_done 5 = .ok (.iload_n 1, 1) := by decide +kernel
theorem dX12_done_6 : decode cX12_done 6 = .ok (.ifCond .eq 7, 3) := by decide +kernel
theorem dX12_done_9 : decode cX12_done 9 = .ok (.iconst 0, 1) := by decide +kernel
theorem dX12_done_10 : decode cX12_done 10 = .ok (.goto 4, 3) := by decide +kernel
theorem dX12_done_13 : decode cX12_done 13 = .ok (.iconst 1, 1) := by decide +kernel
theorem dX12_done_14 : decode cX12_done 14 = .ok (.iadd, 1) := by decide +kernel
theorem dX12_done_15 : decode cX12_done 15 = .ok (.putfield 110, 3) := by decide +kernel
theorem dX12_done_18 : decode cX12_done 18 = .ok (.iconst 1, 1) := by decide +kernel
theorem dX12_done_19 : decode cX12_done 19 = .ok (.ireturn, 1) := by decide +kernel
theorem dX12_readCommand_0 : decode cX12_readCommand 0 = .ok (.aload_n 0, 1) := by decide +kernel
theorem dX12_readCommand_1 : decode cX12_readCommand 1 = .ok (.getfield 7, 3) := by decide +kernel
theorem dX12_readCommand_4 : decode cX12_readCommand 4 = .ok (.aload_n 0, 1) := by decide +kernel
theorem dX12_readCommand_5 : decode cX12_readCommand 5 = .ok (.getfield 105, 3) := by decide +kernel
theorem dX12_readCommand_8 : decode cX12_readCommand 8 = .ok (.iaload, 1) := by decide +kernel
theorem dX12_readCommand_9 : decode cX12_readCommand 9 = .ok (.istore_n 2, 1) := by decide +kernel
theorem dX12_readCommand_10 : decode cX12_readCommand 10 = .ok (.aload_n 0, 1) := by decide +kernel
theorem dX12_readCommand_11 : decode cX12_readCommand 11 = .ok (.dup, 1) := by decide +kernel
theorem dX12_readCommand_12 : decode cX12_readCommand 12 = .ok (.getfield 105, 3) := by decide +kernel
theorem dX12_readCommand_15 : decode cX12_readCommand 15 = .ok (.iconst 1, 1) := by decide +kernel
theorem dX12_readCommand_16 : decode cX12_readCommand 16 = .ok (.iadd, 1) := by decide +kernel
theorem dX12_readCommand_17 : decode cX12_readCommand 17 = .ok (.putfield 105, 3) := by decide +kernel
theorem dX12_readCommand_20 : decode cX12_readCommand 20 = .ok (.iload_n 2, 1) := by decide +kernel
theorem dX12_readCommand_21 : decode cX12_readCommand 21 = .ok (.tableswitch 441 99 117 #[139, 317, 441, 441, 441, 441, 91, 441, 441, 441, 400, 441, 360, 441, 441, 188, 441, 250, 317], 91) := by decide +kernel
theorem dX12_readCommand_112 : decode cX12_readCommand 112 = .ok (.aload_n 0, 1) := by decide +kernel
theorem dX12_readCommand_113 : decode cX12_readCommand 113 = .ok (.iconst 0, 1) := by decide +kernel
theorem dX12_readCommand_114 : decode cX12_readCommand 114 = .ok (.iconst 2, 1) := by decide +kernel
theorem dX12_readCommand_115 : decode cX12_readCommand 115 = .ok (.iconst 0, 1) := by decide +kernel
theorem dX12_readCommand_116 : decode cX12_readCommand 116 = .ok (.bipush 99, 2) := by decide +kernel
theorem dX12_readCommand_118 : decode cX12_readCommand 118 = .ok (.invokevirtual 119, 3) := by decide +kernel
theorem dX12_readCommand_121 : decode cX12_readCommand 121 = .ok (.istore_n 3, 1) := by decide +kernel
theorem dX12_readCommand_122 : decode cX12_readCommand 122 = .ok (.iload_n 3, 1) := by decide +kernel
theorem dX12_readCommand_123 : decode cX12_readCommand 123 = .ok (.iconst (-1), 1) := by decide +kernel
theorem dX12_readCommand_124 : decode cX12_readCommand 124 = .ok (.if_icmp .eq 34, 3) := by decide +kernel
theorem dX12_readCommand_127 : decode cX12_readCommand 127 = .ok (.aload_n 0, 1) := by decide +kernel
theorem dX12_readCommand_128 : decode cX12_readCommand 128 = .ok (.aload_n 1, 1) := by decide +kernel
theorem dX12_readCommand_129 : decode cX12_readCommand 129 = .ok (.invokestatic 123, 3) := by decide +kernel
theorem dX12_readCommand_132 : decode cX12_readCommand 132 = .ok (.ifCond .eq 15, 3) := by decide +kernel
theorem dX12_readCommand_135 : decode cX12_readCommand 135 = .ok (.aload_n 1, 1) := by decide +kernel
theorem dX12_readCommand_136 : decode cX12_readCommand 136 = .ok (.iload_n 3, 1) := by decide +kernel
theorem dX12_readCommand_137 : decode cX12_readCommand 137 = .ok (.invokestatic 127, 3) := by decide +kernel
theorem dX12_readCommand_140 : decode cX12_readCommand 140 = .ok (.ifCond .lt 7, 3) := by decide +kernel
theorem dX12_readCommand_143 : decode cX12_readCommand 143 = .ok (.iconst 1, 1) := by decide +kernel
theorem dX12_readCommand_144 : decode cX12_readCommand 144 = .ok (.goto 4, 3) := by decide +kernel
theorem dX12_readCommand_147 : decode cX12_readCommand 147 = .ok (.iconst 0, 1) := by decide +kernel
theorem dX12_readCommand_148 : decode cX12_readCommand 148 = .ok (.invokevirtual 130, 3) := by decide +kernel
theorem dX12_readCommand_151 : decode cX12_readCommand 151 = .ok (.ifCond .eq 7, 3) := by decide +kernel
theorem dX12_readCommand_154 : decode cX12_readCommand 154 = .ok (.iconst 1, 1) := by decide +kernel
theorem dX12_readCommand_155 : decode cX12_readCommand 155 = .ok (.goto 4, 3) := by decide +kernel
theorem dX12_readCommand_158 : decode cX12_readCommand 158 = .ok (.iconst 0, 1) := by decide +kernel
theorem dX12_readCommand_159 : decode cX12_readCommand 159 = .ok (.ireturn, 1) := by decide +kernel
theorem dX12_readCommand_160 : decode cX12_readCommand 160 = .ok (.aload_n 0, 1) := by decide +kernel
theorem dX12_readCommand_161 : decode cX12_readCommand 161 = .ok (.iconst 0, 1) := by decide +kernel
theorem dX12_readCommand_162 : decode cX12_readCommand 162 = .ok (.iconst 1, 1) := by decide +kernel
theorem dX12_readCommand_163 : decode cX12_readCommand 163 = .ok (.iconst 0, 1) := by decide +kernel
theorem dX12_readCommand_164 : decode cX12_readCommand 164 = .ok (.bipush 9, 2) := by decide +kernel
theorem dX12_readCommand_166 : decode cX12_readCommand 166 = .ok (.invokevirtual 119, 3) := by decide +kernel
theorem dX12_readCommand_169 : decode cX12_readCommand 169 = .ok (.istore_n 3, 1) := by decide +kernel
theorem dX12_readCommand_170 : decode cX12_readCommand 170 = .ok (.iload_n 3, 1) := by decide +kernel
theorem dX12_readCommand_171 : decode cX12_readCommand 171 = .ok (.iconst (-1), 1) := by decide +kernel
theorem dX12_readCommand_172 : decode cX12_readCommand 172 = .ok (.if_icmp .eq 35, 3) := by decide +kernel
theorem dX12_readCommand_175 : decode cX12_readCommand 175 = .ok (.aload_n 0, 1) := by decide +kernel
theorem dX12_readCommand_176 : decode cX12_readCommand 176 = .ok (.aload_n 1, 1) := by decide +kernel
theorem dX12_readCommand_177 : decode cX12_readCommand 177 = .ok (.iload_n 3, 1) := by decide +kernel
theorem dX12_readCommand_178 : decode cX12_readCommand 178 = .ok (.invokestatic 134, 3) := by decide +kernel
theorem dX12_readCommand_181 : decode cX12_readCommand 181 = .ok (.ifCond .eq 15, 3) := by decide +kernel
theorem dX12_readCommand_184 : decode cX12_readCommand 184 = .ok (.aload_n 1, 1) := by decide +kernel
theorem dX12_readCommand_185 : decode cX12_readCommand 185 = .ok (.iload_n 3, 1) := by decide +kernel
theorem dX12_readCommand_186 : decode cX12_readCommand 186 = .ok (.invokestatic 137, 3) := by decide +kernel
theorem dX12_readCommand_189 : decode cX12_readCommand 189 = .ok (.ifCond .le 7, 3) := by decide +kernel
theorem dX12_readCommand_192 : decode cX12_readCommand 192 = .ok (.iconst 1, 1) := by decide +kernel
theorem dX12_readCommand_193 : decode cX12_readCommand 193 = .ok (.goto 4, 3) := by decide +kernel
theorem dX12_readCommand_196 : decode cX12_readCommand 196 = .ok (.iconst 0, 1) := by decide +kernel
theorem dX12_readCommand_197 : decode cX12_readCommand 197 = .ok (.invokevirtual 130, 3) := by decide +kernel
theorem dX12_readCommand_200 : decode cX12_readCommand 200 = .ok (.ifCond .eq 7, 3) := by decide +kernel
theorem dX12_readCommand_203 : decode cX12_readCommand 203 = .ok (.iconst 1, 1) := by decide +kernel
theorem dX12_readCommand_204 : decode cX12_readCommand 204 = .ok (.goto 4, 3) := by decide +kernel
theorem dX12_readCommand_207 : decode cX12_readCommand 207 = .ok (.iconst 0, 1) := by decide +kernel
theorem dX12_readCommand_208 : decode cX12_readCommand 208 = .ok (.ireturn, 1) := by decide +kernel
theorem dX12_readCommand_209 : decode cX12_readCommand 209 = .ok (.aload_n 0, 1) := by decide +kernel
theorem dX12_readCommand_210 : decode cX12_readCommand 210 = .ok (.iconst 0, 1) := by decide +kernel
theorem dX12_readCommand_211 : decode cX12_readCommand 211 = .ok (.iconst 1, 1) := by decide +kernel
theorem dX12_readCommand_212 : decode cX12_readCommand 212 = .ok (.iconst 0, 1) := by decide +kernel
theorem dX12_readCommand_213 : decode cX12_readCommand 213 = .ok (.bipush 9, 2) := by decide +kernel
theorem dX12_readCommand_215 : decode cX12_readCommand 215 = .ok (.invokevirtual 119, 3) := by decide +kernel
theorem dX12_readCommand_218 : decode cX12_readCommand 218 = .ok (.istore_n 3, 1) := by decide +kernel
theorem dX12_readCommand_219 : decode cX12_readCommand 219 = .ok (.aload_n 0, 1) := by decide +kernel
theorem dX12_readCommand_220 : decode cX12_readCommand 220 = .ok (.iload_n 3, 1) := by decide +kernel
theorem dX12_readCommand_221 : decode cX12_readCommand 221 = .ok (.iconst 1, 1) := by decide +kernel
theorem dX12_readCommand_222 : decode cX12_readCommand 222 = .ok (.iconst 0, 1) := by decide +kernel
theorem dX12_readCommand_223 : decode cX12_readCommand 223 = .ok (.iconst 3, 1) := by decide +kernel
theorem dX12_readCommand_224 : decode cX12_readCommand 224 = .ok (.invokevirtual 119, 3) := by decide +kernel
theorem dX12_readCommand_227 : decode cX12_readCommand 227 = .ok (.istore 4, 2) := by decide +kernel
theorem dX12_readCommand_229 : decode cX12_readCommand 229 = .ok (.iload 4, 2) := by decide +kernel
theorem dX12_readCommand_231 : decode cX12_readCommand 231 = .ok (.iconst (-1), 1) := by decide +kernel
theorem dX12_readCommand_232 : decode cX12_readCommand 232 = .ok (.if_icmp .eq 37, 3) := by decide +kernel
theorem dX12_readCommand_235 : decode cX12_readCommand 235 = .ok (.aload_n 0, 1) := by decide +kernel
theorem dX12_readCommand_236 : decode cX12_readCommand 236 = .ok (.aload_n 1, 1) := by decide +kernel
theorem dX12_readCommand_237 : decode cX12_readCommand 237 = .ok (.iload_n 3, 1) := by decide +kernel
theorem dX12_readCommand_238 : decode cX12_readCommand 238 = .ok (.invokestatic 87, 3) := by decide +kernel
theorem dX12_readCommand_241 : decode cX12_readCommand 241 = .ok (.ifCond .eq 17, 3) := by decide +kernel
theorem dX12_readCommand_244 : decode cX12_readCommand 244 = .ok (.aload_n 1, 1) := by decide +kernel
theorem dX12_readCommand_245 : decode cX12_readCommand 245 = .ok (.iload_n 3, 1) := by decide +kernel
theorem dX12_readCommand_246 : decode cX12_readCommand 246 = .ok (.iload 4, 2) := by decide +kernel
theorem dX12_readCommand_248 : decode cX12_readCommand 248 = .ok (.invokestatic 140, 3) := by decide +kernel
theorem dX12_readCommand_251 : decode cX12_readCommand 251 = .ok (.ifCond .lt 7, 3) := by decide +kernel
theorem dX12_readCommand_254 : decode cX12_readCommand 254 = .ok (.iconst 1, 1) := by decide +kernel
theorem dX12_readCommand_255 : decode cX12_readCommand 255 = .ok (.goto 4, 3) := by decide +kernel
theorem dX12_readCommand_258 : decode cX12_readCommand 258 = .ok (.iconst 0, 1) := by decide +kernel
theorem dX12_readCommand_259 : decode cX12_readCommand 259 = .ok (.invokevirtual 130, 3) := by decide +kernel
theorem dX12_readCommand_262 : decode cX12_readCommand 262 = .ok (.ifCond .eq 7, 3) := by decide +kernel
theorem dX12_readCommand_265 : decode cX12_readCommand 265 = .ok (.iconst 1, 1) := by decide +kernel
theorem dX12_readCommand_266 : decode cX12_readCommand 266 = .ok (.goto 4, 3) := by decide +kernel
theorem dX12_readCommand_269 : decode cX12_readCommand 269 = .ok (.iconst 0, 1) := by decide +kernel
theorem dX12_readCommand_270 : decode cX12_readCommand 270 = .ok (.ireturn, 1) := by decide +kernel
theorem dX12_readCommand_271 : decode cX12_readCommand 271 = .ok (.aload_n 0, 1) := by decide +kernel
theorem dX12_readCommand_272 : decode cX12_readCommand 272 = .ok (.iconst 0, 1) := by decide +kernel
theorem dX12_readCommand_273 : decode cX12_readCommand 273 = .ok (.iconst 1, 1) := by decide +kernel
theorem dX12_readCommand_274 : decode cX12_readCommand 274 = .ok (.iconst 0, 1) := by decide +kernel
theorem dX12_readCommand_275 : decode cX12_readCommand 275 = .ok (.bipush 7, 2) := by decide +kernel
theorem dX12_readCommand_277 : decode cX12_readCommand 277 = .ok (.invokevirtual 119, 3) := by decide +kernel
theorem dX12_readCommand_280 : decode cX12_readCommand 280 = .ok (.istore_n 3, 1) := by decide +kernel
theorem dX12_readCommand_281 : decode cX12_readCommand 281 = .ok (.aload_n 0, 1) := by decide +kernel
theorem dX12_readCommand_282 : decode cX12_readCommand 282 = .ok (.iload_n 3, 1) := by decide +kernel
theorem dX12_readCommand_283 : decode cX12_readCommand 283 = .ok (.iconst 2, 1) := by decide +kernel
theorem dX12_readCommand_284 : decode cX12_readCommand 284 = .ok (.iconst 1, 1) := by decide +kernel
theorem dX12_readCommand_285 : decode cX12_readCommand 285 = .ok (.bipush 99, 2) := by decide +kernel
theorem dX12_readCommand_287 : decode cX12_readCommand 287 = .ok (.invokevirtual 119, 3) := by decide +kernel
theorem dX12_readCommand_290 : decode cX12_readCommand 290 = .ok (.istore 4, 2) := by decide +kernel
theorem dX12_readCommand_292 : decode cX12_readCommand 292 = .ok (.iload 4, 2) := by decide +kernel
theorem dX12_readCommand_294 : decode cX12_readCommand 294 = .ok (.iconst (-1), 1) := by decide +kernel
theorem dX12_readCommand_295 : decode cX12_readCommand 295 = .ok (.if_icmp .eq 19, 3) := by decide +kernel
theorem dX12_readCommand_298 : decode cX12_readCommand 298 = .ok (.aload_n 1, 1) := by decide +kernel
theorem dX12_readCommand_299 : decode cX12_readCommand 299 = .ok (.iload_n 3, 1) := by decide +kernel
theorem dX12_readCommand_300 : decode cX12_readCommand 300 = .ok (.invokestatic 143, 3) := by decide +kernel
theorem dX12_readCommand_303 : decode cX12_readCommand 303 = .ok (.ifCond .eq 11, 3) := by decide +kernel
theorem dX12_readCommand_306 : decode cX12_readCommand 306 = .ok (.aload_n 1, 1) := by decide +kernel
theorem dX12_readCommand_307 : decode cX12_readCommand 307 = .ok (.iload_n 3, 1) := by decide +kernel
theorem dX12_readCommand_308 : decode cX12_readCommand 308 = .ok (.iload 4, 2) := by decide +kernel
theorem dX12_readCommand_310 : decode cX12_readCommand 310 = .ok (.invokestatic 146, 3) := by decide +kernel
theorem dX12_readCommand_313 : decode cX12_readCommand 313 = .ok (.pop, 1) := by decide +kernel
theorem dX12_readCommand_314 : decode cX12_readCommand 314 = .ok (.iload 4, 2) := by decide +kernel
theorem dX12_readCommand_316 : decode cX12_readCommand 316 = .ok (.iconst (-1), 1) := by decide +kernel
theorem dX12_readCommand_317 : decode cX12_readCommand 317 = .ok (.if_icmp .eq 19, 3) := by decide +kernel
theorem dX12_readCommand_320 : decode cX12_readCommand 320 = .ok (.aload_n 0, 1) := by decide +kernel
theorem dX12_readCommand_321 : decode cX12_readCommand 321 = .ok (.aload_n 1, 1) := by decide +kernel
theorem dX12_readCommand_322 : decode cX12_readCommand 322 = .ok (.iload_n 3, 1) := by decide +kernel
theorem dX12_readCommand_323 : decode cX12_readCommand 323 = .ok (.invokestatic 143, 3) := by decide +kernel
theorem dX12_readCommand_326 : decode cX12_readCommand 326 = .ok (.invokevirtual 130, 3) := by decide +kernel
theorem dX12_readCommand_329 : decode cX12_readCommand 329 = .ok (.ifCond .eq 7, 3) := by decide +kernel
theorem dX12_readCommand_332 : decode cX12_readCommand 332 = .ok (.iconst 1, 1) := by decide +kernel
theorem dX12_readCommand_333 : decode cX12_readCommand 333 = .ok (.goto 4, 3) := by decide +kernel
theorem dX12_readCommand_336 : decode cX12_readCommand 336 = .ok (.iconst 0, 1) := by decide +kernel
theorem dX12_readCommand_337 : decode cX12_readCommand 337 = .ok (.ireturn, 1) := by decide +kernel
theorem dX12_readCommand_338 : decode cX12_readCommand 338 = .ok (.aload_n 0, 1) := by decide +kernel
theorem dX12_readCommand_339 : decode cX12_readCommand 339 = .ok (.iconst 0, 1) := by decide +kernel
theorem dX12_readCommand_340 : decode cX12_readCommand 340 = .ok (.iconst 1, 1) := by decide +kernel
theorem dX12_readCommand_341 : decode cX12_readCommand 341 = .ok (.iconst 0, 1) := by decide +kernel
theorem dX12_readCommand_342 : decode cX12_readCommand 342 = .ok (.iconst 3, 1) := by decide +kernel
theorem dX12_readCommand_343 : decode cX12_readCommand 343 = .ok (.invokevirtual 119, 3) := by decide +kernel
theorem dX12_readCommand_346 : decode cX12_readCommand 346 = .ok (.istore_n 3, 1) := by decide +kernel
theorem dX12_readCommand_347 : decode cX12_readCommand 347 = .ok (.iload_n 3, 1) := by decide +kernel
theorem dX12_readCommand_348 : decode cX12_readCommand 348 = .ok (.iconst (-1), 1) := by decide +kernel
theorem dX12_readCommand_349 : decode cX12_readCommand 349 = .ok (.if_icmp .eq 30, 3) := by decide +kernel
theorem dX12_readCommand_352 : decode cX12_readCommand 352 = .ok (.aload_n 0, 1) := by decide +kernel
theorem dX12_readCommand_353 : decode cX12_readCommand 353 = .ok (.aload_n 1, 1) := by decide +kernel
theorem dX12_readCommand_354 : decode cX12_readCommand 354 = .ok (.iload_n 3, 1) := by decide +kernel
theorem dX12_readCommand_355 : decode cX12_readCommand 355 = .ok (.iload_n 2, 1) := by decide +kernel
theorem dX12_readCommand_356 : decode cX12_readCommand 356 = .ok (.bipush 117, 2) := by decide +kernel
theorem dX12_readCommand_358 : decode cX12_readCommand 358 = .ok (.if_icmp .ne 7, 3) := by decide +kernel
theorem dX12_readCommand_361 : decode cX12_readCommand 361 = .ok (.iconst 1, 1) := by decide +kernel
theorem dX12_readCommand_362 : decode cX12_readCommand 362 = .ok (.goto 4, 3) := by decide +kernel
theorem dX12_readCommand_365 : decode cX12_readCommand 365 = .ok (.iconst 0, 1) := by decide +kernel
theorem dX12_readCommand_366 : decode cX12_readCommand 366 = .ok (.invokestatic 149, 3) := by decide +kernel
theorem dX12_readCommand_369 : decode cX12_readCommand 369 = .ok (.invokevirtual 130, 3) := by decide +kernel
theorem dX12_readCommand_372 : decode cX12_readCommand 372 = .ok (.ifCond .eq 7, 3) := by decide +kernel
theorem dX12_readCommand_375 : decode cX12_readCommand 375 = .ok (.iconst 1, 1) := by decide +kernel
theorem dX12_readCommand_376 : decode cX12_readCommand 376 = .ok (.goto 4, 3) := by decide +kernel
theorem dX12_readCommand_379 : decode cX12_readCommand 379 = .ok (.iconst 0, 1) := by decide +kernel
theorem dX12_readCommand_380 : decode cX12_readCommand 380 = .ok (.ireturn, 1) := by decide +kernel
theorem dX12_readCommand_381 : decode cX12_readCommand 381 = .ok (.aload_n 0, 1) := by decide +kernel
theorem dX12_readCommand_382 : decode cX12_readCommand 382 = .ok (.iconst 0, 1) := by decide +kernel
theorem dX12_readCommand_383 : decode cX12_readCommand 383 = .ok (.iconst 1, 1) := by decide +kernel
theorem dX12_readCommand_384 : decode cX12_readCommand 384 = .ok (.iconst 0, 1) := by decide +kernel
theorem dX12_readCommand_385 : decode cX12_readCommand 385 = .ok (.iconst 3, 1) := by decide +kernel
theorem dX12_readCommand_386 : decode cX12_readCommand 386 = .ok (.invokevirtual 119, 3) := by decide +kernel
theorem dX12_readCommand_389 : decode cX12_readCommand 389 = .ok (.istore_n 3, 1) := by decide +kernel
theorem dX12_readCommand_390 : decode cX12_readCommand 390 = .ok (.iload_n 3, 1) := by decide +kernel
theorem dX12_readCommand_391 : decode cX12_readCommand 391 = .ok (.iconst (-1), 1) := by decide +kernel
theorem dX12_readCommand_392 : decode cX12_readCommand 392 = .ok (.if_icmp .eq 27, 3) := by decide +kernel
theorem dX12_readCommand_395 : decode cX12_readCommand 395 = .ok (.aload_n 0, 1) := by decide +kernel
theorem dX12_readCommand_396 : decode cX12_readCommand 396 = .ok (.aload_n 1, 1) := by decide +kernel
theorem dX12_readCommand_397 : decode cX12_readCommand 397 = .ok (.iload_n 3, 1) := by decide +kernel
theorem dX12_readCommand_398 : decode cX12_readCommand 398 = .ok (.invokestatic 153, 3) := by decide +kernel
theorem dX12_readCommand_401 : decode cX12_readCommand 401 = .ok (.ifCond .lt 7, 3) := by decide +kernel
theorem dX12_readCommand_404 : decode cX12_readCommand 404 = .ok (.iconst 1, 1) := by decide +kernel
theorem dX12_readCommand_405 : decode cX12_readCommand 405 = .ok (.goto 4, 3) := by decide +kernel
theorem dX12_readCommand_408 : decode cX12_readCommand 408 = .ok (.iconst 0, 1) := by decide +kernel
theorem dX12_readCommand_409 : decode cX12_readCommand 409 = .ok (.invokevirtual 130, 3) := by decide +kernel
theorem dX12_readCommand_412 : decode cX12_readCommand 412 = .ok (.ifCond .eq 7, 3) := by decide +kernel
theorem dX12_readCommand_415 : decode cX12_readCommand 415 = .ok (.iconst 1, 1) := by decide +kernel
theorem dX12_readCommand_416 : decode cX12_readCommand 416 = .ok (.goto 4, 3) := by decide +kernel
theorem dX12_readCommand_419 : decode cX12_readCommand 419 = .ok (.iconst 0, 1) := by decide +kernel
theorem dX12_readCommand_420 : decode cX12_readCommand 420 = .ok (.ireturn, 1) := by decide +kernel
theorem dX12_readCommand_421 : decode cX12_readCommand 421 = .ok (.aload_n 0, 1) := by decide +kernel
theorem dX12_readCommand_422 : decode cX12_readCommand 422 = .ok (.iconst 0, 1) := by decide +kernel
theorem dX12_readCommand_423 : decode cX12_readCommand 423 = .ok (.iconst 2, 1) := by decide +kernel
theorem dX12_readCommand_424 : decode cX12_readCommand 424 = .ok (.iconst 1, 1) := by decide +kernel
theorem dX12_readCommand_425 : decode cX12_readCommand 425 = .ok (.bipush 60, 2) := by decide +kernel
theorem dX12_readCommand_427 : decode cX12_readCommand 427 = .ok (.invokevirtual 119, 3) := by decide +kernel
theorem dX12_readCommand_430 : decode cX12_readCommand 430 = .ok (.istore_n 3, 1) := by decide +kernel
theorem dX12_readCommand_431 : decode cX12_readCommand 431 = .ok (.iload_n 3, 1) := by decide +kernel
theorem dX12_readCommand_432 : decode cX12_readCommand 432 = .ok (.iconst (-1), 1) := by decide +kernel
theorem dX12_readCommand_433 : decode cX12_readCommand 433 = .ok (.if_icmp .eq 27, 3) := by decide +kernel
theorem dX12_readCommand_436 : decode cX12_readCommand 436 = .ok (.aload_n 0, 1) := by decide +kernel
theorem dX12_readCommand_437 : decode cX12_readCommand 437 = .ok (.aload_n 1, 1) := by decide +kernel
theorem dX12_readCommand_438 : decode cX12_readCommand 438 = .ok (.iload_n 3, 1) := by decide +kernel
theorem dX12_readCommand_439 : decode cX12_readCommand 439 = .ok (.invokestatic 156, 3) := by decide +kernel
theorem dX12_readCommand_442 : decode cX12_readCommand 442 = .ok (.ifCond .le 7, 3) := by decide +kernel
theorem dX12_readCommand_445 : decode cX12_readCommand 445 = .ok (.iconst 1, 1) := by decide +kernel
theorem dX12_readCommand_446 : decode cX12_readCommand 446 = .ok (.goto 4, 3) := by decide +kernel
theorem dX12_readCommand_449 : decode cX12_readCommand 449 = .ok (.iconst 0, 1) := by decide +kernel
theorem dX12_readCommand_450 : decode cX12_readCommand 450 = .ok (.invokevirtual 130, 3) := by decide +kernel
theorem dX12_readCommand_453 : decode cX12_readCommand 453 = .ok (.ifCond .eq 7, 3) := by decide +kernel
theorem dX12_readCommand_456 : decode cX12_readCommand 456 = .ok (.iconst 1, 1) := by decide +kernel
theorem dX12_readCommand_457 : decode cX12_readCommand 457 = .ok (.goto 4, 3) := by decide +kernel
theorem dX12_readCommand_460 : decode cX12_readCommand 460 = .ok (.iconst 0, 1) := by decide +kernel
theorem dX12_readCommand_461 : decode cX12_readCommand 461 = .ok (.ireturn, 1) := by decide +kernel
theorem dX12_readCommand_462 : decode cX12_readCommand 462 = .ok (.aload_n 0, 1) := by decide +kernel
theorem dX12_readCommand_463 : decode cX12_readCommand 463 = .ok (.dup, 1) := by decide +kernel
theorem dX12_readCommand_464 : decode cX12_readCommand 464 = .ok (.getfield 105, 3) := by decide +kernel
theorem dX12_readCommand_467 : decode cX12_readCommand 467 = .ok (.iconst 1, 1) := by decide +kernel
theorem dX12_readCommand_468 : decode cX12_readCommand 468 = .ok (.isub, 1) := by decide +kernel
theorem dX12_readCommand_469 : decode cX12_readCommand 469 = .ok (.putfield 105, 3) := by decide +kernel
theorem dX12_readCommand_472 : decode cX12_readCommand 472 = .ok (.iconst 0, 1) := by decide +kernel
theorem dX12_readCommand_473 : decode cX12_readCommand 473 = .ok (.ireturn, 1) := by decide +kernel
theorem dX12_readText_0 : decode cX12_readText 0 = .ok (.aload_n 1, 1) := by decide +kernel
theorem dX12_readText_1 : decode cX12_readText 1 = .ok (.invokestatic 32, 3) := by decide +kernel
theorem dX12_readText_4 : decode cX12_readText 4 = .ok (.aload_n 0, 1) := by decide +kernel
theorem dX12_readText_5 : decode cX12_readText 5 = .ok (.iconst 0, 1) := by decide +kernel
theorem dX12_readText_6 : decode cX12_readText 6 = .ok (.putfield 110, 3) := by decide +kernel
theorem dX12_readText_9 : decode cX12_readText 9 = .ok (.aload_n 0, 1) := by decide +kernel
theorem dX12_readText_10 : decode cX12_readText 10 = .ok (.iconst 0, 1) := by decide +kernel
theorem dX12_readText_11 : decode cX12_readText 11 = .ok (.putfield 105, 3) := by decide +kernel
theorem dX12_readText_14 : decode cX12_readText 14 = .ok (.aload_n 0, 1) := by decide +kernel
theorem dX12_readText_15 : decode cX12_readText 15 = .ok (.getfield 98, 3) := by decide +kernel
theorem dX12_readText_18 : decode cX12_readText 18 = .ok (.ifCond .eq 14, 3) := by decide +kernel
theorem dX12_readText_21 : decode cX12_readText 21 = .ok (.aload_n 0, 1) := by decide +kernel
theorem dX12_readText_22 : decode cX12_readText 22 = .ok (.getfield 7, 3) := by decide +kernel
theorem dX12_readText_25 : decode cX12_readText 25 = .ok (.iconst 0, 1) := by decide +kernel
theorem dX12_readText_26 : decode cX12_readText 26 = .ok (.iaload, 1) := by decide +kernel
theorem dX12_readText_27 : decode cX12_readText 27 = .ok (.bipush 79, 2) := by decide +kernel
theorem dX12_readText_29 : decode cX12_readText 29 = .ok (.if_icmp .eq 5, 3) := by decide +kernel
theorem dX12_readText_32 : decode cX12_readText 32 = .ok (.iconst 0, 1) := by decide +kernel
theorem dX12_readText_33 : decode cX12_readText 33 = .ok (.ireturn, 1) := by decide +kernel
theorem dX12_readText_34 : decode cX12_readText 34 = .ok (.aload_n 0, 1) := by decide +kernel
theorem dX12_readText_35 : decode cX12_readText 35 = .ok (.iconst 1, 1) := by decide +kernel
theorem dX12_readText_36 : decode cX12_readText 36 = .ok (.putfield 105, 3) := by decide +kernel
theorem dX12_readText_39 : decode cX12_readText 39 = .ok (.aload_n 0, 1) := by decide +kernel
theorem dX12_readText_40 : decode cX12_readText 40 = .ok (.getfield 105, 3) := by decide +kernel
theorem dX12_readText_43 : decode cX12_readText 43 = .ok (.aload_n 0, 1) := by decide +kernel
theorem dX12_readText_44 : decode cX12_readText 44 = .ok (.getfield 98, 3) := by decide +kernel
theorem dX12_readText_47 : decode cX12_readText 47 = .ok (.if_icmp .ge 16, 3) := by decide +kernel
theorem dX12_readText_50 : decode cX12_readText 50 = .ok (.aload_n 0, 1) := by decide +kernel
theorem dX12_readText_51 : decode cX12_readText 51 = .ok (.aload_n 1, 1) := by decide +kernel
theorem dX12_readText_52 : decode cX12_readText 52 = .ok (.invokevirtual 159, 3) := by decide +kernel
theorem dX12_readText_55 : decode cX12_readText 55 = .ok (.ifCond .ne (-16), 3) := by decide +kernel
theorem dX12_readText_58 : decode cX12_readText 58 = .ok (.aload_n 0, 1) := by decide +kernel
theorem dX12_readText_59 : decode cX12_readText 59 = .ok (.getfield 105, 3) := by decide +kernel
theorem dX12_readText_62 : decode cX12_readText 62 = .ok (.ireturn, 1) := by decide +kernel
theorem dX12_readText_63 : decode cX12_readText 63 = .ok (.iconst (-1), 1) := by decide +kernel
theorem dX12_readText_64 : decode cX12_readText 64 = .ok (.ireturn, 1) := by decide +kernel
theorem dX12_errorPosition_0 : decode cX12_errorPosition 0 = .ok (.aload_n 0, 1) := by decide +kernel
theorem dX12_errorPosition_1 : decode cX12_errorPosition 1 = .ok (.iconst 0, 1) := by decide +kernel
theorem dX12_errorPosition_2 : decode cX12_errorPosition 2 = .ok (.putfield 36, 3) := by decide +kernel
theorem dX12_errorPosition_5 : decode cX12_errorPosition 5 = .ok (.aload_n 0, 1) := by decide +kernel
theorem dX12_errorPosition_6 : decode cX12_errorPosition 6 = .ok (.aload_n 0, 1) := by decide +kernel
theorem dX12_errorPosition_7 : decode cX12_errorPosition 7 = .ok (.getfield 16, 3) := by decide +kernel
theorem dX12_errorPosition_10 : decode cX12_errorPosition 10 = .ok (.invokevirtual 162, 3) := by decide +kernel
theorem dX12_errorPosition_13 : decode cX12_errorPosition 13 = .ok (.ireturn, 1) := by decide +kernel
theorem dX12_load_0 : decode cX12_load 0 = .ok (.aload_n 0, 1) := by decide +kernel
theorem dX12_load_1 : decode cX12_load 1 = .ok (.aload_n 0, 1) := by decide +kernel
theorem dX12_load_2 : decode cX12_load 2 = .ok (.aload_n 0, 1) := by decide +kernel
theorem dX12_load_3 : decode cX12_load 3 = .ok (.getfield 16, 3) := by decide +kernel
theorem dX12_load_6 : decode cX12_load 6 = .ok (.invokevirtual 162, 3) := by decide +kernel
theorem dX12_load_9 : decode cX12_load 9 = .ok (.iconst (-1), 1) := by decide +kernel
theorem dX12_load_10 : decode cX12_load 10 = .ok (.if_icmp .ne 7, 3) := by decide +kernel
theorem dX12_load_13 : decode cX12_load 13 = .ok (.iconst 0, 1) := by decide +kernel
theorem dX12_load_14 : decode cX12_load 14 = .ok (.goto 4, 3) := by decide +kernel
theorem dX12_load_17 : decode cX12_load 17 = .ok (.iconst 1, 1) := by decide +kernel
theorem dX12_load_18 : decode cX12_load 18 = .ok (.invokevirtual 101, 3) := by decide +kernel
theorem dX12_load_21 : decode cX12_load 21 = .ok (.ifCond .eq 5, 3) := by decide +kernel
theorem dX12_load_24 : decode cX12_load 24 = .ok (.iconst 0, 1) := by decide +kernel
theorem dX12_load_25 : decode cX12_load 25 = .ok (.ireturn, 1) := by decide +kernel
theorem dX12_load_26 : decode cX12_load 26 = .ok (.aload_n 0, 1) := by decide +kernel
theorem dX12_load_27 : decode cX12_load 27 = .ok (.getfield 16, 3) := by decide +kernel
theorem dX12_load_30 : decode cX12_load 30 = .ok (.iconst 0, 1) := by decide +kernel
theorem dX12_load_31 : decode cX12_load 31 = .ok (.aload_n 0, 1) := by decide +kernel
theorem dX12_load_32 : decode cX12_load 32 = .ok (.getfield 13, 3) := by decide +kernel
theorem dX12_load_35 : decode cX12_load 35 = .ok (.iconst 0, 1) := by decide +kernel
theorem dX12_load_36 : decode cX12_load 36 = .ok (.invokestatic 165, 3) := by decide +kernel
theorem dX12_load_39 : decode cX12_load 39 = .ok (.aload_n 0, 1) := by decide +kernel
theorem dX12_load_40 : decode cX12_load 40 = .ok (.iconst 0, 1) := by decide +kernel
theorem dX12_load_41 : decode cX12_load 41 = .ok (.putfield 169, 3) := by decide +kernel
theorem dX12_load_44 : decode cX12_load 44 = .ok (.aload_n 0, 1) := by decide +kernel
theorem dX12_load_45 : decode cX12_load 45 = .ok (.getfield 28, 3) := by decide +kernel
theorem dX12_load_48 : decode cX12_load 48 = .ok (.iconst 0, 1) := by decide +kernel
theorem dX12_load_49 : decode cX12_load 49 = .ok (.iconst 0, 1) := by decide +kernel
theorem dX12_load_50 : decode cX12_load 50 = .ok (.bastore, 1) := by decide +kernel
theorem dX12_load_51 : decode cX12_load 51 = .ok (.aload_n 0, 1) := by decide +kernel
theorem dX12_load_52 : decode cX12_load 52 = .ok (.getfield 28, 3) := by decide +kernel
theorem dX12_load_55 : decode cX12_load 55 = .ok (.iconst 1, 1) := by decide +kernel
theorem dX12_load_56 : decode cX12_load 56 = .ok (.iconst 0, 1) := by decide +kernel
theorem dX12_load_57 : decode cX12_load 57 = .ok (.bastore, 1) := by decide +kernel
theorem dX12_load_58 : decode cX12_load 58 = .ok (.aload_n 0, 1) := by decide +kernel
theorem dX12_load_59 : decode cX12_load 59 = .ok (.getfield 110, 3) := by decide +kernel
theorem dX12_load_62 : decode cX12_load 62 = .ok (.ireturn, 1) := by decide +kernel
theorem dX12_about_0 : decode cX12_about 0 = .ok (.aload_n 0, 1) := by decide +kernel
theorem dX12_about_1 : decode cX12_about 1 = .ok (.iload_n 1, 1) := by decide +kernel
theorem dX12_about_2 : decode cX12_about 2 = .ok (.i2l, 1) := by decide +kernel
theorem dX12_about_3 : decode cX12_about 3 = .ok (.lconst 0, 1) := by decide +kernel
theorem dX12_about_4 : decode cX12_about 4 = .ok (.ldc2_w 172, 3) := by decide +kernel
theorem dX12_about_7 : decode cX12_about 7 = .ok (.invokestatic 44, 3) := by decide +kernel
theorem dX12_about_10 : decode cX12_about 10 = .ok (.ifCond .eq 7, 3) := by decide +kernel
theorem dX12_about_13 : decode cX12_about 13 = .ok (.iconst 0, 1) := by decide +kernel
theorem dX12_about_14 : decode cX12_about 14 = .ok (.goto 4, 3) := by decide +kernel
theorem dX12_about_17 : decode cX12_about 17 = .ok (.iconst 1, 1) := by decide +kernel
theorem dX12_about_18 : decode cX12_about 18 = .ok (.invokevirtual 101, 3) := by decide +kernel
theorem dX12_about_21 : decode cX12_about 21 = .ok (.ifCond .eq 5, 3) := by decide +kernel
theorem dX12_about_24 : decode cX12_about 24 = .ok (.iconst 0, 1) := by decide +kernel
theorem dX12_about_25 : decode cX12_about 25 = .ok (.ireturn, 1) := by decide +kernel
theorem dX12_about_26 : decode cX12_about 26 = .ok (.iload_n 1, 1) := by decide +kernel
theorem dX12_about_27 : decode cX12_about 27 = .ok (.tableswitch 70 6 10 #[33, 33, 53, 53, 62], 33) := by decide +kernel
theorem dX12_about_60 : decode cX12_about 60 = .ok (.aload_n 0, 1) := by decide +kernel
theorem dX12_about_61 : decode cX12_about 61 = .ok (.getfield 13, 3) := by decide +kernel
theorem dX12_about_64 : decode cX12_about 64 = .ok (.iconst (-1), 1) := by decide +kernel
theorem dX12_about_65 : decode cX12_about 65 = .ok (.iload_n 1, 1) := by decide +kernel
theorem dX12_about_66 : decode cX12_about 66 = .ok (.bipush 7, 2) := by decide +kernel
theorem dX12_about_68 : decode cX12_about 68 = .ok (.if_icmp .ne 7, 3) := by decide +kernel
theorem dX12_about_71 : decode cX12_about 71 = .ok (.iconst 1, 1) := by decide +kernel
theorem dX12_about_72 : decode cX12_about 72 = .ok (.goto 4, 3) := by decide +kernel
theorem dX12_about_75 : decode cX12_about 75 = .ok (.iconst 0, 1) := by decide +kernel
theorem dX12_about_76 : decode cX12_about 76 = .ok (.invokestatic 174, 3) := by decide +kernel
theorem dX12_about_79 : decode cX12_about 79 = .ok (.ireturn, 1) := by decide +kernel
theorem dX12_about_80 : decode cX12_about 80 = .ok (.aload_n 0, 1) := by decide +kernel
theorem dX12_about_81 : decode cX12_about 81 = .ok (.getfield 13, 3) := by decide +kernel
theorem dX12_about_84 : decode cX12_about 84 = .ok (.iload_n 1, 1) := by decide +kernel
theorem dX12_about_85 : decode cX12_about 85 = .ok (.iconst 2, 1) := by decide +kernel
theorem dX12_about_86 : decode cX12_about 86 = .ok (.isub, 1) := by decide +kernel
theorem dX12_about_87 : decode cX12_about 87 = .ok (.iaload, 1) := by decide +kernel
theorem dX12_about_88 : decode cX12_about 88 = .ok (.ireturn, 1) := by decide +kernel
theorem dX12_about_89 : decode cX12_about 89 = .ok (.aload_n 0, 1) := by decide +kernel
theorem dX12_about_90 : decode cX12_about 90 = .ok (.getfield 13, 3) := by decide +kernel
theorem dX12_about_93 : decode cX12_about 93 = .ok (.invokestatic 60, 3) := by decide +kernel
theorem dX12_about_96 : decode cX12_about 96 = .ok (.ireturn, 1) := by decide +kernel
theorem dX12_about_97 : decode cX12_about 97 = .ok (.aload_n 0, 1) := by decide +kernel
theorem dX12_about_98 : decode cX12_about 98 = .ok (.getfield 13, 3) := by decide +kernel
theorem dX12_about_101 : decode cX12_about 101 = .ok (.iload_n 1, 1) := by decide +kernel
theorem dX12_about_102 : decode cX12_about 102 = .ok (.iaload, 1) := by decide +kernel
theorem dX12_about_103 : decode cX12_about 103 = .ok (.ireturn, 1) := by decide +kernel
theorem dX12_card_0 : decode cX12_card 0 = .ok (.aload_n 0, 1) := by decide +kernel
theorem dX12_card_1 : decode cX12_card 1 = .ok (.aload_n 0, 1) := by decide +kernel
theorem dX12_card_2 : decode cX12_card 2 = .ok (.getfield 13, 3) := by decide +kernel
theorem dX12_card_5 : decode cX12_card 5 = .ok (.iload_n 1, 1) := by decide +kernel
theorem dX12_card_6 : decode cX12_card 6 = .ok (.invokestatic 87, 3) := by decide +kernel
theorem dX12_card_9 : decode cX12_card 9 = .ok (.ifCond .ne 7, 3) := by decide +kernel
theorem dX12_card_12 : decode cX12_card 12 = .ok (.iconst 1, 1) := by decide +kernel
theorem dX12_card_13 : decode cX12_card 13 = .ok (.goto 20, 3) := by decide +kernel
theorem dX12_card_16 : decode cX12_card 16 = .ok (.iload_n 2, 1) := by decide +kernel
theorem dX12_card_17 : decode cX12_card 17 = .ok (.i2l, 1) := by decide +kernel
theorem dX12_card_18 : decode cX12_card 18 = .ok (.lconst 0, 1) := by decide +kernel
theorem dX12_card_19 : decode cX12_card 19 = .ok (.ldc2_w 48, 3) := by decide +kernel
theorem dX12_card_22 : decode cX12_card 22 = .ok (.invokestatic 44, 3) := by decide +kernel
theorem dX12_card_25 : decode cX12_card 25 = .ok (.ifCond .eq 7, 3) := by decide +kernel
theorem dX12_card_28 : decode cX12_card 28 = .ok (.iconst 0, 1) := by decide +kernel
theorem dX12_card_29 : decode cX12_card 29 = .ok (.goto 4, 3) := by decide +kernel
theorem dX12_card_32 : decode cX12_card 32 = .ok (.iconst 2, 1) := by decide +kernel
theorem dX12_card_33 : decode cX12_card 33 = .ok (.invokevirtual 101, 3) := by decide +kernel
theorem dX12_card_36 : decode cX12_card 36 = .ok (.ifCond .eq 5, 3) := by decide +kernel
theorem dX12_card_39 : decode cX12_card 39 = .ok (.iconst 0, 1) := by decide +kernel
theorem dX12_card_40 : decode cX12_card 40 = .ok (.ireturn, 1) := by decide +kernel
theorem dX12_card_41 : decode cX12_card 41 = .ok (.aload_n 0, 1) := by decide +kernel
theorem dX12_card_42 : decode cX12_card 42 = .ok (.getfield 13, 3) := by decide +kernel
theorem dX12_card_45 : decode cX12_card 45 = .ok (.iload_n 1, 1) := by decide +kernel
theorem dX12_card_46 : decode cX12_card 46 = .ok (.invokestatic 76, 3) := by decide +kernel
theorem dX12_card_49 : decode cX12_card 49 = .ok (.iload_n 2, 1) := by decide +kernel
theorem dX12_card_50 : decode cX12_card 50 = .ok (.iadd, 1) := by decide +kernel
theorem dX12_card_51 : decode cX12_card 51 = .ok (.iaload, 1) := by decide +kernel
theorem dX12_card_52 : decode cX12_card 52 = .ok (.iload_n 2, 1) := by decide +kernel
theorem dX12_card_53 : decode cX12_card 53 = .ok (.iconst 3, 1) := by decide +kernel
theorem dX12_card_54 : decode cX12_card 54 = .ok (.if_icmp .ne 7, 3) := by decide +kernel
theorem dX12_card_57 : decode cX12_card 57 = .ok (.iconst 1, 1) := by decide +kernel
theorem dX12_card_58 : decode cX12_card 58 = .ok (.goto 4, 3) := by decide +kernel
theorem dX12_card_61 : decode cX12_card 61 = .ok (.iconst 0, 1) := by decide +kernel
theorem dX12_card_62 : decode cX12_card 62 = .ok (.isub, 1) := by decide +kernel
theorem dX12_card_63 : decode cX12_card 63 = .ok (.ireturn, 1) := by decide +kernel
theorem dX12_account_0 : decode cX12_account 0 = .ok (.aload_n 0, 1) := by decide +kernel
theorem dX12_account_1 : decode cX12_account 1 = .ok (.aload_n 0, 1) := by decide +kernel
theorem dX12_account_2 : decode cX12_account 2 = .ok (.getfield 13, 3) := by decide +kernel
theorem dX12_account_5 : decode cX12_account 5 = .ok (.iload_n 1, 1) := by decide +kernel
theorem dX12_account_6 : decode cX12_account 6 = .ok (.invokestatic 143, 3) := by decide +kernel
theorem dX12_account_9 : decode cX12_account 9 = .ok (.ifCond .ne 7, 3) := by decide +kernel
theorem dX12_account_12 : decode cX12_account 12 = .ok (.iconst 1, 1) := by decide +kernel
theorem dX12_account_13 : decode cX12_account 13 = .ok (.goto 20, 3) := by decide +kernel
theorem dX12_account_16 : decode cX12_account 16 = .ok (.iload_n 2, 1) := by decide +kernel
theorem dX12_account_17 : decode cX12_account 17 = .ok (.i2l, 1) := by decide +kernel
theorem dX12_account_18 : decode cX12_account 18 = .ok (.lconst 0, 1) := by decide +kernel
theorem dX12_account_19 : decode cX12_account 19 = .ok (.ldc2_w 178, 3) := by decide +kernel
theorem dX12_account_22 : decode cX12_account 22 = .ok (.invokestatic 44, 3) := by decide +kernel
theorem dX12_account_25 : decode cX12_account 25 = .ok (.ifCond .eq 7, 3) := by decide +kernel
theorem dX12_account_28 : decode cX12_account 28 = .ok (.iconst 0, 1) := by decide +kernel
theorem dX12_account_29 : decode cX12_account 29 = .ok (.goto 4, 3) := by decide +kernel
theorem dX12_account_32 : decode cX12_account 32 = .ok (.iconst 2, 1) := by decide +kernel
theorem dX12_account_33 : decode cX12_account 33 = .ok (.invokevirtual 101, 3) := by decide +kernel
theorem dX12_account_36 : decode cX12_account 36 = .ok (.ifCond .eq 5, 3) := by decide +kernel
theorem dX12_account_39 : decode cX12_account 39 = .ok (.iconst 0, 1) := by decide +kernel
theorem dX12_account_40 : decode cX12_account 40 = .ok (.ireturn, 1) := by decide +kernel
theorem dX12_account_41 : decode cX12_account 41 = .ok (.iload_n 1, 1) := by decide +kernel
theorem dX12_account_42 : decode cX12_account 42 = .ok (.invokestatic 50, 3) := by decide +kernel
theorem dX12_account_45 : decode cX12_account 45 = .ok (.istore_n 3, 1) := by decide +kernel
theorem dX12_account_46 : decode cX12_account 46 = .ok (.iload_n 2, 1) := by decide +kernel
theorem dX12_account_47 : decode cX12_account 47 = .ok (.tableswitch 90 0 5 #[37, 37, 46, 55, 64, 81], 37) := by decide +kernel
theorem dX12_account_84 : decode cX12_account 84 = .ok (.aload_n 0, 1) := by decide +kernel
theorem dX12_account_85 : decode cX12_account 85 = .ok (.getfield 13, 3) := by decide +kernel
theorem dX12_account_88 : decode cX12_account 88 = .ok (.iload_n 3, 1) := by decide +kernel
theorem dX12_account_89 : decode cX12_account 89 = .ok (.iload_n 2, 1) := by decide +kernel
theorem dX12_account_90 : decode cX12_account 90 = .ok (.iadd, 1) := by decide +kernel
theorem dX12_account_91 : decode cX12_account 91 = .ok (.iaload, 1) := by decide +kernel
theorem dX12_account_92 : decode cX12_account 92 = .ok (.ireturn, 1) := by decide +kernel
theorem dX12_account_93 : decode cX12_account 93 = .ok (.aload_n 0, 1) := by decide +kernel
theorem dX12_account_94 : decode cX12_account 94 = .ok (.getfield 13, 3) := by decide +kernel
theorem dX12_account_97 : decode cX12_account 97 = .ok (.iload_n 3, 1) := by decide +kernel
theorem dX12_account_98 : decode cX12_account 98 = .ok (.iconst 3, 1) := by decide +kernel
theorem dX12_account_99 : decode cX12_account 99 = .ok (.iadd, 1) := by decide +kernel
theorem dX12_account_100 : decode cX12_account 100 = .ok (.iaload, 1) := by decide +kernel
theorem dX12_account_101 : decode cX12_account 101 = .ok (.ireturn, 1) := by decide +kernel
theorem dX12_account_102 : decode cX12_account 102 = .ok (.aload_n 0, 1) := by decide +kernel
theorem dX12_account_103 : decode cX12_account 103 = .ok (.getfield 13, 3) := by decide +kernel
theorem dX12_account_106 : decode cX12_account 106 = .ok (.iload_n 3, 1) := by decide +kernel
theorem dX12_account_107 : decode cX12_account 107 = .ok (.iconst 2, 1) := by decide +kernel
theorem dX12_account_108 : decode cX12_account 108 = .ok (.iadd, 1) := by decide +kernel
theorem dX12_account_109 : decode cX12_account 109 = .ok (.iaload, 1) := by decide +kernel
theorem dX12_account_110 : decode cX12_account 110 = .ok (.ireturn, 1) := by decide +kernel
theorem dX12_account_111 : decode cX12_account 111 = .ok (.aload_n 0, 1) := by decide +kernel
theorem dX12_account_112 : decode cX12_account 112 = .ok (.getfield 13, 3) := by decide +kernel
theorem dX12_account_115 : decode cX12_account 115 = .ok (.iload_n 1, 1) := by decide +kernel
theorem dX12_account_116 : decode cX12_account 116 = .ok (.invokestatic 53, 3) := by decide +kernel
theorem dX12_account_119 : decode cX12_account 119 = .ok (.ifCond .eq 7, 3) := by decide +kernel
theorem dX12_account_122 : decode cX12_account 122 = .ok (.iconst 1, 1) := by decide +kernel
theorem dX12_account_123 : decode cX12_account 123 = .ok (.goto 4, 3) := by decide +kernel
theorem dX12_account_126 : decode cX12_account 126 = .ok (.iconst 0, 1) := by decide +kernel
theorem dX12_account_127 : decode cX12_account 127 = .ok (.ireturn, 1) := by decide +kernel
theorem dX12_account_128 : decode cX12_account 128 = .ok (.aload_n 0, 1) := by decide +kernel
theorem dX12_account_129 : decode cX12_account 129 = .ok (.getfield 13, 3) := by decide +kernel
theorem dX12_account_132 : decode cX12_account 132 = .ok (.iload_n 1, 1) := by decide +kernel
theorem dX12_account_133 : decode cX12_account 133 = .ok (.invokestatic 180, 3) := by decide +kernel
theorem dX12_account_136 : decode cX12_account 136 = .ok (.ireturn, 1) := by decide +kernel
theorem dX12_account_137 : decode cX12_account 137 = .ok (.aload_n 0, 1) := by decide +kernel
theorem dX12_account_138 : decode cX12_account 138 = .ok (.getfield 13, 3) := by decide +kernel
theorem dX12_account_141 : decode cX12_account 141 = .ok (.iload_n 1, 1) := by decide +kernel
theorem dX12_account_142 : decode cX12_account 142 = .ok (.iload_n 2, 1) := by decide +kernel
theorem dX12_account_143 : decode cX12_account 143 = .ok (.bipush 7, 2) := by decide +kernel
theorem dX12_account_145 : decode cX12_account 145 = .ok (.if_icmp .ne 7, 3) := by decide +kernel
theorem dX12_account_148 : decode cX12_account 148 = .ok (.iconst 1, 1) := by decide +kernel
theorem dX12_account_149 : decode cX12_account 149 = .ok (.goto 4, 3) := by decide +kernel
theorem dX12_account_152 : decode cX12_account 152 = .ok (.iconst 0, 1) := by decide +kernel
theorem dX12_account_153 : decode cX12_account 153 = .ok (.invokestatic 174, 3) := by decide +kernel
theorem dX12_account_156 : decode cX12_account 156 = .ok (.ireturn, 1) := by decide +kernel
theorem dX12_gate_0 : decode cX12_gate 0 = .ok (.aload_n 0, 1) := by decide +kernel
theorem dX12_gate_1 : decode cX12_gate 1 = .ok (.iload_n 1, 1) := by decide +kernel
theorem dX12_gate_2 : decode cX12_gate 2 = .ok (.invokestatic 183, 3) := by decide +kernel
theorem dX12_gate_5 : decode cX12_gate 5 = .ok (.ifCond .ne 7, 3) := by decide +kernel
theorem dX12_gate_8 : decode cX12_gate 8 = .ok (.iconst 1, 1) := by decide +kernel
theorem dX12_gate_9 : decode cX12_gate 9 = .ok (.goto 20, 3) := by decide +kernel
theorem dX12_gate_12 : decode cX12_gate 12 = .ok (.iload_n 2, 1) := by decide +kernel
theorem dX12_gate_13 : decode cX12_gate 13 = .ok (.i2l, 1) := by decide +kernel
theorem dX12_gate_14 : decode cX12_gate 14 = .ok (.lconst 0, 1) := by decide +kernel
theorem dX12_gate_15 : decode cX12_gate 15 = .ok (.ldc2_w 186, 3) := by decide +kernel
theorem dX12_gate_18 : decode cX12_gate 18 = .ok (.invokestatic 44, 3) := by decide +kernel
theorem dX12_gate_21 : decode cX12_gate 21 = .ok (.ifCond .eq 7, 3) := by decide +kernel
theorem dX12_gate_24 : decode cX12_gate 24 = .ok (.iconst 0, 1) := by decide +kernel
theorem dX12_gate_25 : decode cX12_gate 25 = .ok (.goto 4, 3) := by decide +kernel
theorem dX12_gate_28 : decode cX12_gate 28 = .ok (.iconst 2, 1) := by decide +kernel
theorem dX12_gate_29 : decode cX12_gate 29 = .ok (.invokevirtual 101, 3) := by decide +kernel
theorem dX12_gate_32 : decode cX12_gate 32 = .ok (.ifCond .eq 5, 3) := by decide +kernel
theorem dX12_gate_35 : decode cX12_gate 35 = .ok (.iconst 0, 1) := by decide +kernel
theorem dX12_gate_36 : decode cX12_gate 36 = .ok (.ireturn, 1) := by decide +kernel
theorem dX12_gate_37 : decode cX12_gate 37 = .ok (.iload_n 2, 1) := by decide +kernel
theorem dX12_gate_38 : decode cX12_gate 38 = .ok (.iconst 4, 1) := by decide +kernel
theorem dX12_gate_39 : decode cX12_gate 39 = .ok (.if_icmp .ne 14, 3) := by decide +kernel
theorem dX12_gate_42 : decode cX12_gate 42 = .ok (.aload_n 0, 1) := by decide +kernel
theorem dX12_gate_43 : decode cX12_gate 43 = .ok (.getfield 13, 3) := by decide +kernel
theorem dX12_gate_46 : decode cX12_gate 46 = .ok (.iload_n 1, 1) := by decide +kernel
theorem dX12_gate_47 : decode cX12_gate 47 = .ok (.invokestatic 79, 3) := by decide +kernel
theorem dX12_gate_50 : decode cX12_gate 50 = .ok (.goto 14, 3) := by decide +kernel
theorem dX12_gate_53 : decode cX12_gate 53 = .ok (.aload_n 0, 1) := by decide +kernel
theorem dX12_gate_54 : decode cX12_gate 54 = .ok (.getfield 13, 3) := by decide +kernel
theorem dX12_gate_57 : decode cX12_gate 57 = .ok (.iload_n 1, 1) := by decide +kernel
theorem dX12_gate_58 : decode cX12_gate 58 = .ok (.invokestatic 40, 3) := by decide +kernel
theorem dX12_gate_61 : decode cX12_gate 61 = .ok (.iload_n 2, 1) := by decide +kernel
theorem dX12_gate_62 : decode cX12_gate 62 = .ok (.iadd, 1) := by decide +kernel
theorem dX12_gate_63 : decode cX12_gate 63 = .ok (.iaload, 1) := by decide +kernel
theorem dX12_gate_64 : decode cX12_gate 64 = .ok (.ireturn, 1) := by decide +kernel
theorem dX12_logged_0 : decode cX12_logged 0 = .ok (.aload_n 0, 1) := by decide +kernel
theorem dX12_logged_1 : decode cX12_logged 1 = .ok (.iload_n 1, 1) := by decide +kernel
theorem dX12_logged_2 : decode cX12_logged 2 = .ok (.invokestatic 183, 3) := by decide +kernel
theorem dX12_logged_5 : decode cX12_logged 5 = .ok (.ifCond .eq 26, 3) := by decide +kernel
theorem dX12_logged_8 : decode cX12_logged 8 = .ok (.iload_n 2, 1) := by decide +kernel
theorem dX12_logged_9 : decode cX12_logged 9 = .ok (.i2l, 1) := by decide +kernel
theorem dX12_logged_10 : decode cX12_logged 10 = .ok (.lconst 0, 1) := by decide +kernel
theorem dX12_logged_11 : decode cX12_logged 11 = .ok (.aload_n 0, 1) := by decide +kernel
theorem dX12_logged_12 : decode cX12_logged 12 = .ok (.getfield 13, 3) := by decide +kernel
theorem dX12_logged_15 : decode cX12_logged 15 = .ok (.iload_n 1, 1) := by decide +kernel
theorem dX12_logged_16 : decode cX12_logged 16 = .ok (.invokestatic 40, 3) := by decide +kernel
theorem dX12_logged_19 : decode cX12_logged 19 = .ok (.iconst 3, 1) := by decide +kernel
theorem dX12_logged_20 : decode cX12_logged 20 = .ok (.iadd, 1) := by decide +kernel
theorem dX12_logged_21 : decode cX12_logged 21 = .ok (.iaload, 1) := by decide +kernel
theorem dX12_logged_22 : decode cX12_logged 22 = .ok (.iconst 1, 1) := by decide +kernel
theorem dX12_logged_23 : decode cX12_logged 23 = .ok (.isub, 1) := by decide +kernel
theorem dX12_logged_24 : decode cX12_logged 24 = .ok (.i2l, 1) := by decide +kernel
theorem dX12_logged_25 : decode cX12_logged 25 = .ok (.invokestatic 44, 3) := by decide +kernel
theorem dX12_logged_28 : decode cX12_logged 28 = .ok (.ifCond .ne 7, 3) := by decide +kernel
theorem dX12_logged_31 : decode cX12_logged 31 = .ok (.iconst 1, 1) := by decide +kernel
theorem dX12_logged_32 : decode cX12_logged 32 = .ok (.goto 20, 3) := by decide +kernel
theorem dX12_logged_35 : decode cX12_logged 35 = .ok (.iload_n 3, 1) := by decide +kernel
theorem dX12_logged_36 : decode cX12_logged 36 = .ok (.i2l, 1) := by decide +kernel
theorem dX12_logged_37 : decode cX12_logged 37 = .ok (.lconst 0, 1) := by decide +kernel
theorem dX12_logged_38 : decode cX12_logged 38 = .ok (.ldc2_w 188, 3) := by decide +kernel
theorem dX12_logged_41 : decode cX12_logged 41 = .ok (.invokestatic 44, 3) := by decide +kernel
theorem dX12_logged_44 : decode cX12_logged 44 = .ok (.ifCond .eq 7, 3) := by decide +kernel
theorem dX12_logged_47 : decode cX12_logged 47 = .ok (.iconst 0, 1) := by decide +kernel
theorem dX12_logged_48 : decode cX12_logged 48 = .ok (.goto 4, 3) := by decide +kernel
theorem dX12_logged_51 : decode cX12_logged 51 = .ok (.iconst 2, 1) := by decide +kernel
theorem dX12_logged_52 : decode cX12_logged 52 = .ok (.invokevirtual 101, 3) := by decide +kernel
theorem dX12_logged_55 : decode cX12_logged 55 = .ok (.ifCond .eq 5, 3) := by decide +kernel
theorem dX12_logged_58 : decode cX12_logged 58 = .ok (.iconst 0, 1) := by decide +kernel
theorem dX12_logged_59 : decode cX12_logged 59 = .ok (.ireturn, 1) := by decide +kernel
theorem dX12_logged_60 : decode cX12_logged 60 = .ok (.aload_n 0, 1) := by decide +kernel
theorem dX12_logged_61 : decode cX12_logged 61 = .ok (.getfield 13, 3) := by decide +kernel
theorem dX12_logged_64 : decode cX12_logged 64 = .ok (.iload_n 1, 1) := by decide +kernel
theorem dX12_logged_65 : decode cX12_logged 65 = .ok (.iload_n 2, 1) := by decide +kernel
theorem dX12_logged_66 : decode cX12_logged 66 = .ok (.invokestatic 68, 3) := by decide +kernel
theorem dX12_logged_69 : decode cX12_logged 69 = .ok (.iload_n 3, 1) := by decide +kernel
theorem dX12_logged_70 : decode cX12_logged 70 = .ok (.iadd, 1) := by decide +kernel
theorem dX12_logged_71 : decode cX12_logged 71 = .ok (.iaload, 1) := by decide +kernel
theorem dX12_logged_72 : decode cX12_logged 72 = .ok (.ireturn, 1) := by decide +kernel
theorem dX12_setting_0 : decode cX12_setting 0 = .ok (.aload_n 0, 1) := by decide +kernel
theorem dX12_setting_1 : decode cX12_setting 1 = .ok (.iload_n 1, 1) := by decide +kernel
theorem dX12_setting_2 : decode cX12_setting 2 = .ok (.i2l, 1) := by decide +kernel
theorem dX12_setting_3 : decode cX12_setting 3 = .ok (.lconst 0, 1) := by decide +kernel
theorem dX12_setting_4 : decode cX12_setting 4 = .ok (.ldc2_w 48, 3) := by decide +kernel
theorem dX12_setting_7 : decode cX12_setting 7 = .ok (.invokestatic 44, 3) := by decide +kernel
theorem dX12_setting_10 : decode cX12_setting 10 = .ok (.ifCond .eq 7, 3) := by decide +kernel
theorem dX12_setting_13 : decode cX12_setting 13 = .ok (.iconst 0, 1) := by decide +kernel
theorem dX12_setting_14 : decode cX12_setting 14 = .ok (.goto 4, 3) := by decide +kernel
theorem dX12_setting_17 : decode cX12_setting 17 = .ok (.iconst 1, 1) := by decide +kernel
theorem dX12_setting_18 : decode cX12_setting 18 = .ok (.invokevirtual 101, 3) := by decide +kernel
theorem dX12_setting_21 : decode cX12_setting 21 = .ok (.ifCond .eq 5, 3) := by decide +kernel
theorem dX12_setting_24 : decode cX12_setting 24 = .ok (.iconst 0, 1) := by decide +kernel
theorem dX12_setting_25 : decode cX12_setting 25 = .ok (.ireturn, 1) := by decide +kernel
theorem dX12_setting_26 : decode cX12_setting 26 = .ok (.aload_n 0, 1) := by decide +kernel
theorem dX12_setting_27 : decode cX12_setting 27 = .ok (.getfield 13, 3) := by decide +kernel
theorem dX12_setting_30 : decode cX12_setting 30 = .ok (.bipush 8, 2) := by decide +kernel
theorem dX12_setting_32 : decode cX12_setting 32 = .ok (.iload_n 1, 1) := by decide +kernel
theorem dX12_setting_33 : decode cX12_setting 33 = .ok (.iadd, 1) := by decide +kernel
theorem dX12_setting_34 : decode cX12_setting 34 = .ok (.iaload, 1) := by decide +kernel
theorem dX12_setting_35 : decode cX12_setting 35 = .ok (.ireturn, 1) := by decide +kernel
theorem dX12_remember_0 : decode cX12_remember 0 = .ok (.aload_n 0, 1) := by decide +kernel
theorem dX12_remember_1 : decode cX12_remember 1 = .ok (.getfield 169, 3) := by decide +kernel
theorem dX12_remember_4 : decode cX12_remember 4 = .ok (.bipush 14, 2) := by decide +kernel
theorem dX12_remember_6 : decode cX12_remember 6 = .ok (.if_icmp .ne 44, 3) := by decide +kernel
theorem dX12_remember_9 : decode cX12_remember 9 = .ok (.iconst 0, 1) := by decide +kernel
theorem dX12_remember_10 : decode cX12_remember 10 = .ok (.istore_n 1, 1) := by decide +kernel
theorem dX12_remember_11 : decode cX12_remember 11 = .ok (.iload_n 1, 1) := by decide +kernel
theorem dX12_remember_12 : decode cX12_remember 12 = .ok (.sipush 16536, 3) := by decide +kernel
theorem dX12_remember_15 : decode cX12_remember 15 = .ok (.if_icmp .ge 25, 3) := by decide +kernel
theorem dX12_remember_18 : decode cX12_remember 18 = .ok (.aload_n 0, 1) := by decide +kernel
theorem dX12_remember_19 : decode cX12_remember 19 = .ok (.getfield 22, 3) := by decide +kernel
theorem dX12_remember_22 : decode cX12_remember 22 = .ok (.iload_n 1, 1) := by decide +kernel
theorem dX12_remember_23 : decode cX12_remember 23 = .ok (.aload_n 0, 1) := by decide +kernel
theorem dX12_remember_24 : decode cX12_remember 24 = .ok (.getfield 22, 3) := by decide +kernel
theorem dX12_remember_27 : decode cX12_remember 27 = .ok (.iload_n 1, 1) := by decide +kernel
theorem dX12_remember_28 : decode cX12_remember 28 = .ok (.sipush 1272, 3) := by decide +kernel
theorem dX12_remember_31 : decode cX12_remember 31 = .ok (.iadd, 1) := by decide +kernel
theorem dX12_remember_32 : decode cX12_remember 32 = .ok (.iaload, 1) := by decide +kernel
theorem dX12_remember_33 : decode cX12_remember 33 = .ok (.iastore, 1) := by decide +kernel
theorem dX12_remember_34 : decode cX12_remember 34 = .ok (.iinc 1 1, 3) := by decide +kernel
theorem dX12_remember_37 : decode cX12_remember 37 = .ok (.goto (-26), 3) := by decide +kernel
theorem dX12_remember_40 : decode cX12_remember 40 = .ok (.aload_n 0, 1) := by decide +kernel
theorem dX12_remember_41 : decode cX12_remember 41 = .ok (.dup, 1) := by decide +kernel
theorem dX12_remember_42 : decode cX12_remember 42 = .ok (.getfield 169, 3) := by decide +kernel
theorem dX12_remember_45 : decode cX12_remember 45 = .ok (.iconst 1, 1) := by decide +kernel
theorem dX12_remember_46 : decode cX12_remember 46 = .ok (.isub, 1) := by decide +kernel
theorem dX12_remember_47 : decode cX12_remember 47 = .ok (.putfield 169, 3) := by decide +kernel
theorem dX12_remember_50 : decode cX12_remember 50 = .ok (.aload_n 0, 1) := by decide +kernel
theorem dX12_remember_51 : decode cX12_remember 51 = .ok (.getfield 13, 3) := by decide +kernel
theorem dX12_remember_54 : decode cX12_remember 54 = .ok (.iconst 0, 1) := by decide +kernel
theorem dX12_remember_55 : decode cX12_remember 55 = .ok (.aload_n 0, 1) := by decide +kernel
theorem dX12_remember_56 : decode cX12_remember 56 = .ok (.getfield 22, 3) := by decide +kernel
theorem dX12_remember_59 : decode cX12_remember 59 = .ok (.sipush 1272, 3) := by decide +kernel
theorem dX12_remember_62 : decode cX12_remember 62 = .ok (.aload_n 0, 1) := by decide +kernel
theorem dX12_remember_63 : decode cX12_remember 63 = .ok (.getfield 169, 3) := by decide +kernel
theorem dX12_remember_66 : decode cX12_remember 66 = .ok (.imul, 1) := by decide +kernel
theorem dX12_remember_67 : decode cX12_remember 67 = .ok (.invokestatic 165, 3) := by decide +kernel
theorem dX12_remember_70 : decode cX12_remember 70 = .ok (.aload_n 0, 1) := by decide +kernel
theorem dX12_remember_71 : decode cX12_remember 71 = .ok (.dup, 1) := by decide +kernel
theorem dX12_remember_72 : decode cX12_remember 72 = .ok (.getfield 169, 3) := by decide +kernel
theorem dX12_remember_75 : decode cX12_remember 75 = .ok (.iconst 1, 1) := by decide +kernel
theorem dX12_remember_76 : decode cX12_remember 76 = .ok (.iadd, 1) := by decide +kernel
theorem dX12_remember_77 : decode cX12_remember 77 = .ok (.putfield 169, 3) := by decide +kernel
theorem dX12_remember_80 : decode cX12_remember 80 = .ok (.return_, 1) := by decide +kernel
theorem yf_X12_begin : (Cond.static yX12_begin) ∈ gtbl ∧ (Cond.initialized yX12_begin.cls) ∈ gtbl ∧ (Cond.code yX12_begin cX12_begin 2 none) ∈ gtbl ∧ (yX12_begin.cls ≠ "java/lang/invoke/MethodHandle" ∧ yX12_begin.cls ≠ "java/lang/invoke/VarHandle" ∧ (parseMethodDescriptor yX12_begin.desc).map (fun d => d.parameters.length) = some 1) := ⟨gt_in 1056 (by decide +kernel) (by decide +kernel), gt_in 27 (by decide +kernel) (by decide +kernel), gt_in 1057 (by decide +kernel) (by decide +kernel), by decide +kernel⟩
theorem cw_X12_32 : uCS RX12 32 yX12_begin cX12_begin 2 none 1 := ⟨gt_in 1055 (by decide +kernel) (by decide +kernel), yf_X12_begin⟩
theorem yf_X12_refused : (Cond.instanceMethod yX12_refused) ∈ gtbl ∧ (Cond.selects RX12 yX12_refused yX12_refused) ∈ gtbl ∧ (Cond.initialized RX12) ∈ gtbl ∧ (Cond.code yX12_refused cX12_refused 2 (some .boolean)) ∈ gtbl ∧ (yX12_refused.cls = RX12 ∧ yX12_refused.cls ≠ "java/lang/invoke/MethodHandle" ∧ yX12_refused.cls ≠ "java/lang/invoke/VarHandle" ∧ (parseMethodDescriptor yX12_refused.desc).map (fun d => d.parameters.length) = some 1) := ⟨gt_in 1113 (by decide +kernel) (by decide +kernel), gt_in 9 (by decide +kernel) (by decide +kernel), gt_in 27 (by decide +kernel) (by decide +kernel), gt_in 1114 (by decide +kernel) (by decide +kernel), by decide +kernel⟩
theorem cw_X12_101 : uCW RX12 RX12 101 yX12_refused cX12_refused 2 (some .boolean) 1 := ⟨gt_in 1111 (by decide +kernel) (by decide +kernel), yf_X12_refused⟩
theorem yf_X12_figures : (Cond.instanceMethod yX12_figures) ∈ gtbl ∧ (Cond.selects RX12 yX12_figures yX12_figures) ∈ gtbl ∧ (Cond.initialized RX12) ∈ gtbl ∧ (Cond.code yX12_figures cX12_figures 9 (some .int)) ∈ gtbl ∧ (yX12_figures.cls = RX12 ∧ yX12_figures.cls ≠ "java/lang/invoke/MethodHandle" ∧ yX12_figures.cls ≠ "java/lang/invoke/VarHandle" ∧ (parseMethodDescriptor yX12_figures.desc).map (fun d => d.parameters.length) = some 4) := ⟨gt_in 1133 (by decide +kernel) (by decide +kernel), gt_in 12 (by decide +kernel) (by decide +kernel), gt_in 27 (by decide +kernel) (by decide +kernel), gt_in 1134 (by decide +kernel) (by decide +kernel), by decide +kernel⟩
theorem cw_X12_119 : uCW RX12 RX12 119 yX12_figures cX12_figures 9 (some .int) 4 := ⟨gt_in 1131 (by decide +kernel) (by decide +kernel), yf_X12_figures⟩
theorem yf_X12_done : (Cond.instanceMethod yX12_done) ∈ gtbl ∧ (Cond.selects RX12 yX12_done yX12_done) ∈ gtbl ∧ (Cond.initialized RX12) ∈ gtbl ∧ (Cond.code yX12_done cX12_done 2 (some .boolean)) ∈ gtbl ∧ (yX12_done.cls = RX12 ∧ yX12_done.cls ≠ "java/lang/invoke/MethodHandle" ∧ yX12_done.cls ≠ "java/lang/invoke/VarHandle" ∧ (parseMethodDescriptor yX12_done.desc).map (fun d => d.parameters.length) = some 1) := ⟨gt_in 1150 (by decide +kernel) (by decide +kernel), gt_in 13 (by decide +kernel) (by decide +kernel), gt_in 27 (by decide +kernel) (by decide +kernel), gt_in 1151 (by decide +kernel) (by decide +kernel), by decide +kernel⟩
theorem cw_X12_130 : uCW RX12 RX12 130 yX12_done cX12_done 2 (some .boolean) 1 := ⟨gt_in 1148 (by decide +kernel) (by decide +kernel), yf_X12_done⟩
theorem yf_X12_readCommand : (Cond.instanceMethod yX12_readCommand) ∈ gtbl ∧ (Cond.selects RX12 yX12_readCommand yX12_readCommand) ∈ gtbl ∧ (Cond.initialized RX12) ∈ gtbl ∧ (Cond.code yX12_readCommand cX12_readCommand 5 (some .boolean)) ∈ gtbl ∧ (yX12_readCommand.cls = RX12 ∧ yX12_readCommand.cls ≠ "java/lang/invoke/MethodHandle" ∧ yX12_readCommand.cls ≠ "java/lang/invoke/VarHandle" ∧ (parseMethodDescriptor yX12_readCommand.desc).map (fun d => d.parameters.length) = some 1) := ⟨gt_in 1129 (by decide +kernel) (by decide +kernel), gt_in 11 (by decide +kernel) (by decide +kernel), gt_in 27 (by decide +kernel) (by decide +kernel), gt_in 1130 (by decide +kernel) (by decide +kernel), by decide +kernel⟩
theorem cw_X12_159 : uCW RX12 RX12 159 yX12_readCommand cX12_readCommand 5 (some .boolean) 1 := ⟨gt_in 1127 (by decide +kernel) (by decide +kernel), yf_X12_readCommand⟩
theorem yf_X12_readText : (Cond.instanceMethod yX12_readText) ∈ gtbl ∧ (Cond.selects RX12 yX12_readText yX12_readText) ∈ gtbl ∧ (Cond.initialized RX12) ∈ gtbl ∧ (Cond.code yX12_readText cX12_readText 2 (some .int)) ∈ gtbl ∧ (yX12_readText.cls = RX12 ∧ yX12_readText.cls ≠ "java/lang/invoke/MethodHandle" ∧ yX12_readText.cls ≠ "java/lang/invoke/VarHandle" ∧ (parseMethodDescriptor yX12_readText.desc).map (fun d => d.parameters.length) = some 1) := ⟨gt_in 1125 (by decide +kernel) (by decide +kernel), gt_in 10 (by decide +kernel) (by decide +kernel), gt_in 27 (by decide +kernel) (by decide +kernel), gt_in 1126 (by decide +kernel) (by decide +kernel), by decide +kernel⟩
theorem cw_X12_162 : uCW RX12 RX12 162 yX12_readText cX12_readText 2 (some .int) 1 := ⟨gt_in 1123 (by decide +kernel) (by decide +kernel), yf_X12_readText⟩
theorem yf_X12_copyState : (Cond.static yX12_copyState) ∈ gtbl ∧ (Cond.initialized yX12_copyState.cls) ∈ gtbl ∧ (Cond.code yX12_copyState cX12_copyState 5 none) ∈ gtbl ∧ (yX12_copyState.cls ≠ "java/lang/invoke/MethodHandle" ∧ yX12_copyState.cls ≠ "java/lang/invoke/VarHandle" ∧ (parseMethodDescriptor yX12_copyState.desc).map (fun d => d.parameters.length) = some 4) := ⟨gt_in 1214 (by decide +kernel) (by decide +kernel), gt_in 27 (by decide +kernel) (by decide +kernel), gt_in 1215 (by decide +kernel) (by decide +kernel), by decide +kernel⟩
theorem cw_X12_165 : uCS RX12 165 yX12_copyState cX12_copyState 5 none 4 := ⟨gt_in 1213 (by decide +kernel) (by decide +kernel), yf_X12_copyState⟩
theorem yf_X12_cardsOf : (Cond.static yX12_cardsOf) ∈ gtbl ∧ (Cond.initialized yX12_cardsOf.cls) ∈ gtbl ∧ (Cond.code yX12_cardsOf cX12_cardsOf 4 (some .int)) ∈ gtbl ∧ (yX12_cardsOf.cls ≠ "java/lang/invoke/MethodHandle" ∧ yX12_cardsOf.cls ≠ "java/lang/invoke/VarHandle" ∧ (parseMethodDescriptor yX12_cardsOf.desc).map (fun d => d.parameters.length) = some 2) := ⟨gt_in 1235 (by decide +kernel) (by decide +kernel), gt_in 27 (by decide +kernel) (by decide +kernel), gt_in 1236 (by decide +kernel) (by decide +kernel), by decide +kernel⟩
theorem cw_X12_180 : uCS RX12 180 yX12_cardsOf cX12_cardsOf 4 (some .int) 2 := ⟨gt_in 1234 (by decide +kernel) (by decide +kernel), yf_X12_cardsOf⟩
def fX12_thrown (S : (Nat → Nat → Int32)) : Int32 :=
  lt_ (S 0 0) fun x1 =>
  x1
set_option maxHeartbeats 4000000 in
set_option maxRecDepth 20000 in
theorem kX12_thrown {l : Launch} {G : UG} {V : uV} (hD : uMd G) {S : (Nat → Nat → Int32)} (hV : V 19 = S)  {r : Int32} (h : fX12_thrown S = r) : uMi l G yX12_thrown cX12_thrown 1 .int (uR 0 0) [.ref (ga G 19 0)] V r V := by
  refine uMi_of rfl (Nat.le_of_ble_eq_true rfl) (fun p e s m args below meth c ls X hret hl M => ?_)
  have hl : lv_has ls 1 [(0, .ref (ga G 19 0))] := hl
  have hx := X.hx
  have hb := X.hb
  unfold fX12_thrown at h
  refine lv_aload_n hx hb dX12_thrown_0 rfl (lv_at hl 0 rfl) ?_
  obtain ⟨x1, e2, h⟩ := lt_e h
  refine gf_X12_36 X M hD hV e2 dX12_thrown_1 ?_
  exact u_iret X hret M h (rfl) rfl dX12_thrown_4
def fX12_refused (S : (Nat → Nat → Int32)) (a1 : Int32) : Option (Int32 × (Nat → Nat → Int32)) :=
  lt_ (va_up S 0 (upd (S 0) 0 a1)) fun S1 =>
  if a1 ≤ 0 then
    some (0, S1)
  else
    some (1, S1)
set_option maxHeartbeats 4000000 in
set_option maxRecDepth 20000 in
theorem kX12_refused {l : Launch} {G : UG} {V : uV} (hD : uMd G) {S S' : (Nat → Nat → Int32)} {a1 : Int32} {r : Int32} (h : fX12_refused S a1 = some (r, S')) : uMi l G yX12_refused cX12_refused 2 .boolean (uR 0 0) [.ref (ga G 19 0), .int a1] (va_up V 19 S) r (va_up V 19 S') := by
  refine uMi_of rfl (Nat.le_of_ble_eq_true rfl) (fun p e s m args below meth c ls X hret hl M => ?_)
  have hl : lv_has ls 2 [(0, .ref (ga G 19 0)), (1, .int a1)] := hl
  have hx := X.hx
  have hb := X.hb
  unfold fX12_refused at h
  refine lv_aload_n hx hb dX12_refused_0 rfl (lv_at hl 0 rfl) ?_
  refine lv_iload_n hx hb dX12_refused_1 rfl (lv_at hl 1 rfl) ?_
  obtain ⟨S1, e2, h⟩ := lt_e h
  refine pf_X12_36 X M hD e2 dX12_refused_2 (fun H locs M => ?_)
  refine lv_iload_n hx hb dX12_refused_5 rfl (lv_at hl 1 rfl) ?_
  refine lv_if_le (tgt := 13) hx hb dX12_refused_6 (by decide) (fun c3 => ?_) (fun c3 => ?_)
  · have h := it_t h c3
    refine lv_iconst (v := 0) hx hb dX12_refused_13 (by decide) ?_
    exact u_iret X hret M (rt2 h).1 (congrArg (va_up V 19) ((rt2 h).2)) rfl dX12_refused_14
  · have h := it_f h c3
    refine lv_iconst (v := 1) hx hb dX12_refused_9 (by decide) ?_
    refine lv_goto (tgt := 14) hx hb dX12_refused_10 (by decide) ?_
    exact u_iret X hret M (rt2 h).1 (congrArg (va_up V 19) ((rt2 h).2)) rfl dX12_refused_14
def fX12_append (S : (Nat → Nat → Int32)) (a1 : Int32) : Option (Int32 × (Nat → Nat → Int32)) :=
  lt_ (fX12_in  ((a1 : Int32).toInt64) 0 255) fun x2 =>
  if x2 = 0 then
    bd2 (fX12_refused S 1) fun x41 S42 =>
    if x41 = 0 then
      lt_ (S42 0 2) fun x45 =>
      gd (inb x45 120) <|
      lt_ (va_up S42 1 (upd (S42 1) (x45 : Int32).toNatClampNeg a1)) fun S48 =>
      lt_ (S48 0 2) fun x50 =>
      lt_ (va_up S48 0 (upd (S48 0) 2 (x50 + 1))) fun S52 =>
      lt_ (S52 0 2) fun x54 =>
      some (x54, S52)
    else
      some (0, S42)
  else
    lt_ (S 0 2) fun x5 =>
    if x5 = 120 then
      bd2 (fX12_refused S 2) fun x25 S26 =>
      if x25 = 0 then
        lt_ (S26 0 2) fun x29 =>
        gd (inb x29 120) <|
        lt_ (va_up S26 1 (upd (S26 1) (x29 : Int32).toNatClampNeg a1)) fun S32 =>
        lt_ (S32 0 2) fun x34 =>
        lt_ (va_up S32 0 (upd (S32 0) 2 (x34 + 1))) fun S36 =>
        lt_ (S36 0 2) fun x38 =>
        some (x38, S36)
      else
        some (0, S26)
    else
      bd2 (fX12_refused S 0) fun x9 S10 =>
      if x9 = 0 then
        lt_ (S10 0 2) fun x13 =>
        gd (inb x13 120) <|
        lt_ (va_up S10 1 (upd (S10 1) (x13 : Int32).toNatClampNeg a1)) fun S16 =>
        lt_ (S16 0 2) fun x18 =>
        lt_ (va_up S16 0 (upd (S16 0) 2 (x18 + 1))) fun S20 =>
        lt_ (S20 0 2) fun x22 =>
        some (x22, S20)
      else
        some (0, S10)
set_option maxHeartbeats 4000000 in
set_option maxRecDepth 20000 in
theorem kX12_append {l : Launch} {G : UG} {V : uV} (hD : uMd G) {S S' : (Nat → Nat → Int32)} {a1 : Int32} {r : Int32} (h : fX12_append S a1 = some (r, S')) : uMi l G yX12_append cX12_append 2 .int (uR 1 25) [.ref (ga G 19 0), .int a1] (va_up V 19 S) r (va_up V 19 S') := by
  refine uMi_of rfl (Nat.le_of_ble_eq_true rfl) (fun p e s m args below meth c ls X hret hl M => ?_)
  have hl : lv_has ls 2 [(0, .ref (ga G 19 0)), (1, .int a1)] := hl
  have hx := X.hx
  have hb := X.hb
  unfold fX12_append at h
  refine lv_aload_n hx hb dX12_append_0 rfl (lv_at hl 0 rfl) ?_
  refine lv_iload_n hx hb dX12_append_1 rfl (lv_at hl 1 rfl) ?_
  refine lv_i2l hx hb dX12_append_2 rfl ?_
  refine lv_lconst (v := 0) hx hb dX12_append_3 rfl ?_
  refine lv_ldc2 (v := 255) hx hb X.1.2.2.2.1 (X.hts (gt_in 1107 (by decide +kernel) (by decide +kernel))) dX12_append_4 ?_
  obtain ⟨x2, e1, h⟩ := lt_e h
  refine u_cSi X M hl.1 (kX12_in  e1.symm) cw_X12_44 ⟨by decide, by decide⟩ rfl rfl (Nat.le_of_ble_eq_true rfl) ⟨Nat.zero_le _, Nat.zero_le _⟩ dX12_append_7 (fun H locs M n3 => ?_)
  refine lv_if_ne (tgt := 17) hx hb dX12_append_10 (by decide) (fun c4 => ?_) (fun c4 => ?_)
  · have h := it_f h c4
    refine lv_aload_n hx hb dX12_append_17 rfl (lv_at hl 0 rfl) ?_
    obtain ⟨x5, e6, h⟩ := lt_e h
    refine gf_X12_98 X M hD (va_up_s V 19 _) e6 dX12_append_18 ?_
    refine lv_bipush (v := 120) hx hb dX12_append_21 (by decide) ?_
    refine lv_icmp_ne (tgt := 30) hx hb dX12_append_23 (by decide) (fun c7 => ?_) (fun c7 => ?_)
    · have h := it_f h c7
      refine lv_iconst (v := 0) hx hb dX12_append_30 (by decide) ?_
      obtain ⟨x9, S10, e8, h⟩ := bd2_e h
      refine u_cVi X M hl.1 (kX12_refused hD e8) cw_X12_101 ⟨by decide, by decide⟩ (rc_X12 X M hD) rfl rfl (Nat.le_of_ble_eq_true rfl) ⟨Nat.zero_le _, Nat.zero_le _⟩ dX12_append_31 (fun H locs M n11 => ?_)
      refine lv_if_eq (tgt := 39) hx hb dX12_append_34 (by decide) (fun c12 => ?_) (fun c12 => ?_)
      · have h := it_t h c12
        refine lv_aload_n hx hb dX12_append_39 rfl (lv_at hl 0 rfl) ?_
        refine gf_X12_7 X M hD dX12_append_40 ?_
        refine lv_aload_n hx hb dX12_append_43 rfl (lv_at hl 0 rfl) ?_
        obtain ⟨x13, e14, h⟩ := lt_e h
        refine gf_X12_98 X M hD (va_up_s V 19 _) e14 dX12_append_44 ?_
        refine lv_iload_n hx hb dX12_append_47 rfl (lv_at hl 1 rfl) ?_
        obtain ⟨g15, h⟩ := gd_e h
        obtain ⟨S16, e17, h⟩ := lt_e h
        refine u_ast_b X M (hD 1 (by decide)) uSh_md1 (inb_e g15) e17 dX12_append_48 (fun H locs M => ?_)
        refine lv_aload_n hx hb dX12_append_49 rfl (lv_at hl 0 rfl) ?_
        refine lv_dup hx hb dX12_append_50 rfl ?_
        obtain ⟨x18, e19, h⟩ := lt_e h
        refine gf_X12_98 X M hD (va_up_s V 19 _) e19 dX12_append_51 ?_
        refine lv_iconst (v := 1) hx hb dX12_append_54 (by decide) ?_
        refine lv_iadd hx hb dX12_append_55 ?_
        obtain ⟨S20, e21, h⟩ := lt_e h
        refine pf_X12_98 X M hD e21 dX12_append_56 (fun H locs M => ?_)
        refine lv_aload_n hx hb dX12_append_59 rfl (lv_at hl 0 rfl) ?_
        obtain ⟨x22, e23, h⟩ := lt_e h
        refine gf_X12_98 X M hD (va_up_s V 19 _) e23 dX12_append_60 ?_
        exact u_iret X hret M (rt2 h).1 (congrArg (va_up V 19) ((rt2 h).2)) rfl dX12_append_63
      · have h := it_f h c12
        refine lv_iconst (v := 0) hx hb dX12_append_37 (by decide) ?_
        exact u_iret X hret M (rt2 h).1 (congrArg (va_up V 19) ((rt2 h).2)) rfl dX12_append_38
    · have h := it_t h c7
      refine lv_iconst (v := 2) hx hb dX12_append_26 (by decide) ?_
      refine lv_goto (tgt := 31) hx hb dX12_append_27 (by decide) ?_
      obtain ⟨x25, S26, e24, h⟩ := bd2_e h
      refine u_cVi X M hl.1 (kX12_refused hD e24) cw_X12_101 ⟨by decide, by decide⟩ (rc_X12 X M hD) rfl rfl (Nat.le_of_ble_eq_true rfl) ⟨Nat.zero_le _, Nat.zero_le _⟩ dX12_append_31 (fun H locs M n27 => ?_)
      refine lv_if_eq (tgt := 39) hx hb dX12_append_34 (by decide) (fun c28 => ?_) (fun c28 => ?_)
      · have h := it_t h c28
        refine lv_aload_n hx hb dX12_append_39 rfl (lv_at hl 0 rfl) ?_
        refine gf_X12_7 X M hD dX12_append_40 ?_
        refine lv_aload_n hx hb dX12_append_43 rfl (lv_at hl 0 rfl) ?_
        obtain ⟨x29, e30, h⟩ := lt_e h
        refine gf_X12_98 X M hD (va_up_s V 19 _) e30 dX12_append_44 ?_
        refine lv_iload_n hx hb dX12_append_47 rfl (lv_at hl 1 rfl) ?_
        obtain ⟨g31, h⟩ := gd_e h
        obtain ⟨S32, e33, h⟩ := lt_e h
        refine u_ast_b X M (hD 1 (by decide)) uSh_md1 (inb_e g31) e33 dX12_append_48 (fun H locs M => ?_)
        refine lv_aload_n hx hb dX12_append_49 rfl (lv_at hl 0 rfl) ?_
        refine lv_dup hx hb dX12_append_50 rfl ?_
        obtain ⟨x34, e35, h⟩ := lt_e h
        refine gf_X12_98 X M hD (va_up_s V 19 _) e35 dX12_append_51 ?_
        refine lv_iconst (v := 1) hx hb dX12_append_54 (by decide) ?_
        refine lv_iadd hx hb dX12_append_55 ?_
        obtain ⟨S36, e37, h⟩ := lt_e h
        refine pf_X12_98 X M hD e37 dX12_append_56 (fun H locs M => ?_)
        refine lv_aload_n hx hb dX12_append_59 rfl (lv_at hl 0 rfl) ?_
        obtain ⟨x38, e39, h⟩ := lt_e h
        refine gf_X12_98 X M hD (va_up_s V 19 _) e39 dX12_append_60 ?_
        exact u_iret X hret M (rt2 h).1 (congrArg (va_up V 19) ((rt2 h).2)) rfl dX12_append_63
      · have h := it_f h c28
        refine lv_iconst (v := 0) hx hb dX12_append_37 (by decide) ?_
        exact u_iret X hret M (rt2 h).1 (congrArg (va_up V 19) ((rt2 h).2)) rfl dX12_append_38
  · have h := it_t h c4
    refine lv_iconst (v := 1) hx hb dX12_append_13 (by decide) ?_
    refine lv_goto (tgt := 31) hx hb dX12_append_14 (by decide) ?_
    obtain ⟨x41, S42, e40, h⟩ := bd2_e h
    refine u_cVi X M hl.1 (kX12_refused hD e40) cw_X12_101 ⟨by decide, by decide⟩ (rc_X12 X M hD) rfl rfl (Nat.le_of_ble_eq_true rfl) ⟨Nat.zero_le _, Nat.zero_le _⟩ dX12_append_31 (fun H locs M n43 => ?_)
    refine lv_if_eq (tgt := 39) hx hb dX12_append_34 (by decide) (fun c44 => ?_) (fun c44 => ?_)
    · have h := it_t h c44
      refine lv_aload_n hx hb dX12_append_39 rfl (lv_at hl 0 rfl) ?_
      refine gf_X12_7 X M hD dX12_append_40 ?_
      refine lv_aload_n hx hb dX12_append_43 rfl (lv_at hl 0 rfl) ?_
      obtain ⟨x45, e46, h⟩ := lt_e h
      refine gf_X12_98 X M hD (va_up_s V 19 _) e46 dX12_append_44 ?_
      refine lv_iload_n hx hb dX12_append_47 rfl (lv_at hl 1 rfl) ?_
      obtain ⟨g47, h⟩ := gd_e h
      obtain ⟨S48, e49, h⟩ := lt_e h
      refine u_ast_b X M (hD 1 (by decide)) uSh_md1 (inb_e g47) e49 dX12_append_48 (fun H locs M => ?_)
      refine lv_aload_n hx hb dX12_append_49 rfl (lv_at hl 0 rfl) ?_
      refine lv_dup hx hb dX12_append_50 rfl ?_
      obtain ⟨x50, e51, h⟩ := lt_e h
      refine gf_X12_98 X M hD (va_up_s V 19 _) e51 dX12_append_51 ?_
      refine lv_iconst (v := 1) hx hb dX12_append_54 (by decide) ?_
      refine lv_iadd hx hb dX12_append_55 ?_
      obtain ⟨S52, e53, h⟩ := lt_e h
      refine pf_X12_98 X M hD e53 dX12_append_56 (fun H locs M => ?_)
      refine lv_aload_n hx hb dX12_append_59 rfl (lv_at hl 0 rfl) ?_
      obtain ⟨x54, e55, h⟩ := lt_e h
      refine gf_X12_98 X M hD (va_up_s V 19 _) e55 dX12_append_60 ?_
      exact u_iret X hret M (rt2 h).1 (congrArg (va_up V 19) ((rt2 h).2)) rfl dX12_append_63
    · have h := it_f h c44
      refine lv_iconst (v := 0) hx hb dX12_append_37 (by decide) ?_
      exact u_iret X hret M (rt2 h).1 (congrArg (va_up V 19) ((rt2 h).2)) rfl dX12_append_38
def fX12_clearText (S : (Nat → Nat → Int32)) : Option (Int32 × (Nat → Nat → Int32)) :=
  lt_ (va_up S 0 (upd (S 0) 0 0)) fun S1 =>
  lt_ (S1 0 2) fun x3 =>
  lt_ (va_up S1 0 (upd (S1 0) 2 0)) fun S5 =>
  some (x3, S5)
set_option maxHeartbeats 4000000 in
set_option maxRecDepth 20000 in
theorem kX12_clearText {l : Launch} {G : UG} {V : uV} (hD : uMd G) {S S' : (Nat → Nat → Int32)}  {r : Int32} (h : fX12_clearText S = some (r, S')) : uMi l G yX12_clearText cX12_clearText 2 .int (uR 0 0) [.ref (ga G 19 0)] (va_up V 19 S) r (va_up V 19 S') := by
  refine uMi_of rfl (Nat.le_of_ble_eq_true rfl) (fun p e s m args below meth c ls X hret hl M => ?_)
  have hl : lv_has ls 2 [(0, .ref (ga G 19 0))] := hl
  have hx := X.hx
  have hb := X.hb
  unfold fX12_clearText at h
  refine lv_aload_n hx hb dX12_clearText_0 rfl (lv_at hl 0 rfl) ?_
  refine lv_iconst (v := 0) hx hb dX12_clearText_1 (by decide) ?_
  obtain ⟨S1, e2, h⟩ := lt_e h
  refine pf_X12_36 X M hD e2 dX12_clearText_2 (fun H locs M => ?_)
  refine lv_aload_n hx hb dX12_clearText_5 rfl (lv_at hl 0 rfl) ?_
  obtain ⟨x3, e4, h⟩ := lt_e h
  refine gf_X12_98 X M hD (va_up_s V 19 _) e4 dX12_clearText_6 ?_
  refine lv_istore_n (lv' := [(1, .int x3), (0, .ref (ga G 19 0))]) hx hb dX12_clearText_9 rfl hl (by decide) rfl (fun ls hl => ?_)
  refine lv_aload_n hx hb dX12_clearText_10 rfl (lv_at hl 1 rfl) ?_
  refine lv_iconst (v := 0) hx hb dX12_clearText_11 (by decide) ?_
  obtain ⟨S5, e6, h⟩ := lt_e h
  refine pf_X12_98 X M hD e6 dX12_clearText_12 (fun H locs M => ?_)
  refine lv_iload_n hx hb dX12_clearText_15 rfl (lv_at hl 0 rfl) ?_
  exact u_iret X hret M (rt2 h).1 (congrArg (va_up V 19) ((rt2 h).2)) rfl dX12_clearText_16
def fX12_figures_L16 (n : Nat) (S : (Nat → Nat → Int32)) (y1 : Int32) (y2 : Int32) (y3 : Int32) (y4 : Int32) (y5 : Int32) (y6 : Int32) : Option (Int32 × (Nat → Nat → Int32)) :=
  match n with
  | 0 => none
  | n + 1 =>
    if y6 ≤ 0 then
      if y1 = (-1) then
        some ((-1), S)
      else
        some (y5, S)
    else
      if y1 = (-1) then
        if y1 = (-1) then
          some ((-1), S)
        else
          some (y5, S)
      else
        lt_ (S 0 10) fun x6 =>
        lt_ (S 0 2) fun x8 =>
        if x8 ≤ x6 then
          lt_ ((y5 + ((-1) * y6))) fun x11 =>
          lt_ (fX12_in  (((-1) : Int32).toInt64) 0 9) fun x14 =>
          if x14 = 0 then
            some ((-1), S)
          else
            if y4 < x11 then
              some ((-1), S)
            else
              if y3 ≤ ((x11 + y6) - 1) then
                lt_ (S 0 10) fun x19 =>
                lt_ (va_up S 0 (upd (S 0) 10 (x19 + 1))) fun S21 =>
                lt_ ((y6 / 10)) fun x23 =>
                fX12_figures_L16 n S21 y1 y2 y3 y4 x11 x23
              else
                some ((-1), S)
        else
          lt_ (S 0 10) fun x25 =>
          gd (inb x25 120) <|
          lt_ (S 1 (x25 : Int32).toNatClampNeg) fun x28 =>
          lt_ ((x28 - 48)) fun x30 =>
          lt_ ((y5 + (x30 * y6))) fun x32 =>
          lt_ (fX12_in  ((x30 : Int32).toInt64) 0 9) fun x35 =>
          if x35 = 0 then
            some ((-1), S)
          else
            if y4 < x32 then
              some ((-1), S)
            else
              if y3 ≤ ((x32 + y6) - 1) then
                lt_ (S 0 10) fun x40 =>
                lt_ (va_up S 0 (upd (S 0) 10 (x40 + 1))) fun S42 =>
                lt_ ((y6 / 10)) fun x44 =>
                fX12_figures_L16 n S42 y1 y2 y3 y4 x32 x44
              else
                some ((-1), S)
set_option maxHeartbeats 4000000 in
set_option maxRecDepth 20000 in
theorem lpX12_figures_16 {l : Launch} {G : UG} {V : uV} (hD : uMd G) {S' : (Nat → Nat → Int32)} {r : Int32} {p : Program} {e : Env} {s : State} {m : MethodId} {args : Array Value} {below : List Frame} {meth : Method} {c : Code} (X : UC p s m args meth c cX12_figures 9 RX12 G) (hret : meth.sig.returnType = some .int) : ∀ (n : Nat) (S : (Nat → Nat → Int32)) (y1 : Int32) (y2 : Int32) (y3 : Int32) (y4 : Int32) (y5 : Int32) (y6 : Int32) (H : Heap) (locs : List Loc) (ls : Array Slot), fX12_figures_L16  n S y1 y2 y3 y4 y5 y6 = some (r, S') → UM G (va_up V 19 S) s H locs → lv_has ls 9 [(0, .ref (ga G 19 0)), (1, .int y1), (2, .int y2), (3, .int y3), (4, .int y4), (5, .int y5), (6, .int y6)] → W p l e (uR 1 25) s m args below meth c H locs 0 0 (MQ below (uQi G .int r (va_up V 19 S')) args s 0 0 (uA G)) (F0 m 16 ls []) := by
  intro n
  have hx := X.hx
  have hb := X.hb
  induction n with
  | zero => intro S y1 y2 y3 y4 y5 y6 H locs ls h M hl; rw [fX12_figures_L16] at h; cases h
  | succ n ih =>
    intro S y1 y2 y3 y4 y5 y6 H locs ls h M hl
    rw [fX12_figures_L16] at h
    refine lv_iload hx hb dX12_figures_16 (lv_at hl 6 rfl) ?_
    refine lv_if_le (tgt := 122) hx hb dX12_figures_18 (by decide) (fun c2 => ?_) (fun c2 => ?_)
    · have h := it_t h c2
      refine lv_iload_n hx hb dX12_figures_122 rfl (lv_at hl 1 rfl) ?_
      refine lv_iconst (v := (-1)) hx hb dX12_figures_123 (by decide) ?_
      refine lv_icmp_ne (tgt := 131) hx hb dX12_figures_124 (by decide) (fun c3 => ?_) (fun c3 => ?_)
      · have h := it_f h c3
        refine lv_iload hx hb dX12_figures_131 (lv_at hl 5 rfl) ?_
        exact u_iret X hret M (rt2 h).1 (congrArg (va_up V 19) ((rt2 h).2)) rfl dX12_figures_133
      · have h := it_t h c3
        refine lv_iconst (v := (-1)) hx hb dX12_figures_127 (by decide) ?_
        refine lv_goto (tgt := 133) hx hb dX12_figures_128 (by decide) ?_
        exact u_iret X hret M (rt2 h).1 (congrArg (va_up V 19) ((rt2 h).2)) rfl dX12_figures_133
    · have h := it_f h c2
      refine lv_iload_n hx hb dX12_figures_21 rfl (lv_at hl 1 rfl) ?_
      refine lv_iconst (v := (-1)) hx hb dX12_figures_22 (by decide) ?_
      refine lv_icmp_eq (tgt := 122) hx hb dX12_figures_23 (by decide) (fun c4 => ?_) (fun c4 => ?_)
      · have h := it_t h c4
        refine lv_iload_n hx hb dX12_figures_122 rfl (lv_at hl 1 rfl) ?_
        refine lv_iconst (v := (-1)) hx hb dX12_figures_123 (by decide) ?_
        refine lv_icmp_ne (tgt := 131) hx hb dX12_figures_124 (by decide) (fun c5 => ?_) (fun c5 => ?_)
        · have h := it_f h c5
          refine lv_iload hx hb dX12_figures_131 (lv_at hl 5 rfl) ?_
          exact u_iret X hret M (rt2 h).1 (congrArg (va_up V 19) ((rt2 h).2)) rfl dX12_figures_133
        · have h := it_t h c5
          refine lv_iconst (v := (-1)) hx hb dX12_figures_127 (by decide) ?_
          refine lv_goto (tgt := 133) hx hb dX12_figures_128 (by decide) ?_
          exact u_iret X hret M (rt2 h).1 (congrArg (va_up V 19) ((rt2 h).2)) rfl dX12_figures_133
      · have h := it_f h c4
        refine lv_aload_n hx hb dX12_figures_26 rfl (lv_at hl 0 rfl) ?_
        obtain ⟨x6, e7, h⟩ := lt_e h
        refine gf_X12_105 X M hD (va_up_s V 19 _) e7 dX12_figures_27 ?_
        refine lv_aload_n hx hb dX12_figures_30 rfl (lv_at hl 0 rfl) ?_
        obtain ⟨x8, e9, h⟩ := lt_e h
        refine gf_X12_98 X M hD (va_up_s V 19 _) e9 dX12_figures_31 ?_
        refine lv_icmp_ge (tgt := 52) hx hb dX12_figures_34 (by decide) (fun c10 => ?_) (fun c10 => ?_)
        · have h := it_t h c10
          refine lv_iconst (v := (-1)) hx hb dX12_figures_52 (by decide) ?_
          refine lv_istore (lv' := [(7, .int (-1)), (0, .ref (ga G 19 0)), (1, .int y1), (2, .int y2), (3, .int y3), (4, .int y4), (5, .int y5), (6, .int y6)]) hx hb dX12_figures_53 hl (by decide) rfl (fun ls hl => ?_)
          refine lv_iload hx hb dX12_figures_55 (lv_at hl 6 rfl) ?_
          refine lv_iload hx hb dX12_figures_57 (lv_at hl 0 rfl) ?_
          refine lv_iload hx hb dX12_figures_59 (lv_at hl 7 rfl) ?_
          refine lv_imul hx hb dX12_figures_61 ?_
          refine lv_iadd hx hb dX12_figures_62 ?_
          obtain ⟨x11, e12, h⟩ := lt_e h
          refine u_topi e12 ?_
          refine lv_istore (lv' := [(8, .int x11), (7, .int (-1)), (0, .ref (ga G 19 0)), (1, .int y1), (2, .int y2), (3, .int y3), (4, .int y4), (5, .int y5), (6, .int y6)]) hx hb dX12_figures_63 hl (by decide) rfl (fun ls hl => ?_)
          refine lv_iload hx hb dX12_figures_65 (lv_at hl 1 rfl) ?_
          refine lv_i2l hx hb dX12_figures_67 rfl ?_
          refine lv_lconst (v := 0) hx hb dX12_figures_68 rfl ?_
          refine lv_ldc2 (v := 9) hx hb X.1.2.2.2.1 (X.hts (gt_in 1135 (by decide +kernel) (by decide +kernel))) dX12_figures_69 ?_
          obtain ⟨x14, e13, h⟩ := lt_e h
          refine u_cSi X M hl.1 (kX12_in  e13.symm) cw_X12_44 ⟨by decide, by decide⟩ rfl rfl (Nat.le_of_ble_eq_true rfl) ⟨Nat.zero_le _, Nat.zero_le _⟩ dX12_figures_72 (fun H locs M n15 => ?_)
          refine lv_if_eq (tgt := 96) hx hb dX12_figures_75 (by decide) (fun c16 => ?_) (fun c16 => ?_)
          · have h := it_t h c16
            refine lv_iconst (v := (-1)) hx hb dX12_figures_96 (by decide) ?_
            exact u_iret X hret M (rt2 h).1 (congrArg (va_up V 19) ((rt2 h).2)) rfl dX12_figures_97
          · have h := it_f h c16
            refine lv_iload hx hb dX12_figures_78 (lv_at hl 0 rfl) ?_
            refine lv_iload hx hb dX12_figures_80 (lv_at hl 6 rfl) ?_
            refine lv_icmp_gt (tgt := 96) hx hb dX12_figures_82 (by decide) (fun c17 => ?_) (fun c17 => ?_)
            · have h := it_t h c17
              refine lv_iconst (v := (-1)) hx hb dX12_figures_96 (by decide) ?_
              exact u_iret X hret M (rt2 h).1 (congrArg (va_up V 19) ((rt2 h).2)) rfl dX12_figures_97
            · have h := it_f h c17
              refine lv_iload hx hb dX12_figures_85 (lv_at hl 0 rfl) ?_
              refine lv_iload hx hb dX12_figures_87 (lv_at hl 8 rfl) ?_
              refine lv_iadd hx hb dX12_figures_89 ?_
              refine lv_iconst (v := 1) hx hb dX12_figures_90 (by decide) ?_
              refine lv_isub hx hb dX12_figures_91 ?_
              refine lv_iload_n hx hb dX12_figures_92 rfl (lv_at hl 5 rfl) ?_
              refine lv_icmp_ge (tgt := 98) hx hb dX12_figures_93 (by decide) (fun c18 => ?_) (fun c18 => ?_)
              · have h := it_t h c18
                refine lv_iload hx hb dX12_figures_98 (lv_at hl 0 rfl) ?_
                refine lv_istore (lv' := [(5, .int x11), (8, .int x11), (7, .int (-1)), (0, .ref (ga G 19 0)), (1, .int y1), (2, .int y2), (3, .int y3), (4, .int y4), (6, .int y6)]) hx hb dX12_figures_100 hl (by decide) rfl (fun ls hl => ?_)
                refine lv_aload_n hx hb dX12_figures_102 rfl (lv_at hl 3 rfl) ?_
                refine lv_dup hx hb dX12_figures_103 rfl ?_
                obtain ⟨x19, e20, h⟩ := lt_e h
                refine gf_X12_105 X M hD (va_up_s V 19 _) e20 dX12_figures_104 ?_
                refine lv_iconst (v := 1) hx hb dX12_figures_107 (by decide) ?_
                refine lv_iadd hx hb dX12_figures_108 ?_
                obtain ⟨S21, e22, h⟩ := lt_e h
                refine pf_X12_105 X M hD e22 dX12_figures_109 (fun H locs M => ?_)
                refine lv_iload hx hb dX12_figures_112 (lv_at hl 8 rfl) ?_
                refine lv_bipush (v := 10) hx hb dX12_figures_114 (by decide) ?_
                refine lv_idiv hx hb dX12_figures_116 (by decide) ?_
                obtain ⟨x23, e24, h⟩ := lt_e h
                refine u_topi e24 ?_
                refine lv_istore (lv' := [(6, .int x23), (5, .int x11), (8, .int x11), (7, .int (-1)), (0, .ref (ga G 19 0)), (1, .int y1), (2, .int y2), (3, .int y3), (4, .int y4)]) hx hb dX12_figures_117 hl (by decide) rfl (fun ls hl => ?_)
                refine lv_goto (tgt := 16) hx hb dX12_figures_119 (by decide) ?_
                exact ih _ _ _ _ _ _ _ _ _ _ h M (lv_sub hl [4, 5, 6, 7, 8, 1, 0] rfl)
              · have h := it_f h c18
                refine lv_iconst (v := (-1)) hx hb dX12_figures_96 (by decide) ?_
                exact u_iret X hret M (rt2 h).1 (congrArg (va_up V 19) ((rt2 h).2)) rfl dX12_figures_97
        · have h := it_f h c10
          refine lv_aload_n hx hb dX12_figures_37 rfl (lv_at hl 0 rfl) ?_
          refine gf_X12_7 X M hD dX12_figures_38 ?_
          refine lv_aload_n hx hb dX12_figures_41 rfl (lv_at hl 0 rfl) ?_
          obtain ⟨x25, e26, h⟩ := lt_e h
          refine gf_X12_105 X M hD (va_up_s V 19 _) e26 dX12_figures_42 ?_
          obtain ⟨g27, h⟩ := gd_e h
          obtain ⟨x28, e29, h⟩ := lt_e h
          refine u_ald X M (hD 1 (by decide)) (uAd_sh uSh_md1 (congrFun (va_up_s V 19 _) 1)) (inb_e g27) e29 dX12_figures_45 ?_
          refine lv_bipush (v := 48) hx hb dX12_figures_46 (by decide) ?_
          refine lv_isub hx hb dX12_figures_48 ?_
          refine lv_goto (tgt := 53) hx hb dX12_figures_49 (by decide) ?_
          obtain ⟨x30, e31, h⟩ := lt_e h
          refine u_topi e31 ?_
          refine lv_istore (lv' := [(7, .int x30), (0, .ref (ga G 19 0)), (1, .int y1), (2, .int y2), (3, .int y3), (4, .int y4), (5, .int y5), (6, .int y6)]) hx hb dX12_figures_53 hl (by decide) rfl (fun ls hl => ?_)
          refine lv_iload hx hb dX12_figures_55 (lv_at hl 6 rfl) ?_
          refine lv_iload hx hb dX12_figures_57 (lv_at hl 0 rfl) ?_
          refine lv_iload hx hb dX12_figures_59 (lv_at hl 7 rfl) ?_
          refine lv_imul hx hb dX12_figures_61 ?_
          refine lv_iadd hx hb dX12_figures_62 ?_
          obtain ⟨x32, e33, h⟩ := lt_e h
          refine u_topi e33 ?_
          refine lv_istore (lv' := [(8, .int x32), (7, .int x30), (0, .ref (ga G 19 0)), (1, .int y1), (2, .int y2), (3, .int y3), (4, .int y4), (5, .int y5), (6, .int y6)]) hx hb dX12_figures_63 hl (by decide) rfl (fun ls hl => ?_)
          refine lv_iload hx hb dX12_figures_65 (lv_at hl 1 rfl) ?_
          refine lv_i2l hx hb dX12_figures_67 rfl ?_
          refine lv_lconst (v := 0) hx hb dX12_figures_68 rfl ?_
          refine lv_ldc2 (v := 9) hx hb X.1.2.2.2.1 (X.hts (gt_in 1135 (by decide +kernel) (by decide +kernel))) dX12_figures_69 ?_
          obtain ⟨x35, e34, h⟩ := lt_e h
          refine u_cSi X M hl.1 (kX12_in  e34.symm) cw_X12_44 ⟨by decide, by decide⟩ rfl rfl (Nat.le_of_ble_eq_true rfl) ⟨Nat.zero_le _, Nat.zero_le _⟩ dX12_figures_72 (fun H locs M n36 => ?_)
          refine lv_if_eq (tgt := 96) hx hb dX12_figures_75 (by decide) (fun c37 => ?_) (fun c37 => ?_)
          · have h := it_t h c37
            refine lv_iconst (v := (-1)) hx hb dX12_figures_96 (by decide) ?_
            exact u_iret X hret M (rt2 h).1 (congrArg (va_up V 19) ((rt2 h).2)) rfl dX12_figures_97
          · have h := it_f h c37
            refine lv_iload hx hb dX12_figures_78 (lv_at hl 0 rfl) ?_
            refine lv_iload hx hb dX12_figures_80 (lv_at hl 6 rfl) ?_
            refine lv_icmp_gt (tgt := 96) hx hb dX12_figures_82 (by decide) (fun c38 => ?_) (fun c38 => ?_)
            · have h := it_t h c38
              refine lv_iconst (v := (-1)) hx hb dX12_figures_96 (by decide) ?_
              exact u_iret X hret M (rt2 h).1 (congrArg (va_up V 19) ((rt2 h).2)) rfl dX12_figures_97
            · have h := it_f h c38
              refine lv_iload hx hb dX12_figures_85 (lv_at hl 0 rfl) ?_
              refine lv_iload hx hb dX12_figures_87 (lv_at hl 8 rfl) ?_
              refine lv_iadd hx hb dX12_figures_89 ?_
              refine lv_iconst (v := 1) hx hb dX12_figures_90 (by decide) ?_
              refine lv_isub hx hb dX12_figures_91 ?_
              refine lv_iload_n hx hb dX12_figures_92 rfl (lv_at hl 5 rfl) ?_
              refine lv_icmp_ge (tgt := 98) hx hb dX12_figures_93 (by decide) (fun c39 => ?_) (fun c39 => ?_)
              · have h := it_t h c39
                refine lv_iload hx hb dX12_figures_98 (lv_at hl 0 rfl) ?_
                refine lv_istore (lv' := [(5, .int x32), (8, .int x32), (7, .int x30), (0, .ref (ga G 19 0)), (1, .int y1), (2, .int y2), (3, .int y3), (4, .int y4), (6, .int y6)]) hx hb dX12_figures_100 hl (by decide) rfl (fun ls hl => ?_)
                refine lv_aload_n hx hb dX12_figures_102 rfl (lv_at hl 3 rfl) ?_
                refine lv_dup hx hb dX12_figures_103 rfl ?_
                obtain ⟨x40, e41, h⟩ := lt_e h
                refine gf_X12_105 X M hD (va_up_s V 19 _) e41 dX12_figures_104 ?_
                refine lv_iconst (v := 1) hx hb dX12_figures_107 (by decide) ?_
                refine lv_iadd hx hb dX12_figures_108 ?_
                obtain ⟨S42, e43, h⟩ := lt_e h
                refine pf_X12_105 X M hD e43 dX12_figures_109 (fun H locs M => ?_)
                refine lv_iload hx hb dX12_figures_112 (lv_at hl 8 rfl) ?_
                refine lv_bipush (v := 10) hx hb dX12_figures_114 (by decide) ?_
                refine lv_idiv hx hb dX12_figures_116 (by decide) ?_
                obtain ⟨x44, e45, h⟩ := lt_e h
                refine u_topi e45 ?_
                refine lv_istore (lv' := [(6, .int x44), (5, .int x32), (8, .int x32), (7, .int x30), (0, .ref (ga G 19 0)), (1, .int y1), (2, .int y2), (3, .int y3), (4, .int y4)]) hx hb dX12_figures_117 hl (by decide) rfl (fun ls hl => ?_)
                refine lv_goto (tgt := 16) hx hb dX12_figures_119 (by decide) ?_
                exact ih _ _ _ _ _ _ _ _ _ _ h M (lv_sub hl [4, 5, 6, 7, 8, 1, 0] rfl)
              · have h := it_f h c39
                refine lv_iconst (v := (-1)) hx hb dX12_figures_96 (by decide) ?_
                exact u_iret X hret M (rt2 h).1 (congrArg (va_up V 19) ((rt2 h).2)) rfl dX12_figures_97
def fX12_figures (S : (Nat → Nat → Int32)) (a1 : Int32) (a2 : Int32) (a3 : Int32) (a4 : Int32) : Option (Int32 × (Nat → Nat → Int32)) :=
  if a2 = 2 then
    fX12_figures_L16 3000 S a1 a2 a3 a4 0 10
  else
    fX12_figures_L16 3000 S a1 a2 a3 a4 0 1
set_option maxHeartbeats 4000000 in
set_option maxRecDepth 20000 in
theorem kX12_figures {l : Launch} {G : UG} {V : uV} (hD : uMd G) {S S' : (Nat → Nat → Int32)} {a1 : Int32} {a2 : Int32} {a3 : Int32} {a4 : Int32} {r : Int32} (h : fX12_figures S a1 a2 a3 a4 = some (r, S')) : uMi l G yX12_figures cX12_figures 9 .int (uR 1 25) [.ref (ga G 19 0), .int a1, .int a2, .int a3, .int a4] (va_up V 19 S) r (va_up V 19 S') := by
  refine uMi_of rfl (Nat.le_of_ble_eq_true rfl) (fun p e s m args below meth c ls X hret hl M => ?_)
  have hl : lv_has ls 9 [(0, .ref (ga G 19 0)), (1, .int a1), (2, .int a2), (3, .int a3), (4, .int a4)] := hl
  have hx := X.hx
  have hb := X.hb
  unfold fX12_figures at h
  refine lv_iconst (v := 0) hx hb dX12_figures_0 (by decide) ?_
  refine lv_istore (lv' := [(5, .int 0), (0, .ref (ga G 19 0)), (1, .int a1), (2, .int a2), (3, .int a3), (4, .int a4)]) hx hb dX12_figures_1 hl (by decide) rfl (fun ls hl => ?_)
  refine lv_iload_n hx hb dX12_figures_3 rfl (lv_at hl 3 rfl) ?_
  refine lv_iconst (v := 2) hx hb dX12_figures_4 (by decide) ?_
  refine lv_icmp_ne (tgt := 13) hx hb dX12_figures_5 (by decide) (fun c1 => ?_) (fun c1 => ?_)
  · have h := it_f h c1
    refine lv_iconst (v := 1) hx hb dX12_figures_13 (by decide) ?_
    refine lv_istore (lv' := [(6, .int 1), (5, .int 0), (0, .ref (ga G 19 0)), (1, .int a1), (2, .int a2), (3, .int a3), (4, .int a4)]) hx hb dX12_figures_14 hl (by decide) rfl (fun ls hl => ?_)
    exact lpX12_figures_16 hD X hret 3000 _ _ _ _ _ _ _ _ _ _ h M (lv_sub hl [2, 3, 4, 5, 6, 1, 0] rfl)
  · have h := it_t h c1
    refine lv_bipush (v := 10) hx hb dX12_figures_8 (by decide) ?_
    refine lv_goto (tgt := 14) hx hb dX12_figures_10 (by decide) ?_
    refine lv_istore (lv' := [(6, .int 10), (5, .int 0), (0, .ref (ga G 19 0)), (1, .int a1), (2, .int a2), (3, .int a3), (4, .int a4)]) hx hb dX12_figures_14 hl (by decide) rfl (fun ls hl => ?_)
    exact lpX12_figures_16 hD X hret 3000 _ _ _ _ _ _ _ _ _ _ h M (lv_sub hl [2, 3, 4, 5, 6, 1, 0] rfl)
def fX12_done (S : (Nat → Nat → Int32)) (a1 : Int32) : Option (Int32 × (Nat → Nat → Int32)) :=
  lt_ (S 0 11) fun x1 =>
  if a1 = 0 then
    lt_ (va_up S 0 (upd (S 0) 11 (x1 + 1))) fun S4 =>
    some (1, S4)
  else
    lt_ (va_up S 0 (upd (S 0) 11 (x1 + 0))) fun S6 =>
    some (1, S6)
set_option maxHeartbeats 4000000 in
set_option maxRecDepth 20000 in
theorem kX12_done {l : Launch} {G : UG} {V : uV} (hD : uMd G) {S S' : (Nat → Nat → Int32)} {a1 : Int32} {r : Int32} (h : fX12_done S a1 = some (r, S')) : uMi l G yX12_done cX12_done 2 .boolean (uR 0 0) [.ref (ga G 19 0), .int a1] (va_up V 19 S) r (va_up V 19 S') := by
  refine uMi_of rfl (Nat.le_of_ble_eq_true rfl) (fun p e s m args below meth c ls X hret hl M => ?_)
  have hl : lv_has ls 2 [(0, .ref (ga G 19 0)), (1, .int a1)] := hl
  have hx := X.hx
  have hb := X.hb
  unfold fX12_done at h
  refine lv_aload_n hx hb dX12_done_0 rfl (lv_at hl 0 rfl) ?_
  refine lv_dup hx hb dX12_done_1 rfl ?_
  obtain ⟨x1, e2, h⟩ := lt_e h
  refine gf_X12_110 X M hD (va_up_s V 19 _) e2 dX12_done_2 ?_
  refine lv_iload_n hx hb dX12_done_5 rfl (lv_at hl 1 rfl) ?_
  refine lv_if_eq (tgt := 13) hx hb dX12_done_6 (by decide) (fun c3 => ?_) (fun c3 => ?_)
  · have h := it_t h c3
    refine lv_iconst (v := 1) hx hb dX12_done_13 (by decide) ?_
    refine lv_iadd hx hb dX12_done_14 ?_
    obtain ⟨S4, e5, h⟩ := lt_e h
    refine pf_X12_110 X M hD e5 dX12_done_15 (fun H locs M => ?_)
    refine lv_iconst (v := 1) hx hb dX12_done_18 (by decide) ?_
    exact u_iret X hret M (rt2 h).1 (congrArg (va_up V 19) ((rt2 h).2)) rfl dX12_done_19
  · have h := it_f h c3
    refine lv_iconst (v := 0) hx hb dX12_done_9 (by decide) ?_
    refine lv_goto (tgt := 14) hx hb dX12_done_10 (by decide) ?_
    refine lv_iadd hx hb dX12_done_14 ?_
    obtain ⟨S6, e7, h⟩ := lt_e h
    refine pf_X12_110 X M hD e7 dX12_done_15 (fun H locs M => ?_)
    refine lv_iconst (v := 1) hx hb dX12_done_18 (by decide) ?_
    exact u_iret X hret M (rt2 h).1 (congrArg (va_up V 19) ((rt2 h).2)) rfl dX12_done_19
def fX12_readCommand (S : (Nat → Nat → Int32)) : Option (Int32 × (Nat → Nat → Int32)) :=
  lt_ (S 0 10) fun x1 =>
  gd (inb x1 120) <|
  lt_ (S 1 (x1 : Int32).toNatClampNeg) fun x4 =>
  lt_ (S 0 10) fun x6 =>
  lt_ (va_up S 0 (upd (S 0) 10 (x6 + 1))) fun S8 =>
  if x4 = 99 then
    bd2 (fX12_figures S8 0 1 0 9) fun x12 S13 =>
    if x12 = (-1) then
      some (0, S13)
    else
      bd (fX12_canCopy (S13 3) x12) fun x17 =>
      if x17 = 0 then
        bd2 (fX12_done S13 0) fun x21 S22 =>
        if x21 = 0 then
          some (0, S22)
        else
          some (1, S22)
      else
        bd2 (fX12_copyOn (S13 3) x12) fun x26 r28 =>
        lt_ (va_up S13 3 r28) fun S27 =>
        if x26 ≤ 0 then
          bd2 (fX12_done S27 0) fun x33 S34 =>
          if x33 = 0 then
            some (0, S34)
          else
            some (1, S34)
        else
          bd2 (fX12_done S27 1) fun x38 S39 =>
          if x38 = 0 then
            some (0, S39)
          else
            some (1, S39)
  else if x4 = 100 then
    bd2 (fX12_figures S8 0 1 0 3) fun x44 S45 =>
    if x44 = (-1) then
      some (0, S45)
    else
      if x4 = 117 then
        bd2 (fX12_doesLine (S45 3) x44 1) fun x61 r63 =>
        lt_ (va_up S45 3 r63) fun S62 =>
        bd2 (fX12_done S62 x61) fun x67 S68 =>
        if x67 = 0 then
          some (0, S68)
        else
          some (1, S68)
      else
        bd2 (fX12_doesLine (S45 3) x44 0) fun x50 r52 =>
        lt_ (va_up S45 3 r52) fun S51 =>
        bd2 (fX12_done S51 x50) fun x56 S57 =>
        if x56 = 0 then
          some (0, S57)
        else
          some (1, S57)
  else if x4 = 101 then
    lt_ (S8 0 10) fun x72 =>
    lt_ (va_up S8 0 (upd (S8 0) 10 (x72 - 1))) fun S74 =>
    some (0, S74)
  else if x4 = 102 then
    lt_ (S8 0 10) fun x77 =>
    lt_ (va_up S8 0 (upd (S8 0) 10 (x77 - 1))) fun S79 =>
    some (0, S79)
  else if x4 = 103 then
    lt_ (S8 0 10) fun x82 =>
    lt_ (va_up S8 0 (upd (S8 0) 10 (x82 - 1))) fun S84 =>
    some (0, S84)
  else if x4 = 104 then
    lt_ (S8 0 10) fun x87 =>
    lt_ (va_up S8 0 (upd (S8 0) 10 (x87 - 1))) fun S89 =>
    some (0, S89)
  else if x4 = 105 then
    bd2 (fX12_figures S8 0 2 0 99) fun x93 S94 =>
    if x93 = (-1) then
      some (0, S94)
    else
      bd (fX12_canIssue (S94 3)) fun x98 =>
      if x98 = 0 then
        bd2 (fX12_done S94 0) fun x102 S103 =>
        if x102 = 0 then
          some (0, S103)
        else
          some (1, S103)
      else
        bd2 (fX12_issueOn (S94 3) x93) fun x107 r109 =>
        lt_ (va_up S94 3 r109) fun S108 =>
        if x107 < 0 then
          bd2 (fX12_done S108 0) fun x114 S115 =>
          if x114 = 0 then
            some (0, S115)
          else
            some (1, S115)
        else
          bd2 (fX12_done S108 1) fun x119 S120 =>
          if x119 = 0 then
            some (0, S120)
          else
            some (1, S120)
  else if x4 = 106 then
    lt_ (S8 0 10) fun x124 =>
    lt_ (va_up S8 0 (upd (S8 0) 10 (x124 - 1))) fun S126 =>
    some (0, S126)
  else if x4 = 107 then
    lt_ (S8 0 10) fun x129 =>
    lt_ (va_up S8 0 (upd (S8 0) 10 (x129 - 1))) fun S131 =>
    some (0, S131)
  else if x4 = 108 then
    lt_ (S8 0 10) fun x134 =>
    lt_ (va_up S8 0 (upd (S8 0) 10 (x134 - 1))) fun S136 =>
    some (0, S136)
  else if x4 = 109 then
    bd2 (fX12_figures S8 0 2 1 60) fun x140 S141 =>
    if x140 = (-1) then
      some (0, S141)
    else
      bd2 (fX12_runOn (S141 3) x140) fun x145 r147 =>
      lt_ (va_up S141 3 r147) fun S146 =>
      if x145 ≤ 0 then
        bd2 (fX12_done S146 0) fun x152 S153 =>
        if x152 = 0 then
          some (0, S153)
        else
          some (1, S153)
      else
        bd2 (fX12_done S146 1) fun x157 S158 =>
        if x157 = 0 then
          some (0, S158)
        else
          some (1, S158)
  else if x4 = 110 then
    lt_ (S8 0 10) fun x162 =>
    lt_ (va_up S8 0 (upd (S8 0) 10 (x162 - 1))) fun S164 =>
    some (0, S164)
  else if x4 = 111 then
    bd2 (fX12_figures S8 0 1 0 3) fun x168 S169 =>
    if x168 = (-1) then
      some (0, S169)
    else
      bd2 (fX12_openOn (S169 3) x168) fun x173 r175 =>
      lt_ (va_up S169 3 r175) fun S174 =>
      if x173 < 0 then
        bd2 (fX12_done S174 0) fun x180 S181 =>
        if x180 = 0 then
          some (0, S181)
        else
          some (1, S181)
      else
        bd2 (fX12_done S174 1) fun x185 S186 =>
        if x185 = 0 then
          some (0, S186)
        else
          some (1, S186)
  else if x4 = 112 then
    lt_ (S8 0 10) fun x190 =>
    lt_ (va_up S8 0 (upd (S8 0) 10 (x190 - 1))) fun S192 =>
    some (0, S192)
  else if x4 = 113 then
    lt_ (S8 0 10) fun x195 =>
    lt_ (va_up S8 0 (upd (S8 0) 10 (x195 - 1))) fun S197 =>
    some (0, S197)
  else if x4 = 114 then
    bd2 (fX12_figures S8 0 1 0 9) fun x201 S202 =>
    bd2 (fX12_figures S202 x201 1 0 3) fun x205 S206 =>
    if x205 = (-1) then
      some (0, S206)
    else
      bd (fX12_isCard (S206 3) x201) fun x210 =>
      if x210 = 0 then
        bd2 (fX12_done S206 0) fun x214 S215 =>
        if x214 = 0 then
          some (0, S215)
        else
          some (1, S215)
      else
        bd2 (fX12_rideOn (S206 3) x201 x205) fun x219 r221 =>
        lt_ (va_up S206 3 r221) fun S220 =>
        if x219 < 0 then
          bd2 (fX12_done S220 0) fun x226 S227 =>
          if x226 = 0 then
            some (0, S227)
          else
            some (1, S227)
        else
          bd2 (fX12_done S220 1) fun x231 S232 =>
          if x231 = 0 then
            some (0, S232)
          else
            some (1, S232)
  else if x4 = 115 then
    lt_ (S8 0 10) fun x236 =>
    lt_ (va_up S8 0 (upd (S8 0) 10 (x236 - 1))) fun S238 =>
    some (0, S238)
  else if x4 = 116 then
    bd2 (fX12_figures S8 0 1 0 7) fun x242 S243 =>
    bd2 (fX12_figures S243 x242 2 1 99) fun x246 S247 =>
    if x246 = (-1) then
      if x246 = (-1) then
        some (0, S247)
      else
        bd (fX12_isAccount (S247 3) x242) fun x252 =>
        bd2 (fX12_done S247 x252) fun x255 S256 =>
        if x255 = 0 then
          some (0, S256)
        else
          some (1, S256)
    else
      bd (fX12_isAccount (S247 3) x242) fun x260 =>
      if x260 = 0 then
        if x246 = (-1) then
          some (0, S247)
        else
          bd (fX12_isAccount (S247 3) x242) fun x265 =>
          bd2 (fX12_done S247 x265) fun x268 S269 =>
          if x268 = 0 then
            some (0, S269)
          else
            some (1, S269)
      else
        bd2 (fX12_payOn (S247 3) x242 x246) fun x273 r275 =>
        lt_ (va_up S247 3 r275) fun S274 =>
        if x246 = (-1) then
          some (0, S274)
        else
          bd (fX12_isAccount (S274 3) x242) fun x280 =>
          bd2 (fX12_done S274 x280) fun x283 S284 =>
          if x283 = 0 then
            some (0, S284)
          else
            some (1, S284)
  else if x4 = 117 then
    bd2 (fX12_figures S8 0 1 0 3) fun x289 S290 =>
    if x289 = (-1) then
      some (0, S290)
    else
      if x4 = 117 then
        bd2 (fX12_doesLine (S290 3) x289 1) fun x306 r308 =>
        lt_ (va_up S290 3 r308) fun S307 =>
        bd2 (fX12_done S307 x306) fun x312 S313 =>
        if x312 = 0 then
          some (0, S313)
        else
          some (1, S313)
      else
        bd2 (fX12_doesLine (S290 3) x289 0) fun x295 r297 =>
        lt_ (va_up S290 3 r297) fun S296 =>
        bd2 (fX12_done S296 x295) fun x301 S302 =>
        if x301 = 0 then
          some (0, S302)
        else
          some (1, S302)
  else 
  lt_ (S8 0 10) fun x316 =>
  lt_ (va_up S8 0 (upd (S8 0) 10 (x316 - 1))) fun S318 =>
  some (0, S318)
set_option maxHeartbeats 4000000 in
set_option maxRecDepth 20000 in
theorem kX12_readCommand {l : Launch} {G : UG} {V : uV} (hD : uMd G) {S S' : (Nat → Nat → Int32)}  {r : Int32} (h : fX12_readCommand S = some (r, S')) : uMi l G yX12_readCommand cX12_readCommand 5 .boolean (uR 6 137) [.ref (ga G 19 0), .ref (ga G 19 3)] (va_up V 19 S) r (va_up V 19 S') := by
  refine uMi_of rfl (Nat.le_of_ble_eq_true rfl) (fun p e s m args below meth c ls X hret hl M => ?_)
  have hl : lv_has ls 5 [(0, .ref (ga G 19 0)), (1, .ref (ga G 19 3))] := hl
  have hx := X.hx
  have hb := X.hb
  unfold fX12_readCommand at h
  refine lv_aload_n hx hb dX12_readCommand_0 rfl (lv_at hl 0 rfl) ?_
  refine gf_X12_7 X M hD dX12_readCommand_1 ?_
  refine lv_aload_n hx hb dX12_readCommand_4 rfl (lv_at hl 0 rfl) ?_
  obtain ⟨x1, e2, h⟩ := lt_e h
  refine gf_X12_105 X M hD (va_up_s V 19 _) e2 dX12_readCommand_5 ?_
  obtain ⟨g3, h⟩ := gd_e h
  obtain ⟨x4, e5, h⟩ := lt_e h
  refine u_ald X M (hD 1 (by decide)) (uAd_sh uSh_md1 (congrFun (va_up_s V 19 _) 1)) (inb_e g3) e5 dX12_readCommand_8 ?_
  refine lv_istore_n (lv' := [(2, .int x4), (0, .ref (ga G 19 0)), (1, .ref (ga G 19 3))]) hx hb dX12_readCommand_9 rfl hl (by decide) rfl (fun ls hl => ?_)
  refine lv_aload_n hx hb dX12_readCommand_10 rfl (lv_at hl 1 rfl) ?_
  refine lv_dup hx hb dX12_readCommand_11 rfl ?_
  obtain ⟨x6, e7, h⟩ := lt_e h
  refine gf_X12_105 X M hD (va_up_s V 19 _) e7 dX12_readCommand_12 ?_
  refine lv_iconst (v := 1) hx hb dX12_readCommand_15 (by decide) ?_
  refine lv_iadd hx hb dX12_readCommand_16 ?_
  obtain ⟨S8, e9, h⟩ := lt_e h
  refine pf_X12_105 X M hD e9 dX12_readCommand_17 (fun H locs M => ?_)
  refine lv_iload_n hx hb dX12_readCommand_20 rfl (lv_at hl 0 rfl) ?_
  by_cases c10 : x4 = 99
  · have h := it_t h c10
    refine lv_tableIn (off := 139) (tgt := 160) hx hb dX12_readCommand_21 (by rw [c10]; decide) (by rw [c10]; decide) (by rw [c10]; rfl) (by decide) ?_
    refine lv_aload_n hx hb dX12_readCommand_160 rfl (lv_at hl 1 rfl) ?_
    refine lv_iconst (v := 0) hx hb dX12_readCommand_161 (by decide) ?_
    refine lv_iconst (v := 1) hx hb dX12_readCommand_162 (by decide) ?_
    refine lv_iconst (v := 0) hx hb dX12_readCommand_163 (by decide) ?_
    refine lv_bipush (v := 9) hx hb dX12_readCommand_164 (by decide) ?_
    obtain ⟨x12, S13, e11, h⟩ := bd2_e h
    refine u_cVi X M hl.1 (kX12_figures hD e11) cw_X12_119 ⟨by decide, by decide⟩ (rc_X12 X M hD) rfl rfl (Nat.le_of_ble_eq_true rfl) ⟨Nat.zero_le _, Nat.zero_le _⟩ dX12_readCommand_166 (fun H locs M n14 => ?_)
    refine lv_istore_n (lv' := [(3, .int x12), (2, .int x4), (0, .ref (ga G 19 0)), (1, .ref (ga G 19 3))]) hx hb dX12_readCommand_169 rfl hl (by decide) rfl (fun ls hl => ?_)
    refine lv_iload_n hx hb dX12_readCommand_170 rfl (lv_at hl 0 rfl) ?_
    refine lv_iconst (v := (-1)) hx hb dX12_readCommand_171 (by decide) ?_
    refine lv_icmp_eq (tgt := 207) hx hb dX12_readCommand_172 (by decide) (fun c15 => ?_) (fun c15 => ?_)
    · have h := it_t h c15
      refine lv_iconst (v := 0) hx hb dX12_readCommand_207 (by decide) ?_
      exact u_iret X hret M (rt2 h).1 (congrArg (va_up V 19) ((rt2 h).2)) rfl dX12_readCommand_208
    · have h := it_f h c15
      refine lv_aload_n hx hb dX12_readCommand_175 rfl (lv_at hl 2 rfl) ?_
      refine lv_aload_n hx hb dX12_readCommand_176 rfl (lv_at hl 3 rfl) ?_
      refine lv_iload_n hx hb dX12_readCommand_177 rfl (lv_at hl 0 rfl) ?_
      obtain ⟨x17, e16, h⟩ := bd_e h
      refine u_cSi X M hl.1 (kX12_canCopy (uArD3 hD) (congrFun (va_up_s V 19 _) 3) e16) cw_X12_134 ⟨by decide, by decide⟩ rfl rfl (Nat.le_of_ble_eq_true rfl) ⟨Nat.zero_le _, Nat.zero_le _⟩ dX12_readCommand_178 (fun H locs M n18 => ?_)
      refine lv_if_eq (tgt := 196) hx hb dX12_readCommand_181 (by decide) (fun c19 => ?_) (fun c19 => ?_)
      · have h := it_t h c19
        refine lv_iconst (v := 0) hx hb dX12_readCommand_196 (by decide) ?_
        obtain ⟨x21, S22, e20, h⟩ := bd2_e h
        refine u_cVi X M hl.1 (kX12_done hD e20) cw_X12_130 ⟨by decide, by decide⟩ (rc_X12 X M hD) rfl rfl (Nat.le_of_ble_eq_true rfl) ⟨Nat.zero_le _, Nat.zero_le _⟩ dX12_readCommand_197 (fun H locs M n23 => ?_)
        refine lv_if_eq (tgt := 207) hx hb dX12_readCommand_200 (by decide) (fun c24 => ?_) (fun c24 => ?_)
        · have h := it_t h c24
          refine lv_iconst (v := 0) hx hb dX12_readCommand_207 (by decide) ?_
          exact u_iret X hret M (rt2 h).1 (congrArg (va_up V 19) ((rt2 h).2)) rfl dX12_readCommand_208
        · have h := it_f h c24
          refine lv_iconst (v := 1) hx hb dX12_readCommand_203 (by decide) ?_
          refine lv_goto (tgt := 208) hx hb dX12_readCommand_204 (by decide) ?_
          exact u_iret X hret M (rt2 h).1 (congrArg (va_up V 19) ((rt2 h).2)) rfl dX12_readCommand_208
      · have h := it_f h c19
        refine lv_aload_n hx hb dX12_readCommand_184 rfl (lv_at hl 3 rfl) ?_
        refine lv_iload_n hx hb dX12_readCommand_185 rfl (lv_at hl 0 rfl) ?_
        obtain ⟨x26, r28, e25, h⟩ := bd2_e h
        have M := um_in2 3 M
        refine u_cSi X M hl.1 (kX12_copyOn (uArD3 hD) e25) cw_X12_137 ⟨by decide, by decide⟩ rfl rfl (Nat.le_of_ble_eq_true rfl) ⟨Nat.zero_le _, Nat.zero_le _⟩ dX12_readCommand_186 (fun H locs M n30 => ?_)
        obtain ⟨S27, e29, h⟩ := lt_e h
        rw [← e29] at M
        refine lv_if_le (tgt := 196) hx hb dX12_readCommand_189 (by decide) (fun c31 => ?_) (fun c31 => ?_)
        · have h := it_t h c31
          refine lv_iconst (v := 0) hx hb dX12_readCommand_196 (by decide) ?_
          obtain ⟨x33, S34, e32, h⟩ := bd2_e h
          refine u_cVi X M hl.1 (kX12_done hD e32) cw_X12_130 ⟨by decide, by decide⟩ (rc_X12 X M hD) rfl rfl (Nat.le_of_ble_eq_true rfl) ⟨Nat.zero_le _, Nat.zero_le _⟩ dX12_readCommand_197 (fun H locs M n35 => ?_)
          refine lv_if_eq (tgt := 207) hx hb dX12_readCommand_200 (by decide) (fun c36 => ?_) (fun c36 => ?_)
          · have h := it_t h c36
            refine lv_iconst (v := 0) hx hb dX12_readCommand_207 (by decide) ?_
            exact u_iret X hret M (rt2 h).1 (congrArg (va_up V 19) ((rt2 h).2)) rfl dX12_readCommand_208
          · have h := it_f h c36
            refine lv_iconst (v := 1) hx hb dX12_readCommand_203 (by decide) ?_
            refine lv_goto (tgt := 208) hx hb dX12_readCommand_204 (by decide) ?_
            exact u_iret X hret M (rt2 h).1 (congrArg (va_up V 19) ((rt2 h).2)) rfl dX12_readCommand_208
        · have h := it_f h c31
          refine lv_iconst (v := 1) hx hb dX12_readCommand_192 (by decide) ?_
          refine lv_goto (tgt := 197) hx hb dX12_readCommand_193 (by decide) ?_
          obtain ⟨x38, S39, e37, h⟩ := bd2_e h
          refine u_cVi X M hl.1 (kX12_done hD e37) cw_X12_130 ⟨by decide, by decide⟩ (rc_X12 X M hD) rfl rfl (Nat.le_of_ble_eq_true rfl) ⟨Nat.zero_le _, Nat.zero_le _⟩ dX12_readCommand_197 (fun H locs M n40 => ?_)
          refine lv_if_eq (tgt := 207) hx hb dX12_readCommand_200 (by decide) (fun c41 => ?_) (fun c41 => ?_)
          · have h := it_t h c41
            refine lv_iconst (v := 0) hx hb dX12_readCommand_207 (by decide) ?_
            exact u_iret X hret M (rt2 h).1 (congrArg (va_up V 19) ((rt2 h).2)) rfl dX12_readCommand_208
          · have h := it_f h c41
            refine lv_iconst (v := 1) hx hb dX12_readCommand_203 (by decide) ?_
            refine lv_goto (tgt := 208) hx hb dX12_readCommand_204 (by decide) ?_
            exact u_iret X hret M (rt2 h).1 (congrArg (va_up V 19) ((rt2 h).2)) rfl dX12_readCommand_208
  · have h := it_f h c10
    by_cases c42 : x4 = 100
    · have h := it_t h c42
      refine lv_tableIn (off := 317) (tgt := 338) hx hb dX12_readCommand_21 (by rw [c42]; decide) (by rw [c42]; decide) (by rw [c42]; rfl) (by decide) ?_
      refine lv_aload_n hx hb dX12_readCommand_338 rfl (lv_at hl 1 rfl) ?_
      refine lv_iconst (v := 0) hx hb dX12_readCommand_339 (by decide) ?_
      refine lv_iconst (v := 1) hx hb dX12_readCommand_340 (by decide) ?_
      refine lv_iconst (v := 0) hx hb dX12_readCommand_341 (by decide) ?_
      refine lv_iconst (v := 3) hx hb dX12_readCommand_342 (by decide) ?_
      obtain ⟨x44, S45, e43, h⟩ := bd2_e h
      refine u_cVi X M hl.1 (kX12_figures hD e43) cw_X12_119 ⟨by decide, by decide⟩ (rc_X12 X M hD) rfl rfl (Nat.le_of_ble_eq_true rfl) ⟨Nat.zero_le _, Nat.zero_le _⟩ dX12_readCommand_343 (fun H locs M n46 => ?_)
      refine lv_istore_n (lv' := [(3, .int x44), (2, .int x4), (0, .ref (ga G 19 0)), (1, .ref (ga G 19 3))]) hx hb dX12_readCommand_346 rfl hl (by decide) rfl (fun ls hl => ?_)
      refine lv_iload_n hx hb dX12_readCommand_347 rfl (lv_at hl 0 rfl) ?_
      refine lv_iconst (v := (-1)) hx hb dX12_readCommand_348 (by decide) ?_
      refine lv_icmp_eq (tgt := 379) hx hb dX12_readCommand_349 (by decide) (fun c47 => ?_) (fun c47 => ?_)
      · have h := it_t h c47
        refine lv_iconst (v := 0) hx hb dX12_readCommand_379 (by decide) ?_
        exact u_iret X hret M (rt2 h).1 (congrArg (va_up V 19) ((rt2 h).2)) rfl dX12_readCommand_380
      · have h := it_f h c47
        refine lv_aload_n hx hb dX12_readCommand_352 rfl (lv_at hl 2 rfl) ?_
        refine lv_aload_n hx hb dX12_readCommand_353 rfl (lv_at hl 3 rfl) ?_
        refine lv_iload_n hx hb dX12_readCommand_354 rfl (lv_at hl 0 rfl) ?_
        refine lv_iload_n hx hb dX12_readCommand_355 rfl (lv_at hl 1 rfl) ?_
        refine lv_bipush (v := 117) hx hb dX12_readCommand_356 (by decide) ?_
        refine lv_icmp_ne (tgt := 365) hx hb dX12_readCommand_358 (by decide) (fun c48 => ?_) (fun c48 => ?_)
        · have h := it_f h c48
          refine lv_iconst (v := 0) hx hb dX12_readCommand_365 (by decide) ?_
          obtain ⟨x50, r52, e49, h⟩ := bd2_e h
          have M := um_in2 3 M
          refine u_cSi X M hl.1 (kX12_doesLine (uArD3 hD) e49) cw_X12_149 ⟨by decide, by decide⟩ rfl rfl (Nat.le_of_ble_eq_true rfl) ⟨Nat.zero_le _, Nat.zero_le _⟩ dX12_readCommand_366 (fun H locs M n54 => ?_)
          obtain ⟨S51, e53, h⟩ := lt_e h
          rw [← e53] at M
          obtain ⟨x56, S57, e55, h⟩ := bd2_e h
          refine u_cVi X M hl.1 (kX12_done hD e55) cw_X12_130 ⟨by decide, by decide⟩ (rc_X12 X M hD) rfl rfl (Nat.le_of_ble_eq_true rfl) ⟨Nat.zero_le _, Nat.zero_le _⟩ dX12_readCommand_369 (fun H locs M n58 => ?_)
          refine lv_if_eq (tgt := 379) hx hb dX12_readCommand_372 (by decide) (fun c59 => ?_) (fun c59 => ?_)
          · have h := it_t h c59
            refine lv_iconst (v := 0) hx hb dX12_readCommand_379 (by decide) ?_
            exact u_iret X hret M (rt2 h).1 (congrArg (va_up V 19) ((rt2 h).2)) rfl dX12_readCommand_380
          · have h := it_f h c59
            refine lv_iconst (v := 1) hx hb dX12_readCommand_375 (by decide) ?_
            refine lv_goto (tgt := 380) hx hb dX12_readCommand_376 (by decide) ?_
            exact u_iret X hret M (rt2 h).1 (congrArg (va_up V 19) ((rt2 h).2)) rfl dX12_readCommand_380
        · have h := it_t h c48
          refine lv_iconst (v := 1) hx hb dX12_readCommand_361 (by decide) ?_
          refine lv_goto (tgt := 366) hx hb dX12_readCommand_362 (by decide) ?_
          obtain ⟨x61, r63, e60, h⟩ := bd2_e h
          have M := um_in2 3 M
          refine u_cSi X M hl.1 (kX12_doesLine (uArD3 hD) e60) cw_X12_149 ⟨by decide, by decide⟩ rfl rfl (Nat.le_of_ble_eq_true rfl) ⟨Nat.zero_le _, Nat.zero_le _⟩ dX12_readCommand_366 (fun H locs M n65 => ?_)
          obtain ⟨S62, e64, h⟩ := lt_e h
          rw [← e64] at M
          obtain ⟨x67, S68, e66, h⟩ := bd2_e h
          refine u_cVi X M hl.1 (kX12_done hD e66) cw_X12_130 ⟨by decide, by decide⟩ (rc_X12 X M hD) rfl rfl (Nat.le_of_ble_eq_true rfl) ⟨Nat.zero_le _, Nat.zero_le _⟩ dX12_readCommand_369 (fun H locs M n69 => ?_)
          refine lv_if_eq (tgt := 379) hx hb dX12_readCommand_372 (by decide) (fun c70 => ?_) (fun c70 => ?_)
          · have h := it_t h c70
            refine lv_iconst (v := 0) hx hb dX12_readCommand_379 (by decide) ?_
            exact u_iret X hret M (rt2 h).1 (congrArg (va_up V 19) ((rt2 h).2)) rfl dX12_readCommand_380
          · have h := it_f h c70
            refine lv_iconst (v := 1) hx hb dX12_readCommand_375 (by decide) ?_
            refine lv_goto (tgt := 380) hx hb dX12_readCommand_376 (by decide) ?_
            exact u_iret X hret M (rt2 h).1 (congrArg (va_up V 19) ((rt2 h).2)) rfl dX12_readCommand_380
    · have h := it_f h c42
      by_cases c71 : x4 = 101
      · have h := it_t h c71
        refine lv_tableIn (off := 441) (tgt := 462) hx hb dX12_readCommand_21 (by rw [c71]; decide) (by rw [c71]; decide) (by rw [c71]; rfl) (by decide) ?_
        refine lv_aload_n hx hb dX12_readCommand_462 rfl (lv_at hl 1 rfl) ?_
        refine lv_dup hx hb dX12_readCommand_463 rfl ?_
        obtain ⟨x72, e73, h⟩ := lt_e h
        refine gf_X12_105 X M hD (va_up_s V 19 _) e73 dX12_readCommand_464 ?_
        refine lv_iconst (v := 1) hx hb dX12_readCommand_467 (by decide) ?_
        refine lv_isub hx hb dX12_readCommand_468 ?_
        obtain ⟨S74, e75, h⟩ := lt_e h
        refine pf_X12_105 X M hD e75 dX12_readCommand_469 (fun H locs M => ?_)
        refine lv_iconst (v := 0) hx hb dX12_readCommand_472 (by decide) ?_
        exact u_iret X hret M (rt2 h).1 (congrArg (va_up V 19) ((rt2 h).2)) rfl dX12_readCommand_473
      · have h := it_f h c71
        by_cases c76 : x4 = 102
        · have h := it_t h c76
          refine lv_tableIn (off := 441) (tgt := 462) hx hb dX12_readCommand_21 (by rw [c76]; decide) (by rw [c76]; decide) (by rw [c76]; rfl) (by decide) ?_
          refine lv_aload_n hx hb dX12_readCommand_462 rfl (lv_at hl 1 rfl) ?_
          refine lv_dup hx hb dX12_readCommand_463 rfl ?_
          obtain ⟨x77, e78, h⟩ := lt_e h
          refine gf_X12_105 X M hD (va_up_s V 19 _) e78 dX12_readCommand_464 ?_
          refine lv_iconst (v := 1) hx hb dX12_readCommand_467 (by decide) ?_
          refine lv_isub hx hb dX12_readCommand_468 ?_
          obtain ⟨S79, e80, h⟩ := lt_e h
          refine pf_X12_105 X M hD e80 dX12_readCommand_469 (fun H locs M => ?_)
          refine lv_iconst (v := 0) hx hb dX12_readCommand_472 (by decide) ?_
          exact u_iret X hret M (rt2 h).1 (congrArg (va_up V 19) ((rt2 h).2)) rfl dX12_readCommand_473
        · have h := it_f h c76
          by_cases c81 : x4 = 103
          · have h := it_t h c81
            refine lv_tableIn (off := 441) (tgt := 462) hx hb dX12_readCommand_21 (by rw [c81]; decide) (by rw [c81]; decide) (by rw [c81]; rfl) (by decide) ?_
            refine lv_aload_n hx hb dX12_readCommand_462 rfl (lv_at hl 1 rfl) ?_
            refine lv_dup hx hb dX12_readCommand_463 rfl ?_
            obtain ⟨x82, e83, h⟩ := lt_e h
            refine gf_X12_105 X M hD (va_up_s V 19 _) e83 dX12_readCommand_464 ?_
            refine lv_iconst (v := 1) hx hb dX12_readCommand_467 (by decide) ?_
            refine lv_isub hx hb dX12_readCommand_468 ?_
            obtain ⟨S84, e85, h⟩ := lt_e h
            refine pf_X12_105 X M hD e85 dX12_readCommand_469 (fun H locs M => ?_)
            refine lv_iconst (v := 0) hx hb dX12_readCommand_472 (by decide) ?_
            exact u_iret X hret M (rt2 h).1 (congrArg (va_up V 19) ((rt2 h).2)) rfl dX12_readCommand_473
          · have h := it_f h c81
            by_cases c86 : x4 = 104
            · have h := it_t h c86
              refine lv_tableIn (off := 441) (tgt := 462) hx hb dX12_readCommand_21 (by rw [c86]; decide) (by rw [c86]; decide) (by rw [c86]; rfl) (by decide) ?_
              refine lv_aload_n hx hb dX12_readCommand_462 rfl (lv_at hl 1 rfl) ?_
              refine lv_dup hx hb dX12_readCommand_463 rfl ?_
              obtain ⟨x87, e88, h⟩ := lt_e h
              refine gf_X12_105 X M hD (va_up_s V 19 _) e88 dX12_readCommand_464 ?_
              refine lv_iconst (v := 1) hx hb dX12_readCommand_467 (by decide) ?_
              refine lv_isub hx hb dX12_readCommand_468 ?_
              obtain ⟨S89, e90, h⟩ := lt_e h
              refine pf_X12_105 X M hD e90 dX12_readCommand_469 (fun H locs M => ?_)
              refine lv_iconst (v := 0) hx hb dX12_readCommand_472 (by decide) ?_
              exact u_iret X hret M (rt2 h).1 (congrArg (va_up V 19) ((rt2 h).2)) rfl dX12_readCommand_473
            · have h := it_f h c86
              by_cases c91 : x4 = 105
              · have h := it_t h c91
                refine lv_tableIn (off := 91) (tgt := 112) hx hb dX12_readCommand_21 (by rw [c91]; decide) (by rw [c91]; decide) (by rw [c91]; rfl) (by decide) ?_
                refine lv_aload_n hx hb dX12_readCommand_112 rfl (lv_at hl 1 rfl) ?_
                refine lv_iconst (v := 0) hx hb dX12_readCommand_113 (by decide) ?_
                refine lv_iconst (v := 2) hx hb dX12_readCommand_114 (by decide) ?_
                refine lv_iconst (v := 0) hx hb dX12_readCommand_115 (by decide) ?_
                refine lv_bipush (v := 99) hx hb dX12_readCommand_116 (by decide) ?_
                obtain ⟨x93, S94, e92, h⟩ := bd2_e h
                refine u_cVi X M hl.1 (kX12_figures hD e92) cw_X12_119 ⟨by decide, by decide⟩ (rc_X12 X M hD) rfl rfl (Nat.le_of_ble_eq_true rfl) ⟨Nat.zero_le _, Nat.zero_le _⟩ dX12_readCommand_118 (fun H locs M n95 => ?_)
                refine lv_istore_n (lv' := [(3, .int x93), (2, .int x4), (0, .ref (ga G 19 0)), (1, .ref (ga G 19 3))]) hx hb dX12_readCommand_121 rfl hl (by decide) rfl (fun ls hl => ?_)
                refine lv_iload_n hx hb dX12_readCommand_122 rfl (lv_at hl 0 rfl) ?_
                refine lv_iconst (v := (-1)) hx hb dX12_readCommand_123 (by decide) ?_
                refine lv_icmp_eq (tgt := 158) hx hb dX12_readCommand_124 (by decide) (fun c96 => ?_) (fun c96 => ?_)
                · have h := it_t h c96
                  refine lv_iconst (v := 0) hx hb dX12_readCommand_158 (by decide) ?_
                  exact u_iret X hret M (rt2 h).1 (congrArg (va_up V 19) ((rt2 h).2)) rfl dX12_readCommand_159
                · have h := it_f h c96
                  refine lv_aload_n hx hb dX12_readCommand_127 rfl (lv_at hl 2 rfl) ?_
                  refine lv_aload_n hx hb dX12_readCommand_128 rfl (lv_at hl 3 rfl) ?_
                  obtain ⟨x98, e97, h⟩ := bd_e h
                  refine u_cSi X M hl.1 (kX12_canIssue (uArD3 hD) (congrFun (va_up_s V 19 _) 3) e97) cw_X12_123 ⟨by decide, by decide⟩ rfl rfl (Nat.le_of_ble_eq_true rfl) ⟨Nat.zero_le _, Nat.zero_le _⟩ dX12_readCommand_129 (fun H locs M n99 => ?_)
                  refine lv_if_eq (tgt := 147) hx hb dX12_readCommand_132 (by decide) (fun c100 => ?_) (fun c100 => ?_)
                  · have h := it_t h c100
                    refine lv_iconst (v := 0) hx hb dX12_readCommand_147 (by decide) ?_
                    obtain ⟨x102, S103, e101, h⟩ := bd2_e h
                    refine u_cVi X M hl.1 (kX12_done hD e101) cw_X12_130 ⟨by decide, by decide⟩ (rc_X12 X M hD) rfl rfl (Nat.le_of_ble_eq_true rfl) ⟨Nat.zero_le _, Nat.zero_le _⟩ dX12_readCommand_148 (fun H locs M n104 => ?_)
                    refine lv_if_eq (tgt := 158) hx hb dX12_readCommand_151 (by decide) (fun c105 => ?_) (fun c105 => ?_)
                    · have h := it_t h c105
                      refine lv_iconst (v := 0) hx hb dX12_readCommand_158 (by decide) ?_
                      exact u_iret X hret M (rt2 h).1 (congrArg (va_up V 19) ((rt2 h).2)) rfl dX12_readCommand_159
                    · have h := it_f h c105
                      refine lv_iconst (v := 1) hx hb dX12_readCommand_154 (by decide) ?_
                      refine lv_goto (tgt := 159) hx hb dX12_readCommand_155 (by decide) ?_
                      exact u_iret X hret M (rt2 h).1 (congrArg (va_up V 19) ((rt2 h).2)) rfl dX12_readCommand_159
                  · have h := it_f h c100
                    refine lv_aload_n hx hb dX12_readCommand_135 rfl (lv_at hl 3 rfl) ?_
                    refine lv_iload_n hx hb dX12_readCommand_136 rfl (lv_at hl 0 rfl) ?_
                    obtain ⟨x107, r109, e106, h⟩ := bd2_e h
                    have M := um_in2 3 M
                    refine u_cSi X M hl.1 (kX12_issueOn (uArD3 hD) e106) cw_X12_127 ⟨by decide, by decide⟩ rfl rfl (Nat.le_of_ble_eq_true rfl) ⟨Nat.zero_le _, Nat.zero_le _⟩ dX12_readCommand_137 (fun H locs M n111 => ?_)
                    obtain ⟨S108, e110, h⟩ := lt_e h
                    rw [← e110] at M
                    refine lv_if_lt (tgt := 147) hx hb dX12_readCommand_140 (by decide) (fun c112 => ?_) (fun c112 => ?_)
                    · have h := it_t h c112
                      refine lv_iconst (v := 0) hx hb dX12_readCommand_147 (by decide) ?_
                      obtain ⟨x114, S115, e113, h⟩ := bd2_e h
                      refine u_cVi X M hl.1 (kX12_done hD e113) cw_X12_130 ⟨by decide, by decide⟩ (rc_X12 X M hD) rfl rfl (Nat.le_of_ble_eq_true rfl) ⟨Nat.zero_le _, Nat.zero_le _⟩ dX12_readCommand_148 (fun H locs M n116 => ?_)
                      refine lv_if_eq (tgt := 158) hx hb dX12_readCommand_151 (by decide) (fun c117 => ?_) (fun c117 => ?_)
                      · have h := it_t h c117
                        refine lv_iconst (v := 0) hx hb dX12_readCommand_158 (by decide) ?_
                        exact u_iret X hret M (rt2 h).1 (congrArg (va_up V 19) ((rt2 h).2)) rfl dX12_readCommand_159
                      · have h := it_f h c117
                        refine lv_iconst (v := 1) hx hb dX12_readCommand_154 (by decide) ?_
                        refine lv_goto (tgt := 159) hx hb dX12_readCommand_155 (by decide) ?_
                        exact u_iret X hret M (rt2 h).1 (congrArg (va_up V 19) ((rt2 h).2)) rfl dX12_readCommand_159
                    · have h := it_f h c112
                      refine lv_iconst (v := 1) hx hb dX12_readCommand_143 (by decide) ?_
                      refine lv_goto (tgt := 148) hx hb dX12_readCommand_144 (by decide) ?_
                      obtain ⟨x119, S120, e118, h⟩ := bd2_e h
                      refine u_cVi X M hl.1 (kX12_done hD e118) cw_X12_130 ⟨by decide, by decide⟩ (rc_X12 X M hD) rfl rfl (Nat.le_of_ble_eq_true rfl) ⟨Nat.zero_le _, Nat.zero_le _⟩ dX12_readCommand_148 (fun H locs M n121 => ?_)
                      refine lv_if_eq (tgt := 158) hx hb dX12_readCommand_151 (by decide) (fun c122 => ?_) (fun c122 => ?_)
                      · have h := it_t h c122
                        refine lv_iconst (v := 0) hx hb dX12_readCommand_158 (by decide) ?_
                        exact u_iret X hret M (rt2 h).1 (congrArg (va_up V 19) ((rt2 h).2)) rfl dX12_readCommand_159
                      · have h := it_f h c122
                        refine lv_iconst (v := 1) hx hb dX12_readCommand_154 (by decide) ?_
                        refine lv_goto (tgt := 159) hx hb dX12_readCommand_155 (by decide) ?_
                        exact u_iret X hret M (rt2 h).1 (congrArg (va_up V 19) ((rt2 h).2)) rfl dX12_readCommand_159
              · have h := it_f h c91
                by_cases c123 : x4 = 106
                · have h := it_t h c123
                  refine lv_tableIn (off := 441) (tgt := 462) hx hb dX12_readCommand_21 (by rw [c123]; decide) (by rw [c123]; decide) (by rw [c123]; rfl) (by decide) ?_
                  refine lv_aload_n hx hb dX12_readCommand_462 rfl (lv_at hl 1 rfl) ?_
                  refine lv_dup hx hb dX12_readCommand_463 rfl ?_
                  obtain ⟨x124, e125, h⟩ := lt_e h
                  refine gf_X12_105 X M hD (va_up_s V 19 _) e125 dX12_readCommand_464 ?_
                  refine lv_iconst (v := 1) hx hb dX12_readCommand_467 (by decide) ?_
                  refine lv_isub hx hb dX12_readCommand_468 ?_
                  obtain ⟨S126, e127, h⟩ := lt_e h
                  refine pf_X12_105 X M hD e127 dX12_readCommand_469 (fun H locs M => ?_)
                  refine lv_iconst (v := 0) hx hb dX12_readCommand_472 (by decide) ?_
                  exact u_iret X hret M (rt2 h).1 (congrArg (va_up V 19) ((rt2 h).2)) rfl dX12_readCommand_473
                · have h := it_f h c123
                  by_cases c128 : x4 = 107
                  · have h := it_t h c128
                    refine lv_tableIn (off := 441) (tgt := 462) hx hb dX12_readCommand_21 (by rw [c128]; decide) (by rw [c128]; decide) (by rw [c128]; rfl) (by decide) ?_
                    refine lv_aload_n hx hb dX12_readCommand_462 rfl (lv_at hl 1 rfl) ?_
                    refine lv_dup hx hb dX12_readCommand_463 rfl ?_
                    obtain ⟨x129, e130, h⟩ := lt_e h
                    refine gf_X12_105 X M hD (va_up_s V 19 _) e130 dX12_readCommand_464 ?_
                    refine lv_iconst (v := 1) hx hb dX12_readCommand_467 (by decide) ?_
                    refine lv_isub hx hb dX12_readCommand_468 ?_
                    obtain ⟨S131, e132, h⟩ := lt_e h
                    refine pf_X12_105 X M hD e132 dX12_readCommand_469 (fun H locs M => ?_)
                    refine lv_iconst (v := 0) hx hb dX12_readCommand_472 (by decide) ?_
                    exact u_iret X hret M (rt2 h).1 (congrArg (va_up V 19) ((rt2 h).2)) rfl dX12_readCommand_473
                  · have h := it_f h c128
                    by_cases c133 : x4 = 108
                    · have h := it_t h c133
                      refine lv_tableIn (off := 441) (tgt := 462) hx hb dX12_readCommand_21 (by rw [c133]; decide) (by rw [c133]; decide) (by rw [c133]; rfl) (by decide) ?_
                      refine lv_aload_n hx hb dX12_readCommand_462 rfl (lv_at hl 1 rfl) ?_
                      refine lv_dup hx hb dX12_readCommand_463 rfl ?_
                      obtain ⟨x134, e135, h⟩ := lt_e h
                      refine gf_X12_105 X M hD (va_up_s V 19 _) e135 dX12_readCommand_464 ?_
                      refine lv_iconst (v := 1) hx hb dX12_readCommand_467 (by decide) ?_
                      refine lv_isub hx hb dX12_readCommand_468 ?_
                      obtain ⟨S136, e137, h⟩ := lt_e h
                      refine pf_X12_105 X M hD e137 dX12_readCommand_469 (fun H locs M => ?_)
                      refine lv_iconst (v := 0) hx hb dX12_readCommand_472 (by decide) ?_
                      exact u_iret X hret M (rt2 h).1 (congrArg (va_up V 19) ((rt2 h).2)) rfl dX12_readCommand_473
                    · have h := it_f h c133
                      by_cases c138 : x4 = 109
                      · have h := it_t h c138
                        refine lv_tableIn (off := 400) (tgt := 421) hx hb dX12_readCommand_21 (by rw [c138]; decide) (by rw [c138]; decide) (by rw [c138]; rfl) (by decide) ?_
                        refine lv_aload_n hx hb dX12_readCommand_421 rfl (lv_at hl 1 rfl) ?_
                        refine lv_iconst (v := 0) hx hb dX12_readCommand_422 (by decide) ?_
                        refine lv_iconst (v := 2) hx hb dX12_readCommand_423 (by decide) ?_
                        refine lv_iconst (v := 1) hx hb dX12_readCommand_424 (by decide) ?_
                        refine lv_bipush (v := 60) hx hb dX12_readCommand_425 (by decide) ?_
                        obtain ⟨x140, S141, e139, h⟩ := bd2_e h
                        refine u_cVi X M hl.1 (kX12_figures hD e139) cw_X12_119 ⟨by decide, by decide⟩ (rc_X12 X M hD) rfl rfl (Nat.le_of_ble_eq_true rfl) ⟨Nat.zero_le _, Nat.zero_le _⟩ dX12_readCommand_427 (fun H locs M n142 => ?_)
                        refine lv_istore_n (lv' := [(3, .int x140), (2, .int x4), (0, .ref (ga G 19 0)), (1, .ref (ga G 19 3))]) hx hb dX12_readCommand_430 rfl hl (by decide) rfl (fun ls hl => ?_)
                        refine lv_iload_n hx hb dX12_readCommand_431 rfl (lv_at hl 0 rfl) ?_
                        refine lv_iconst (v := (-1)) hx hb dX12_readCommand_432 (by decide) ?_
                        refine lv_icmp_eq (tgt := 460) hx hb dX12_readCommand_433 (by decide) (fun c143 => ?_) (fun c143 => ?_)
                        · have h := it_t h c143
                          refine lv_iconst (v := 0) hx hb dX12_readCommand_460 (by decide) ?_
                          exact u_iret X hret M (rt2 h).1 (congrArg (va_up V 19) ((rt2 h).2)) rfl dX12_readCommand_461
                        · have h := it_f h c143
                          refine lv_aload_n hx hb dX12_readCommand_436 rfl (lv_at hl 2 rfl) ?_
                          refine lv_aload_n hx hb dX12_readCommand_437 rfl (lv_at hl 3 rfl) ?_
                          refine lv_iload_n hx hb dX12_readCommand_438 rfl (lv_at hl 0 rfl) ?_
                          obtain ⟨x145, r147, e144, h⟩ := bd2_e h
                          have M := um_in2 3 M
                          refine u_cSi X M hl.1 (kX12_runOn (uArD3 hD) e144) cw_X12_156 ⟨by decide, by decide⟩ rfl rfl (Nat.le_of_ble_eq_true rfl) ⟨Nat.zero_le _, Nat.zero_le _⟩ dX12_readCommand_439 (fun H locs M n149 => ?_)
                          obtain ⟨S146, e148, h⟩ := lt_e h
                          rw [← e148] at M
                          refine lv_if_le (tgt := 449) hx hb dX12_readCommand_442 (by decide) (fun c150 => ?_) (fun c150 => ?_)
                          · have h := it_t h c150
                            refine lv_iconst (v := 0) hx hb dX12_readCommand_449 (by decide) ?_
                            obtain ⟨x152, S153, e151, h⟩ := bd2_e h
                            refine u_cVi X M hl.1 (kX12_done hD e151) cw_X12_130 ⟨by decide, by decide⟩ (rc_X12 X M hD) rfl rfl (Nat.le_of_ble_eq_true rfl) ⟨Nat.zero_le _, Nat.zero_le _⟩ dX12_readCommand_450 (fun H locs M n154 => ?_)
                            refine lv_if_eq (tgt := 460) hx hb dX12_readCommand_453 (by decide) (fun c155 => ?_) (fun c155 => ?_)
                            · have h := it_t h c155
                              refine lv_iconst (v := 0) hx hb dX12_readCommand_460 (by decide) ?_
                              exact u_iret X hret M (rt2 h).1 (congrArg (va_up V 19) ((rt2 h).2)) rfl dX12_readCommand_461
                            · have h := it_f h c155
                              refine lv_iconst (v := 1) hx hb dX12_readCommand_456 (by decide) ?_
                              refine lv_goto (tgt := 461) hx hb dX12_readCommand_457 (by decide) ?_
                              exact u_iret X hret M (rt2 h).1 (congrArg (va_up V 19) ((rt2 h).2)) rfl dX12_readCommand_461
                          · have h := it_f h c150
                            refine lv_iconst (v := 1) hx hb dX12_readCommand_445 (by decide) ?_
                            refine lv_goto (tgt := 450) hx hb dX12_readCommand_446 (by decide) ?_
                            obtain ⟨x157, S158, e156, h⟩ := bd2_e h
                            refine u_cVi X M hl.1 (kX12_done hD e156) cw_X12_130 ⟨by decide, by decide⟩ (rc_X12 X M hD) rfl rfl (Nat.le_of_ble_eq_true rfl) ⟨Nat.zero_le _, Nat.zero_le _⟩ dX12_readCommand_450 (fun H locs M n159 => ?_)
                            refine lv_if_eq (tgt := 460) hx hb dX12_readCommand_453 (by decide) (fun c160 => ?_) (fun c160 => ?_)
                            · have h := it_t h c160
                              refine lv_iconst (v := 0) hx hb dX12_readCommand_460 (by decide) ?_
                              exact u_iret X hret M (rt2 h).1 (congrArg (va_up V 19) ((rt2 h).2)) rfl dX12_readCommand_461
                            · have h := it_f h c160
                              refine lv_iconst (v := 1) hx hb dX12_readCommand_456 (by decide) ?_
                              refine lv_goto (tgt := 461) hx hb dX12_readCommand_457 (by decide) ?_
                              exact u_iret X hret M (rt2 h).1 (congrArg (va_up V 19) ((rt2 h).2)) rfl dX12_readCommand_461
                      · have h := it_f h c138
                        by_cases c161 : x4 = 110
                        · have h := it_t h c161
                          refine lv_tableIn (off := 441) (tgt := 462) hx hb dX12_readCommand_21 (by rw [c161]; decide) (by rw [c161]; decide) (by rw [c161]; rfl) (by decide) ?_
                          refine lv_aload_n hx hb dX12_readCommand_462 rfl (lv_at hl 1 rfl) ?_
                          refine lv_dup hx hb dX12_readCommand_463 rfl ?_
                          obtain ⟨x162, e163, h⟩ := lt_e h
                          refine gf_X12_105 X M hD (va_up_s V 19 _) e163 dX12_readCommand_464 ?_
                          refine lv_iconst (v := 1) hx hb dX12_readCommand_467 (by decide) ?_
                          refine lv_isub hx hb dX12_readCommand_468 ?_
                          obtain ⟨S164, e165, h⟩ := lt_e h
                          refine pf_X12_105 X M hD e165 dX12_readCommand_469 (fun H locs M => ?_)
                          refine lv_iconst (v := 0) hx hb dX12_readCommand_472 (by decide) ?_
                          exact u_iret X hret M (rt2 h).1 (congrArg (va_up V 19) ((rt2 h).2)) rfl dX12_readCommand_473
                        · have h := it_f h c161
                          by_cases c166 : x4 = 111
                          · have h := it_t h c166
                            refine lv_tableIn (off := 360) (tgt := 381) hx hb dX12_readCommand_21 (by rw [c166]; decide) (by rw [c166]; decide) (by rw [c166]; rfl) (by decide) ?_
                            refine lv_aload_n hx hb dX12_readCommand_381 rfl (lv_at hl 1 rfl) ?_
                            refine lv_iconst (v := 0) hx hb dX12_readCommand_382 (by decide) ?_
                            refine lv_iconst (v := 1) hx hb dX12_readCommand_383 (by decide) ?_
                            refine lv_iconst (v := 0) hx hb dX12_readCommand_384 (by decide) ?_
                            refine lv_iconst (v := 3) hx hb dX12_readCommand_385 (by decide) ?_
                            obtain ⟨x168, S169, e167, h⟩ := bd2_e h
                            refine u_cVi X M hl.1 (kX12_figures hD e167) cw_X12_119 ⟨by decide, by decide⟩ (rc_X12 X M hD) rfl rfl (Nat.le_of_ble_eq_true rfl) ⟨Nat.zero_le _, Nat.zero_le _⟩ dX12_readCommand_386 (fun H locs M n170 => ?_)
                            refine lv_istore_n (lv' := [(3, .int x168), (2, .int x4), (0, .ref (ga G 19 0)), (1, .ref (ga G 19 3))]) hx hb dX12_readCommand_389 rfl hl (by decide) rfl (fun ls hl => ?_)
                            refine lv_iload_n hx hb dX12_readCommand_390 rfl (lv_at hl 0 rfl) ?_
                            refine lv_iconst (v := (-1)) hx hb dX12_readCommand_391 (by decide) ?_
                            refine lv_icmp_eq (tgt := 419) hx hb dX12_readCommand_392 (by decide) (fun c171 => ?_) (fun c171 => ?_)
                            · have h := it_t h c171
                              refine lv_iconst (v := 0) hx hb dX12_readCommand_419 (by decide) ?_
                              exact u_iret X hret M (rt2 h).1 (congrArg (va_up V 19) ((rt2 h).2)) rfl dX12_readCommand_420
                            · have h := it_f h c171
                              refine lv_aload_n hx hb dX12_readCommand_395 rfl (lv_at hl 2 rfl) ?_
                              refine lv_aload_n hx hb dX12_readCommand_396 rfl (lv_at hl 3 rfl) ?_
                              refine lv_iload_n hx hb dX12_readCommand_397 rfl (lv_at hl 0 rfl) ?_
                              obtain ⟨x173, r175, e172, h⟩ := bd2_e h
                              have M := um_in2 3 M
                              refine u_cSi X M hl.1 (kX12_openOn (uArD3 hD) e172) cw_X12_153 ⟨by decide, by decide⟩ rfl rfl (Nat.le_of_ble_eq_true rfl) ⟨Nat.zero_le _, Nat.zero_le _⟩ dX12_readCommand_398 (fun H locs M n177 => ?_)
                              obtain ⟨S174, e176, h⟩ := lt_e h
                              rw [← e176] at M
                              refine lv_if_lt (tgt := 408) hx hb dX12_readCommand_401 (by decide) (fun c178 => ?_) (fun c178 => ?_)
                              · have h := it_t h c178
                                refine lv_iconst (v := 0) hx hb dX12_readCommand_408 (by decide) ?_
                                obtain ⟨x180, S181, e179, h⟩ := bd2_e h
                                refine u_cVi X M hl.1 (kX12_done hD e179) cw_X12_130 ⟨by decide, by decide⟩ (rc_X12 X M hD) rfl rfl (Nat.le_of_ble_eq_true rfl) ⟨Nat.zero_le _, Nat.zero_le _⟩ dX12_readCommand_409 (fun H locs M n182 => ?_)
                                refine lv_if_eq (tgt := 419) hx hb dX12_readCommand_412 (by decide) (fun c183 => ?_) (fun c183 => ?_)
                                · have h := it_t h c183
                                  refine lv_iconst (v := 0) hx hb dX12_readCommand_419 (by decide) ?_
                                  exact u_iret X hret M (rt2 h).1 (congrArg (va_up V 19) ((rt2 h).2)) rfl dX12_readCommand_420
                                · have h := it_f h c183
                                  refine lv_iconst (v := 1) hx hb dX12_readCommand_415 (by decide) ?_
                                  refine lv_goto (tgt := 420) hx hb dX12_readCommand_416 (by decide) ?_
                                  exact u_iret X hret M (rt2 h).1 (congrArg (va_up V 19) ((rt2 h).2)) rfl dX12_readCommand_420
                              · have h := it_f h c178
                                refine lv_iconst (v := 1) hx hb dX12_readCommand_404 (by decide) ?_
                                refine lv_goto (tgt := 409) hx hb dX12_readCommand_405 (by decide) ?_
                                obtain ⟨x185, S186, e184, h⟩ := bd2_e h
                                refine u_cVi X M hl.1 (kX12_done hD e184) cw_X12_130 ⟨by decide, by decide⟩ (rc_X12 X M hD) rfl rfl (Nat.le_of_ble_eq_true rfl) ⟨Nat.zero_le _, Nat.zero_le _⟩ dX12_readCommand_409 (fun H locs M n187 => ?_)
                                refine lv_if_eq (tgt := 419) hx hb dX12_readCommand_412 (by decide) (fun c188 => ?_) (fun c188 => ?_)
                                · have h := it_t h c188
                                  refine lv_iconst (v := 0) hx hb dX12_readCommand_419 (by decide) ?_
                                  exact u_iret X hret M (rt2 h).1 (congrArg (va_up V 19) ((rt2 h).2)) rfl dX12_readCommand_420
                                · have h := it_f h c188
                                  refine lv_iconst (v := 1) hx hb dX12_readCommand_415 (by decide) ?_
                                  refine lv_goto (tgt := 420) hx hb dX12_readCommand_416 (by decide) ?_
                                  exact u_iret X hret M (rt2 h).1 (congrArg (va_up V 19) ((rt2 h).2)) rfl dX12_readCommand_420
                          · have h := it_f h c166
                            by_cases c189 : x4 = 112
                            · have h := it_t h c189
                              refine lv_tableIn (off := 441) (tgt := 462) hx hb dX12_readCommand_21 (by rw [c189]; decide) (by rw [c189]; decide) (by rw [c189]; rfl) (by decide) ?_
                              refine lv_aload_n hx hb dX12_readCommand_462 rfl (lv_at hl 1 rfl) ?_
                              refine lv_dup hx hb dX12_readCommand_463 rfl ?_
                              obtain ⟨x190, e191, h⟩ := lt_e h
                              refine gf_X12_105 X M hD (va_up_s V 19 _) e191 dX12_readCommand_464 ?_
                              refine lv_iconst (v := 1) hx hb dX12_readCommand_467 (by decide) ?_
                              refine lv_isub hx hb dX12_readCommand_468 ?_
                              obtain ⟨S192, e193, h⟩ := lt_e h
                              refine pf_X12_105 X M hD e193 dX12_readCommand_469 (fun H locs M => ?_)
                              refine lv_iconst (v := 0) hx hb dX12_readCommand_472 (by decide) ?_
                              exact u_iret X hret M (rt2 h).1 (congrArg (va_up V 19) ((rt2 h).2)) rfl dX12_readCommand_473
                            · have h := it_f h c189
                              by_cases c194 : x4 = 113
                              · have h := it_t h c194
                                refine lv_tableIn (off := 441) (tgt := 462) hx hb dX12_readCommand_21 (by rw [c194]; decide) (by rw [c194]; decide) (by rw [c194]; rfl) (by decide) ?_
                                refine lv_aload_n hx hb dX12_readCommand_462 rfl (lv_at hl 1 rfl) ?_
                                refine lv_dup hx hb dX12_readCommand_463 rfl ?_
                                obtain ⟨x195, e196, h⟩ := lt_e h
                                refine gf_X12_105 X M hD (va_up_s V 19 _) e196 dX12_readCommand_464 ?_
                                refine lv_iconst (v := 1) hx hb dX12_readCommand_467 (by decide) ?_
                                refine lv_isub hx hb dX12_readCommand_468 ?_
                                obtain ⟨S197, e198, h⟩ := lt_e h
                                refine pf_X12_105 X M hD e198 dX12_readCommand_469 (fun H locs M => ?_)
                                refine lv_iconst (v := 0) hx hb dX12_readCommand_472 (by decide) ?_
                                exact u_iret X hret M (rt2 h).1 (congrArg (va_up V 19) ((rt2 h).2)) rfl dX12_readCommand_473
                              · have h := it_f h c194
                                by_cases c199 : x4 = 114
                                · have h := it_t h c199
                                  refine lv_tableIn (off := 188) (tgt := 209) hx hb dX12_readCommand_21 (by rw [c199]; decide) (by rw [c199]; decide) (by rw [c199]; rfl) (by decide) ?_
                                  refine lv_aload_n hx hb dX12_readCommand_209 rfl (lv_at hl 1 rfl) ?_
                                  refine lv_iconst (v := 0) hx hb dX12_readCommand_210 (by decide) ?_
                                  refine lv_iconst (v := 1) hx hb dX12_readCommand_211 (by decide) ?_
                                  refine lv_iconst (v := 0) hx hb dX12_readCommand_212 (by decide) ?_
                                  refine lv_bipush (v := 9) hx hb dX12_readCommand_213 (by decide) ?_
                                  obtain ⟨x201, S202, e200, h⟩ := bd2_e h
                                  refine u_cVi X M hl.1 (kX12_figures hD e200) cw_X12_119 ⟨by decide, by decide⟩ (rc_X12 X M hD) rfl rfl (Nat.le_of_ble_eq_true rfl) ⟨Nat.zero_le _, Nat.zero_le _⟩ dX12_readCommand_215 (fun H locs M n203 => ?_)
                                  refine lv_istore_n (lv' := [(3, .int x201), (2, .int x4), (0, .ref (ga G 19 0)), (1, .ref (ga G 19 3))]) hx hb dX12_readCommand_218 rfl hl (by decide) rfl (fun ls hl => ?_)
                                  refine lv_aload_n hx hb dX12_readCommand_219 rfl (lv_at hl 2 rfl) ?_
                                  refine lv_iload_n hx hb dX12_readCommand_220 rfl (lv_at hl 0 rfl) ?_
                                  refine lv_iconst (v := 1) hx hb dX12_readCommand_221 (by decide) ?_
                                  refine lv_iconst (v := 0) hx hb dX12_readCommand_222 (by decide) ?_
                                  refine lv_iconst (v := 3) hx hb dX12_readCommand_223 (by decide) ?_
                                  obtain ⟨x205, S206, e204, h⟩ := bd2_e h
                                  refine u_cVi X M hl.1 (kX12_figures hD e204) cw_X12_119 ⟨by decide, by decide⟩ (rc_X12 X M hD) rfl rfl (Nat.le_of_ble_eq_true rfl) ⟨Nat.zero_le _, Nat.zero_le _⟩ dX12_readCommand_224 (fun H locs M n207 => ?_)
                                  refine lv_istore (lv' := [(4, .int x205), (3, .int x201), (2, .int x4), (0, .ref (ga G 19 0)), (1, .ref (ga G 19 3))]) hx hb dX12_readCommand_227 hl (by decide) rfl (fun ls hl => ?_)
                                  refine lv_iload hx hb dX12_readCommand_229 (lv_at hl 0 rfl) ?_
                                  refine lv_iconst (v := (-1)) hx hb dX12_readCommand_231 (by decide) ?_
                                  refine lv_icmp_eq (tgt := 269) hx hb dX12_readCommand_232 (by decide) (fun c208 => ?_) (fun c208 => ?_)
                                  · have h := it_t h c208
                                    refine lv_iconst (v := 0) hx hb dX12_readCommand_269 (by decide) ?_
                                    exact u_iret X hret M (rt2 h).1 (congrArg (va_up V 19) ((rt2 h).2)) rfl dX12_readCommand_270
                                  · have h := it_f h c208
                                    refine lv_aload_n hx hb dX12_readCommand_235 rfl (lv_at hl 3 rfl) ?_
                                    refine lv_aload_n hx hb dX12_readCommand_236 rfl (lv_at hl 4 rfl) ?_
                                    refine lv_iload_n hx hb dX12_readCommand_237 rfl (lv_at hl 1 rfl) ?_
                                    obtain ⟨x210, e209, h⟩ := bd_e h
                                    refine u_cSi X M hl.1 (kX12_isCard (uArD3 hD) (congrFun (va_up_s V 19 _) 3) e209) cw_X12_87 ⟨by decide, by decide⟩ rfl rfl (Nat.le_of_ble_eq_true rfl) ⟨Nat.zero_le _, Nat.zero_le _⟩ dX12_readCommand_238 (fun H locs M n211 => ?_)
                                    refine lv_if_eq (tgt := 258) hx hb dX12_readCommand_241 (by decide) (fun c212 => ?_) (fun c212 => ?_)
                                    · have h := it_t h c212
                                      refine lv_iconst (v := 0) hx hb dX12_readCommand_258 (by decide) ?_
                                      obtain ⟨x214, S215, e213, h⟩ := bd2_e h
                                      refine u_cVi X M hl.1 (kX12_done hD e213) cw_X12_130 ⟨by decide, by decide⟩ (rc_X12 X M hD) rfl rfl (Nat.le_of_ble_eq_true rfl) ⟨Nat.zero_le _, Nat.zero_le _⟩ dX12_readCommand_259 (fun H locs M n216 => ?_)
                                      refine lv_if_eq (tgt := 269) hx hb dX12_readCommand_262 (by decide) (fun c217 => ?_) (fun c217 => ?_)
                                      · have h := it_t h c217
                                        refine lv_iconst (v := 0) hx hb dX12_readCommand_269 (by decide) ?_
                                        exact u_iret X hret M (rt2 h).1 (congrArg (va_up V 19) ((rt2 h).2)) rfl dX12_readCommand_270
                                      · have h := it_f h c217
                                        refine lv_iconst (v := 1) hx hb dX12_readCommand_265 (by decide) ?_
                                        refine lv_goto (tgt := 270) hx hb dX12_readCommand_266 (by decide) ?_
                                        exact u_iret X hret M (rt2 h).1 (congrArg (va_up V 19) ((rt2 h).2)) rfl dX12_readCommand_270
                                    · have h := it_f h c212
                                      refine lv_aload_n hx hb dX12_readCommand_244 rfl (lv_at hl 4 rfl) ?_
                                      refine lv_iload_n hx hb dX12_readCommand_245 rfl (lv_at hl 1 rfl) ?_
                                      refine lv_iload hx hb dX12_readCommand_246 (lv_at hl 0 rfl) ?_
                                      obtain ⟨x219, r221, e218, h⟩ := bd2_e h
                                      have M := um_in2 3 M
                                      refine u_cSi X M hl.1 (kX12_rideOn (uArD3 hD) e218) cw_X12_140 ⟨by decide, by decide⟩ rfl rfl (Nat.le_of_ble_eq_true rfl) ⟨Nat.zero_le _, Nat.zero_le _⟩ dX12_readCommand_248 (fun H locs M n223 => ?_)
                                      obtain ⟨S220, e222, h⟩ := lt_e h
                                      rw [← e222] at M
                                      refine lv_if_lt (tgt := 258) hx hb dX12_readCommand_251 (by decide) (fun c224 => ?_) (fun c224 => ?_)
                                      · have h := it_t h c224
                                        refine lv_iconst (v := 0) hx hb dX12_readCommand_258 (by decide) ?_
                                        obtain ⟨x226, S227, e225, h⟩ := bd2_e h
                                        refine u_cVi X M hl.1 (kX12_done hD e225) cw_X12_130 ⟨by decide, by decide⟩ (rc_X12 X M hD) rfl rfl (Nat.le_of_ble_eq_true rfl) ⟨Nat.zero_le _, Nat.zero_le _⟩ dX12_readCommand_259 (fun H locs M n228 => ?_)
                                        refine lv_if_eq (tgt := 269) hx hb dX12_readCommand_262 (by decide) (fun c229 => ?_) (fun c229 => ?_)
                                        · have h := it_t h c229
                                          refine lv_iconst (v := 0) hx hb dX12_readCommand_269 (by decide) ?_
                                          exact u_iret X hret M (rt2 h).1 (congrArg (va_up V 19) ((rt2 h).2)) rfl dX12_readCommand_270
                                        · have h := it_f h c229
                                          refine lv_iconst (v := 1) hx hb dX12_readCommand_265 (by decide) ?_
                                          refine lv_goto (tgt := 270) hx hb dX12_readCommand_266 (by decide) ?_
                                          exact u_iret X hret M (rt2 h).1 (congrArg (va_up V 19) ((rt2 h).2)) rfl dX12_readCommand_270
                                      · have h := it_f h c224
                                        refine lv_iconst (v := 1) hx hb dX12_readCommand_254 (by decide) ?_
                                        refine lv_goto (tgt := 259) hx hb dX12_readCommand_255 (by decide) ?_
                                        obtain ⟨x231, S232, e230, h⟩ := bd2_e h
                                        refine u_cVi X M hl.1 (kX12_done hD e230) cw_X12_130 ⟨by decide, by decide⟩ (rc_X12 X M hD) rfl rfl (Nat.le_of_ble_eq_true rfl) ⟨Nat.zero_le _, Nat.zero_le _⟩ dX12_readCommand_259 (fun H locs M n233 => ?_)
                                        refine lv_if_eq (tgt := 269) hx hb dX12_readCommand_262 (by decide) (fun c234 => ?_) (fun c234 => ?_)
                                        · have h := it_t h c234
                                          refine lv_iconst (v := 0) hx hb dX12_readCommand_269 (by decide) ?_
                                          exact u_iret X hret M (rt2 h).1 (congrArg (va_up V 19) ((rt2 h).2)) rfl dX12_readCommand_270
                                        · have h := it_f h c234
                                          refine lv_iconst (v := 1) hx hb dX12_readCommand_265 (by decide) ?_
                                          refine lv_goto (tgt := 270) hx hb dX12_readCommand_266 (by decide) ?_
                                          exact u_iret X hret M (rt2 h).1 (congrArg (va_up V 19) ((rt2 h).2)) rfl dX12_readCommand_270
                                · have h := it_f h c199
                                  by_cases c235 : x4 = 115
                                  · have h := it_t h c235
                                    refine lv_tableIn (off := 441) (tgt := 462) hx hb dX12_readCommand_21 (by rw [c235]; decide) (by rw [c235]; decide) (by rw [c235]; rfl) (by decide) ?_
                                    refine lv_aload_n hx hb dX12_readCommand_462 rfl (lv_at hl 1 rfl) ?_
                                    refine lv_dup hx hb dX12_readCommand_463 rfl ?_
                                    obtain ⟨x236, e237, h⟩ := lt_e h
                                    refine gf_X12_105 X M hD (va_up_s V 19 _) e237 dX12_readCommand_464 ?_
                                    refine lv_iconst (v := 1) hx hb dX12_readCommand_467 (by decide) ?_
                                    refine lv_isub hx hb dX12_readCommand_468 ?_
                                    obtain ⟨S238, e239, h⟩ := lt_e h
                                    refine pf_X12_105 X M hD e239 dX12_readCommand_469 (fun H locs M => ?_)
                                    refine lv_iconst (v := 0) hx hb dX12_readCommand_472 (by decide) ?_
                                    exact u_iret X hret M (rt2 h).1 (congrArg (va_up V 19) ((rt2 h).2)) rfl dX12_readCommand_473
                                  · have h := it_f h c235
                                    by_cases c240 : x4 = 116
                                    · have h := it_t h c240
                                      refine lv_tableIn (off := 250) (tgt := 271) hx hb dX12_readCommand_21 (by rw [c240]; decide) (by rw [c240]; decide) (by rw [c240]; rfl) (by decide) ?_
                                      refine lv_aload_n hx hb dX12_readCommand_271 rfl (lv_at hl 1 rfl) ?_
                                      refine lv_iconst (v := 0) hx hb dX12_readCommand_272 (by decide) ?_
                                      refine lv_iconst (v := 1) hx hb dX12_readCommand_273 (by decide) ?_
                                      refine lv_iconst (v := 0) hx hb dX12_readCommand_274 (by decide) ?_
                                      refine lv_bipush (v := 7) hx hb dX12_readCommand_275 (by decide) ?_
                                      obtain ⟨x242, S243, e241, h⟩ := bd2_e h
                                      refine u_cVi X M hl.1 (kX12_figures hD e241) cw_X12_119 ⟨by decide, by decide⟩ (rc_X12 X M hD) rfl rfl (Nat.le_of_ble_eq_true rfl) ⟨Nat.zero_le _, Nat.zero_le _⟩ dX12_readCommand_277 (fun H locs M n244 => ?_)
                                      refine lv_istore_n (lv' := [(3, .int x242), (2, .int x4), (0, .ref (ga G 19 0)), (1, .ref (ga G 19 3))]) hx hb dX12_readCommand_280 rfl hl (by decide) rfl (fun ls hl => ?_)
                                      refine lv_aload_n hx hb dX12_readCommand_281 rfl (lv_at hl 2 rfl) ?_
                                      refine lv_iload_n hx hb dX12_readCommand_282 rfl (lv_at hl 0 rfl) ?_
                                      refine lv_iconst (v := 2) hx hb dX12_readCommand_283 (by decide) ?_
                                      refine lv_iconst (v := 1) hx hb dX12_readCommand_284 (by decide) ?_
                                      refine lv_bipush (v := 99) hx hb dX12_readCommand_285 (by decide) ?_
                                      obtain ⟨x246, S247, e245, h⟩ := bd2_e h
                                      refine u_cVi X M hl.1 (kX12_figures hD e245) cw_X12_119 ⟨by decide, by decide⟩ (rc_X12 X M hD) rfl rfl (Nat.le_of_ble_eq_true rfl) ⟨Nat.zero_le _, Nat.zero_le _⟩ dX12_readCommand_287 (fun H locs M n248 => ?_)
                                      refine lv_istore (lv' := [(4, .int x246), (3, .int x242), (2, .int x4), (0, .ref (ga G 19 0)), (1, .ref (ga G 19 3))]) hx hb dX12_readCommand_290 hl (by decide) rfl (fun ls hl => ?_)
                                      refine lv_iload hx hb dX12_readCommand_292 (lv_at hl 0 rfl) ?_
                                      refine lv_iconst (v := (-1)) hx hb dX12_readCommand_294 (by decide) ?_
                                      refine lv_icmp_eq (tgt := 314) hx hb dX12_readCommand_295 (by decide) (fun c249 => ?_) (fun c249 => ?_)
                                      · have h := it_t h c249
                                        refine lv_iload hx hb dX12_readCommand_314 (lv_at hl 0 rfl) ?_
                                        refine lv_iconst (v := (-1)) hx hb dX12_readCommand_316 (by decide) ?_
                                        refine lv_icmp_eq (tgt := 336) hx hb dX12_readCommand_317 (by decide) (fun c250 => ?_) (fun c250 => ?_)
                                        · have h := it_t h c250
                                          refine lv_iconst (v := 0) hx hb dX12_readCommand_336 (by decide) ?_
                                          exact u_iret X hret M (rt2 h).1 (congrArg (va_up V 19) ((rt2 h).2)) rfl dX12_readCommand_337
                                        · have h := it_f h c250
                                          refine lv_aload_n hx hb dX12_readCommand_320 rfl (lv_at hl 3 rfl) ?_
                                          refine lv_aload_n hx hb dX12_readCommand_321 rfl (lv_at hl 4 rfl) ?_
                                          refine lv_iload_n hx hb dX12_readCommand_322 rfl (lv_at hl 1 rfl) ?_
                                          obtain ⟨x252, e251, h⟩ := bd_e h
                                          refine u_cSi X M hl.1 (kX12_isAccount (uArD3 hD) (congrFun (va_up_s V 19 _) 3) e251) cw_X12_143 ⟨by decide, by decide⟩ rfl rfl (Nat.le_of_ble_eq_true rfl) ⟨Nat.zero_le _, Nat.zero_le _⟩ dX12_readCommand_323 (fun H locs M n253 => ?_)
                                          obtain ⟨x255, S256, e254, h⟩ := bd2_e h
                                          refine u_cVi X M hl.1 (kX12_done hD e254) cw_X12_130 ⟨by decide, by decide⟩ (rc_X12 X M hD) rfl rfl (Nat.le_of_ble_eq_true rfl) ⟨Nat.zero_le _, Nat.zero_le _⟩ dX12_readCommand_326 (fun H locs M n257 => ?_)
                                          refine lv_if_eq (tgt := 336) hx hb dX12_readCommand_329 (by decide) (fun c258 => ?_) (fun c258 => ?_)
                                          · have h := it_t h c258
                                            refine lv_iconst (v := 0) hx hb dX12_readCommand_336 (by decide) ?_
                                            exact u_iret X hret M (rt2 h).1 (congrArg (va_up V 19) ((rt2 h).2)) rfl dX12_readCommand_337
                                          · have h := it_f h c258
                                            refine lv_iconst (v := 1) hx hb dX12_readCommand_332 (by decide) ?_
                                            refine lv_goto (tgt := 337) hx hb dX12_readCommand_333 (by decide) ?_
                                            exact u_iret X hret M (rt2 h).1 (congrArg (va_up V 19) ((rt2 h).2)) rfl dX12_readCommand_337
                                      · have h := it_f h c249
                                        refine lv_aload_n hx hb dX12_readCommand_298 rfl (lv_at hl 4 rfl) ?_
                                        refine lv_iload_n hx hb dX12_readCommand_299 rfl (lv_at hl 1 rfl) ?_
                                        obtain ⟨x260, e259, h⟩ := bd_e h
                                        refine u_cSi X M hl.1 (kX12_isAccount (uArD3 hD) (congrFun (va_up_s V 19 _) 3) e259) cw_X12_143 ⟨by decide, by decide⟩ rfl rfl (Nat.le_of_ble_eq_true rfl) ⟨Nat.zero_le _, Nat.zero_le _⟩ dX12_readCommand_300 (fun H locs M n261 => ?_)
                                        refine lv_if_eq (tgt := 314) hx hb dX12_readCommand_303 (by decide) (fun c262 => ?_) (fun c262 => ?_)
                                        · have h := it_t h c262
                                          refine lv_iload hx hb dX12_readCommand_314 (lv_at hl 0 rfl) ?_
                                          refine lv_iconst (v := (-1)) hx hb dX12_readCommand_316 (by decide) ?_
                                          refine lv_icmp_eq (tgt := 336) hx hb dX12_readCommand_317 (by decide) (fun c263 => ?_) (fun c263 => ?_)
                                          · have h := it_t h c263
                                            refine lv_iconst (v := 0) hx hb dX12_readCommand_336 (by decide) ?_
                                            exact u_iret X hret M (rt2 h).1 (congrArg (va_up V 19) ((rt2 h).2)) rfl dX12_readCommand_337
                                          · have h := it_f h c263
                                            refine lv_aload_n hx hb dX12_readCommand_320 rfl (lv_at hl 3 rfl) ?_
                                            refine lv_aload_n hx hb dX12_readCommand_321 rfl (lv_at hl 4 rfl) ?_
                                            refine lv_iload_n hx hb dX12_readCommand_322 rfl (lv_at hl 1 rfl) ?_
                                            obtain ⟨x265, e264, h⟩ := bd_e h
                                            refine u_cSi X M hl.1 (kX12_isAccount (uArD3 hD) (congrFun (va_up_s V 19 _) 3) e264) cw_X12_143 ⟨by decide, by decide⟩ rfl rfl (Nat.le_of_ble_eq_true rfl) ⟨Nat.zero_le _, Nat.zero_le _⟩ dX12_readCommand_323 (fun H locs M n266 => ?_)
                                            obtain ⟨x268, S269, e267, h⟩ := bd2_e h
                                            refine u_cVi X M hl.1 (kX12_done hD e267) cw_X12_130 ⟨by decide, by decide⟩ (rc_X12 X M hD) rfl rfl (Nat.le_of_ble_eq_true rfl) ⟨Nat.zero_le _, Nat.zero_le _⟩ dX12_readCommand_326 (fun H locs M n270 => ?_)
                                            refine lv_if_eq (tgt := 336) hx hb dX12_readCommand_329 (by decide) (fun c271 => ?_) (fun c271 => ?_)
                                            · have h := it_t h c271
                                              refine lv_iconst (v := 0) hx hb dX12_readCommand_336 (by decide) ?_
                                              exact u_iret X hret M (rt2 h).1 (congrArg (va_up V 19) ((rt2 h).2)) rfl dX12_readCommand_337
                                            · have h := it_f h c271
                                              refine lv_iconst (v := 1) hx hb dX12_readCommand_332 (by decide) ?_
                                              refine lv_goto (tgt := 337) hx hb dX12_readCommand_333 (by decide) ?_
                                              exact u_iret X hret M (rt2 h).1 (congrArg (va_up V 19) ((rt2 h).2)) rfl dX12_readCommand_337
                                        · have h := it_f h c262
                                          refine lv_aload_n hx hb dX12_readCommand_306 rfl (lv_at hl 4 rfl) ?_
                                          refine lv_iload_n hx hb dX12_readCommand_307 rfl (lv_at hl 1 rfl) ?_
                                          refine lv_iload hx hb dX12_readCommand_308 (lv_at hl 0 rfl) ?_
                                          obtain ⟨x273, r275, e272, h⟩ := bd2_e h
                                          have M := um_in2 3 M
                                          refine u_cSi X M hl.1 (kX12_payOn (uArD3 hD) e272) cw_X12_146 ⟨by decide, by decide⟩ rfl rfl (Nat.le_of_ble_eq_true rfl) ⟨Nat.zero_le _, Nat.zero_le _⟩ dX12_readCommand_310 (fun H locs M n277 => ?_)
                                          obtain ⟨S274, e276, h⟩ := lt_e h
                                          rw [← e276] at M
                                          refine lv_pop hx hb dX12_readCommand_313 rfl ?_
                                          refine lv_iload hx hb dX12_readCommand_314 (lv_at hl 0 rfl) ?_
                                          refine lv_iconst (v := (-1)) hx hb dX12_readCommand_316 (by decide) ?_
                                          refine lv_icmp_eq (tgt := 336) hx hb dX12_readCommand_317 (by decide) (fun c278 => ?_) (fun c278 => ?_)
                                          · have h := it_t h c278
                                            refine lv_iconst (v := 0) hx hb dX12_readCommand_336 (by decide) ?_
                                            exact u_iret X hret M (rt2 h).1 (congrArg (va_up V 19) ((rt2 h).2)) rfl dX12_readCommand_337
                                          · have h := it_f h c278
                                            refine lv_aload_n hx hb dX12_readCommand_320 rfl (lv_at hl 3 rfl) ?_
                                            refine lv_aload_n hx hb dX12_readCommand_321 rfl (lv_at hl 4 rfl) ?_
                                            refine lv_iload_n hx hb dX12_readCommand_322 rfl (lv_at hl 1 rfl) ?_
                                            obtain ⟨x280, e279, h⟩ := bd_e h
                                            refine u_cSi X M hl.1 (kX12_isAccount (uArD3 hD) (congrFun (va_up_s V 19 _) 3) e279) cw_X12_143 ⟨by decide, by decide⟩ rfl rfl (Nat.le_of_ble_eq_true rfl) ⟨Nat.zero_le _, Nat.zero_le _⟩ dX12_readCommand_323 (fun H locs M n281 => ?_)
                                            obtain ⟨x283, S284, e282, h⟩ := bd2_e h
                                            refine u_cVi X M hl.1 (kX12_done hD e282) cw_X12_130 ⟨by decide, by decide⟩ (rc_X12 X M hD) rfl rfl (Nat.le_of_ble_eq_true rfl) ⟨Nat.zero_le _, Nat.zero_le _⟩ dX12_readCommand_326 (fun H locs M n285 => ?_)
                                            refine lv_if_eq (tgt := 336) hx hb dX12_readCommand_329 (by decide) (fun c286 => ?_) (fun c286 => ?_)
                                            · have h := it_t h c286
                                              refine lv_iconst (v := 0) hx hb dX12_readCommand_336 (by decide) ?_
                                              exact u_iret X hret M (rt2 h).1 (congrArg (va_up V 19) ((rt2 h).2)) rfl dX12_readCommand_337
                                            · have h := it_f h c286
                                              refine lv_iconst (v := 1) hx hb dX12_readCommand_332 (by decide) ?_
                                              refine lv_goto (tgt := 337) hx hb dX12_readCommand_333 (by decide) ?_
                                              exact u_iret X hret M (rt2 h).1 (congrArg (va_up V 19) ((rt2 h).2)) rfl dX12_readCommand_337
                                    · have h := it_f h c240
                                      by_cases c287 : x4 = 117
                                      · have h := it_t h c287
                                        refine lv_tableIn (off := 317) (tgt := 338) hx hb dX12_readCommand_21 (by rw [c287]; decide) (by rw [c287]; decide) (by rw [c287]; rfl) (by decide) ?_
                                        refine lv_aload_n hx hb dX12_readCommand_338 rfl (lv_at hl 1 rfl) ?_
                                        refine lv_iconst (v := 0) hx hb dX12_readCommand_339 (by decide) ?_
                                        refine lv_iconst (v := 1) hx hb dX12_readCommand_340 (by decide) ?_
                                        refine lv_iconst (v := 0) hx hb dX12_readCommand_341 (by decide) ?_
                                        refine lv_iconst (v := 3) hx hb dX12_readCommand_342 (by decide) ?_
                                        obtain ⟨x289, S290, e288, h⟩ := bd2_e h
                                        refine u_cVi X M hl.1 (kX12_figures hD e288) cw_X12_119 ⟨by decide, by decide⟩ (rc_X12 X M hD) rfl rfl (Nat.le_of_ble_eq_true rfl) ⟨Nat.zero_le _, Nat.zero_le _⟩ dX12_readCommand_343 (fun H locs M n291 => ?_)
                                        refine lv_istore_n (lv' := [(3, .int x289), (2, .int x4), (0, .ref (ga G 19 0)), (1, .ref (ga G 19 3))]) hx hb dX12_readCommand_346 rfl hl (by decide) rfl (fun ls hl => ?_)
                                        refine lv_iload_n hx hb dX12_readCommand_347 rfl (lv_at hl 0 rfl) ?_
                                        refine lv_iconst (v := (-1)) hx hb dX12_readCommand_348 (by decide) ?_
                                        refine lv_icmp_eq (tgt := 379) hx hb dX12_readCommand_349 (by decide) (fun c292 => ?_) (fun c292 => ?_)
                                        · have h := it_t h c292
                                          refine lv_iconst (v := 0) hx hb dX12_readCommand_379 (by decide) ?_
                                          exact u_iret X hret M (rt2 h).1 (congrArg (va_up V 19) ((rt2 h).2)) rfl dX12_readCommand_380
                                        · have h := it_f h c292
                                          refine lv_aload_n hx hb dX12_readCommand_352 rfl (lv_at hl 2 rfl) ?_
                                          refine lv_aload_n hx hb dX12_readCommand_353 rfl (lv_at hl 3 rfl) ?_
                                          refine lv_iload_n hx hb dX12_readCommand_354 rfl (lv_at hl 0 rfl) ?_
                                          refine lv_iload_n hx hb dX12_readCommand_355 rfl (lv_at hl 1 rfl) ?_
                                          refine lv_bipush (v := 117) hx hb dX12_readCommand_356 (by decide) ?_
                                          refine lv_icmp_ne (tgt := 365) hx hb dX12_readCommand_358 (by decide) (fun c293 => ?_) (fun c293 => ?_)
                                          · have h := it_f h c293
                                            refine lv_iconst (v := 0) hx hb dX12_readCommand_365 (by decide) ?_
                                            obtain ⟨x295, r297, e294, h⟩ := bd2_e h
                                            have M := um_in2 3 M
                                            refine u_cSi X M hl.1 (kX12_doesLine (uArD3 hD) e294) cw_X12_149 ⟨by decide, by decide⟩ rfl rfl (Nat.le_of_ble_eq_true rfl) ⟨Nat.zero_le _, Nat.zero_le _⟩ dX12_readCommand_366 (fun H locs M n299 => ?_)
                                            obtain ⟨S296, e298, h⟩ := lt_e h
                                            rw [← e298] at M
                                            obtain ⟨x301, S302, e300, h⟩ := bd2_e h
                                            refine u_cVi X M hl.1 (kX12_done hD e300) cw_X12_130 ⟨by decide, by decide⟩ (rc_X12 X M hD) rfl rfl (Nat.le_of_ble_eq_true rfl) ⟨Nat.zero_le _, Nat.zero_le _⟩ dX12_readCommand_369 (fun H locs M n303 => ?_)
                                            refine lv_if_eq (tgt := 379) hx hb dX12_readCommand_372 (by decide) (fun c304 => ?_) (fun c304 => ?_)
                                            · have h := it_t h c304
                                              refine lv_iconst (v := 0) hx hb dX12_readCommand_379 (by decide) ?_
                                              exact u_iret X hret M (rt2 h).1 (congrArg (va_up V 19) ((rt2 h).2)) rfl dX12_readCommand_380
                                            · have h := it_f h c304
                                              refine lv_iconst (v := 1) hx hb dX12_readCommand_375 (by decide) ?_
                                              refine lv_goto (tgt := 380) hx hb dX12_readCommand_376 (by decide) ?_
                                              exact u_iret X hret M (rt2 h).1 (congrArg (va_up V 19) ((rt2 h).2)) rfl dX12_readCommand_380
                                          · have h := it_t h c293
                                            refine lv_iconst (v := 1) hx hb dX12_readCommand_361 (by decide) ?_
                                            refine lv_goto (tgt := 366) hx hb dX12_readCommand_362 (by decide) ?_
                                            obtain ⟨x306, r308, e305, h⟩ := bd2_e h
                                            have M := um_in2 3 M
                                            refine u_cSi X M hl.1 (kX12_doesLine (uArD3 hD) e305) cw_X12_149 ⟨by decide, by decide⟩ rfl rfl (Nat.le_of_ble_eq_true rfl) ⟨Nat.zero_le _, Nat.zero_le _⟩ dX12_readCommand_366 (fun H locs M n310 => ?_)
                                            obtain ⟨S307, e309, h⟩ := lt_e h
                                            rw [← e309] at M
                                            obtain ⟨x312, S313, e311, h⟩ := bd2_e h
                                            refine u_cVi X M hl.1 (kX12_done hD e311) cw_X12_130 ⟨by decide, by decide⟩ (rc_X12 X M hD) rfl rfl (Nat.le_of_ble_eq_true rfl) ⟨Nat.zero_le _, Nat.zero_le _⟩ dX12_readCommand_369 (fun H locs M n314 => ?_)
                                            refine lv_if_eq (tgt := 379) hx hb dX12_readCommand_372 (by decide) (fun c315 => ?_) (fun c315 => ?_)
                                            · have h := it_t h c315
                                              refine lv_iconst (v := 0) hx hb dX12_readCommand_379 (by decide) ?_
                                              exact u_iret X hret M (rt2 h).1 (congrArg (va_up V 19) ((rt2 h).2)) rfl dX12_readCommand_380
                                            · have h := it_f h c315
                                              refine lv_iconst (v := 1) hx hb dX12_readCommand_375 (by decide) ?_
                                              refine lv_goto (tgt := 380) hx hb dX12_readCommand_376 (by decide) ?_
                                              exact u_iret X hret M (rt2 h).1 (congrArg (va_up V 19) ((rt2 h).2)) rfl dX12_readCommand_380
                                      · have h := it_f h c287
                                        have tc10 := lv_neT (a := 99) c10 (by decide)
                                        have tc42 := lv_neT (a := 100) c42 (by decide)
                                        have tc71 := lv_neT (a := 101) c71 (by decide)
                                        have tc76 := lv_neT (a := 102) c76 (by decide)
                                        have tc81 := lv_neT (a := 103) c81 (by decide)
                                        have tc86 := lv_neT (a := 104) c86 (by decide)
                                        have tc91 := lv_neT (a := 105) c91 (by decide)
                                        have tc123 := lv_neT (a := 106) c123 (by decide)
                                        have tc128 := lv_neT (a := 107) c128 (by decide)
                                        have tc133 := lv_neT (a := 108) c133 (by decide)
                                        have tc138 := lv_neT (a := 109) c138 (by decide)
                                        have tc161 := lv_neT (a := 110) c161 (by decide)
                                        have tc166 := lv_neT (a := 111) c166 (by decide)
                                        have tc189 := lv_neT (a := 112) c189 (by decide)
                                        have tc194 := lv_neT (a := 113) c194 (by decide)
                                        have tc199 := lv_neT (a := 114) c199 (by decide)
                                        have tc235 := lv_neT (a := 115) c235 (by decide)
                                        have tc240 := lv_neT (a := 116) c240 (by decide)
                                        have tc287 := lv_neT (a := 117) c287 (by decide)
                                        refine lv_tableOut (tgt := 462) hx hb dX12_readCommand_21 (by omega) (by decide) ?_
                                        refine lv_aload_n hx hb dX12_readCommand_462 rfl (lv_at hl 1 rfl) ?_
                                        refine lv_dup hx hb dX12_readCommand_463 rfl ?_
                                        obtain ⟨x316, e317, h⟩ := lt_e h
                                        refine gf_X12_105 X M hD (va_up_s V 19 _) e317 dX12_readCommand_464 ?_
                                        refine lv_iconst (v := 1) hx hb dX12_readCommand_467 (by decide) ?_
                                        refine lv_isub hx hb dX12_readCommand_468 ?_
                                        obtain ⟨S318, e319, h⟩ := lt_e h
                                        refine pf_X12_105 X M hD e319 dX12_readCommand_469 (fun H locs M => ?_)
                                        refine lv_iconst (v := 0) hx hb dX12_readCommand_472 (by decide) ?_
                                        exact u_iret X hret M (rt2 h).1 (congrArg (va_up V 19) ((rt2 h).2)) rfl dX12_readCommand_473
def fX12_readText_L39 (n : Nat) (S : (Nat → Nat → Int32)) : Option (Int32 × (Nat → Nat → Int32)) :=
  match n with
  | 0 => none
  | n + 1 =>
    lt_ (S 0 10) fun x19 =>
    lt_ (S 0 2) fun x21 =>
    if x21 ≤ x19 then
      some ((-1), S)
    else
      bd2 (fX12_readCommand S) fun x25 S26 =>
      if x25 = 0 then
        lt_ (S26 0 10) fun x29 =>
        some (x29, S26)
      else
        fX12_readText_L39 n S26
set_option maxHeartbeats 4000000 in
set_option maxRecDepth 20000 in
theorem lpX12_readText_39 {l : Launch} {G : UG} {V : uV} (hD : uMd G) {S' : (Nat → Nat → Int32)} {r : Int32} {p : Program} {e : Env} {s : State} {m : MethodId} {args : Array Value} {below : List Frame} {meth : Method} {c : Code} (X : UC p s m args meth c cX12_readText 2 RX12 G) (hret : meth.sig.returnType = some .int) : ∀ (n : Nat) (S : (Nat → Nat → Int32)) (H : Heap) (locs : List Loc) (ls : Array Slot), fX12_readText_L39  n S = some (r, S') → UM G (va_up V 19 S) s H locs → lv_has ls 2 [(0, .ref (ga G 19 0)), (1, .ref (ga G 19 3))] → W p l e (uR 7 161) s m args below meth c H locs 0 0 (MQ below (uQi G .int r (va_up V 19 S')) args s 0 0 (uA G)) (F0 m 39 ls []) := by
  intro n
  have hx := X.hx
  have hb := X.hb
  induction n with
  | zero => intro S H locs ls h M hl; rw [fX12_readText_L39] at h; cases h
  | succ n ih =>
    intro S H locs ls h M hl
    rw [fX12_readText_L39] at h
    refine lv_aload_n hx hb dX12_readText_39 rfl (lv_at hl 0 rfl) ?_
    obtain ⟨x19, e20, h⟩ := lt_e h
    refine gf_X12_105 X M hD (va_up_s V 19 _) e20 dX12_readText_40 ?_
    refine lv_aload_n hx hb dX12_readText_43 rfl (lv_at hl 0 rfl) ?_
    obtain ⟨x21, e22, h⟩ := lt_e h
    refine gf_X12_98 X M hD (va_up_s V 19 _) e22 dX12_readText_44 ?_
    refine lv_icmp_ge (tgt := 63) hx hb dX12_readText_47 (by decide) (fun c23 => ?_) (fun c23 => ?_)
    · have h := it_t h c23
      refine lv_iconst (v := (-1)) hx hb dX12_readText_63 (by decide) ?_
      exact u_iret X hret M (rt2 h).1 (congrArg (va_up V 19) ((rt2 h).2)) rfl dX12_readText_64
    · have h := it_f h c23
      refine lv_aload_n hx hb dX12_readText_50 rfl (lv_at hl 0 rfl) ?_
      refine lv_aload_n hx hb dX12_readText_51 rfl (lv_at hl 1 rfl) ?_
      obtain ⟨x25, S26, e24, h⟩ := bd2_e h
      refine u_cVi X M hl.1 (kX12_readCommand hD e24) cw_X12_159 ⟨by decide, by decide⟩ (rc_X12 X M hD) rfl rfl (Nat.le_of_ble_eq_true rfl) ⟨Nat.zero_le _, Nat.zero_le _⟩ dX12_readText_52 (fun H locs M n27 => ?_)
      refine lv_if_ne (tgt := 39) hx hb dX12_readText_55 (by decide) (fun c28 => ?_) (fun c28 => ?_)
      · have h := it_f h c28
        exact ih _ _ _ _ h M (lv_sub hl [0, 1] rfl)
      · have h := it_t h c28
        refine lv_aload_n hx hb dX12_readText_58 rfl (lv_at hl 0 rfl) ?_
        obtain ⟨x29, e30, h⟩ := lt_e h
        refine gf_X12_105 X M hD (va_up_s V 19 _) e30 dX12_readText_59 ?_
        exact u_iret X hret M (rt2 h).1 (congrArg (va_up V 19) ((rt2 h).2)) rfl dX12_readText_62
def fX12_readText (S : (Nat → Nat → Int32)) : Option (Int32 × (Nat → Nat → Int32)) :=
  bd (fX12_begin (S 3)) fun r3 =>
  lt_ (va_up S 3 r3) fun S2 =>
  lt_ (va_up S2 0 (upd (S2 0) 11 0)) fun S6 =>
  lt_ (va_up S6 0 (upd (S6 0) 10 0)) fun S8 =>
  lt_ (S8 0 2) fun x10 =>
  if x10 = 0 then
    some (0, S8)
  else
    gd (inb 0 120) <|
    lt_ (S8 1 (0 : Int32).toNatClampNeg) fun x14 =>
    if x14 = 79 then
      lt_ (va_up S8 0 (upd (S8 0) 10 1)) fun S17 =>
      fX12_readText_L39 3000 S17
    else
      some (0, S8)
set_option maxHeartbeats 4000000 in
set_option maxRecDepth 20000 in
theorem kX12_readText {l : Launch} {G : UG} {V : uV} (hD : uMd G) {S S' : (Nat → Nat → Int32)}  {r : Int32} (h : fX12_readText S = some (r, S')) : uMi l G yX12_readText cX12_readText 2 .int (uR 7 161) [.ref (ga G 19 0), .ref (ga G 19 3)] (va_up V 19 S) r (va_up V 19 S') := by
  refine uMi_of rfl (Nat.le_of_ble_eq_true rfl) (fun p e s m args below meth c ls X hret hl M => ?_)
  have hl : lv_has ls 2 [(0, .ref (ga G 19 0)), (1, .ref (ga G 19 3))] := hl
  have hx := X.hx
  have hb := X.hb
  unfold fX12_readText at h
  refine lv_aload_n hx hb dX12_readText_0 rfl (lv_at hl 1 rfl) ?_
  obtain ⟨r3, e1, h⟩ := bd_e h
  have M := um_in2 3 M
  refine u_cSv X M hl.1 (kX12_begin (uArD3 hD) e1) cw_X12_32 ⟨by decide, by decide⟩ rfl rfl (Nat.le_of_ble_eq_true rfl) ⟨Nat.zero_le _, Nat.zero_le _⟩ dX12_readText_1 (fun H locs M => ?_)
  obtain ⟨S2, e4, h⟩ := lt_e h
  rw [← e4] at M
  refine lv_aload_n hx hb dX12_readText_4 rfl (lv_at hl 0 rfl) ?_
  refine lv_iconst (v := 0) hx hb dX12_readText_5 (by decide) ?_
  obtain ⟨S6, e7, h⟩ := lt_e h
  refine pf_X12_110 X M hD e7 dX12_readText_6 (fun H locs M => ?_)
  refine lv_aload_n hx hb dX12_readText_9 rfl (lv_at hl 0 rfl) ?_
  refine lv_iconst (v := 0) hx hb dX12_readText_10 (by decide) ?_
  obtain ⟨S8, e9, h⟩ := lt_e h
  refine pf_X12_105 X M hD e9 dX12_readText_11 (fun H locs M => ?_)
  refine lv_aload_n hx hb dX12_readText_14 rfl (lv_at hl 0 rfl) ?_
  obtain ⟨x10, e11, h⟩ := lt_e h
  refine gf_X12_98 X M hD (va_up_s V 19 _) e11 dX12_readText_15 ?_
  refine lv_if_eq (tgt := 32) hx hb dX12_readText_18 (by decide) (fun c12 => ?_) (fun c12 => ?_)
  · have h := it_t h c12
    refine lv_iconst (v := 0) hx hb dX12_readText_32 (by decide) ?_
    exact u_iret X hret M (rt2 h).1 (congrArg (va_up V 19) ((rt2 h).2)) rfl dX12_readText_33
  · have h := it_f h c12
    refine lv_aload_n hx hb dX12_readText_21 rfl (lv_at hl 0 rfl) ?_
    refine gf_X12_7 X M hD dX12_readText_22 ?_
    refine lv_iconst (v := 0) hx hb dX12_readText_25 (by decide) ?_
    obtain ⟨g13, h⟩ := gd_e h
    obtain ⟨x14, e15, h⟩ := lt_e h
    refine u_ald X M (hD 1 (by decide)) (uAd_sh uSh_md1 (congrFun (va_up_s V 19 _) 1)) (inb_e g13) e15 dX12_readText_26 ?_
    refine lv_bipush (v := 79) hx hb dX12_readText_27 (by decide) ?_
    refine lv_icmp_eq (tgt := 34) hx hb dX12_readText_29 (by decide) (fun c16 => ?_) (fun c16 => ?_)
    · have h := it_t h c16
      refine lv_aload_n hx hb dX12_readText_34 rfl (lv_at hl 0 rfl) ?_
      refine lv_iconst (v := 1) hx hb dX12_readText_35 (by decide) ?_
      obtain ⟨S17, e18, h⟩ := lt_e h
      refine pf_X12_105 X M hD e18 dX12_readText_36 (fun H locs M => ?_)
      exact lpX12_readText_39 hD X hret 3000 _ _ _ _ h M (lv_sub hl [0, 1] rfl)
    · have h := it_f h c16
      refine lv_iconst (v := 0) hx hb dX12_readText_32 (by decide) ?_
      exact u_iret X hret M (rt2 h).1 (congrArg (va_up V 19) ((rt2 h).2)) rfl dX12_readText_33
def fX12_errorPosition (S : (Nat → Nat → Int32)) : Option (Int32 × (Nat → Nat → Int32)) :=
  lt_ (va_up S 0 (upd (S 0) 0 0)) fun S1 =>
  bd2 (fX12_readText S1) fun x4 S5 =>
  some (x4, S5)
set_option maxHeartbeats 4000000 in
set_option maxRecDepth 20000 in
theorem kX12_errorPosition {l : Launch} {G : UG} {V : uV} (hD : uMd G) {S S' : (Nat → Nat → Int32)}  {r : Int32} (h : fX12_errorPosition S = some (r, S')) : uMi l G yX12_errorPosition cX12_errorPosition 1 .int (uR 8 182) [.ref (ga G 19 0)] (va_up V 19 S) r (va_up V 19 S') := by
  refine uMi_of rfl (Nat.le_of_ble_eq_true rfl) (fun p e s m args below meth c ls X hret hl M => ?_)
  have hl : lv_has ls 1 [(0, .ref (ga G 19 0))] := hl
  have hx := X.hx
  have hb := X.hb
  unfold fX12_errorPosition at h
  refine lv_aload_n hx hb dX12_errorPosition_0 rfl (lv_at hl 0 rfl) ?_
  refine lv_iconst (v := 0) hx hb dX12_errorPosition_1 (by decide) ?_
  obtain ⟨S1, e2, h⟩ := lt_e h
  refine pf_X12_36 X M hD e2 dX12_errorPosition_2 (fun H locs M => ?_)
  refine lv_aload_n hx hb dX12_errorPosition_5 rfl (lv_at hl 0 rfl) ?_
  refine lv_aload_n hx hb dX12_errorPosition_6 rfl (lv_at hl 0 rfl) ?_
  refine gf_X12_16 X M hD dX12_errorPosition_7 ?_
  obtain ⟨x4, S5, e3, h⟩ := bd2_e h
  refine u_cVi X M hl.1 (kX12_readText hD e3) cw_X12_162 ⟨by decide, by decide⟩ (rc_X12 X M hD) rfl rfl (Nat.le_of_ble_eq_true rfl) ⟨Nat.zero_le _, Nat.zero_le _⟩ dX12_errorPosition_10 (fun H locs M n6 => ?_)
  exact u_iret X hret M (rt2 h).1 (congrArg (va_up V 19) ((rt2 h).2)) rfl dX12_errorPosition_13
def fX12_load (S : (Nat → Nat → Int32)) : Option (Int32 × (Nat → Nat → Int32)) :=
  bd2 (fX12_readText S) fun x2 S3 =>
  if x2 = (-1) then
    bd2 (fX12_refused S3 0) fun x26 S27 =>
    if x26 = 0 then
      bd (fcp 1272 (S27 3) 0 1272 (S27 2) 0) fun r30 =>
      lt_ (va_up S27 2 r30) fun S32 =>
      lt_ (va_up S32 0 (upd (S32 0) 7 0)) fun S34 =>
      gd (inb 0 2) <|
      lt_ (va_up S34 7 (upd (S34 7) (0 : Int32).toNatClampNeg 0)) fun S37 =>
      gd (inb 1 2) <|
      lt_ (va_up S37 7 (upd (S37 7) (1 : Int32).toNatClampNeg 0)) fun S40 =>
      lt_ (S40 0 11) fun x42 =>
      some (x42, S40)
    else
      some (0, S27)
  else
    bd2 (fX12_refused S3 1) fun x7 S8 =>
    if x7 = 0 then
      bd (fcp 1272 (S8 3) 0 1272 (S8 2) 0) fun r11 =>
      lt_ (va_up S8 2 r11) fun S13 =>
      lt_ (va_up S13 0 (upd (S13 0) 7 0)) fun S15 =>
      gd (inb 0 2) <|
      lt_ (va_up S15 7 (upd (S15 7) (0 : Int32).toNatClampNeg 0)) fun S18 =>
      gd (inb 1 2) <|
      lt_ (va_up S18 7 (upd (S18 7) (1 : Int32).toNatClampNeg 0)) fun S21 =>
      lt_ (S21 0 11) fun x23 =>
      some (x23, S21)
    else
      some (0, S8)
set_option maxHeartbeats 4000000 in
set_option maxRecDepth 20000 in
theorem kX12_load {l : Launch} {G : UG} {V : uV} (hD : uMd G) {S S' : (Nat → Nat → Int32)}  {r : Int32} (h : fX12_load S = some (r, S')) : uMi l G yX12_load cX12_load 1 .int (uR 8 182) [.ref (ga G 19 0)] (va_up V 19 S) r (va_up V 19 S') := by
  refine uMi_of rfl (Nat.le_of_ble_eq_true rfl) (fun p e s m args below meth c ls X hret hl M => ?_)
  have hl : lv_has ls 1 [(0, .ref (ga G 19 0))] := hl
  have hx := X.hx
  have hb := X.hb
  unfold fX12_load at h
  refine lv_aload_n hx hb dX12_load_0 rfl (lv_at hl 0 rfl) ?_
  refine lv_aload_n hx hb dX12_load_1 rfl (lv_at hl 0 rfl) ?_
  refine lv_aload_n hx hb dX12_load_2 rfl (lv_at hl 0 rfl) ?_
  refine gf_X12_16 X M hD dX12_load_3 ?_
  obtain ⟨x2, S3, e1, h⟩ := bd2_e h
  refine u_cVi X M hl.1 (kX12_readText hD e1) cw_X12_162 ⟨by decide, by decide⟩ (rc_X12 X M hD) rfl rfl (Nat.le_of_ble_eq_true rfl) ⟨Nat.zero_le _, Nat.zero_le _⟩ dX12_load_6 (fun H locs M n4 => ?_)
  refine lv_iconst (v := (-1)) hx hb dX12_load_9 (by decide) ?_
  refine lv_icmp_ne (tgt := 17) hx hb dX12_load_10 (by decide) (fun c5 => ?_) (fun c5 => ?_)
  · have h := it_f h c5
    refine lv_iconst (v := 1) hx hb dX12_load_17 (by decide) ?_
    obtain ⟨x7, S8, e6, h⟩ := bd2_e h
    refine u_cVi X M hl.1 (kX12_refused hD e6) cw_X12_101 ⟨by decide, by decide⟩ (rc_X12 X M hD) rfl rfl (Nat.le_of_ble_eq_true rfl) ⟨Nat.zero_le _, Nat.zero_le _⟩ dX12_load_18 (fun H locs M n9 => ?_)
    refine lv_if_eq (tgt := 26) hx hb dX12_load_21 (by decide) (fun c10 => ?_) (fun c10 => ?_)
    · have h := it_t h c10
      refine lv_aload_n hx hb dX12_load_26 rfl (lv_at hl 0 rfl) ?_
      refine gf_X12_16 X M hD dX12_load_27 ?_
      refine lv_iconst (v := 0) hx hb dX12_load_30 (by decide) ?_
      refine lv_aload_n hx hb dX12_load_31 rfl (lv_at hl 0 rfl) ?_
      refine gf_X12_13 X M hD dX12_load_32 ?_
      refine lv_iconst (v := 0) hx hb dX12_load_35 (by decide) ?_
      obtain ⟨r11, e12, h⟩ := bd_e h
      refine u_cSv X M hl.1 (kX12_copyState hD (o1 := 3) (o2 := 2) (by decide) (by decide) (by decide) uSh_md3 uSh_md2 (by decide) (by decide) e12) cw_X12_165 ⟨by decide, by decide⟩ rfl rfl (Nat.le_of_ble_eq_true rfl) ⟨Nat.zero_le _, Nat.zero_le _⟩ dX12_load_36 (fun H locs M => ?_)
      obtain ⟨S13, e14, h⟩ := lt_e h
      rw [← e14] at M
      refine lv_aload_n hx hb dX12_load_39 rfl (lv_at hl 0 rfl) ?_
      refine lv_iconst (v := 0) hx hb dX12_load_40 (by decide) ?_
      obtain ⟨S15, e16, h⟩ := lt_e h
      refine pf_X12_169 X M hD e16 dX12_load_41 (fun H locs M => ?_)
      refine lv_aload_n hx hb dX12_load_44 rfl (lv_at hl 0 rfl) ?_
      refine gf_X12_28 X M hD dX12_load_45 ?_
      refine lv_iconst (v := 0) hx hb dX12_load_48 (by decide) ?_
      refine lv_iconst (v := 0) hx hb dX12_load_49 (by decide) ?_
      obtain ⟨g17, h⟩ := gd_e h
      obtain ⟨S18, e19, h⟩ := lt_e h
      refine u_zast_b X M (hD 7 (by decide)) uSh_md7 (inb_e g17) (by decide) e19 dX12_load_50 (fun H locs M => ?_)
      refine lv_aload_n hx hb dX12_load_51 rfl (lv_at hl 0 rfl) ?_
      refine gf_X12_28 X M hD dX12_load_52 ?_
      refine lv_iconst (v := 1) hx hb dX12_load_55 (by decide) ?_
      refine lv_iconst (v := 0) hx hb dX12_load_56 (by decide) ?_
      obtain ⟨g20, h⟩ := gd_e h
      obtain ⟨S21, e22, h⟩ := lt_e h
      refine u_zast_b X M (hD 7 (by decide)) uSh_md7 (inb_e g20) (by decide) e22 dX12_load_57 (fun H locs M => ?_)
      refine lv_aload_n hx hb dX12_load_58 rfl (lv_at hl 0 rfl) ?_
      obtain ⟨x23, e24, h⟩ := lt_e h
      refine gf_X12_110 X M hD (va_up_s V 19 _) e24 dX12_load_59 ?_
      exact u_iret X hret M (rt2 h).1 (congrArg (va_up V 19) ((rt2 h).2)) rfl dX12_load_62
    · have h := it_f h c10
      refine lv_iconst (v := 0) hx hb dX12_load_24 (by decide) ?_
      exact u_iret X hret M (rt2 h).1 (congrArg (va_up V 19) ((rt2 h).2)) rfl dX12_load_25
  · have h := it_t h c5
    refine lv_iconst (v := 0) hx hb dX12_load_13 (by decide) ?_
    refine lv_goto (tgt := 18) hx hb dX12_load_14 (by decide) ?_
    obtain ⟨x26, S27, e25, h⟩ := bd2_e h
    refine u_cVi X M hl.1 (kX12_refused hD e25) cw_X12_101 ⟨by decide, by decide⟩ (rc_X12 X M hD) rfl rfl (Nat.le_of_ble_eq_true rfl) ⟨Nat.zero_le _, Nat.zero_le _⟩ dX12_load_18 (fun H locs M n28 => ?_)
    refine lv_if_eq (tgt := 26) hx hb dX12_load_21 (by decide) (fun c29 => ?_) (fun c29 => ?_)
    · have h := it_t h c29
      refine lv_aload_n hx hb dX12_load_26 rfl (lv_at hl 0 rfl) ?_
      refine gf_X12_16 X M hD dX12_load_27 ?_
      refine lv_iconst (v := 0) hx hb dX12_load_30 (by decide) ?_
      refine lv_aload_n hx hb dX12_load_31 rfl (lv_at hl 0 rfl) ?_
      refine gf_X12_13 X M hD dX12_load_32 ?_
      refine lv_iconst (v := 0) hx hb dX12_load_35 (by decide) ?_
      obtain ⟨r30, e31, h⟩ := bd_e h
      refine u_cSv X M hl.1 (kX12_copyState hD (o1 := 3) (o2 := 2) (by decide) (by decide) (by decide) uSh_md3 uSh_md2 (by decide) (by decide) e31) cw_X12_165 ⟨by decide, by decide⟩ rfl rfl (Nat.le_of_ble_eq_true rfl) ⟨Nat.zero_le _, Nat.zero_le _⟩ dX12_load_36 (fun H locs M => ?_)
      obtain ⟨S32, e33, h⟩ := lt_e h
      rw [← e33] at M
      refine lv_aload_n hx hb dX12_load_39 rfl (lv_at hl 0 rfl) ?_
      refine lv_iconst (v := 0) hx hb dX12_load_40 (by decide) ?_
      obtain ⟨S34, e35, h⟩ := lt_e h
      refine pf_X12_169 X M hD e35 dX12_load_41 (fun H locs M => ?_)
      refine lv_aload_n hx hb dX12_load_44 rfl (lv_at hl 0 rfl) ?_
      refine gf_X12_28 X M hD dX12_load_45 ?_
      refine lv_iconst (v := 0) hx hb dX12_load_48 (by decide) ?_
      refine lv_iconst (v := 0) hx hb dX12_load_49 (by decide) ?_
      obtain ⟨g36, h⟩ := gd_e h
      obtain ⟨S37, e38, h⟩ := lt_e h
      refine u_zast_b X M (hD 7 (by decide)) uSh_md7 (inb_e g36) (by decide) e38 dX12_load_50 (fun H locs M => ?_)
      refine lv_aload_n hx hb dX12_load_51 rfl (lv_at hl 0 rfl) ?_
      refine gf_X12_28 X M hD dX12_load_52 ?_
      refine lv_iconst (v := 1) hx hb dX12_load_55 (by decide) ?_
      refine lv_iconst (v := 0) hx hb dX12_load_56 (by decide) ?_
      obtain ⟨g39, h⟩ := gd_e h
      obtain ⟨S40, e41, h⟩ := lt_e h
      refine u_zast_b X M (hD 7 (by decide)) uSh_md7 (inb_e g39) (by decide) e41 dX12_load_57 (fun H locs M => ?_)
      refine lv_aload_n hx hb dX12_load_58 rfl (lv_at hl 0 rfl) ?_
      obtain ⟨x42, e43, h⟩ := lt_e h
      refine gf_X12_110 X M hD (va_up_s V 19 _) e43 dX12_load_59 ?_
      exact u_iret X hret M (rt2 h).1 (congrArg (va_up V 19) ((rt2 h).2)) rfl dX12_load_62
    · have h := it_f h c29
      refine lv_iconst (v := 0) hx hb dX12_load_24 (by decide) ?_
      exact u_iret X hret M (rt2 h).1 (congrArg (va_up V 19) ((rt2 h).2)) rfl dX12_load_25
def fX12_about (S : (Nat → Nat → Int32)) (a1 : Int32) : Option (Int32 × (Nat → Nat → Int32)) :=
  lt_ (fX12_in  ((a1 : Int32).toInt64) 0 10) fun x2 =>
  if x2 = 0 then
    bd2 (fX12_refused S 1) fun x6 S7 =>
    if x6 = 0 then
      if a1 = 6 then
        if a1 = 7 then
          bd (fX12_inLogs (S7 2) (-1) 1) fun x16 =>
          some (x16, S7)
        else
          bd (fX12_inLogs (S7 2) (-1) 0) fun x13 =>
          some (x13, S7)
      else if a1 = 7 then
        if a1 = 7 then
          bd (fX12_inLogs (S7 2) (-1) 1) fun x24 =>
          some (x24, S7)
        else
          bd (fX12_inLogs (S7 2) (-1) 0) fun x21 =>
          some (x21, S7)
      else if a1 = 8 then
        gd (inb (a1 - 2) 1272) <|
        lt_ (S7 2 ((a1 - 2) : Int32).toNatClampNeg) fun x28 =>
        some (x28, S7)
      else if a1 = 9 then
        gd (inb (a1 - 2) 1272) <|
        lt_ (S7 2 ((a1 - 2) : Int32).toNatClampNeg) fun x32 =>
        some (x32, S7)
      else if a1 = 10 then
        bd (fX12_blocked (S7 2)) fun x36 =>
        some (x36, S7)
      else 
      gd (inb a1 1272) <|
      lt_ (S7 2 (a1 : Int32).toNatClampNeg) fun x39 =>
      some (x39, S7)
    else
      some (0, S7)
  else
    bd2 (fX12_refused S 0) fun x42 S43 =>
    if x42 = 0 then
      if a1 = 6 then
        if a1 = 7 then
          bd (fX12_inLogs (S43 2) (-1) 1) fun x52 =>
          some (x52, S43)
        else
          bd (fX12_inLogs (S43 2) (-1) 0) fun x49 =>
          some (x49, S43)
      else if a1 = 7 then
        if a1 = 7 then
          bd (fX12_inLogs (S43 2) (-1) 1) fun x60 =>
          some (x60, S43)
        else
          bd (fX12_inLogs (S43 2) (-1) 0) fun x57 =>
          some (x57, S43)
      else if a1 = 8 then
        gd (inb (a1 - 2) 1272) <|
        lt_ (S43 2 ((a1 - 2) : Int32).toNatClampNeg) fun x64 =>
        some (x64, S43)
      else if a1 = 9 then
        gd (inb (a1 - 2) 1272) <|
        lt_ (S43 2 ((a1 - 2) : Int32).toNatClampNeg) fun x68 =>
        some (x68, S43)
      else if a1 = 10 then
        bd (fX12_blocked (S43 2)) fun x72 =>
        some (x72, S43)
      else 
      gd (inb a1 1272) <|
      lt_ (S43 2 (a1 : Int32).toNatClampNeg) fun x75 =>
      some (x75, S43)
    else
      some (0, S43)
set_option maxHeartbeats 4000000 in
set_option maxRecDepth 20000 in
theorem kX12_about {l : Launch} {G : UG} {V : uV} (hD : uMd G) {S S' : (Nat → Nat → Int32)} {a1 : Int32} {r : Int32} (h : fX12_about S a1 = some (r, S')) : uMi l G yX12_about cX12_about 2 .int (uR 3 63) [.ref (ga G 19 0), .int a1] (va_up V 19 S) r (va_up V 19 S') := by
  refine uMi_of rfl (Nat.le_of_ble_eq_true rfl) (fun p e s m args below meth c ls X hret hl M => ?_)
  have hl : lv_has ls 2 [(0, .ref (ga G 19 0)), (1, .int a1)] := hl
  have hx := X.hx
  have hb := X.hb
  unfold fX12_about at h
  refine lv_aload_n hx hb dX12_about_0 rfl (lv_at hl 0 rfl) ?_
  refine lv_iload_n hx hb dX12_about_1 rfl (lv_at hl 1 rfl) ?_
  refine lv_i2l hx hb dX12_about_2 rfl ?_
  refine lv_lconst (v := 0) hx hb dX12_about_3 rfl ?_
  refine lv_ldc2 (v := 10) hx hb X.1.2.2.2.1 (X.hts (gt_in 1220 (by decide +kernel) (by decide +kernel))) dX12_about_4 ?_
  obtain ⟨x2, e1, h⟩ := lt_e h
  refine u_cSi X M hl.1 (kX12_in  e1.symm) cw_X12_44 ⟨by decide, by decide⟩ rfl rfl (Nat.le_of_ble_eq_true rfl) ⟨Nat.zero_le _, Nat.zero_le _⟩ dX12_about_7 (fun H locs M n3 => ?_)
  refine lv_if_eq (tgt := 17) hx hb dX12_about_10 (by decide) (fun c4 => ?_) (fun c4 => ?_)
  · have h := it_t h c4
    refine lv_iconst (v := 1) hx hb dX12_about_17 (by decide) ?_
    obtain ⟨x6, S7, e5, h⟩ := bd2_e h
    refine u_cVi X M hl.1 (kX12_refused hD e5) cw_X12_101 ⟨by decide, by decide⟩ (rc_X12 X M hD) rfl rfl (Nat.le_of_ble_eq_true rfl) ⟨Nat.zero_le _, Nat.zero_le _⟩ dX12_about_18 (fun H locs M n8 => ?_)
    refine lv_if_eq (tgt := 26) hx hb dX12_about_21 (by decide) (fun c9 => ?_) (fun c9 => ?_)
    · have h := it_t h c9
      refine lv_iload_n hx hb dX12_about_26 rfl (lv_at hl 1 rfl) ?_
      by_cases c10 : a1 = 6
      · have h := it_t h c10
        refine lv_tableIn (off := 33) (tgt := 60) hx hb dX12_about_27 (by rw [c10]; decide) (by rw [c10]; decide) (by rw [c10]; rfl) (by decide) ?_
        refine lv_aload_n hx hb dX12_about_60 rfl (lv_at hl 0 rfl) ?_
        refine gf_X12_13 X M hD dX12_about_61 ?_
        refine lv_iconst (v := (-1)) hx hb dX12_about_64 (by decide) ?_
        refine lv_iload_n hx hb dX12_about_65 rfl (lv_at hl 1 rfl) ?_
        refine lv_bipush (v := 7) hx hb dX12_about_66 (by decide) ?_
        refine lv_icmp_ne (tgt := 75) hx hb dX12_about_68 (by decide) (fun c11 => ?_) (fun c11 => ?_)
        · have h := it_f h c11
          refine lv_iconst (v := 0) hx hb dX12_about_75 (by decide) ?_
          obtain ⟨x13, e12, h⟩ := bd_e h
          refine u_cSi X M hl.1 (kX12_inLogs (uArD2 hD) (congrFun (va_up_s V 19 _) 2) e12) cw_X12_174 ⟨by decide, by decide⟩ rfl rfl (Nat.le_of_ble_eq_true rfl) ⟨Nat.zero_le _, Nat.zero_le _⟩ dX12_about_76 (fun H locs M n14 => ?_)
          exact u_iret X hret M (rt2 h).1 (congrArg (va_up V 19) ((rt2 h).2)) rfl dX12_about_79
        · have h := it_t h c11
          refine lv_iconst (v := 1) hx hb dX12_about_71 (by decide) ?_
          refine lv_goto (tgt := 76) hx hb dX12_about_72 (by decide) ?_
          obtain ⟨x16, e15, h⟩ := bd_e h
          refine u_cSi X M hl.1 (kX12_inLogs (uArD2 hD) (congrFun (va_up_s V 19 _) 2) e15) cw_X12_174 ⟨by decide, by decide⟩ rfl rfl (Nat.le_of_ble_eq_true rfl) ⟨Nat.zero_le _, Nat.zero_le _⟩ dX12_about_76 (fun H locs M n17 => ?_)
          exact u_iret X hret M (rt2 h).1 (congrArg (va_up V 19) ((rt2 h).2)) rfl dX12_about_79
      · have h := it_f h c10
        by_cases c18 : a1 = 7
        · have h := it_t h c18
          refine lv_tableIn (off := 33) (tgt := 60) hx hb dX12_about_27 (by rw [c18]; decide) (by rw [c18]; decide) (by rw [c18]; rfl) (by decide) ?_
          refine lv_aload_n hx hb dX12_about_60 rfl (lv_at hl 0 rfl) ?_
          refine gf_X12_13 X M hD dX12_about_61 ?_
          refine lv_iconst (v := (-1)) hx hb dX12_about_64 (by decide) ?_
          refine lv_iload_n hx hb dX12_about_65 rfl (lv_at hl 1 rfl) ?_
          refine lv_bipush (v := 7) hx hb dX12_about_66 (by decide) ?_
          refine lv_icmp_ne (tgt := 75) hx hb dX12_about_68 (by decide) (fun c19 => ?_) (fun c19 => ?_)
          · have h := it_f h c19
            refine lv_iconst (v := 0) hx hb dX12_about_75 (by decide) ?_
            obtain ⟨x21, e20, h⟩ := bd_e h
            refine u_cSi X M hl.1 (kX12_inLogs (uArD2 hD) (congrFun (va_up_s V 19 _) 2) e20) cw_X12_174 ⟨by decide, by decide⟩ rfl rfl (Nat.le_of_ble_eq_true rfl) ⟨Nat.zero_le _, Nat.zero_le _⟩ dX12_about_76 (fun H locs M n22 => ?_)
            exact u_iret X hret M (rt2 h).1 (congrArg (va_up V 19) ((rt2 h).2)) rfl dX12_about_79
          · have h := it_t h c19
            refine lv_iconst (v := 1) hx hb dX12_about_71 (by decide) ?_
            refine lv_goto (tgt := 76) hx hb dX12_about_72 (by decide) ?_
            obtain ⟨x24, e23, h⟩ := bd_e h
            refine u_cSi X M hl.1 (kX12_inLogs (uArD2 hD) (congrFun (va_up_s V 19 _) 2) e23) cw_X12_174 ⟨by decide, by decide⟩ rfl rfl (Nat.le_of_ble_eq_true rfl) ⟨Nat.zero_le _, Nat.zero_le _⟩ dX12_about_76 (fun H locs M n25 => ?_)
            exact u_iret X hret M (rt2 h).1 (congrArg (va_up V 19) ((rt2 h).2)) rfl dX12_about_79
        · have h := it_f h c18
          by_cases c26 : a1 = 8
          · have h := it_t h c26
            refine lv_tableIn (off := 53) (tgt := 80) hx hb dX12_about_27 (by rw [c26]; decide) (by rw [c26]; decide) (by rw [c26]; rfl) (by decide) ?_
            refine lv_aload_n hx hb dX12_about_80 rfl (lv_at hl 0 rfl) ?_
            refine gf_X12_13 X M hD dX12_about_81 ?_
            refine lv_iload_n hx hb dX12_about_84 rfl (lv_at hl 1 rfl) ?_
            refine lv_iconst (v := 2) hx hb dX12_about_85 (by decide) ?_
            refine lv_isub hx hb dX12_about_86 ?_
            obtain ⟨g27, h⟩ := gd_e h
            obtain ⟨x28, e29, h⟩ := lt_e h
            refine u_ald X M (hD 2 (by decide)) (uAd_sh uSh_md2 (congrFun (va_up_s V 19 _) 2)) (inb_e g27) e29 dX12_about_87 ?_
            exact u_iret X hret M (rt2 h).1 (congrArg (va_up V 19) ((rt2 h).2)) rfl dX12_about_88
          · have h := it_f h c26
            by_cases c30 : a1 = 9
            · have h := it_t h c30
              refine lv_tableIn (off := 53) (tgt := 80) hx hb dX12_about_27 (by rw [c30]; decide) (by rw [c30]; decide) (by rw [c30]; rfl) (by decide) ?_
              refine lv_aload_n hx hb dX12_about_80 rfl (lv_at hl 0 rfl) ?_
              refine gf_X12_13 X M hD dX12_about_81 ?_
              refine lv_iload_n hx hb dX12_about_84 rfl (lv_at hl 1 rfl) ?_
              refine lv_iconst (v := 2) hx hb dX12_about_85 (by decide) ?_
              refine lv_isub hx hb dX12_about_86 ?_
              obtain ⟨g31, h⟩ := gd_e h
              obtain ⟨x32, e33, h⟩ := lt_e h
              refine u_ald X M (hD 2 (by decide)) (uAd_sh uSh_md2 (congrFun (va_up_s V 19 _) 2)) (inb_e g31) e33 dX12_about_87 ?_
              exact u_iret X hret M (rt2 h).1 (congrArg (va_up V 19) ((rt2 h).2)) rfl dX12_about_88
            · have h := it_f h c30
              by_cases c34 : a1 = 10
              · have h := it_t h c34
                refine lv_tableIn (off := 62) (tgt := 89) hx hb dX12_about_27 (by rw [c34]; decide) (by rw [c34]; decide) (by rw [c34]; rfl) (by decide) ?_
                refine lv_aload_n hx hb dX12_about_89 rfl (lv_at hl 0 rfl) ?_
                refine gf_X12_13 X M hD dX12_about_90 ?_
                obtain ⟨x36, e35, h⟩ := bd_e h
                refine u_cSi X M hl.1 (kX12_blocked (uArD2 hD) (congrFun (va_up_s V 19 _) 2) e35) cw_X12_60 ⟨by decide, by decide⟩ rfl rfl (Nat.le_of_ble_eq_true rfl) ⟨Nat.zero_le _, Nat.zero_le _⟩ dX12_about_93 (fun H locs M n37 => ?_)
                exact u_iret X hret M (rt2 h).1 (congrArg (va_up V 19) ((rt2 h).2)) rfl dX12_about_96
              · have h := it_f h c34
                have tc10 := lv_neT (a := 6) c10 (by decide)
                have tc18 := lv_neT (a := 7) c18 (by decide)
                have tc26 := lv_neT (a := 8) c26 (by decide)
                have tc30 := lv_neT (a := 9) c30 (by decide)
                have tc34 := lv_neT (a := 10) c34 (by decide)
                refine lv_tableOut (tgt := 97) hx hb dX12_about_27 (by omega) (by decide) ?_
                refine lv_aload_n hx hb dX12_about_97 rfl (lv_at hl 0 rfl) ?_
                refine gf_X12_13 X M hD dX12_about_98 ?_
                refine lv_iload_n hx hb dX12_about_101 rfl (lv_at hl 1 rfl) ?_
                obtain ⟨g38, h⟩ := gd_e h
                obtain ⟨x39, e40, h⟩ := lt_e h
                refine u_ald X M (hD 2 (by decide)) (uAd_sh uSh_md2 (congrFun (va_up_s V 19 _) 2)) (inb_e g38) e40 dX12_about_102 ?_
                exact u_iret X hret M (rt2 h).1 (congrArg (va_up V 19) ((rt2 h).2)) rfl dX12_about_103
    · have h := it_f h c9
      refine lv_iconst (v := 0) hx hb dX12_about_24 (by decide) ?_
      exact u_iret X hret M (rt2 h).1 (congrArg (va_up V 19) ((rt2 h).2)) rfl dX12_about_25
  · have h := it_f h c4
    refine lv_iconst (v := 0) hx hb dX12_about_13 (by decide) ?_
    refine lv_goto (tgt := 18) hx hb dX12_about_14 (by decide) ?_
    obtain ⟨x42, S43, e41, h⟩ := bd2_e h
    refine u_cVi X M hl.1 (kX12_refused hD e41) cw_X12_101 ⟨by decide, by decide⟩ (rc_X12 X M hD) rfl rfl (Nat.le_of_ble_eq_true rfl) ⟨Nat.zero_le _, Nat.zero_le _⟩ dX12_about_18 (fun H locs M n44 => ?_)
    refine lv_if_eq (tgt := 26) hx hb dX12_about_21 (by decide) (fun c45 => ?_) (fun c45 => ?_)
    · have h := it_t h c45
      refine lv_iload_n hx hb dX12_about_26 rfl (lv_at hl 1 rfl) ?_
      by_cases c46 : a1 = 6
      · have h := it_t h c46
        refine lv_tableIn (off := 33) (tgt := 60) hx hb dX12_about_27 (by rw [c46]; decide) (by rw [c46]; decide) (by rw [c46]; rfl) (by decide) ?_
        refine lv_aload_n hx hb dX12_about_60 rfl (lv_at hl 0 rfl) ?_
        refine gf_X12_13 X M hD dX12_about_61 ?_
        refine lv_iconst (v := (-1)) hx hb dX12_about_64 (by decide) ?_
        refine lv_iload_n hx hb dX12_about_65 rfl (lv_at hl 1 rfl) ?_
        refine lv_bipush (v := 7) hx hb dX12_about_66 (by decide) ?_
        refine lv_icmp_ne (tgt := 75) hx hb dX12_about_68 (by decide) (fun c47 => ?_) (fun c47 => ?_)
        · have h := it_f h c47
          refine lv_iconst (v := 0) hx hb dX12_about_75 (by decide) ?_
          obtain ⟨x49, e48, h⟩ := bd_e h
          refine u_cSi X M hl.1 (kX12_inLogs (uArD2 hD) (congrFun (va_up_s V 19 _) 2) e48) cw_X12_174 ⟨by decide, by decide⟩ rfl rfl (Nat.le_of_ble_eq_true rfl) ⟨Nat.zero_le _, Nat.zero_le _⟩ dX12_about_76 (fun H locs M n50 => ?_)
          exact u_iret X hret M (rt2 h).1 (congrArg (va_up V 19) ((rt2 h).2)) rfl dX12_about_79
        · have h := it_t h c47
          refine lv_iconst (v := 1) hx hb dX12_about_71 (by decide) ?_
          refine lv_goto (tgt := 76) hx hb dX12_about_72 (by decide) ?_
          obtain ⟨x52, e51, h⟩ := bd_e h
          refine u_cSi X M hl.1 (kX12_inLogs (uArD2 hD) (congrFun (va_up_s V 19 _) 2) e51) cw_X12_174 ⟨by decide, by decide⟩ rfl rfl (Nat.le_of_ble_eq_true rfl) ⟨Nat.zero_le _, Nat.zero_le _⟩ dX12_about_76 (fun H locs M n53 => ?_)
          exact u_iret X hret M (rt2 h).1 (congrArg (va_up V 19) ((rt2 h).2)) rfl dX12_about_79
      · have h := it_f h c46
        by_cases c54 : a1 = 7
        · have h := it_t h c54
          refine lv_tableIn (off := 33) (tgt := 60) hx hb dX12_about_27 (by rw [c54]; decide) (by rw [c54]; decide) (by rw [c54]; rfl) (by decide) ?_
          refine lv_aload_n hx hb dX12_about_60 rfl (lv_at hl 0 rfl) ?_
          refine gf_X12_13 X M hD dX12_about_61 ?_
          refine lv_iconst (v := (-1)) hx hb dX12_about_64 (by decide) ?_
          refine lv_iload_n hx hb dX12_about_65 rfl (lv_at hl 1 rfl) ?_
          refine lv_bipush (v := 7) hx hb dX12_about_66 (by decide) ?_
          refine lv_icmp_ne (tgt := 75) hx hb dX12_about_68 (by decide) (fun c55 => ?_) (fun c55 => ?_)
          · have h := it_f h c55
            refine lv_iconst (v := 0) hx hb dX12_about_75 (by decide) ?_
            obtain ⟨x57, e56, h⟩ := bd_e h
            refine u_cSi X M hl.1 (kX12_inLogs (uArD2 hD) (congrFun (va_up_s V 19 _) 2) e56) cw_X12_174 ⟨by decide, by decide⟩ rfl rfl (Nat.le_of_ble_eq_true rfl) ⟨Nat.zero_le _, Nat.zero_le _⟩ dX12_about_76 (fun H locs M n58 => ?_)
            exact u_iret X hret M (rt2 h).1 (congrArg (va_up V 19) ((rt2 h).2)) rfl dX12_about_79
          · have h := it_t h c55
            refine lv_iconst (v := 1) hx hb dX12_about_71 (by decide) ?_
            refine lv_goto (tgt := 76) hx hb dX12_about_72 (by decide) ?_
            obtain ⟨x60, e59, h⟩ := bd_e h
            refine u_cSi X M hl.1 (kX12_inLogs (uArD2 hD) (congrFun (va_up_s V 19 _) 2) e59) cw_X12_174 ⟨by decide, by decide⟩ rfl rfl (Nat.le_of_ble_eq_true rfl) ⟨Nat.zero_le _, Nat.zero_le _⟩ dX12_about_76 (fun H locs M n61 => ?_)
            exact u_iret X hret M (rt2 h).1 (congrArg (va_up V 19) ((rt2 h).2)) rfl dX12_about_79
        · have h := it_f h c54
          by_cases c62 : a1 = 8
          · have h := it_t h c62
            refine lv_tableIn (off := 53) (tgt := 80) hx hb dX12_about_27 (by rw [c62]; decide) (by rw [c62]; decide) (by rw [c62]; rfl) (by decide) ?_
            refine lv_aload_n hx hb dX12_about_80 rfl (lv_at hl 0 rfl) ?_
            refine gf_X12_13 X M hD dX12_about_81 ?_
            refine lv_iload_n hx hb dX12_about_84 rfl (lv_at hl 1 rfl) ?_
            refine lv_iconst (v := 2) hx hb dX12_about_85 (by decide) ?_
            refine lv_isub hx hb dX12_about_86 ?_
            obtain ⟨g63, h⟩ := gd_e h
            obtain ⟨x64, e65, h⟩ := lt_e h
            refine u_ald X M (hD 2 (by decide)) (uAd_sh uSh_md2 (congrFun (va_up_s V 19 _) 2)) (inb_e g63) e65 dX12_about_87 ?_
            exact u_iret X hret M (rt2 h).1 (congrArg (va_up V 19) ((rt2 h).2)) rfl dX12_about_88
          · have h := it_f h c62
            by_cases c66 : a1 = 9
            · have h := it_t h c66
              refine lv_tableIn (off := 53) (tgt := 80) hx hb dX12_about_27 (by rw [c66]; decide) (by rw [c66]; decide) (by rw [c66]; rfl) (by decide) ?_
              refine lv_aload_n hx hb dX12_about_80 rfl (lv_at hl 0 rfl) ?_
              refine gf_X12_13 X M hD dX12_about_81 ?_
              refine lv_iload_n hx hb dX12_about_84 rfl (lv_at hl 1 rfl) ?_
              refine lv_iconst (v := 2) hx hb dX12_about_85 (by decide) ?_
              refine lv_isub hx hb dX12_about_86 ?_
              obtain ⟨g67, h⟩ := gd_e h
              obtain ⟨x68, e69, h⟩ := lt_e h
              refine u_ald X M (hD 2 (by decide)) (uAd_sh uSh_md2 (congrFun (va_up_s V 19 _) 2)) (inb_e g67) e69 dX12_about_87 ?_
              exact u_iret X hret M (rt2 h).1 (congrArg (va_up V 19) ((rt2 h).2)) rfl dX12_about_88
            · have h := it_f h c66
              by_cases c70 : a1 = 10
              · have h := it_t h c70
                refine lv_tableIn (off := 62) (tgt := 89) hx hb dX12_about_27 (by rw [c70]; decide) (by rw [c70]; decide) (by rw [c70]; rfl) (by decide) ?_
                refine lv_aload_n hx hb dX12_about_89 rfl (lv_at hl 0 rfl) ?_
                refine gf_X12_13 X M hD dX12_about_90 ?_
                obtain ⟨x72, e71, h⟩ := bd_e h
                refine u_cSi X M hl.1 (kX12_blocked (uArD2 hD) (congrFun (va_up_s V 19 _) 2) e71) cw_X12_60 ⟨by decide, by decide⟩ rfl rfl (Nat.le_of_ble_eq_true rfl) ⟨Nat.zero_le _, Nat.zero_le _⟩ dX12_about_93 (fun H locs M n73 => ?_)
                exact u_iret X hret M (rt2 h).1 (congrArg (va_up V 19) ((rt2 h).2)) rfl dX12_about_96
              · have h := it_f h c70
                have tc46 := lv_neT (a := 6) c46 (by decide)
                have tc54 := lv_neT (a := 7) c54 (by decide)
                have tc62 := lv_neT (a := 8) c62 (by decide)
                have tc66 := lv_neT (a := 9) c66 (by decide)
                have tc70 := lv_neT (a := 10) c70 (by decide)
                refine lv_tableOut (tgt := 97) hx hb dX12_about_27 (by omega) (by decide) ?_
                refine lv_aload_n hx hb dX12_about_97 rfl (lv_at hl 0 rfl) ?_
                refine gf_X12_13 X M hD dX12_about_98 ?_
                refine lv_iload_n hx hb dX12_about_101 rfl (lv_at hl 1 rfl) ?_
                obtain ⟨g74, h⟩ := gd_e h
                obtain ⟨x75, e76, h⟩ := lt_e h
                refine u_ald X M (hD 2 (by decide)) (uAd_sh uSh_md2 (congrFun (va_up_s V 19 _) 2)) (inb_e g74) e76 dX12_about_102 ?_
                exact u_iret X hret M (rt2 h).1 (congrArg (va_up V 19) ((rt2 h).2)) rfl dX12_about_103
    · have h := it_f h c45
      refine lv_iconst (v := 0) hx hb dX12_about_24 (by decide) ?_
      exact u_iret X hret M (rt2 h).1 (congrArg (va_up V 19) ((rt2 h).2)) rfl dX12_about_25
def fX12_card (S : (Nat → Nat → Int32)) (a1 : Int32) (a2 : Int32) : Option (Int32 × (Nat → Nat → Int32)) :=
  bd (fX12_isCard (S 2) a1) fun x2 =>
  if x2 = 0 then
    bd2 (fX12_refused S 1) fun x34 S35 =>
    if x34 = 0 then
      lt_ (fX12_cardAt  a1) fun x39 =>
      gd (inb (x39 + a2) 1272) <|
      lt_ (S35 2 ((x39 + a2) : Int32).toNatClampNeg) fun x42 =>
      if a2 = 3 then
        some ((x42 - 1), S35)
      else
        some ((x42 - 0), S35)
    else
      some (0, S35)
  else
    lt_ (fX12_in  ((a2 : Int32).toInt64) 0 3) fun x6 =>
    if x6 = 0 then
      bd2 (fX12_refused S 2) fun x10 S11 =>
      if x10 = 0 then
        lt_ (fX12_cardAt  a1) fun x15 =>
        gd (inb (x15 + a2) 1272) <|
        lt_ (S11 2 ((x15 + a2) : Int32).toNatClampNeg) fun x18 =>
        if a2 = 3 then
          some ((x18 - 1), S11)
        else
          some ((x18 - 0), S11)
      else
        some (0, S11)
    else
      bd2 (fX12_refused S 0) fun x22 S23 =>
      if x22 = 0 then
        lt_ (fX12_cardAt  a1) fun x27 =>
        gd (inb (x27 + a2) 1272) <|
        lt_ (S23 2 ((x27 + a2) : Int32).toNatClampNeg) fun x30 =>
        if a2 = 3 then
          some ((x30 - 1), S23)
        else
          some ((x30 - 0), S23)
      else
        some (0, S23)
set_option maxHeartbeats 4000000 in
set_option maxRecDepth 20000 in
theorem kX12_card {l : Launch} {G : UG} {V : uV} (hD : uMd G) {S S' : (Nat → Nat → Int32)} {a1 : Int32} {a2 : Int32} {r : Int32} (h : fX12_card S a1 a2 = some (r, S')) : uMi l G yX12_card cX12_card 3 .int (uR 2 46) [.ref (ga G 19 0), .int a1, .int a2] (va_up V 19 S) r (va_up V 19 S') := by
  refine uMi_of rfl (Nat.le_of_ble_eq_true rfl) (fun p e s m args below meth c ls X hret hl M => ?_)
  have hl : lv_has ls 3 [(0, .ref (ga G 19 0)), (1, .int a1), (2, .int a2)] := hl
  have hx := X.hx
  have hb := X.hb
  unfold fX12_card at h
  refine lv_aload_n hx hb dX12_card_0 rfl (lv_at hl 0 rfl) ?_
  refine lv_aload_n hx hb dX12_card_1 rfl (lv_at hl 0 rfl) ?_
  refine gf_X12_13 X M hD dX12_card_2 ?_
  refine lv_iload_n hx hb dX12_card_5 rfl (lv_at hl 1 rfl) ?_
  obtain ⟨x2, e1, h⟩ := bd_e h
  refine u_cSi X M hl.1 (kX12_isCard (uArD2 hD) (congrFun (va_up_s V 19 _) 2) e1) cw_X12_87 ⟨by decide, by decide⟩ rfl rfl (Nat.le_of_ble_eq_true rfl) ⟨Nat.zero_le _, Nat.zero_le _⟩ dX12_card_6 (fun H locs M n3 => ?_)
  refine lv_if_ne (tgt := 16) hx hb dX12_card_9 (by decide) (fun c4 => ?_) (fun c4 => ?_)
  · have h := it_f h c4
    refine lv_iload_n hx hb dX12_card_16 rfl (lv_at hl 2 rfl) ?_
    refine lv_i2l hx hb dX12_card_17 rfl ?_
    refine lv_lconst (v := 0) hx hb dX12_card_18 rfl ?_
    refine lv_ldc2 (v := 3) hx hb X.1.2.2.2.1 (X.hts (gt_in 1228 (by decide +kernel) (by decide +kernel))) dX12_card_19 ?_
    obtain ⟨x6, e5, h⟩ := lt_e h
    refine u_cSi X M hl.1 (kX12_in  e5.symm) cw_X12_44 ⟨by decide, by decide⟩ rfl rfl (Nat.le_of_ble_eq_true rfl) ⟨Nat.zero_le _, Nat.zero_le _⟩ dX12_card_22 (fun H locs M n7 => ?_)
    refine lv_if_eq (tgt := 32) hx hb dX12_card_25 (by decide) (fun c8 => ?_) (fun c8 => ?_)
    · have h := it_t h c8
      refine lv_iconst (v := 2) hx hb dX12_card_32 (by decide) ?_
      obtain ⟨x10, S11, e9, h⟩ := bd2_e h
      refine u_cVi X M hl.1 (kX12_refused hD e9) cw_X12_101 ⟨by decide, by decide⟩ (rc_X12 X M hD) rfl rfl (Nat.le_of_ble_eq_true rfl) ⟨Nat.zero_le _, Nat.zero_le _⟩ dX12_card_33 (fun H locs M n12 => ?_)
      refine lv_if_eq (tgt := 41) hx hb dX12_card_36 (by decide) (fun c13 => ?_) (fun c13 => ?_)
      · have h := it_t h c13
        refine lv_aload_n hx hb dX12_card_41 rfl (lv_at hl 0 rfl) ?_
        refine gf_X12_13 X M hD dX12_card_42 ?_
        refine lv_iload_n hx hb dX12_card_45 rfl (lv_at hl 1 rfl) ?_
        obtain ⟨x15, e14, h⟩ := lt_e h
        refine u_cSi X M hl.1 (kX12_cardAt  e14.symm) cw_X12_76 ⟨by decide, by decide⟩ rfl rfl (Nat.le_of_ble_eq_true rfl) ⟨Nat.zero_le _, Nat.zero_le _⟩ dX12_card_46 (fun H locs M n16 => ?_)
        refine lv_iload_n hx hb dX12_card_49 rfl (lv_at hl 2 rfl) ?_
        refine lv_iadd hx hb dX12_card_50 ?_
        obtain ⟨g17, h⟩ := gd_e h
        obtain ⟨x18, e19, h⟩ := lt_e h
        refine u_ald X M (hD 2 (by decide)) (uAd_sh uSh_md2 (congrFun (va_up_s V 19 _) 2)) (inb_e g17) e19 dX12_card_51 ?_
        refine lv_iload_n hx hb dX12_card_52 rfl (lv_at hl 2 rfl) ?_
        refine lv_iconst (v := 3) hx hb dX12_card_53 (by decide) ?_
        refine lv_icmp_ne (tgt := 61) hx hb dX12_card_54 (by decide) (fun c20 => ?_) (fun c20 => ?_)
        · have h := it_f h c20
          refine lv_iconst (v := 0) hx hb dX12_card_61 (by decide) ?_
          refine lv_isub hx hb dX12_card_62 ?_
          exact u_iret X hret M (rt2 h).1 (congrArg (va_up V 19) ((rt2 h).2)) rfl dX12_card_63
        · have h := it_t h c20
          refine lv_iconst (v := 1) hx hb dX12_card_57 (by decide) ?_
          refine lv_goto (tgt := 62) hx hb dX12_card_58 (by decide) ?_
          refine lv_isub hx hb dX12_card_62 ?_
          exact u_iret X hret M (rt2 h).1 (congrArg (va_up V 19) ((rt2 h).2)) rfl dX12_card_63
      · have h := it_f h c13
        refine lv_iconst (v := 0) hx hb dX12_card_39 (by decide) ?_
        exact u_iret X hret M (rt2 h).1 (congrArg (va_up V 19) ((rt2 h).2)) rfl dX12_card_40
    · have h := it_f h c8
      refine lv_iconst (v := 0) hx hb dX12_card_28 (by decide) ?_
      refine lv_goto (tgt := 33) hx hb dX12_card_29 (by decide) ?_
      obtain ⟨x22, S23, e21, h⟩ := bd2_e h
      refine u_cVi X M hl.1 (kX12_refused hD e21) cw_X12_101 ⟨by decide, by decide⟩ (rc_X12 X M hD) rfl rfl (Nat.le_of_ble_eq_true rfl) ⟨Nat.zero_le _, Nat.zero_le _⟩ dX12_card_33 (fun H locs M n24 => ?_)
      refine lv_if_eq (tgt := 41) hx hb dX12_card_36 (by decide) (fun c25 => ?_) (fun c25 => ?_)
      · have h := it_t h c25
        refine lv_aload_n hx hb dX12_card_41 rfl (lv_at hl 0 rfl) ?_
        refine gf_X12_13 X M hD dX12_card_42 ?_
        refine lv_iload_n hx hb dX12_card_45 rfl (lv_at hl 1 rfl) ?_
        obtain ⟨x27, e26, h⟩ := lt_e h
        refine u_cSi X M hl.1 (kX12_cardAt  e26.symm) cw_X12_76 ⟨by decide, by decide⟩ rfl rfl (Nat.le_of_ble_eq_true rfl) ⟨Nat.zero_le _, Nat.zero_le _⟩ dX12_card_46 (fun H locs M n28 => ?_)
        refine lv_iload_n hx hb dX12_card_49 rfl (lv_at hl 2 rfl) ?_
        refine lv_iadd hx hb dX12_card_50 ?_
        obtain ⟨g29, h⟩ := gd_e h
        obtain ⟨x30, e31, h⟩ := lt_e h
        refine u_ald X M (hD 2 (by decide)) (uAd_sh uSh_md2 (congrFun (va_up_s V 19 _) 2)) (inb_e g29) e31 dX12_card_51 ?_
        refine lv_iload_n hx hb dX12_card_52 rfl (lv_at hl 2 rfl) ?_
        refine lv_iconst (v := 3) hx hb dX12_card_53 (by decide) ?_
        refine lv_icmp_ne (tgt := 61) hx hb dX12_card_54 (by decide) (fun c32 => ?_) (fun c32 => ?_)
        · have h := it_f h c32
          refine lv_iconst (v := 0) hx hb dX12_card_61 (by decide) ?_
          refine lv_isub hx hb dX12_card_62 ?_
          exact u_iret X hret M (rt2 h).1 (congrArg (va_up V 19) ((rt2 h).2)) rfl dX12_card_63
        · have h := it_t h c32
          refine lv_iconst (v := 1) hx hb dX12_card_57 (by decide) ?_
          refine lv_goto (tgt := 62) hx hb dX12_card_58 (by decide) ?_
          refine lv_isub hx hb dX12_card_62 ?_
          exact u_iret X hret M (rt2 h).1 (congrArg (va_up V 19) ((rt2 h).2)) rfl dX12_card_63
      · have h := it_f h c25
        refine lv_iconst (v := 0) hx hb dX12_card_39 (by decide) ?_
        exact u_iret X hret M (rt2 h).1 (congrArg (va_up V 19) ((rt2 h).2)) rfl dX12_card_40
  · have h := it_t h c4
    refine lv_iconst (v := 1) hx hb dX12_card_12 (by decide) ?_
    refine lv_goto (tgt := 33) hx hb dX12_card_13 (by decide) ?_
    obtain ⟨x34, S35, e33, h⟩ := bd2_e h
    refine u_cVi X M hl.1 (kX12_refused hD e33) cw_X12_101 ⟨by decide, by decide⟩ (rc_X12 X M hD) rfl rfl (Nat.le_of_ble_eq_true rfl) ⟨Nat.zero_le _, Nat.zero_le _⟩ dX12_card_33 (fun H locs M n36 => ?_)
    refine lv_if_eq (tgt := 41) hx hb dX12_card_36 (by decide) (fun c37 => ?_) (fun c37 => ?_)
    · have h := it_t h c37
      refine lv_aload_n hx hb dX12_card_41 rfl (lv_at hl 0 rfl) ?_
      refine gf_X12_13 X M hD dX12_card_42 ?_
      refine lv_iload_n hx hb dX12_card_45 rfl (lv_at hl 1 rfl) ?_
      obtain ⟨x39, e38, h⟩ := lt_e h
      refine u_cSi X M hl.1 (kX12_cardAt  e38.symm) cw_X12_76 ⟨by decide, by decide⟩ rfl rfl (Nat.le_of_ble_eq_true rfl) ⟨Nat.zero_le _, Nat.zero_le _⟩ dX12_card_46 (fun H locs M n40 => ?_)
      refine lv_iload_n hx hb dX12_card_49 rfl (lv_at hl 2 rfl) ?_
      refine lv_iadd hx hb dX12_card_50 ?_
      obtain ⟨g41, h⟩ := gd_e h
      obtain ⟨x42, e43, h⟩ := lt_e h
      refine u_ald X M (hD 2 (by decide)) (uAd_sh uSh_md2 (congrFun (va_up_s V 19 _) 2)) (inb_e g41) e43 dX12_card_51 ?_
      refine lv_iload_n hx hb dX12_card_52 rfl (lv_at hl 2 rfl) ?_
      refine lv_iconst (v := 3) hx hb dX12_card_53 (by decide) ?_
      refine lv_icmp_ne (tgt := 61) hx hb dX12_card_54 (by decide) (fun c44 => ?_) (fun c44 => ?_)
      · have h := it_f h c44
        refine lv_iconst (v := 0) hx hb dX12_card_61 (by decide) ?_
        refine lv_isub hx hb dX12_card_62 ?_
        exact u_iret X hret M (rt2 h).1 (congrArg (va_up V 19) ((rt2 h).2)) rfl dX12_card_63
      · have h := it_t h c44
        refine lv_iconst (v := 1) hx hb dX12_card_57 (by decide) ?_
        refine lv_goto (tgt := 62) hx hb dX12_card_58 (by decide) ?_
        refine lv_isub hx hb dX12_card_62 ?_
        exact u_iret X hret M (rt2 h).1 (congrArg (va_up V 19) ((rt2 h).2)) rfl dX12_card_63
    · have h := it_f h c37
      refine lv_iconst (v := 0) hx hb dX12_card_39 (by decide) ?_
      exact u_iret X hret M (rt2 h).1 (congrArg (va_up V 19) ((rt2 h).2)) rfl dX12_card_40
def fX12_account (S : (Nat → Nat → Int32)) (a1 : Int32) (a2 : Int32) : Option (Int32 × (Nat → Nat → Int32)) :=
  bd (fX12_isAccount (S 2) a1) fun x2 =>
  if x2 = 0 then
    bd2 (fX12_refused S 1) fun x90 S91 =>
    if x90 = 0 then
      lt_ (fX12_accountAt  a1) fun x95 =>
      if a2 = 0 then
        gd (inb (x95 + a2) 1272) <|
        lt_ (S91 2 ((x95 + a2) : Int32).toNatClampNeg) fun x99 =>
        some (x99, S91)
      else if a2 = 1 then
        gd (inb (x95 + a2) 1272) <|
        lt_ (S91 2 ((x95 + a2) : Int32).toNatClampNeg) fun x103 =>
        some (x103, S91)
      else if a2 = 2 then
        gd (inb (x95 + 3) 1272) <|
        lt_ (S91 2 ((x95 + 3) : Int32).toNatClampNeg) fun x107 =>
        some (x107, S91)
      else if a2 = 3 then
        gd (inb (x95 + 2) 1272) <|
        lt_ (S91 2 ((x95 + 2) : Int32).toNatClampNeg) fun x111 =>
        some (x111, S91)
      else if a2 = 4 then
        bd (fX12_isBlocked (S91 2) a1) fun x115 =>
        if x115 = 0 then
          some (0, S91)
        else
          some (1, S91)
      else if a2 = 5 then
        bd (fX12_cardsOf (S91 2) a1) fun x120 =>
        some (x120, S91)
      else 
      if a2 = 7 then
        bd (fX12_inLogs (S91 2) a1 1) fun x127 =>
        some (x127, S91)
      else
        bd (fX12_inLogs (S91 2) a1 0) fun x124 =>
        some (x124, S91)
    else
      some (0, S91)
  else
    lt_ (fX12_in  ((a2 : Int32).toInt64) 0 7) fun x6 =>
    if x6 = 0 then
      bd2 (fX12_refused S 2) fun x10 S11 =>
      if x10 = 0 then
        lt_ (fX12_accountAt  a1) fun x15 =>
        if a2 = 0 then
          gd (inb (x15 + a2) 1272) <|
          lt_ (S11 2 ((x15 + a2) : Int32).toNatClampNeg) fun x19 =>
          some (x19, S11)
        else if a2 = 1 then
          gd (inb (x15 + a2) 1272) <|
          lt_ (S11 2 ((x15 + a2) : Int32).toNatClampNeg) fun x23 =>
          some (x23, S11)
        else if a2 = 2 then
          gd (inb (x15 + 3) 1272) <|
          lt_ (S11 2 ((x15 + 3) : Int32).toNatClampNeg) fun x27 =>
          some (x27, S11)
        else if a2 = 3 then
          gd (inb (x15 + 2) 1272) <|
          lt_ (S11 2 ((x15 + 2) : Int32).toNatClampNeg) fun x31 =>
          some (x31, S11)
        else if a2 = 4 then
          bd (fX12_isBlocked (S11 2) a1) fun x35 =>
          if x35 = 0 then
            some (0, S11)
          else
            some (1, S11)
        else if a2 = 5 then
          bd (fX12_cardsOf (S11 2) a1) fun x40 =>
          some (x40, S11)
        else 
        if a2 = 7 then
          bd (fX12_inLogs (S11 2) a1 1) fun x47 =>
          some (x47, S11)
        else
          bd (fX12_inLogs (S11 2) a1 0) fun x44 =>
          some (x44, S11)
      else
        some (0, S11)
    else
      bd2 (fX12_refused S 0) fun x50 S51 =>
      if x50 = 0 then
        lt_ (fX12_accountAt  a1) fun x55 =>
        if a2 = 0 then
          gd (inb (x55 + a2) 1272) <|
          lt_ (S51 2 ((x55 + a2) : Int32).toNatClampNeg) fun x59 =>
          some (x59, S51)
        else if a2 = 1 then
          gd (inb (x55 + a2) 1272) <|
          lt_ (S51 2 ((x55 + a2) : Int32).toNatClampNeg) fun x63 =>
          some (x63, S51)
        else if a2 = 2 then
          gd (inb (x55 + 3) 1272) <|
          lt_ (S51 2 ((x55 + 3) : Int32).toNatClampNeg) fun x67 =>
          some (x67, S51)
        else if a2 = 3 then
          gd (inb (x55 + 2) 1272) <|
          lt_ (S51 2 ((x55 + 2) : Int32).toNatClampNeg) fun x71 =>
          some (x71, S51)
        else if a2 = 4 then
          bd (fX12_isBlocked (S51 2) a1) fun x75 =>
          if x75 = 0 then
            some (0, S51)
          else
            some (1, S51)
        else if a2 = 5 then
          bd (fX12_cardsOf (S51 2) a1) fun x80 =>
          some (x80, S51)
        else 
        if a2 = 7 then
          bd (fX12_inLogs (S51 2) a1 1) fun x87 =>
          some (x87, S51)
        else
          bd (fX12_inLogs (S51 2) a1 0) fun x84 =>
          some (x84, S51)
      else
        some (0, S51)
set_option maxHeartbeats 4000000 in
set_option maxRecDepth 20000 in
theorem kX12_account {l : Launch} {G : UG} {V : uV} (hD : uMd G) {S S' : (Nat → Nat → Int32)} {a1 : Int32} {a2 : Int32} {r : Int32} (h : fX12_account S a1 a2 = some (r, S')) : uMi l G yX12_account cX12_account 4 .int (uR 2 47) [.ref (ga G 19 0), .int a1, .int a2] (va_up V 19 S) r (va_up V 19 S') := by
  refine uMi_of rfl (Nat.le_of_ble_eq_true rfl) (fun p e s m args below meth c ls X hret hl M => ?_)
  have hl : lv_has ls 4 [(0, .ref (ga G 19 0)), (1, .int a1), (2, .int a2)] := hl
  have hx := X.hx
  have hb := X.hb
  unfold fX12_account at h
  refine lv_aload_n hx hb dX12_account_0 rfl (lv_at hl 0 rfl) ?_
  refine lv_aload_n hx hb dX12_account_1 rfl (lv_at hl 0 rfl) ?_
  refine gf_X12_13 X M hD dX12_account_2 ?_
  refine lv_iload_n hx hb dX12_account_5 rfl (lv_at hl 1 rfl) ?_
  obtain ⟨x2, e1, h⟩ := bd_e h
  refine u_cSi X M hl.1 (kX12_isAccount (uArD2 hD) (congrFun (va_up_s V 19 _) 2) e1) cw_X12_143 ⟨by decide, by decide⟩ rfl rfl (Nat.le_of_ble_eq_true rfl) ⟨Nat.zero_le _, Nat.zero_le _⟩ dX12_account_6 (fun H locs M n3 => ?_)
  refine lv_if_ne (tgt := 16) hx hb dX12_account_9 (by decide) (fun c4 => ?_) (fun c4 => ?_)
  · have h := it_f h c4
    refine lv_iload_n hx hb dX12_account_16 rfl (lv_at hl 2 rfl) ?_
    refine lv_i2l hx hb dX12_account_17 rfl ?_
    refine lv_lconst (v := 0) hx hb dX12_account_18 rfl ?_
    refine lv_ldc2 (v := 7) hx hb X.1.2.2.2.1 (X.hts (gt_in 1233 (by decide +kernel) (by decide +kernel))) dX12_account_19 ?_
    obtain ⟨x6, e5, h⟩ := lt_e h
    refine u_cSi X M hl.1 (kX12_in  e5.symm) cw_X12_44 ⟨by decide, by decide⟩ rfl rfl (Nat.le_of_ble_eq_true rfl) ⟨Nat.zero_le _, Nat.zero_le _⟩ dX12_account_22 (fun H locs M n7 => ?_)
    refine lv_if_eq (tgt := 32) hx hb dX12_account_25 (by decide) (fun c8 => ?_) (fun c8 => ?_)
    · have h := it_t h c8
      refine lv_iconst (v := 2) hx hb dX12_account_32 (by decide) ?_
      obtain ⟨x10, S11, e9, h⟩ := bd2_e h
      refine u_cVi X M hl.1 (kX12_refused hD e9) cw_X12_101 ⟨by decide, by decide⟩ (rc_X12 X M hD) rfl rfl (Nat.le_of_ble_eq_true rfl) ⟨Nat.zero_le _, Nat.zero_le _⟩ dX12_account_33 (fun H locs M n12 => ?_)
      refine lv_if_eq (tgt := 41) hx hb dX12_account_36 (by decide) (fun c13 => ?_) (fun c13 => ?_)
      · have h := it_t h c13
        refine lv_iload_n hx hb dX12_account_41 rfl (lv_at hl 1 rfl) ?_
        obtain ⟨x15, e14, h⟩ := lt_e h
        refine u_cSi X M hl.1 (kX12_accountAt  e14.symm) cw_X12_50 ⟨by decide, by decide⟩ rfl rfl (Nat.le_of_ble_eq_true rfl) ⟨Nat.zero_le _, Nat.zero_le _⟩ dX12_account_42 (fun H locs M n16 => ?_)
        refine lv_istore_n (lv' := [(3, .int x15), (0, .ref (ga G 19 0)), (1, .int a1), (2, .int a2)]) hx hb dX12_account_45 rfl hl (by decide) rfl (fun ls hl => ?_)
        refine lv_iload_n hx hb dX12_account_46 rfl (lv_at hl 3 rfl) ?_
        by_cases c17 : a2 = 0
        · have h := it_t h c17
          refine lv_tableIn (off := 37) (tgt := 84) hx hb dX12_account_47 (by rw [c17]; decide) (by rw [c17]; decide) (by rw [c17]; rfl) (by decide) ?_
          refine lv_aload_n hx hb dX12_account_84 rfl (lv_at hl 1 rfl) ?_
          refine gf_X12_13 X M hD dX12_account_85 ?_
          refine lv_iload_n hx hb dX12_account_88 rfl (lv_at hl 0 rfl) ?_
          refine lv_iload_n hx hb dX12_account_89 rfl (lv_at hl 3 rfl) ?_
          refine lv_iadd hx hb dX12_account_90 ?_
          obtain ⟨g18, h⟩ := gd_e h
          obtain ⟨x19, e20, h⟩ := lt_e h
          refine u_ald X M (hD 2 (by decide)) (uAd_sh uSh_md2 (congrFun (va_up_s V 19 _) 2)) (inb_e g18) e20 dX12_account_91 ?_
          exact u_iret X hret M (rt2 h).1 (congrArg (va_up V 19) ((rt2 h).2)) rfl dX12_account_92
        · have h := it_f h c17
          by_cases c21 : a2 = 1
          · have h := it_t h c21
            refine lv_tableIn (off := 37) (tgt := 84) hx hb dX12_account_47 (by rw [c21]; decide) (by rw [c21]; decide) (by rw [c21]; rfl) (by decide) ?_
            refine lv_aload_n hx hb dX12_account_84 rfl (lv_at hl 1 rfl) ?_
            refine gf_X12_13 X M hD dX12_account_85 ?_
            refine lv_iload_n hx hb dX12_account_88 rfl (lv_at hl 0 rfl) ?_
            refine lv_iload_n hx hb dX12_account_89 rfl (lv_at hl 3 rfl) ?_
            refine lv_iadd hx hb dX12_account_90 ?_
            obtain ⟨g22, h⟩ := gd_e h
            obtain ⟨x23, e24, h⟩ := lt_e h
            refine u_ald X M (hD 2 (by decide)) (uAd_sh uSh_md2 (congrFun (va_up_s V 19 _) 2)) (inb_e g22) e24 dX12_account_91 ?_
            exact u_iret X hret M (rt2 h).1 (congrArg (va_up V 19) ((rt2 h).2)) rfl dX12_account_92
          · have h := it_f h c21
            by_cases c25 : a2 = 2
            · have h := it_t h c25
              refine lv_tableIn (off := 46) (tgt := 93) hx hb dX12_account_47 (by rw [c25]; decide) (by rw [c25]; decide) (by rw [c25]; rfl) (by decide) ?_
              refine lv_aload_n hx hb dX12_account_93 rfl (lv_at hl 1 rfl) ?_
              refine gf_X12_13 X M hD dX12_account_94 ?_
              refine lv_iload_n hx hb dX12_account_97 rfl (lv_at hl 0 rfl) ?_
              refine lv_iconst (v := 3) hx hb dX12_account_98 (by decide) ?_
              refine lv_iadd hx hb dX12_account_99 ?_
              obtain ⟨g26, h⟩ := gd_e h
              obtain ⟨x27, e28, h⟩ := lt_e h
              refine u_ald X M (hD 2 (by decide)) (uAd_sh uSh_md2 (congrFun (va_up_s V 19 _) 2)) (inb_e g26) e28 dX12_account_100 ?_
              exact u_iret X hret M (rt2 h).1 (congrArg (va_up V 19) ((rt2 h).2)) rfl dX12_account_101
            · have h := it_f h c25
              by_cases c29 : a2 = 3
              · have h := it_t h c29
                refine lv_tableIn (off := 55) (tgt := 102) hx hb dX12_account_47 (by rw [c29]; decide) (by rw [c29]; decide) (by rw [c29]; rfl) (by decide) ?_
                refine lv_aload_n hx hb dX12_account_102 rfl (lv_at hl 1 rfl) ?_
                refine gf_X12_13 X M hD dX12_account_103 ?_
                refine lv_iload_n hx hb dX12_account_106 rfl (lv_at hl 0 rfl) ?_
                refine lv_iconst (v := 2) hx hb dX12_account_107 (by decide) ?_
                refine lv_iadd hx hb dX12_account_108 ?_
                obtain ⟨g30, h⟩ := gd_e h
                obtain ⟨x31, e32, h⟩ := lt_e h
                refine u_ald X M (hD 2 (by decide)) (uAd_sh uSh_md2 (congrFun (va_up_s V 19 _) 2)) (inb_e g30) e32 dX12_account_109 ?_
                exact u_iret X hret M (rt2 h).1 (congrArg (va_up V 19) ((rt2 h).2)) rfl dX12_account_110
              · have h := it_f h c29
                by_cases c33 : a2 = 4
                · have h := it_t h c33
                  refine lv_tableIn (off := 64) (tgt := 111) hx hb dX12_account_47 (by rw [c33]; decide) (by rw [c33]; decide) (by rw [c33]; rfl) (by decide) ?_
                  refine lv_aload_n hx hb dX12_account_111 rfl (lv_at hl 1 rfl) ?_
                  refine gf_X12_13 X M hD dX12_account_112 ?_
                  refine lv_iload_n hx hb dX12_account_115 rfl (lv_at hl 2 rfl) ?_
                  obtain ⟨x35, e34, h⟩ := bd_e h
                  refine u_cSi X M hl.1 (kX12_isBlocked (uArD2 hD) (congrFun (va_up_s V 19 _) 2) e34) cw_X12_53 ⟨by decide, by decide⟩ rfl rfl (Nat.le_of_ble_eq_true rfl) ⟨Nat.zero_le _, Nat.zero_le _⟩ dX12_account_116 (fun H locs M n36 => ?_)
                  refine lv_if_eq (tgt := 126) hx hb dX12_account_119 (by decide) (fun c37 => ?_) (fun c37 => ?_)
                  · have h := it_t h c37
                    refine lv_iconst (v := 0) hx hb dX12_account_126 (by decide) ?_
                    exact u_iret X hret M (rt2 h).1 (congrArg (va_up V 19) ((rt2 h).2)) rfl dX12_account_127
                  · have h := it_f h c37
                    refine lv_iconst (v := 1) hx hb dX12_account_122 (by decide) ?_
                    refine lv_goto (tgt := 127) hx hb dX12_account_123 (by decide) ?_
                    exact u_iret X hret M (rt2 h).1 (congrArg (va_up V 19) ((rt2 h).2)) rfl dX12_account_127
                · have h := it_f h c33
                  by_cases c38 : a2 = 5
                  · have h := it_t h c38
                    refine lv_tableIn (off := 81) (tgt := 128) hx hb dX12_account_47 (by rw [c38]; decide) (by rw [c38]; decide) (by rw [c38]; rfl) (by decide) ?_
                    refine lv_aload_n hx hb dX12_account_128 rfl (lv_at hl 1 rfl) ?_
                    refine gf_X12_13 X M hD dX12_account_129 ?_
                    refine lv_iload_n hx hb dX12_account_132 rfl (lv_at hl 2 rfl) ?_
                    obtain ⟨x40, e39, h⟩ := bd_e h
                    refine u_cSi X M hl.1 (kX12_cardsOf (uArD2 hD) (congrFun (va_up_s V 19 _) 2) e39) cw_X12_180 ⟨by decide, by decide⟩ rfl rfl (Nat.le_of_ble_eq_true rfl) ⟨Nat.zero_le _, Nat.zero_le _⟩ dX12_account_133 (fun H locs M n41 => ?_)
                    exact u_iret X hret M (rt2 h).1 (congrArg (va_up V 19) ((rt2 h).2)) rfl dX12_account_136
                  · have h := it_f h c38
                    have tc17 := lv_neT (a := 0) c17 (by decide)
                    have tc21 := lv_neT (a := 1) c21 (by decide)
                    have tc25 := lv_neT (a := 2) c25 (by decide)
                    have tc29 := lv_neT (a := 3) c29 (by decide)
                    have tc33 := lv_neT (a := 4) c33 (by decide)
                    have tc38 := lv_neT (a := 5) c38 (by decide)
                    refine lv_tableOut (tgt := 137) hx hb dX12_account_47 (by omega) (by decide) ?_
                    refine lv_aload_n hx hb dX12_account_137 rfl (lv_at hl 1 rfl) ?_
                    refine gf_X12_13 X M hD dX12_account_138 ?_
                    refine lv_iload_n hx hb dX12_account_141 rfl (lv_at hl 2 rfl) ?_
                    refine lv_iload_n hx hb dX12_account_142 rfl (lv_at hl 3 rfl) ?_
                    refine lv_bipush (v := 7) hx hb dX12_account_143 (by decide) ?_
                    refine lv_icmp_ne (tgt := 152) hx hb dX12_account_145 (by decide) (fun c42 => ?_) (fun c42 => ?_)
                    · have h := it_f h c42
                      refine lv_iconst (v := 0) hx hb dX12_account_152 (by decide) ?_
                      obtain ⟨x44, e43, h⟩ := bd_e h
                      refine u_cSi X M hl.1 (kX12_inLogs (uArD2 hD) (congrFun (va_up_s V 19 _) 2) e43) cw_X12_174 ⟨by decide, by decide⟩ rfl rfl (Nat.le_of_ble_eq_true rfl) ⟨Nat.zero_le _, Nat.zero_le _⟩ dX12_account_153 (fun H locs M n45 => ?_)
                      exact u_iret X hret M (rt2 h).1 (congrArg (va_up V 19) ((rt2 h).2)) rfl dX12_account_156
                    · have h := it_t h c42
                      refine lv_iconst (v := 1) hx hb dX12_account_148 (by decide) ?_
                      refine lv_goto (tgt := 153) hx hb dX12_account_149 (by decide) ?_
                      obtain ⟨x47, e46, h⟩ := bd_e h
                      refine u_cSi X M hl.1 (kX12_inLogs (uArD2 hD) (congrFun (va_up_s V 19 _) 2) e46) cw_X12_174 ⟨by decide, by decide⟩ rfl rfl (Nat.le_of_ble_eq_true rfl) ⟨Nat.zero_le _, Nat.zero_le _⟩ dX12_account_153 (fun H locs M n48 => ?_)
                      exact u_iret X hret M (rt2 h).1 (congrArg (va_up V 19) ((rt2 h).2)) rfl dX12_account_156
      · have h := it_f h c13
        refine lv_iconst (v := 0) hx hb dX12_account_39 (by decide) ?_
        exact u_iret X hret M (rt2 h).1 (congrArg (va_up V 19) ((rt2 h).2)) rfl dX12_account_40
    · have h := it_f h c8
      refine lv_iconst (v := 0) hx hb dX12_account_28 (by decide) ?_
      refine lv_goto (tgt := 33) hx hb dX12_account_29 (by decide) ?_
      obtain ⟨x50, S51, e49, h⟩ := bd2_e h
      refine u_cVi X M hl.1 (kX12_refused hD e49) cw_X12_101 ⟨by decide, by decide⟩ (rc_X12 X M hD) rfl rfl (Nat.le_of_ble_eq_true rfl) ⟨Nat.zero_le _, Nat.zero_le _⟩ dX12_account_33 (fun H locs M n52 => ?_)
      refine lv_if_eq (tgt := 41) hx hb dX12_account_36 (by decide) (fun c53 => ?_) (fun c53 => ?_)
      · have h := it_t h c53
        refine lv_iload_n hx hb dX12_account_41 rfl (lv_at hl 1 rfl) ?_
        obtain ⟨x55, e54, h⟩ := lt_e h
        refine u_cSi X M hl.1 (kX12_accountAt  e54.symm) cw_X12_50 ⟨by decide, by decide⟩ rfl rfl (Nat.le_of_ble_eq_true rfl) ⟨Nat.zero_le _, Nat.zero_le _⟩ dX12_account_42 (fun H locs M n56 => ?_)
        refine lv_istore_n (lv' := [(3, .int x55), (0, .ref (ga G 19 0)), (1, .int a1), (2, .int a2)]) hx hb dX12_account_45 rfl hl (by decide) rfl (fun ls hl => ?_)
        refine lv_iload_n hx hb dX12_account_46 rfl (lv_at hl 3 rfl) ?_
        by_cases c57 : a2 = 0
        · have h := it_t h c57
          refine lv_tableIn (off := 37) (tgt := 84) hx hb dX12_account_47 (by rw [c57]; decide) (by rw [c57]; decide) (by rw [c57]; rfl) (by decide) ?_
          refine lv_aload_n hx hb dX12_account_84 rfl (lv_at hl 1 rfl) ?_
          refine gf_X12_13 X M hD dX12_account_85 ?_
          refine lv_iload_n hx hb dX12_account_88 rfl (lv_at hl 0 rfl) ?_
          refine lv_iload_n hx hb dX12_account_89 rfl (lv_at hl 3 rfl) ?_
          refine lv_iadd hx hb dX12_account_90 ?_
          obtain ⟨g58, h⟩ := gd_e h
          obtain ⟨x59, e60, h⟩ := lt_e h
          refine u_ald X M (hD 2 (by decide)) (uAd_sh uSh_md2 (congrFun (va_up_s V 19 _) 2)) (inb_e g58) e60 dX12_account_91 ?_
          exact u_iret X hret M (rt2 h).1 (congrArg (va_up V 19) ((rt2 h).2)) rfl dX12_account_92
        · have h := it_f h c57
          by_cases c61 : a2 = 1
          · have h := it_t h c61
            refine lv_tableIn (off := 37) (tgt := 84) hx hb dX12_account_47 (by rw [c61]; decide) (by rw [c61]; decide) (by rw [c61]; rfl) (by decide) ?_
            refine lv_aload_n hx hb dX12_account_84 rfl (lv_at hl 1 rfl) ?_
            refine gf_X12_13 X M hD dX12_account_85 ?_
            refine lv_iload_n hx hb dX12_account_88 rfl (lv_at hl 0 rfl) ?_
            refine lv_iload_n hx hb dX12_account_89 rfl (lv_at hl 3 rfl) ?_
            refine lv_iadd hx hb dX12_account_90 ?_
            obtain ⟨g62, h⟩ := gd_e h
            obtain ⟨x63, e64, h⟩ := lt_e h
            refine u_ald X M (hD 2 (by decide)) (uAd_sh uSh_md2 (congrFun (va_up_s V 19 _) 2)) (inb_e g62) e64 dX12_account_91 ?_
            exact u_iret X hret M (rt2 h).1 (congrArg (va_up V 19) ((rt2 h).2)) rfl dX12_account_92
          · have h := it_f h c61
            by_cases c65 : a2 = 2
            · have h := it_t h c65
              refine lv_tableIn (off := 46) (tgt := 93) hx hb dX12_account_47 (by rw [c65]; decide) (by rw [c65]; decide) (by rw [c65]; rfl) (by decide) ?_
              refine lv_aload_n hx hb dX12_account_93 rfl (lv_at hl 1 rfl) ?_
              refine gf_X12_13 X M hD dX12_account_94 ?_
              refine lv_iload_n hx hb dX12_account_97 rfl (lv_at hl 0 rfl) ?_
              refine lv_iconst (v := 3) hx hb dX12_account_98 (by decide) ?_
              refine lv_iadd hx hb dX12_account_99 ?_
              obtain ⟨g66, h⟩ := gd_e h
              obtain ⟨x67, e68, h⟩ := lt_e h
              refine u_ald X M (hD 2 (by decide)) (uAd_sh uSh_md2 (congrFun (va_up_s V 19 _) 2)) (inb_e g66) e68 dX12_account_100 ?_
              exact u_iret X hret M (rt2 h).1 (congrArg (va_up V 19) ((rt2 h).2)) rfl dX12_account_101
            · have h := it_f h c65
              by_cases c69 : a2 = 3
              · have h := it_t h c69
                refine lv_tableIn (off := 55) (tgt := 102) hx hb dX12_account_47 (by rw [c69]; decide) (by rw [c69]; decide) (by rw [c69]; rfl) (by decide) ?_
                refine lv_aload_n hx hb dX12_account_102 rfl (lv_at hl 1 rfl) ?_
                refine gf_X12_13 X M hD dX12_account_103 ?_
                refine lv_iload_n hx hb dX12_account_106 rfl (lv_at hl 0 rfl) ?_
                refine lv_iconst (v := 2) hx hb dX12_account_107 (by decide) ?_
                refine lv_iadd hx hb dX12_account_108 ?_
                obtain ⟨g70, h⟩ := gd_e h
                obtain ⟨x71, e72, h⟩ := lt_e h
                refine u_ald X M (hD 2 (by decide)) (uAd_sh uSh_md2 (congrFun (va_up_s V 19 _) 2)) (inb_e g70) e72 dX12_account_109 ?_
                exact u_iret X hret M (rt2 h).1 (congrArg (va_up V 19) ((rt2 h).2)) rfl dX12_account_110
              · have h := it_f h c69
                by_cases c73 : a2 = 4
                · have h := it_t h c73
                  refine lv_tableIn (off := 64) (tgt := 111) hx hb dX12_account_47 (by rw [c73]; decide) (by rw [c73]; decide) (by rw [c73]; rfl) (by decide) ?_
                  refine lv_aload_n hx hb dX12_account_111 rfl (lv_at hl 1 rfl) ?_
                  refine gf_X12_13 X M hD dX12_account_112 ?_
                  refine lv_iload_n hx hb dX12_account_115 rfl (lv_at hl 2 rfl) ?_
                  obtain ⟨x75, e74, h⟩ := bd_e h
                  refine u_cSi X M hl.1 (kX12_isBlocked (uArD2 hD) (congrFun (va_up_s V 19 _) 2) e74) cw_X12_53 ⟨by decide, by decide⟩ rfl rfl (Nat.le_of_ble_eq_true rfl) ⟨Nat.zero_le _, Nat.zero_le _⟩ dX12_account_116 (fun H locs M n76 => ?_)
                  refine lv_if_eq (tgt := 126) hx hb dX12_account_119 (by decide) (fun c77 => ?_) (fun c77 => ?_)
                  · have h := it_t h c77
                    refine lv_iconst (v := 0) hx hb dX12_account_126 (by decide) ?_
                    exact u_iret X hret M (rt2 h).1 (congrArg (va_up V 19) ((rt2 h).2)) rfl dX12_account_127
                  · have h := it_f h c77
                    refine lv_iconst (v := 1) hx hb dX12_account_122 (by decide) ?_
                    refine lv_goto (tgt := 127) hx hb dX12_account_123 (by decide) ?_
                    exact u_iret X hret M (rt2 h).1 (congrArg (va_up V 19) ((rt2 h).2)) rfl dX12_account_127
                · have h := it_f h c73
                  by_cases c78 : a2 = 5
                  · have h := it_t h c78
                    refine lv_tableIn (off := 81) (tgt := 128) hx hb dX12_account_47 (by rw [c78]; decide) (by rw [c78]; decide) (by rw [c78]; rfl) (by decide) ?_
                    refine lv_aload_n hx hb dX12_account_128 rfl (lv_at hl 1 rfl) ?_
                    refine gf_X12_13 X M hD dX12_account_129 ?_
                    refine lv_iload_n hx hb dX12_account_132 rfl (lv_at hl 2 rfl) ?_
                    obtain ⟨x80, e79, h⟩ := bd_e h
                    refine u_cSi X M hl.1 (kX12_cardsOf (uArD2 hD) (congrFun (va_up_s V 19 _) 2) e79) cw_X12_180 ⟨by decide, by decide⟩ rfl rfl (Nat.le_of_ble_eq_true rfl) ⟨Nat.zero_le _, Nat.zero_le _⟩ dX12_account_133 (fun H locs M n81 => ?_)
                    exact u_iret X hret M (rt2 h).1 (congrArg (va_up V 19) ((rt2 h).2)) rfl dX12_account_136
                  · have h := it_f h c78
                    have tc57 := lv_neT (a := 0) c57 (by decide)
                    have tc61 := lv_neT (a := 1) c61 (by decide)
                    have tc65 := lv_neT (a := 2) c65 (by decide)
                    have tc69 := lv_neT (a := 3) c69 (by decide)
                    have tc73 := lv_neT (a := 4) c73 (by decide)
                    have tc78 := lv_neT (a := 5) c78 (by decide)
                    refine lv_tableOut (tgt := 137) hx hb dX12_account_47 (by omega) (by decide) ?_
                    refine lv_aload_n hx hb dX12_account_137 rfl (lv_at hl 1 rfl) ?_
                    refine gf_X12_13 X M hD dX12_account_138 ?_
                    refine lv_iload_n hx hb dX12_account_141 rfl (lv_at hl 2 rfl) ?_
                    refine lv_iload_n hx hb dX12_account_142 rfl (lv_at hl 3 rfl) ?_
                    refine lv_bipush (v := 7) hx hb dX12_account_143 (by decide) ?_
                    refine lv_icmp_ne (tgt := 152) hx hb dX12_account_145 (by decide) (fun c82 => ?_) (fun c82 => ?_)
                    · have h := it_f h c82
                      refine lv_iconst (v := 0) hx hb dX12_account_152 (by decide) ?_
                      obtain ⟨x84, e83, h⟩ := bd_e h
                      refine u_cSi X M hl.1 (kX12_inLogs (uArD2 hD) (congrFun (va_up_s V 19 _) 2) e83) cw_X12_174 ⟨by decide, by decide⟩ rfl rfl (Nat.le_of_ble_eq_true rfl) ⟨Nat.zero_le _, Nat.zero_le _⟩ dX12_account_153 (fun H locs M n85 => ?_)
                      exact u_iret X hret M (rt2 h).1 (congrArg (va_up V 19) ((rt2 h).2)) rfl dX12_account_156
                    · have h := it_t h c82
                      refine lv_iconst (v := 1) hx hb dX12_account_148 (by decide) ?_
                      refine lv_goto (tgt := 153) hx hb dX12_account_149 (by decide) ?_
                      obtain ⟨x87, e86, h⟩ := bd_e h
                      refine u_cSi X M hl.1 (kX12_inLogs (uArD2 hD) (congrFun (va_up_s V 19 _) 2) e86) cw_X12_174 ⟨by decide, by decide⟩ rfl rfl (Nat.le_of_ble_eq_true rfl) ⟨Nat.zero_le _, Nat.zero_le _⟩ dX12_account_153 (fun H locs M n88 => ?_)
                      exact u_iret X hret M (rt2 h).1 (congrArg (va_up V 19) ((rt2 h).2)) rfl dX12_account_156
      · have h := it_f h c53
        refine lv_iconst (v := 0) hx hb dX12_account_39 (by decide) ?_
        exact u_iret X hret M (rt2 h).1 (congrArg (va_up V 19) ((rt2 h).2)) rfl dX12_account_40
  · have h := it_t h c4
    refine lv_iconst (v := 1) hx hb dX12_account_12 (by decide) ?_
    refine lv_goto (tgt := 33) hx hb dX12_account_13 (by decide) ?_
    obtain ⟨x90, S91, e89, h⟩ := bd2_e h
    refine u_cVi X M hl.1 (kX12_refused hD e89) cw_X12_101 ⟨by decide, by decide⟩ (rc_X12 X M hD) rfl rfl (Nat.le_of_ble_eq_true rfl) ⟨Nat.zero_le _, Nat.zero_le _⟩ dX12_account_33 (fun H locs M n92 => ?_)
    refine lv_if_eq (tgt := 41) hx hb dX12_account_36 (by decide) (fun c93 => ?_) (fun c93 => ?_)
    · have h := it_t h c93
      refine lv_iload_n hx hb dX12_account_41 rfl (lv_at hl 1 rfl) ?_
      obtain ⟨x95, e94, h⟩ := lt_e h
      refine u_cSi X M hl.1 (kX12_accountAt  e94.symm) cw_X12_50 ⟨by decide, by decide⟩ rfl rfl (Nat.le_of_ble_eq_true rfl) ⟨Nat.zero_le _, Nat.zero_le _⟩ dX12_account_42 (fun H locs M n96 => ?_)
      refine lv_istore_n (lv' := [(3, .int x95), (0, .ref (ga G 19 0)), (1, .int a1), (2, .int a2)]) hx hb dX12_account_45 rfl hl (by decide) rfl (fun ls hl => ?_)
      refine lv_iload_n hx hb dX12_account_46 rfl (lv_at hl 3 rfl) ?_
      by_cases c97 : a2 = 0
      · have h := it_t h c97
        refine lv_tableIn (off := 37) (tgt := 84) hx hb dX12_account_47 (by rw [c97]; decide) (by rw [c97]; decide) (by rw [c97]; rfl) (by decide) ?_
        refine lv_aload_n hx hb dX12_account_84 rfl (lv_at hl 1 rfl) ?_
        refine gf_X12_13 X M hD dX12_account_85 ?_
        refine lv_iload_n hx hb dX12_account_88 rfl (lv_at hl 0 rfl) ?_
        refine lv_iload_n hx hb dX12_account_89 rfl (lv_at hl 3 rfl) ?_
        refine lv_iadd hx hb dX12_account_90 ?_
        obtain ⟨g98, h⟩ := gd_e h
        obtain ⟨x99, e100, h⟩ := lt_e h
        refine u_ald X M (hD 2 (by decide)) (uAd_sh uSh_md2 (congrFun (va_up_s V 19 _) 2)) (inb_e g98) e100 dX12_account_91 ?_
        exact u_iret X hret M (rt2 h).1 (congrArg (va_up V 19) ((rt2 h).2)) rfl dX12_account_92
      · have h := it_f h c97
        by_cases c101 : a2 = 1
        · have h := it_t h c101
          refine lv_tableIn (off := 37) (tgt := 84) hx hb dX12_account_47 (by rw [c101]; decide) (by rw [c101]; decide) (by rw [c101]; rfl) (by decide) ?_
          refine lv_aload_n hx hb dX12_account_84 rfl (lv_at hl 1 rfl) ?_
          refine gf_X12_13 X M hD dX12_account_85 ?_
          refine lv_iload_n hx hb dX12_account_88 rfl (lv_at hl 0 rfl) ?_
          refine lv_iload_n hx hb dX12_account_89 rfl (lv_at hl 3 rfl) ?_
          refine lv_iadd hx hb dX12_account_90 ?_
          obtain ⟨g102, h⟩ := gd_e h
          obtain ⟨x103, e104, h⟩ := lt_e h
          refine u_ald X M (hD 2 (by decide)) (uAd_sh uSh_md2 (congrFun (va_up_s V 19 _) 2)) (inb_e g102) e104 dX12_account_91 ?_
          exact u_iret X hret M (rt2 h).1 (congrArg (va_up V 19) ((rt2 h).2)) rfl dX12_account_92
        · have h := it_f h c101
          by_cases c105 : a2 = 2
          · have h := it_t h c105
            refine lv_tableIn (off := 46) (tgt := 93) hx hb dX12_account_47 (by rw [c105]; decide) (by rw [c105]; decide) (by rw [c105]; rfl) (by decide) ?_
            refine lv_aload_n hx hb dX12_account_93 rfl (lv_at hl 1 rfl) ?_
            refine gf_X12_13 X M hD dX12_account_94 ?_
            refine lv_iload_n hx hb dX12_account_97 rfl (lv_at hl 0 rfl) ?_
            refine lv_iconst (v := 3) hx hb dX12_account_98 (by decide) ?_
            refine lv_iadd hx hb dX12_account_99 ?_
            obtain ⟨g106, h⟩ := gd_e h
            obtain ⟨x107, e108, h⟩ := lt_e h
            refine u_ald X M (hD 2 (by decide)) (uAd_sh uSh_md2 (congrFun (va_up_s V 19 _) 2)) (inb_e g106) e108 dX12_account_100 ?_
            exact u_iret X hret M (rt2 h).1 (congrArg (va_up V 19) ((rt2 h).2)) rfl dX12_account_101
          · have h := it_f h c105
            by_cases c109 : a2 = 3
            · have h := it_t h c109
              refine lv_tableIn (off := 55) (tgt := 102) hx hb dX12_account_47 (by rw [c109]; decide) (by rw [c109]; decide) (by rw [c109]; rfl) (by decide) ?_
              refine lv_aload_n hx hb dX12_account_102 rfl (lv_at hl 1 rfl) ?_
              refine gf_X12_13 X M hD dX12_account_103 ?_
              refine lv_iload_n hx hb dX12_account_106 rfl (lv_at hl 0 rfl) ?_
              refine lv_iconst (v := 2) hx hb dX12_account_107 (by decide) ?_
              refine lv_iadd hx hb dX12_account_108 ?_
              obtain ⟨g110, h⟩ := gd_e h
              obtain ⟨x111, e112, h⟩ := lt_e h
              refine u_ald X M (hD 2 (by decide)) (uAd_sh uSh_md2 (congrFun (va_up_s V 19 _) 2)) (inb_e g110) e112 dX12_account_109 ?_
              exact u_iret X hret M (rt2 h).1 (congrArg (va_up V 19) ((rt2 h).2)) rfl dX12_account_110
            · have h := it_f h c109
              by_cases c113 : a2 = 4
              · have h := it_t h c113
                refine lv_tableIn (off := 64) (tgt := 111) hx hb dX12_account_47 (by rw [c113]; decide) (by rw [c113]; decide) (by rw [c113]; rfl) (by decide) ?_
                refine lv_aload_n hx hb dX12_account_111 rfl (lv_at hl 1 rfl) ?_
                refine gf_X12_13 X M hD dX12_account_112 ?_
                refine lv_iload_n hx hb dX12_account_115 rfl (lv_at hl 2 rfl) ?_
                obtain ⟨x115, e114, h⟩ := bd_e h
                refine u_cSi X M hl.1 (kX12_isBlocked (uArD2 hD) (congrFun (va_up_s V 19 _) 2) e114) cw_X12_53 ⟨by decide, by decide⟩ rfl rfl (Nat.le_of_ble_eq_true rfl) ⟨Nat.zero_le _, Nat.zero_le _⟩ dX12_account_116 (fun H locs M n116 => ?_)
                refine lv_if_eq (tgt := 126) hx hb dX12_account_119 (by decide) (fun c117 => ?_) (fun c117 => ?_)
                · have h := it_t h c117
                  refine lv_iconst (v := 0) hx hb dX12_account_126 (by decide) ?_
                  exact u_iret X hret M (rt2 h).1 (congrArg (va_up V 19) ((rt2 h).2)) rfl dX12_account_127
                · have h := it_f h c117
                  refine lv_iconst (v := 1) hx hb dX12_account_122 (by decide) ?_
                  refine lv_goto (tgt := 127) hx hb dX12_account_123 (by decide) ?_
                  exact u_iret X hret M (rt2 h).1 (congrArg (va_up V 19) ((rt2 h).2)) rfl dX12_account_127
              · have h := it_f h c113
                by_cases c118 : a2 = 5
                · have h := it_t h c118
                  refine lv_tableIn (off := 81) (tgt := 128) hx hb dX12_account_47 (by rw [c118]; decide) (by rw [c118]; decide) (by rw [c118]; rfl) (by decide) ?_
                  refine lv_aload_n hx hb dX12_account_128 rfl (lv_at hl 1 rfl) ?_
                  refine gf_X12_13 X M hD dX12_account_129 ?_
                  refine lv_iload_n hx hb dX12_account_132 rfl (lv_at hl 2 rfl) ?_
                  obtain ⟨x120, e119, h⟩ := bd_e h
                  refine u_cSi X M hl.1 (kX12_cardsOf (uArD2 hD) (congrFun (va_up_s V 19 _) 2) e119) cw_X12_180 ⟨by decide, by decide⟩ rfl rfl (Nat.le_of_ble_eq_true rfl) ⟨Nat.zero_le _, Nat.zero_le _⟩ dX12_account_133 (fun H locs M n121 => ?_)
                  exact u_iret X hret M (rt2 h).1 (congrArg (va_up V 19) ((rt2 h).2)) rfl dX12_account_136
                · have h := it_f h c118
                  have tc97 := lv_neT (a := 0) c97 (by decide)
                  have tc101 := lv_neT (a := 1) c101 (by decide)
                  have tc105 := lv_neT (a := 2) c105 (by decide)
                  have tc109 := lv_neT (a := 3) c109 (by decide)
                  have tc113 := lv_neT (a := 4) c113 (by decide)
                  have tc118 := lv_neT (a := 5) c118 (by decide)
                  refine lv_tableOut (tgt := 137) hx hb dX12_account_47 (by omega) (by decide) ?_
                  refine lv_aload_n hx hb dX12_account_137 rfl (lv_at hl 1 rfl) ?_
                  refine gf_X12_13 X M hD dX12_account_138 ?_
                  refine lv_iload_n hx hb dX12_account_141 rfl (lv_at hl 2 rfl) ?_
                  refine lv_iload_n hx hb dX12_account_142 rfl (lv_at hl 3 rfl) ?_
                  refine lv_bipush (v := 7) hx hb dX12_account_143 (by decide) ?_
                  refine lv_icmp_ne (tgt := 152) hx hb dX12_account_145 (by decide) (fun c122 => ?_) (fun c122 => ?_)
                  · have h := it_f h c122
                    refine lv_iconst (v := 0) hx hb dX12_account_152 (by decide) ?_
                    obtain ⟨x124, e123, h⟩ := bd_e h
                    refine u_cSi X M hl.1 (kX12_inLogs (uArD2 hD) (congrFun (va_up_s V 19 _) 2) e123) cw_X12_174 ⟨by decide, by decide⟩ rfl rfl (Nat.le_of_ble_eq_true rfl) ⟨Nat.zero_le _, Nat.zero_le _⟩ dX12_account_153 (fun H locs M n125 => ?_)
                    exact u_iret X hret M (rt2 h).1 (congrArg (va_up V 19) ((rt2 h).2)) rfl dX12_account_156
                  · have h := it_t h c122
                    refine lv_iconst (v := 1) hx hb dX12_account_148 (by decide) ?_
                    refine lv_goto (tgt := 153) hx hb dX12_account_149 (by decide) ?_
                    obtain ⟨x127, e126, h⟩ := bd_e h
                    refine u_cSi X M hl.1 (kX12_inLogs (uArD2 hD) (congrFun (va_up_s V 19 _) 2) e126) cw_X12_174 ⟨by decide, by decide⟩ rfl rfl (Nat.le_of_ble_eq_true rfl) ⟨Nat.zero_le _, Nat.zero_le _⟩ dX12_account_153 (fun H locs M n128 => ?_)
                    exact u_iret X hret M (rt2 h).1 (congrArg (va_up V 19) ((rt2 h).2)) rfl dX12_account_156
    · have h := it_f h c93
      refine lv_iconst (v := 0) hx hb dX12_account_39 (by decide) ?_
      exact u_iret X hret M (rt2 h).1 (congrArg (va_up V 19) ((rt2 h).2)) rfl dX12_account_40
def fX12_gate (S : (Nat → Nat → Int32)) (a1 : Int32) (a2 : Int32) : Option (Int32 × (Nat → Nat → Int32)) :=
  lt_ (fX12_isGate  a1) fun x2 =>
  if x2 = 0 then
    bd2 (fX12_refused S 1) fun x40 S41 =>
    if x40 = 0 then
      if a2 = 4 then
        bd (fX12_list (S41 2) a1) fun x52 =>
        some (x52, S41)
      else
        lt_ (fX12_gateAt  a1) fun x46 =>
        gd (inb (x46 + a2) 1272) <|
        lt_ (S41 2 ((x46 + a2) : Int32).toNatClampNeg) fun x49 =>
        some (x49, S41)
    else
      some (0, S41)
  else
    lt_ (fX12_in  ((a2 : Int32).toInt64) 0 4) fun x6 =>
    if x6 = 0 then
      bd2 (fX12_refused S 2) fun x10 S11 =>
      if x10 = 0 then
        if a2 = 4 then
          bd (fX12_list (S11 2) a1) fun x22 =>
          some (x22, S11)
        else
          lt_ (fX12_gateAt  a1) fun x16 =>
          gd (inb (x16 + a2) 1272) <|
          lt_ (S11 2 ((x16 + a2) : Int32).toNatClampNeg) fun x19 =>
          some (x19, S11)
      else
        some (0, S11)
    else
      bd2 (fX12_refused S 0) fun x25 S26 =>
      if x25 = 0 then
        if a2 = 4 then
          bd (fX12_list (S26 2) a1) fun x37 =>
          some (x37, S26)
        else
          lt_ (fX12_gateAt  a1) fun x31 =>
          gd (inb (x31 + a2) 1272) <|
          lt_ (S26 2 ((x31 + a2) : Int32).toNatClampNeg) fun x34 =>
          some (x34, S26)
      else
        some (0, S26)
set_option maxHeartbeats 4000000 in
set_option maxRecDepth 20000 in
theorem kX12_gate {l : Launch} {G : UG} {V : uV} (hD : uMd G) {S S' : (Nat → Nat → Int32)} {a1 : Int32} {a2 : Int32} {r : Int32} (h : fX12_gate S a1 a2 = some (r, S')) : uMi l G yX12_gate cX12_gate 3 .int (uR 4 84) [.ref (ga G 19 0), .int a1, .int a2] (va_up V 19 S) r (va_up V 19 S') := by
  refine uMi_of rfl (Nat.le_of_ble_eq_true rfl) (fun p e s m args below meth c ls X hret hl M => ?_)
  have hl : lv_has ls 3 [(0, .ref (ga G 19 0)), (1, .int a1), (2, .int a2)] := hl
  have hx := X.hx
  have hb := X.hb
  unfold fX12_gate at h
  refine lv_aload_n hx hb dX12_gate_0 rfl (lv_at hl 0 rfl) ?_
  refine lv_iload_n hx hb dX12_gate_1 rfl (lv_at hl 1 rfl) ?_
  obtain ⟨x2, e1, h⟩ := lt_e h
  refine u_cSi X M hl.1 (kX12_isGate  e1.symm) cw_X12_183 ⟨by decide, by decide⟩ rfl rfl (Nat.le_of_ble_eq_true rfl) ⟨Nat.zero_le _, Nat.zero_le _⟩ dX12_gate_2 (fun H locs M n3 => ?_)
  refine lv_if_ne (tgt := 12) hx hb dX12_gate_5 (by decide) (fun c4 => ?_) (fun c4 => ?_)
  · have h := it_f h c4
    refine lv_iload_n hx hb dX12_gate_12 rfl (lv_at hl 2 rfl) ?_
    refine lv_i2l hx hb dX12_gate_13 rfl ?_
    refine lv_lconst (v := 0) hx hb dX12_gate_14 rfl ?_
    refine lv_ldc2 (v := 4) hx hb X.1.2.2.2.1 (X.hts (gt_in 1244 (by decide +kernel) (by decide +kernel))) dX12_gate_15 ?_
    obtain ⟨x6, e5, h⟩ := lt_e h
    refine u_cSi X M hl.1 (kX12_in  e5.symm) cw_X12_44 ⟨by decide, by decide⟩ rfl rfl (Nat.le_of_ble_eq_true rfl) ⟨Nat.zero_le _, Nat.zero_le _⟩ dX12_gate_18 (fun H locs M n7 => ?_)
    refine lv_if_eq (tgt := 28) hx hb dX12_gate_21 (by decide) (fun c8 => ?_) (fun c8 => ?_)
    · have h := it_t h c8
      refine lv_iconst (v := 2) hx hb dX12_gate_28 (by decide) ?_
      obtain ⟨x10, S11, e9, h⟩ := bd2_e h
      refine u_cVi X M hl.1 (kX12_refused hD e9) cw_X12_101 ⟨by decide, by decide⟩ (rc_X12 X M hD) rfl rfl (Nat.le_of_ble_eq_true rfl) ⟨Nat.zero_le _, Nat.zero_le _⟩ dX12_gate_29 (fun H locs M n12 => ?_)
      refine lv_if_eq (tgt := 37) hx hb dX12_gate_32 (by decide) (fun c13 => ?_) (fun c13 => ?_)
      · have h := it_t h c13
        refine lv_iload_n hx hb dX12_gate_37 rfl (lv_at hl 2 rfl) ?_
        refine lv_iconst (v := 4) hx hb dX12_gate_38 (by decide) ?_
        refine lv_icmp_ne (tgt := 53) hx hb dX12_gate_39 (by decide) (fun c14 => ?_) (fun c14 => ?_)
        · have h := it_f h c14
          refine lv_aload_n hx hb dX12_gate_53 rfl (lv_at hl 0 rfl) ?_
          refine gf_X12_13 X M hD dX12_gate_54 ?_
          refine lv_iload_n hx hb dX12_gate_57 rfl (lv_at hl 1 rfl) ?_
          obtain ⟨x16, e15, h⟩ := lt_e h
          refine u_cSi X M hl.1 (kX12_gateAt  e15.symm) cw_X12_40 ⟨by decide, by decide⟩ rfl rfl (Nat.le_of_ble_eq_true rfl) ⟨Nat.zero_le _, Nat.zero_le _⟩ dX12_gate_58 (fun H locs M n17 => ?_)
          refine lv_iload_n hx hb dX12_gate_61 rfl (lv_at hl 2 rfl) ?_
          refine lv_iadd hx hb dX12_gate_62 ?_
          obtain ⟨g18, h⟩ := gd_e h
          obtain ⟨x19, e20, h⟩ := lt_e h
          refine u_ald X M (hD 2 (by decide)) (uAd_sh uSh_md2 (congrFun (va_up_s V 19 _) 2)) (inb_e g18) e20 dX12_gate_63 ?_
          exact u_iret X hret M (rt2 h).1 (congrArg (va_up V 19) ((rt2 h).2)) rfl dX12_gate_64
        · have h := it_t h c14
          refine lv_aload_n hx hb dX12_gate_42 rfl (lv_at hl 0 rfl) ?_
          refine gf_X12_13 X M hD dX12_gate_43 ?_
          refine lv_iload_n hx hb dX12_gate_46 rfl (lv_at hl 1 rfl) ?_
          obtain ⟨x22, e21, h⟩ := bd_e h
          refine u_cSi X M hl.1 (kX12_list (uArD2 hD) (congrFun (va_up_s V 19 _) 2) e21) cw_X12_79 ⟨by decide, by decide⟩ rfl rfl (Nat.le_of_ble_eq_true rfl) ⟨Nat.zero_le _, Nat.zero_le _⟩ dX12_gate_47 (fun H locs M n23 => ?_)
          refine lv_goto (tgt := 64) hx hb dX12_gate_50 (by decide) ?_
          exact u_iret X hret M (rt2 h).1 (congrArg (va_up V 19) ((rt2 h).2)) rfl dX12_gate_64
      · have h := it_f h c13
        refine lv_iconst (v := 0) hx hb dX12_gate_35 (by decide) ?_
        exact u_iret X hret M (rt2 h).1 (congrArg (va_up V 19) ((rt2 h).2)) rfl dX12_gate_36
    · have h := it_f h c8
      refine lv_iconst (v := 0) hx hb dX12_gate_24 (by decide) ?_
      refine lv_goto (tgt := 29) hx hb dX12_gate_25 (by decide) ?_
      obtain ⟨x25, S26, e24, h⟩ := bd2_e h
      refine u_cVi X M hl.1 (kX12_refused hD e24) cw_X12_101 ⟨by decide, by decide⟩ (rc_X12 X M hD) rfl rfl (Nat.le_of_ble_eq_true rfl) ⟨Nat.zero_le _, Nat.zero_le _⟩ dX12_gate_29 (fun H locs M n27 => ?_)
      refine lv_if_eq (tgt := 37) hx hb dX12_gate_32 (by decide) (fun c28 => ?_) (fun c28 => ?_)
      · have h := it_t h c28
        refine lv_iload_n hx hb dX12_gate_37 rfl (lv_at hl 2 rfl) ?_
        refine lv_iconst (v := 4) hx hb dX12_gate_38 (by decide) ?_
        refine lv_icmp_ne (tgt := 53) hx hb dX12_gate_39 (by decide) (fun c29 => ?_) (fun c29 => ?_)
        · have h := it_f h c29
          refine lv_aload_n hx hb dX12_gate_53 rfl (lv_at hl 0 rfl) ?_
          refine gf_X12_13 X M hD dX12_gate_54 ?_
          refine lv_iload_n hx hb dX12_gate_57 rfl (lv_at hl 1 rfl) ?_
          obtain ⟨x31, e30, h⟩ := lt_e h
          refine u_cSi X M hl.1 (kX12_gateAt  e30.symm) cw_X12_40 ⟨by decide, by decide⟩ rfl rfl (Nat.le_of_ble_eq_true rfl) ⟨Nat.zero_le _, Nat.zero_le _⟩ dX12_gate_58 (fun H locs M n32 => ?_)
          refine lv_iload_n hx hb dX12_gate_61 rfl (lv_at hl 2 rfl) ?_
          refine lv_iadd hx hb dX12_gate_62 ?_
          obtain ⟨g33, h⟩ := gd_e h
          obtain ⟨x34, e35, h⟩ := lt_e h
          refine u_ald X M (hD 2 (by decide)) (uAd_sh uSh_md2 (congrFun (va_up_s V 19 _) 2)) (inb_e g33) e35 dX12_gate_63 ?_
          exact u_iret X hret M (rt2 h).1 (congrArg (va_up V 19) ((rt2 h).2)) rfl dX12_gate_64
        · have h := it_t h c29
          refine lv_aload_n hx hb dX12_gate_42 rfl (lv_at hl 0 rfl) ?_
          refine gf_X12_13 X M hD dX12_gate_43 ?_
          refine lv_iload_n hx hb dX12_gate_46 rfl (lv_at hl 1 rfl) ?_
          obtain ⟨x37, e36, h⟩ := bd_e h
          refine u_cSi X M hl.1 (kX12_list (uArD2 hD) (congrFun (va_up_s V 19 _) 2) e36) cw_X12_79 ⟨by decide, by decide⟩ rfl rfl (Nat.le_of_ble_eq_true rfl) ⟨Nat.zero_le _, Nat.zero_le _⟩ dX12_gate_47 (fun H locs M n38 => ?_)
          refine lv_goto (tgt := 64) hx hb dX12_gate_50 (by decide) ?_
          exact u_iret X hret M (rt2 h).1 (congrArg (va_up V 19) ((rt2 h).2)) rfl dX12_gate_64
      · have h := it_f h c28
        refine lv_iconst (v := 0) hx hb dX12_gate_35 (by decide) ?_
        exact u_iret X hret M (rt2 h).1 (congrArg (va_up V 19) ((rt2 h).2)) rfl dX12_gate_36
  · have h := it_t h c4
    refine lv_iconst (v := 1) hx hb dX12_gate_8 (by decide) ?_
    refine lv_goto (tgt := 29) hx hb dX12_gate_9 (by decide) ?_
    obtain ⟨x40, S41, e39, h⟩ := bd2_e h
    refine u_cVi X M hl.1 (kX12_refused hD e39) cw_X12_101 ⟨by decide, by decide⟩ (rc_X12 X M hD) rfl rfl (Nat.le_of_ble_eq_true rfl) ⟨Nat.zero_le _, Nat.zero_le _⟩ dX12_gate_29 (fun H locs M n42 => ?_)
    refine lv_if_eq (tgt := 37) hx hb dX12_gate_32 (by decide) (fun c43 => ?_) (fun c43 => ?_)
    · have h := it_t h c43
      refine lv_iload_n hx hb dX12_gate_37 rfl (lv_at hl 2 rfl) ?_
      refine lv_iconst (v := 4) hx hb dX12_gate_38 (by decide) ?_
      refine lv_icmp_ne (tgt := 53) hx hb dX12_gate_39 (by decide) (fun c44 => ?_) (fun c44 => ?_)
      · have h := it_f h c44
        refine lv_aload_n hx hb dX12_gate_53 rfl (lv_at hl 0 rfl) ?_
        refine gf_X12_13 X M hD dX12_gate_54 ?_
        refine lv_iload_n hx hb dX12_gate_57 rfl (lv_at hl 1 rfl) ?_
        obtain ⟨x46, e45, h⟩ := lt_e h
        refine u_cSi X M hl.1 (kX12_gateAt  e45.symm) cw_X12_40 ⟨by decide, by decide⟩ rfl rfl (Nat.le_of_ble_eq_true rfl) ⟨Nat.zero_le _, Nat.zero_le _⟩ dX12_gate_58 (fun H locs M n47 => ?_)
        refine lv_iload_n hx hb dX12_gate_61 rfl (lv_at hl 2 rfl) ?_
        refine lv_iadd hx hb dX12_gate_62 ?_
        obtain ⟨g48, h⟩ := gd_e h
        obtain ⟨x49, e50, h⟩ := lt_e h
        refine u_ald X M (hD 2 (by decide)) (uAd_sh uSh_md2 (congrFun (va_up_s V 19 _) 2)) (inb_e g48) e50 dX12_gate_63 ?_
        exact u_iret X hret M (rt2 h).1 (congrArg (va_up V 19) ((rt2 h).2)) rfl dX12_gate_64
      · have h := it_t h c44
        refine lv_aload_n hx hb dX12_gate_42 rfl (lv_at hl 0 rfl) ?_
        refine gf_X12_13 X M hD dX12_gate_43 ?_
        refine lv_iload_n hx hb dX12_gate_46 rfl (lv_at hl 1 rfl) ?_
        obtain ⟨x52, e51, h⟩ := bd_e h
        refine u_cSi X M hl.1 (kX12_list (uArD2 hD) (congrFun (va_up_s V 19 _) 2) e51) cw_X12_79 ⟨by decide, by decide⟩ rfl rfl (Nat.le_of_ble_eq_true rfl) ⟨Nat.zero_le _, Nat.zero_le _⟩ dX12_gate_47 (fun H locs M n53 => ?_)
        refine lv_goto (tgt := 64) hx hb dX12_gate_50 (by decide) ?_
        exact u_iret X hret M (rt2 h).1 (congrArg (va_up V 19) ((rt2 h).2)) rfl dX12_gate_64
    · have h := it_f h c43
      refine lv_iconst (v := 0) hx hb dX12_gate_35 (by decide) ?_
      exact u_iret X hret M (rt2 h).1 (congrArg (va_up V 19) ((rt2 h).2)) rfl dX12_gate_36
def fX12_logged (S : (Nat → Nat → Int32)) (a1 : Int32) (a2 : Int32) (a3 : Int32) : Option (Int32 × (Nat → Nat → Int32)) :=
  lt_ (fX12_isGate  a1) fun x2 =>
  if x2 = 0 then
    bd2 (fX12_refused S 1) fun x6 S7 =>
    if x6 = 0 then
      lt_ (fX12_logAt  a1 a2) fun x11 =>
      gd (inb (x11 + a3) 1272) <|
      lt_ (S7 2 ((x11 + a3) : Int32).toNatClampNeg) fun x14 =>
      some (x14, S7)
    else
      some (0, S7)
  else
    lt_ (fX12_gateAt  a1) fun x17 =>
    gd (inb (x17 + 3) 1272) <|
    lt_ (S 2 ((x17 + 3) : Int32).toNatClampNeg) fun x20 =>
    lt_ (fX12_in  ((a2 : Int32).toInt64) 0 (((x20 - 1) : Int32).toInt64)) fun x23 =>
    if x23 = 0 then
      bd2 (fX12_refused S 1) fun x53 S54 =>
      if x53 = 0 then
        lt_ (fX12_logAt  a1 a2) fun x58 =>
        gd (inb (x58 + a3) 1272) <|
        lt_ (S54 2 ((x58 + a3) : Int32).toNatClampNeg) fun x61 =>
        some (x61, S54)
      else
        some (0, S54)
    else
      lt_ (fX12_in  ((a3 : Int32).toInt64) 0 2) fun x27 =>
      if x27 = 0 then
        bd2 (fX12_refused S 2) fun x31 S32 =>
        if x31 = 0 then
          lt_ (fX12_logAt  a1 a2) fun x36 =>
          gd (inb (x36 + a3) 1272) <|
          lt_ (S32 2 ((x36 + a3) : Int32).toNatClampNeg) fun x39 =>
          some (x39, S32)
        else
          some (0, S32)
      else
        bd2 (fX12_refused S 0) fun x42 S43 =>
        if x42 = 0 then
          lt_ (fX12_logAt  a1 a2) fun x47 =>
          gd (inb (x47 + a3) 1272) <|
          lt_ (S43 2 ((x47 + a3) : Int32).toNatClampNeg) fun x50 =>
          some (x50, S43)
        else
          some (0, S43)
set_option maxHeartbeats 4000000 in
set_option maxRecDepth 20000 in
theorem kX12_logged {l : Launch} {G : UG} {V : uV} (hD : uMd G) {S S' : (Nat → Nat → Int32)} {a1 : Int32} {a2 : Int32} {a3 : Int32} {r : Int32} (h : fX12_logged S a1 a2 a3 = some (r, S')) : uMi l G yX12_logged cX12_logged 4 .int (uR 2 45) [.ref (ga G 19 0), .int a1, .int a2, .int a3] (va_up V 19 S) r (va_up V 19 S') := by
  refine uMi_of rfl (Nat.le_of_ble_eq_true rfl) (fun p e s m args below meth c ls X hret hl M => ?_)
  have hl : lv_has ls 4 [(0, .ref (ga G 19 0)), (1, .int a1), (2, .int a2), (3, .int a3)] := hl
  have hx := X.hx
  have hb := X.hb
  unfold fX12_logged at h
  refine lv_aload_n hx hb dX12_logged_0 rfl (lv_at hl 0 rfl) ?_
  refine lv_iload_n hx hb dX12_logged_1 rfl (lv_at hl 1 rfl) ?_
  obtain ⟨x2, e1, h⟩ := lt_e h
  refine u_cSi X M hl.1 (kX12_isGate  e1.symm) cw_X12_183 ⟨by decide, by decide⟩ rfl rfl (Nat.le_of_ble_eq_true rfl) ⟨Nat.zero_le _, Nat.zero_le _⟩ dX12_logged_2 (fun H locs M n3 => ?_)
  refine lv_if_eq (tgt := 31) hx hb dX12_logged_5 (by decide) (fun c4 => ?_) (fun c4 => ?_)
  · have h := it_t h c4
    refine lv_iconst (v := 1) hx hb dX12_logged_31 (by decide) ?_
    refine lv_goto (tgt := 52) hx hb dX12_logged_32 (by decide) ?_
    obtain ⟨x6, S7, e5, h⟩ := bd2_e h
    refine u_cVi X M hl.1 (kX12_refused hD e5) cw_X12_101 ⟨by decide, by decide⟩ (rc_X12 X M hD) rfl rfl (Nat.le_of_ble_eq_true rfl) ⟨Nat.zero_le _, Nat.zero_le _⟩ dX12_logged_52 (fun H locs M n8 => ?_)
    refine lv_if_eq (tgt := 60) hx hb dX12_logged_55 (by decide) (fun c9 => ?_) (fun c9 => ?_)
    · have h := it_t h c9
      refine lv_aload_n hx hb dX12_logged_60 rfl (lv_at hl 0 rfl) ?_
      refine gf_X12_13 X M hD dX12_logged_61 ?_
      refine lv_iload_n hx hb dX12_logged_64 rfl (lv_at hl 1 rfl) ?_
      refine lv_iload_n hx hb dX12_logged_65 rfl (lv_at hl 2 rfl) ?_
      obtain ⟨x11, e10, h⟩ := lt_e h
      refine u_cSi X M hl.1 (kX12_logAt  e10.symm) cw_X12_68 ⟨by decide, by decide⟩ rfl rfl (Nat.le_of_ble_eq_true rfl) ⟨Nat.zero_le _, Nat.zero_le _⟩ dX12_logged_66 (fun H locs M n12 => ?_)
      refine lv_iload_n hx hb dX12_logged_69 rfl (lv_at hl 3 rfl) ?_
      refine lv_iadd hx hb dX12_logged_70 ?_
      obtain ⟨g13, h⟩ := gd_e h
      obtain ⟨x14, e15, h⟩ := lt_e h
      refine u_ald X M (hD 2 (by decide)) (uAd_sh uSh_md2 (congrFun (va_up_s V 19 _) 2)) (inb_e g13) e15 dX12_logged_71 ?_
      exact u_iret X hret M (rt2 h).1 (congrArg (va_up V 19) ((rt2 h).2)) rfl dX12_logged_72
    · have h := it_f h c9
      refine lv_iconst (v := 0) hx hb dX12_logged_58 (by decide) ?_
      exact u_iret X hret M (rt2 h).1 (congrArg (va_up V 19) ((rt2 h).2)) rfl dX12_logged_59
  · have h := it_f h c4
    refine lv_iload_n hx hb dX12_logged_8 rfl (lv_at hl 2 rfl) ?_
    refine lv_i2l hx hb dX12_logged_9 rfl ?_
    refine lv_lconst (v := 0) hx hb dX12_logged_10 rfl ?_
    refine lv_aload_n hx hb dX12_logged_11 rfl (lv_at hl 0 rfl) ?_
    refine gf_X12_13 X M hD dX12_logged_12 ?_
    refine lv_iload_n hx hb dX12_logged_15 rfl (lv_at hl 1 rfl) ?_
    obtain ⟨x17, e16, h⟩ := lt_e h
    refine u_cSi X M hl.1 (kX12_gateAt  e16.symm) cw_X12_40 ⟨by decide, by decide⟩ rfl rfl (Nat.le_of_ble_eq_true rfl) ⟨Nat.zero_le _, Nat.zero_le _⟩ dX12_logged_16 (fun H locs M n18 => ?_)
    refine lv_iconst (v := 3) hx hb dX12_logged_19 (by decide) ?_
    refine lv_iadd hx hb dX12_logged_20 ?_
    obtain ⟨g19, h⟩ := gd_e h
    obtain ⟨x20, e21, h⟩ := lt_e h
    refine u_ald X M (hD 2 (by decide)) (uAd_sh uSh_md2 (congrFun (va_up_s V 19 _) 2)) (inb_e g19) e21 dX12_logged_21 ?_
    refine lv_iconst (v := 1) hx hb dX12_logged_22 (by decide) ?_
    refine lv_isub hx hb dX12_logged_23 ?_
    refine lv_i2l hx hb dX12_logged_24 rfl ?_
    obtain ⟨x23, e22, h⟩ := lt_e h
    refine u_cSi X M hl.1 (kX12_in  e22.symm) cw_X12_44 ⟨by decide, by decide⟩ rfl rfl (Nat.le_of_ble_eq_true rfl) ⟨Nat.zero_le _, Nat.zero_le _⟩ dX12_logged_25 (fun H locs M n24 => ?_)
    refine lv_if_ne (tgt := 35) hx hb dX12_logged_28 (by decide) (fun c25 => ?_) (fun c25 => ?_)
    · have h := it_f h c25
      refine lv_iload_n hx hb dX12_logged_35 rfl (lv_at hl 3 rfl) ?_
      refine lv_i2l hx hb dX12_logged_36 rfl ?_
      refine lv_lconst (v := 0) hx hb dX12_logged_37 rfl ?_
      refine lv_ldc2 (v := 2) hx hb X.1.2.2.2.1 (X.hts (gt_in 1249 (by decide +kernel) (by decide +kernel))) dX12_logged_38 ?_
      obtain ⟨x27, e26, h⟩ := lt_e h
      refine u_cSi X M hl.1 (kX12_in  e26.symm) cw_X12_44 ⟨by decide, by decide⟩ rfl rfl (Nat.le_of_ble_eq_true rfl) ⟨Nat.zero_le _, Nat.zero_le _⟩ dX12_logged_41 (fun H locs M n28 => ?_)
      refine lv_if_eq (tgt := 51) hx hb dX12_logged_44 (by decide) (fun c29 => ?_) (fun c29 => ?_)
      · have h := it_t h c29
        refine lv_iconst (v := 2) hx hb dX12_logged_51 (by decide) ?_
        obtain ⟨x31, S32, e30, h⟩ := bd2_e h
        refine u_cVi X M hl.1 (kX12_refused hD e30) cw_X12_101 ⟨by decide, by decide⟩ (rc_X12 X M hD) rfl rfl (Nat.le_of_ble_eq_true rfl) ⟨Nat.zero_le _, Nat.zero_le _⟩ dX12_logged_52 (fun H locs M n33 => ?_)
        refine lv_if_eq (tgt := 60) hx hb dX12_logged_55 (by decide) (fun c34 => ?_) (fun c34 => ?_)
        · have h := it_t h c34
          refine lv_aload_n hx hb dX12_logged_60 rfl (lv_at hl 0 rfl) ?_
          refine gf_X12_13 X M hD dX12_logged_61 ?_
          refine lv_iload_n hx hb dX12_logged_64 rfl (lv_at hl 1 rfl) ?_
          refine lv_iload_n hx hb dX12_logged_65 rfl (lv_at hl 2 rfl) ?_
          obtain ⟨x36, e35, h⟩ := lt_e h
          refine u_cSi X M hl.1 (kX12_logAt  e35.symm) cw_X12_68 ⟨by decide, by decide⟩ rfl rfl (Nat.le_of_ble_eq_true rfl) ⟨Nat.zero_le _, Nat.zero_le _⟩ dX12_logged_66 (fun H locs M n37 => ?_)
          refine lv_iload_n hx hb dX12_logged_69 rfl (lv_at hl 3 rfl) ?_
          refine lv_iadd hx hb dX12_logged_70 ?_
          obtain ⟨g38, h⟩ := gd_e h
          obtain ⟨x39, e40, h⟩ := lt_e h
          refine u_ald X M (hD 2 (by decide)) (uAd_sh uSh_md2 (congrFun (va_up_s V 19 _) 2)) (inb_e g38) e40 dX12_logged_71 ?_
          exact u_iret X hret M (rt2 h).1 (congrArg (va_up V 19) ((rt2 h).2)) rfl dX12_logged_72
        · have h := it_f h c34
          refine lv_iconst (v := 0) hx hb dX12_logged_58 (by decide) ?_
          exact u_iret X hret M (rt2 h).1 (congrArg (va_up V 19) ((rt2 h).2)) rfl dX12_logged_59
      · have h := it_f h c29
        refine lv_iconst (v := 0) hx hb dX12_logged_47 (by decide) ?_
        refine lv_goto (tgt := 52) hx hb dX12_logged_48 (by decide) ?_
        obtain ⟨x42, S43, e41, h⟩ := bd2_e h
        refine u_cVi X M hl.1 (kX12_refused hD e41) cw_X12_101 ⟨by decide, by decide⟩ (rc_X12 X M hD) rfl rfl (Nat.le_of_ble_eq_true rfl) ⟨Nat.zero_le _, Nat.zero_le _⟩ dX12_logged_52 (fun H locs M n44 => ?_)
        refine lv_if_eq (tgt := 60) hx hb dX12_logged_55 (by decide) (fun c45 => ?_) (fun c45 => ?_)
        · have h := it_t h c45
          refine lv_aload_n hx hb dX12_logged_60 rfl (lv_at hl 0 rfl) ?_
          refine gf_X12_13 X M hD dX12_logged_61 ?_
          refine lv_iload_n hx hb dX12_logged_64 rfl (lv_at hl 1 rfl) ?_
          refine lv_iload_n hx hb dX12_logged_65 rfl (lv_at hl 2 rfl) ?_
          obtain ⟨x47, e46, h⟩ := lt_e h
          refine u_cSi X M hl.1 (kX12_logAt  e46.symm) cw_X12_68 ⟨by decide, by decide⟩ rfl rfl (Nat.le_of_ble_eq_true rfl) ⟨Nat.zero_le _, Nat.zero_le _⟩ dX12_logged_66 (fun H locs M n48 => ?_)
          refine lv_iload_n hx hb dX12_logged_69 rfl (lv_at hl 3 rfl) ?_
          refine lv_iadd hx hb dX12_logged_70 ?_
          obtain ⟨g49, h⟩ := gd_e h
          obtain ⟨x50, e51, h⟩ := lt_e h
          refine u_ald X M (hD 2 (by decide)) (uAd_sh uSh_md2 (congrFun (va_up_s V 19 _) 2)) (inb_e g49) e51 dX12_logged_71 ?_
          exact u_iret X hret M (rt2 h).1 (congrArg (va_up V 19) ((rt2 h).2)) rfl dX12_logged_72
        · have h := it_f h c45
          refine lv_iconst (v := 0) hx hb dX12_logged_58 (by decide) ?_
          exact u_iret X hret M (rt2 h).1 (congrArg (va_up V 19) ((rt2 h).2)) rfl dX12_logged_59
    · have h := it_t h c25
      refine lv_iconst (v := 1) hx hb dX12_logged_31 (by decide) ?_
      refine lv_goto (tgt := 52) hx hb dX12_logged_32 (by decide) ?_
      obtain ⟨x53, S54, e52, h⟩ := bd2_e h
      refine u_cVi X M hl.1 (kX12_refused hD e52) cw_X12_101 ⟨by decide, by decide⟩ (rc_X12 X M hD) rfl rfl (Nat.le_of_ble_eq_true rfl) ⟨Nat.zero_le _, Nat.zero_le _⟩ dX12_logged_52 (fun H locs M n55 => ?_)
      refine lv_if_eq (tgt := 60) hx hb dX12_logged_55 (by decide) (fun c56 => ?_) (fun c56 => ?_)
      · have h := it_t h c56
        refine lv_aload_n hx hb dX12_logged_60 rfl (lv_at hl 0 rfl) ?_
        refine gf_X12_13 X M hD dX12_logged_61 ?_
        refine lv_iload_n hx hb dX12_logged_64 rfl (lv_at hl 1 rfl) ?_
        refine lv_iload_n hx hb dX12_logged_65 rfl (lv_at hl 2 rfl) ?_
        obtain ⟨x58, e57, h⟩ := lt_e h
        refine u_cSi X M hl.1 (kX12_logAt  e57.symm) cw_X12_68 ⟨by decide, by decide⟩ rfl rfl (Nat.le_of_ble_eq_true rfl) ⟨Nat.zero_le _, Nat.zero_le _⟩ dX12_logged_66 (fun H locs M n59 => ?_)
        refine lv_iload_n hx hb dX12_logged_69 rfl (lv_at hl 3 rfl) ?_
        refine lv_iadd hx hb dX12_logged_70 ?_
        obtain ⟨g60, h⟩ := gd_e h
        obtain ⟨x61, e62, h⟩ := lt_e h
        refine u_ald X M (hD 2 (by decide)) (uAd_sh uSh_md2 (congrFun (va_up_s V 19 _) 2)) (inb_e g60) e62 dX12_logged_71 ?_
        exact u_iret X hret M (rt2 h).1 (congrArg (va_up V 19) ((rt2 h).2)) rfl dX12_logged_72
      · have h := it_f h c56
        refine lv_iconst (v := 0) hx hb dX12_logged_58 (by decide) ?_
        exact u_iret X hret M (rt2 h).1 (congrArg (va_up V 19) ((rt2 h).2)) rfl dX12_logged_59
def fX12_setting (S : (Nat → Nat → Int32)) (a1 : Int32) : Option (Int32 × (Nat → Nat → Int32)) :=
  lt_ (fX12_in  ((a1 : Int32).toInt64) 0 3) fun x2 =>
  if x2 = 0 then
    bd2 (fX12_refused S 1) fun x6 S7 =>
    if x6 = 0 then
      gd (inb (8 + a1) 1272) <|
      lt_ (S7 2 ((8 + a1) : Int32).toNatClampNeg) fun x11 =>
      some (x11, S7)
    else
      some (0, S7)
  else
    bd2 (fX12_refused S 0) fun x14 S15 =>
    if x14 = 0 then
      gd (inb (8 + a1) 1272) <|
      lt_ (S15 2 ((8 + a1) : Int32).toNatClampNeg) fun x19 =>
      some (x19, S15)
    else
      some (0, S15)
set_option maxHeartbeats 4000000 in
set_option maxRecDepth 20000 in
theorem kX12_setting {l : Launch} {G : UG} {V : uV} (hD : uMd G) {S S' : (Nat → Nat → Int32)} {a1 : Int32} {r : Int32} (h : fX12_setting S a1 = some (r, S')) : uMi l G yX12_setting cX12_setting 2 .int (uR 1 25) [.ref (ga G 19 0), .int a1] (va_up V 19 S) r (va_up V 19 S') := by
  refine uMi_of rfl (Nat.le_of_ble_eq_true rfl) (fun p e s m args below meth c ls X hret hl M => ?_)
  have hl : lv_has ls 2 [(0, .ref (ga G 19 0)), (1, .int a1)] := hl
  have hx := X.hx
  have hb := X.hb
  unfold fX12_setting at h
  refine lv_aload_n hx hb dX12_setting_0 rfl (lv_at hl 0 rfl) ?_
  refine lv_iload_n hx hb dX12_setting_1 rfl (lv_at hl 1 rfl) ?_
  refine lv_i2l hx hb dX12_setting_2 rfl ?_
  refine lv_lconst (v := 0) hx hb dX12_setting_3 rfl ?_
  refine lv_ldc2 (v := 3) hx hb X.1.2.2.2.1 (X.hts (gt_in 1228 (by decide +kernel) (by decide +kernel))) dX12_setting_4 ?_
  obtain ⟨x2, e1, h⟩ := lt_e h
  refine u_cSi X M hl.1 (kX12_in  e1.symm) cw_X12_44 ⟨by decide, by decide⟩ rfl rfl (Nat.le_of_ble_eq_true rfl) ⟨Nat.zero_le _, Nat.zero_le _⟩ dX12_setting_7 (fun H locs M n3 => ?_)
  refine lv_if_eq (tgt := 17) hx hb dX12_setting_10 (by decide) (fun c4 => ?_) (fun c4 => ?_)
  · have h := it_t h c4
    refine lv_iconst (v := 1) hx hb dX12_setting_17 (by decide) ?_
    obtain ⟨x6, S7, e5, h⟩ := bd2_e h
    refine u_cVi X M hl.1 (kX12_refused hD e5) cw_X12_101 ⟨by decide, by decide⟩ (rc_X12 X M hD) rfl rfl (Nat.le_of_ble_eq_true rfl) ⟨Nat.zero_le _, Nat.zero_le _⟩ dX12_setting_18 (fun H locs M n8 => ?_)
    refine lv_if_eq (tgt := 26) hx hb dX12_setting_21 (by decide) (fun c9 => ?_) (fun c9 => ?_)
    · have h := it_t h c9
      refine lv_aload_n hx hb dX12_setting_26 rfl (lv_at hl 0 rfl) ?_
      refine gf_X12_13 X M hD dX12_setting_27 ?_
      refine lv_bipush (v := 8) hx hb dX12_setting_30 (by decide) ?_
      refine lv_iload_n hx hb dX12_setting_32 rfl (lv_at hl 1 rfl) ?_
      refine lv_iadd hx hb dX12_setting_33 ?_
      obtain ⟨g10, h⟩ := gd_e h
      obtain ⟨x11, e12, h⟩ := lt_e h
      refine u_ald X M (hD 2 (by decide)) (uAd_sh uSh_md2 (congrFun (va_up_s V 19 _) 2)) (inb_e g10) e12 dX12_setting_34 ?_
      exact u_iret X hret M (rt2 h).1 (congrArg (va_up V 19) ((rt2 h).2)) rfl dX12_setting_35
    · have h := it_f h c9
      refine lv_iconst (v := 0) hx hb dX12_setting_24 (by decide) ?_
      exact u_iret X hret M (rt2 h).1 (congrArg (va_up V 19) ((rt2 h).2)) rfl dX12_setting_25
  · have h := it_f h c4
    refine lv_iconst (v := 0) hx hb dX12_setting_13 (by decide) ?_
    refine lv_goto (tgt := 18) hx hb dX12_setting_14 (by decide) ?_
    obtain ⟨x14, S15, e13, h⟩ := bd2_e h
    refine u_cVi X M hl.1 (kX12_refused hD e13) cw_X12_101 ⟨by decide, by decide⟩ (rc_X12 X M hD) rfl rfl (Nat.le_of_ble_eq_true rfl) ⟨Nat.zero_le _, Nat.zero_le _⟩ dX12_setting_18 (fun H locs M n16 => ?_)
    refine lv_if_eq (tgt := 26) hx hb dX12_setting_21 (by decide) (fun c17 => ?_) (fun c17 => ?_)
    · have h := it_t h c17
      refine lv_aload_n hx hb dX12_setting_26 rfl (lv_at hl 0 rfl) ?_
      refine gf_X12_13 X M hD dX12_setting_27 ?_
      refine lv_bipush (v := 8) hx hb dX12_setting_30 (by decide) ?_
      refine lv_iload_n hx hb dX12_setting_32 rfl (lv_at hl 1 rfl) ?_
      refine lv_iadd hx hb dX12_setting_33 ?_
      obtain ⟨g18, h⟩ := gd_e h
      obtain ⟨x19, e20, h⟩ := lt_e h
      refine u_ald X M (hD 2 (by decide)) (uAd_sh uSh_md2 (congrFun (va_up_s V 19 _) 2)) (inb_e g18) e20 dX12_setting_34 ?_
      exact u_iret X hret M (rt2 h).1 (congrArg (va_up V 19) ((rt2 h).2)) rfl dX12_setting_35
    · have h := it_f h c17
      refine lv_iconst (v := 0) hx hb dX12_setting_24 (by decide) ?_
      exact u_iret X hret M (rt2 h).1 (congrArg (va_up V 19) ((rt2 h).2)) rfl dX12_setting_25
def fX12_remember_L11 (n : Nat) (S : (Nat → Nat → Int32)) (y1 : Int32) : Option (Nat → Nat → Int32) :=
  match n with
  | 0 => none
  | n + 1 =>
    if 16536 ≤ y1 then
      lt_ (S 0 7) fun x15 =>
      lt_ (va_up S 0 (upd (S 0) 7 (x15 - 1))) fun S17 =>
      lt_ (S17 0 7) fun x19 =>
      bd (fcp 1272 (S17 2) 0 17808 (S17 5) (1272 * x19)) fun r21 =>
      lt_ (va_up S17 5 r21) fun S23 =>
      lt_ (S23 0 7) fun x25 =>
      lt_ (va_up S23 0 (upd (S23 0) 7 (x25 + 1))) fun S27 =>
      some S27
    else
      gd (inb (y1 + 1272) 17808) <|
      lt_ (S 5 ((y1 + 1272) : Int32).toNatClampNeg) fun x30 =>
      gd (inb y1 17808) <|
      lt_ (va_up S 5 (upd (S 5) (y1 : Int32).toNatClampNeg x30)) fun S33 =>
      lt_ (y1 + 1) fun x35 =>
      fX12_remember_L11 n S33 x35
set_option maxHeartbeats 4000000 in
set_option maxRecDepth 20000 in
theorem lpX12_remember_11 {l : Launch} {G : UG} {V : uV} (hD : uMd G) {S' : (Nat → Nat → Int32)} {p : Program} {e : Env} {s : State} {m : MethodId} {args : Array Value} {below : List Frame} {meth : Method} {c : Code} (X : UC p s m args meth c cX12_remember 2 RX12 G) (hret : meth.sig.returnType = none) : ∀ (n : Nat) (S : (Nat → Nat → Int32)) (y1 : Int32) (H : Heap) (locs : List Loc) (ls : Array Slot), fX12_remember_L11  n S y1 = some S' → UM G (va_up V 19 S) s H locs → lv_has ls 2 [(0, .ref (ga G 19 0)), (1, .int y1)] → W p l e (uR 1 24) s m args below meth c H locs 0 0 (MQ below (uQv G (va_up V 19 S')) args s 0 0 (uA G)) (F0 m 11 ls []) := by
  intro n
  have hx := X.hx
  have hb := X.hb
  induction n with
  | zero => intro S y1 H locs ls h M hl; rw [fX12_remember_L11] at h; cases h
  | succ n ih =>
    intro S y1 H locs ls h M hl
    rw [fX12_remember_L11] at h
    refine lv_iload_n hx hb dX12_remember_11 rfl (lv_at hl 1 rfl) ?_
    refine lv_sipush (v := 16536) hx hb dX12_remember_12 (by decide) ?_
    refine lv_icmp_ge (tgt := 40) hx hb dX12_remember_15 (by decide) (fun c14 => ?_) (fun c14 => ?_)
    · have h := it_t h c14
      refine lv_aload_n hx hb dX12_remember_40 rfl (lv_at hl 0 rfl) ?_
      refine lv_dup hx hb dX12_remember_41 rfl ?_
      obtain ⟨x15, e16, h⟩ := lt_e h
      refine gf_X12_169 X M hD (va_up_s V 19 _) e16 dX12_remember_42 ?_
      refine lv_iconst (v := 1) hx hb dX12_remember_45 (by decide) ?_
      refine lv_isub hx hb dX12_remember_46 ?_
      obtain ⟨S17, e18, h⟩ := lt_e h
      refine pf_X12_169 X M hD e18 dX12_remember_47 (fun H locs M => ?_)
      refine lv_aload_n hx hb dX12_remember_50 rfl (lv_at hl 0 rfl) ?_
      refine gf_X12_13 X M hD dX12_remember_51 ?_
      refine lv_iconst (v := 0) hx hb dX12_remember_54 (by decide) ?_
      refine lv_aload_n hx hb dX12_remember_55 rfl (lv_at hl 0 rfl) ?_
      refine gf_X12_22 X M hD dX12_remember_56 ?_
      refine lv_sipush (v := 1272) hx hb dX12_remember_59 (by decide) ?_
      refine lv_aload_n hx hb dX12_remember_62 rfl (lv_at hl 0 rfl) ?_
      obtain ⟨x19, e20, h⟩ := lt_e h
      refine gf_X12_169 X M hD (va_up_s V 19 _) e20 dX12_remember_63 ?_
      refine lv_imul hx hb dX12_remember_66 ?_
      obtain ⟨r21, e22, h⟩ := bd_e h
      refine u_cSv X M hl.1 (kX12_copyState hD (o1 := 2) (o2 := 5) (by decide) (by decide) (by decide) uSh_md2 uSh_md5 (by decide) (by decide) e22) cw_X12_165 ⟨by decide, by decide⟩ rfl rfl (Nat.le_of_ble_eq_true rfl) ⟨Nat.zero_le _, Nat.zero_le _⟩ dX12_remember_67 (fun H locs M => ?_)
      obtain ⟨S23, e24, h⟩ := lt_e h
      rw [← e24] at M
      refine lv_aload_n hx hb dX12_remember_70 rfl (lv_at hl 0 rfl) ?_
      refine lv_dup hx hb dX12_remember_71 rfl ?_
      obtain ⟨x25, e26, h⟩ := lt_e h
      refine gf_X12_169 X M hD (va_up_s V 19 _) e26 dX12_remember_72 ?_
      refine lv_iconst (v := 1) hx hb dX12_remember_75 (by decide) ?_
      refine lv_iadd hx hb dX12_remember_76 ?_
      obtain ⟨S27, e28, h⟩ := lt_e h
      refine pf_X12_169 X M hD e28 dX12_remember_77 (fun H locs M => ?_)
      exact u_vret X hret M (congrArg (va_up V 19) (Option.some.inj h)) dX12_remember_80
    · have h := it_f h c14
      refine lv_aload_n hx hb dX12_remember_18 rfl (lv_at hl 0 rfl) ?_
      refine gf_X12_22 X M hD dX12_remember_19 ?_
      refine lv_iload_n hx hb dX12_remember_22 rfl (lv_at hl 1 rfl) ?_
      refine lv_aload_n hx hb dX12_remember_23 rfl (lv_at hl 0 rfl) ?_
      refine gf_X12_22 X M hD dX12_remember_24 ?_
      refine lv_iload_n hx hb dX12_remember_27 rfl (lv_at hl 1 rfl) ?_
      refine lv_sipush (v := 1272) hx hb dX12_remember_28 (by decide) ?_
      refine lv_iadd hx hb dX12_remember_31 ?_
      obtain ⟨g29, h⟩ := gd_e h
      obtain ⟨x30, e31, h⟩ := lt_e h
      refine u_ald X M (hD 5 (by decide)) (uAd_sh uSh_md5 (congrFun (va_up_s V 19 _) 5)) (inb_e g29) e31 dX12_remember_32 ?_
      obtain ⟨g32, h⟩ := gd_e h
      obtain ⟨S33, e34, h⟩ := lt_e h
      refine u_ast_b X M (hD 5 (by decide)) uSh_md5 (inb_e g32) e34 dX12_remember_33 (fun H locs M => ?_)
      obtain ⟨x35, e36, h⟩ := lt_e h
      refine lv_iinc (v := x35) (lv' := [(1, .int x35), (0, .ref (ga G 19 0))]) hx hb dX12_remember_34 hl (k := 1) rfl (by rw [e36]; rfl) (by decide) rfl (fun ls hl => ?_)
      refine lv_goto (tgt := 11) hx hb dX12_remember_37 (by decide) ?_
      exact ih _ _ _ _ _ h M (lv_sub hl [1, 0] rfl)
def fX12_remember (S : (Nat → Nat → Int32)) : Option (Nat → Nat → Int32) :=
  lt_ (S 0 7) fun x1 =>
  if x1 = 14 then
    fX12_remember_L11 17000 S 0
  else
    lt_ (S 0 7) fun x4 =>
    bd (fcp 1272 (S 2) 0 17808 (S 5) (1272 * x4)) fun r6 =>
    lt_ (va_up S 5 r6) fun S8 =>
    lt_ (S8 0 7) fun x10 =>
    lt_ (va_up S8 0 (upd (S8 0) 7 (x10 + 1))) fun S12 =>
    some S12
set_option maxHeartbeats 4000000 in
set_option maxRecDepth 20000 in
theorem kX12_remember {l : Launch} {G : UG} {V : uV} (hD : uMd G) {S S' : (Nat → Nat → Int32)}  (h : fX12_remember S = some S') : uMv l G yX12_remember cX12_remember 2 (uR 1 24) [.ref (ga G 19 0)] (va_up V 19 S) (va_up V 19 S') := by
  refine uMv_of rfl (Nat.le_of_ble_eq_true rfl) (fun p e s m args below meth c ls X hret hl M => ?_)
  have hl : lv_has ls 2 [(0, .ref (ga G 19 0))] := hl
  have hx := X.hx
  have hb := X.hb
  unfold fX12_remember at h
  refine lv_aload_n hx hb dX12_remember_0 rfl (lv_at hl 0 rfl) ?_
  obtain ⟨x1, e2, h⟩ := lt_e h
  refine gf_X12_169 X M hD (va_up_s V 19 _) e2 dX12_remember_1 ?_
  refine lv_bipush (v := 14) hx hb dX12_remember_4 (by decide) ?_
  refine lv_icmp_ne (tgt := 50) hx hb dX12_remember_6 (by decide) (fun c3 => ?_) (fun c3 => ?_)
  · have h := it_f h c3
    refine lv_aload_n hx hb dX12_remember_50 rfl (lv_at hl 0 rfl) ?_
    refine gf_X12_13 X M hD dX12_remember_51 ?_
    refine lv_iconst (v := 0) hx hb dX12_remember_54 (by decide) ?_
    refine lv_aload_n hx hb dX12_remember_55 rfl (lv_at hl 0 rfl) ?_
    refine gf_X12_22 X M hD dX12_remember_56 ?_
    refine lv_sipush (v := 1272) hx hb dX12_remember_59 (by decide) ?_
    refine lv_aload_n hx hb dX12_remember_62 rfl (lv_at hl 0 rfl) ?_
    obtain ⟨x4, e5, h⟩ := lt_e h
    refine gf_X12_169 X M hD (va_up_s V 19 _) e5 dX12_remember_63 ?_
    refine lv_imul hx hb dX12_remember_66 ?_
    obtain ⟨r6, e7, h⟩ := bd_e h
    refine u_cSv X M hl.1 (kX12_copyState hD (o1 := 2) (o2 := 5) (by decide) (by decide) (by decide) uSh_md2 uSh_md5 (by decide) (by decide) e7) cw_X12_165 ⟨by decide, by decide⟩ rfl rfl (Nat.le_of_ble_eq_true rfl) ⟨Nat.zero_le _, Nat.zero_le _⟩ dX12_remember_67 (fun H locs M => ?_)
    obtain ⟨S8, e9, h⟩ := lt_e h
    rw [← e9] at M
    refine lv_aload_n hx hb dX12_remember_70 rfl (lv_at hl 0 rfl) ?_
    refine lv_dup hx hb dX12_remember_71 rfl ?_
    obtain ⟨x10, e11, h⟩ := lt_e h
    refine gf_X12_169 X M hD (va_up_s V 19 _) e11 dX12_remember_72 ?_
    refine lv_iconst (v := 1) hx hb dX12_remember_75 (by decide) ?_
    refine lv_iadd hx hb dX12_remember_76 ?_
    obtain ⟨S12, e13, h⟩ := lt_e h
    refine pf_X12_169 X M hD e13 dX12_remember_77 (fun H locs M => ?_)
    exact u_vret X hret M (congrArg (va_up V 19) (Option.some.inj h)) dX12_remember_80
  · have h := it_t h c3
    refine lv_iconst (v := 0) hx hb dX12_remember_9 (by decide) ?_
    refine lv_istore_n (lv' := [(1, .int 0), (0, .ref (ga G 19 0))]) hx hb dX12_remember_10 rfl hl (by decide) rfl (fun ls hl => ?_)
    exact lpX12_remember_11 hD X hret 17000 _ _ _ _ _ h M (lv_sub hl [1, 0] rfl)
