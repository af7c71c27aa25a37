theorem dL_law_0 : decode code 0 = .ok (.new 8, 3) := by decide +kernel
theorem dL_law_3 : decode code 3 = .ok (.dup, 1) := by decide +kernel
theorem dL_law_4 : decode code 4 = .ok (.invokespecial 214, 3) := by decide +kernel
theorem dL_law_7 : decode code 7 = .ok (.astore_n 1, 1) := by decide +kernel
theorem dL_law_8 : decode code 8 = .ok (.new 8, 3) := by decide +kernel
theorem dL_law_11 : decode code 11 = .ok (.dup, 1) := by decide +kernel
theorem dL_law_12 : decode code 12 = .ok (.invokespecial 214, 3) := by decide +kernel
theorem dL_law_15 : decode code 15 = .ok (.astore_n 2, 1) := by decide +kernel
theorem dL_law_16 : decode code 16 = .ok (.aload_n 0, 1) := by decide +kernel
theorem dL_law_17 : decode code 17 = .ok (.iconst 0, 1) := by decide +kernel
theorem dL_law_18 : decode code 18 = .ok (.invokestatic 215, 3) := by decide +kernel
theorem dL_law_21 : decode code 21 = .ok (.istore_n 3, 1) := by decide +kernel
theorem dL_law_22 : decode code 22 = .ok (.iconst 1, 1) := by decide +kernel
theorem dL_law_23 : decode code 23 = .ok (.istore 4, 2) := by decide +kernel
theorem dL_law_25 : decode code 25 = .ok (.iconst 0, 1) := by decide +kernel
theorem dL_law_26 : decode code 26 = .ok (.istore 5, 2) := by decide +kernel
theorem dL_law_28 : decode code 28 = .ok (.iload 5, 2) := by decide +kernel
theorem dL_law_30 : decode code 30 = .ok (.iconst 3, 1) := by decide +kernel
theorem dL_law_31 : decode code 31 = .ok (.if_icmp .ge 65, 3) := by decide +kernel
theorem dL_law_34 : decode code 34 = .ok (.iload 4, 2) := by decide +kernel
theorem dL_law_36 : decode code 36 = .ok (.ifCond .eq 60, 3) := by decide +kernel
theorem dL_law_39 : decode code 39 = .ok (.iload_n 3, 1) := by decide +kernel
theorem dL_law_40 : decode code 40 = .ok (.iconst 1, 1) := by decide +kernel
theorem dL_law_41 : decode code 41 = .ok (.bipush 9, 2) := by decide +kernel
theorem dL_law_43 : decode code 43 = .ok (.iload 5, 2) := by decide +kernel
theorem dL_law_45 : decode code 45 = .ok (.imul, 1) := by decide +kernel
theorem dL_law_46 : decode code 46 = .ok (.iadd, 1) := by decide +kernel
theorem dL_law_47 : decode code 47 = .ok (.idiv, 1) := by decide +kernel
theorem dL_law_48 : decode code 48 = .ok (.bipush 60, 2) := by decide +kernel
theorem dL_law_50 : decode code 50 = .ok (.irem, 1) := by decide +kernel
theorem dL_law_51 : decode code 51 = .ok (.istore 6, 2) := by decide +kernel
theorem dL_law_53 : decode code 53 = .ok (.aload_n 1, 1) := by decide +kernel
theorem dL_law_54 : decode code 54 = .ok (.bipush 8, 2) := by decide +kernel
theorem dL_law_56 : decode code 56 = .ok (.iload 6, 2) := by decide +kernel
theorem dL_law_58 : decode code 58 = .ok (.iconst 0, 1) := by decide +kernel
theorem dL_law_59 : decode code 59 = .ok (.iconst 0, 1) := by decide +kernel
theorem dL_law_60 : decode code 60 = .ok (.invokestatic 194, 3) := by decide +kernel
theorem dL_law_63 : decode code 63 = .ok (.iload 5, 2) := by decide +kernel
theorem dL_law_65 : decode code 65 = .ok (.if_icmp .ne 22, 3) := by decide +kernel
theorem dL_law_68 : decode code 68 = .ok (.aload_n 2, 1) := by decide +kernel
theorem dL_law_69 : decode code 69 = .ok (.bipush 8, 2) := by decide +kernel
theorem dL_law_71 : decode code 71 = .ok (.iload 6, 2) := by decide +kernel
theorem dL_law_73 : decode code 73 = .ok (.iconst 0, 1) := by decide +kernel
theorem dL_law_74 : decode code 74 = .ok (.iconst 0, 1) := by decide +kernel
theorem dL_law_75 : decode code 75 = .ok (.invokestatic 194, 3) := by decide +kernel
theorem dL_law_78 : decode code 78 = .ok (.iload 5, 2) := by decide +kernel
theorem dL_law_80 : decode code 80 = .ok (.if_icmp .ne 7, 3) := by decide +kernel
theorem dL_law_83 : decode code 83 = .ok (.iconst 1, 1) := by decide +kernel
theorem dL_law_84 : decode code 84 = .ok (.goto 4, 3) := by decide +kernel
theorem dL_law_87 : decode code 87 = .ok (.iconst 0, 1) := by decide +kernel
theorem dL_law_88 : decode code 88 = .ok (.istore 4, 2) := by decide +kernel
theorem dL_law_90 : decode code 90 = .ok (.iinc 5 1, 3) := by decide +kernel
theorem dL_law_93 : decode code 93 = .ok (.goto (-65), 3) := by decide +kernel
theorem dL_law_96 : decode code 96 = .ok (.iload 4, 2) := by decide +kernel
theorem dL_law_98 : decode code 98 = .ok (.ifCond .eq 63, 3) := by decide +kernel
theorem dL_law_101 : decode code 101 = .ok (.aload_n 1, 1) := by decide +kernel
theorem dL_law_102 : decode code 102 = .ok (.bipush 9, 2) := by decide +kernel
theorem dL_law_104 : decode code 104 = .ok (.iconst 0, 1) := by decide +kernel
theorem dL_law_105 : decode code 105 = .ok (.iconst 0, 1) := by decide +kernel
theorem dL_law_106 : decode code 106 = .ok (.iconst 0, 1) := by decide +kernel
theorem dL_law_107 : decode code 107 = .ok (.invokestatic 194, 3) := by decide +kernel
theorem dL_law_110 : decode code 110 = .ok (.iconst 3, 1) := by decide +kernel
theorem dL_law_111 : decode code 111 = .ok (.if_icmp .ne 50, 3) := by decide +kernel
theorem dL_law_114 : decode code 114 = .ok (.aload_n 2, 1) := by decide +kernel
theorem dL_law_115 : decode code 115 = .ok (.bipush 9, 2) := by decide +kernel
theorem dL_law_117 : decode code 117 = .ok (.iconst 0, 1) := by decide +kernel
theorem dL_law_118 : decode code 118 = .ok (.iconst 0, 1) := by decide +kernel
theorem dL_law_119 : decode code 119 = .ok (.iconst 0, 1) := by decide +kernel
theorem dL_law_120 : decode code 120 = .ok (.invokestatic 194, 3) := by decide +kernel
theorem dL_law_123 : decode code 123 = .ok (.iconst 3, 1) := by decide +kernel
theorem dL_law_124 : decode code 124 = .ok (.if_icmp .ne 37, 3) := by decide +kernel
theorem dL_law_127 : decode code 127 = .ok (.aload_n 1, 1) := by decide +kernel
theorem dL_law_128 : decode code 128 = .ok (.bipush 18, 2) := by decide +kernel
theorem dL_law_130 : decode code 130 = .ok (.iconst 1, 1) := by decide +kernel
theorem dL_law_131 : decode code 131 = .ok (.iload_n 3, 1) := by decide +kernel
theorem dL_law_132 : decode code 132 = .ok (.iconst 3, 1) := by decide +kernel
theorem dL_law_133 : decode code 133 = .ok (.irem, 1) := by decide +kernel
theorem dL_law_134 : decode code 134 = .ok (.iconst 0, 1) := by decide +kernel
theorem dL_law_135 : decode code 135 = .ok (.invokestatic 194, 3) := by decide +kernel
theorem dL_law_138 : decode code 138 = .ok (.iconst 5, 1) := by decide +kernel
theorem dL_law_139 : decode code 139 = .ok (.if_icmp .ne 22, 3) := by decide +kernel
theorem dL_law_142 : decode code 142 = .ok (.aload_n 2, 1) := by decide +kernel
theorem dL_law_143 : decode code 143 = .ok (.bipush 18, 2) := by decide +kernel
theorem dL_law_145 : decode code 145 = .ok (.iconst 1, 1) := by decide +kernel
theorem dL_law_146 : decode code 146 = .ok (.iload_n 3, 1) := by decide +kernel
theorem dL_law_147 : decode code 147 = .ok (.iconst 3, 1) := by decide +kernel
theorem dL_law_148 : decode code 148 = .ok (.irem, 1) := by decide +kernel
theorem dL_law_149 : decode code 149 = .ok (.iconst 0, 1) := by decide +kernel
theorem dL_law_150 : decode code 150 = .ok (.invokestatic 194, 3) := by decide +kernel
theorem dL_law_153 : decode code 153 = .ok (.iconst 5, 1) := by decide +kernel
