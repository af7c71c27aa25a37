theorem dX10_isOnList_0 : decode cX10_isOnList 0 = .ok (.aload_n 0, 1) := by decide +kernel
theorem dX10_isOnList_1 : decode cX10_isOnList 1 = .ok (.getfield 28, 3) := by decide +kernel
theorem dX10_isOnList_4 : decode cX10_isOnList 4 = .ok (.iload_n 2, 1) := by decide +kernel
theorem dX10_isOnList_5 : decode cX10_isOnList 5 = .ok (.invokevirtual 120, 3) := by decide +kernel
theorem dX10_isOnList_8 : decode cX10_isOnList 8 = .ok (.ifCond .eq 12, 3) := by decide +kernel
theorem dX10_isOnList_11 : decode cX10_isOnList 11 = .ok (.aload_n 0, 1) := by decide +kernel
theorem dX10_isOnList_12 : decode cX10_isOnList 12 = .ok (.getfield 21, 3) := by decide +kernel
theorem dX10_isOnList_15 : decode cX10_isOnList 15 = .ok (.iload_n 1, 1) := by decide +kernel
theorem dX10_isOnList_16 : decode cX10_isOnList 16 = .ok (.invokevirtual 113, 3) := by decide +kernel
theorem dX10_isOnList_19 : decode cX10_isOnList 19 = .ok (.ireturn, 1) := by decide +kernel
theorem dX10_isOnList_20 : decode cX10_isOnList 20 = .ok (.aload_n 0, 1) := by decide +kernel
theorem dX10_isOnList_21 : decode cX10_isOnList 21 = .ok (.getfield 28, 3) := by decide +kernel
theorem dX10_isOnList_24 : decode cX10_isOnList 24 = .ok (.getfield 123, 3) := by decide +kernel
theorem dX10_isOnList_27 : decode cX10_isOnList 27 = .ok (.iload_n 2, 1) := by decide +kernel
theorem dX10_isOnList_28 : decode cX10_isOnList 28 = .ok (.invokevirtual 101, 3) := by decide +kernel
theorem dX10_isOnList_31 : decode cX10_isOnList 31 = .ok (.iload_n 1, 1) := by decide +kernel
theorem dX10_isOnList_32 : decode cX10_isOnList 32 = .ok (.ishr, 1) := by decide +kernel
theorem dX10_isOnList_33 : decode cX10_isOnList 33 = .ok (.iconst 1, 1) := by decide +kernel
theorem dX10_isOnList_34 : decode cX10_isOnList 34 = .ok (.iand, 1) := by decide +kernel
theorem dX10_isOnList_35 : decode cX10_isOnList 35 = .ok (.ifCond .eq 7, 3) := by decide +kernel
theorem dX10_isOnList_38 : decode cX10_isOnList 38 = .ok (.iconst 1, 1) := by decide +kernel
theorem dX10_isOnList_39 : decode cX10_isOnList 39 = .ok (.goto 4, 3) := by decide +kernel
theorem dX10_isOnList_42 : decode cX10_isOnList 42 = .ok (.iconst 0, 1) := by decide +kernel
theorem dX10_isOnList_43 : decode cX10_isOnList 43 = .ok (.ireturn, 1) := by decide +kernel
theorem dX10_judge_0 : decode cX10_judge 0 = .ok (.aload_n 0, 1) := by decide +kernel
theorem dX10_judge_1 : decode cX10_judge 1 = .ok (.getfield 28, 3) := by decide +kernel
theorem dX10_judge_4 : decode cX10_judge 4 = .ok (.iload_n 2, 1) := by decide +kernel
theorem dX10_judge_5 : decode cX10_judge 5 = .ok (.invokevirtual 120, 3) := by decide +kernel
theorem dX10_judge_8 : decode cX10_judge 8 = .ok (.istore_n 3, 1) := by decide +kernel
theorem dX10_judge_9 : decode cX10_judge 9 = .ok (.aload_n 0, 1) := by decide +kernel
theorem dX10_judge_10 : decode cX10_judge 10 = .ok (.aload_n 0, 1) := by decide +kernel
theorem dX10_judge_11 : decode cX10_judge 11 = .ok (.getfield 12, 3) := by decide +kernel
theorem dX10_judge_14 : decode cX10_judge 14 = .ok (.getfield 169, 3) := by decide +kernel
theorem dX10_judge_17 : decode cX10_judge 17 = .ok (.iload_n 1, 1) := by decide +kernel
theorem dX10_judge_18 : decode cX10_judge 18 = .ok (.invokevirtual 101, 3) := by decide +kernel
theorem dX10_judge_21 : decode cX10_judge 21 = .ok (.iload_n 2, 1) := by decide +kernel
theorem dX10_judge_22 : decode cX10_judge 22 = .ok (.invokevirtual 188, 3) := by decide +kernel
theorem dX10_judge_25 : decode cX10_judge 25 = .ok (.ifCond .eq 5, 3) := by decide +kernel
theorem dX10_judge_28 : decode cX10_judge 28 = .ok (.iconst 3, 1) := by decide +kernel
theorem dX10_judge_29 : decode cX10_judge 29 = .ok (.ireturn, 1) := by decide +kernel
theorem dX10_judge_30 : decode cX10_judge 30 = .ok (.aload_n 0, 1) := by decide +kernel
theorem dX10_judge_31 : decode cX10_judge 31 = .ok (.getfield 12, 3) := by decide +kernel
theorem dX10_judge_34 : decode cX10_judge 34 = .ok (.getfield 192, 3) := by decide +kernel
theorem dX10_judge_37 : decode cX10_judge 37 = .ok (.iload_n 1, 1) := by decide +kernel
theorem dX10_judge_38 : decode cX10_judge 38 = .ok (.invokevirtual 101, 3) := by decide +kernel
theorem dX10_judge_41 : decode cX10_judge 41 = .ok (.istore 4, 2) := by decide +kernel
theorem dX10_judge_43 : decode cX10_judge 43 = .ok (.iload 4, 2) := by decide +kernel
theorem dX10_judge_45 : decode cX10_judge 45 = .ok (.iconst (-1), 1) := by decide +kernel
theorem dX10_judge_46 : decode cX10_judge 46 = .ok (.if_icmp .eq 23, 3) := by decide +kernel
theorem dX10_judge_49 : decode cX10_judge 49 = .ok (.aload_n 0, 1) := by decide +kernel
theorem dX10_judge_50 : decode cX10_judge 50 = .ok (.getfield 51, 3) := by decide +kernel
theorem dX10_judge_53 : decode cX10_judge 53 = .ok (.iload 4, 2) := by decide +kernel
theorem dX10_judge_55 : decode cX10_judge 55 = .ok (.isub, 1) := by decide +kernel
theorem dX10_judge_56 : decode cX10_judge 56 = .ok (.aload_n 0, 1) := by decide +kernel
theorem dX10_judge_57 : decode cX10_judge 57 = .ok (.getfield 37, 3) := by decide +kernel
theorem dX10_judge_60 : decode cX10_judge 60 = .ok (.iconst 1, 1) := by decide +kernel
theorem dX10_judge_61 : decode cX10_judge 61 = .ok (.invokevirtual 101, 3) := by decide +kernel
theorem dX10_judge_64 : decode cX10_judge 64 = .ok (.if_icmp .ge 5, 3) := by decide +kernel
theorem dX10_judge_67 : decode cX10_judge 67 = .ok (.iconst 4, 1) := by decide +kernel
theorem dX10_judge_68 : decode cX10_judge 68 = .ok (.ireturn, 1) := by decide +kernel
theorem dX10_judge_69 : decode cX10_judge 69 = .ok (.iload_n 3, 1) := by decide +kernel
theorem dX10_judge_70 : decode cX10_judge 70 = .ok (.ifCond .eq 7, 3) := by decide +kernel
theorem dX10_judge_73 : decode cX10_judge 73 = .ok (.iconst 0, 1) := by decide +kernel
theorem dX10_judge_74 : decode cX10_judge 74 = .ok (.goto 11, 3) := by decide +kernel
theorem dX10_judge_77 : decode cX10_judge 77 = .ok (.aload_n 0, 1) := by decide +kernel
theorem dX10_judge_78 : decode cX10_judge 78 = .ok (.getfield 37, 3) := by decide +kernel
theorem dX10_judge_81 : decode cX10_judge 81 = .ok (.iconst 0, 1) := by decide +kernel
theorem dX10_judge_82 : decode cX10_judge 82 = .ok (.invokevirtual 101, 3) := by decide +kernel
theorem dX10_judge_85 : decode cX10_judge 85 = .ok (.istore 5, 2) := by decide +kernel
theorem dX10_judge_87 : decode cX10_judge 87 = .ok (.aload_n 0, 1) := by decide +kernel
theorem dX10_judge_88 : decode cX10_judge 88 = .ok (.getfield 12, 3) := by decide +kernel
theorem dX10_judge_91 : decode cX10_judge 91 = .ok (.getfield 166, 3) := by decide +kernel
theorem dX10_judge_94 : decode cX10_judge 94 = .ok (.iload_n 1, 1) := by decide +kernel
theorem dX10_judge_95 : decode cX10_judge 95 = .ok (.invokevirtual 101, 3) := by decide +kernel
theorem dX10_judge_98 : decode cX10_judge 98 = .ok (.aload_n 0, 1) := by decide +kernel
theorem dX10_judge_99 : decode cX10_judge 99 = .ok (.getfield 28, 3) := by decide +kernel
theorem dX10_judge_102 : decode cX10_judge 102 = .ok (.getfield 195, 3) := by decide +kernel
theorem dX10_judge_105 : decode cX10_judge 105 = .ok (.iload_n 2, 1) := by decide +kernel
theorem dX10_judge_106 : decode cX10_judge 106 = .ok (.invokevirtual 101, 3) := by decide +kernel
theorem dX10_judge_109 : decode cX10_judge 109 = .ok (.isub, 1) := by decide +kernel
theorem dX10_judge_110 : decode cX10_judge 110 = .ok (.iload 5, 2) := by decide +kernel
theorem dX10_judge_112 : decode cX10_judge 112 = .ok (.ineg, 1) := by decide +kernel
theorem dX10_judge_113 : decode cX10_judge 113 = .ok (.if_icmp .ge 5, 3) := by decide +kernel
theorem dX10_judge_116 : decode cX10_judge 116 = .ok (.iconst 5, 1) := by decide +kernel
theorem dX10_judge_117 : decode cX10_judge 117 = .ok (.ireturn, 1) := by decide +kernel
theorem dX10_judge_118 : decode cX10_judge 118 = .ok (.iload_n 3, 1) := by decide +kernel
theorem dX10_judge_119 : decode cX10_judge 119 = .ok (.ifCond .ne 33, 3) := by decide +kernel
theorem dX10_judge_122 : decode cX10_judge 122 = .ok (.aload_n 0, 1) := by decide +kernel
theorem dX10_judge_123 : decode cX10_judge 123 = .ok (.getfield 28, 3) := by decide +kernel
theorem dX10_judge_126 : decode cX10_judge 126 = .ok (.iload_n 2, 1) := by decide +kernel
theorem dX10_judge_127 : decode cX10_judge 127 = .ok (.invokevirtual 198, 3) := by decide +kernel
theorem dX10_judge_130 : decode cX10_judge 130 = .ok (.ifCond .eq 22, 3) := by decide +kernel
theorem dX10_judge_133 : decode cX10_judge 133 = .ok (.aload_n 0, 1) := by decide +kernel
theorem dX10_judge_134 : decode cX10_judge 134 = .ok (.getfield 37, 3) := by decide +kernel
theorem dX10_judge_137 : decode cX10_judge 137 = .ok (.iconst 2, 1) := by decide +kernel
theorem dX10_judge_138 : decode cX10_judge 138 = .ok (.invokevirtual 101, 3) := by decide +kernel
theorem dX10_judge_141 : decode cX10_judge 141 = .ok (.ifCond .ne 8, 3) := by decide +kernel
theorem dX10_judge_144 : decode cX10_judge 144 = .ok (.bipush 6, 2) := by decide +kernel
theorem dX10_judge_146 : decode cX10_judge 146 = .ok (.goto 5, 3) := by decide +kernel
theorem dX10_judge_149 : decode cX10_judge 149 = .ok (.bipush 7, 2) := by decide +kernel
theorem dX10_judge_151 : decode cX10_judge 151 = .ok (.ireturn, 1) := by decide +kernel
theorem dX10_judge_152 : decode cX10_judge 152 = .ok (.iload_n 3, 1) := by decide +kernel
theorem dX10_judge_153 : decode cX10_judge 153 = .ok (.ifCond .eq 7, 3) := by decide +kernel
theorem dX10_judge_156 : decode cX10_judge 156 = .ok (.iconst 0, 1) := by decide +kernel
theorem dX10_judge_157 : decode cX10_judge 157 = .ok (.goto 4, 3) := by decide +kernel
theorem dX10_judge_160 : decode cX10_judge 160 = .ok (.iconst 1, 1) := by decide +kernel
theorem dX10_judge_161 : decode cX10_judge 161 = .ok (.ireturn, 1) := by decide +kernel
theorem dX10_takeRide_0 : decode cX10_takeRide 0 = .ok (.aload_n 0, 1) := by decide +kernel
theorem dX10_takeRide_1 : decode cX10_takeRide 1 = .ok (.getfield 28, 3) := by decide +kernel
theorem dX10_takeRide_4 : decode cX10_takeRide 4 = .ok (.getfield 195, 3) := by decide +kernel
theorem dX10_takeRide_7 : decode cX10_takeRide 7 = .ok (.iload_n 2, 1) := by decide +kernel
theorem dX10_takeRide_8 : decode cX10_takeRide 8 = .ok (.invokevirtual 101, 3) := by decide +kernel
theorem dX10_takeRide_11 : decode cX10_takeRide 11 = .ok (.istore_n 3, 1) := by decide +kernel
theorem dX10_takeRide_12 : decode cX10_takeRide 12 = .ok (.aload_n 0, 1) := by decide +kernel
theorem dX10_takeRide_13 : decode cX10_takeRide 13 = .ok (.getfield 12, 3) := by decide +kernel
theorem dX10_takeRide_16 : decode cX10_takeRide 16 = .ok (.getfield 166, 3) := by decide +kernel
theorem dX10_takeRide_19 : decode cX10_takeRide 19 = .ok (.iload_n 1, 1) := by decide +kernel
theorem dX10_takeRide_20 : decode cX10_takeRide 20 = .ok (.iload_n 3, 1) := by decide +kernel
theorem dX10_takeRide_21 : decode cX10_takeRide 21 = .ok (.ineg, 1) := by decide +kernel
theorem dX10_takeRide_22 : decode cX10_takeRide 22 = .ok (.invokevirtual 175, 3) := by decide +kernel
theorem dX10_takeRide_25 : decode cX10_takeRide 25 = .ok (.aload_n 0, 1) := by decide +kernel
theorem dX10_takeRide_26 : decode cX10_takeRide 26 = .ok (.getfield 12, 3) := by decide +kernel
theorem dX10_takeRide_29 : decode cX10_takeRide 29 = .ok (.getfield 201, 3) := by decide +kernel
theorem dX10_takeRide_32 : decode cX10_takeRide 32 = .ok (.iload_n 1, 1) := by decide +kernel
theorem dX10_takeRide_33 : decode cX10_takeRide 33 = .ok (.iconst 1, 1) := by decide +kernel
theorem dX10_takeRide_34 : decode cX10_takeRide 34 = .ok (.invokevirtual 175, 3) := by decide +kernel
theorem dX10_takeRide_37 : decode cX10_takeRide 37 = .ok (.aload_n 0, 1) := by decide +kernel
theorem dX10_takeRide_38 : decode cX10_takeRide 38 = .ok (.getfield 12, 3) := by decide +kernel
theorem dX10_takeRide_41 : decode cX10_takeRide 41 = .ok (.getfield 192, 3) := by decide +kernel
theorem dX10_takeRide_44 : decode cX10_takeRide 44 = .ok (.iload_n 1, 1) := by decide +kernel
theorem dX10_takeRide_45 : decode cX10_takeRide 45 = .ok (.aload_n 0, 1) := by decide +kernel
theorem dX10_takeRide_46 : decode cX10_takeRide 46 = .ok (.getfield 51, 3) := by decide +kernel
theorem dX10_takeRide_49 : decode cX10_takeRide 49 = .ok (.invokevirtual 47, 3) := by decide +kernel
theorem dX10_takeRide_52 : decode cX10_takeRide 52 = .ok (.aload_n 0, 1) := by decide +kernel
theorem dX10_takeRide_53 : decode cX10_takeRide 53 = .ok (.getfield 12, 3) := by decide +kernel
theorem dX10_takeRide_56 : decode cX10_takeRide 56 = .ok (.getfield 169, 3) := by decide +kernel
theorem dX10_takeRide_59 : decode cX10_takeRide 59 = .ok (.iload_n 1, 1) := by decide +kernel
theorem dX10_takeRide_60 : decode cX10_takeRide 60 = .ok (.invokevirtual 101, 3) := by decide +kernel
theorem dX10_takeRide_63 : decode cX10_takeRide 63 = .ok (.istore 4, 2) := by decide +kernel
theorem dX10_takeRide_65 : decode cX10_takeRide 65 = .ok (.aload_n 0, 1) := by decide +kernel
theorem dX10_takeRide_66 : decode cX10_takeRide 66 = .ok (.getfield 28, 3) := by decide +kernel
theorem dX10_takeRide_69 : decode cX10_takeRide 69 = .ok (.iload_n 2, 1) := by decide +kernel
theorem dX10_takeRide_70 : decode cX10_takeRide 70 = .ok (.invokevirtual 120, 3) := by decide +kernel
theorem dX10_takeRide_73 : decode cX10_takeRide 73 = .ok (.ifCond .eq 24, 3) := by decide +kernel
theorem dX10_takeRide_76 : decode cX10_takeRide 76 = .ok (.aload_n 0, 1) := by decide +kernel
theorem dX10_takeRide_77 : decode cX10_takeRide 77 = .ok (.iload 4, 2) := by decide +kernel
theorem dX10_takeRide_79 : decode cX10_takeRide 79 = .ok (.aload_n 0, 1) := by decide +kernel
theorem dX10_takeRide_80 : decode cX10_takeRide 80 = .ok (.getfield 12, 3) := by decide +kernel
theorem dX10_takeRide_83 : decode cX10_takeRide 83 = .ok (.getfield 201, 3) := by decide +kernel
theorem dX10_takeRide_86 : decode cX10_takeRide 86 = .ok (.iload_n 1, 1) := by decide +kernel
theorem dX10_takeRide_87 : decode cX10_takeRide 87 = .ok (.invokevirtual 101, 3) := by decide +kernel
theorem dX10_takeRide_90 : decode cX10_takeRide 90 = .ok (.iload_n 3, 1) := by decide +kernel
theorem dX10_takeRide_91 : decode cX10_takeRide 91 = .ok (.invokevirtual 148, 3) := by decide +kernel
theorem dX10_takeRide_94 : decode cX10_takeRide 94 = .ok (.goto 25, 3) := by decide +kernel
theorem dX10_takeRide_97 : decode cX10_takeRide 97 = .ok (.aload_n 0, 1) := by decide +kernel
theorem dX10_takeRide_98 : decode cX10_takeRide 98 = .ok (.getfield 28, 3) := by decide +kernel
theorem dX10_takeRide_101 : decode cX10_takeRide 101 = .ok (.iload_n 2, 1) := by decide +kernel
theorem dX10_takeRide_102 : decode cX10_takeRide 102 = .ok (.iload 4, 2) := by decide +kernel
theorem dX10_takeRide_104 : decode cX10_takeRide 104 = .ok (.aload_n 0, 1) := by decide +kernel
theorem dX10_takeRide_105 : decode cX10_takeRide 105 = .ok (.getfield 12, 3) := by decide +kernel
theorem dX10_takeRide_108 : decode cX10_takeRide 108 = .ok (.getfield 201, 3) := by decide +kernel
theorem dX10_takeRide_111 : decode cX10_takeRide 111 = .ok (.iload_n 1, 1) := by decide +kernel
theorem dX10_takeRide_112 : decode cX10_takeRide 112 = .ok (.invokevirtual 101, 3) := by decide +kernel
theorem dX10_takeRide_115 : decode cX10_takeRide 115 = .ok (.iload_n 3, 1) := by decide +kernel
theorem dX10_takeRide_116 : decode cX10_takeRide 116 = .ok (.invokevirtual 204, 3) := by decide +kernel
theorem dX10_takeRide_119 : decode cX10_takeRide 119 = .ok (.return_, 1) := by decide +kernel
theorem dX10_showCard_0 : decode cX10_showCard 0 = .ok (.aload_n 0, 1) := by decide +kernel
theorem dX10_showCard_1 : decode cX10_showCard 1 = .ok (.getfield 12, 3) := by decide +kernel
theorem dX10_showCard_4 : decode cX10_showCard 4 = .ok (.iload_n 1, 1) := by decide +kernel
theorem dX10_showCard_5 : decode cX10_showCard 5 = .ok (.invokevirtual 159, 3) := by decide +kernel
theorem dX10_showCard_8 : decode cX10_showCard 8 = .ok (.ifCond .eq 14, 3) := by decide +kernel
theorem dX10_showCard_11 : decode cX10_showCard 11 = .ok (.aload_n 0, 1) := by decide +kernel
theorem dX10_showCard_12 : decode cX10_showCard 12 = .ok (.getfield 28, 3) := by decide +kernel
theorem dX10_showCard_15 : decode cX10_showCard 15 = .ok (.iload_n 2, 1) := by decide +kernel
theorem dX10_showCard_16 : decode cX10_showCard 16 = .ok (.invokevirtual 162, 3) := by decide +kernel
theorem dX10_showCard_19 : decode cX10_showCard 19 = .ok (.ifCond .ne 5, 3) := by decide +kernel
theorem dX10_showCard_22 : decode cX10_showCard 22 = .ok (.iconst (-1), 1) := by decide +kernel
theorem dX10_showCard_23 : decode cX10_showCard 23 = .ok (.ireturn, 1) := by decide +kernel
theorem dX10_showCard_24 : decode cX10_showCard 24 = .ok (.aload_n 0, 1) := by decide +kernel
theorem dX10_showCard_25 : decode cX10_showCard 25 = .ok (.getfield 28, 3) := by decide +kernel
theorem dX10_showCard_28 : decode cX10_showCard 28 = .ok (.iload_n 2, 1) := by decide +kernel
theorem dX10_showCard_29 : decode cX10_showCard 29 = .ok (.invokevirtual 163, 3) := by decide +kernel
theorem dX10_showCard_32 : decode cX10_showCard 32 = .ok (.ifCond .eq 15, 3) := by decide +kernel
theorem dX10_showCard_35 : decode cX10_showCard 35 = .ok (.aload_n 0, 1) := by decide +kernel
theorem dX10_showCard_36 : decode cX10_showCard 36 = .ok (.dup, 1) := by decide +kernel
theorem dX10_showCard_37 : decode cX10_showCard 37 = .ok (.getfield 67, 3) := by decide +kernel
theorem dX10_showCard_40 : decode cX10_showCard 40 = .ok (.iconst 1, 1) := by decide +kernel
theorem dX10_showCard_41 : decode cX10_showCard 41 = .ok (.iadd, 1) := by decide +kernel
theorem dX10_showCard_42 : decode cX10_showCard 42 = .ok (.putfield 67, 3) := by decide +kernel
theorem dX10_showCard_45 : decode cX10_showCard 45 = .ok (.iconst 2, 1) := by decide +kernel
theorem dX10_showCard_46 : decode cX10_showCard 46 = .ok (.ireturn, 1) := by decide +kernel
theorem dX10_showCard_47 : decode cX10_showCard 47 = .ok (.aload_n 0, 1) := by decide +kernel
theorem dX10_showCard_48 : decode cX10_showCard 48 = .ok (.getfield 28, 3) := by decide +kernel
theorem dX10_showCard_51 : decode cX10_showCard 51 = .ok (.iload_n 2, 1) := by decide +kernel
theorem dX10_showCard_52 : decode cX10_showCard 52 = .ok (.invokevirtual 120, 3) := by decide +kernel
theorem dX10_showCard_55 : decode cX10_showCard 55 = .ok (.ifCond .eq 32, 3) := by decide +kernel
theorem dX10_showCard_58 : decode cX10_showCard 58 = .ok (.aload_n 0, 1) := by decide +kernel
theorem dX10_showCard_59 : decode cX10_showCard 59 = .ok (.getfield 12, 3) := by decide +kernel
theorem dX10_showCard_62 : decode cX10_showCard 62 = .ok (.getfield 166, 3) := by decide +kernel
theorem dX10_showCard_65 : decode cX10_showCard 65 = .ok (.iload_n 1, 1) := by decide +kernel
theorem dX10_showCard_66 : decode cX10_showCard 66 = .ok (.aload_n 0, 1) := by decide +kernel
theorem dX10_showCard_67 : decode cX10_showCard 67 = .ok (.getfield 21, 3) := by decide +kernel
theorem dX10_showCard_70 : decode cX10_showCard 70 = .ok (.aload_n 0, 1) := by decide +kernel
theorem dX10_showCard_71 : decode cX10_showCard 71 = .ok (.getfield 12, 3) := by decide +kernel
theorem dX10_showCard_74 : decode cX10_showCard 74 = .ok (.getfield 169, 3) := by decide +kernel
theorem dX10_showCard_77 : decode cX10_showCard 77 = .ok (.iload_n 1, 1) := by decide +kernel
theorem dX10_showCard_78 : decode cX10_showCard 78 = .ok (.invokevirtual 101, 3) := by decide +kernel
theorem dX10_showCard_81 : decode cX10_showCard 81 = .ok (.invokevirtual 172, 3) := by decide +kernel
theorem dX10_showCard_84 : decode cX10_showCard 84 = .ok (.invokevirtual 175, 3) := by decide +kernel
theorem dX10_showCard_87 : decode cX10_showCard 87 = .ok (.aload_n 0, 1) := by decide +kernel
theorem dX10_showCard_88 : decode cX10_showCard 88 = .ok (.iload_n 1, 1) := by decide +kernel
theorem dX10_showCard_89 : decode cX10_showCard 89 = .ok (.iload_n 2, 1) := by decide +kernel
theorem dX10_showCard_90 : decode cX10_showCard 90 = .ok (.invokevirtual 178, 3) := by decide +kernel
theorem dX10_showCard_93 : decode cX10_showCard 93 = .ok (.istore_n 3, 1) := by decide +kernel
theorem dX10_showCard_94 : decode cX10_showCard 94 = .ok (.iload_n 3, 1) := by decide +kernel
theorem dX10_showCard_95 : decode cX10_showCard 95 = .ok (.invokestatic 182, 3) := by decide +kernel
theorem dX10_showCard_98 : decode cX10_showCard 98 = .ok (.ifCond .ne 16, 3) := by decide +kernel
theorem dX10_showCard_101 : decode cX10_showCard 101 = .ok (.aload_n 0, 1) := by decide +kernel
theorem dX10_showCard_102 : decode cX10_showCard 102 = .ok (.dup, 1) := by decide +kernel
theorem dX10_showCard_103 : decode cX10_showCard 103 = .ok (.getfield 64, 3) := by decide +kernel
theorem dX10_showCard_106 : decode cX10_showCard 106 = .ok (.iconst 1, 1) := by decide +kernel
theorem dX10_showCard_107 : decode cX10_showCard 107 = .ok (.iadd, 1) := by decide +kernel
theorem dX10_showCard_108 : decode cX10_showCard 108 = .ok (.putfield 64, 3) := by decide +kernel
theorem dX10_showCard_111 : decode cX10_showCard 111 = .ok (.goto 28, 3) := by decide +kernel
theorem dX10_showCard_114 : decode cX10_showCard 114 = .ok (.iload_n 3, 1) := by decide +kernel
theorem dX10_showCard_115 : decode cX10_showCard 115 = .ok (.bipush 7, 2) := by decide +kernel
theorem dX10_showCard_117 : decode cX10_showCard 117 = .ok (.if_icmp .ne 16, 3) := by decide +kernel
theorem dX10_showCard_120 : decode cX10_showCard 120 = .ok (.aload_n 0, 1) := by decide +kernel
theorem dX10_showCard_121 : decode cX10_showCard 121 = .ok (.dup, 1) := by decide +kernel
theorem dX10_showCard_122 : decode cX10_showCard 122 = .ok (.getfield 67, 3) := by decide +kernel
theorem dX10_showCard_125 : decode cX10_showCard 125 = .ok (.iconst 1, 1) := by decide +kernel
theorem dX10_showCard_126 : decode cX10_showCard 126 = .ok (.iadd, 1) := by decide +kernel
theorem dX10_showCard_127 : decode cX10_showCard 127 = .ok (.putfield 67, 3) := by decide +kernel
theorem dX10_showCard_130 : decode cX10_showCard 130 = .ok (.goto 9, 3) := by decide +kernel
theorem dX10_showCard_133 : decode cX10_showCard 133 = .ok (.aload_n 0, 1) := by decide +kernel
theorem dX10_showCard_134 : decode cX10_showCard 134 = .ok (.iload_n 1, 1) := by decide +kernel
theorem dX10_showCard_135 : decode cX10_showCard 135 = .ok (.iload_n 2, 1) := by decide +kernel
theorem dX10_showCard_136 : decode cX10_showCard 136 = .ok (.invokevirtual 185, 3) := by decide +kernel
theorem dX10_showCard_139 : decode cX10_showCard 139 = .ok (.iload_n 3, 1) := by decide +kernel
theorem dX10_showCard_140 : decode cX10_showCard 140 = .ok (.ireturn, 1) := by decide +kernel
theorem dX10_tryIssue_0 : decode cX10_tryIssue 0 = .ok (.iload_n 1, 1) := by decide +kernel
theorem dX10_tryIssue_1 : decode cX10_tryIssue 1 = .ok (.ifCond .lt 16, 3) := by decide +kernel
theorem dX10_tryIssue_4 : decode cX10_tryIssue 4 = .ok (.iload_n 1, 1) := by decide +kernel
theorem dX10_tryIssue_5 : decode cX10_tryIssue 5 = .ok (.bipush 99, 2) := by decide +kernel
theorem dX10_tryIssue_7 : decode cX10_tryIssue 7 = .ok (.if_icmp .gt 10, 3) := by decide +kernel
theorem dX10_tryIssue_10 : decode cX10_tryIssue 10 = .ok (.aload_n 0, 1) := by decide +kernel
theorem dX10_tryIssue_11 : decode cX10_tryIssue 11 = .ok (.invokevirtual 208, 3) := by decide +kernel
theorem dX10_tryIssue_14 : decode cX10_tryIssue 14 = .ok (.ifCond .ne 5, 3) := by decide +kernel
theorem dX10_tryIssue_17 : decode cX10_tryIssue 17 = .ok (.iconst 0, 1) := by decide +kernel
theorem dX10_tryIssue_18 : decode cX10_tryIssue 18 = .ok (.ireturn, 1) := by decide +kernel
theorem dX10_tryIssue_19 : decode cX10_tryIssue 19 = .ok (.aload_n 0, 1) := by decide +kernel
theorem dX10_tryIssue_20 : decode cX10_tryIssue 20 = .ok (.iload_n 1, 1) := by decide +kernel
theorem dX10_tryIssue_21 : decode cX10_tryIssue 21 = .ok (.invokevirtual 211, 3) := by decide +kernel
theorem dX10_tryIssue_24 : decode cX10_tryIssue 24 = .ok (.pop, 1) := by decide +kernel
theorem dX10_tryIssue_25 : decode cX10_tryIssue 25 = .ok (.iconst 1, 1) := by decide +kernel
theorem dX10_tryIssue_26 : decode cX10_tryIssue 26 = .ok (.ireturn, 1) := by decide +kernel
theorem dX10_tryCopy_0 : decode cX10_tryCopy 0 = .ok (.aload_n 0, 1) := by decide +kernel
theorem dX10_tryCopy_1 : decode cX10_tryCopy 1 = .ok (.getfield 12, 3) := by decide +kernel
theorem dX10_tryCopy_4 : decode cX10_tryCopy 4 = .ok (.iload_n 1, 1) := by decide +kernel
theorem dX10_tryCopy_5 : decode cX10_tryCopy 5 = .ok (.invokevirtual 159, 3) := by decide +kernel
theorem dX10_tryCopy_8 : decode cX10_tryCopy 8 = .ok (.ifCond .eq 13, 3) := by decide +kernel
theorem dX10_tryCopy_11 : decode cX10_tryCopy 11 = .ok (.aload_n 0, 1) := by decide +kernel
theorem dX10_tryCopy_12 : decode cX10_tryCopy 12 = .ok (.getfield 12, 3) := by decide +kernel
theorem dX10_tryCopy_15 : decode cX10_tryCopy 15 = .ok (.invokevirtual 130, 3) := by decide +kernel
theorem dX10_tryCopy_18 : decode cX10_tryCopy 18 = .ok (.ifCond .eq 5, 3) := by decide +kernel
theorem dX10_tryCopy_21 : decode cX10_tryCopy 21 = .ok (.iconst 0, 1) := by decide +kernel
theorem dX10_tryCopy_22 : decode cX10_tryCopy 22 = .ok (.ireturn, 1) := by decide +kernel
theorem dX10_tryCopy_23 : decode cX10_tryCopy 23 = .ok (.aload_n 0, 1) := by decide +kernel
theorem dX10_tryCopy_24 : decode cX10_tryCopy 24 = .ok (.getfield 12, 3) := by decide +kernel
theorem dX10_tryCopy_27 : decode cX10_tryCopy 27 = .ok (.iload_n 1, 1) := by decide +kernel
theorem dX10_tryCopy_28 : decode cX10_tryCopy 28 = .ok (.invokevirtual 214, 3) := by decide +kernel
theorem dX10_tryCopy_31 : decode cX10_tryCopy 31 = .ok (.pop, 1) := by decide +kernel
theorem dX10_tryCopy_32 : decode cX10_tryCopy 32 = .ok (.iconst 1, 1) := by decide +kernel
theorem dX10_tryCopy_33 : decode cX10_tryCopy 33 = .ok (.ireturn, 1) := by decide +kernel
theorem dX10_tryPay_0 : decode cX10_tryPay 0 = .ok (.aload_n 0, 1) := by decide +kernel
theorem dX10_tryPay_1 : decode cX10_tryPay 1 = .ok (.getfield 21, 3) := by decide +kernel
theorem dX10_tryPay_4 : decode cX10_tryPay 4 = .ok (.iload_n 1, 1) := by decide +kernel
theorem dX10_tryPay_5 : decode cX10_tryPay 5 = .ok (.invokevirtual 217, 3) := by decide +kernel
theorem dX10_tryPay_8 : decode cX10_tryPay 8 = .ok (.ifCond .eq 14, 3) := by decide +kernel
theorem dX10_tryPay_11 : decode cX10_tryPay 11 = .ok (.iload_n 2, 1) := by decide +kernel
theorem dX10_tryPay_12 : decode cX10_tryPay 12 = .ok (.iconst 1, 1) := by decide +kernel
theorem dX10_tryPay_13 : decode cX10_tryPay 13 = .ok (.if_icmp .lt 9, 3) := by decide +kernel
theorem dX10_tryPay_16 : decode cX10_tryPay 16 = .ok (.iload_n 2, 1) := by decide +kernel
theorem dX10_tryPay_17 : decode cX10_tryPay 17 = .ok (.bipush 99, 2) := by decide +kernel
theorem dX10_tryPay_19 : decode cX10_tryPay 19 = .ok (.if_icmp .le 5, 3) := by decide +kernel
theorem dX10_tryPay_22 : decode cX10_tryPay 22 = .ok (.iconst 0, 1) := by decide +kernel
theorem dX10_tryPay_23 : decode cX10_tryPay 23 = .ok (.ireturn, 1) := by decide +kernel
theorem dX10_tryPay_24 : decode cX10_tryPay 24 = .ok (.aload_n 0, 1) := by decide +kernel
theorem dX10_tryPay_25 : decode cX10_tryPay 25 = .ok (.getfield 21, 3) := by decide +kernel
theorem dX10_tryPay_28 : decode cX10_tryPay 28 = .ok (.iload_n 1, 1) := by decide +kernel
theorem dX10_tryPay_29 : decode cX10_tryPay 29 = .ok (.iload_n 2, 1) := by decide +kernel
theorem dX10_tryPay_30 : decode cX10_tryPay 30 = .ok (.invokevirtual 218, 3) := by decide +kernel
theorem dX10_tryPay_33 : decode cX10_tryPay 33 = .ok (.pop, 1) := by decide +kernel
theorem dX10_tryPay_34 : decode cX10_tryPay 34 = .ok (.iconst 1, 1) := by decide +kernel
theorem dX10_tryPay_35 : decode cX10_tryPay 35 = .ok (.ireturn, 1) := by decide +kernel
theorem dX10_tryPardon_0 : decode cX10_tryPardon 0 = .ok (.aload_n 0, 1) := by decide +kernel
theorem dX10_tryPardon_1 : decode cX10_tryPardon 1 = .ok (.getfield 21, 3) := by decide +kernel
theorem dX10_tryPardon_4 : decode cX10_tryPardon 4 = .ok (.iload_n 1, 1) := by decide +kernel
theorem dX10_tryPardon_5 : decode cX10_tryPardon 5 = .ok (.invokevirtual 217, 3) := by decide +kernel
theorem dX10_tryPardon_8 : decode cX10_tryPardon 8 = .ok (.ifCond .eq 14, 3) := by decide +kernel
theorem dX10_tryPardon_11 : decode cX10_tryPardon 11 = .ok (.aload_n 0, 1) := by decide +kernel
theorem dX10_tryPardon_12 : decode cX10_tryPardon 12 = .ok (.getfield 21, 3) := by decide +kernel
theorem dX10_tryPardon_15 : decode cX10_tryPardon 15 = .ok (.iload_n 1, 1) := by decide +kernel
theorem dX10_tryPardon_16 : decode cX10_tryPardon 16 = .ok (.invokevirtual 221, 3) := by decide +kernel
theorem dX10_tryPardon_19 : decode cX10_tryPardon 19 = .ok (.ifCond .ne 5, 3) := by decide +kernel
theorem dX10_tryPardon_22 : decode cX10_tryPardon 22 = .ok (.iconst 0, 1) := by decide +kernel
theorem dX10_tryPardon_23 : decode cX10_tryPardon 23 = .ok (.ireturn, 1) := by decide +kernel
theorem dX10_tryPardon_24 : decode cX10_tryPardon 24 = .ok (.aload_n 0, 1) := by decide +kernel
theorem dX10_tryPardon_25 : decode cX10_tryPardon 25 = .ok (.getfield 21, 3) := by decide +kernel
theorem dX10_tryPardon_28 : decode cX10_tryPardon 28 = .ok (.iload_n 1, 1) := by decide +kernel
theorem dX10_tryPardon_29 : decode cX10_tryPardon 29 = .ok (.invokevirtual 224, 3) := by decide +kernel
theorem dX10_tryPardon_32 : decode cX10_tryPardon 32 = .ok (.pop, 1) := by decide +kernel
theorem dX10_tryPardon_33 : decode cX10_tryPardon 33 = .ok (.iconst 1, 1) := by decide +kernel
theorem dX10_tryPardon_34 : decode cX10_tryPardon 34 = .ok (.ireturn, 1) := by decide +kernel
theorem dX10_tryDown_0 : decode cX10_tryDown 0 = .ok (.aload_n 0, 1) := by decide +kernel
theorem dX10_tryDown_1 : decode cX10_tryDown 1 = .ok (.getfield 28, 3) := by decide +kernel
theorem dX10_tryDown_4 : decode cX10_tryDown 4 = .ok (.iload_n 1, 1) := by decide +kernel
theorem dX10_tryDown_5 : decode cX10_tryDown 5 = .ok (.invokevirtual 162, 3) := by decide +kernel
theorem dX10_tryDown_8 : decode cX10_tryDown 8 = .ok (.ifCond .eq 14, 3) := by decide +kernel
theorem dX10_tryDown_11 : decode cX10_tryDown 11 = .ok (.aload_n 0, 1) := by decide +kernel
theorem dX10_tryDown_12 : decode cX10_tryDown 12 = .ok (.getfield 28, 3) := by decide +kernel
theorem dX10_tryDown_15 : decode cX10_tryDown 15 = .ok (.iload_n 1, 1) := by decide +kernel
theorem dX10_tryDown_16 : decode cX10_tryDown 16 = .ok (.invokevirtual 120, 3) := by decide +kernel
theorem dX10_tryDown_19 : decode cX10_tryDown 19 = .ok (.ifCond .ne 5, 3) := by decide +kernel
theorem dX10_tryDown_22 : decode cX10_tryDown 22 = .ok (.iconst 0, 1) := by decide +kernel
theorem dX10_tryDown_23 : decode cX10_tryDown 23 = .ok (.ireturn, 1) := by decide +kernel
theorem dX10_tryDown_24 : decode cX10_tryDown 24 = .ok (.aload_n 0, 1) := by decide +kernel
theorem dX10_tryDown_25 : decode cX10_tryDown 25 = .ok (.iload_n 1, 1) := by decide +kernel
theorem dX10_tryDown_26 : decode cX10_tryDown 26 = .ok (.invokevirtual 227, 3) := by decide +kernel
theorem dX10_tryDown_29 : decode cX10_tryDown 29 = .ok (.pop, 1) := by decide +kernel
theorem dX10_tryDown_30 : decode cX10_tryDown 30 = .ok (.iconst 1, 1) := by decide +kernel
theorem dX10_tryDown_31 : decode cX10_tryDown 31 = .ok (.ireturn, 1) := by decide +kernel
theorem dX10_tryUp_0 : decode cX10_tryUp 0 = .ok (.aload_n 0, 1) := by decide +kernel
theorem dX10_tryUp_1 : decode cX10_tryUp 1 = .ok (.getfield 28, 3) := by decide +kernel
theorem dX10_tryUp_4 : decode cX10_tryUp 4 = .ok (.iload_n 1, 1) := by decide +kernel
theorem dX10_tryUp_5 : decode cX10_tryUp 5 = .ok (.invokevirtual 162, 3) := by decide +kernel
theorem dX10_tryUp_8 : decode cX10_tryUp 8 = .ok (.ifCond .eq 14, 3) := by decide +kernel
theorem dX10_tryUp_11 : decode cX10_tryUp 11 = .ok (.aload_n 0, 1) := by decide +kernel
theorem dX10_tryUp_12 : decode cX10_tryUp 12 = .ok (.getfield 28, 3) := by decide +kernel
theorem dX10_tryUp_15 : decode cX10_tryUp 15 = .ok (.iload_n 1, 1) := by decide +kernel
theorem dX10_tryUp_16 : decode cX10_tryUp 16 = .ok (.invokevirtual 120, 3) := by decide +kernel
theorem dX10_tryUp_19 : decode cX10_tryUp 19 = .ok (.ifCond .eq 5, 3) := by decide +kernel
theorem dX10_tryUp_22 : decode cX10_tryUp 22 = .ok (.iconst 0, 1) := by decide +kernel
theorem dX10_tryUp_23 : decode cX10_tryUp 23 = .ok (.ireturn, 1) := by decide +kernel
theorem dX10_tryUp_24 : decode cX10_tryUp 24 = .ok (.aload_n 0, 1) := by decide +kernel
theorem dX10_tryUp_25 : decode cX10_tryUp 25 = .ok (.iload_n 1, 1) := by decide +kernel
theorem dX10_tryUp_26 : decode cX10_tryUp 26 = .ok (.invokevirtual 230, 3) := by decide +kernel
theorem dX10_tryUp_29 : decode cX10_tryUp 29 = .ok (.pop, 1) := by decide +kernel
theorem dX10_tryUp_30 : decode cX10_tryUp 30 = .ok (.iconst 1, 1) := by decide +kernel
theorem dX10_tryUp_31 : decode cX10_tryUp 31 = .ok (.ireturn, 1) := by decide +kernel
theorem dX10_tryOpen_0 : decode cX10_tryOpen 0 = .ok (.aload_n 0, 1) := by decide +kernel
theorem dX10_tryOpen_1 : decode cX10_tryOpen 1 = .ok (.getfield 28, 3) := by decide +kernel
theorem dX10_tryOpen_4 : decode cX10_tryOpen 4 = .ok (.iload_n 1, 1) := by decide +kernel
theorem dX10_tryOpen_5 : decode cX10_tryOpen 5 = .ok (.invokevirtual 162, 3) := by decide +kernel
theorem dX10_tryOpen_8 : decode cX10_tryOpen 8 = .ok (.ifCond .ne 5, 3) := by decide +kernel
theorem dX10_tryOpen_11 : decode cX10_tryOpen 11 = .ok (.iconst 0, 1) := by decide +kernel
theorem dX10_tryOpen_12 : decode cX10_tryOpen 12 = .ok (.ireturn, 1) := by decide +kernel
theorem dX10_tryOpen_13 : decode cX10_tryOpen 13 = .ok (.aload_n 0, 1) := by decide +kernel
theorem dX10_tryOpen_14 : decode cX10_tryOpen 14 = .ok (.getfield 28, 3) := by decide +kernel
theorem dX10_tryOpen_17 : decode cX10_tryOpen 17 = .ok (.iload_n 1, 1) := by decide +kernel
theorem dX10_tryOpen_18 : decode cX10_tryOpen 18 = .ok (.invokevirtual 233, 3) := by decide +kernel
theorem dX10_tryOpen_21 : decode cX10_tryOpen 21 = .ok (.pop, 1) := by decide +kernel
theorem dX10_tryOpen_22 : decode cX10_tryOpen 22 = .ok (.iconst 1, 1) := by decide +kernel
theorem dX10_tryOpen_23 : decode cX10_tryOpen 23 = .ok (.ireturn, 1) := by decide +kernel
theorem dX10_tryRun_0 : decode cX10_tryRun 0 = .ok (.iload_n 1, 1) := by decide +kernel
theorem dX10_tryRun_1 : decode cX10_tryRun 1 = .ok (.iconst 1, 1) := by decide +kernel
theorem dX10_tryRun_2 : decode cX10_tryRun 2 = .ok (.if_icmp .lt 9, 3) := by decide +kernel
theorem dX10_tryRun_5 : decode cX10_tryRun 5 = .ok (.iload_n 1, 1) := by decide +kernel
theorem dX10_tryRun_6 : decode cX10_tryRun 6 = .ok (.bipush 60, 2) := by decide +kernel
theorem dX10_tryRun_8 : decode cX10_tryRun 8 = .ok (.if_icmp .le 5, 3) := by decide +kernel
theorem dX10_tryRun_11 : decode cX10_tryRun 11 = .ok (.iconst 0, 1) := by decide +kernel
theorem dX10_tryRun_12 : decode cX10_tryRun 12 = .ok (.ireturn, 1) := by decide +kernel
theorem dX10_tryRun_13 : decode cX10_tryRun 13 = .ok (.aload_n 0, 1) := by decide +kernel
theorem dX10_tryRun_14 : decode cX10_tryRun 14 = .ok (.dup, 1) := by decide +kernel
theorem dX10_tryRun_15 : decode cX10_tryRun 15 = .ok (.getfield 51, 3) := by decide +kernel
theorem dX10_tryRun_18 : decode cX10_tryRun 18 = .ok (.iload_n 1, 1) := by decide +kernel
theorem dX10_tryRun_19 : decode cX10_tryRun 19 = .ok (.iadd, 1) := by decide +kernel
theorem dX10_tryRun_20 : decode cX10_tryRun 20 = .ok (.putfield 51, 3) := by decide +kernel
theorem dX10_tryRun_23 : decode cX10_tryRun 23 = .ok (.iconst 1, 1) := by decide +kernel
theorem dX10_tryRun_24 : decode cX10_tryRun 24 = .ok (.ireturn, 1) := by decide +kernel
theorem yf_X0_has : (Cond.instanceMethod yX0_has) ∈ gtbl ∧ (Cond.selects RX0 yX0_has yX0_has) ∈ gtbl ∧ (Cond.initialized RX0) ∈ gtbl ∧ (Cond.code yX0_has cX0_has 2 (some .boolean)) ∈ gtbl ∧ (yX0_has.cls = RX0 ∧ yX0_has.cls ≠ "java/lang/invoke/MethodHandle" ∧ yX0_has.cls ≠ "java/lang/invoke/VarHandle" ∧ (parseMethodDescriptor yX0_has.desc).map (fun d => d.parameters.length) = some 1) := ⟨gt_in 496 (by decide +kernel) (by decide +kernel), gt_in 497 (by decide +kernel) (by decide +kernel), gt_in 12 (by decide +kernel) (by decide +kernel), gt_in 498 (by decide +kernel) (by decide +kernel), by decide +kernel⟩
theorem cw_X10_159 : uCW RX10 RX0 159 yX0_has cX0_has 2 (some .boolean) 1 := ⟨gt_in 495 (by decide +kernel) (by decide +kernel), yf_X0_has⟩
theorem yf_X3_has : (Cond.instanceMethod yX3_has) ∈ gtbl ∧ (Cond.selects RX3 yX3_has yX3_has) ∈ gtbl ∧ (Cond.initialized RX3) ∈ gtbl ∧ (Cond.code yX3_has cX3_has 2 (some .boolean)) ∈ gtbl ∧ (yX3_has.cls = RX3 ∧ yX3_has.cls ≠ "java/lang/invoke/MethodHandle" ∧ yX3_has.cls ≠ "java/lang/invoke/VarHandle" ∧ (parseMethodDescriptor yX3_has.desc).map (fun d => d.parameters.length) = some 1) := ⟨gt_in 510 (by decide +kernel) (by decide +kernel), gt_in 511 (by decide +kernel) (by decide +kernel), gt_in 16 (by decide +kernel) (by decide +kernel), gt_in 512 (by decide +kernel) (by decide +kernel), by decide +kernel⟩
theorem cw_X10_162 : uCW RX10 RX3 162 yX3_has cX3_has 2 (some .boolean) 1 := ⟨gt_in 509 (by decide +kernel) (by decide +kernel), yf_X3_has⟩
theorem cw_X10_163 : uCW RX10 RX3 163 yX3_isOpen cX3_isOpen 2 (some .boolean) 1 := ⟨gt_in 513 (by decide +kernel) (by decide +kernel), yf_X3_isOpen⟩
theorem yf_X5_takeWaiting : (Cond.instanceMethod yX5_takeWaiting) ∈ gtbl ∧ (Cond.selects RX5 yX5_takeWaiting yX5_takeWaiting) ∈ gtbl ∧ (Cond.initialized RX5) ∈ gtbl ∧ (Cond.code yX5_takeWaiting cX5_takeWaiting 2 (some .int)) ∈ gtbl ∧ (yX5_takeWaiting.cls = RX5 ∧ yX5_takeWaiting.cls ≠ "java/lang/invoke/MethodHandle" ∧ yX5_takeWaiting.cls ≠ "java/lang/invoke/VarHandle" ∧ (parseMethodDescriptor yX5_takeWaiting.desc).map (fun d => d.parameters.length) = some 1) := ⟨gt_in 524 (by decide +kernel) (by decide +kernel), gt_in 525 (by decide +kernel) (by decide +kernel), gt_in 15 (by decide +kernel) (by decide +kernel), gt_in 526 (by decide +kernel) (by decide +kernel), by decide +kernel⟩
theorem cw_X10_172 : uCW RX10 RX5 172 yX5_takeWaiting cX5_takeWaiting 2 (some .int) 1 := ⟨gt_in 523 (by decide +kernel) (by decide +kernel), yf_X5_takeWaiting⟩
theorem cw_X10_175 : uCW RX10 RX6 175 yX6_increase cX6_increase 3 none 2 := ⟨gt_in 533 (by decide +kernel) (by decide +kernel), yf_X6_increase⟩
theorem yf_X10_judge : (Cond.instanceMethod yX10_judge) ∈ gtbl ∧ (Cond.selects RX10 yX10_judge yX10_judge) ∈ gtbl ∧ (Cond.initialized RX10) ∈ gtbl ∧ (Cond.code yX10_judge cX10_judge 6 (some .int)) ∈ gtbl ∧ (yX10_judge.cls = RX10 ∧ yX10_judge.cls ≠ "java/lang/invoke/MethodHandle" ∧ yX10_judge.cls ≠ "java/lang/invoke/VarHandle" ∧ (parseMethodDescriptor yX10_judge.desc).map (fun d => d.parameters.length) = some 2) := ⟨gt_in 539 (by decide +kernel) (by decide +kernel), gt_in 2 (by decide +kernel) (by decide +kernel), gt_in 11 (by decide +kernel) (by decide +kernel), gt_in 540 (by decide +kernel) (by decide +kernel), by decide +kernel⟩
theorem cw_X10_178 : uCW RX10 RX10 178 yX10_judge cX10_judge 6 (some .int) 2 := ⟨gt_in 537 (by decide +kernel) (by decide +kernel), yf_X10_judge⟩
theorem yf_X10_letsThrough : (Cond.static yX10_letsThrough) ∈ gtbl ∧ (Cond.initialized yX10_letsThrough.cls) ∈ gtbl ∧ (Cond.code yX10_letsThrough cX10_letsThrough 1 (some .boolean)) ∈ gtbl ∧ (yX10_letsThrough.cls ≠ "java/lang/invoke/MethodHandle" ∧ yX10_letsThrough.cls ≠ "java/lang/invoke/VarHandle" ∧ (parseMethodDescriptor yX10_letsThrough.desc).map (fun d => d.parameters.length) = some 1) := ⟨gt_in 555 (by decide +kernel) (by decide +kernel), gt_in 11 (by decide +kernel) (by decide +kernel), gt_in 556 (by decide +kernel) (by decide +kernel), by decide +kernel⟩
theorem cw_X10_182 : uCS RX10 182 yX10_letsThrough cX10_letsThrough 1 (some .boolean) 1 := ⟨gt_in 554 (by decide +kernel) (by decide +kernel), yf_X10_letsThrough⟩
theorem yf_X10_takeRide : (Cond.instanceMethod yX10_takeRide) ∈ gtbl ∧ (Cond.selects RX10 yX10_takeRide yX10_takeRide) ∈ gtbl ∧ (Cond.initialized RX10) ∈ gtbl ∧ (Cond.code yX10_takeRide cX10_takeRide 5 none) ∈ gtbl ∧ (yX10_takeRide.cls = RX10 ∧ yX10_takeRide.cls ≠ "java/lang/invoke/MethodHandle" ∧ yX10_takeRide.cls ≠ "java/lang/invoke/VarHandle" ∧ (parseMethodDescriptor yX10_takeRide.desc).map (fun d => d.parameters.length) = some 2) := ⟨gt_in 559 (by decide +kernel) (by decide +kernel), gt_in 4 (by decide +kernel) (by decide +kernel), gt_in 11 (by decide +kernel) (by decide +kernel), gt_in 560 (by decide +kernel) (by decide +kernel), by decide +kernel⟩
theorem cw_X10_185 : uCW RX10 RX10 185 yX10_takeRide cX10_takeRide 5 none 2 := ⟨gt_in 557 (by decide +kernel) (by decide +kernel), yf_X10_takeRide⟩
theorem yf_X10_isOnList : (Cond.instanceMethod yX10_isOnList) ∈ gtbl ∧ (Cond.selects RX10 yX10_isOnList yX10_isOnList) ∈ gtbl ∧ (Cond.initialized RX10) ∈ gtbl ∧ (Cond.code yX10_isOnList cX10_isOnList 3 (some .boolean)) ∈ gtbl ∧ (yX10_isOnList.cls = RX10 ∧ yX10_isOnList.cls ≠ "java/lang/invoke/MethodHandle" ∧ yX10_isOnList.cls ≠ "java/lang/invoke/VarHandle" ∧ (parseMethodDescriptor yX10_isOnList.desc).map (fun d => d.parameters.length) = some 2) := ⟨gt_in 543 (by decide +kernel) (by decide +kernel), gt_in 3 (by decide +kernel) (by decide +kernel), gt_in 11 (by decide +kernel) (by decide +kernel), gt_in 544 (by decide +kernel) (by decide +kernel), by decide +kernel⟩
theorem cw_X10_188 : uCW RX10 RX10 188 yX10_isOnList cX10_isOnList 3 (some .boolean) 2 := ⟨gt_in 541 (by decide +kernel) (by decide +kernel), yf_X10_isOnList⟩
theorem yf_X3_isLogFull : (Cond.instanceMethod yX3_isLogFull) ∈ gtbl ∧ (Cond.selects RX3 yX3_isLogFull yX3_isLogFull) ∈ gtbl ∧ (Cond.initialized RX3) ∈ gtbl ∧ (Cond.code yX3_isLogFull cX3_isLogFull 2 (some .boolean)) ∈ gtbl ∧ (yX3_isLogFull.cls = RX3 ∧ yX3_isLogFull.cls ≠ "java/lang/invoke/MethodHandle" ∧ yX3_isLogFull.cls ≠ "java/lang/invoke/VarHandle" ∧ (parseMethodDescriptor yX3_isLogFull.desc).map (fun d => d.parameters.length) = some 1) := ⟨gt_in 551 (by decide +kernel) (by decide +kernel), gt_in 552 (by decide +kernel) (by decide +kernel), gt_in 16 (by decide +kernel) (by decide +kernel), gt_in 553 (by decide +kernel) (by decide +kernel), by decide +kernel⟩
theorem cw_X10_198 : uCW RX10 RX3 198 yX3_isLogFull cX3_isLogFull 2 (some .boolean) 1 := ⟨gt_in 550 (by decide +kernel) (by decide +kernel), yf_X3_isLogFull⟩
theorem yf_X3_writeLog : (Cond.instanceMethod yX3_writeLog) ∈ gtbl ∧ (Cond.selects RX3 yX3_writeLog yX3_writeLog) ∈ gtbl ∧ (Cond.initialized RX3) ∈ gtbl ∧ (Cond.code yX3_writeLog cX3_writeLog 6 none) ∈ gtbl ∧ (yX3_writeLog.cls = RX3 ∧ yX3_writeLog.cls ≠ "java/lang/invoke/MethodHandle" ∧ yX3_writeLog.cls ≠ "java/lang/invoke/VarHandle" ∧ (parseMethodDescriptor yX3_writeLog.desc).map (fun d => d.parameters.length) = some 4) := ⟨gt_in 574 (by decide +kernel) (by decide +kernel), gt_in 575 (by decide +kernel) (by decide +kernel), gt_in 16 (by decide +kernel) (by decide +kernel), gt_in 576 (by decide +kernel) (by decide +kernel), by decide +kernel⟩
theorem cw_X10_204 : uCW RX10 RX3 204 yX3_writeLog cX3_writeLog 6 none 4 := ⟨gt_in 573 (by decide +kernel) (by decide +kernel), yf_X3_writeLog⟩
theorem yf_X10_hasRoomForAccount : (Cond.instanceMethod yX10_hasRoomForAccount) ∈ gtbl ∧ (Cond.selects RX10 yX10_hasRoomForAccount yX10_hasRoomForAccount) ∈ gtbl ∧ (Cond.initialized RX10) ∈ gtbl ∧ (Cond.code yX10_hasRoomForAccount cX10_hasRoomForAccount 1 (some .boolean)) ∈ gtbl ∧ (yX10_hasRoomForAccount.cls = RX10 ∧ yX10_hasRoomForAccount.cls ≠ "java/lang/invoke/MethodHandle" ∧ yX10_hasRoomForAccount.cls ≠ "java/lang/invoke/VarHandle" ∧ (parseMethodDescriptor yX10_hasRoomForAccount.desc).map (fun d => d.parameters.length) = some 0) := ⟨gt_in 466 (by decide +kernel) (by decide +kernel), gt_in 467 (by decide +kernel) (by decide +kernel), gt_in 11 (by decide +kernel) (by decide +kernel), gt_in 468 (by decide +kernel) (by decide +kernel), by decide +kernel⟩
theorem cw_X10_208 : uCW RX10 RX10 208 yX10_hasRoomForAccount cX10_hasRoomForAccount 1 (some .boolean) 0 := ⟨gt_in 465 (by decide +kernel) (by decide +kernel), yf_X10_hasRoomForAccount⟩
theorem yf_X10_makeAccount : (Cond.instanceMethod yX10_makeAccount) ∈ gtbl ∧ (Cond.selects RX10 yX10_makeAccount yX10_makeAccount) ∈ gtbl ∧ (Cond.initialized RX10) ∈ gtbl ∧ (Cond.code yX10_makeAccount cX10_makeAccount 2 (some .int)) ∈ gtbl ∧ (yX10_makeAccount.cls = RX10 ∧ yX10_makeAccount.cls ≠ "java/lang/invoke/MethodHandle" ∧ yX10_makeAccount.cls ≠ "java/lang/invoke/VarHandle" ∧ (parseMethodDescriptor yX10_makeAccount.desc).map (fun d => d.parameters.length) = some 1) := ⟨gt_in 478 (by decide +kernel) (by decide +kernel), gt_in 479 (by decide +kernel) (by decide +kernel), gt_in 11 (by decide +kernel) (by decide +kernel), gt_in 480 (by decide +kernel) (by decide +kernel), by decide +kernel⟩
theorem cw_X10_211 : uCW RX10 RX10 211 yX10_makeAccount cX10_makeAccount 2 (some .int) 1 := ⟨gt_in 477 (by decide +kernel) (by decide +kernel), yf_X10_makeAccount⟩
theorem yf_X0_makeTwin : (Cond.instanceMethod yX0_makeTwin) ∈ gtbl ∧ (Cond.selects RX0 yX0_makeTwin yX0_makeTwin) ∈ gtbl ∧ (Cond.initialized RX0) ∈ gtbl ∧ (Cond.code yX0_makeTwin cX0_makeTwin 2 (some .int)) ∈ gtbl ∧ (yX0_makeTwin.cls = RX0 ∧ yX0_makeTwin.cls ≠ "java/lang/invoke/MethodHandle" ∧ yX0_makeTwin.cls ≠ "java/lang/invoke/VarHandle" ∧ (parseMethodDescriptor yX0_makeTwin.desc).map (fun d => d.parameters.length) = some 1) := ⟨gt_in 500 (by decide +kernel) (by decide +kernel), gt_in 501 (by decide +kernel) (by decide +kernel), gt_in 12 (by decide +kernel) (by decide +kernel), gt_in 502 (by decide +kernel) (by decide +kernel), by decide +kernel⟩
theorem cw_X10_214 : uCW RX10 RX0 214 yX0_makeTwin cX0_makeTwin 2 (some .int) 1 := ⟨gt_in 499 (by decide +kernel) (by decide +kernel), yf_X0_makeTwin⟩
theorem yf_X5_has : (Cond.instanceMethod yX5_has) ∈ gtbl ∧ (Cond.selects RX5 yX5_has yX5_has) ∈ gtbl ∧ (Cond.initialized RX5) ∈ gtbl ∧ (Cond.code yX5_has cX5_has 2 (some .boolean)) ∈ gtbl ∧ (yX5_has.cls = RX5 ∧ yX5_has.cls ≠ "java/lang/invoke/MethodHandle" ∧ yX5_has.cls ≠ "java/lang/invoke/VarHandle" ∧ (parseMethodDescriptor yX5_has.desc).map (fun d => d.parameters.length) = some 1) := ⟨gt_in 584 (by decide +kernel) (by decide +kernel), gt_in 585 (by decide +kernel) (by decide +kernel), gt_in 15 (by decide +kernel) (by decide +kernel), gt_in 586 (by decide +kernel) (by decide +kernel), by decide +kernel⟩
theorem cw_X10_217 : uCW RX10 RX5 217 yX5_has cX5_has 2 (some .boolean) 1 := ⟨gt_in 583 (by decide +kernel) (by decide +kernel), yf_X5_has⟩
theorem yf_X5_payIn : (Cond.instanceMethod yX5_payIn) ∈ gtbl ∧ (Cond.selects RX5 yX5_payIn yX5_payIn) ∈ gtbl ∧ (Cond.initialized RX5) ∈ gtbl ∧ (Cond.code yX5_payIn cX5_payIn 3 (some .int)) ∈ gtbl ∧ (yX5_payIn.cls = RX5 ∧ yX5_payIn.cls ≠ "java/lang/invoke/MethodHandle" ∧ yX5_payIn.cls ≠ "java/lang/invoke/VarHandle" ∧ (parseMethodDescriptor yX5_payIn.desc).map (fun d => d.parameters.length) = some 2) := ⟨gt_in 588 (by decide +kernel) (by decide +kernel), gt_in 589 (by decide +kernel) (by decide +kernel), gt_in 15 (by decide +kernel) (by decide +kernel), gt_in 590 (by decide +kernel) (by decide +kernel), by decide +kernel⟩
theorem cw_X10_218 : uCW RX10 RX5 218 yX5_payIn cX5_payIn 3 (some .int) 2 := ⟨gt_in 587 (by decide +kernel) (by decide +kernel), yf_X5_payIn⟩
theorem yf_X5_isMarked : (Cond.instanceMethod yX5_isMarked) ∈ gtbl ∧ (Cond.selects RX5 yX5_isMarked yX5_isMarked) ∈ gtbl ∧ (Cond.initialized RX5) ∈ gtbl ∧ (Cond.code yX5_isMarked cX5_isMarked 2 (some .boolean)) ∈ gtbl ∧ (yX5_isMarked.cls = RX5 ∧ yX5_isMarked.cls ≠ "java/lang/invoke/MethodHandle" ∧ yX5_isMarked.cls ≠ "java/lang/invoke/VarHandle" ∧ (parseMethodDescriptor yX5_isMarked.desc).map (fun d => d.parameters.length) = some 1) := ⟨gt_in 830 (by decide +kernel) (by decide +kernel), gt_in 831 (by decide +kernel) (by decide +kernel), gt_in 15 (by decide +kernel) (by decide +kernel), gt_in 832 (by decide +kernel) (by decide +kernel), by decide +kernel⟩
theorem cw_X10_221 : uCW RX10 RX5 221 yX5_isMarked cX5_isMarked 2 (some .boolean) 1 := ⟨gt_in 1034 (by decide +kernel) (by decide +kernel), yf_X5_isMarked⟩
theorem yf_X5_unmark : (Cond.instanceMethod yX5_unmark) ∈ gtbl ∧ (Cond.selects RX5 yX5_unmark yX5_unmark) ∈ gtbl ∧ (Cond.initialized RX5) ∈ gtbl ∧ (Cond.code yX5_unmark cX5_unmark 2 (some .int)) ∈ gtbl ∧ (yX5_unmark.cls = RX5 ∧ yX5_unmark.cls ≠ "java/lang/invoke/MethodHandle" ∧ yX5_unmark.cls ≠ "java/lang/invoke/VarHandle" ∧ (parseMethodDescriptor yX5_unmark.desc).map (fun d => d.parameters.length) = some 1) := ⟨gt_in 834 (by decide +kernel) (by decide +kernel), gt_in 835 (by decide +kernel) (by decide +kernel), gt_in 15 (by decide +kernel) (by decide +kernel), gt_in 836 (by decide +kernel) (by decide +kernel), by decide +kernel⟩
theorem cw_X10_224 : uCW RX10 RX5 224 yX5_unmark cX5_unmark 2 (some .int) 1 := ⟨gt_in 1035 (by decide +kernel) (by decide +kernel), yf_X5_unmark⟩
theorem yf_X10_takeDown : (Cond.instanceMethod yX10_takeDown) ∈ gtbl ∧ (Cond.selects RX10 yX10_takeDown yX10_takeDown) ∈ gtbl ∧ (Cond.initialized RX10) ∈ gtbl ∧ (Cond.code yX10_takeDown cX10_takeDown 2 (some .int)) ∈ gtbl ∧ (yX10_takeDown.cls = RX10 ∧ yX10_takeDown.cls ≠ "java/lang/invoke/MethodHandle" ∧ yX10_takeDown.cls ≠ "java/lang/invoke/VarHandle" ∧ (parseMethodDescriptor yX10_takeDown.desc).map (fun d => d.parameters.length) = some 1) := ⟨gt_in 596 (by decide +kernel) (by decide +kernel), gt_in 597 (by decide +kernel) (by decide +kernel), gt_in 11 (by decide +kernel) (by decide +kernel), gt_in 598 (by decide +kernel) (by decide +kernel), by decide +kernel⟩
theorem cw_X10_227 : uCW RX10 RX10 227 yX10_takeDown cX10_takeDown 2 (some .int) 1 := ⟨gt_in 595 (by decide +kernel) (by decide +kernel), yf_X10_takeDown⟩
theorem yf_X10_bringUp : (Cond.instanceMethod yX10_bringUp) ∈ gtbl ∧ (Cond.selects RX10 yX10_bringUp yX10_bringUp) ∈ gtbl ∧ (Cond.initialized RX10) ∈ gtbl ∧ (Cond.code yX10_bringUp cX10_bringUp 5 (some .int)) ∈ gtbl ∧ (yX10_bringUp.cls = RX10 ∧ yX10_bringUp.cls ≠ "java/lang/invoke/MethodHandle" ∧ yX10_bringUp.cls ≠ "java/lang/invoke/VarHandle" ∧ (parseMethodDescriptor yX10_bringUp.desc).map (fun d => d.parameters.length) = some 1) := ⟨gt_in 613 (by decide +kernel) (by decide +kernel), gt_in 614 (by decide +kernel) (by decide +kernel), gt_in 11 (by decide +kernel) (by decide +kernel), gt_in 615 (by decide +kernel) (by decide +kernel), by decide +kernel⟩
theorem cw_X10_230 : uCW RX10 RX10 230 yX10_bringUp cX10_bringUp 5 (some .int) 1 := ⟨gt_in 612 (by decide +kernel) (by decide +kernel), yf_X10_bringUp⟩
theorem yf_X3_turnOpen : (Cond.instanceMethod yX3_turnOpen) ∈ gtbl ∧ (Cond.selects RX3 yX3_turnOpen yX3_turnOpen) ∈ gtbl ∧ (Cond.initialized RX3) ∈ gtbl ∧ (Cond.code yX3_turnOpen cX3_turnOpen 2 (some .int)) ∈ gtbl ∧ (yX3_turnOpen.cls = RX3 ∧ yX3_turnOpen.cls ≠ "java/lang/invoke/MethodHandle" ∧ yX3_turnOpen.cls ≠ "java/lang/invoke/VarHandle" ∧ (parseMethodDescriptor yX3_turnOpen.desc).map (fun d => d.parameters.length) = some 1) := ⟨gt_in 633 (by decide +kernel) (by decide +kernel), gt_in 634 (by decide +kernel) (by decide +kernel), gt_in 16 (by decide +kernel) (by decide +kernel), gt_in 635 (by decide +kernel) (by decide +kernel), by decide +kernel⟩
theorem cw_X10_233 : uCW RX10 RX3 233 yX3_turnOpen cX3_turnOpen 2 (some .int) 1 := ⟨gt_in 632 (by decide +kernel) (by decide +kernel), yf_X3_turnOpen⟩
def fX10_isOnList (S : (Nat → Nat → Int32)) (a1 : Int32) (a2 : Int32) : Int32 :=
  lt_ (fX3_isUp S a2) fun x2 =>
  if x2 = 0 then
    lt_ (fget 4 (S 25) a2) fun x6 =>
    if ((x6 >>> (a1 &&& 31)) &&& 1) = 0 then
      0
    else
      1
  else
    lt_ (fX5_isBlocked S a1) fun x10 =>
    x10
set_option maxHeartbeats 4000000 in
set_option maxRecDepth 20000 in
theorem kX10_isOnList {l : Launch} {G : UG} {V : uV} {t : Nat} (hS : uSt G t) {S : (Nat → Nat → Int32)} (hV : V t = S) {a1 : Int32} {a2 : Int32} {r : Int32} (h : fX10_isOnList S a1 a2 = r) : uMi l G yX10_isOnList cX10_isOnList 3 .boolean (uR 2 42) [.ref (ga G t 0), .int a1, .int a2] V r V := by
  refine uMi_of rfl (Nat.le_of_ble_eq_true rfl) (fun p e s m args below meth c ls X hret hl M => ?_)
  have hl : lv_has ls 3 [(0, .ref (ga G t 0)), (1, .int a1), (2, .int a2)] := hl
  have hx := X.hx
  have hb := X.hb
  unfold fX10_isOnList at h
  refine lv_aload_n hx hb dX10_isOnList_0 rfl (lv_at hl 0 rfl) ?_
  refine gf_X10_28 X M hS dX10_isOnList_1 ?_
  refine lv_iload_n hx hb dX10_isOnList_4 rfl (lv_at hl 2 rfl) ?_
  obtain ⟨x2, e1, h⟩ := lt_e h
  refine u_cVi X M hl.1 (kX3_isUp hS hV e1.symm) cw_X10_120 ⟨by decide, by decide⟩ (rc_X3 X M hS) rfl rfl (Nat.le_of_ble_eq_true rfl) ⟨Nat.zero_le _, Nat.zero_le _⟩ dX10_isOnList_5 (fun H locs M n3 => ?_)
  refine lv_if_eq (tgt := 20) hx hb dX10_isOnList_8 (by decide) (fun c4 => ?_) (fun c4 => ?_)
  · have h := it_t h c4
    refine lv_aload_n hx hb dX10_isOnList_20 rfl (lv_at hl 0 rfl) ?_
    refine gf_X10_28 X M hS dX10_isOnList_21 ?_
    refine gf_X10_123 X M hS dX10_isOnList_24 ?_
    refine lv_iload_n hx hb dX10_isOnList_27 rfl (lv_at hl 2 rfl) ?_
    obtain ⟨x6, e5, h⟩ := lt_e h
    refine u_cVi X M hl.1 (kX6_get (uRw24 hS) (congrFun hV 25) e5.symm) cw_X10_101 ⟨by decide, by decide⟩ (uR_recv X M (uRw24 hS)) rfl rfl (Nat.le_of_ble_eq_true rfl) ⟨Nat.zero_le _, Nat.zero_le _⟩ dX10_isOnList_28 (fun H locs M n7 => ?_)
    refine lv_iload_n hx hb dX10_isOnList_31 rfl (lv_at hl 1 rfl) ?_
    refine lv_ishr hx hb dX10_isOnList_32 ?_
    refine lv_iconst (v := 1) hx hb dX10_isOnList_33 (by decide) ?_
    refine lv_iand hx hb dX10_isOnList_34 ?_
    refine lv_if_eq (tgt := 42) hx hb dX10_isOnList_35 (by decide) (fun c8 => ?_) (fun c8 => ?_)
    · have h := it_t h c8
      refine lv_iconst (v := 0) hx hb dX10_isOnList_42 (by decide) ?_
      exact u_iret X hret M h (rfl) rfl dX10_isOnList_43
    · have h := it_f h c8
      refine lv_iconst (v := 1) hx hb dX10_isOnList_38 (by decide) ?_
      refine lv_goto (tgt := 43) hx hb dX10_isOnList_39 (by decide) ?_
      exact u_iret X hret M h (rfl) rfl dX10_isOnList_43
  · have h := it_f h c4
    refine lv_aload_n hx hb dX10_isOnList_11 rfl (lv_at hl 0 rfl) ?_
    refine gf_X10_21 X M hS dX10_isOnList_12 ?_
    refine lv_iload_n hx hb dX10_isOnList_15 rfl (lv_at hl 1 rfl) ?_
    obtain ⟨x10, e9, h⟩ := lt_e h
    refine u_cVi X M hl.1 (kX5_isBlocked hS hV e9.symm) cw_X10_113 ⟨by decide, by decide⟩ (rc_X5 X M hS) rfl rfl (Nat.le_of_ble_eq_true rfl) ⟨Nat.zero_le _, Nat.zero_le _⟩ dX10_isOnList_16 (fun H locs M n11 => ?_)
    exact u_iret X hret M h (rfl) n11 dX10_isOnList_19
def fX10_judge (S : (Nat → Nat → Int32)) (a1 : Int32) (a2 : Int32) : Int32 :=
  lt_ (fX3_isUp S a2) fun x2 =>
  lt_ (fget 10 (S 3) a1) fun x5 =>
  lt_ (fX10_isOnList S x5 a2) fun x8 =>
  if x8 = 0 then
    lt_ (fget 10 (S 9) a1) fun x12 =>
    if x12 = (-1) then
      if x2 = 0 then
        lt_ (fget 4 (S 39) 0) fun x17 =>
        lt_ (fget 10 (S 5) a1) fun x20 =>
        lt_ (fget 4 (S 23) a2) fun x23 =>
        if (-x17) ≤ (x20 - x23) then
          if x2 = 0 then
            lt_ (fX3_isLogFull S a2) fun x29 =>
            if x29 = 0 then
              if x2 = 0 then
                1
              else
                0
            else
              lt_ (fget 4 (S 39) 2) fun x34 =>
              if x34 = 0 then
                6
              else
                7
          else
            if x2 = 0 then
              1
            else
              0
        else
          5
      else
        lt_ (fget 10 (S 5) a1) fun x38 =>
        lt_ (fget 4 (S 23) a2) fun x41 =>
        if (-0) ≤ (x38 - x41) then
          if x2 = 0 then
            lt_ (fX3_isLogFull S a2) fun x47 =>
            if x47 = 0 then
              if x2 = 0 then
                1
              else
                0
            else
              lt_ (fget 4 (S 39) 2) fun x52 =>
              if x52 = 0 then
                6
              else
                7
          else
            if x2 = 0 then
              1
            else
              0
        else
          5
    else
      lt_ (S 0 4) fun x55 =>
      lt_ (fget 4 (S 39) 1) fun x58 =>
      if x58 ≤ (x55 - x12) then
        if x2 = 0 then
          lt_ (fget 4 (S 39) 0) fun x63 =>
          lt_ (fget 10 (S 5) a1) fun x66 =>
          lt_ (fget 4 (S 23) a2) fun x69 =>
          if (-x63) ≤ (x66 - x69) then
            if x2 = 0 then
              lt_ (fX3_isLogFull S a2) fun x75 =>
              if x75 = 0 then
                if x2 = 0 then
                  1
                else
                  0
              else
                lt_ (fget 4 (S 39) 2) fun x80 =>
                if x80 = 0 then
                  6
                else
                  7
            else
              if x2 = 0 then
                1
              else
                0
          else
            5
        else
          lt_ (fget 10 (S 5) a1) fun x84 =>
          lt_ (fget 4 (S 23) a2) fun x87 =>
          if (-0) ≤ (x84 - x87) then
            if x2 = 0 then
              lt_ (fX3_isLogFull S a2) fun x93 =>
              if x93 = 0 then
                if x2 = 0 then
                  1
                else
                  0
              else
                lt_ (fget 4 (S 39) 2) fun x98 =>
                if x98 = 0 then
                  6
                else
                  7
            else
              if x2 = 0 then
                1
              else
                0
          else
            5
      else
        4
  else
    3
set_option maxHeartbeats 4000000 in
set_option maxRecDepth 20000 in
theorem kX10_judge {l : Launch} {G : UG} {V : uV} {t : Nat} (hS : uSt G t) {S : (Nat → Nat → Int32)} (hV : V t = S) {a1 : Int32} {a2 : Int32} {r : Int32} (h : fX10_judge S a1 a2 = r) : uMi l G yX10_judge cX10_judge 6 .int (uR 3 64) [.ref (ga G t 0), .int a1, .int a2] V r V := by
  refine uMi_of rfl (Nat.le_of_ble_eq_true rfl) (fun p e s m args below meth c ls X hret hl M => ?_)
  have hl : lv_has ls 6 [(0, .ref (ga G t 0)), (1, .int a1), (2, .int a2)] := hl
  have hx := X.hx
  have hb := X.hb
  unfold fX10_judge at h
  refine lv_aload_n hx hb dX10_judge_0 rfl (lv_at hl 0 rfl) ?_
  refine gf_X10_28 X M hS dX10_judge_1 ?_
  refine lv_iload_n hx hb dX10_judge_4 rfl (lv_at hl 2 rfl) ?_
  obtain ⟨x2, e1, h⟩ := lt_e h
  refine u_cVi X M hl.1 (kX3_isUp hS hV e1.symm) cw_X10_120 ⟨by decide, by decide⟩ (rc_X3 X M hS) rfl rfl (Nat.le_of_ble_eq_true rfl) ⟨Nat.zero_le _, Nat.zero_le _⟩ dX10_judge_5 (fun H locs M n3 => ?_)
  refine lv_istore_n (lv' := [(3, .int x2), (0, .ref (ga G t 0)), (1, .int a1), (2, .int a2)]) hx hb dX10_judge_8 rfl hl (by decide) rfl (fun ls hl => ?_)
  refine lv_aload_n hx hb dX10_judge_9 rfl (lv_at hl 1 rfl) ?_
  refine lv_aload_n hx hb dX10_judge_10 rfl (lv_at hl 1 rfl) ?_
  refine gf_X10_12 X M hS dX10_judge_11 ?_
  refine gf_X10_169 X M hS dX10_judge_14 ?_
  refine lv_iload_n hx hb dX10_judge_17 rfl (lv_at hl 2 rfl) ?_
  obtain ⟨x5, e4, h⟩ := lt_e h
  refine u_cVi X M hl.1 (kX6_get (uRw2 hS) (congrFun hV 3) e4.symm) cw_X10_101 ⟨by decide, by decide⟩ (uR_recv X M (uRw2 hS)) rfl rfl (Nat.le_of_ble_eq_true rfl) ⟨Nat.zero_le _, Nat.zero_le _⟩ dX10_judge_18 (fun H locs M n6 => ?_)
  refine lv_iload_n hx hb dX10_judge_21 rfl (lv_at hl 3 rfl) ?_
  obtain ⟨x8, e7, h⟩ := lt_e h
  refine u_cVi X M hl.1 (kX10_isOnList hS hV e7.symm) cw_X10_188 ⟨by decide, by decide⟩ (rc_X10 X M hS) rfl rfl (Nat.le_of_ble_eq_true rfl) ⟨Nat.zero_le _, Nat.zero_le _⟩ dX10_judge_22 (fun H locs M n9 => ?_)
  refine lv_if_eq (tgt := 30) hx hb dX10_judge_25 (by decide) (fun c10 => ?_) (fun c10 => ?_)
  · have h := it_t h c10
    refine lv_aload_n hx hb dX10_judge_30 rfl (lv_at hl 1 rfl) ?_
    refine gf_X10_12 X M hS dX10_judge_31 ?_
    refine gf_X10_192 X M hS dX10_judge_34 ?_
    refine lv_iload_n hx hb dX10_judge_37 rfl (lv_at hl 2 rfl) ?_
    obtain ⟨x12, e11, h⟩ := lt_e h
    refine u_cVi X M hl.1 (kX6_get (uRw8 hS) (congrFun hV 9) e11.symm) cw_X10_101 ⟨by decide, by decide⟩ (uR_recv X M (uRw8 hS)) rfl rfl (Nat.le_of_ble_eq_true rfl) ⟨Nat.zero_le _, Nat.zero_le _⟩ dX10_judge_38 (fun H locs M n13 => ?_)
    refine lv_istore (lv' := [(4, .int x12), (3, .int x2), (0, .ref (ga G t 0)), (1, .int a1), (2, .int a2)]) hx hb dX10_judge_41 hl (by decide) rfl (fun ls hl => ?_)
    refine lv_iload hx hb dX10_judge_43 (lv_at hl 0 rfl) ?_
    refine lv_iconst (v := (-1)) hx hb dX10_judge_45 (by decide) ?_
    refine lv_icmp_eq (tgt := 69) hx hb dX10_judge_46 (by decide) (fun c14 => ?_) (fun c14 => ?_)
    · have h := it_t h c14
      refine lv_iload_n hx hb dX10_judge_69 rfl (lv_at hl 1 rfl) ?_
      refine lv_if_eq (tgt := 77) hx hb dX10_judge_70 (by decide) (fun c15 => ?_) (fun c15 => ?_)
      · have h := it_t h c15
        refine lv_aload_n hx hb dX10_judge_77 rfl (lv_at hl 2 rfl) ?_
        refine gf_X10_37 X M hS dX10_judge_78 ?_
        refine lv_iconst (v := 0) hx hb dX10_judge_81 (by decide) ?_
        obtain ⟨x17, e16, h⟩ := lt_e h
        refine u_cVi X M hl.1 (kX6_get (uRw38 hS) (congrFun hV 39) e16.symm) cw_X10_101 ⟨by decide, by decide⟩ (uR_recv X M (uRw38 hS)) rfl rfl (Nat.le_of_ble_eq_true rfl) ⟨Nat.zero_le _, Nat.zero_le _⟩ dX10_judge_82 (fun H locs M n18 => ?_)
        refine lv_istore (lv' := [(5, .int x17), (4, .int x12), (3, .int x2), (0, .ref (ga G t 0)), (1, .int a1), (2, .int a2)]) hx hb dX10_judge_85 hl (by decide) rfl (fun ls hl => ?_)
        refine lv_aload_n hx hb dX10_judge_87 rfl (lv_at hl 3 rfl) ?_
        refine gf_X10_12 X M hS dX10_judge_88 ?_
        refine gf_X10_166 X M hS dX10_judge_91 ?_
        refine lv_iload_n hx hb dX10_judge_94 rfl (lv_at hl 4 rfl) ?_
        obtain ⟨x20, e19, h⟩ := lt_e h
        refine u_cVi X M hl.1 (kX6_get (uRw4 hS) (congrFun hV 5) e19.symm) cw_X10_101 ⟨by decide, by decide⟩ (uR_recv X M (uRw4 hS)) rfl rfl (Nat.le_of_ble_eq_true rfl) ⟨Nat.zero_le _, Nat.zero_le _⟩ dX10_judge_95 (fun H locs M n21 => ?_)
        refine lv_aload_n hx hb dX10_judge_98 rfl (lv_at hl 3 rfl) ?_
        refine gf_X10_28 X M hS dX10_judge_99 ?_
        refine gf_X10_195 X M hS dX10_judge_102 ?_
        refine lv_iload_n hx hb dX10_judge_105 rfl (lv_at hl 5 rfl) ?_
        obtain ⟨x23, e22, h⟩ := lt_e h
        refine u_cVi X M hl.1 (kX6_get (uRw22 hS) (congrFun hV 23) e22.symm) cw_X10_101 ⟨by decide, by decide⟩ (uR_recv X M (uRw22 hS)) rfl rfl (Nat.le_of_ble_eq_true rfl) ⟨Nat.zero_le _, Nat.zero_le _⟩ dX10_judge_106 (fun H locs M n24 => ?_)
        refine lv_isub hx hb dX10_judge_109 ?_
        refine lv_iload hx hb dX10_judge_110 (lv_at hl 0 rfl) ?_
        refine lv_ineg hx hb dX10_judge_112 ?_
        refine lv_icmp_ge (tgt := 118) hx hb dX10_judge_113 (by decide) (fun c25 => ?_) (fun c25 => ?_)
        · have h := it_t h c25
          refine lv_iload_n hx hb dX10_judge_118 rfl (lv_at hl 2 rfl) ?_
          refine lv_if_ne (tgt := 152) hx hb dX10_judge_119 (by decide) (fun c26 => ?_) (fun c26 => ?_)
          · have h := it_f h c26
            refine lv_iload_n hx hb dX10_judge_152 rfl (lv_at hl 2 rfl) ?_
            refine lv_if_eq (tgt := 160) hx hb dX10_judge_153 (by decide) (fun c27 => ?_) (fun c27 => ?_)
            · have h := it_t h c27
              refine lv_iconst (v := 1) hx hb dX10_judge_160 (by decide) ?_
              exact u_iret X hret M h (rfl) rfl dX10_judge_161
            · have h := it_f h c27
              refine lv_iconst (v := 0) hx hb dX10_judge_156 (by decide) ?_
              refine lv_goto (tgt := 161) hx hb dX10_judge_157 (by decide) ?_
              exact u_iret X hret M h (rfl) rfl dX10_judge_161
          · have h := it_t h c26
            refine lv_aload_n hx hb dX10_judge_122 rfl (lv_at hl 3 rfl) ?_
            refine gf_X10_28 X M hS dX10_judge_123 ?_
            refine lv_iload_n hx hb dX10_judge_126 rfl (lv_at hl 5 rfl) ?_
            obtain ⟨x29, e28, h⟩ := lt_e h
            refine u_cVi X M hl.1 (kX3_isLogFull hS hV e28.symm) cw_X10_198 ⟨by decide, by decide⟩ (rc_X3 X M hS) rfl rfl (Nat.le_of_ble_eq_true rfl) ⟨Nat.zero_le _, Nat.zero_le _⟩ dX10_judge_127 (fun H locs M n30 => ?_)
            refine lv_if_eq (tgt := 152) hx hb dX10_judge_130 (by decide) (fun c31 => ?_) (fun c31 => ?_)
            · have h := it_t h c31
              refine lv_iload_n hx hb dX10_judge_152 rfl (lv_at hl 2 rfl) ?_
              refine lv_if_eq (tgt := 160) hx hb dX10_judge_153 (by decide) (fun c32 => ?_) (fun c32 => ?_)
              · have h := it_t h c32
                refine lv_iconst (v := 1) hx hb dX10_judge_160 (by decide) ?_
                exact u_iret X hret M h (rfl) rfl dX10_judge_161
              · have h := it_f h c32
                refine lv_iconst (v := 0) hx hb dX10_judge_156 (by decide) ?_
                refine lv_goto (tgt := 161) hx hb dX10_judge_157 (by decide) ?_
                exact u_iret X hret M h (rfl) rfl dX10_judge_161
            · have h := it_f h c31
              refine lv_aload_n hx hb dX10_judge_133 rfl (lv_at hl 3 rfl) ?_
              refine gf_X10_37 X M hS dX10_judge_134 ?_
              refine lv_iconst (v := 2) hx hb dX10_judge_137 (by decide) ?_
              obtain ⟨x34, e33, h⟩ := lt_e h
              refine u_cVi X M hl.1 (kX6_get (uRw38 hS) (congrFun hV 39) e33.symm) cw_X10_101 ⟨by decide, by decide⟩ (uR_recv X M (uRw38 hS)) rfl rfl (Nat.le_of_ble_eq_true rfl) ⟨Nat.zero_le _, Nat.zero_le _⟩ dX10_judge_138 (fun H locs M n35 => ?_)
              refine lv_if_ne (tgt := 149) hx hb dX10_judge_141 (by decide) (fun c36 => ?_) (fun c36 => ?_)
              · have h := it_f h c36
                refine lv_bipush (v := 7) hx hb dX10_judge_149 (by decide) ?_
                exact u_iret X hret M h (rfl) rfl dX10_judge_151
              · have h := it_t h c36
                refine lv_bipush (v := 6) hx hb dX10_judge_144 (by decide) ?_
                refine lv_goto (tgt := 151) hx hb dX10_judge_146 (by decide) ?_
                exact u_iret X hret M h (rfl) rfl dX10_judge_151
        · have h := it_f h c25
          refine lv_iconst (v := 5) hx hb dX10_judge_116 (by decide) ?_
          exact u_iret X hret M h (rfl) rfl dX10_judge_117
      · have h := it_f h c15
        refine lv_iconst (v := 0) hx hb dX10_judge_73 (by decide) ?_
        refine lv_goto (tgt := 85) hx hb dX10_judge_74 (by decide) ?_
        refine lv_istore (lv' := [(5, .int 0), (4, .int x12), (3, .int x2), (0, .ref (ga G t 0)), (1, .int a1), (2, .int a2)]) hx hb dX10_judge_85 hl (by decide) rfl (fun ls hl => ?_)
        refine lv_aload_n hx hb dX10_judge_87 rfl (lv_at hl 3 rfl) ?_
        refine gf_X10_12 X M hS dX10_judge_88 ?_
        refine gf_X10_166 X M hS dX10_judge_91 ?_
        refine lv_iload_n hx hb dX10_judge_94 rfl (lv_at hl 4 rfl) ?_
        obtain ⟨x38, e37, h⟩ := lt_e h
        refine u_cVi X M hl.1 (kX6_get (uRw4 hS) (congrFun hV 5) e37.symm) cw_X10_101 ⟨by decide, by decide⟩ (uR_recv X M (uRw4 hS)) rfl rfl (Nat.le_of_ble_eq_true rfl) ⟨Nat.zero_le _, Nat.zero_le _⟩ dX10_judge_95 (fun H locs M n39 => ?_)
        refine lv_aload_n hx hb dX10_judge_98 rfl (lv_at hl 3 rfl) ?_
        refine gf_X10_28 X M hS dX10_judge_99 ?_
        refine gf_X10_195 X M hS dX10_judge_102 ?_
        refine lv_iload_n hx hb dX10_judge_105 rfl (lv_at hl 5 rfl) ?_
        obtain ⟨x41, e40, h⟩ := lt_e h
        refine u_cVi X M hl.1 (kX6_get (uRw22 hS) (congrFun hV 23) e40.symm) cw_X10_101 ⟨by decide, by decide⟩ (uR_recv X M (uRw22 hS)) rfl rfl (Nat.le_of_ble_eq_true rfl) ⟨Nat.zero_le _, Nat.zero_le _⟩ dX10_judge_106 (fun H locs M n42 => ?_)
        refine lv_isub hx hb dX10_judge_109 ?_
        refine lv_iload hx hb dX10_judge_110 (lv_at hl 0 rfl) ?_
        refine lv_ineg hx hb dX10_judge_112 ?_
        refine lv_icmp_ge (tgt := 118) hx hb dX10_judge_113 (by decide) (fun c43 => ?_) (fun c43 => ?_)
        · have h := it_t h c43
          refine lv_iload_n hx hb dX10_judge_118 rfl (lv_at hl 2 rfl) ?_
          refine lv_if_ne (tgt := 152) hx hb dX10_judge_119 (by decide) (fun c44 => ?_) (fun c44 => ?_)
          · have h := it_f h c44
            refine lv_iload_n hx hb dX10_judge_152 rfl (lv_at hl 2 rfl) ?_
            refine lv_if_eq (tgt := 160) hx hb dX10_judge_153 (by decide) (fun c45 => ?_) (fun c45 => ?_)
            · have h := it_t h c45
              refine lv_iconst (v := 1) hx hb dX10_judge_160 (by decide) ?_
              exact u_iret X hret M h (rfl) rfl dX10_judge_161
            · have h := it_f h c45
              refine lv_iconst (v := 0) hx hb dX10_judge_156 (by decide) ?_
              refine lv_goto (tgt := 161) hx hb dX10_judge_157 (by decide) ?_
              exact u_iret X hret M h (rfl) rfl dX10_judge_161
          · have h := it_t h c44
            refine lv_aload_n hx hb dX10_judge_122 rfl (lv_at hl 3 rfl) ?_
            refine gf_X10_28 X M hS dX10_judge_123 ?_
            refine lv_iload_n hx hb dX10_judge_126 rfl (lv_at hl 5 rfl) ?_
            obtain ⟨x47, e46, h⟩ := lt_e h
            refine u_cVi X M hl.1 (kX3_isLogFull hS hV e46.symm) cw_X10_198 ⟨by decide, by decide⟩ (rc_X3 X M hS) rfl rfl (Nat.le_of_ble_eq_true rfl) ⟨Nat.zero_le _, Nat.zero_le _⟩ dX10_judge_127 (fun H locs M n48 => ?_)
            refine lv_if_eq (tgt := 152) hx hb dX10_judge_130 (by decide) (fun c49 => ?_) (fun c49 => ?_)
            · have h := it_t h c49
              refine lv_iload_n hx hb dX10_judge_152 rfl (lv_at hl 2 rfl) ?_
              refine lv_if_eq (tgt := 160) hx hb dX10_judge_153 (by decide) (fun c50 => ?_) (fun c50 => ?_)
              · have h := it_t h c50
                refine lv_iconst (v := 1) hx hb dX10_judge_160 (by decide) ?_
                exact u_iret X hret M h (rfl) rfl dX10_judge_161
              · have h := it_f h c50
                refine lv_iconst (v := 0) hx hb dX10_judge_156 (by decide) ?_
                refine lv_goto (tgt := 161) hx hb dX10_judge_157 (by decide) ?_
                exact u_iret X hret M h (rfl) rfl dX10_judge_161
            · have h := it_f h c49
              refine lv_aload_n hx hb dX10_judge_133 rfl (lv_at hl 3 rfl) ?_
              refine gf_X10_37 X M hS dX10_judge_134 ?_
              refine lv_iconst (v := 2) hx hb dX10_judge_137 (by decide) ?_
              obtain ⟨x52, e51, h⟩ := lt_e h
              refine u_cVi X M hl.1 (kX6_get (uRw38 hS) (congrFun hV 39) e51.symm) cw_X10_101 ⟨by decide, by decide⟩ (uR_recv X M (uRw38 hS)) rfl rfl (Nat.le_of_ble_eq_true rfl) ⟨Nat.zero_le _, Nat.zero_le _⟩ dX10_judge_138 (fun H locs M n53 => ?_)
              refine lv_if_ne (tgt := 149) hx hb dX10_judge_141 (by decide) (fun c54 => ?_) (fun c54 => ?_)
              · have h := it_f h c54
                refine lv_bipush (v := 7) hx hb dX10_judge_149 (by decide) ?_
                exact u_iret X hret M h (rfl) rfl dX10_judge_151
              · have h := it_t h c54
                refine lv_bipush (v := 6) hx hb dX10_judge_144 (by decide) ?_
                refine lv_goto (tgt := 151) hx hb dX10_judge_146 (by decide) ?_
                exact u_iret X hret M h (rfl) rfl dX10_judge_151
        · have h := it_f h c43
          refine lv_iconst (v := 5) hx hb dX10_judge_116 (by decide) ?_
          exact u_iret X hret M h (rfl) rfl dX10_judge_117
    · have h := it_f h c14
      refine lv_aload_n hx hb dX10_judge_49 rfl (lv_at hl 2 rfl) ?_
      obtain ⟨x55, e56, h⟩ := lt_e h
      refine gf_X10_51 X M hS hV e56 dX10_judge_50 ?_
      refine lv_iload hx hb dX10_judge_53 (lv_at hl 0 rfl) ?_
      refine lv_isub hx hb dX10_judge_55 ?_
      refine lv_aload_n hx hb dX10_judge_56 rfl (lv_at hl 2 rfl) ?_
      refine gf_X10_37 X M hS dX10_judge_57 ?_
      refine lv_iconst (v := 1) hx hb dX10_judge_60 (by decide) ?_
      obtain ⟨x58, e57, h⟩ := lt_e h
      refine u_cVi X M hl.1 (kX6_get (uRw38 hS) (congrFun hV 39) e57.symm) cw_X10_101 ⟨by decide, by decide⟩ (uR_recv X M (uRw38 hS)) rfl rfl (Nat.le_of_ble_eq_true rfl) ⟨Nat.zero_le _, Nat.zero_le _⟩ dX10_judge_61 (fun H locs M n59 => ?_)
      refine lv_icmp_ge (tgt := 69) hx hb dX10_judge_64 (by decide) (fun c60 => ?_) (fun c60 => ?_)
      · have h := it_t h c60
        refine lv_iload_n hx hb dX10_judge_69 rfl (lv_at hl 1 rfl) ?_
        refine lv_if_eq (tgt := 77) hx hb dX10_judge_70 (by decide) (fun c61 => ?_) (fun c61 => ?_)
        · have h := it_t h c61
          refine lv_aload_n hx hb dX10_judge_77 rfl (lv_at hl 2 rfl) ?_
          refine gf_X10_37 X M hS dX10_judge_78 ?_
          refine lv_iconst (v := 0) hx hb dX10_judge_81 (by decide) ?_
          obtain ⟨x63, e62, h⟩ := lt_e h
          refine u_cVi X M hl.1 (kX6_get (uRw38 hS) (congrFun hV 39) e62.symm) cw_X10_101 ⟨by decide, by decide⟩ (uR_recv X M (uRw38 hS)) rfl rfl (Nat.le_of_ble_eq_true rfl) ⟨Nat.zero_le _, Nat.zero_le _⟩ dX10_judge_82 (fun H locs M n64 => ?_)
          refine lv_istore (lv' := [(5, .int x63), (4, .int x12), (3, .int x2), (0, .ref (ga G t 0)), (1, .int a1), (2, .int a2)]) hx hb dX10_judge_85 hl (by decide) rfl (fun ls hl => ?_)
          refine lv_aload_n hx hb dX10_judge_87 rfl (lv_at hl 3 rfl) ?_
          refine gf_X10_12 X M hS dX10_judge_88 ?_
          refine gf_X10_166 X M hS dX10_judge_91 ?_
          refine lv_iload_n hx hb dX10_judge_94 rfl (lv_at hl 4 rfl) ?_
          obtain ⟨x66, e65, h⟩ := lt_e h
          refine u_cVi X M hl.1 (kX6_get (uRw4 hS) (congrFun hV 5) e65.symm) cw_X10_101 ⟨by decide, by decide⟩ (uR_recv X M (uRw4 hS)) rfl rfl (Nat.le_of_ble_eq_true rfl) ⟨Nat.zero_le _, Nat.zero_le _⟩ dX10_judge_95 (fun H locs M n67 => ?_)
          refine lv_aload_n hx hb dX10_judge_98 rfl (lv_at hl 3 rfl) ?_
          refine gf_X10_28 X M hS dX10_judge_99 ?_
          refine gf_X10_195 X M hS dX10_judge_102 ?_
          refine lv_iload_n hx hb dX10_judge_105 rfl (lv_at hl 5 rfl) ?_
          obtain ⟨x69, e68, h⟩ := lt_e h
          refine u_cVi X M hl.1 (kX6_get (uRw22 hS) (congrFun hV 23) e68.symm) cw_X10_101 ⟨by decide, by decide⟩ (uR_recv X M (uRw22 hS)) rfl rfl (Nat.le_of_ble_eq_true rfl) ⟨Nat.zero_le _, Nat.zero_le _⟩ dX10_judge_106 (fun H locs M n70 => ?_)
          refine lv_isub hx hb dX10_judge_109 ?_
          refine lv_iload hx hb dX10_judge_110 (lv_at hl 0 rfl) ?_
          refine lv_ineg hx hb dX10_judge_112 ?_
          refine lv_icmp_ge (tgt := 118) hx hb dX10_judge_113 (by decide) (fun c71 => ?_) (fun c71 => ?_)
          · have h := it_t h c71
            refine lv_iload_n hx hb dX10_judge_118 rfl (lv_at hl 2 rfl) ?_
            refine lv_if_ne (tgt := 152) hx hb dX10_judge_119 (by decide) (fun c72 => ?_) (fun c72 => ?_)
            · have h := it_f h c72
              refine lv_iload_n hx hb dX10_judge_152 rfl (lv_at hl 2 rfl) ?_
              refine lv_if_eq (tgt := 160) hx hb dX10_judge_153 (by decide) (fun c73 => ?_) (fun c73 => ?_)
              · have h := it_t h c73
                refine lv_iconst (v := 1) hx hb dX10_judge_160 (by decide) ?_
                exact u_iret X hret M h (rfl) rfl dX10_judge_161
              · have h := it_f h c73
                refine lv_iconst (v := 0) hx hb dX10_judge_156 (by decide) ?_
                refine lv_goto (tgt := 161) hx hb dX10_judge_157 (by decide) ?_
                exact u_iret X hret M h (rfl) rfl dX10_judge_161
            · have h := it_t h c72
              refine lv_aload_n hx hb dX10_judge_122 rfl (lv_at hl 3 rfl) ?_
              refine gf_X10_28 X M hS dX10_judge_123 ?_
              refine lv_iload_n hx hb dX10_judge_126 rfl (lv_at hl 5 rfl) ?_
              obtain ⟨x75, e74, h⟩ := lt_e h
              refine u_cVi X M hl.1 (kX3_isLogFull hS hV e74.symm) cw_X10_198 ⟨by decide, by decide⟩ (rc_X3 X M hS) rfl rfl (Nat.le_of_ble_eq_true rfl) ⟨Nat.zero_le _, Nat.zero_le _⟩ dX10_judge_127 (fun H locs M n76 => ?_)
              refine lv_if_eq (tgt := 152) hx hb dX10_judge_130 (by decide) (fun c77 => ?_) (fun c77 => ?_)
              · have h := it_t h c77
                refine lv_iload_n hx hb dX10_judge_152 rfl (lv_at hl 2 rfl) ?_
                refine lv_if_eq (tgt := 160) hx hb dX10_judge_153 (by decide) (fun c78 => ?_) (fun c78 => ?_)
                · have h := it_t h c78
                  refine lv_iconst (v := 1) hx hb dX10_judge_160 (by decide) ?_
                  exact u_iret X hret M h (rfl) rfl dX10_judge_161
                · have h := it_f h c78
                  refine lv_iconst (v := 0) hx hb dX10_judge_156 (by decide) ?_
                  refine lv_goto (tgt := 161) hx hb dX10_judge_157 (by decide) ?_
                  exact u_iret X hret M h (rfl) rfl dX10_judge_161
              · have h := it_f h c77
                refine lv_aload_n hx hb dX10_judge_133 rfl (lv_at hl 3 rfl) ?_
                refine gf_X10_37 X M hS dX10_judge_134 ?_
                refine lv_iconst (v := 2) hx hb dX10_judge_137 (by decide) ?_
                obtain ⟨x80, e79, h⟩ := lt_e h
                refine u_cVi X M hl.1 (kX6_get (uRw38 hS) (congrFun hV 39) e79.symm) cw_X10_101 ⟨by decide, by decide⟩ (uR_recv X M (uRw38 hS)) rfl rfl (Nat.le_of_ble_eq_true rfl) ⟨Nat.zero_le _, Nat.zero_le _⟩ dX10_judge_138 (fun H locs M n81 => ?_)
                refine lv_if_ne (tgt := 149) hx hb dX10_judge_141 (by decide) (fun c82 => ?_) (fun c82 => ?_)
                · have h := it_f h c82
                  refine lv_bipush (v := 7) hx hb dX10_judge_149 (by decide) ?_
                  exact u_iret X hret M h (rfl) rfl dX10_judge_151
                · have h := it_t h c82
                  refine lv_bipush (v := 6) hx hb dX10_judge_144 (by decide) ?_
                  refine lv_goto (tgt := 151) hx hb dX10_judge_146 (by decide) ?_
                  exact u_iret X hret M h (rfl) rfl dX10_judge_151
          · have h := it_f h c71
            refine lv_iconst (v := 5) hx hb dX10_judge_116 (by decide) ?_
            exact u_iret X hret M h (rfl) rfl dX10_judge_117
        · have h := it_f h c61
          refine lv_iconst (v := 0) hx hb dX10_judge_73 (by decide) ?_
          refine lv_goto (tgt := 85) hx hb dX10_judge_74 (by decide) ?_
          refine lv_istore (lv' := [(5, .int 0), (4, .int x12), (3, .int x2), (0, .ref (ga G t 0)), (1, .int a1), (2, .int a2)]) hx hb dX10_judge_85 hl (by decide) rfl (fun ls hl => ?_)
          refine lv_aload_n hx hb dX10_judge_87 rfl (lv_at hl 3 rfl) ?_
          refine gf_X10_12 X M hS dX10_judge_88 ?_
          refine gf_X10_166 X M hS dX10_judge_91 ?_
          refine lv_iload_n hx hb dX10_judge_94 rfl (lv_at hl 4 rfl) ?_
          obtain ⟨x84, e83, h⟩ := lt_e h
          refine u_cVi X M hl.1 (kX6_get (uRw4 hS) (congrFun hV 5) e83.symm) cw_X10_101 ⟨by decide, by decide⟩ (uR_recv X M (uRw4 hS)) rfl rfl (Nat.le_of_ble_eq_true rfl) ⟨Nat.zero_le _, Nat.zero_le _⟩ dX10_judge_95 (fun H locs M n85 => ?_)
          refine lv_aload_n hx hb dX10_judge_98 rfl (lv_at hl 3 rfl) ?_
          refine gf_X10_28 X M hS dX10_judge_99 ?_
          refine gf_X10_195 X M hS dX10_judge_102 ?_
          refine lv_iload_n hx hb dX10_judge_105 rfl (lv_at hl 5 rfl) ?_
          obtain ⟨x87, e86, h⟩ := lt_e h
          refine u_cVi X M hl.1 (kX6_get (uRw22 hS) (congrFun hV 23) e86.symm) cw_X10_101 ⟨by decide, by decide⟩ (uR_recv X M (uRw22 hS)) rfl rfl (Nat.le_of_ble_eq_true rfl) ⟨Nat.zero_le _, Nat.zero_le _⟩ dX10_judge_106 (fun H locs M n88 => ?_)
          refine lv_isub hx hb dX10_judge_109 ?_
          refine lv_iload hx hb dX10_judge_110 (lv_at hl 0 rfl) ?_
          refine lv_ineg hx hb dX10_judge_112 ?_
          refine lv_icmp_ge (tgt := 118) hx hb dX10_judge_113 (by decide) (fun c89 => ?_) (fun c89 => ?_)
          · have h := it_t h c89
            refine lv_iload_n hx hb dX10_judge_118 rfl (lv_at hl 2 rfl) ?_
            refine lv_if_ne (tgt := 152) hx hb dX10_judge_119 (by decide) (fun c90 => ?_) (fun c90 => ?_)
            · have h := it_f h c90
              refine lv_iload_n hx hb dX10_judge_152 rfl (lv_at hl 2 rfl) ?_
              refine lv_if_eq (tgt := 160) hx hb dX10_judge_153 (by decide) (fun c91 => ?_) (fun c91 => ?_)
              · have h := it_t h c91
                refine lv_iconst (v := 1) hx hb dX10_judge_160 (by decide) ?_
                exact u_iret X hret M h (rfl) rfl dX10_judge_161
              · have h := it_f h c91
                refine lv_iconst (v := 0) hx hb dX10_judge_156 (by decide) ?_
                refine lv_goto (tgt := 161) hx hb dX10_judge_157 (by decide) ?_
                exact u_iret X hret M h (rfl) rfl dX10_judge_161
            · have h := it_t h c90
              refine lv_aload_n hx hb dX10_judge_122 rfl (lv_at hl 3 rfl) ?_
              refine gf_X10_28 X M hS dX10_judge_123 ?_
              refine lv_iload_n hx hb dX10_judge_126 rfl (lv_at hl 5 rfl) ?_
              obtain ⟨x93, e92, h⟩ := lt_e h
              refine u_cVi X M hl.1 (kX3_isLogFull hS hV e92.symm) cw_X10_198 ⟨by decide, by decide⟩ (rc_X3 X M hS) rfl rfl (Nat.le_of_ble_eq_true rfl) ⟨Nat.zero_le _, Nat.zero_le _⟩ dX10_judge_127 (fun H locs M n94 => ?_)
              refine lv_if_eq (tgt := 152) hx hb dX10_judge_130 (by decide) (fun c95 => ?_) (fun c95 => ?_)
              · have h := it_t h c95
                refine lv_iload_n hx hb dX10_judge_152 rfl (lv_at hl 2 rfl) ?_
                refine lv_if_eq (tgt := 160) hx hb dX10_judge_153 (by decide) (fun c96 => ?_) (fun c96 => ?_)
                · have h := it_t h c96
                  refine lv_iconst (v := 1) hx hb dX10_judge_160 (by decide) ?_
                  exact u_iret X hret M h (rfl) rfl dX10_judge_161
                · have h := it_f h c96
                  refine lv_iconst (v := 0) hx hb dX10_judge_156 (by decide) ?_
                  refine lv_goto (tgt := 161) hx hb dX10_judge_157 (by decide) ?_
                  exact u_iret X hret M h (rfl) rfl dX10_judge_161
              · have h := it_f h c95
                refine lv_aload_n hx hb dX10_judge_133 rfl (lv_at hl 3 rfl) ?_
                refine gf_X10_37 X M hS dX10_judge_134 ?_
                refine lv_iconst (v := 2) hx hb dX10_judge_137 (by decide) ?_
                obtain ⟨x98, e97, h⟩ := lt_e h
                refine u_cVi X M hl.1 (kX6_get (uRw38 hS) (congrFun hV 39) e97.symm) cw_X10_101 ⟨by decide, by decide⟩ (uR_recv X M (uRw38 hS)) rfl rfl (Nat.le_of_ble_eq_true rfl) ⟨Nat.zero_le _, Nat.zero_le _⟩ dX10_judge_138 (fun H locs M n99 => ?_)
                refine lv_if_ne (tgt := 149) hx hb dX10_judge_141 (by decide) (fun c100 => ?_) (fun c100 => ?_)
                · have h := it_f h c100
                  refine lv_bipush (v := 7) hx hb dX10_judge_149 (by decide) ?_
                  exact u_iret X hret M h (rfl) rfl dX10_judge_151
                · have h := it_t h c100
                  refine lv_bipush (v := 6) hx hb dX10_judge_144 (by decide) ?_
                  refine lv_goto (tgt := 151) hx hb dX10_judge_146 (by decide) ?_
                  exact u_iret X hret M h (rfl) rfl dX10_judge_151
          · have h := it_f h c89
            refine lv_iconst (v := 5) hx hb dX10_judge_116 (by decide) ?_
            exact u_iret X hret M h (rfl) rfl dX10_judge_117
      · have h := it_f h c60
        refine lv_iconst (v := 4) hx hb dX10_judge_67 (by decide) ?_
        exact u_iret X hret M h (rfl) rfl dX10_judge_68
  · have h := it_f h c10
    refine lv_iconst (v := 3) hx hb dX10_judge_28 (by decide) ?_
    exact u_iret X hret M h (rfl) rfl dX10_judge_29
def fX10_takeRide (S : (Nat → Nat → Int32)) (a1 : Int32) (a2 : Int32) : Option (Nat → Nat → Int32) :=
  lt_ (fget 4 (S 23) a2) fun x2 =>
  lt_ (va_up S 5 (finc 10 (S 5) a1 (-x2))) fun S5 =>
  lt_ (va_up S5 7 (finc 10 (S5 7) a1 1)) fun S8 =>
  lt_ (S8 0 4) fun x10 =>
  lt_ (va_up S8 9 (fput 10 (S8 9) a1 x10)) fun S13 =>
  lt_ (fget 10 (S13 3) a1) fun x16 =>
  lt_ (fX3_isUp S13 a2) fun x19 =>
  if x19 = 0 then
    lt_ (fget 10 (S13 7) a1) fun x23 =>
    bd (fX3_writeLog S13 a2 x16 x23 x2) fun S26 =>
    some S26
  else
    lt_ (fget 10 (S13 7) a1) fun x29 =>
    bd (fX10_settle S13 x16 x29 x2) fun S32 =>
    some S32
set_option maxHeartbeats 4000000 in
set_option maxRecDepth 20000 in
theorem kX10_takeRide {l : Launch} {G : UG} {V : uV} {t : Nat} (hS : uSt G t) {S S' : (Nat → Nat → Int32)} {a1 : Int32} {a2 : Int32} (h : fX10_takeRide S a1 a2 = some S') : uMv l G yX10_takeRide cX10_takeRide 5 (uR 3 72) [.ref (ga G t 0), .int a1, .int a2] (va_up V t S) (va_up V t S') := by
  refine uMv_of rfl (Nat.le_of_ble_eq_true rfl) (fun p e s m args below meth c ls X hret hl M => ?_)
  have hl : lv_has ls 5 [(0, .ref (ga G t 0)), (1, .int a1), (2, .int a2)] := hl
  have hx := X.hx
  have hb := X.hb
  unfold fX10_takeRide at h
  refine lv_aload_n hx hb dX10_takeRide_0 rfl (lv_at hl 0 rfl) ?_
  refine gf_X10_28 X M hS dX10_takeRide_1 ?_
  refine gf_X10_195 X M hS dX10_takeRide_4 ?_
  refine lv_iload_n hx hb dX10_takeRide_7 rfl (lv_at hl 2 rfl) ?_
  obtain ⟨x2, e1, h⟩ := lt_e h
  refine u_cVi X M hl.1 (kX6_get (uRw22 hS) (congrFun (va_up_s V t _) 23) e1.symm) cw_X10_101 ⟨by decide, by decide⟩ (uR_recv X M (uRw22 hS)) rfl rfl (Nat.le_of_ble_eq_true rfl) ⟨Nat.zero_le _, Nat.zero_le _⟩ dX10_takeRide_8 (fun H locs M n3 => ?_)
  refine lv_istore_n (lv' := [(3, .int x2), (0, .ref (ga G t 0)), (1, .int a1), (2, .int a2)]) hx hb dX10_takeRide_11 rfl hl (by decide) rfl (fun ls hl => ?_)
  refine lv_aload_n hx hb dX10_takeRide_12 rfl (lv_at hl 1 rfl) ?_
  refine gf_X10_12 X M hS dX10_takeRide_13 ?_
  refine gf_X10_166 X M hS dX10_takeRide_16 ?_
  refine lv_iload_n hx hb dX10_takeRide_19 rfl (lv_at hl 2 rfl) ?_
  refine lv_iload_n hx hb dX10_takeRide_20 rfl (lv_at hl 0 rfl) ?_
  refine lv_ineg hx hb dX10_takeRide_21 ?_
  obtain ⟨S5, e4, h⟩ := lt_e h
  refine u_cVv X M hl.1 (kX6_increaseS (uRw4 hS) e4) cw_X10_175 ⟨by decide, by decide⟩ (uR_recv X M (uRw4 hS)) rfl rfl (Nat.le_of_ble_eq_true rfl) ⟨Nat.zero_le _, Nat.zero_le _⟩ dX10_takeRide_22 (fun H locs M => ?_)
  refine lv_aload_n hx hb dX10_takeRide_25 rfl (lv_at hl 1 rfl) ?_
  refine gf_X10_12 X M hS dX10_takeRide_26 ?_
  refine gf_X10_201 X M hS dX10_takeRide_29 ?_
  refine lv_iload_n hx hb dX10_takeRide_32 rfl (lv_at hl 2 rfl) ?_
  refine lv_iconst (v := 1) hx hb dX10_takeRide_33 (by decide) ?_
  obtain ⟨S8, e7, h⟩ := lt_e h
  refine u_cVv X M hl.1 (kX6_increaseS (uRw6 hS) e7) cw_X10_175 ⟨by decide, by decide⟩ (uR_recv X M (uRw6 hS)) rfl rfl (Nat.le_of_ble_eq_true rfl) ⟨Nat.zero_le _, Nat.zero_le _⟩ dX10_takeRide_34 (fun H locs M => ?_)
  refine lv_aload_n hx hb dX10_takeRide_37 rfl (lv_at hl 1 rfl) ?_
  refine gf_X10_12 X M hS dX10_takeRide_38 ?_
  refine gf_X10_192 X M hS dX10_takeRide_41 ?_
  refine lv_iload_n hx hb dX10_takeRide_44 rfl (lv_at hl 2 rfl) ?_
  refine lv_aload_n hx hb dX10_takeRide_45 rfl (lv_at hl 1 rfl) ?_
  obtain ⟨x10, e11, h⟩ := lt_e h
  refine gf_X10_51 X M hS (va_up_s V t _) e11 dX10_takeRide_46 ?_
  obtain ⟨S13, e12, h⟩ := lt_e h
  refine u_cVv X M hl.1 (kX6_putS (uRw8 hS) e12) cw_X10_47 ⟨by decide, by decide⟩ (uR_recv X M (uRw8 hS)) rfl rfl (Nat.le_of_ble_eq_true rfl) ⟨Nat.zero_le _, Nat.zero_le _⟩ dX10_takeRide_49 (fun H locs M => ?_)
  refine lv_aload_n hx hb dX10_takeRide_52 rfl (lv_at hl 1 rfl) ?_
  refine gf_X10_12 X M hS dX10_takeRide_53 ?_
  refine gf_X10_169 X M hS dX10_takeRide_56 ?_
  refine lv_iload_n hx hb dX10_takeRide_59 rfl (lv_at hl 2 rfl) ?_
  obtain ⟨x16, e15, h⟩ := lt_e h
  refine u_cVi X M hl.1 (kX6_get (uRw2 hS) (congrFun (va_up_s V t _) 3) e15.symm) cw_X10_101 ⟨by decide, by decide⟩ (uR_recv X M (uRw2 hS)) rfl rfl (Nat.le_of_ble_eq_true rfl) ⟨Nat.zero_le _, Nat.zero_le _⟩ dX10_takeRide_60 (fun H locs M n17 => ?_)
  refine lv_istore (lv' := [(4, .int x16), (3, .int x2), (0, .ref (ga G t 0)), (1, .int a1), (2, .int a2)]) hx hb dX10_takeRide_63 hl (by decide) rfl (fun ls hl => ?_)
  refine lv_aload_n hx hb dX10_takeRide_65 rfl (lv_at hl 2 rfl) ?_
  refine gf_X10_28 X M hS dX10_takeRide_66 ?_
  refine lv_iload_n hx hb dX10_takeRide_69 rfl (lv_at hl 4 rfl) ?_
  obtain ⟨x19, e18, h⟩ := lt_e h
  refine u_cVi X M hl.1 (kX3_isUp hS (va_up_s V t _) e18.symm) cw_X10_120 ⟨by decide, by decide⟩ (rc_X3 X M hS) rfl rfl (Nat.le_of_ble_eq_true rfl) ⟨Nat.zero_le _, Nat.zero_le _⟩ dX10_takeRide_70 (fun H locs M n20 => ?_)
  refine lv_if_eq (tgt := 97) hx hb dX10_takeRide_73 (by decide) (fun c21 => ?_) (fun c21 => ?_)
  · have h := it_t h c21
    refine lv_aload_n hx hb dX10_takeRide_97 rfl (lv_at hl 2 rfl) ?_
    refine gf_X10_28 X M hS dX10_takeRide_98 ?_
    refine lv_iload_n hx hb dX10_takeRide_101 rfl (lv_at hl 4 rfl) ?_
    refine lv_iload hx hb dX10_takeRide_102 (lv_at hl 0 rfl) ?_
    refine lv_aload_n hx hb dX10_takeRide_104 rfl (lv_at hl 2 rfl) ?_
    refine gf_X10_12 X M hS dX10_takeRide_105 ?_
    refine gf_X10_201 X M hS dX10_takeRide_108 ?_
    refine lv_iload_n hx hb dX10_takeRide_111 rfl (lv_at hl 3 rfl) ?_
    obtain ⟨x23, e22, h⟩ := lt_e h
    refine u_cVi X M hl.1 (kX6_get (uRw6 hS) (congrFun (va_up_s V t _) 7) e22.symm) cw_X10_101 ⟨by decide, by decide⟩ (uR_recv X M (uRw6 hS)) rfl rfl (Nat.le_of_ble_eq_true rfl) ⟨Nat.zero_le _, Nat.zero_le _⟩ dX10_takeRide_112 (fun H locs M n24 => ?_)
    refine lv_iload_n hx hb dX10_takeRide_115 rfl (lv_at hl 1 rfl) ?_
    obtain ⟨S26, e25, h⟩ := bd_e h
    refine u_cVv X M hl.1 (kX3_writeLog hS e25) cw_X10_204 ⟨by decide, by decide⟩ (rc_X3 X M hS) rfl rfl (Nat.le_of_ble_eq_true rfl) ⟨Nat.zero_le _, Nat.zero_le _⟩ dX10_takeRide_116 (fun H locs M => ?_)
    exact u_vret X hret M (congrArg (va_up V t) (Option.some.inj h)) dX10_takeRide_119
  · have h := it_f h c21
    refine lv_aload_n hx hb dX10_takeRide_76 rfl (lv_at hl 2 rfl) ?_
    refine lv_iload hx hb dX10_takeRide_77 (lv_at hl 0 rfl) ?_
    refine lv_aload_n hx hb dX10_takeRide_79 rfl (lv_at hl 2 rfl) ?_
    refine gf_X10_12 X M hS dX10_takeRide_80 ?_
    refine gf_X10_201 X M hS dX10_takeRide_83 ?_
    refine lv_iload_n hx hb dX10_takeRide_86 rfl (lv_at hl 3 rfl) ?_
    obtain ⟨x29, e28, h⟩ := lt_e h
    refine u_cVi X M hl.1 (kX6_get (uRw6 hS) (congrFun (va_up_s V t _) 7) e28.symm) cw_X10_101 ⟨by decide, by decide⟩ (uR_recv X M (uRw6 hS)) rfl rfl (Nat.le_of_ble_eq_true rfl) ⟨Nat.zero_le _, Nat.zero_le _⟩ dX10_takeRide_87 (fun H locs M n30 => ?_)
    refine lv_iload_n hx hb dX10_takeRide_90 rfl (lv_at hl 1 rfl) ?_
    obtain ⟨S32, e31, h⟩ := bd_e h
    refine u_cVv X M hl.1 (kX10_settle hS e31) cw_X10_148 ⟨by decide, by decide⟩ (rc_X10 X M hS) rfl rfl (Nat.le_of_ble_eq_true rfl) ⟨Nat.zero_le _, Nat.zero_le _⟩ dX10_takeRide_91 (fun H locs M => ?_)
    refine lv_goto (tgt := 119) hx hb dX10_takeRide_94 (by decide) ?_
    exact u_vret X hret M (congrArg (va_up V t) (Option.some.inj h)) dX10_takeRide_119
def fX10_showCard (S : (Nat → Nat → Int32)) (a1 : Int32) (a2 : Int32) : Option (Int32 × (Nat → Nat → Int32)) :=
  lt_ (fX0_has S a1) fun x2 =>
  if x2 = 0 then
    some ((-1), S)
  else
    lt_ (fX3_has S a2) fun x6 =>
    if x6 = 0 then
      some ((-1), S)
    else
      lt_ (fX3_isOpen S a2) fun x10 =>
      if x10 = 0 then
        lt_ (fX3_isUp S a2) fun x14 =>
        if x14 = 0 then
          lt_ (fX10_judge S a1 a2) fun x18 =>
          lt_ (fX10_letsThrough  x18) fun x21 =>
          if x21 = 0 then
            lt_ (S 0 8) fun x32 =>
            lt_ (va_up S 0 (upd (S 0) 8 (x32 + 1))) fun S34 =>
            some (x18, S34)
          else
            if x18 = 7 then
              lt_ (S 0 9) fun x28 =>
              lt_ (va_up S 0 (upd (S 0) 9 (x28 + 1))) fun S30 =>
              some (x18, S30)
            else
              bd (fX10_takeRide S a1 a2) fun S26 =>
              some (x18, S26)
        else
          lt_ (fget 10 (S 3) a1) fun x37 =>
          bd2 (fX5_takeWaiting S x37) fun x40 S41 =>
          lt_ (va_up S41 5 (finc 10 (S41 5) a1 x40)) fun S44 =>
          lt_ (fX10_judge S44 a1 a2) fun x47 =>
          lt_ (fX10_letsThrough  x47) fun x50 =>
          if x50 = 0 then
            lt_ (S44 0 8) fun x61 =>
            lt_ (va_up S44 0 (upd (S44 0) 8 (x61 + 1))) fun S63 =>
            some (x47, S63)
          else
            if x47 = 7 then
              lt_ (S44 0 9) fun x57 =>
              lt_ (va_up S44 0 (upd (S44 0) 9 (x57 + 1))) fun S59 =>
              some (x47, S59)
            else
              bd (fX10_takeRide S44 a1 a2) fun S55 =>
              some (x47, S55)
      else
        lt_ (S 0 9) fun x65 =>
        lt_ (va_up S 0 (upd (S 0) 9 (x65 + 1))) fun S67 =>
        some (2, S67)
set_option maxHeartbeats 4000000 in
set_option maxRecDepth 20000 in
theorem kX10_showCard {l : Launch} {G : UG} {V : uV} {t : Nat} (hS : uSt G t) {S S' : (Nat → Nat → Int32)} {a1 : Int32} {a2 : Int32} {r : Int32} (h : fX10_showCard S a1 a2 = some (r, S')) : uMi l G yX10_showCard cX10_showCard 4 .int (uR 4 96) [.ref (ga G t 0), .int a1, .int a2] (va_up V t S) r (va_up V t S') := by
  refine uMi_of rfl (Nat.le_of_ble_eq_true rfl) (fun p e s m args below meth c ls X hret hl M => ?_)
  have hl : lv_has ls 4 [(0, .ref (ga G t 0)), (1, .int a1), (2, .int a2)] := hl
  have hx := X.hx
  have hb := X.hb
  unfold fX10_showCard at h
  refine lv_aload_n hx hb dX10_showCard_0 rfl (lv_at hl 0 rfl) ?_
  refine gf_X10_12 X M hS dX10_showCard_1 ?_
  refine lv_iload_n hx hb dX10_showCard_4 rfl (lv_at hl 1 rfl) ?_
  obtain ⟨x2, e1, h⟩ := lt_e h
  refine u_cVi X M hl.1 (kX0_has hS (va_up_s V t _) e1.symm) cw_X10_159 ⟨by decide, by decide⟩ (rc_X0 X M hS) rfl rfl (Nat.le_of_ble_eq_true rfl) ⟨Nat.zero_le _, Nat.zero_le _⟩ dX10_showCard_5 (fun H locs M n3 => ?_)
  refine lv_if_eq (tgt := 22) hx hb dX10_showCard_8 (by decide) (fun c4 => ?_) (fun c4 => ?_)
  · have h := it_t h c4
    refine lv_iconst (v := (-1)) hx hb dX10_showCard_22 (by decide) ?_
    exact u_iret X hret M (rt2 h).1 (congrArg (va_up V t) ((rt2 h).2)) rfl dX10_showCard_23
  · have h := it_f h c4
    refine lv_aload_n hx hb dX10_showCard_11 rfl (lv_at hl 0 rfl) ?_
    refine gf_X10_28 X M hS dX10_showCard_12 ?_
    refine lv_iload_n hx hb dX10_showCard_15 rfl (lv_at hl 2 rfl) ?_
    obtain ⟨x6, e5, h⟩ := lt_e h
    refine u_cVi X M hl.1 (kX3_has hS (va_up_s V t _) e5.symm) cw_X10_162 ⟨by decide, by decide⟩ (rc_X3 X M hS) rfl rfl (Nat.le_of_ble_eq_true rfl) ⟨Nat.zero_le _, Nat.zero_le _⟩ dX10_showCard_16 (fun H locs M n7 => ?_)
    refine lv_if_ne (tgt := 24) hx hb dX10_showCard_19 (by decide) (fun c8 => ?_) (fun c8 => ?_)
    · have h := it_f h c8
      refine lv_aload_n hx hb dX10_showCard_24 rfl (lv_at hl 0 rfl) ?_
      refine gf_X10_28 X M hS dX10_showCard_25 ?_
      refine lv_iload_n hx hb dX10_showCard_28 rfl (lv_at hl 2 rfl) ?_
      obtain ⟨x10, e9, h⟩ := lt_e h
      refine u_cVi X M hl.1 (kX3_isOpen hS (va_up_s V t _) e9.symm) cw_X10_163 ⟨by decide, by decide⟩ (rc_X3 X M hS) rfl rfl (Nat.le_of_ble_eq_true rfl) ⟨Nat.zero_le _, Nat.zero_le _⟩ dX10_showCard_29 (fun H locs M n11 => ?_)
      refine lv_if_eq (tgt := 47) hx hb dX10_showCard_32 (by decide) (fun c12 => ?_) (fun c12 => ?_)
      · have h := it_t h c12
        refine lv_aload_n hx hb dX10_showCard_47 rfl (lv_at hl 0 rfl) ?_
        refine gf_X10_28 X M hS dX10_showCard_48 ?_
        refine lv_iload_n hx hb dX10_showCard_51 rfl (lv_at hl 2 rfl) ?_
        obtain ⟨x14, e13, h⟩ := lt_e h
        refine u_cVi X M hl.1 (kX3_isUp hS (va_up_s V t _) e13.symm) cw_X10_120 ⟨by decide, by decide⟩ (rc_X3 X M hS) rfl rfl (Nat.le_of_ble_eq_true rfl) ⟨Nat.zero_le _, Nat.zero_le _⟩ dX10_showCard_52 (fun H locs M n15 => ?_)
        refine lv_if_eq (tgt := 87) hx hb dX10_showCard_55 (by decide) (fun c16 => ?_) (fun c16 => ?_)
        · have h := it_t h c16
          refine lv_aload_n hx hb dX10_showCard_87 rfl (lv_at hl 0 rfl) ?_
          refine lv_iload_n hx hb dX10_showCard_88 rfl (lv_at hl 1 rfl) ?_
          refine lv_iload_n hx hb dX10_showCard_89 rfl (lv_at hl 2 rfl) ?_
          obtain ⟨x18, e17, h⟩ := lt_e h
          refine u_cVi X M hl.1 (kX10_judge hS (va_up_s V t _) e17.symm) cw_X10_178 ⟨by decide, by decide⟩ (rc_X10 X M hS) rfl rfl (Nat.le_of_ble_eq_true rfl) ⟨Nat.zero_le _, Nat.zero_le _⟩ dX10_showCard_90 (fun H locs M n19 => ?_)
          refine lv_istore_n (lv' := [(3, .int x18), (0, .ref (ga G t 0)), (1, .int a1), (2, .int a2)]) hx hb dX10_showCard_93 rfl hl (by decide) rfl (fun ls hl => ?_)
          refine lv_iload_n hx hb dX10_showCard_94 rfl (lv_at hl 0 rfl) ?_
          obtain ⟨x21, e20, h⟩ := lt_e h
          refine u_cSi X M hl.1 (kX10_letsThrough  e20.symm) cw_X10_182 ⟨by decide, by decide⟩ rfl rfl (Nat.le_of_ble_eq_true rfl) ⟨Nat.zero_le _, Nat.zero_le _⟩ dX10_showCard_95 (fun H locs M n22 => ?_)
          refine lv_if_ne (tgt := 114) hx hb dX10_showCard_98 (by decide) (fun c23 => ?_) (fun c23 => ?_)
          · have h := it_f h c23
            refine lv_iload_n hx hb dX10_showCard_114 rfl (lv_at hl 0 rfl) ?_
            refine lv_bipush (v := 7) hx hb dX10_showCard_115 (by decide) ?_
            refine lv_icmp_ne (tgt := 133) hx hb dX10_showCard_117 (by decide) (fun c24 => ?_) (fun c24 => ?_)
            · have h := it_f h c24
              refine lv_aload_n hx hb dX10_showCard_133 rfl (lv_at hl 1 rfl) ?_
              refine lv_iload_n hx hb dX10_showCard_134 rfl (lv_at hl 2 rfl) ?_
              refine lv_iload_n hx hb dX10_showCard_135 rfl (lv_at hl 3 rfl) ?_
              obtain ⟨S26, e25, h⟩ := bd_e h
              refine u_cVv X M hl.1 (kX10_takeRide hS e25) cw_X10_185 ⟨by decide, by decide⟩ (rc_X10 X M hS) rfl rfl (Nat.le_of_ble_eq_true rfl) ⟨Nat.zero_le _, Nat.zero_le _⟩ dX10_showCard_136 (fun H locs M => ?_)
              refine lv_iload_n hx hb dX10_showCard_139 rfl (lv_at hl 0 rfl) ?_
              exact u_iret X hret M (rt2 h).1 (congrArg (va_up V t) ((rt2 h).2)) rfl dX10_showCard_140
            · have h := it_t h c24
              refine lv_aload_n hx hb dX10_showCard_120 rfl (lv_at hl 1 rfl) ?_
              refine lv_dup hx hb dX10_showCard_121 rfl ?_
              obtain ⟨x28, e29, h⟩ := lt_e h
              refine gf_X10_67 X M hS (va_up_s V t _) e29 dX10_showCard_122 ?_
              refine lv_iconst (v := 1) hx hb dX10_showCard_125 (by decide) ?_
              refine lv_iadd hx hb dX10_showCard_126 ?_
              obtain ⟨S30, e31, h⟩ := lt_e h
              refine pf_X10_67 X M hS e31 dX10_showCard_127 (fun H locs M => ?_)
              refine lv_goto (tgt := 139) hx hb dX10_showCard_130 (by decide) ?_
              refine lv_iload_n hx hb dX10_showCard_139 rfl (lv_at hl 0 rfl) ?_
              exact u_iret X hret M (rt2 h).1 (congrArg (va_up V t) ((rt2 h).2)) rfl dX10_showCard_140
          · have h := it_t h c23
            refine lv_aload_n hx hb dX10_showCard_101 rfl (lv_at hl 1 rfl) ?_
            refine lv_dup hx hb dX10_showCard_102 rfl ?_
            obtain ⟨x32, e33, h⟩ := lt_e h
            refine gf_X10_64 X M hS (va_up_s V t _) e33 dX10_showCard_103 ?_
            refine lv_iconst (v := 1) hx hb dX10_showCard_106 (by decide) ?_
            refine lv_iadd hx hb dX10_showCard_107 ?_
            obtain ⟨S34, e35, h⟩ := lt_e h
            refine pf_X10_64 X M hS e35 dX10_showCard_108 (fun H locs M => ?_)
            refine lv_goto (tgt := 139) hx hb dX10_showCard_111 (by decide) ?_
            refine lv_iload_n hx hb dX10_showCard_139 rfl (lv_at hl 0 rfl) ?_
            exact u_iret X hret M (rt2 h).1 (congrArg (va_up V t) ((rt2 h).2)) rfl dX10_showCard_140
        · have h := it_f h c16
          refine lv_aload_n hx hb dX10_showCard_58 rfl (lv_at hl 0 rfl) ?_
          refine gf_X10_12 X M hS dX10_showCard_59 ?_
          refine gf_X10_166 X M hS dX10_showCard_62 ?_
          refine lv_iload_n hx hb dX10_showCard_65 rfl (lv_at hl 1 rfl) ?_
          refine lv_aload_n hx hb dX10_showCard_66 rfl (lv_at hl 0 rfl) ?_
          refine gf_X10_21 X M hS dX10_showCard_67 ?_
          refine lv_aload_n hx hb dX10_showCard_70 rfl (lv_at hl 0 rfl) ?_
          refine gf_X10_12 X M hS dX10_showCard_71 ?_
          refine gf_X10_169 X M hS dX10_showCard_74 ?_
          refine lv_iload_n hx hb dX10_showCard_77 rfl (lv_at hl 1 rfl) ?_
          obtain ⟨x37, e36, h⟩ := lt_e h
          refine u_cVi X M hl.1 (kX6_get (uRw2 hS) (congrFun (va_up_s V t _) 3) e36.symm) cw_X10_101 ⟨by decide, by decide⟩ (uR_recv X M (uRw2 hS)) rfl rfl (Nat.le_of_ble_eq_true rfl) ⟨Nat.zero_le _, Nat.zero_le _⟩ dX10_showCard_78 (fun H locs M n38 => ?_)
          obtain ⟨x40, S41, e39, h⟩ := bd2_e h
          refine u_cVi X M hl.1 (kX5_takeWaiting hS e39) cw_X10_172 ⟨by decide, by decide⟩ (rc_X5 X M hS) rfl rfl (Nat.le_of_ble_eq_true rfl) ⟨Nat.zero_le _, Nat.zero_le _⟩ dX10_showCard_81 (fun H locs M n42 => ?_)
          obtain ⟨S44, e43, h⟩ := lt_e h
          refine u_cVv X M hl.1 (kX6_increaseS (uRw4 hS) e43) cw_X10_175 ⟨by decide, by decide⟩ (uR_recv X M (uRw4 hS)) rfl rfl (Nat.le_of_ble_eq_true rfl) ⟨Nat.zero_le _, Nat.zero_le _⟩ dX10_showCard_84 (fun H locs M => ?_)
          refine lv_aload_n hx hb dX10_showCard_87 rfl (lv_at hl 0 rfl) ?_
          refine lv_iload_n hx hb dX10_showCard_88 rfl (lv_at hl 1 rfl) ?_
          refine lv_iload_n hx hb dX10_showCard_89 rfl (lv_at hl 2 rfl) ?_
          obtain ⟨x47, e46, h⟩ := lt_e h
          refine u_cVi X M hl.1 (kX10_judge hS (va_up_s V t _) e46.symm) cw_X10_178 ⟨by decide, by decide⟩ (rc_X10 X M hS) rfl rfl (Nat.le_of_ble_eq_true rfl) ⟨Nat.zero_le _, Nat.zero_le _⟩ dX10_showCard_90 (fun H locs M n48 => ?_)
          refine lv_istore_n (lv' := [(3, .int x47), (0, .ref (ga G t 0)), (1, .int a1), (2, .int a2)]) hx hb dX10_showCard_93 rfl hl (by decide) rfl (fun ls hl => ?_)
          refine lv_iload_n hx hb dX10_showCard_94 rfl (lv_at hl 0 rfl) ?_
          obtain ⟨x50, e49, h⟩ := lt_e h
          refine u_cSi X M hl.1 (kX10_letsThrough  e49.symm) cw_X10_182 ⟨by decide, by decide⟩ rfl rfl (Nat.le_of_ble_eq_true rfl) ⟨Nat.zero_le _, Nat.zero_le _⟩ dX10_showCard_95 (fun H locs M n51 => ?_)
          refine lv_if_ne (tgt := 114) hx hb dX10_showCard_98 (by decide) (fun c52 => ?_) (fun c52 => ?_)
          · have h := it_f h c52
            refine lv_iload_n hx hb dX10_showCard_114 rfl (lv_at hl 0 rfl) ?_
            refine lv_bipush (v := 7) hx hb dX10_showCard_115 (by decide) ?_
            refine lv_icmp_ne (tgt := 133) hx hb dX10_showCard_117 (by decide) (fun c53 => ?_) (fun c53 => ?_)
            · have h := it_f h c53
              refine lv_aload_n hx hb dX10_showCard_133 rfl (lv_at hl 1 rfl) ?_
              refine lv_iload_n hx hb dX10_showCard_134 rfl (lv_at hl 2 rfl) ?_
              refine lv_iload_n hx hb dX10_showCard_135 rfl (lv_at hl 3 rfl) ?_
              obtain ⟨S55, e54, h⟩ := bd_e h
              refine u_cVv X M hl.1 (kX10_takeRide hS e54) cw_X10_185 ⟨by decide, by decide⟩ (rc_X10 X M hS) rfl rfl (Nat.le_of_ble_eq_true rfl) ⟨Nat.zero_le _, Nat.zero_le _⟩ dX10_showCard_136 (fun H locs M => ?_)
              refine lv_iload_n hx hb dX10_showCard_139 rfl (lv_at hl 0 rfl) ?_
              exact u_iret X hret M (rt2 h).1 (congrArg (va_up V t) ((rt2 h).2)) rfl dX10_showCard_140
            · have h := it_t h c53
              refine lv_aload_n hx hb dX10_showCard_120 rfl (lv_at hl 1 rfl) ?_
              refine lv_dup hx hb dX10_showCard_121 rfl ?_
              obtain ⟨x57, e58, h⟩ := lt_e h
              refine gf_X10_67 X M hS (va_up_s V t _) e58 dX10_showCard_122 ?_
              refine lv_iconst (v := 1) hx hb dX10_showCard_125 (by decide) ?_
              refine lv_iadd hx hb dX10_showCard_126 ?_
              obtain ⟨S59, e60, h⟩ := lt_e h
              refine pf_X10_67 X M hS e60 dX10_showCard_127 (fun H locs M => ?_)
              refine lv_goto (tgt := 139) hx hb dX10_showCard_130 (by decide) ?_
              refine lv_iload_n hx hb dX10_showCard_139 rfl (lv_at hl 0 rfl) ?_
              exact u_iret X hret M (rt2 h).1 (congrArg (va_up V t) ((rt2 h).2)) rfl dX10_showCard_140
          · have h := it_t h c52
            refine lv_aload_n hx hb dX10_showCard_101 rfl (lv_at hl 1 rfl) ?_
            refine lv_dup hx hb dX10_showCard_102 rfl ?_
            obtain ⟨x61, e62, h⟩ := lt_e h
            refine gf_X10_64 X M hS (va_up_s V t _) e62 dX10_showCard_103 ?_
            refine lv_iconst (v := 1) hx hb dX10_showCard_106 (by decide) ?_
            refine lv_iadd hx hb dX10_showCard_107 ?_
            obtain ⟨S63, e64, h⟩ := lt_e h
            refine pf_X10_64 X M hS e64 dX10_showCard_108 (fun H locs M => ?_)
            refine lv_goto (tgt := 139) hx hb dX10_showCard_111 (by decide) ?_
            refine lv_iload_n hx hb dX10_showCard_139 rfl (lv_at hl 0 rfl) ?_
            exact u_iret X hret M (rt2 h).1 (congrArg (va_up V t) ((rt2 h).2)) rfl dX10_showCard_140
      · have h := it_f h c12
        refine lv_aload_n hx hb dX10_showCard_35 rfl (lv_at hl 0 rfl) ?_
        refine lv_dup hx hb dX10_showCard_36 rfl ?_
        obtain ⟨x65, e66, h⟩ := lt_e h
        refine gf_X10_67 X M hS (va_up_s V t _) e66 dX10_showCard_37 ?_
        refine lv_iconst (v := 1) hx hb dX10_showCard_40 (by decide) ?_
        refine lv_iadd hx hb dX10_showCard_41 ?_
        obtain ⟨S67, e68, h⟩ := lt_e h
        refine pf_X10_67 X M hS e68 dX10_showCard_42 (fun H locs M => ?_)
        refine lv_iconst (v := 2) hx hb dX10_showCard_45 (by decide) ?_
        exact u_iret X hret M (rt2 h).1 (congrArg (va_up V t) ((rt2 h).2)) rfl dX10_showCard_46
    · have h := it_t h c8
      refine lv_iconst (v := (-1)) hx hb dX10_showCard_22 (by decide) ?_
      exact u_iret X hret M (rt2 h).1 (congrArg (va_up V t) ((rt2 h).2)) rfl dX10_showCard_23
def fX10_tryIssue (S : (Nat → Nat → Int32)) (a1 : Int32) : Option (Int32 × (Nat → Nat → Int32)) :=
  if a1 < 0 then
    some (0, S)
  else
    if 99 < a1 then
      some (0, S)
    else
      lt_ (fX10_hasRoomForAccount S) fun x4 =>
      if x4 = 0 then
        some (0, S)
      else
        bd2 (fX10_makeAccount S a1) fun x8 S9 =>
        some (1, S9)
set_option maxHeartbeats 4000000 in
set_option maxRecDepth 20000 in
theorem kX10_tryIssue {l : Launch} {G : UG} {V : uV} {t : Nat} (hS : uSt G t) {S S' : (Nat → Nat → Int32)} {a1 : Int32} {r : Int32} (h : fX10_tryIssue S a1 = some (r, S')) : uMi l G yX10_tryIssue cX10_tryIssue 2 .boolean (uR 3 68) [.ref (ga G t 0), .int a1] (va_up V t S) r (va_up V t S') := by
  refine uMi_of rfl (Nat.le_of_ble_eq_true rfl) (fun p e s m args below meth c ls X hret hl M => ?_)
  have hl : lv_has ls 2 [(0, .ref (ga G t 0)), (1, .int a1)] := hl
  have hx := X.hx
  have hb := X.hb
  unfold fX10_tryIssue at h
  refine lv_iload_n hx hb dX10_tryIssue_0 rfl (lv_at hl 1 rfl) ?_
  refine lv_if_lt (tgt := 17) hx hb dX10_tryIssue_1 (by decide) (fun c1 => ?_) (fun c1 => ?_)
  · have h := it_t h c1
    refine lv_iconst (v := 0) hx hb dX10_tryIssue_17 (by decide) ?_
    exact u_iret X hret M (rt2 h).1 (congrArg (va_up V t) ((rt2 h).2)) rfl dX10_tryIssue_18
  · have h := it_f h c1
    refine lv_iload_n hx hb dX10_tryIssue_4 rfl (lv_at hl 1 rfl) ?_
    refine lv_bipush (v := 99) hx hb dX10_tryIssue_5 (by decide) ?_
    refine lv_icmp_gt (tgt := 17) hx hb dX10_tryIssue_7 (by decide) (fun c2 => ?_) (fun c2 => ?_)
    · have h := it_t h c2
      refine lv_iconst (v := 0) hx hb dX10_tryIssue_17 (by decide) ?_
      exact u_iret X hret M (rt2 h).1 (congrArg (va_up V t) ((rt2 h).2)) rfl dX10_tryIssue_18
    · have h := it_f h c2
      refine lv_aload_n hx hb dX10_tryIssue_10 rfl (lv_at hl 0 rfl) ?_
      obtain ⟨x4, e3, h⟩ := lt_e h
      refine u_cVi X M hl.1 (kX10_hasRoomForAccount hS (va_up_s V t _) e3.symm) cw_X10_208 ⟨by decide, by decide⟩ (rc_X10 X M hS) rfl rfl (Nat.le_of_ble_eq_true rfl) ⟨Nat.zero_le _, Nat.zero_le _⟩ dX10_tryIssue_11 (fun H locs M n5 => ?_)
      refine lv_if_ne (tgt := 19) hx hb dX10_tryIssue_14 (by decide) (fun c6 => ?_) (fun c6 => ?_)
      · have h := it_f h c6
        refine lv_aload_n hx hb dX10_tryIssue_19 rfl (lv_at hl 0 rfl) ?_
        refine lv_iload_n hx hb dX10_tryIssue_20 rfl (lv_at hl 1 rfl) ?_
        obtain ⟨x8, S9, e7, h⟩ := bd2_e h
        refine u_cVi X M hl.1 (kX10_makeAccount hS e7) cw_X10_211 ⟨by decide, by decide⟩ (rc_X10 X M hS) rfl rfl (Nat.le_of_ble_eq_true rfl) ⟨Nat.zero_le _, Nat.zero_le _⟩ dX10_tryIssue_21 (fun H locs M n10 => ?_)
        refine lv_pop hx hb dX10_tryIssue_24 rfl ?_
        refine lv_iconst (v := 1) hx hb dX10_tryIssue_25 (by decide) ?_
        exact u_iret X hret M (rt2 h).1 (congrArg (va_up V t) ((rt2 h).2)) rfl dX10_tryIssue_26
      · have h := it_t h c6
        refine lv_iconst (v := 0) hx hb dX10_tryIssue_17 (by decide) ?_
        exact u_iret X hret M (rt2 h).1 (congrArg (va_up V t) ((rt2 h).2)) rfl dX10_tryIssue_18
def fX10_tryCopy (S : (Nat → Nat → Int32)) (a1 : Int32) : Option (Int32 × (Nat → Nat → Int32)) :=
  lt_ (fX0_has S a1) fun x2 =>
  if x2 = 0 then
    some (0, S)
  else
    lt_ (fX0_isFull S) fun x6 =>
    if x6 = 0 then
      bd2 (fX0_makeTwin S a1) fun x10 S11 =>
      some (1, S11)
    else
      some (0, S)
set_option maxHeartbeats 4000000 in
set_option maxRecDepth 20000 in
theorem kX10_tryCopy {l : Launch} {G : UG} {V : uV} {t : Nat} (hS : uSt G t) {S S' : (Nat → Nat → Int32)} {a1 : Int32} {r : Int32} (h : fX10_tryCopy S a1 = some (r, S')) : uMi l G yX10_tryCopy cX10_tryCopy 2 .boolean (uR 3 68) [.ref (ga G t 0), .int a1] (va_up V t S) r (va_up V t S') := by
  refine uMi_of rfl (Nat.le_of_ble_eq_true rfl) (fun p e s m args below meth c ls X hret hl M => ?_)
  have hl : lv_has ls 2 [(0, .ref (ga G t 0)), (1, .int a1)] := hl
  have hx := X.hx
  have hb := X.hb
  unfold fX10_tryCopy at h
  refine lv_aload_n hx hb dX10_tryCopy_0 rfl (lv_at hl 0 rfl) ?_
  refine gf_X10_12 X M hS dX10_tryCopy_1 ?_
  refine lv_iload_n hx hb dX10_tryCopy_4 rfl (lv_at hl 1 rfl) ?_
  obtain ⟨x2, e1, h⟩ := lt_e h
  refine u_cVi X M hl.1 (kX0_has hS (va_up_s V t _) e1.symm) cw_X10_159 ⟨by decide, by decide⟩ (rc_X0 X M hS) rfl rfl (Nat.le_of_ble_eq_true rfl) ⟨Nat.zero_le _, Nat.zero_le _⟩ dX10_tryCopy_5 (fun H locs M n3 => ?_)
  refine lv_if_eq (tgt := 21) hx hb dX10_tryCopy_8 (by decide) (fun c4 => ?_) (fun c4 => ?_)
  · have h := it_t h c4
    refine lv_iconst (v := 0) hx hb dX10_tryCopy_21 (by decide) ?_
    exact u_iret X hret M (rt2 h).1 (congrArg (va_up V t) ((rt2 h).2)) rfl dX10_tryCopy_22
  · have h := it_f h c4
    refine lv_aload_n hx hb dX10_tryCopy_11 rfl (lv_at hl 0 rfl) ?_
    refine gf_X10_12 X M hS dX10_tryCopy_12 ?_
    obtain ⟨x6, e5, h⟩ := lt_e h
    refine u_cVi X M hl.1 (kX0_isFull hS (va_up_s V t _) e5.symm) cw_X10_130 ⟨by decide, by decide⟩ (rc_X0 X M hS) rfl rfl (Nat.le_of_ble_eq_true rfl) ⟨Nat.zero_le _, Nat.zero_le _⟩ dX10_tryCopy_15 (fun H locs M n7 => ?_)
    refine lv_if_eq (tgt := 23) hx hb dX10_tryCopy_18 (by decide) (fun c8 => ?_) (fun c8 => ?_)
    · have h := it_t h c8
      refine lv_aload_n hx hb dX10_tryCopy_23 rfl (lv_at hl 0 rfl) ?_
      refine gf_X10_12 X M hS dX10_tryCopy_24 ?_
      refine lv_iload_n hx hb dX10_tryCopy_27 rfl (lv_at hl 1 rfl) ?_
      obtain ⟨x10, S11, e9, h⟩ := bd2_e h
      refine u_cVi X M hl.1 (kX0_makeTwin hS e9) cw_X10_214 ⟨by decide, by decide⟩ (rc_X0 X M hS) rfl rfl (Nat.le_of_ble_eq_true rfl) ⟨Nat.zero_le _, Nat.zero_le _⟩ dX10_tryCopy_28 (fun H locs M n12 => ?_)
      refine lv_pop hx hb dX10_tryCopy_31 rfl ?_
      refine lv_iconst (v := 1) hx hb dX10_tryCopy_32 (by decide) ?_
      exact u_iret X hret M (rt2 h).1 (congrArg (va_up V t) ((rt2 h).2)) rfl dX10_tryCopy_33
    · have h := it_f h c8
      refine lv_iconst (v := 0) hx hb dX10_tryCopy_21 (by decide) ?_
      exact u_iret X hret M (rt2 h).1 (congrArg (va_up V t) ((rt2 h).2)) rfl dX10_tryCopy_22
def fX10_tryPay (S : (Nat → Nat → Int32)) (a1 : Int32) (a2 : Int32) : Option (Int32 × (Nat → Nat → Int32)) :=
  lt_ (fX5_has S a1) fun x2 =>
  if x2 = 0 then
    some (0, S)
  else
    if a2 < 1 then
      some (0, S)
    else
      if a2 ≤ 99 then
        bd2 (fX5_payIn S a1 a2) fun x8 S9 =>
        some (1, S9)
      else
        some (0, S)
set_option maxHeartbeats 4000000 in
set_option maxRecDepth 20000 in
theorem kX10_tryPay {l : Launch} {G : UG} {V : uV} {t : Nat} (hS : uSt G t) {S S' : (Nat → Nat → Int32)} {a1 : Int32} {a2 : Int32} {r : Int32} (h : fX10_tryPay S a1 a2 = some (r, S')) : uMi l G yX10_tryPay cX10_tryPay 3 .boolean (uR 2 44) [.ref (ga G t 0), .int a1, .int a2] (va_up V t S) r (va_up V t S') := by
  refine uMi_of rfl (Nat.le_of_ble_eq_true rfl) (fun p e s m args below meth c ls X hret hl M => ?_)
  have hl : lv_has ls 3 [(0, .ref (ga G t 0)), (1, .int a1), (2, .int a2)] := hl
  have hx := X.hx
  have hb := X.hb
  unfold fX10_tryPay at h
  refine lv_aload_n hx hb dX10_tryPay_0 rfl (lv_at hl 0 rfl) ?_
  refine gf_X10_21 X M hS dX10_tryPay_1 ?_
  refine lv_iload_n hx hb dX10_tryPay_4 rfl (lv_at hl 1 rfl) ?_
  obtain ⟨x2, e1, h⟩ := lt_e h
  refine u_cVi X M hl.1 (kX5_has hS (va_up_s V t _) e1.symm) cw_X10_217 ⟨by decide, by decide⟩ (rc_X5 X M hS) rfl rfl (Nat.le_of_ble_eq_true rfl) ⟨Nat.zero_le _, Nat.zero_le _⟩ dX10_tryPay_5 (fun H locs M n3 => ?_)
  refine lv_if_eq (tgt := 22) hx hb dX10_tryPay_8 (by decide) (fun c4 => ?_) (fun c4 => ?_)
  · have h := it_t h c4
    refine lv_iconst (v := 0) hx hb dX10_tryPay_22 (by decide) ?_
    exact u_iret X hret M (rt2 h).1 (congrArg (va_up V t) ((rt2 h).2)) rfl dX10_tryPay_23
  · have h := it_f h c4
    refine lv_iload_n hx hb dX10_tryPay_11 rfl (lv_at hl 2 rfl) ?_
    refine lv_iconst (v := 1) hx hb dX10_tryPay_12 (by decide) ?_
    refine lv_icmp_lt (tgt := 22) hx hb dX10_tryPay_13 (by decide) (fun c5 => ?_) (fun c5 => ?_)
    · have h := it_t h c5
      refine lv_iconst (v := 0) hx hb dX10_tryPay_22 (by decide) ?_
      exact u_iret X hret M (rt2 h).1 (congrArg (va_up V t) ((rt2 h).2)) rfl dX10_tryPay_23
    · have h := it_f h c5
      refine lv_iload_n hx hb dX10_tryPay_16 rfl (lv_at hl 2 rfl) ?_
      refine lv_bipush (v := 99) hx hb dX10_tryPay_17 (by decide) ?_
      refine lv_icmp_le (tgt := 24) hx hb dX10_tryPay_19 (by decide) (fun c6 => ?_) (fun c6 => ?_)
      · have h := it_t h c6
        refine lv_aload_n hx hb dX10_tryPay_24 rfl (lv_at hl 0 rfl) ?_
        refine gf_X10_21 X M hS dX10_tryPay_25 ?_
        refine lv_iload_n hx hb dX10_tryPay_28 rfl (lv_at hl 1 rfl) ?_
        refine lv_iload_n hx hb dX10_tryPay_29 rfl (lv_at hl 2 rfl) ?_
        obtain ⟨x8, S9, e7, h⟩ := bd2_e h
        refine u_cVi X M hl.1 (kX5_payIn hS e7) cw_X10_218 ⟨by decide, by decide⟩ (rc_X5 X M hS) rfl rfl (Nat.le_of_ble_eq_true rfl) ⟨Nat.zero_le _, Nat.zero_le _⟩ dX10_tryPay_30 (fun H locs M n10 => ?_)
        refine lv_pop hx hb dX10_tryPay_33 rfl ?_
        refine lv_iconst (v := 1) hx hb dX10_tryPay_34 (by decide) ?_
        exact u_iret X hret M (rt2 h).1 (congrArg (va_up V t) ((rt2 h).2)) rfl dX10_tryPay_35
      · have h := it_f h c6
        refine lv_iconst (v := 0) hx hb dX10_tryPay_22 (by decide) ?_
        exact u_iret X hret M (rt2 h).1 (congrArg (va_up V t) ((rt2 h).2)) rfl dX10_tryPay_23
def fX10_tryPardon (S : (Nat → Nat → Int32)) (a1 : Int32) : Option (Int32 × (Nat → Nat → Int32)) :=
  lt_ (fX5_has S a1) fun x2 =>
  if x2 = 0 then
    some (0, S)
  else
    lt_ (fX5_isMarked S a1) fun x6 =>
    if x6 = 0 then
      some (0, S)
    else
      bd2 (fX5_unmark S a1) fun x10 S11 =>
      some (1, S11)
set_option maxHeartbeats 4000000 in
set_option maxRecDepth 20000 in
theorem kX10_tryPardon {l : Launch} {G : UG} {V : uV} {t : Nat} (hS : uSt G t) {S S' : (Nat → Nat → Int32)} {a1 : Int32} {r : Int32} (h : fX10_tryPardon S a1 = some (r, S')) : uMi l G yX10_tryPardon cX10_tryPardon 2 .boolean (uR 2 43) [.ref (ga G t 0), .int a1] (va_up V t S) r (va_up V t S') := by
  refine uMi_of rfl (Nat.le_of_ble_eq_true rfl) (fun p e s m args below meth c ls X hret hl M => ?_)
  have hl : lv_has ls 2 [(0, .ref (ga G t 0)), (1, .int a1)] := hl
  have hx := X.hx
  have hb := X.hb
  unfold fX10_tryPardon at h
  refine lv_aload_n hx hb dX10_tryPardon_0 rfl (lv_at hl 0 rfl) ?_
  refine gf_X10_21 X M hS dX10_tryPardon_1 ?_
  refine lv_iload_n hx hb dX10_tryPardon_4 rfl (lv_at hl 1 rfl) ?_
  obtain ⟨x2, e1, h⟩ := lt_e h
  refine u_cVi X M hl.1 (kX5_has hS (va_up_s V t _) e1.symm) cw_X10_217 ⟨by decide, by decide⟩ (rc_X5 X M hS) rfl rfl (Nat.le_of_ble_eq_true rfl) ⟨Nat.zero_le _, Nat.zero_le _⟩ dX10_tryPardon_5 (fun H locs M n3 => ?_)
  refine lv_if_eq (tgt := 22) hx hb dX10_tryPardon_8 (by decide) (fun c4 => ?_) (fun c4 => ?_)
  · have h := it_t h c4
    refine lv_iconst (v := 0) hx hb dX10_tryPardon_22 (by decide) ?_
    exact u_iret X hret M (rt2 h).1 (congrArg (va_up V t) ((rt2 h).2)) rfl dX10_tryPardon_23
  · have h := it_f h c4
    refine lv_aload_n hx hb dX10_tryPardon_11 rfl (lv_at hl 0 rfl) ?_
    refine gf_X10_21 X M hS dX10_tryPardon_12 ?_
    refine lv_iload_n hx hb dX10_tryPardon_15 rfl (lv_at hl 1 rfl) ?_
    obtain ⟨x6, e5, h⟩ := lt_e h
    refine u_cVi X M hl.1 (kX5_isMarked hS (va_up_s V t _) e5.symm) cw_X10_221 ⟨by decide, by decide⟩ (rc_X5 X M hS) rfl rfl (Nat.le_of_ble_eq_true rfl) ⟨Nat.zero_le _, Nat.zero_le _⟩ dX10_tryPardon_16 (fun H locs M n7 => ?_)
    refine lv_if_ne (tgt := 24) hx hb dX10_tryPardon_19 (by decide) (fun c8 => ?_) (fun c8 => ?_)
    · have h := it_f h c8
      refine lv_aload_n hx hb dX10_tryPardon_24 rfl (lv_at hl 0 rfl) ?_
      refine gf_X10_21 X M hS dX10_tryPardon_25 ?_
      refine lv_iload_n hx hb dX10_tryPardon_28 rfl (lv_at hl 1 rfl) ?_
      obtain ⟨x10, S11, e9, h⟩ := bd2_e h
      refine u_cVi X M hl.1 (kX5_unmark hS e9) cw_X10_224 ⟨by decide, by decide⟩ (rc_X5 X M hS) rfl rfl (Nat.le_of_ble_eq_true rfl) ⟨Nat.zero_le _, Nat.zero_le _⟩ dX10_tryPardon_29 (fun H locs M n12 => ?_)
      refine lv_pop hx hb dX10_tryPardon_32 rfl ?_
      refine lv_iconst (v := 1) hx hb dX10_tryPardon_33 (by decide) ?_
      exact u_iret X hret M (rt2 h).1 (congrArg (va_up V t) ((rt2 h).2)) rfl dX10_tryPardon_34
    · have h := it_t h c8
      refine lv_iconst (v := 0) hx hb dX10_tryPardon_22 (by decide) ?_
      exact u_iret X hret M (rt2 h).1 (congrArg (va_up V t) ((rt2 h).2)) rfl dX10_tryPardon_23
def fX10_tryDown (S : (Nat → Nat → Int32)) (a1 : Int32) : Option (Int32 × (Nat → Nat → Int32)) :=
  lt_ (fX3_has S a1) fun x2 =>
  if x2 = 0 then
    some (0, S)
  else
    lt_ (fX3_isUp S a1) fun x6 =>
    if x6 = 0 then
      some (0, S)
    else
      bd2 (fX10_takeDown S a1) fun x10 S11 =>
      some (1, S11)
set_option maxHeartbeats 4000000 in
set_option maxRecDepth 20000 in
theorem kX10_tryDown {l : Launch} {G : UG} {V : uV} {t : Nat} (hS : uSt G t) {S S' : (Nat → Nat → Int32)} {a1 : Int32} {r : Int32} (h : fX10_tryDown S a1 = some (r, S')) : uMi l G yX10_tryDown cX10_tryDown 2 .boolean (uR 4 85) [.ref (ga G t 0), .int a1] (va_up V t S) r (va_up V t S') := by
  refine uMi_of rfl (Nat.le_of_ble_eq_true rfl) (fun p e s m args below meth c ls X hret hl M => ?_)
  have hl : lv_has ls 2 [(0, .ref (ga G t 0)), (1, .int a1)] := hl
  have hx := X.hx
  have hb := X.hb
  unfold fX10_tryDown at h
  refine lv_aload_n hx hb dX10_tryDown_0 rfl (lv_at hl 0 rfl) ?_
  refine gf_X10_28 X M hS dX10_tryDown_1 ?_
  refine lv_iload_n hx hb dX10_tryDown_4 rfl (lv_at hl 1 rfl) ?_
  obtain ⟨x2, e1, h⟩ := lt_e h
  refine u_cVi X M hl.1 (kX3_has hS (va_up_s V t _) e1.symm) cw_X10_162 ⟨by decide, by decide⟩ (rc_X3 X M hS) rfl rfl (Nat.le_of_ble_eq_true rfl) ⟨Nat.zero_le _, Nat.zero_le _⟩ dX10_tryDown_5 (fun H locs M n3 => ?_)
  refine lv_if_eq (tgt := 22) hx hb dX10_tryDown_8 (by decide) (fun c4 => ?_) (fun c4 => ?_)
  · have h := it_t h c4
    refine lv_iconst (v := 0) hx hb dX10_tryDown_22 (by decide) ?_
    exact u_iret X hret M (rt2 h).1 (congrArg (va_up V t) ((rt2 h).2)) rfl dX10_tryDown_23
  · have h := it_f h c4
    refine lv_aload_n hx hb dX10_tryDown_11 rfl (lv_at hl 0 rfl) ?_
    refine gf_X10_28 X M hS dX10_tryDown_12 ?_
    refine lv_iload_n hx hb dX10_tryDown_15 rfl (lv_at hl 1 rfl) ?_
    obtain ⟨x6, e5, h⟩ := lt_e h
    refine u_cVi X M hl.1 (kX3_isUp hS (va_up_s V t _) e5.symm) cw_X10_120 ⟨by decide, by decide⟩ (rc_X3 X M hS) rfl rfl (Nat.le_of_ble_eq_true rfl) ⟨Nat.zero_le _, Nat.zero_le _⟩ dX10_tryDown_16 (fun H locs M n7 => ?_)
    refine lv_if_ne (tgt := 24) hx hb dX10_tryDown_19 (by decide) (fun c8 => ?_) (fun c8 => ?_)
    · have h := it_f h c8
      refine lv_aload_n hx hb dX10_tryDown_24 rfl (lv_at hl 0 rfl) ?_
      refine lv_iload_n hx hb dX10_tryDown_25 rfl (lv_at hl 1 rfl) ?_
      obtain ⟨x10, S11, e9, h⟩ := bd2_e h
      refine u_cVi X M hl.1 (kX10_takeDown hS e9) cw_X10_227 ⟨by decide, by decide⟩ (rc_X10 X M hS) rfl rfl (Nat.le_of_ble_eq_true rfl) ⟨Nat.zero_le _, Nat.zero_le _⟩ dX10_tryDown_26 (fun H locs M n12 => ?_)
      refine lv_pop hx hb dX10_tryDown_29 rfl ?_
      refine lv_iconst (v := 1) hx hb dX10_tryDown_30 (by decide) ?_
      exact u_iret X hret M (rt2 h).1 (congrArg (va_up V t) ((rt2 h).2)) rfl dX10_tryDown_31
    · have h := it_t h c8
      refine lv_iconst (v := 0) hx hb dX10_tryDown_22 (by decide) ?_
      exact u_iret X hret M (rt2 h).1 (congrArg (va_up V t) ((rt2 h).2)) rfl dX10_tryDown_23
def fX10_tryUp (S : (Nat → Nat → Int32)) (a1 : Int32) : Option (Int32 × (Nat → Nat → Int32)) :=
  lt_ (fX3_has S a1) fun x2 =>
  if x2 = 0 then
    some (0, S)
  else
    lt_ (fX3_isUp S a1) fun x6 =>
    if x6 = 0 then
      bd2 (fX10_bringUp S a1) fun x10 S11 =>
      some (1, S11)
    else
      some (0, S)
set_option maxHeartbeats 4000000 in
set_option maxRecDepth 20000 in
theorem kX10_tryUp {l : Launch} {G : UG} {V : uV} {t : Nat} (hS : uSt G t) {S S' : (Nat → Nat → Int32)} {a1 : Int32} {r : Int32} (h : fX10_tryUp S a1 = some (r, S')) : uMi l G yX10_tryUp cX10_tryUp 2 .boolean (uR 4 96) [.ref (ga G t 0), .int a1] (va_up V t S) r (va_up V t S') := by
  refine uMi_of rfl (Nat.le_of_ble_eq_true rfl) (fun p e s m args below meth c ls X hret hl M => ?_)
  have hl : lv_has ls 2 [(0, .ref (ga G t 0)), (1, .int a1)] := hl
  have hx := X.hx
  have hb := X.hb
  unfold fX10_tryUp at h
  refine lv_aload_n hx hb dX10_tryUp_0 rfl (lv_at hl 0 rfl) ?_
  refine gf_X10_28 X M hS dX10_tryUp_1 ?_
  refine lv_iload_n hx hb dX10_tryUp_4 rfl (lv_at hl 1 rfl) ?_
  obtain ⟨x2, e1, h⟩ := lt_e h
  refine u_cVi X M hl.1 (kX3_has hS (va_up_s V t _) e1.symm) cw_X10_162 ⟨by decide, by decide⟩ (rc_X3 X M hS) rfl rfl (Nat.le_of_ble_eq_true rfl) ⟨Nat.zero_le _, Nat.zero_le _⟩ dX10_tryUp_5 (fun H locs M n3 => ?_)
  refine lv_if_eq (tgt := 22) hx hb dX10_tryUp_8 (by decide) (fun c4 => ?_) (fun c4 => ?_)
  · have h := it_t h c4
    refine lv_iconst (v := 0) hx hb dX10_tryUp_22 (by decide) ?_
    exact u_iret X hret M (rt2 h).1 (congrArg (va_up V t) ((rt2 h).2)) rfl dX10_tryUp_23
  · have h := it_f h c4
    refine lv_aload_n hx hb dX10_tryUp_11 rfl (lv_at hl 0 rfl) ?_
    refine gf_X10_28 X M hS dX10_tryUp_12 ?_
    refine lv_iload_n hx hb dX10_tryUp_15 rfl (lv_at hl 1 rfl) ?_
    obtain ⟨x6, e5, h⟩ := lt_e h
    refine u_cVi X M hl.1 (kX3_isUp hS (va_up_s V t _) e5.symm) cw_X10_120 ⟨by decide, by decide⟩ (rc_X3 X M hS) rfl rfl (Nat.le_of_ble_eq_true rfl) ⟨Nat.zero_le _, Nat.zero_le _⟩ dX10_tryUp_16 (fun H locs M n7 => ?_)
    refine lv_if_eq (tgt := 24) hx hb dX10_tryUp_19 (by decide) (fun c8 => ?_) (fun c8 => ?_)
    · have h := it_t h c8
      refine lv_aload_n hx hb dX10_tryUp_24 rfl (lv_at hl 0 rfl) ?_
      refine lv_iload_n hx hb dX10_tryUp_25 rfl (lv_at hl 1 rfl) ?_
      obtain ⟨x10, S11, e9, h⟩ := bd2_e h
      refine u_cVi X M hl.1 (kX10_bringUp hS e9) cw_X10_230 ⟨by decide, by decide⟩ (rc_X10 X M hS) rfl rfl (Nat.le_of_ble_eq_true rfl) ⟨Nat.zero_le _, Nat.zero_le _⟩ dX10_tryUp_26 (fun H locs M n12 => ?_)
      refine lv_pop hx hb dX10_tryUp_29 rfl ?_
      refine lv_iconst (v := 1) hx hb dX10_tryUp_30 (by decide) ?_
      exact u_iret X hret M (rt2 h).1 (congrArg (va_up V t) ((rt2 h).2)) rfl dX10_tryUp_31
    · have h := it_f h c8
      refine lv_iconst (v := 0) hx hb dX10_tryUp_22 (by decide) ?_
      exact u_iret X hret M (rt2 h).1 (congrArg (va_up V t) ((rt2 h).2)) rfl dX10_tryUp_23
def fX10_tryOpen (S : (Nat → Nat → Int32)) (a1 : Int32) : Option (Int32 × (Nat → Nat → Int32)) :=
  lt_ (fX3_has S a1) fun x2 =>
  if x2 = 0 then
    some (0, S)
  else
    bd2 (fX3_turnOpen S a1) fun x6 S7 =>
    some (1, S7)
set_option maxHeartbeats 4000000 in
set_option maxRecDepth 20000 in
theorem kX10_tryOpen {l : Launch} {G : UG} {V : uV} {t : Nat} (hS : uSt G t) {S S' : (Nat → Nat → Int32)} {a1 : Int32} {r : Int32} (h : fX10_tryOpen S a1 = some (r, S')) : uMi l G yX10_tryOpen cX10_tryOpen 2 .boolean (uR 3 63) [.ref (ga G t 0), .int a1] (va_up V t S) r (va_up V t S') := by
  refine uMi_of rfl (Nat.le_of_ble_eq_true rfl) (fun p e s m args below meth c ls X hret hl M => ?_)
  have hl : lv_has ls 2 [(0, .ref (ga G t 0)), (1, .int a1)] := hl
  have hx := X.hx
  have hb := X.hb
  unfold fX10_tryOpen at h
  refine lv_aload_n hx hb dX10_tryOpen_0 rfl (lv_at hl 0 rfl) ?_
  refine gf_X10_28 X M hS dX10_tryOpen_1 ?_
  refine lv_iload_n hx hb dX10_tryOpen_4 rfl (lv_at hl 1 rfl) ?_
  obtain ⟨x2, e1, h⟩ := lt_e h
  refine u_cVi X M hl.1 (kX3_has hS (va_up_s V t _) e1.symm) cw_X10_162 ⟨by decide, by decide⟩ (rc_X3 X M hS) rfl rfl (Nat.le_of_ble_eq_true rfl) ⟨Nat.zero_le _, Nat.zero_le _⟩ dX10_tryOpen_5 (fun H locs M n3 => ?_)
  refine lv_if_ne (tgt := 13) hx hb dX10_tryOpen_8 (by decide) (fun c4 => ?_) (fun c4 => ?_)
  · have h := it_f h c4
    refine lv_aload_n hx hb dX10_tryOpen_13 rfl (lv_at hl 0 rfl) ?_
    refine gf_X10_28 X M hS dX10_tryOpen_14 ?_
    refine lv_iload_n hx hb dX10_tryOpen_17 rfl (lv_at hl 1 rfl) ?_
    obtain ⟨x6, S7, e5, h⟩ := bd2_e h
    refine u_cVi X M hl.1 (kX3_turnOpen hS e5) cw_X10_233 ⟨by decide, by decide⟩ (rc_X3 X M hS) rfl rfl (Nat.le_of_ble_eq_true rfl) ⟨Nat.zero_le _, Nat.zero_le _⟩ dX10_tryOpen_18 (fun H locs M n8 => ?_)
    refine lv_pop hx hb dX10_tryOpen_21 rfl ?_
    refine lv_iconst (v := 1) hx hb dX10_tryOpen_22 (by decide) ?_
    exact u_iret X hret M (rt2 h).1 (congrArg (va_up V t) ((rt2 h).2)) rfl dX10_tryOpen_23
  · have h := it_t h c4
    refine lv_iconst (v := 0) hx hb dX10_tryOpen_11 (by decide) ?_
    exact u_iret X hret M (rt2 h).1 (congrArg (va_up V t) ((rt2 h).2)) rfl dX10_tryOpen_12
def fX10_tryRun (S : (Nat → Nat → Int32)) (a1 : Int32) : Option (Int32 × (Nat → Nat → Int32)) :=
  if a1 < 1 then
    some (0, S)
  else
    if a1 ≤ 60 then
      lt_ (S 0 4) fun x3 =>
      lt_ (va_up S 0 (upd (S 0) 4 (x3 + a1))) fun S5 =>
      some (1, S5)
    else
      some (0, S)
set_option maxHeartbeats 4000000 in
set_option maxRecDepth 20000 in
theorem kX10_tryRun {l : Launch} {G : UG} {V : uV} {t : Nat} (hS : uSt G t) {S S' : (Nat → Nat → Int32)} {a1 : Int32} {r : Int32} (h : fX10_tryRun S a1 = some (r, S')) : uMi l G yX10_tryRun cX10_tryRun 2 .boolean (uR 0 0) [.ref (ga G t 0), .int a1] (va_up V t S) r (va_up V t S') := by
  refine uMi_of rfl (Nat.le_of_ble_eq_true rfl) (fun p e s m args below meth c ls X hret hl M => ?_)
  have hl : lv_has ls 2 [(0, .ref (ga G t 0)), (1, .int a1)] := hl
  have hx := X.hx
  have hb := X.hb
  unfold fX10_tryRun at h
  refine lv_iload_n hx hb dX10_tryRun_0 rfl (lv_at hl 1 rfl) ?_
  refine lv_iconst (v := 1) hx hb dX10_tryRun_1 (by decide) ?_
  refine lv_icmp_lt (tgt := 11) hx hb dX10_tryRun_2 (by decide) (fun c1 => ?_) (fun c1 => ?_)
  · have h := it_t h c1
    refine lv_iconst (v := 0) hx hb dX10_tryRun_11 (by decide) ?_
    exact u_iret X hret M (rt2 h).1 (congrArg (va_up V t) ((rt2 h).2)) rfl dX10_tryRun_12
  · have h := it_f h c1
    refine lv_iload_n hx hb dX10_tryRun_5 rfl (lv_at hl 1 rfl) ?_
    refine lv_bipush (v := 60) hx hb dX10_tryRun_6 (by decide) ?_
    refine lv_icmp_le (tgt := 13) hx hb dX10_tryRun_8 (by decide) (fun c2 => ?_) (fun c2 => ?_)
    · have h := it_t h c2
      refine lv_aload_n hx hb dX10_tryRun_13 rfl (lv_at hl 0 rfl) ?_
      refine lv_dup hx hb dX10_tryRun_14 rfl ?_
      obtain ⟨x3, e4, h⟩ := lt_e h
      refine gf_X10_51 X M hS (va_up_s V t _) e4 dX10_tryRun_15 ?_
      refine lv_iload_n hx hb dX10_tryRun_18 rfl (lv_at hl 1 rfl) ?_
      refine lv_iadd hx hb dX10_tryRun_19 ?_
      obtain ⟨S5, e6, h⟩ := lt_e h
      refine pf_X10_51 X M hS e6 dX10_tryRun_20 (fun H locs M => ?_)
      refine lv_iconst (v := 1) hx hb dX10_tryRun_23 (by decide) ?_
      exact u_iret X hret M (rt2 h).1 (congrArg (va_up V t) ((rt2 h).2)) rfl dX10_tryRun_24
    · have h := it_f h c2
      refine lv_iconst (v := 0) hx hb dX10_tryRun_11 (by decide) ?_
      exact u_iret X hret M (rt2 h).1 (congrArg (va_up V t) ((rt2 h).2)) rfl dX10_tryRun_12
