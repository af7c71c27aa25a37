theorem dX10_mostOfSetting_0 : decode cX10_mostOfSetting 0 = .ok (.iload_n 0, 1) := by decide +kernel
theorem dX10_mostOfSetting_1 : decode cX10_mostOfSetting 1 = .ok (.tableswitch 35 0 2 #[27, 30, 33], 27) := by decide +kernel
theorem dX10_mostOfSetting_28 : decode cX10_mostOfSetting 28 = .ok (.bipush 50, 2) := by decide +kernel
theorem dX10_mostOfSetting_30 : decode cX10_mostOfSetting 30 = .ok (.ireturn, 1) := by decide +kernel
theorem dX10_mostOfSetting_31 : decode cX10_mostOfSetting 31 = .ok (.bipush 30, 2) := by decide +kernel
theorem dX10_mostOfSetting_33 : decode cX10_mostOfSetting 33 = .ok (.ireturn, 1) := by decide +kernel
theorem dX10_mostOfSetting_34 : decode cX10_mostOfSetting 34 = .ok (.iconst 1, 1) := by decide +kernel
theorem dX10_mostOfSetting_35 : decode cX10_mostOfSetting 35 = .ok (.ireturn, 1) := by decide +kernel
theorem dX10_mostOfSetting_36 : decode cX10_mostOfSetting 36 = .ok (.bipush 99, 2) := by decide +kernel
theorem dX10_mostOfSetting_38 : decode cX10_mostOfSetting 38 = .ok (.ireturn, 1) := by decide +kernel
theorem dX10_letsThrough_0 : decode cX10_letsThrough 0 = .ok (.iload_n 0, 1) := by decide +kernel
theorem dX10_letsThrough_1 : decode cX10_letsThrough 1 = .ok (.ifCond .lt 8, 3) := by decide +kernel
theorem dX10_letsThrough_4 : decode cX10_letsThrough 4 = .ok (.iload_n 0, 1) := by decide +kernel
theorem dX10_letsThrough_5 : decode cX10_letsThrough 5 = .ok (.iconst 2, 1) := by decide +kernel
theorem dX10_letsThrough_6 : decode cX10_letsThrough 6 = .ok (.if_icmp .le 9, 3) := by decide +kernel
theorem dX10_letsThrough_9 : decode cX10_letsThrough 9 = .ok (.iload_n 0, 1) := by decide +kernel
theorem dX10_letsThrough_10 : decode cX10_letsThrough 10 = .ok (.bipush 7, 2) := by decide +kernel
theorem dX10_letsThrough_12 : decode cX10_letsThrough 12 = .ok (.if_icmp .ne 7, 3) := by decide +kernel
theorem dX10_letsThrough_15 : decode cX10_letsThrough 15 = .ok (.iconst 1, 1) := by decide +kernel
theorem dX10_letsThrough_16 : decode cX10_letsThrough 16 = .ok (.goto 4, 3) := by decide +kernel
theorem dX10_letsThrough_19 : decode cX10_letsThrough 19 = .ok (.iconst 0, 1) := by decide +kernel
theorem dX10_letsThrough_20 : decode cX10_letsThrough 20 = .ok (.ireturn, 1) := by decide +kernel
theorem dX10_total_0 : decode cX10_total 0 = .ok (.iload_n 1, 1) := by decide +kernel
theorem dX10_total_1 : decode cX10_total 1 = .ok (.tableswitch 119 0 9 #[55, 63, 71, 76, 81, 86, 91, 100, 109, 114], 55) := by decide +kernel
theorem dX10_total_56 : decode cX10_total 56 = .ok (.aload_n 0, 1) := by decide +kernel
theorem dX10_total_57 : decode cX10_total 57 = .ok (.getfield 12, 3) := by decide +kernel
theorem dX10_total_60 : decode cX10_total 60 = .ok (.getfield 83, 3) := by decide +kernel
theorem dX10_total_63 : decode cX10_total 63 = .ok (.ireturn, 1) := by decide +kernel
theorem dX10_total_64 : decode cX10_total 64 = .ok (.aload_n 0, 1) := by decide +kernel
theorem dX10_total_65 : decode cX10_total 65 = .ok (.getfield 21, 3) := by decide +kernel
theorem dX10_total_68 : decode cX10_total 68 = .ok (.getfield 86, 3) := by decide +kernel
theorem dX10_total_71 : decode cX10_total 71 = .ok (.ireturn, 1) := by decide +kernel
theorem dX10_total_72 : decode cX10_total 72 = .ok (.aload_n 0, 1) := by decide +kernel
theorem dX10_total_73 : decode cX10_total 73 = .ok (.getfield 51, 3) := by decide +kernel
theorem dX10_total_76 : decode cX10_total 76 = .ok (.ireturn, 1) := by decide +kernel
theorem dX10_total_77 : decode cX10_total 77 = .ok (.aload_n 0, 1) := by decide +kernel
theorem dX10_total_78 : decode cX10_total 78 = .ok (.getfield 55, 3) := by decide +kernel
theorem dX10_total_81 : decode cX10_total 81 = .ok (.ireturn, 1) := by decide +kernel
theorem dX10_total_82 : decode cX10_total 82 = .ok (.aload_n 0, 1) := by decide +kernel
theorem dX10_total_83 : decode cX10_total 83 = .ok (.getfield 58, 3) := by decide +kernel
theorem dX10_total_86 : decode cX10_total 86 = .ok (.ireturn, 1) := by decide +kernel
theorem dX10_total_87 : decode cX10_total 87 = .ok (.aload_n 0, 1) := by decide +kernel
theorem dX10_total_88 : decode cX10_total 88 = .ok (.getfield 61, 3) := by decide +kernel
theorem dX10_total_91 : decode cX10_total 91 = .ok (.ireturn, 1) := by decide +kernel
theorem dX10_total_92 : decode cX10_total 92 = .ok (.aload_n 0, 1) := by decide +kernel
theorem dX10_total_93 : decode cX10_total 93 = .ok (.getfield 28, 3) := by decide +kernel
theorem dX10_total_96 : decode cX10_total 96 = .ok (.iconst (-1), 1) := by decide +kernel
theorem dX10_total_97 : decode cX10_total 97 = .ok (.invokevirtual 87, 3) := by decide +kernel
theorem dX10_total_100 : decode cX10_total 100 = .ok (.ireturn, 1) := by decide +kernel
theorem dX10_total_101 : decode cX10_total 101 = .ok (.aload_n 0, 1) := by decide +kernel
theorem dX10_total_102 : decode cX10_total 102 = .ok (.getfield 28, 3) := by decide +kernel
theorem dX10_total_105 : decode cX10_total 105 = .ok (.iconst (-1), 1) := by decide +kernel
theorem dX10_total_106 : decode cX10_total 106 = .ok (.invokevirtual 91, 3) := by decide +kernel
theorem dX10_total_109 : decode cX10_total 109 = .ok (.ireturn, 1) := by decide +kernel
theorem dX10_total_110 : decode cX10_total 110 = .ok (.aload_n 0, 1) := by decide +kernel
theorem dX10_total_111 : decode cX10_total 111 = .ok (.getfield 64, 3) := by decide +kernel
theorem dX10_total_114 : decode cX10_total 114 = .ok (.ireturn, 1) := by decide +kernel
theorem dX10_total_115 : decode cX10_total 115 = .ok (.aload_n 0, 1) := by decide +kernel
theorem dX10_total_116 : decode cX10_total 116 = .ok (.getfield 67, 3) := by decide +kernel
theorem dX10_total_119 : decode cX10_total 119 = .ok (.ireturn, 1) := by decide +kernel
theorem dX10_total_120 : decode cX10_total 120 = .ok (.aload_n 0, 1) := by decide +kernel
theorem dX10_total_121 : decode cX10_total 121 = .ok (.getfield 21, 3) := by decide +kernel
theorem dX10_total_124 : decode cX10_total 124 = .ok (.invokevirtual 94, 3) := by decide +kernel
theorem dX10_total_127 : decode cX10_total 127 = .ok (.ireturn, 1) := by decide +kernel
theorem dX10_accountNumber_0 : decode cX10_accountNumber 0 = .ok (.iload_n 2, 1) := by decide +kernel
theorem dX10_accountNumber_1 : decode cX10_accountNumber 1 = .ok (.tableswitch 126 0 6 #[43, 55, 67, 79, 91, 108, 117], 43) := by decide +kernel
theorem dX10_accountNumber_44 : decode cX10_accountNumber 44 = .ok (.aload_n 0, 1) := by decide +kernel
theorem dX10_accountNumber_45 : decode cX10_accountNumber 45 = .ok (.getfield 21, 3) := by decide +kernel
theorem dX10_accountNumber_48 : decode cX10_accountNumber 48 = .ok (.getfield 98, 3) := by decide +kernel
theorem dX10_accountNumber_51 : decode cX10_accountNumber 51 = .ok (.iload_n 1, 1) := by decide +kernel
theorem dX10_accountNumber_52 : decode cX10_accountNumber 52 = .ok (.invokevirtual 101, 3) := by decide +kernel
theorem dX10_accountNumber_55 : decode cX10_accountNumber 55 = .ok (.ireturn, 1) := by decide +kernel
theorem dX10_accountNumber_56 : decode cX10_accountNumber 56 = .ok (.aload_n 0, 1) := by decide +kernel
theorem dX10_accountNumber_57 : decode cX10_accountNumber 57 = .ok (.getfield 21, 3) := by decide +kernel
theorem dX10_accountNumber_60 : decode cX10_accountNumber 60 = .ok (.getfield 104, 3) := by decide +kernel
theorem dX10_accountNumber_63 : decode cX10_accountNumber 63 = .ok (.iload_n 1, 1) := by decide +kernel
theorem dX10_accountNumber_64 : decode cX10_accountNumber 64 = .ok (.invokevirtual 101, 3) := by decide +kernel
theorem dX10_accountNumber_67 : decode cX10_accountNumber 67 = .ok (.ireturn, 1) := by decide +kernel
theorem dX10_accountNumber_68 : decode cX10_accountNumber 68 = .ok (.aload_n 0, 1) := by decide +kernel
theorem dX10_accountNumber_69 : decode cX10_accountNumber 69 = .ok (.getfield 21, 3) := by decide +kernel
theorem dX10_accountNumber_72 : decode cX10_accountNumber 72 = .ok (.getfield 107, 3) := by decide +kernel
theorem dX10_accountNumber_75 : decode cX10_accountNumber 75 = .ok (.iload_n 1, 1) := by decide +kernel
theorem dX10_accountNumber_76 : decode cX10_accountNumber 76 = .ok (.invokevirtual 101, 3) := by decide +kernel
theorem dX10_accountNumber_79 : decode cX10_accountNumber 79 = .ok (.ireturn, 1) := by decide +kernel
theorem dX10_accountNumber_80 : decode cX10_accountNumber 80 = .ok (.aload_n 0, 1) := by decide +kernel
theorem dX10_accountNumber_81 : decode cX10_accountNumber 81 = .ok (.getfield 21, 3) := by decide +kernel
theorem dX10_accountNumber_84 : decode cX10_accountNumber 84 = .ok (.getfield 110, 3) := by decide +kernel
theorem dX10_accountNumber_87 : decode cX10_accountNumber 87 = .ok (.iload_n 1, 1) := by decide +kernel
theorem dX10_accountNumber_88 : decode cX10_accountNumber 88 = .ok (.invokevirtual 101, 3) := by decide +kernel
theorem dX10_accountNumber_91 : decode cX10_accountNumber 91 = .ok (.ireturn, 1) := by decide +kernel
theorem dX10_accountNumber_92 : decode cX10_accountNumber 92 = .ok (.aload_n 0, 1) := by decide +kernel
theorem dX10_accountNumber_93 : decode cX10_accountNumber 93 = .ok (.getfield 21, 3) := by decide +kernel
theorem dX10_accountNumber_96 : decode cX10_accountNumber 96 = .ok (.iload_n 1, 1) := by decide +kernel
theorem dX10_accountNumber_97 : decode cX10_accountNumber 97 = .ok (.invokevirtual 113, 3) := by decide +kernel
theorem dX10_accountNumber_100 : decode cX10_accountNumber 100 = .ok (.ifCond .eq 7, 3) := by decide +kernel
theorem dX10_accountNumber_103 : decode cX10_accountNumber 103 = .ok (.iconst 1, 1) := by decide +kernel
theorem dX10_accountNumber_104 : decode cX10_accountNumber 104 = .ok (.goto 4, 3) := by decide +kernel
theorem dX10_accountNumber_107 : decode cX10_accountNumber 107 = .ok (.iconst 0, 1) := by decide +kernel
theorem dX10_accountNumber_108 : decode cX10_accountNumber 108 = .ok (.ireturn, 1) := by decide +kernel
theorem dX10_accountNumber_109 : decode cX10_accountNumber 109 = .ok (.aload_n 0, 1) := by decide +kernel
theorem dX10_accountNumber_110 : decode cX10_accountNumber 110 = .ok (.getfield 12, 3) := by decide +kernel
theorem dX10_accountNumber_113 : decode cX10_accountNumber 113 = .ok (.iload_n 1, 1) := by decide +kernel
theorem dX10_accountNumber_114 : decode cX10_accountNumber 114 = .ok (.invokevirtual 117, 3) := by decide +kernel
theorem dX10_accountNumber_117 : decode cX10_accountNumber 117 = .ok (.ireturn, 1) := by decide +kernel
theorem dX10_accountNumber_118 : decode cX10_accountNumber 118 = .ok (.aload_n 0, 1) := by decide +kernel
theorem dX10_accountNumber_119 : decode cX10_accountNumber 119 = .ok (.getfield 28, 3) := by decide +kernel
theorem dX10_accountNumber_122 : decode cX10_accountNumber 122 = .ok (.iload_n 1, 1) := by decide +kernel
theorem dX10_accountNumber_123 : decode cX10_accountNumber 123 = .ok (.invokevirtual 87, 3) := by decide +kernel
theorem dX10_accountNumber_126 : decode cX10_accountNumber 126 = .ok (.ireturn, 1) := by decide +kernel
theorem dX10_accountNumber_127 : decode cX10_accountNumber 127 = .ok (.aload_n 0, 1) := by decide +kernel
theorem dX10_accountNumber_128 : decode cX10_accountNumber 128 = .ok (.getfield 28, 3) := by decide +kernel
theorem dX10_accountNumber_131 : decode cX10_accountNumber 131 = .ok (.iload_n 1, 1) := by decide +kernel
theorem dX10_accountNumber_132 : decode cX10_accountNumber 132 = .ok (.invokevirtual 91, 3) := by decide +kernel
theorem dX10_accountNumber_135 : decode cX10_accountNumber 135 = .ok (.ireturn, 1) := by decide +kernel
theorem dX10_listAt_0 : decode cX10_listAt 0 = .ok (.aload_n 0, 1) := by decide +kernel
theorem dX10_listAt_1 : decode cX10_listAt 1 = .ok (.getfield 28, 3) := by decide +kernel
theorem dX10_listAt_4 : decode cX10_listAt 4 = .ok (.iload_n 1, 1) := by decide +kernel
theorem dX10_listAt_5 : decode cX10_listAt 5 = .ok (.invokevirtual 120, 3) := by decide +kernel
theorem dX10_listAt_8 : decode cX10_listAt 8 = .ok (.ifCond .eq 13, 3) := by decide +kernel
theorem dX10_listAt_11 : decode cX10_listAt 11 = .ok (.aload_n 0, 1) := by decide +kernel
theorem dX10_listAt_12 : decode cX10_listAt 12 = .ok (.getfield 21, 3) := by decide +kernel
theorem dX10_listAt_15 : decode cX10_listAt 15 = .ok (.invokevirtual 94, 3) := by decide +kernel
theorem dX10_listAt_18 : decode cX10_listAt 18 = .ok (.goto 14, 3) := by decide +kernel
theorem dX10_listAt_21 : decode cX10_listAt 21 = .ok (.aload_n 0, 1) := by decide +kernel
theorem dX10_listAt_22 : decode cX10_listAt 22 = .ok (.getfield 28, 3) := by decide +kernel
theorem dX10_listAt_25 : decode cX10_listAt 25 = .ok (.getfield 123, 3) := by decide +kernel
theorem dX10_listAt_28 : decode cX10_listAt 28 = .ok (.iload_n 1, 1) := by decide +kernel
theorem dX10_listAt_29 : decode cX10_listAt 29 = .ok (.invokevirtual 101, 3) := by decide +kernel
theorem dX10_listAt_32 : decode cX10_listAt 32 = .ok (.ireturn, 1) := by decide +kernel
theorem dX10_hasRoomForAccount_0 : decode cX10_hasRoomForAccount 0 = .ok (.aload_n 0, 1) := by decide +kernel
theorem dX10_hasRoomForAccount_1 : decode cX10_hasRoomForAccount 1 = .ok (.getfield 21, 3) := by decide +kernel
theorem dX10_hasRoomForAccount_4 : decode cX10_hasRoomForAccount 4 = .ok (.invokevirtual 126, 3) := by decide +kernel
theorem dX10_hasRoomForAccount_7 : decode cX10_hasRoomForAccount 7 = .ok (.ifCond .ne 17, 3) := by decide +kernel
theorem dX10_hasRoomForAccount_10 : decode cX10_hasRoomForAccount 10 = .ok (.aload_n 0, 1) := by decide +kernel
theorem dX10_hasRoomForAccount_11 : decode cX10_hasRoomForAccount 11 = .ok (.getfield 12, 3) := by decide +kernel
theorem dX10_hasRoomForAccount_14 : decode cX10_hasRoomForAccount 14 = .ok (.invokevirtual 130, 3) := by decide +kernel
theorem dX10_hasRoomForAccount_17 : decode cX10_hasRoomForAccount 17 = .ok (.ifCond .ne 7, 3) := by decide +kernel
theorem dX10_hasRoomForAccount_20 : decode cX10_hasRoomForAccount 20 = .ok (.iconst 1, 1) := by decide +kernel
theorem dX10_hasRoomForAccount_21 : decode cX10_hasRoomForAccount 21 = .ok (.goto 4, 3) := by decide +kernel
theorem dX10_hasRoomForAccount_24 : decode cX10_hasRoomForAccount 24 = .ok (.iconst 0, 1) := by decide +kernel
theorem dX10_hasRoomForAccount_25 : decode cX10_hasRoomForAccount 25 = .ok (.ireturn, 1) := by decide +kernel
theorem dX10_makeAccount_0 : decode cX10_makeAccount 0 = .ok (.aload_n 0, 1) := by decide +kernel
theorem dX10_makeAccount_1 : decode cX10_makeAccount 1 = .ok (.getfield 12, 3) := by decide +kernel
theorem dX10_makeAccount_4 : decode cX10_makeAccount 4 = .ok (.aload_n 0, 1) := by decide +kernel
theorem dX10_makeAccount_5 : decode cX10_makeAccount 5 = .ok (.getfield 21, 3) := by decide +kernel
theorem dX10_makeAccount_8 : decode cX10_makeAccount 8 = .ok (.iload_n 1, 1) := by decide +kernel
theorem dX10_makeAccount_9 : decode cX10_makeAccount 9 = .ok (.invokevirtual 131, 3) := by decide +kernel
theorem dX10_makeAccount_12 : decode cX10_makeAccount 12 = .ok (.iload_n 1, 1) := by decide +kernel
theorem dX10_makeAccount_13 : decode cX10_makeAccount 13 = .ok (.iconst 0, 1) := by decide +kernel
theorem dX10_makeAccount_14 : decode cX10_makeAccount 14 = .ok (.iconst (-1), 1) := by decide +kernel
theorem dX10_makeAccount_15 : decode cX10_makeAccount 15 = .ok (.invokevirtual 134, 3) := by decide +kernel
theorem dX10_makeAccount_18 : decode cX10_makeAccount 18 = .ok (.ireturn, 1) := by decide +kernel
theorem dX10_takeDown_0 : decode cX10_takeDown 0 = .ok (.aload_n 0, 1) := by decide +kernel
theorem dX10_takeDown_1 : decode cX10_takeDown 1 = .ok (.getfield 28, 3) := by decide +kernel
theorem dX10_takeDown_4 : decode cX10_takeDown 4 = .ok (.getfield 123, 3) := by decide +kernel
theorem dX10_takeDown_7 : decode cX10_takeDown 7 = .ok (.iload_n 1, 1) := by decide +kernel
theorem dX10_takeDown_8 : decode cX10_takeDown 8 = .ok (.aload_n 0, 1) := by decide +kernel
theorem dX10_takeDown_9 : decode cX10_takeDown 9 = .ok (.getfield 21, 3) := by decide +kernel
theorem dX10_takeDown_12 : decode cX10_takeDown 12 = .ok (.invokevirtual 94, 3) := by decide +kernel
theorem dX10_takeDown_15 : decode cX10_takeDown 15 = .ok (.invokevirtual 47, 3) := by decide +kernel
theorem dX10_takeDown_18 : decode cX10_takeDown 18 = .ok (.aload_n 0, 1) := by decide +kernel
theorem dX10_takeDown_19 : decode cX10_takeDown 19 = .ok (.getfield 28, 3) := by decide +kernel
theorem dX10_takeDown_22 : decode cX10_takeDown 22 = .ok (.iload_n 1, 1) := by decide +kernel
theorem dX10_takeDown_23 : decode cX10_takeDown 23 = .ok (.iconst 0, 1) := by decide +kernel
theorem dX10_takeDown_24 : decode cX10_takeDown 24 = .ok (.invokevirtual 137, 3) := by decide +kernel
theorem dX10_takeDown_27 : decode cX10_takeDown 27 = .ok (.aload_n 0, 1) := by decide +kernel
theorem dX10_takeDown_28 : decode cX10_takeDown 28 = .ok (.getfield 28, 3) := by decide +kernel
theorem dX10_takeDown_31 : decode cX10_takeDown 31 = .ok (.getfield 123, 3) := by decide +kernel
theorem dX10_takeDown_34 : decode cX10_takeDown 34 = .ok (.iload_n 1, 1) := by decide +kernel
theorem dX10_takeDown_35 : decode cX10_takeDown 35 = .ok (.invokevirtual 101, 3) := by decide +kernel
theorem dX10_takeDown_38 : decode cX10_takeDown 38 = .ok (.ireturn, 1) := by decide +kernel
theorem dX10_settle_0 : decode cX10_settle 0 = .ok (.aload_n 0, 1) := by decide +kernel
theorem dX10_settle_1 : decode cX10_settle 1 = .ok (.getfield 21, 3) := by decide +kernel
theorem dX10_settle_4 : decode cX10_settle 4 = .ok (.iload_n 1, 1) := by decide +kernel
theorem dX10_settle_5 : decode cX10_settle 5 = .ok (.iload_n 2, 1) := by decide +kernel
theorem dX10_settle_6 : decode cX10_settle 6 = .ok (.iload_n 3, 1) := by decide +kernel
theorem dX10_settle_7 : decode cX10_settle 7 = .ok (.aload_n 0, 1) := by decide +kernel
theorem dX10_settle_8 : decode cX10_settle 8 = .ok (.getfield 37, 3) := by decide +kernel
theorem dX10_settle_11 : decode cX10_settle 11 = .ok (.iconst 3, 1) := by decide +kernel
theorem dX10_settle_12 : decode cX10_settle 12 = .ok (.invokevirtual 101, 3) := by decide +kernel
theorem dX10_settle_15 : decode cX10_settle 15 = .ok (.invokevirtual 155, 3) := by decide +kernel
theorem dX10_settle_18 : decode cX10_settle 18 = .ok (.ifCond .eq 26, 3) := by decide +kernel
theorem dX10_settle_21 : decode cX10_settle 21 = .ok (.aload_n 0, 1) := by decide +kernel
theorem dX10_settle_22 : decode cX10_settle 22 = .ok (.dup, 1) := by decide +kernel
theorem dX10_settle_23 : decode cX10_settle 23 = .ok (.getfield 55, 3) := by decide +kernel
theorem dX10_settle_26 : decode cX10_settle 26 = .ok (.iconst 1, 1) := by decide +kernel
theorem dX10_settle_27 : decode cX10_settle 27 = .ok (.iadd, 1) := by decide +kernel
theorem dX10_settle_28 : decode cX10_settle 28 = .ok (.putfield 55, 3) := by decide +kernel
theorem dX10_settle_31 : decode cX10_settle 31 = .ok (.aload_n 0, 1) := by decide +kernel
theorem dX10_settle_32 : decode cX10_settle 32 = .ok (.dup, 1) := by decide +kernel
theorem dX10_settle_33 : decode cX10_settle 33 = .ok (.getfield 58, 3) := by decide +kernel
theorem dX10_settle_36 : decode cX10_settle 36 = .ok (.iload_n 3, 1) := by decide +kernel
theorem dX10_settle_37 : decode cX10_settle 37 = .ok (.iadd, 1) := by decide +kernel
theorem dX10_settle_38 : decode cX10_settle 38 = .ok (.putfield 58, 3) := by decide +kernel
theorem dX10_settle_41 : decode cX10_settle 41 = .ok (.goto 13, 3) := by decide +kernel
theorem dX10_settle_44 : decode cX10_settle 44 = .ok (.aload_n 0, 1) := by decide +kernel
theorem dX10_settle_45 : decode cX10_settle 45 = .ok (.dup, 1) := by decide +kernel
theorem dX10_settle_46 : decode cX10_settle 46 = .ok (.getfield 61, 3) := by decide +kernel
theorem dX10_settle_49 : decode cX10_settle 49 = .ok (.iconst 1, 1) := by decide +kernel
theorem dX10_settle_50 : decode cX10_settle 50 = .ok (.iadd, 1) := by decide +kernel
theorem dX10_settle_51 : decode cX10_settle 51 = .ok (.putfield 61, 3) := by decide +kernel
theorem dX10_settle_54 : decode cX10_settle 54 = .ok (.return_, 1) := by decide +kernel
theorem dX10_bringUp_0 : decode cX10_bringUp 0 = .ok (.aload_n 0, 1) := by decide +kernel
theorem dX10_bringUp_1 : decode cX10_bringUp 1 = .ok (.getfield 61, 3) := by decide +kernel
theorem dX10_bringUp_4 : decode cX10_bringUp 4 = .ok (.istore_n 2, 1) := by decide +kernel
theorem dX10_bringUp_5 : decode cX10_bringUp 5 = .ok (.aload_n 0, 1) := by decide +kernel
theorem dX10_bringUp_6 : decode cX10_bringUp 6 = .ok (.getfield 28, 3) := by decide +kernel
theorem dX10_bringUp_9 : decode cX10_bringUp 9 = .ok (.iload_n 1, 1) := by decide +kernel
theorem dX10_bringUp_10 : decode cX10_bringUp 10 = .ok (.invokevirtual 141, 3) := by decide +kernel
theorem dX10_bringUp_13 : decode cX10_bringUp 13 = .ok (.istore_n 3, 1) := by decide +kernel
theorem dX10_bringUp_14 : decode cX10_bringUp 14 = .ok (.iconst 0, 1) := by decide +kernel
theorem dX10_bringUp_15 : decode cX10_bringUp 15 = .ok (.istore 4, 2) := by decide +kernel
theorem dX10_bringUp_17 : decode cX10_bringUp 17 = .ok (.iload 4, 2) := by decide +kernel
theorem dX10_bringUp_19 : decode cX10_bringUp 19 = .ok (.iload_n 3, 1) := by decide +kernel
theorem dX10_bringUp_20 : decode cX10_bringUp 20 = .ok (.if_icmp .ge 46, 3) := by decide +kernel
theorem dX10_bringUp_23 : decode cX10_bringUp 23 = .ok (.aload_n 0, 1) := by decide +kernel
theorem dX10_bringUp_24 : decode cX10_bringUp 24 = .ok (.aload_n 0, 1) := by decide +kernel
theorem dX10_bringUp_25 : decode cX10_bringUp 25 = .ok (.getfield 28, 3) := by decide +kernel
theorem dX10_bringUp_28 : decode cX10_bringUp 28 = .ok (.iload_n 1, 1) := by decide +kernel
theorem dX10_bringUp_29 : decode cX10_bringUp 29 = .ok (.iload 4, 2) := by decide +kernel
theorem dX10_bringUp_31 : decode cX10_bringUp 31 = .ok (.iconst 0, 1) := by decide +kernel
theorem dX10_bringUp_32 : decode cX10_bringUp 32 = .ok (.invokevirtual 144, 3) := by decide +kernel
theorem dX10_bringUp_35 : decode cX10_bringUp 35 = .ok (.aload_n 0, 1) := by decide +kernel
theorem dX10_bringUp_36 : decode cX10_bringUp 36 = .ok (.getfield 28, 3) := by decide +kernel
theorem dX10_bringUp_39 : decode cX10_bringUp 39 = .ok (.iload_n 1, 1) := by decide +kernel
theorem dX10_bringUp_40 : decode cX10_bringUp 40 = .ok (.iload 4, 2) := by decide +kernel
theorem dX10_bringUp_42 : decode cX10_bringUp 42 = .ok (.iconst 1, 1) := by decide +kernel
theorem dX10_bringUp_43 : decode cX10_bringUp 43 = .ok (.invokevirtual 144, 3) := by decide +kernel
theorem dX10_bringUp_46 : decode cX10_bringUp 46 = .ok (.aload_n 0, 1) := by decide +kernel
theorem dX10_bringUp_47 : decode cX10_bringUp 47 = .ok (.getfield 28, 3) := by decide +kernel
theorem dX10_bringUp_50 : decode cX10_bringUp 50 = .ok (.iload_n 1, 1) := by decide +kernel
theorem dX10_bringUp_51 : decode cX10_bringUp 51 = .ok (.iload 4, 2) := by decide +kernel
theorem dX10_bringUp_53 : decode cX10_bringUp 53 = .ok (.iconst 2, 1) := by decide +kernel
theorem dX10_bringUp_54 : decode cX10_bringUp 54 = .ok (.invokevirtual 144, 3) := by decide +kernel
theorem dX10_bringUp_57 : decode cX10_bringUp 57 = .ok (.invokevirtual 148, 3) := by decide +kernel
theorem dX10_bringUp_60 : decode cX10_bringUp 60 = .ok (.iinc 4 1, 3) := by decide +kernel
theorem dX10_bringUp_63 : decode cX10_bringUp 63 = .ok (.goto (-46), 3) := by decide +kernel
theorem dX10_bringUp_66 : decode cX10_bringUp 66 = .ok (.aload_n 0, 1) := by decide +kernel
theorem dX10_bringUp_67 : decode cX10_bringUp 67 = .ok (.getfield 28, 3) := by decide +kernel
theorem dX10_bringUp_70 : decode cX10_bringUp 70 = .ok (.iload_n 1, 1) := by decide +kernel
theorem dX10_bringUp_71 : decode cX10_bringUp 71 = .ok (.invokevirtual 152, 3) := by decide +kernel
theorem dX10_bringUp_74 : decode cX10_bringUp 74 = .ok (.aload_n 0, 1) := by decide +kernel
theorem dX10_bringUp_75 : decode cX10_bringUp 75 = .ok (.getfield 28, 3) := by decide +kernel
theorem dX10_bringUp_78 : decode cX10_bringUp 78 = .ok (.iload_n 1, 1) := by decide +kernel
theorem dX10_bringUp_79 : decode cX10_bringUp 79 = .ok (.iconst 1, 1) := by decide +kernel
theorem dX10_bringUp_80 : decode cX10_bringUp 80 = .ok (.invokevirtual 137, 3) := by decide +kernel
theorem dX10_bringUp_83 : decode cX10_bringUp 83 = .ok (.aload_n 0, 1) := by decide +kernel
theorem dX10_bringUp_84 : decode cX10_bringUp 84 = .ok (.getfield 61, 3) := by decide +kernel
theorem dX10_bringUp_87 : decode cX10_bringUp 87 = .ok (.iload_n 2, 1) := by decide +kernel
theorem dX10_bringUp_88 : decode cX10_bringUp 88 = .ok (.isub, 1) := by decide +kernel
theorem dX10_bringUp_89 : decode cX10_bringUp 89 = .ok (.ireturn, 1) := by decide +kernel
theorem dX10_clear_0 : decode cX10_clear 0 = .ok (.aload_n 0, 1) := by decide +kernel
theorem dX10_clear_1 : decode cX10_clear 1 = .ok (.getfield 12, 3) := by decide +kernel
theorem dX10_clear_4 : decode cX10_clear 4 = .ok (.invokevirtual 44, 3) := by decide +kernel
theorem dX10_clear_7 : decode cX10_clear 7 = .ok (.aload_n 0, 1) := by decide +kernel
theorem dX10_clear_8 : decode cX10_clear 8 = .ok (.getfield 21, 3) := by decide +kernel
theorem dX10_clear_11 : decode cX10_clear 11 = .ok (.invokevirtual 45, 3) := by decide +kernel
theorem dX10_clear_14 : decode cX10_clear 14 = .ok (.aload_n 0, 1) := by decide +kernel
theorem dX10_clear_15 : decode cX10_clear 15 = .ok (.getfield 28, 3) := by decide +kernel
theorem dX10_clear_18 : decode cX10_clear 18 = .ok (.invokevirtual 46, 3) := by decide +kernel
theorem dX10_clear_21 : decode cX10_clear 21 = .ok (.aload_n 0, 1) := by decide +kernel
theorem dX10_clear_22 : decode cX10_clear 22 = .ok (.getfield 37, 3) := by decide +kernel
theorem dX10_clear_25 : decode cX10_clear 25 = .ok (.iconst 0, 1) := by decide +kernel
theorem dX10_clear_26 : decode cX10_clear 26 = .ok (.bipush 10, 2) := by decide +kernel
theorem dX10_clear_28 : decode cX10_clear 28 = .ok (.invokevirtual 47, 3) := by decide +kernel
theorem dX10_clear_31 : decode cX10_clear 31 = .ok (.aload_n 0, 1) := by decide +kernel
theorem dX10_clear_32 : decode cX10_clear 32 = .ok (.getfield 37, 3) := by decide +kernel
theorem dX10_clear_35 : decode cX10_clear 35 = .ok (.iconst 1, 1) := by decide +kernel
theorem dX10_clear_36 : decode cX10_clear 36 = .ok (.iconst 5, 1) := by decide +kernel
theorem dX10_clear_37 : decode cX10_clear 37 = .ok (.invokevirtual 47, 3) := by decide +kernel
theorem dX10_clear_40 : decode cX10_clear 40 = .ok (.aload_n 0, 1) := by decide +kernel
theorem dX10_clear_41 : decode cX10_clear 41 = .ok (.getfield 37, 3) := by decide +kernel
theorem dX10_clear_44 : decode cX10_clear 44 = .ok (.iconst 2, 1) := by decide +kernel
theorem dX10_clear_45 : decode cX10_clear 45 = .ok (.iconst 0, 1) := by decide +kernel
theorem dX10_clear_46 : decode cX10_clear 46 = .ok (.invokevirtual 47, 3) := by decide +kernel
theorem dX10_clear_49 : decode cX10_clear 49 = .ok (.aload_n 0, 1) := by decide +kernel
theorem dX10_clear_50 : decode cX10_clear 50 = .ok (.getfield 37, 3) := by decide +kernel
theorem dX10_clear_53 : decode cX10_clear 53 = .ok (.iconst 3, 1) := by decide +kernel
theorem dX10_clear_54 : decode cX10_clear 54 = .ok (.bipush 20, 2) := by decide +kernel
theorem dX10_clear_56 : decode cX10_clear 56 = .ok (.invokevirtual 47, 3) := by decide +kernel
theorem dX10_clear_59 : decode cX10_clear 59 = .ok (.aload_n 0, 1) := by decide +kernel
theorem dX10_clear_60 : decode cX10_clear 60 = .ok (.iconst 0, 1) := by decide +kernel
theorem dX10_clear_61 : decode cX10_clear 61 = .ok (.putfield 51, 3) := by decide +kernel
theorem dX10_clear_64 : decode cX10_clear 64 = .ok (.aload_n 0, 1) := by decide +kernel
theorem dX10_clear_65 : decode cX10_clear 65 = .ok (.iconst 0, 1) := by decide +kernel
theorem dX10_clear_66 : decode cX10_clear 66 = .ok (.putfield 55, 3) := by decide +kernel
theorem dX10_clear_69 : decode cX10_clear 69 = .ok (.aload_n 0, 1) := by decide +kernel
theorem dX10_clear_70 : decode cX10_clear 70 = .ok (.iconst 0, 1) := by decide +kernel
theorem dX10_clear_71 : decode cX10_clear 71 = .ok (.putfield 58, 3) := by decide +kernel
theorem dX10_clear_74 : decode cX10_clear 74 = .ok (.aload_n 0, 1) := by decide +kernel
theorem dX10_clear_75 : decode cX10_clear 75 = .ok (.iconst 0, 1) := by decide +kernel
theorem dX10_clear_76 : decode cX10_clear 76 = .ok (.putfield 61, 3) := by decide +kernel
theorem dX10_clear_79 : decode cX10_clear 79 = .ok (.aload_n 0, 1) := by decide +kernel
theorem dX10_clear_80 : decode cX10_clear 80 = .ok (.iconst 0, 1) := by decide +kernel
theorem dX10_clear_81 : decode cX10_clear 81 = .ok (.putfield 64, 3) := by decide +kernel
theorem dX10_clear_84 : decode cX10_clear 84 = .ok (.aload_n 0, 1) := by decide +kernel
theorem dX10_clear_85 : decode cX10_clear 85 = .ok (.iconst 0, 1) := by decide +kernel
theorem dX10_clear_86 : decode cX10_clear 86 = .ok (.putfield 67, 3) := by decide +kernel
theorem dX10_clear_89 : decode cX10_clear 89 = .ok (.return_, 1) := by decide +kernel
theorem yf_X0_clear : (Cond.instanceMethod yX0_clear) ∈ gtbl ∧ (Cond.selects RX0 yX0_clear yX0_clear) ∈ gtbl ∧ (Cond.initialized RX0) ∈ gtbl ∧ (Cond.code yX0_clear cX0_clear 1 none) ∈ gtbl ∧ (yX0_clear.cls = RX0 ∧ yX0_clear.cls ≠ "java/lang/invoke/MethodHandle" ∧ yX0_clear.cls ≠ "java/lang/invoke/VarHandle" ∧ (parseMethodDescriptor yX0_clear.desc).map (fun d => d.parameters.length) = some 0) := ⟨gt_in 163 (by decide +kernel) (by decide +kernel), gt_in 164 (by decide +kernel) (by decide +kernel), gt_in 12 (by decide +kernel) (by decide +kernel), gt_in 165 (by decide +kernel) (by decide +kernel), by decide +kernel⟩
theorem cw_X10_44 : uCW RX10 RX0 44 yX0_clear cX0_clear 1 none 0 := ⟨gt_in 162 (by decide +kernel) (by decide +kernel), yf_X0_clear⟩
theorem yf_X5_clear : (Cond.instanceMethod yX5_clear) ∈ gtbl ∧ (Cond.selects RX5 yX5_clear yX5_clear) ∈ gtbl ∧ (Cond.initialized RX5) ∈ gtbl ∧ (Cond.code yX5_clear cX5_clear 1 none) ∈ gtbl ∧ (yX5_clear.cls = RX5 ∧ yX5_clear.cls ≠ "java/lang/invoke/MethodHandle" ∧ yX5_clear.cls ≠ "java/lang/invoke/VarHandle" ∧ (parseMethodDescriptor yX5_clear.desc).map (fun d => d.parameters.length) = some 0) := ⟨gt_in 167 (by decide +kernel) (by decide +kernel), gt_in 168 (by decide +kernel) (by decide +kernel), gt_in 15 (by decide +kernel) (by decide +kernel), gt_in 169 (by decide +kernel) (by decide +kernel), by decide +kernel⟩
theorem cw_X10_45 : uCW RX10 RX5 45 yX5_clear cX5_clear 1 none 0 := ⟨gt_in 166 (by decide +kernel) (by decide +kernel), yf_X5_clear⟩
theorem yf_X3_clear : (Cond.instanceMethod yX3_clear) ∈ gtbl ∧ (Cond.selects RX3 yX3_clear yX3_clear) ∈ gtbl ∧ (Cond.initialized RX3) ∈ gtbl ∧ (Cond.code yX3_clear cX3_clear 1 none) ∈ gtbl ∧ (yX3_clear.cls = RX3 ∧ yX3_clear.cls ≠ "java/lang/invoke/MethodHandle" ∧ yX3_clear.cls ≠ "java/lang/invoke/VarHandle" ∧ (parseMethodDescriptor yX3_clear.desc).map (fun d => d.parameters.length) = some 0) := ⟨gt_in 175 (by decide +kernel) (by decide +kernel), gt_in 176 (by decide +kernel) (by decide +kernel), gt_in 16 (by decide +kernel) (by decide +kernel), gt_in 177 (by decide +kernel) (by decide +kernel), by decide +kernel⟩
theorem cw_X10_46 : uCW RX10 RX3 46 yX3_clear cX3_clear 1 none 0 := ⟨gt_in 174 (by decide +kernel) (by decide +kernel), yf_X3_clear⟩
theorem cw_X10_47 : uCW RX10 RX6 47 yX6_put cX6_put 3 none 2 := ⟨gt_in 179 (by decide +kernel) (by decide +kernel), yf_X6_put⟩
theorem yf_X3_ridesInLogs : (Cond.instanceMethod yX3_ridesInLogs) ∈ gtbl ∧ (Cond.selects RX3 yX3_ridesInLogs yX3_ridesInLogs) ∈ gtbl ∧ (Cond.initialized RX3) ∈ gtbl ∧ (Cond.code yX3_ridesInLogs cX3_ridesInLogs 6 (some .int)) ∈ gtbl ∧ (yX3_ridesInLogs.cls = RX3 ∧ yX3_ridesInLogs.cls ≠ "java/lang/invoke/MethodHandle" ∧ yX3_ridesInLogs.cls ≠ "java/lang/invoke/VarHandle" ∧ (parseMethodDescriptor yX3_ridesInLogs.desc).map (fun d => d.parameters.length) = some 1) := ⟨gt_in 655 (by decide +kernel) (by decide +kernel), gt_in 656 (by decide +kernel) (by decide +kernel), gt_in 16 (by decide +kernel) (by decide +kernel), gt_in 657 (by decide +kernel) (by decide +kernel), by decide +kernel⟩
theorem cw_X10_87 : uCW RX10 RX3 87 yX3_ridesInLogs cX3_ridesInLogs 6 (some .int) 1 := ⟨gt_in 654 (by decide +kernel) (by decide +kernel), yf_X3_ridesInLogs⟩
theorem yf_X3_faresInLogs : (Cond.instanceMethod yX3_faresInLogs) ∈ gtbl ∧ (Cond.selects RX3 yX3_faresInLogs yX3_faresInLogs) ∈ gtbl ∧ (Cond.initialized RX3) ∈ gtbl ∧ (Cond.code yX3_faresInLogs cX3_faresInLogs 6 (some .int)) ∈ gtbl ∧ (yX3_faresInLogs.cls = RX3 ∧ yX3_faresInLogs.cls ≠ "java/lang/invoke/MethodHandle" ∧ yX3_faresInLogs.cls ≠ "java/lang/invoke/VarHandle" ∧ (parseMethodDescriptor yX3_faresInLogs.desc).map (fun d => d.parameters.length) = some 1) := ⟨gt_in 663 (by decide +kernel) (by decide +kernel), gt_in 664 (by decide +kernel) (by decide +kernel), gt_in 16 (by decide +kernel) (by decide +kernel), gt_in 665 (by decide +kernel) (by decide +kernel), by decide +kernel⟩
theorem cw_X10_91 : uCW RX10 RX3 91 yX3_faresInLogs cX3_faresInLogs 6 (some .int) 1 := ⟨gt_in 662 (by decide +kernel) (by decide +kernel), yf_X3_faresInLogs⟩
theorem yf_X5_blockedSet : (Cond.instanceMethod yX5_blockedSet) ∈ gtbl ∧ (Cond.selects RX5 yX5_blockedSet yX5_blockedSet) ∈ gtbl ∧ (Cond.initialized RX5) ∈ gtbl ∧ (Cond.code yX5_blockedSet cX5_blockedSet 3 (some .int)) ∈ gtbl ∧ (yX5_blockedSet.cls = RX5 ∧ yX5_blockedSet.cls ≠ "java/lang/invoke/MethodHandle" ∧ yX5_blockedSet.cls ≠ "java/lang/invoke/VarHandle" ∧ (parseMethodDescriptor yX5_blockedSet.desc).map (fun d => d.parameters.length) = some 0) := ⟨gt_in 600 (by decide +kernel) (by decide +kernel), gt_in 601 (by decide +kernel) (by decide +kernel), gt_in 15 (by decide +kernel) (by decide +kernel), gt_in 602 (by decide +kernel) (by decide +kernel), by decide +kernel⟩
theorem cw_X10_94 : uCW RX10 RX5 94 yX5_blockedSet cX5_blockedSet 3 (some .int) 0 := ⟨gt_in 599 (by decide +kernel) (by decide +kernel), yf_X5_blockedSet⟩
theorem cw_X10_101 : uCW RX10 RX6 101 yX6_get cX6_get 2 (some .int) 1 := ⟨gt_in 522 (by decide +kernel) (by decide +kernel), yf_X6_get⟩
theorem cw_X10_113 : uCW RX10 RX5 113 yX5_isBlocked cX5_isBlocked 2 (some .boolean) 1 := ⟨gt_in 545 (by decide +kernel) (by decide +kernel), yf_X5_isBlocked⟩
theorem yf_X0_countOf : (Cond.instanceMethod yX0_countOf) ∈ gtbl ∧ (Cond.selects RX0 yX0_countOf yX0_countOf) ∈ gtbl ∧ (Cond.initialized RX0) ∈ gtbl ∧ (Cond.code yX0_countOf cX0_countOf 4 (some .int)) ∈ gtbl ∧ (yX0_countOf.cls = RX0 ∧ yX0_countOf.cls ≠ "java/lang/invoke/MethodHandle" ∧ yX0_countOf.cls ≠ "java/lang/invoke/VarHandle" ∧ (parseMethodDescriptor yX0_countOf.desc).map (fun d => d.parameters.length) = some 1) := ⟨gt_in 712 (by decide +kernel) (by decide +kernel), gt_in 713 (by decide +kernel) (by decide +kernel), gt_in 12 (by decide +kernel) (by decide +kernel), gt_in 714 (by decide +kernel) (by decide +kernel), by decide +kernel⟩
theorem cw_X10_117 : uCW RX10 RX0 117 yX0_countOf cX0_countOf 4 (some .int) 1 := ⟨gt_in 711 (by decide +kernel) (by decide +kernel), yf_X0_countOf⟩
theorem yf_X3_isUp : (Cond.instanceMethod yX3_isUp) ∈ gtbl ∧ (Cond.selects RX3 yX3_isUp yX3_isUp) ∈ gtbl ∧ (Cond.initialized RX3) ∈ gtbl ∧ (Cond.code yX3_isUp cX3_isUp 2 (some .boolean)) ∈ gtbl ∧ (yX3_isUp.cls = RX3 ∧ yX3_isUp.cls ≠ "java/lang/invoke/MethodHandle" ∧ yX3_isUp.cls ≠ "java/lang/invoke/VarHandle" ∧ (parseMethodDescriptor yX3_isUp.desc).map (fun d => d.parameters.length) = some 1) := ⟨gt_in 519 (by decide +kernel) (by decide +kernel), gt_in 520 (by decide +kernel) (by decide +kernel), gt_in 16 (by decide +kernel) (by decide +kernel), gt_in 521 (by decide +kernel) (by decide +kernel), by decide +kernel⟩
theorem cw_X10_120 : uCW RX10 RX3 120 yX3_isUp cX3_isUp 2 (some .boolean) 1 := ⟨gt_in 518 (by decide +kernel) (by decide +kernel), yf_X3_isUp⟩
theorem yf_X5_isFull : (Cond.instanceMethod yX5_isFull) ∈ gtbl ∧ (Cond.selects RX5 yX5_isFull yX5_isFull) ∈ gtbl ∧ (Cond.initialized RX5) ∈ gtbl ∧ (Cond.code yX5_isFull cX5_isFull 1 (some .boolean)) ∈ gtbl ∧ (yX5_isFull.cls = RX5 ∧ yX5_isFull.cls ≠ "java/lang/invoke/MethodHandle" ∧ yX5_isFull.cls ≠ "java/lang/invoke/VarHandle" ∧ (parseMethodDescriptor yX5_isFull.desc).map (fun d => d.parameters.length) = some 0) := ⟨gt_in 470 (by decide +kernel) (by decide +kernel), gt_in 471 (by decide +kernel) (by decide +kernel), gt_in 15 (by decide +kernel) (by decide +kernel), gt_in 472 (by decide +kernel) (by decide +kernel), by decide +kernel⟩
theorem cw_X10_126 : uCW RX10 RX5 126 yX5_isFull cX5_isFull 1 (some .boolean) 0 := ⟨gt_in 469 (by decide +kernel) (by decide +kernel), yf_X5_isFull⟩
theorem yf_X0_isFull : (Cond.instanceMethod yX0_isFull) ∈ gtbl ∧ (Cond.selects RX0 yX0_isFull yX0_isFull) ∈ gtbl ∧ (Cond.initialized RX0) ∈ gtbl ∧ (Cond.code yX0_isFull cX0_isFull 1 (some .boolean)) ∈ gtbl ∧ (yX0_isFull.cls = RX0 ∧ yX0_isFull.cls ≠ "java/lang/invoke/MethodHandle" ∧ yX0_isFull.cls ≠ "java/lang/invoke/VarHandle" ∧ (parseMethodDescriptor yX0_isFull.desc).map (fun d => d.parameters.length) = some 0) := ⟨gt_in 474 (by decide +kernel) (by decide +kernel), gt_in 475 (by decide +kernel) (by decide +kernel), gt_in 12 (by decide +kernel) (by decide +kernel), gt_in 476 (by decide +kernel) (by decide +kernel), by decide +kernel⟩
theorem cw_X10_130 : uCW RX10 RX0 130 yX0_isFull cX0_isFull 1 (some .boolean) 0 := ⟨gt_in 473 (by decide +kernel) (by decide +kernel), yf_X0_isFull⟩
theorem yf_X5_make : (Cond.instanceMethod yX5_make) ∈ gtbl ∧ (Cond.selects RX5 yX5_make yX5_make) ∈ gtbl ∧ (Cond.initialized RX5) ∈ gtbl ∧ (Cond.code yX5_make cX5_make 3 (some .int)) ∈ gtbl ∧ (yX5_make.cls = RX5 ∧ yX5_make.cls ≠ "java/lang/invoke/MethodHandle" ∧ yX5_make.cls ≠ "java/lang/invoke/VarHandle" ∧ (parseMethodDescriptor yX5_make.desc).map (fun d => d.parameters.length) = some 1) := ⟨gt_in 482 (by decide +kernel) (by decide +kernel), gt_in 483 (by decide +kernel) (by decide +kernel), gt_in 15 (by decide +kernel) (by decide +kernel), gt_in 484 (by decide +kernel) (by decide +kernel), by decide +kernel⟩
theorem cw_X10_131 : uCW RX10 RX5 131 yX5_make cX5_make 3 (some .int) 1 := ⟨gt_in 481 (by decide +kernel) (by decide +kernel), yf_X5_make⟩
theorem cw_X10_134 : uCW RX10 RX0 134 yX0_make cX0_make 6 (some .int) 4 := ⟨gt_in 486 (by decide +kernel) (by decide +kernel), yf_X0_make⟩
theorem yf_X3_setLine : (Cond.instanceMethod yX3_setLine) ∈ gtbl ∧ (Cond.selects RX3 yX3_setLine yX3_setLine) ∈ gtbl ∧ (Cond.initialized RX3) ∈ gtbl ∧ (Cond.code yX3_setLine cX3_setLine 3 none) ∈ gtbl ∧ (yX3_setLine.cls = RX3 ∧ yX3_setLine.cls ≠ "java/lang/invoke/MethodHandle" ∧ yX3_setLine.cls ≠ "java/lang/invoke/VarHandle" ∧ (parseMethodDescriptor yX3_setLine.desc).map (fun d => d.parameters.length) = some 2) := ⟨gt_in 605 (by decide +kernel) (by decide +kernel), gt_in 606 (by decide +kernel) (by decide +kernel), gt_in 16 (by decide +kernel) (by decide +kernel), gt_in 607 (by decide +kernel) (by decide +kernel), by decide +kernel⟩
theorem cw_X10_137 : uCW RX10 RX3 137 yX3_setLine cX3_setLine 3 none 2 := ⟨gt_in 604 (by decide +kernel) (by decide +kernel), yf_X3_setLine⟩
theorem yf_X3_logSize : (Cond.instanceMethod yX3_logSize) ∈ gtbl ∧ (Cond.selects RX3 yX3_logSize yX3_logSize) ∈ gtbl ∧ (Cond.initialized RX3) ∈ gtbl ∧ (Cond.code yX3_logSize cX3_logSize 2 (some .int)) ∈ gtbl ∧ (yX3_logSize.cls = RX3 ∧ yX3_logSize.cls ≠ "java/lang/invoke/MethodHandle" ∧ yX3_logSize.cls ≠ "java/lang/invoke/VarHandle" ∧ (parseMethodDescriptor yX3_logSize.desc).map (fun d => d.parameters.length) = some 1) := ⟨gt_in 617 (by decide +kernel) (by decide +kernel), gt_in 618 (by decide +kernel) (by decide +kernel), gt_in 16 (by decide +kernel) (by decide +kernel), gt_in 619 (by decide +kernel) (by decide +kernel), by decide +kernel⟩
theorem cw_X10_141 : uCW RX10 RX3 141 yX3_logSize cX3_logSize 2 (some .int) 1 := ⟨gt_in 616 (by decide +kernel) (by decide +kernel), yf_X3_logSize⟩
theorem yf_X3_loggedNumber : (Cond.instanceMethod yX3_loggedNumber) ∈ gtbl ∧ (Cond.selects RX3 yX3_loggedNumber yX3_loggedNumber) ∈ gtbl ∧ (Cond.initialized RX3) ∈ gtbl ∧ (Cond.code yX3_loggedNumber cX3_loggedNumber 5 (some .int)) ∈ gtbl ∧ (yX3_loggedNumber.cls = RX3 ∧ yX3_loggedNumber.cls ≠ "java/lang/invoke/MethodHandle" ∧ yX3_loggedNumber.cls ≠ "java/lang/invoke/VarHandle" ∧ (parseMethodDescriptor yX3_loggedNumber.desc).map (fun d => d.parameters.length) = some 3) := ⟨gt_in 621 (by decide +kernel) (by decide +kernel), gt_in 622 (by decide +kernel) (by decide +kernel), gt_in 16 (by decide +kernel) (by decide +kernel), gt_in 623 (by decide +kernel) (by decide +kernel), by decide +kernel⟩
theorem cw_X10_144 : uCW RX10 RX3 144 yX3_loggedNumber cX3_loggedNumber 5 (some .int) 3 := ⟨gt_in 620 (by decide +kernel) (by decide +kernel), yf_X3_loggedNumber⟩
theorem yf_X10_settle : (Cond.instanceMethod yX10_settle) ∈ gtbl ∧ (Cond.selects RX10 yX10_settle yX10_settle) ∈ gtbl ∧ (Cond.initialized RX10) ∈ gtbl ∧ (Cond.code yX10_settle cX10_settle 4 none) ∈ gtbl ∧ (yX10_settle.cls = RX10 ∧ yX10_settle.cls ≠ "java/lang/invoke/MethodHandle" ∧ yX10_settle.cls ≠ "java/lang/invoke/VarHandle" ∧ (parseMethodDescriptor yX10_settle.desc).map (fun d => d.parameters.length) = some 3) := ⟨gt_in 563 (by decide +kernel) (by decide +kernel), gt_in 5 (by decide +kernel) (by decide +kernel), gt_in 11 (by decide +kernel) (by decide +kernel), gt_in 564 (by decide +kernel) (by decide +kernel), by decide +kernel⟩
theorem cw_X10_148 : uCW RX10 RX10 148 yX10_settle cX10_settle 4 none 3 := ⟨gt_in 561 (by decide +kernel) (by decide +kernel), yf_X10_settle⟩
theorem yf_X3_emptyLog : (Cond.instanceMethod yX3_emptyLog) ∈ gtbl ∧ (Cond.selects RX3 yX3_emptyLog yX3_emptyLog) ∈ gtbl ∧ (Cond.initialized RX3) ∈ gtbl ∧ (Cond.code yX3_emptyLog cX3_emptyLog 2 none) ∈ gtbl ∧ (yX3_emptyLog.cls = RX3 ∧ yX3_emptyLog.cls ≠ "java/lang/invoke/MethodHandle" ∧ yX3_emptyLog.cls ≠ "java/lang/invoke/VarHandle" ∧ (parseMethodDescriptor yX3_emptyLog.desc).map (fun d => d.parameters.length) = some 1) := ⟨gt_in 625 (by decide +kernel) (by decide +kernel), gt_in 626 (by decide +kernel) (by decide +kernel), gt_in 16 (by decide +kernel) (by decide +kernel), gt_in 627 (by decide +kernel) (by decide +kernel), by decide +kernel⟩
theorem cw_X10_152 : uCW RX10 RX3 152 yX3_emptyLog cX3_emptyLog 2 none 1 := ⟨gt_in 624 (by decide +kernel) (by decide +kernel), yf_X3_emptyLog⟩
theorem yf_X5_settleRide : (Cond.instanceMethod yX5_settleRide) ∈ gtbl ∧ (Cond.selects RX5 yX5_settleRide yX5_settleRide) ∈ gtbl ∧ (Cond.initialized RX5) ∈ gtbl ∧ (Cond.code yX5_settleRide cX5_settleRide 8 (some .boolean)) ∈ gtbl ∧ (yX5_settleRide.cls = RX5 ∧ yX5_settleRide.cls ≠ "java/lang/invoke/MethodHandle" ∧ yX5_settleRide.cls ≠ "java/lang/invoke/VarHandle" ∧ (parseMethodDescriptor yX5_settleRide.desc).map (fun d => d.parameters.length) = some 4) := ⟨gt_in 566 (by decide +kernel) (by decide +kernel), gt_in 567 (by decide +kernel) (by decide +kernel), gt_in 15 (by decide +kernel) (by decide +kernel), gt_in 568 (by decide +kernel) (by decide +kernel), by decide +kernel⟩
theorem cw_X10_155 : uCW RX10 RX5 155 yX5_settleRide cX5_settleRide 8 (some .boolean) 4 := ⟨gt_in 565 (by decide +kernel) (by decide +kernel), yf_X5_settleRide⟩
def fX10_mostOfSetting (a1 : Int32) : Int32 :=
  if a1 = 0 then
    50
  else if a1 = 1 then
    30
  else if a1 = 2 then
    1
  else 
  99
set_option maxHeartbeats 4000000 in
set_option maxRecDepth 20000 in
theorem kX10_mostOfSetting {l : Launch} {G : UG} {V : uV}  {a1 : Int32} {r : Int32} (h : fX10_mostOfSetting a1 = r) : uMi l G yX10_mostOfSetting cX10_mostOfSetting 1 .int (uR 0 0) [.int a1] V r V := by
  refine uMi_of rfl (Nat.le_of_ble_eq_true rfl) (fun p e s m args below meth c ls X hret hl M => ?_)
  have hl : lv_has ls 1 [(0, .int a1)] := hl
  have hx := X.hx
  have hb := X.hb
  unfold fX10_mostOfSetting at h
  refine lv_iload_n hx hb dX10_mostOfSetting_0 rfl (lv_at hl 0 rfl) ?_
  by_cases c1 : a1 = 0
  · have h := it_t h c1
    refine lv_tableIn (off := 27) (tgt := 28) hx hb dX10_mostOfSetting_1 (by rw [c1]; decide) (by rw [c1]; decide) (by rw [c1]; rfl) (by decide) ?_
    refine lv_bipush (v := 50) hx hb dX10_mostOfSetting_28 (by decide) ?_
    exact u_iret X hret M h (rfl) rfl dX10_mostOfSetting_30
  · have h := it_f h c1
    by_cases c2 : a1 = 1
    · have h := it_t h c2
      refine lv_tableIn (off := 30) (tgt := 31) hx hb dX10_mostOfSetting_1 (by rw [c2]; decide) (by rw [c2]; decide) (by rw [c2]; rfl) (by decide) ?_
      refine lv_bipush (v := 30) hx hb dX10_mostOfSetting_31 (by decide) ?_
      exact u_iret X hret M h (rfl) rfl dX10_mostOfSetting_33
    · have h := it_f h c2
      by_cases c3 : a1 = 2
      · have h := it_t h c3
        refine lv_tableIn (off := 33) (tgt := 34) hx hb dX10_mostOfSetting_1 (by rw [c3]; decide) (by rw [c3]; decide) (by rw [c3]; rfl) (by decide) ?_
        refine lv_iconst (v := 1) hx hb dX10_mostOfSetting_34 (by decide) ?_
        exact u_iret X hret M h (rfl) rfl dX10_mostOfSetting_35
      · have h := it_f h c3
        have tc1 := lv_neT (a := 0) c1 (by decide)
        have tc2 := lv_neT (a := 1) c2 (by decide)
        have tc3 := lv_neT (a := 2) c3 (by decide)
        refine lv_tableOut (tgt := 36) hx hb dX10_mostOfSetting_1 (by omega) (by decide) ?_
        refine lv_bipush (v := 99) hx hb dX10_mostOfSetting_36 (by decide) ?_
        exact u_iret X hret M h (rfl) rfl dX10_mostOfSetting_38
def fX10_letsThrough (a1 : Int32) : Int32 :=
  if a1 < 0 then
    if a1 = 7 then
      1
    else
      0
  else
    if a1 ≤ 2 then
      1
    else
      if a1 = 7 then
        1
      else
        0
set_option maxHeartbeats 4000000 in
set_option maxRecDepth 20000 in
theorem kX10_letsThrough {l : Launch} {G : UG} {V : uV}  {a1 : Int32} {r : Int32} (h : fX10_letsThrough a1 = r) : uMi l G yX10_letsThrough cX10_letsThrough 1 .boolean (uR 0 0) [.int a1] V r V := by
  refine uMi_of rfl (Nat.le_of_ble_eq_true rfl) (fun p e s m args below meth c ls X hret hl M => ?_)
  have hl : lv_has ls 1 [(0, .int a1)] := hl
  have hx := X.hx
  have hb := X.hb
  unfold fX10_letsThrough at h
  refine lv_iload_n hx hb dX10_letsThrough_0 rfl (lv_at hl 0 rfl) ?_
  refine lv_if_lt (tgt := 9) hx hb dX10_letsThrough_1 (by decide) (fun c1 => ?_) (fun c1 => ?_)
  · have h := it_t h c1
    refine lv_iload_n hx hb dX10_letsThrough_9 rfl (lv_at hl 0 rfl) ?_
    refine lv_bipush (v := 7) hx hb dX10_letsThrough_10 (by decide) ?_
    refine lv_icmp_ne (tgt := 19) hx hb dX10_letsThrough_12 (by decide) (fun c2 => ?_) (fun c2 => ?_)
    · have h := it_f h c2
      refine lv_iconst (v := 0) hx hb dX10_letsThrough_19 (by decide) ?_
      exact u_iret X hret M h (rfl) rfl dX10_letsThrough_20
    · have h := it_t h c2
      refine lv_iconst (v := 1) hx hb dX10_letsThrough_15 (by decide) ?_
      refine lv_goto (tgt := 20) hx hb dX10_letsThrough_16 (by decide) ?_
      exact u_iret X hret M h (rfl) rfl dX10_letsThrough_20
  · have h := it_f h c1
    refine lv_iload_n hx hb dX10_letsThrough_4 rfl (lv_at hl 0 rfl) ?_
    refine lv_iconst (v := 2) hx hb dX10_letsThrough_5 (by decide) ?_
    refine lv_icmp_le (tgt := 15) hx hb dX10_letsThrough_6 (by decide) (fun c3 => ?_) (fun c3 => ?_)
    · have h := it_t h c3
      refine lv_iconst (v := 1) hx hb dX10_letsThrough_15 (by decide) ?_
      refine lv_goto (tgt := 20) hx hb dX10_letsThrough_16 (by decide) ?_
      exact u_iret X hret M h (rfl) rfl dX10_letsThrough_20
    · have h := it_f h c3
      refine lv_iload_n hx hb dX10_letsThrough_9 rfl (lv_at hl 0 rfl) ?_
      refine lv_bipush (v := 7) hx hb dX10_letsThrough_10 (by decide) ?_
      refine lv_icmp_ne (tgt := 19) hx hb dX10_letsThrough_12 (by decide) (fun c4 => ?_) (fun c4 => ?_)
      · have h := it_f h c4
        refine lv_iconst (v := 0) hx hb dX10_letsThrough_19 (by decide) ?_
        exact u_iret X hret M h (rfl) rfl dX10_letsThrough_20
      · have h := it_t h c4
        refine lv_iconst (v := 1) hx hb dX10_letsThrough_15 (by decide) ?_
        refine lv_goto (tgt := 20) hx hb dX10_letsThrough_16 (by decide) ?_
        exact u_iret X hret M h (rfl) rfl dX10_letsThrough_20
def fX10_total (S : (Nat → Nat → Int32)) (a1 : Int32) : Option Int32 :=
  if a1 = 0 then
    lt_ (S 1 0) fun x2 =>
    some x2
  else if a1 = 1 then
    lt_ (S 10 0) fun x5 =>
    some x5
  else if a1 = 2 then
    lt_ (S 0 4) fun x8 =>
    some x8
  else if a1 = 3 then
    lt_ (S 0 5) fun x11 =>
    some x11
  else if a1 = 4 then
    lt_ (S 0 6) fun x14 =>
    some x14
  else if a1 = 5 then
    lt_ (S 0 7) fun x17 =>
    some x17
  else if a1 = 6 then
    bd (fX3_ridesInLogs S (-1)) fun x21 =>
    some x21
  else if a1 = 7 then
    bd (fX3_faresInLogs S (-1)) fun x25 =>
    some x25
  else if a1 = 8 then
    lt_ (S 0 8) fun x28 =>
    some x28
  else if a1 = 9 then
    lt_ (S 0 9) fun x31 =>
    some x31
  else 
  bd (fX5_blockedSet S) fun x34 =>
  some x34
set_option maxHeartbeats 4000000 in
set_option maxRecDepth 20000 in
theorem kX10_total {l : Launch} {G : UG} {V : uV} {t : Nat} (hS : uSt G t) {S : (Nat → Nat → Int32)} (hV : V t = S) {a1 : Int32} {r : Int32} (h : fX10_total S a1 = some r) : uMi l G yX10_total cX10_total 2 .int (uR 3 69) [.ref (ga G t 0), .int a1] V r V := by
  refine uMi_of rfl (Nat.le_of_ble_eq_true rfl) (fun p e s m args below meth c ls X hret hl M => ?_)
  have hl : lv_has ls 2 [(0, .ref (ga G t 0)), (1, .int a1)] := hl
  have hx := X.hx
  have hb := X.hb
  unfold fX10_total at h
  refine lv_iload_n hx hb dX10_total_0 rfl (lv_at hl 1 rfl) ?_
  by_cases c1 : a1 = 0
  · have h := it_t h c1
    refine lv_tableIn (off := 55) (tgt := 56) hx hb dX10_total_1 (by rw [c1]; decide) (by rw [c1]; decide) (by rw [c1]; rfl) (by decide) ?_
    refine lv_aload_n hx hb dX10_total_56 rfl (lv_at hl 0 rfl) ?_
    refine gf_X10_12 X M hS dX10_total_57 ?_
    obtain ⟨x2, e3, h⟩ := lt_e h
    refine gf_X10_83 X M hS hV e3 dX10_total_60 ?_
    exact u_iret X hret M (Option.some.inj h) (rfl) rfl dX10_total_63
  · have h := it_f h c1
    by_cases c4 : a1 = 1
    · have h := it_t h c4
      refine lv_tableIn (off := 63) (tgt := 64) hx hb dX10_total_1 (by rw [c4]; decide) (by rw [c4]; decide) (by rw [c4]; rfl) (by decide) ?_
      refine lv_aload_n hx hb dX10_total_64 rfl (lv_at hl 0 rfl) ?_
      refine gf_X10_21 X M hS dX10_total_65 ?_
      obtain ⟨x5, e6, h⟩ := lt_e h
      refine gf_X10_86 X M hS hV e6 dX10_total_68 ?_
      exact u_iret X hret M (Option.some.inj h) (rfl) rfl dX10_total_71
    · have h := it_f h c4
      by_cases c7 : a1 = 2
      · have h := it_t h c7
        refine lv_tableIn (off := 71) (tgt := 72) hx hb dX10_total_1 (by rw [c7]; decide) (by rw [c7]; decide) (by rw [c7]; rfl) (by decide) ?_
        refine lv_aload_n hx hb dX10_total_72 rfl (lv_at hl 0 rfl) ?_
        obtain ⟨x8, e9, h⟩ := lt_e h
        refine gf_X10_51 X M hS hV e9 dX10_total_73 ?_
        exact u_iret X hret M (Option.some.inj h) (rfl) rfl dX10_total_76
      · have h := it_f h c7
        by_cases c10 : a1 = 3
        · have h := it_t h c10
          refine lv_tableIn (off := 76) (tgt := 77) hx hb dX10_total_1 (by rw [c10]; decide) (by rw [c10]; decide) (by rw [c10]; rfl) (by decide) ?_
          refine lv_aload_n hx hb dX10_total_77 rfl (lv_at hl 0 rfl) ?_
          obtain ⟨x11, e12, h⟩ := lt_e h
          refine gf_X10_55 X M hS hV e12 dX10_total_78 ?_
          exact u_iret X hret M (Option.some.inj h) (rfl) rfl dX10_total_81
        · have h := it_f h c10
          by_cases c13 : a1 = 4
          · have h := it_t h c13
            refine lv_tableIn (off := 81) (tgt := 82) hx hb dX10_total_1 (by rw [c13]; decide) (by rw [c13]; decide) (by rw [c13]; rfl) (by decide) ?_
            refine lv_aload_n hx hb dX10_total_82 rfl (lv_at hl 0 rfl) ?_
            obtain ⟨x14, e15, h⟩ := lt_e h
            refine gf_X10_58 X M hS hV e15 dX10_total_83 ?_
            exact u_iret X hret M (Option.some.inj h) (rfl) rfl dX10_total_86
          · have h := it_f h c13
            by_cases c16 : a1 = 5
            · have h := it_t h c16
              refine lv_tableIn (off := 86) (tgt := 87) hx hb dX10_total_1 (by rw [c16]; decide) (by rw [c16]; decide) (by rw [c16]; rfl) (by decide) ?_
              refine lv_aload_n hx hb dX10_total_87 rfl (lv_at hl 0 rfl) ?_
              obtain ⟨x17, e18, h⟩ := lt_e h
              refine gf_X10_61 X M hS hV e18 dX10_total_88 ?_
              exact u_iret X hret M (Option.some.inj h) (rfl) rfl dX10_total_91
            · have h := it_f h c16
              by_cases c19 : a1 = 6
              · have h := it_t h c19
                refine lv_tableIn (off := 91) (tgt := 92) hx hb dX10_total_1 (by rw [c19]; decide) (by rw [c19]; decide) (by rw [c19]; rfl) (by decide) ?_
                refine lv_aload_n hx hb dX10_total_92 rfl (lv_at hl 0 rfl) ?_
                refine gf_X10_28 X M hS dX10_total_93 ?_
                refine lv_iconst (v := (-1)) hx hb dX10_total_96 (by decide) ?_
                obtain ⟨x21, e20, h⟩ := bd_e h
                refine u_cVi X M hl.1 (kX3_ridesInLogs hS hV e20) cw_X10_87 ⟨by decide, by decide⟩ (rc_X3 X M hS) rfl rfl (Nat.le_of_ble_eq_true rfl) ⟨Nat.zero_le _, Nat.zero_le _⟩ dX10_total_97 (fun H locs M n22 => ?_)
                exact u_iret X hret M (Option.some.inj h) (rfl) rfl dX10_total_100
              · have h := it_f h c19
                by_cases c23 : a1 = 7
                · have h := it_t h c23
                  refine lv_tableIn (off := 100) (tgt := 101) hx hb dX10_total_1 (by rw [c23]; decide) (by rw [c23]; decide) (by rw [c23]; rfl) (by decide) ?_
                  refine lv_aload_n hx hb dX10_total_101 rfl (lv_at hl 0 rfl) ?_
                  refine gf_X10_28 X M hS dX10_total_102 ?_
                  refine lv_iconst (v := (-1)) hx hb dX10_total_105 (by decide) ?_
                  obtain ⟨x25, e24, h⟩ := bd_e h
                  refine u_cVi X M hl.1 (kX3_faresInLogs hS hV e24) cw_X10_91 ⟨by decide, by decide⟩ (rc_X3 X M hS) rfl rfl (Nat.le_of_ble_eq_true rfl) ⟨Nat.zero_le _, Nat.zero_le _⟩ dX10_total_106 (fun H locs M n26 => ?_)
                  exact u_iret X hret M (Option.some.inj h) (rfl) rfl dX10_total_109
                · have h := it_f h c23
                  by_cases c27 : a1 = 8
                  · have h := it_t h c27
                    refine lv_tableIn (off := 109) (tgt := 110) hx hb dX10_total_1 (by rw [c27]; decide) (by rw [c27]; decide) (by rw [c27]; rfl) (by decide) ?_
                    refine lv_aload_n hx hb dX10_total_110 rfl (lv_at hl 0 rfl) ?_
                    obtain ⟨x28, e29, h⟩ := lt_e h
                    refine gf_X10_64 X M hS hV e29 dX10_total_111 ?_
                    exact u_iret X hret M (Option.some.inj h) (rfl) rfl dX10_total_114
                  · have h := it_f h c27
                    by_cases c30 : a1 = 9
                    · have h := it_t h c30
                      refine lv_tableIn (off := 114) (tgt := 115) hx hb dX10_total_1 (by rw [c30]; decide) (by rw [c30]; decide) (by rw [c30]; rfl) (by decide) ?_
                      refine lv_aload_n hx hb dX10_total_115 rfl (lv_at hl 0 rfl) ?_
                      obtain ⟨x31, e32, h⟩ := lt_e h
                      refine gf_X10_67 X M hS hV e32 dX10_total_116 ?_
                      exact u_iret X hret M (Option.some.inj h) (rfl) rfl dX10_total_119
                    · have h := it_f h c30
                      have tc1 := lv_neT (a := 0) c1 (by decide)
                      have tc4 := lv_neT (a := 1) c4 (by decide)
                      have tc7 := lv_neT (a := 2) c7 (by decide)
                      have tc10 := lv_neT (a := 3) c10 (by decide)
                      have tc13 := lv_neT (a := 4) c13 (by decide)
                      have tc16 := lv_neT (a := 5) c16 (by decide)
                      have tc19 := lv_neT (a := 6) c19 (by decide)
                      have tc23 := lv_neT (a := 7) c23 (by decide)
                      have tc27 := lv_neT (a := 8) c27 (by decide)
                      have tc30 := lv_neT (a := 9) c30 (by decide)
                      refine lv_tableOut (tgt := 120) hx hb dX10_total_1 (by omega) (by decide) ?_
                      refine lv_aload_n hx hb dX10_total_120 rfl (lv_at hl 0 rfl) ?_
                      refine gf_X10_21 X M hS dX10_total_121 ?_
                      obtain ⟨x34, e33, h⟩ := bd_e h
                      refine u_cVi X M hl.1 (kX5_blockedSet hS hV e33) cw_X10_94 ⟨by decide, by decide⟩ (rc_X5 X M hS) rfl rfl (Nat.le_of_ble_eq_true rfl) ⟨Nat.zero_le _, Nat.zero_le _⟩ dX10_total_124 (fun H locs M n35 => ?_)
                      exact u_iret X hret M (Option.some.inj h) (rfl) rfl dX10_total_127
def fX10_accountNumber (S : (Nat → Nat → Int32)) (a1 : Int32) (a2 : Int32) : Option Int32 :=
  if a2 = 0 then
    lt_ (fget 8 (S 12) a1) fun x3 =>
    some x3
  else if a2 = 1 then
    lt_ (fget 8 (S 14) a1) fun x7 =>
    some x7
  else if a2 = 2 then
    lt_ (fget 8 (S 18) a1) fun x11 =>
    some x11
  else if a2 = 3 then
    lt_ (fget 8 (S 16) a1) fun x15 =>
    some x15
  else if a2 = 4 then
    lt_ (fX5_isBlocked S a1) fun x19 =>
    if x19 = 0 then
      some 0
    else
      some 1
  else if a2 = 5 then
    bd (fX0_countOf S a1) fun x24 =>
    some x24
  else if a2 = 6 then
    bd (fX3_ridesInLogs S a1) fun x28 =>
    some x28
  else 
  bd (fX3_faresInLogs S a1) fun x31 =>
  some x31
set_option maxHeartbeats 4000000 in
set_option maxRecDepth 20000 in
theorem kX10_accountNumber {l : Launch} {G : UG} {V : uV} {t : Nat} (hS : uSt G t) {S : (Nat → Nat → Int32)} (hV : V t = S) {a1 : Int32} {a2 : Int32} {r : Int32} (h : fX10_accountNumber S a1 a2 = some r) : uMi l G yX10_accountNumber cX10_accountNumber 3 .int (uR 3 69) [.ref (ga G t 0), .int a1, .int a2] V r V := by
  refine uMi_of rfl (Nat.le_of_ble_eq_true rfl) (fun p e s m args below meth c ls X hret hl M => ?_)
  have hl : lv_has ls 3 [(0, .ref (ga G t 0)), (1, .int a1), (2, .int a2)] := hl
  have hx := X.hx
  have hb := X.hb
  unfold fX10_accountNumber at h
  refine lv_iload_n hx hb dX10_accountNumber_0 rfl (lv_at hl 2 rfl) ?_
  by_cases c1 : a2 = 0
  · have h := it_t h c1
    refine lv_tableIn (off := 43) (tgt := 44) hx hb dX10_accountNumber_1 (by rw [c1]; decide) (by rw [c1]; decide) (by rw [c1]; rfl) (by decide) ?_
    refine lv_aload_n hx hb dX10_accountNumber_44 rfl (lv_at hl 0 rfl) ?_
    refine gf_X10_21 X M hS dX10_accountNumber_45 ?_
    refine gf_X10_98 X M hS dX10_accountNumber_48 ?_
    refine lv_iload_n hx hb dX10_accountNumber_51 rfl (lv_at hl 1 rfl) ?_
    obtain ⟨x3, e2, h⟩ := lt_e h
    refine u_cVi X M hl.1 (kX6_get (uRw11 hS) (congrFun hV 12) e2.symm) cw_X10_101 ⟨by decide, by decide⟩ (uR_recv X M (uRw11 hS)) rfl rfl (Nat.le_of_ble_eq_true rfl) ⟨Nat.zero_le _, Nat.zero_le _⟩ dX10_accountNumber_52 (fun H locs M n4 => ?_)
    exact u_iret X hret M (Option.some.inj h) (rfl) rfl dX10_accountNumber_55
  · have h := it_f h c1
    by_cases c5 : a2 = 1
    · have h := it_t h c5
      refine lv_tableIn (off := 55) (tgt := 56) hx hb dX10_accountNumber_1 (by rw [c5]; decide) (by rw [c5]; decide) (by rw [c5]; rfl) (by decide) ?_
      refine lv_aload_n hx hb dX10_accountNumber_56 rfl (lv_at hl 0 rfl) ?_
      refine gf_X10_21 X M hS dX10_accountNumber_57 ?_
      refine gf_X10_104 X M hS dX10_accountNumber_60 ?_
      refine lv_iload_n hx hb dX10_accountNumber_63 rfl (lv_at hl 1 rfl) ?_
      obtain ⟨x7, e6, h⟩ := lt_e h
      refine u_cVi X M hl.1 (kX6_get (uRw13 hS) (congrFun hV 14) e6.symm) cw_X10_101 ⟨by decide, by decide⟩ (uR_recv X M (uRw13 hS)) rfl rfl (Nat.le_of_ble_eq_true rfl) ⟨Nat.zero_le _, Nat.zero_le _⟩ dX10_accountNumber_64 (fun H locs M n8 => ?_)
      exact u_iret X hret M (Option.some.inj h) (rfl) rfl dX10_accountNumber_67
    · have h := it_f h c5
      by_cases c9 : a2 = 2
      · have h := it_t h c9
        refine lv_tableIn (off := 67) (tgt := 68) hx hb dX10_accountNumber_1 (by rw [c9]; decide) (by rw [c9]; decide) (by rw [c9]; rfl) (by decide) ?_
        refine lv_aload_n hx hb dX10_accountNumber_68 rfl (lv_at hl 0 rfl) ?_
        refine gf_X10_21 X M hS dX10_accountNumber_69 ?_
        refine gf_X10_107 X M hS dX10_accountNumber_72 ?_
        refine lv_iload_n hx hb dX10_accountNumber_75 rfl (lv_at hl 1 rfl) ?_
        obtain ⟨x11, e10, h⟩ := lt_e h
        refine u_cVi X M hl.1 (kX6_get (uRw17 hS) (congrFun hV 18) e10.symm) cw_X10_101 ⟨by decide, by decide⟩ (uR_recv X M (uRw17 hS)) rfl rfl (Nat.le_of_ble_eq_true rfl) ⟨Nat.zero_le _, Nat.zero_le _⟩ dX10_accountNumber_76 (fun H locs M n12 => ?_)
        exact u_iret X hret M (Option.some.inj h) (rfl) rfl dX10_accountNumber_79
      · have h := it_f h c9
        by_cases c13 : a2 = 3
        · have h := it_t h c13
          refine lv_tableIn (off := 79) (tgt := 80) hx hb dX10_accountNumber_1 (by rw [c13]; decide) (by rw [c13]; decide) (by rw [c13]; rfl) (by decide) ?_
          refine lv_aload_n hx hb dX10_accountNumber_80 rfl (lv_at hl 0 rfl) ?_
          refine gf_X10_21 X M hS dX10_accountNumber_81 ?_
          refine gf_X10_110 X M hS dX10_accountNumber_84 ?_
          refine lv_iload_n hx hb dX10_accountNumber_87 rfl (lv_at hl 1 rfl) ?_
          obtain ⟨x15, e14, h⟩ := lt_e h
          refine u_cVi X M hl.1 (kX6_get (uRw15 hS) (congrFun hV 16) e14.symm) cw_X10_101 ⟨by decide, by decide⟩ (uR_recv X M (uRw15 hS)) rfl rfl (Nat.le_of_ble_eq_true rfl) ⟨Nat.zero_le _, Nat.zero_le _⟩ dX10_accountNumber_88 (fun H locs M n16 => ?_)
          exact u_iret X hret M (Option.some.inj h) (rfl) rfl dX10_accountNumber_91
        · have h := it_f h c13
          by_cases c17 : a2 = 4
          · have h := it_t h c17
            refine lv_tableIn (off := 91) (tgt := 92) hx hb dX10_accountNumber_1 (by rw [c17]; decide) (by rw [c17]; decide) (by rw [c17]; rfl) (by decide) ?_
            refine lv_aload_n hx hb dX10_accountNumber_92 rfl (lv_at hl 0 rfl) ?_
            refine gf_X10_21 X M hS dX10_accountNumber_93 ?_
            refine lv_iload_n hx hb dX10_accountNumber_96 rfl (lv_at hl 1 rfl) ?_
            obtain ⟨x19, e18, h⟩ := lt_e h
            refine u_cVi X M hl.1 (kX5_isBlocked hS hV e18.symm) cw_X10_113 ⟨by decide, by decide⟩ (rc_X5 X M hS) rfl rfl (Nat.le_of_ble_eq_true rfl) ⟨Nat.zero_le _, Nat.zero_le _⟩ dX10_accountNumber_97 (fun H locs M n20 => ?_)
            refine lv_if_eq (tgt := 107) hx hb dX10_accountNumber_100 (by decide) (fun c21 => ?_) (fun c21 => ?_)
            · have h := it_t h c21
              refine lv_iconst (v := 0) hx hb dX10_accountNumber_107 (by decide) ?_
              exact u_iret X hret M (Option.some.inj h) (rfl) rfl dX10_accountNumber_108
            · have h := it_f h c21
              refine lv_iconst (v := 1) hx hb dX10_accountNumber_103 (by decide) ?_
              refine lv_goto (tgt := 108) hx hb dX10_accountNumber_104 (by decide) ?_
              exact u_iret X hret M (Option.some.inj h) (rfl) rfl dX10_accountNumber_108
          · have h := it_f h c17
            by_cases c22 : a2 = 5
            · have h := it_t h c22
              refine lv_tableIn (off := 108) (tgt := 109) hx hb dX10_accountNumber_1 (by rw [c22]; decide) (by rw [c22]; decide) (by rw [c22]; rfl) (by decide) ?_
              refine lv_aload_n hx hb dX10_accountNumber_109 rfl (lv_at hl 0 rfl) ?_
              refine gf_X10_12 X M hS dX10_accountNumber_110 ?_
              refine lv_iload_n hx hb dX10_accountNumber_113 rfl (lv_at hl 1 rfl) ?_
              obtain ⟨x24, e23, h⟩ := bd_e h
              refine u_cVi X M hl.1 (kX0_countOf hS hV e23) cw_X10_117 ⟨by decide, by decide⟩ (rc_X0 X M hS) rfl rfl (Nat.le_of_ble_eq_true rfl) ⟨Nat.zero_le _, Nat.zero_le _⟩ dX10_accountNumber_114 (fun H locs M n25 => ?_)
              exact u_iret X hret M (Option.some.inj h) (rfl) rfl dX10_accountNumber_117
            · have h := it_f h c22
              by_cases c26 : a2 = 6
              · have h := it_t h c26
                refine lv_tableIn (off := 117) (tgt := 118) hx hb dX10_accountNumber_1 (by rw [c26]; decide) (by rw [c26]; decide) (by rw [c26]; rfl) (by decide) ?_
                refine lv_aload_n hx hb dX10_accountNumber_118 rfl (lv_at hl 0 rfl) ?_
                refine gf_X10_28 X M hS dX10_accountNumber_119 ?_
                refine lv_iload_n hx hb dX10_accountNumber_122 rfl (lv_at hl 1 rfl) ?_
                obtain ⟨x28, e27, h⟩ := bd_e h
                refine u_cVi X M hl.1 (kX3_ridesInLogs hS hV e27) cw_X10_87 ⟨by decide, by decide⟩ (rc_X3 X M hS) rfl rfl (Nat.le_of_ble_eq_true rfl) ⟨Nat.zero_le _, Nat.zero_le _⟩ dX10_accountNumber_123 (fun H locs M n29 => ?_)
                exact u_iret X hret M (Option.some.inj h) (rfl) rfl dX10_accountNumber_126
              · have h := it_f h c26
                have tc1 := lv_neT (a := 0) c1 (by decide)
                have tc5 := lv_neT (a := 1) c5 (by decide)
                have tc9 := lv_neT (a := 2) c9 (by decide)
                have tc13 := lv_neT (a := 3) c13 (by decide)
                have tc17 := lv_neT (a := 4) c17 (by decide)
                have tc22 := lv_neT (a := 5) c22 (by decide)
                have tc26 := lv_neT (a := 6) c26 (by decide)
                refine lv_tableOut (tgt := 127) hx hb dX10_accountNumber_1 (by omega) (by decide) ?_
                refine lv_aload_n hx hb dX10_accountNumber_127 rfl (lv_at hl 0 rfl) ?_
                refine gf_X10_28 X M hS dX10_accountNumber_128 ?_
                refine lv_iload_n hx hb dX10_accountNumber_131 rfl (lv_at hl 1 rfl) ?_
                obtain ⟨x31, e30, h⟩ := bd_e h
                refine u_cVi X M hl.1 (kX3_faresInLogs hS hV e30) cw_X10_91 ⟨by decide, by decide⟩ (rc_X3 X M hS) rfl rfl (Nat.le_of_ble_eq_true rfl) ⟨Nat.zero_le _, Nat.zero_le _⟩ dX10_accountNumber_132 (fun H locs M n32 => ?_)
                exact u_iret X hret M (Option.some.inj h) (rfl) rfl dX10_accountNumber_135
def fX10_listAt (S : (Nat → Nat → Int32)) (a1 : Int32) : Option Int32 :=
  lt_ (fX3_isUp S a1) fun x2 =>
  if x2 = 0 then
    lt_ (fget 4 (S 25) a1) fun x6 =>
    some x6
  else
    bd (fX5_blockedSet S) fun x9 =>
    some x9
set_option maxHeartbeats 4000000 in
set_option maxRecDepth 20000 in
theorem kX10_listAt {l : Launch} {G : UG} {V : uV} {t : Nat} (hS : uSt G t) {S : (Nat → Nat → Int32)} (hV : V t = S) {a1 : Int32} {r : Int32} (h : fX10_listAt S a1 = some r) : uMi l G yX10_listAt cX10_listAt 2 .int (uR 3 64) [.ref (ga G t 0), .int a1] V r V := by
  refine uMi_of rfl (Nat.le_of_ble_eq_true rfl) (fun p e s m args below meth c ls X hret hl M => ?_)
  have hl : lv_has ls 2 [(0, .ref (ga G t 0)), (1, .int a1)] := hl
  have hx := X.hx
  have hb := X.hb
  unfold fX10_listAt at h
  refine lv_aload_n hx hb dX10_listAt_0 rfl (lv_at hl 0 rfl) ?_
  refine gf_X10_28 X M hS dX10_listAt_1 ?_
  refine lv_iload_n hx hb dX10_listAt_4 rfl (lv_at hl 1 rfl) ?_
  obtain ⟨x2, e1, h⟩ := lt_e h
  refine u_cVi X M hl.1 (kX3_isUp hS hV e1.symm) cw_X10_120 ⟨by decide, by decide⟩ (rc_X3 X M hS) rfl rfl (Nat.le_of_ble_eq_true rfl) ⟨Nat.zero_le _, Nat.zero_le _⟩ dX10_listAt_5 (fun H locs M n3 => ?_)
  refine lv_if_eq (tgt := 21) hx hb dX10_listAt_8 (by decide) (fun c4 => ?_) (fun c4 => ?_)
  · have h := it_t h c4
    refine lv_aload_n hx hb dX10_listAt_21 rfl (lv_at hl 0 rfl) ?_
    refine gf_X10_28 X M hS dX10_listAt_22 ?_
    refine gf_X10_123 X M hS dX10_listAt_25 ?_
    refine lv_iload_n hx hb dX10_listAt_28 rfl (lv_at hl 1 rfl) ?_
    obtain ⟨x6, e5, h⟩ := lt_e h
    refine u_cVi X M hl.1 (kX6_get (uRw24 hS) (congrFun hV 25) e5.symm) cw_X10_101 ⟨by decide, by decide⟩ (uR_recv X M (uRw24 hS)) rfl rfl (Nat.le_of_ble_eq_true rfl) ⟨Nat.zero_le _, Nat.zero_le _⟩ dX10_listAt_29 (fun H locs M n7 => ?_)
    exact u_iret X hret M (Option.some.inj h) (rfl) rfl dX10_listAt_32
  · have h := it_f h c4
    refine lv_aload_n hx hb dX10_listAt_11 rfl (lv_at hl 0 rfl) ?_
    refine gf_X10_21 X M hS dX10_listAt_12 ?_
    obtain ⟨x9, e8, h⟩ := bd_e h
    refine u_cVi X M hl.1 (kX5_blockedSet hS hV e8) cw_X10_94 ⟨by decide, by decide⟩ (rc_X5 X M hS) rfl rfl (Nat.le_of_ble_eq_true rfl) ⟨Nat.zero_le _, Nat.zero_le _⟩ dX10_listAt_15 (fun H locs M n10 => ?_)
    refine lv_goto (tgt := 32) hx hb dX10_listAt_18 (by decide) ?_
    exact u_iret X hret M (Option.some.inj h) (rfl) rfl dX10_listAt_32
def fX10_hasRoomForAccount (S : (Nat → Nat → Int32)) : Int32 :=
  lt_ (fX5_isFull S) fun x2 =>
  if x2 = 0 then
    lt_ (fX0_isFull S) fun x6 =>
    if x6 = 0 then
      1
    else
      0
  else
    0
set_option maxHeartbeats 4000000 in
set_option maxRecDepth 20000 in
theorem kX10_hasRoomForAccount {l : Launch} {G : UG} {V : uV} {t : Nat} (hS : uSt G t) {S : (Nat → Nat → Int32)} (hV : V t = S)  {r : Int32} (h : fX10_hasRoomForAccount S = r) : uMi l G yX10_hasRoomForAccount cX10_hasRoomForAccount 1 .boolean (uR 1 20) [.ref (ga G t 0)] V r V := by
  refine uMi_of rfl (Nat.le_of_ble_eq_true rfl) (fun p e s m args below meth c ls X hret hl M => ?_)
  have hl : lv_has ls 1 [(0, .ref (ga G t 0))] := hl
  have hx := X.hx
  have hb := X.hb
  unfold fX10_hasRoomForAccount at h
  refine lv_aload_n hx hb dX10_hasRoomForAccount_0 rfl (lv_at hl 0 rfl) ?_
  refine gf_X10_21 X M hS dX10_hasRoomForAccount_1 ?_
  obtain ⟨x2, e1, h⟩ := lt_e h
  refine u_cVi X M hl.1 (kX5_isFull hS hV e1.symm) cw_X10_126 ⟨by decide, by decide⟩ (rc_X5 X M hS) rfl rfl (Nat.le_of_ble_eq_true rfl) ⟨Nat.zero_le _, Nat.zero_le _⟩ dX10_hasRoomForAccount_4 (fun H locs M n3 => ?_)
  refine lv_if_ne (tgt := 24) hx hb dX10_hasRoomForAccount_7 (by decide) (fun c4 => ?_) (fun c4 => ?_)
  · have h := it_f h c4
    refine lv_iconst (v := 0) hx hb dX10_hasRoomForAccount_24 (by decide) ?_
    exact u_iret X hret M h (rfl) rfl dX10_hasRoomForAccount_25
  · have h := it_t h c4
    refine lv_aload_n hx hb dX10_hasRoomForAccount_10 rfl (lv_at hl 0 rfl) ?_
    refine gf_X10_12 X M hS dX10_hasRoomForAccount_11 ?_
    obtain ⟨x6, e5, h⟩ := lt_e h
    refine u_cVi X M hl.1 (kX0_isFull hS hV e5.symm) cw_X10_130 ⟨by decide, by decide⟩ (rc_X0 X M hS) rfl rfl (Nat.le_of_ble_eq_true rfl) ⟨Nat.zero_le _, Nat.zero_le _⟩ dX10_hasRoomForAccount_14 (fun H locs M n7 => ?_)
    refine lv_if_ne (tgt := 24) hx hb dX10_hasRoomForAccount_17 (by decide) (fun c8 => ?_) (fun c8 => ?_)
    · have h := it_f h c8
      refine lv_iconst (v := 0) hx hb dX10_hasRoomForAccount_24 (by decide) ?_
      exact u_iret X hret M h (rfl) rfl dX10_hasRoomForAccount_25
    · have h := it_t h c8
      refine lv_iconst (v := 1) hx hb dX10_hasRoomForAccount_20 (by decide) ?_
      refine lv_goto (tgt := 25) hx hb dX10_hasRoomForAccount_21 (by decide) ?_
      exact u_iret X hret M h (rfl) rfl dX10_hasRoomForAccount_25
def fX10_makeAccount (S : (Nat → Nat → Int32)) (a1 : Int32) : Option (Int32 × (Nat → Nat → Int32)) :=
  bd2 (fX5_make S a1) fun x2 S3 =>
  bd2 (fX0_make S3 x2 a1 0 (-1)) fun x6 S7 =>
  some (x6, S7)
set_option maxHeartbeats 4000000 in
set_option maxRecDepth 20000 in
theorem kX10_makeAccount {l : Launch} {G : UG} {V : uV} {t : Nat} (hS : uSt G t) {S S' : (Nat → Nat → Int32)} {a1 : Int32} {r : Int32} (h : fX10_makeAccount S a1 = some (r, S')) : uMi l G yX10_makeAccount cX10_makeAccount 2 .int (uR 2 47) [.ref (ga G t 0), .int a1] (va_up V t S) r (va_up V t S') := by
  refine uMi_of rfl (Nat.le_of_ble_eq_true rfl) (fun p e s m args below meth c ls X hret hl M => ?_)
  have hl : lv_has ls 2 [(0, .ref (ga G t 0)), (1, .int a1)] := hl
  have hx := X.hx
  have hb := X.hb
  unfold fX10_makeAccount at h
  refine lv_aload_n hx hb dX10_makeAccount_0 rfl (lv_at hl 0 rfl) ?_
  refine gf_X10_12 X M hS dX10_makeAccount_1 ?_
  refine lv_aload_n hx hb dX10_makeAccount_4 rfl (lv_at hl 0 rfl) ?_
  refine gf_X10_21 X M hS dX10_makeAccount_5 ?_
  refine lv_iload_n hx hb dX10_makeAccount_8 rfl (lv_at hl 1 rfl) ?_
  obtain ⟨x2, S3, e1, h⟩ := bd2_e h
  refine u_cVi X M hl.1 (kX5_make hS e1) cw_X10_131 ⟨by decide, by decide⟩ (rc_X5 X M hS) rfl rfl (Nat.le_of_ble_eq_true rfl) ⟨Nat.zero_le _, Nat.zero_le _⟩ dX10_makeAccount_9 (fun H locs M n4 => ?_)
  refine lv_iload_n hx hb dX10_makeAccount_12 rfl (lv_at hl 1 rfl) ?_
  refine lv_iconst (v := 0) hx hb dX10_makeAccount_13 (by decide) ?_
  refine lv_iconst (v := (-1)) hx hb dX10_makeAccount_14 (by decide) ?_
  obtain ⟨x6, S7, e5, h⟩ := bd2_e h
  refine u_cVi X M hl.1 (kX0_make hS e5) cw_X10_134 ⟨by decide, by decide⟩ (rc_X0 X M hS) rfl rfl (Nat.le_of_ble_eq_true rfl) ⟨Nat.zero_le _, Nat.zero_le _⟩ dX10_makeAccount_15 (fun H locs M n8 => ?_)
  exact u_iret X hret M (rt2 h).1 (congrArg (va_up V t) ((rt2 h).2)) rfl dX10_makeAccount_18
def fX10_takeDown (S : (Nat → Nat → Int32)) (a1 : Int32) : Option (Int32 × (Nat → Nat → Int32)) :=
  bd (fX5_blockedSet S) fun x2 =>
  lt_ (va_up S 25 (fput 4 (S 25) a1 x2)) fun S5 =>
  bd (fX3_setLine S5 a1 0) fun S8 =>
  lt_ (fget 4 (S8 25) a1) fun x11 =>
  some (x11, S8)
set_option maxHeartbeats 4000000 in
set_option maxRecDepth 20000 in
theorem kX10_takeDown {l : Launch} {G : UG} {V : uV} {t : Nat} (hS : uSt G t) {S S' : (Nat → Nat → Int32)} {a1 : Int32} {r : Int32} (h : fX10_takeDown S a1 = some (r, S')) : uMi l G yX10_takeDown cX10_takeDown 2 .int (uR 3 64) [.ref (ga G t 0), .int a1] (va_up V t S) r (va_up V t S') := by
  refine uMi_of rfl (Nat.le_of_ble_eq_true rfl) (fun p e s m args below meth c ls X hret hl M => ?_)
  have hl : lv_has ls 2 [(0, .ref (ga G t 0)), (1, .int a1)] := hl
  have hx := X.hx
  have hb := X.hb
  unfold fX10_takeDown at h
  refine lv_aload_n hx hb dX10_takeDown_0 rfl (lv_at hl 0 rfl) ?_
  refine gf_X10_28 X M hS dX10_takeDown_1 ?_
  refine gf_X10_123 X M hS dX10_takeDown_4 ?_
  refine lv_iload_n hx hb dX10_takeDown_7 rfl (lv_at hl 1 rfl) ?_
  refine lv_aload_n hx hb dX10_takeDown_8 rfl (lv_at hl 0 rfl) ?_
  refine gf_X10_21 X M hS dX10_takeDown_9 ?_
  obtain ⟨x2, e1, h⟩ := bd_e h
  refine u_cVi X M hl.1 (kX5_blockedSet hS (va_up_s V t _) e1) cw_X10_94 ⟨by decide, by decide⟩ (rc_X5 X M hS) rfl rfl (Nat.le_of_ble_eq_true rfl) ⟨Nat.zero_le _, Nat.zero_le _⟩ dX10_takeDown_12 (fun H locs M n3 => ?_)
  obtain ⟨S5, e4, h⟩ := lt_e h
  refine u_cVv X M hl.1 (kX6_putS (uRw24 hS) e4) cw_X10_47 ⟨by decide, by decide⟩ (uR_recv X M (uRw24 hS)) rfl rfl (Nat.le_of_ble_eq_true rfl) ⟨Nat.zero_le _, Nat.zero_le _⟩ dX10_takeDown_15 (fun H locs M => ?_)
  refine lv_aload_n hx hb dX10_takeDown_18 rfl (lv_at hl 0 rfl) ?_
  refine gf_X10_28 X M hS dX10_takeDown_19 ?_
  refine lv_iload_n hx hb dX10_takeDown_22 rfl (lv_at hl 1 rfl) ?_
  refine lv_iconst (v := 0) hx hb dX10_takeDown_23 (by decide) ?_
  obtain ⟨S8, e7, h⟩ := bd_e h
  refine u_cVv X M hl.1 (kX3_setLine hS e7) cw_X10_137 ⟨by decide, by decide⟩ (rc_X3 X M hS) rfl rfl (Nat.le_of_ble_eq_true rfl) ⟨Nat.zero_le _, Nat.zero_le _⟩ dX10_takeDown_24 (fun H locs M => ?_)
  refine lv_aload_n hx hb dX10_takeDown_27 rfl (lv_at hl 0 rfl) ?_
  refine gf_X10_28 X M hS dX10_takeDown_28 ?_
  refine gf_X10_123 X M hS dX10_takeDown_31 ?_
  refine lv_iload_n hx hb dX10_takeDown_34 rfl (lv_at hl 1 rfl) ?_
  obtain ⟨x11, e10, h⟩ := lt_e h
  refine u_cVi X M hl.1 (kX6_get (uRw24 hS) (congrFun (va_up_s V t _) 25) e10.symm) cw_X10_101 ⟨by decide, by decide⟩ (uR_recv X M (uRw24 hS)) rfl rfl (Nat.le_of_ble_eq_true rfl) ⟨Nat.zero_le _, Nat.zero_le _⟩ dX10_takeDown_35 (fun H locs M n12 => ?_)
  exact u_iret X hret M (rt2 h).1 (congrArg (va_up V t) ((rt2 h).2)) rfl dX10_takeDown_38
def fX10_settle (S : (Nat → Nat → Int32)) (a1 : Int32) (a2 : Int32) (a3 : Int32) : Option (Nat → Nat → Int32) :=
  lt_ (fget 4 (S 39) 3) fun x2 =>
  bd2 (fX5_settleRide S a1 a2 a3 x2) fun x5 S6 =>
  if x5 = 0 then
    lt_ (S6 0 7) fun x9 =>
    lt_ (va_up S6 0 (upd (S6 0) 7 (x9 + 1))) fun S11 =>
    some S11
  else
    lt_ (S6 0 5) fun x13 =>
    lt_ (va_up S6 0 (upd (S6 0) 5 (x13 + 1))) fun S15 =>
    lt_ (S15 0 6) fun x17 =>
    lt_ (va_up S15 0 (upd (S15 0) 6 (x17 + a3))) fun S19 =>
    some S19
set_option maxHeartbeats 4000000 in
set_option maxRecDepth 20000 in
theorem kX10_settle {l : Launch} {G : UG} {V : uV} {t : Nat} (hS : uSt G t) {S S' : (Nat → Nat → Int32)} {a1 : Int32} {a2 : Int32} {a3 : Int32} (h : fX10_settle S a1 a2 a3 = some S') : uMv l G yX10_settle cX10_settle 4 (uR 2 49) [.ref (ga G t 0), .int a1, .int a2, .int a3] (va_up V t S) (va_up V t S') := by
  refine uMv_of rfl (Nat.le_of_ble_eq_true rfl) (fun p e s m args below meth c ls X hret hl M => ?_)
  have hl : lv_has ls 4 [(0, .ref (ga G t 0)), (1, .int a1), (2, .int a2), (3, .int a3)] := hl
  have hx := X.hx
  have hb := X.hb
  unfold fX10_settle at h
  refine lv_aload_n hx hb dX10_settle_0 rfl (lv_at hl 0 rfl) ?_
  refine gf_X10_21 X M hS dX10_settle_1 ?_
  refine lv_iload_n hx hb dX10_settle_4 rfl (lv_at hl 1 rfl) ?_
  refine lv_iload_n hx hb dX10_settle_5 rfl (lv_at hl 2 rfl) ?_
  refine lv_iload_n hx hb dX10_settle_6 rfl (lv_at hl 3 rfl) ?_
  refine lv_aload_n hx hb dX10_settle_7 rfl (lv_at hl 0 rfl) ?_
  refine gf_X10_37 X M hS dX10_settle_8 ?_
  refine lv_iconst (v := 3) hx hb dX10_settle_11 (by decide) ?_
  obtain ⟨x2, e1, h⟩ := lt_e h
  refine u_cVi X M hl.1 (kX6_get (uRw38 hS) (congrFun (va_up_s V t _) 39) e1.symm) cw_X10_101 ⟨by decide, by decide⟩ (uR_recv X M (uRw38 hS)) rfl rfl (Nat.le_of_ble_eq_true rfl) ⟨Nat.zero_le _, Nat.zero_le _⟩ dX10_settle_12 (fun H locs M n3 => ?_)
  obtain ⟨x5, S6, e4, h⟩ := bd2_e h
  refine u_cVi X M hl.1 (kX5_settleRide hS e4) cw_X10_155 ⟨by decide, by decide⟩ (rc_X5 X M hS) rfl rfl (Nat.le_of_ble_eq_true rfl) ⟨Nat.zero_le _, Nat.zero_le _⟩ dX10_settle_15 (fun H locs M n7 => ?_)
  refine lv_if_eq (tgt := 44) hx hb dX10_settle_18 (by decide) (fun c8 => ?_) (fun c8 => ?_)
  · have h := it_t h c8
    refine lv_aload_n hx hb dX10_settle_44 rfl (lv_at hl 0 rfl) ?_
    refine lv_dup hx hb dX10_settle_45 rfl ?_
    obtain ⟨x9, e10, h⟩ := lt_e h
    refine gf_X10_61 X M hS (va_up_s V t _) e10 dX10_settle_46 ?_
    refine lv_iconst (v := 1) hx hb dX10_settle_49 (by decide) ?_
    refine lv_iadd hx hb dX10_settle_50 ?_
    obtain ⟨S11, e12, h⟩ := lt_e h
    refine pf_X10_61 X M hS e12 dX10_settle_51 (fun H locs M => ?_)
    exact u_vret X hret M (congrArg (va_up V t) (Option.some.inj h)) dX10_settle_54
  · have h := it_f h c8
    refine lv_aload_n hx hb dX10_settle_21 rfl (lv_at hl 0 rfl) ?_
    refine lv_dup hx hb dX10_settle_22 rfl ?_
    obtain ⟨x13, e14, h⟩ := lt_e h
    refine gf_X10_55 X M hS (va_up_s V t _) e14 dX10_settle_23 ?_
    refine lv_iconst (v := 1) hx hb dX10_settle_26 (by decide) ?_
    refine lv_iadd hx hb dX10_settle_27 ?_
    obtain ⟨S15, e16, h⟩ := lt_e h
    refine pf_X10_55 X M hS e16 dX10_settle_28 (fun H locs M => ?_)
    refine lv_aload_n hx hb dX10_settle_31 rfl (lv_at hl 0 rfl) ?_
    refine lv_dup hx hb dX10_settle_32 rfl ?_
    obtain ⟨x17, e18, h⟩ := lt_e h
    refine gf_X10_58 X M hS (va_up_s V t _) e18 dX10_settle_33 ?_
    refine lv_iload_n hx hb dX10_settle_36 rfl (lv_at hl 3 rfl) ?_
    refine lv_iadd hx hb dX10_settle_37 ?_
    obtain ⟨S19, e20, h⟩ := lt_e h
    refine pf_X10_58 X M hS e20 dX10_settle_38 (fun H locs M => ?_)
    refine lv_goto (tgt := 54) hx hb dX10_settle_41 (by decide) ?_
    exact u_vret X hret M (congrArg (va_up V t) (Option.some.inj h)) dX10_settle_54
def fX10_bringUp_L17 (n : Nat) (S : (Nat → Nat → Int32)) (y1 : Int32) (y2 : Int32) (y3 : Int32) (y4 : Int32) : Option (Int32 × (Nat → Nat → Int32)) :=
  match n with
  | 0 => none
  | n + 1 =>
    if y3 ≤ y4 then
      bd (fX3_emptyLog S y1) fun S8 =>
      bd (fX3_setLine S8 y1 1) fun S11 =>
      lt_ (S11 0 7) fun x13 =>
      some ((x13 - y2), S11)
    else
      lt_ (fX3_loggedNumber S y1 y4 0) fun x16 =>
      lt_ (fX3_loggedNumber S y1 y4 1) fun x19 =>
      lt_ (fX3_loggedNumber S y1 y4 2) fun x22 =>
      bd (fX10_settle S x16 x19 x22) fun S25 =>
      lt_ (y4 + 1) fun x27 =>
      fX10_bringUp_L17 n S25 y1 y2 y3 x27
set_option maxHeartbeats 4000000 in
set_option maxRecDepth 20000 in
theorem lpX10_bringUp_17 {l : Launch} {G : UG} {V : uV} {t : Nat} (hS : uSt G t) {S' : (Nat → Nat → Int32)} {r : Int32} {p : Program} {e : Env} {s : State} {m : MethodId} {args : Array Value} {below : List Frame} {meth : Method} {c : Code} (X : UC p s m args meth c cX10_bringUp 5 RX10 G) (hret : meth.sig.returnType = some .int) : ∀ (n : Nat) (S : (Nat → Nat → Int32)) (y1 : Int32) (y2 : Int32) (y3 : Int32) (y4 : Int32) (H : Heap) (locs : List Loc) (ls : Array Slot), fX10_bringUp_L17  n S y1 y2 y3 y4 = some (r, S') → UM G (va_up V t S) s H locs → lv_has ls 5 [(0, .ref (ga G t 0)), (1, .int y1), (2, .int y2), (3, .int y3), (4, .int y4)] → W p l e (uR 3 72) s m args below meth c H locs 0 0 (MQ below (uQi G .int r (va_up V t S')) args s 0 0 (uA G)) (F0 m 17 ls []) := by
  intro n
  have hx := X.hx
  have hb := X.hb
  induction n with
  | zero => intro S y1 y2 y3 y4 H locs ls h M hl; rw [fX10_bringUp_L17] at h; cases h
  | succ n ih =>
    intro S y1 y2 y3 y4 H locs ls h M hl
    rw [fX10_bringUp_L17] at h
    refine lv_iload hx hb dX10_bringUp_17 (lv_at hl 4 rfl) ?_
    refine lv_iload_n hx hb dX10_bringUp_19 rfl (lv_at hl 3 rfl) ?_
    refine lv_icmp_ge (tgt := 66) hx hb dX10_bringUp_20 (by decide) (fun c6 => ?_) (fun c6 => ?_)
    · have h := it_t h c6
      refine lv_aload_n hx hb dX10_bringUp_66 rfl (lv_at hl 0 rfl) ?_
      refine gf_X10_28 X M hS dX10_bringUp_67 ?_
      refine lv_iload_n hx hb dX10_bringUp_70 rfl (lv_at hl 1 rfl) ?_
      obtain ⟨S8, e7, h⟩ := bd_e h
      refine u_cVv X M hl.1 (kX3_emptyLog hS e7) cw_X10_152 ⟨by decide, by decide⟩ (rc_X3 X M hS) rfl rfl (Nat.le_of_ble_eq_true rfl) ⟨Nat.zero_le _, Nat.zero_le _⟩ dX10_bringUp_71 (fun H locs M => ?_)
      refine lv_aload_n hx hb dX10_bringUp_74 rfl (lv_at hl 0 rfl) ?_
      refine gf_X10_28 X M hS dX10_bringUp_75 ?_
      refine lv_iload_n hx hb dX10_bringUp_78 rfl (lv_at hl 1 rfl) ?_
      refine lv_iconst (v := 1) hx hb dX10_bringUp_79 (by decide) ?_
      obtain ⟨S11, e10, h⟩ := bd_e h
      refine u_cVv X M hl.1 (kX3_setLine hS e10) cw_X10_137 ⟨by decide, by decide⟩ (rc_X3 X M hS) rfl rfl (Nat.le_of_ble_eq_true rfl) ⟨Nat.zero_le _, Nat.zero_le _⟩ dX10_bringUp_80 (fun H locs M => ?_)
      refine lv_aload_n hx hb dX10_bringUp_83 rfl (lv_at hl 0 rfl) ?_
      obtain ⟨x13, e14, h⟩ := lt_e h
      refine gf_X10_61 X M hS (va_up_s V t _) e14 dX10_bringUp_84 ?_
      refine lv_iload_n hx hb dX10_bringUp_87 rfl (lv_at hl 2 rfl) ?_
      refine lv_isub hx hb dX10_bringUp_88 ?_
      exact u_iret X hret M (rt2 h).1 (congrArg (va_up V t) ((rt2 h).2)) rfl dX10_bringUp_89
    · have h := it_f h c6
      refine lv_aload_n hx hb dX10_bringUp_23 rfl (lv_at hl 0 rfl) ?_
      refine lv_aload_n hx hb dX10_bringUp_24 rfl (lv_at hl 0 rfl) ?_
      refine gf_X10_28 X M hS dX10_bringUp_25 ?_
      refine lv_iload_n hx hb dX10_bringUp_28 rfl (lv_at hl 1 rfl) ?_
      refine lv_iload hx hb dX10_bringUp_29 (lv_at hl 4 rfl) ?_
      refine lv_iconst (v := 0) hx hb dX10_bringUp_31 (by decide) ?_
      obtain ⟨x16, e15, h⟩ := lt_e h
      refine u_cVi X M hl.1 (kX3_loggedNumber hS (va_up_s V t _) e15.symm) cw_X10_144 ⟨by decide, by decide⟩ (rc_X3 X M hS) rfl rfl (Nat.le_of_ble_eq_true rfl) ⟨Nat.zero_le _, Nat.zero_le _⟩ dX10_bringUp_32 (fun H locs M n17 => ?_)
      refine lv_aload_n hx hb dX10_bringUp_35 rfl (lv_at hl 0 rfl) ?_
      refine gf_X10_28 X M hS dX10_bringUp_36 ?_
      refine lv_iload_n hx hb dX10_bringUp_39 rfl (lv_at hl 1 rfl) ?_
      refine lv_iload hx hb dX10_bringUp_40 (lv_at hl 4 rfl) ?_
      refine lv_iconst (v := 1) hx hb dX10_bringUp_42 (by decide) ?_
      obtain ⟨x19, e18, h⟩ := lt_e h
      refine u_cVi X M hl.1 (kX3_loggedNumber hS (va_up_s V t _) e18.symm) cw_X10_144 ⟨by decide, by decide⟩ (rc_X3 X M hS) rfl rfl (Nat.le_of_ble_eq_true rfl) ⟨Nat.zero_le _, Nat.zero_le _⟩ dX10_bringUp_43 (fun H locs M n20 => ?_)
      refine lv_aload_n hx hb dX10_bringUp_46 rfl (lv_at hl 0 rfl) ?_
      refine gf_X10_28 X M hS dX10_bringUp_47 ?_
      refine lv_iload_n hx hb dX10_bringUp_50 rfl (lv_at hl 1 rfl) ?_
      refine lv_iload hx hb dX10_bringUp_51 (lv_at hl 4 rfl) ?_
      refine lv_iconst (v := 2) hx hb dX10_bringUp_53 (by decide) ?_
      obtain ⟨x22, e21, h⟩ := lt_e h
      refine u_cVi X M hl.1 (kX3_loggedNumber hS (va_up_s V t _) e21.symm) cw_X10_144 ⟨by decide, by decide⟩ (rc_X3 X M hS) rfl rfl (Nat.le_of_ble_eq_true rfl) ⟨Nat.zero_le _, Nat.zero_le _⟩ dX10_bringUp_54 (fun H locs M n23 => ?_)
      obtain ⟨S25, e24, h⟩ := bd_e h
      refine u_cVv X M hl.1 (kX10_settle hS e24) cw_X10_148 ⟨by decide, by decide⟩ (rc_X10 X M hS) rfl rfl (Nat.le_of_ble_eq_true rfl) ⟨Nat.zero_le _, Nat.zero_le _⟩ dX10_bringUp_57 (fun H locs M => ?_)
      obtain ⟨x27, e28, h⟩ := lt_e h
      refine lv_iinc (v := x27) (lv' := [(4, .int x27), (0, .ref (ga G t 0)), (1, .int y1), (2, .int y2), (3, .int y3)]) hx hb dX10_bringUp_60 hl (k := 4) rfl (by rw [e28]; rfl) (by decide) rfl (fun ls hl => ?_)
      refine lv_goto (tgt := 17) hx hb dX10_bringUp_63 (by decide) ?_
      exact ih _ _ _ _ _ _ _ _ h M (lv_sub hl [1, 2, 3, 4, 0] rfl)
def fX10_bringUp (S : (Nat → Nat → Int32)) (a1 : Int32) : Option (Int32 × (Nat → Nat → Int32)) :=
  lt_ (S 0 7) fun x1 =>
  lt_ (fX3_logSize S a1) fun x4 =>
  fX10_bringUp_L17 3000 S a1 x1 x4 0
set_option maxHeartbeats 4000000 in
set_option maxRecDepth 20000 in
theorem kX10_bringUp {l : Launch} {G : UG} {V : uV} {t : Nat} (hS : uSt G t) {S S' : (Nat → Nat → Int32)} {a1 : Int32} {r : Int32} (h : fX10_bringUp S a1 = some (r, S')) : uMi l G yX10_bringUp cX10_bringUp 5 .int (uR 3 72) [.ref (ga G t 0), .int a1] (va_up V t S) r (va_up V t S') := by
  refine uMi_of rfl (Nat.le_of_ble_eq_true rfl) (fun p e s m args below meth c ls X hret hl M => ?_)
  have hl : lv_has ls 5 [(0, .ref (ga G t 0)), (1, .int a1)] := hl
  have hx := X.hx
  have hb := X.hb
  unfold fX10_bringUp at h
  refine lv_aload_n hx hb dX10_bringUp_0 rfl (lv_at hl 0 rfl) ?_
  obtain ⟨x1, e2, h⟩ := lt_e h
  refine gf_X10_61 X M hS (va_up_s V t _) e2 dX10_bringUp_1 ?_
  refine lv_istore_n (lv' := [(2, .int x1), (0, .ref (ga G t 0)), (1, .int a1)]) hx hb dX10_bringUp_4 rfl hl (by decide) rfl (fun ls hl => ?_)
  refine lv_aload_n hx hb dX10_bringUp_5 rfl (lv_at hl 1 rfl) ?_
  refine gf_X10_28 X M hS dX10_bringUp_6 ?_
  refine lv_iload_n hx hb dX10_bringUp_9 rfl (lv_at hl 2 rfl) ?_
  obtain ⟨x4, e3, h⟩ := lt_e h
  refine u_cVi X M hl.1 (kX3_logSize hS (va_up_s V t _) e3.symm) cw_X10_141 ⟨by decide, by decide⟩ (rc_X3 X M hS) rfl rfl (Nat.le_of_ble_eq_true rfl) ⟨Nat.zero_le _, Nat.zero_le _⟩ dX10_bringUp_10 (fun H locs M n5 => ?_)
  refine lv_istore_n (lv' := [(3, .int x4), (2, .int x1), (0, .ref (ga G t 0)), (1, .int a1)]) hx hb dX10_bringUp_13 rfl hl (by decide) rfl (fun ls hl => ?_)
  refine lv_iconst (v := 0) hx hb dX10_bringUp_14 (by decide) ?_
  refine lv_istore (lv' := [(4, .int 0), (3, .int x4), (2, .int x1), (0, .ref (ga G t 0)), (1, .int a1)]) hx hb dX10_bringUp_15 hl (by decide) rfl (fun ls hl => ?_)
  exact lpX10_bringUp_17 hS X hret 3000 _ _ _ _ _ _ _ _ h M (lv_sub hl [3, 4, 2, 1, 0] rfl)
def fX10_clear (S : (Nat → Nat → Int32)) : Option (Nat → Nat → Int32) :=
  bd (fX0_clear S) fun S2 =>
  bd (fX5_clear S2) fun S5 =>
  bd (fX3_clear S5) fun S8 =>
  lt_ (va_up S8 39 (fput 4 (S8 39) 0 10)) fun S11 =>
  lt_ (va_up S11 39 (fput 4 (S11 39) 1 5)) fun S14 =>
  lt_ (va_up S14 39 (fput 4 (S14 39) 2 0)) fun S17 =>
  lt_ (va_up S17 39 (fput 4 (S17 39) 3 20)) fun S20 =>
  lt_ (va_up S20 0 (upd (S20 0) 4 0)) fun S22 =>
  lt_ (va_up S22 0 (upd (S22 0) 5 0)) fun S24 =>
  lt_ (va_up S24 0 (upd (S24 0) 6 0)) fun S26 =>
  lt_ (va_up S26 0 (upd (S26 0) 7 0)) fun S28 =>
  lt_ (va_up S28 0 (upd (S28 0) 8 0)) fun S30 =>
  lt_ (va_up S30 0 (upd (S30 0) 9 0)) fun S32 =>
  some S32
set_option maxHeartbeats 4000000 in
set_option maxRecDepth 20000 in
theorem kX10_clear {l : Launch} {G : UG} {V : uV} {t : Nat} (hS : uSt G t) {S S' : (Nat → Nat → Int32)}  (h : fX10_clear S = some S') : uMv l G yX10_clear cX10_clear 1 (uR 2 42) [.ref (ga G t 0)] (va_up V t S) (va_up V t S') := by
  refine uMv_of rfl (Nat.le_of_ble_eq_true rfl) (fun p e s m args below meth c ls X hret hl M => ?_)
  have hl : lv_has ls 1 [(0, .ref (ga G t 0))] := hl
  have hx := X.hx
  have hb := X.hb
  unfold fX10_clear at h
  refine lv_aload_n hx hb dX10_clear_0 rfl (lv_at hl 0 rfl) ?_
  refine gf_X10_12 X M hS dX10_clear_1 ?_
  obtain ⟨S2, e1, h⟩ := bd_e h
  refine u_cVv X M hl.1 (kX0_clear hS e1) cw_X10_44 ⟨by decide, by decide⟩ (rc_X0 X M hS) rfl rfl (Nat.le_of_ble_eq_true rfl) ⟨Nat.zero_le _, Nat.zero_le _⟩ dX10_clear_4 (fun H locs M => ?_)
  refine lv_aload_n hx hb dX10_clear_7 rfl (lv_at hl 0 rfl) ?_
  refine gf_X10_21 X M hS dX10_clear_8 ?_
  obtain ⟨S5, e4, h⟩ := bd_e h
  refine u_cVv X M hl.1 (kX5_clear hS e4) cw_X10_45 ⟨by decide, by decide⟩ (rc_X5 X M hS) rfl rfl (Nat.le_of_ble_eq_true rfl) ⟨Nat.zero_le _, Nat.zero_le _⟩ dX10_clear_11 (fun H locs M => ?_)
  refine lv_aload_n hx hb dX10_clear_14 rfl (lv_at hl 0 rfl) ?_
  refine gf_X10_28 X M hS dX10_clear_15 ?_
  obtain ⟨S8, e7, h⟩ := bd_e h
  refine u_cVv X M hl.1 (kX3_clear hS e7) cw_X10_46 ⟨by decide, by decide⟩ (rc_X3 X M hS) rfl rfl (Nat.le_of_ble_eq_true rfl) ⟨Nat.zero_le _, Nat.zero_le _⟩ dX10_clear_18 (fun H locs M => ?_)
  refine lv_aload_n hx hb dX10_clear_21 rfl (lv_at hl 0 rfl) ?_
  refine gf_X10_37 X M hS dX10_clear_22 ?_
  refine lv_iconst (v := 0) hx hb dX10_clear_25 (by decide) ?_
  refine lv_bipush (v := 10) hx hb dX10_clear_26 (by decide) ?_
  obtain ⟨S11, e10, h⟩ := lt_e h
  refine u_cVv X M hl.1 (kX6_putS (uRw38 hS) e10) cw_X10_47 ⟨by decide, by decide⟩ (uR_recv X M (uRw38 hS)) rfl rfl (Nat.le_of_ble_eq_true rfl) ⟨Nat.zero_le _, Nat.zero_le _⟩ dX10_clear_28 (fun H locs M => ?_)
  refine lv_aload_n hx hb dX10_clear_31 rfl (lv_at hl 0 rfl) ?_
  refine gf_X10_37 X M hS dX10_clear_32 ?_
  refine lv_iconst (v := 1) hx hb dX10_clear_35 (by decide) ?_
  refine lv_iconst (v := 5) hx hb dX10_clear_36 (by decide) ?_
  obtain ⟨S14, e13, h⟩ := lt_e h
  refine u_cVv X M hl.1 (kX6_putS (uRw38 hS) e13) cw_X10_47 ⟨by decide, by decide⟩ (uR_recv X M (uRw38 hS)) rfl rfl (Nat.le_of_ble_eq_true rfl) ⟨Nat.zero_le _, Nat.zero_le _⟩ dX10_clear_37 (fun H locs M => ?_)
  refine lv_aload_n hx hb dX10_clear_40 rfl (lv_at hl 0 rfl) ?_
  refine gf_X10_37 X M hS dX10_clear_41 ?_
  refine lv_iconst (v := 2) hx hb dX10_clear_44 (by decide) ?_
  refine lv_iconst (v := 0) hx hb dX10_clear_45 (by decide) ?_
  obtain ⟨S17, e16, h⟩ := lt_e h
  refine u_cVv X M hl.1 (kX6_putS (uRw38 hS) e16) cw_X10_47 ⟨by decide, by decide⟩ (uR_recv X M (uRw38 hS)) rfl rfl (Nat.le_of_ble_eq_true rfl) ⟨Nat.zero_le _, Nat.zero_le _⟩ dX10_clear_46 (fun H locs M => ?_)
  refine lv_aload_n hx hb dX10_clear_49 rfl (lv_at hl 0 rfl) ?_
  refine gf_X10_37 X M hS dX10_clear_50 ?_
  refine lv_iconst (v := 3) hx hb dX10_clear_53 (by decide) ?_
  refine lv_bipush (v := 20) hx hb dX10_clear_54 (by decide) ?_
  obtain ⟨S20, e19, h⟩ := lt_e h
  refine u_cVv X M hl.1 (kX6_putS (uRw38 hS) e19) cw_X10_47 ⟨by decide, by decide⟩ (uR_recv X M (uRw38 hS)) rfl rfl (Nat.le_of_ble_eq_true rfl) ⟨Nat.zero_le _, Nat.zero_le _⟩ dX10_clear_56 (fun H locs M => ?_)
  refine lv_aload_n hx hb dX10_clear_59 rfl (lv_at hl 0 rfl) ?_
  refine lv_iconst (v := 0) hx hb dX10_clear_60 (by decide) ?_
  obtain ⟨S22, e23, h⟩ := lt_e h
  refine pf_X10_51 X M hS e23 dX10_clear_61 (fun H locs M => ?_)
  refine lv_aload_n hx hb dX10_clear_64 rfl (lv_at hl 0 rfl) ?_
  refine lv_iconst (v := 0) hx hb dX10_clear_65 (by decide) ?_
  obtain ⟨S24, e25, h⟩ := lt_e h
  refine pf_X10_55 X M hS e25 dX10_clear_66 (fun H locs M => ?_)
  refine lv_aload_n hx hb dX10_clear_69 rfl (lv_at hl 0 rfl) ?_
  refine lv_iconst (v := 0) hx hb dX10_clear_70 (by decide) ?_
  obtain ⟨S26, e27, h⟩ := lt_e h
  refine pf_X10_58 X M hS e27 dX10_clear_71 (fun H locs M => ?_)
  refine lv_aload_n hx hb dX10_clear_74 rfl (lv_at hl 0 rfl) ?_
  refine lv_iconst (v := 0) hx hb dX10_clear_75 (by decide) ?_
  obtain ⟨S28, e29, h⟩ := lt_e h
  refine pf_X10_61 X M hS e29 dX10_clear_76 (fun H locs M => ?_)
  refine lv_aload_n hx hb dX10_clear_79 rfl (lv_at hl 0 rfl) ?_
  refine lv_iconst (v := 0) hx hb dX10_clear_80 (by decide) ?_
  obtain ⟨S30, e31, h⟩ := lt_e h
  refine pf_X10_64 X M hS e31 dX10_clear_81 (fun H locs M => ?_)
  refine lv_aload_n hx hb dX10_clear_84 rfl (lv_at hl 0 rfl) ?_
  refine lv_iconst (v := 0) hx hb dX10_clear_85 (by decide) ?_
  obtain ⟨S32, e33, h⟩ := lt_e h
  refine pf_X10_67 X M hS e33 dX10_clear_86 (fun H locs M => ?_)
  exact u_vret X hret M (congrArg (va_up V t) (Option.some.inj h)) dX10_clear_89
