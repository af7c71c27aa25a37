theorem dX5_wordOf_0 : decode cX5_wordOf 0 = .ok (.iload_n 1, 1) := by decide +kernel
theorem dX5_wordOf_1 : decode cX5_wordOf 1 = .ok (.ifCond .lt 10, 3) := by decide +kernel
theorem dX5_wordOf_4 : decode cX5_wordOf 4 = .ok (.iload_n 1, 1) := by decide +kernel
theorem dX5_wordOf_5 : decode cX5_wordOf 5 = .ok (.sipush 1024, 3) := by decide +kernel
theorem dX5_wordOf_8 : decode cX5_wordOf 8 = .ok (.if_icmp .lt 5, 3) := by decide +kernel
theorem dX5_wordOf_11 : decode cX5_wordOf 11 = .ok (.iconst (-1), 1) := by decide +kernel
theorem dX5_wordOf_12 : decode cX5_wordOf 12 = .ok (.ireturn, 1) := by decide +kernel
theorem dX5_wordOf_13 : decode cX5_wordOf 13 = .ok (.iload_n 0, 1) := by decide +kernel
theorem dX5_wordOf_14 : decode cX5_wordOf 14 = .ok (.bipush 32, 2) := by decide +kernel
theorem dX5_wordOf_16 : decode cX5_wordOf 16 = .ok (.imul, 1) := by decide +kernel
theorem dX5_wordOf_17 : decode cX5_wordOf 17 = .ok (.iload_n 1, 1) := by decide +kernel
theorem dX5_wordOf_18 : decode cX5_wordOf 18 = .ok (.bipush 32, 2) := by decide +kernel
theorem dX5_wordOf_20 : decode cX5_wordOf 20 = .ok (.idiv, 1) := by decide +kernel
theorem dX5_wordOf_21 : decode cX5_wordOf 21 = .ok (.iadd, 1) := by decide +kernel
theorem dX5_wordOf_22 : decode cX5_wordOf 22 = .ok (.ireturn, 1) := by decide +kernel
theorem dX5_has_0 : decode cX5_has 0 = .ok (.iload_n 1, 1) := by decide +kernel
theorem dX5_has_1 : decode cX5_has 1 = .ok (.ifCond .lt 15, 3) := by decide +kernel
theorem dX5_has_4 : decode cX5_has 4 = .ok (.iload_n 1, 1) := by decide +kernel
theorem dX5_has_5 : decode cX5_has 5 = .ok (.aload_n 0, 1) := by decide +kernel
theorem dX5_has_6 : decode cX5_has 6 = .ok (.getfield 32, 3) := by decide +kernel
theorem dX5_has_9 : decode cX5_has 9 = .ok (.if_icmp .ge 7, 3) := by decide +kernel
theorem dX5_has_12 : decode cX5_has 12 = .ok (.iconst 1, 1) := by decide +kernel
theorem dX5_has_13 : decode cX5_has 13 = .ok (.goto 4, 3) := by decide +kernel
theorem dX5_has_16 : decode cX5_has 16 = .ok (.iconst 0, 1) := by decide +kernel
theorem dX5_has_17 : decode cX5_has 17 = .ok (.ireturn, 1) := by decide +kernel
theorem dX5_isFull_0 : decode cX5_isFull 0 = .ok (.aload_n 0, 1) := by decide +kernel
theorem dX5_isFull_1 : decode cX5_isFull 1 = .ok (.getfield 32, 3) := by decide +kernel
theorem dX5_isFull_4 : decode cX5_isFull 4 = .ok (.bipush 8, 2) := by decide +kernel
theorem dX5_isFull_6 : decode cX5_isFull 6 = .ok (.if_icmp .lt 7, 3) := by decide +kernel
theorem dX5_isFull_9 : decode cX5_isFull 9 = .ok (.iconst 1, 1) := by decide +kernel
theorem dX5_isFull_10 : decode cX5_isFull 10 = .ok (.goto 4, 3) := by decide +kernel
theorem dX5_isFull_13 : decode cX5_isFull 13 = .ok (.iconst 0, 1) := by decide +kernel
theorem dX5_isFull_14 : decode cX5_isFull 14 = .ok (.ireturn, 1) := by decide +kernel
theorem dX5_make_0 : decode cX5_make 0 = .ok (.aload_n 0, 1) := by decide +kernel
theorem dX5_make_1 : decode cX5_make 1 = .ok (.getfield 32, 3) := by decide +kernel
theorem dX5_make_4 : decode cX5_make 4 = .ok (.istore_n 2, 1) := by decide +kernel
theorem dX5_make_5 : decode cX5_make 5 = .ok (.aload_n 0, 1) := by decide +kernel
theorem dX5_make_6 : decode cX5_make 6 = .ok (.getfield 16, 3) := by decide +kernel
theorem dX5_make_9 : decode cX5_make 9 = .ok (.iload_n 2, 1) := by decide +kernel
theorem dX5_make_10 : decode cX5_make 10 = .ok (.iload_n 1, 1) := by decide +kernel
theorem dX5_make_11 : decode cX5_make 11 = .ok (.invokevirtual 43, 3) := by decide +kernel
theorem dX5_make_14 : decode cX5_make 14 = .ok (.aload_n 0, 1) := by decide +kernel
theorem dX5_make_15 : decode cX5_make 15 = .ok (.dup, 1) := by decide +kernel
theorem dX5_make_16 : decode cX5_make 16 = .ok (.getfield 32, 3) := by decide +kernel
theorem dX5_make_19 : decode cX5_make 19 = .ok (.iconst 1, 1) := by decide +kernel
theorem dX5_make_20 : decode cX5_make 20 = .ok (.iadd, 1) := by decide +kernel
theorem dX5_make_21 : decode cX5_make 21 = .ok (.putfield 32, 3) := by decide +kernel
theorem dX5_make_24 : decode cX5_make 24 = .ok (.iload_n 2, 1) := by decide +kernel
theorem dX5_make_25 : decode cX5_make 25 = .ok (.ireturn, 1) := by decide +kernel
theorem dX5_isMarked_0 : decode cX5_isMarked 0 = .ok (.aload_n 0, 1) := by decide +kernel
theorem dX5_isMarked_1 : decode cX5_isMarked 1 = .ok (.getfield 23, 3) := by decide +kernel
theorem dX5_isMarked_4 : decode cX5_isMarked 4 = .ok (.iload_n 1, 1) := by decide +kernel
theorem dX5_isMarked_5 : decode cX5_isMarked 5 = .ok (.invokevirtual 47, 3) := by decide +kernel
theorem dX5_isMarked_8 : decode cX5_isMarked 8 = .ok (.ifCond .eq 7, 3) := by decide +kernel
theorem dX5_isMarked_11 : decode cX5_isMarked 11 = .ok (.iconst 1, 1) := by decide +kernel
theorem dX5_isMarked_12 : decode cX5_isMarked 12 = .ok (.goto 4, 3) := by decide +kernel
theorem dX5_isMarked_15 : decode cX5_isMarked 15 = .ok (.iconst 0, 1) := by decide +kernel
theorem dX5_isMarked_16 : decode cX5_isMarked 16 = .ok (.ireturn, 1) := by decide +kernel
theorem dX5_isBlocked_0 : decode cX5_isBlocked 0 = .ok (.aload_n 0, 1) := by decide +kernel
theorem dX5_isBlocked_1 : decode cX5_isBlocked 1 = .ok (.getfield 16, 3) := by decide +kernel
theorem dX5_isBlocked_4 : decode cX5_isBlocked 4 = .ok (.iload_n 1, 1) := by decide +kernel
theorem dX5_isBlocked_5 : decode cX5_isBlocked 5 = .ok (.invokevirtual 47, 3) := by decide +kernel
theorem dX5_isBlocked_8 : decode cX5_isBlocked 8 = .ok (.ifCond .lt 14, 3) := by decide +kernel
theorem dX5_isBlocked_11 : decode cX5_isBlocked 11 = .ok (.aload_n 0, 1) := by decide +kernel
theorem dX5_isBlocked_12 : decode cX5_isBlocked 12 = .ok (.getfield 23, 3) := by decide +kernel
theorem dX5_isBlocked_15 : decode cX5_isBlocked 15 = .ok (.iload_n 1, 1) := by decide +kernel
theorem dX5_isBlocked_16 : decode cX5_isBlocked 16 = .ok (.invokevirtual 47, 3) := by decide +kernel
theorem dX5_isBlocked_19 : decode cX5_isBlocked 19 = .ok (.ifCond .eq 7, 3) := by decide +kernel
theorem dX5_isBlocked_22 : decode cX5_isBlocked 22 = .ok (.iconst 1, 1) := by decide +kernel
theorem dX5_isBlocked_23 : decode cX5_isBlocked 23 = .ok (.goto 4, 3) := by decide +kernel
theorem dX5_isBlocked_26 : decode cX5_isBlocked 26 = .ok (.iconst 0, 1) := by decide +kernel
theorem dX5_isBlocked_27 : decode cX5_isBlocked 27 = .ok (.ireturn, 1) := by decide +kernel
theorem dX5_blockedSet_0 : decode cX5_blockedSet 0 = .ok (.iconst 0, 1) := by decide +kernel
theorem dX5_blockedSet_1 : decode cX5_blockedSet 1 = .ok (.istore_n 1, 1) := by decide +kernel
theorem dX5_blockedSet_2 : decode cX5_blockedSet 2 = .ok (.iconst 0, 1) := by decide +kernel
theorem dX5_blockedSet_3 : decode cX5_blockedSet 3 = .ok (.istore_n 2, 1) := by decide +kernel
theorem dX5_blockedSet_4 : decode cX5_blockedSet 4 = .ok (.iload_n 2, 1) := by decide +kernel
theorem dX5_blockedSet_5 : decode cX5_blockedSet 5 = .ok (.aload_n 0, 1) := by decide +kernel
theorem dX5_blockedSet_6 : decode cX5_blockedSet 6 = .ok (.getfield 32, 3) := by decide +kernel
theorem dX5_blockedSet_9 : decode cX5_blockedSet 9 = .ok (.if_icmp .ge 23, 3) := by decide +kernel
theorem dX5_blockedSet_12 : decode cX5_blockedSet 12 = .ok (.aload_n 0, 1) := by decide +kernel
theorem dX5_blockedSet_13 : decode cX5_blockedSet 13 = .ok (.iload_n 2, 1) := by decide +kernel
theorem dX5_blockedSet_14 : decode cX5_blockedSet 14 = .ok (.invokevirtual 51, 3) := by decide +kernel
theorem dX5_blockedSet_17 : decode cX5_blockedSet 17 = .ok (.ifCond .eq 9, 3) := by decide +kernel
theorem dX5_blockedSet_20 : decode cX5_blockedSet 20 = .ok (.iload_n 1, 1) := by decide +kernel
theorem dX5_blockedSet_21 : decode cX5_blockedSet 21 = .ok (.iconst 1, 1) := by decide +kernel
theorem dX5_blockedSet_22 : decode cX5_blockedSet 22 = .ok (.iload_n 2, 1) := by decide +kernel
theorem dX5_blockedSet_23 : decode cX5_blockedSet 23 = .ok (.ishl, 1) := by decide +kernel
theorem dX5_blockedSet_24 : decode cX5_blockedSet 24 = .ok (.ior, 1) := by decide +kernel
theorem dX5_blockedSet_25 : decode cX5_blockedSet 25 = .ok (.istore_n 1, 1) := by decide +kernel
theorem dX5_blockedSet_26 : decode cX5_blockedSet 26 = .ok (.iinc 2 1, 3) := by decide +kernel
theorem dX5_blockedSet_29 : decode cX5_blockedSet 29 = .ok (.goto (-25), 3) := by decide +kernel
theorem dX5_blockedSet_32 : decode cX5_blockedSet 32 = .ok (.iload_n 1, 1) := by decide +kernel
theorem dX5_blockedSet_33 : decode cX5_blockedSet 33 = .ok (.ireturn, 1) := by decide +kernel
theorem dX5_payIn_0 : decode cX5_payIn 0 = .ok (.aload_n 0, 1) := by decide +kernel
theorem dX5_payIn_1 : decode cX5_payIn 1 = .ok (.getfield 16, 3) := by decide +kernel
theorem dX5_payIn_4 : decode cX5_payIn 4 = .ok (.iload_n 1, 1) := by decide +kernel
theorem dX5_payIn_5 : decode cX5_payIn 5 = .ok (.iload_n 2, 1) := by decide +kernel
theorem dX5_payIn_6 : decode cX5_payIn 6 = .ok (.invokevirtual 55, 3) := by decide +kernel
theorem dX5_payIn_9 : decode cX5_payIn 9 = .ok (.aload_n 0, 1) := by decide +kernel
theorem dX5_payIn_10 : decode cX5_payIn 10 = .ok (.getfield 20, 3) := by decide +kernel
theorem dX5_payIn_13 : decode cX5_payIn 13 = .ok (.iload_n 1, 1) := by decide +kernel
theorem dX5_payIn_14 : decode cX5_payIn 14 = .ok (.iload_n 2, 1) := by decide +kernel
theorem dX5_payIn_15 : decode cX5_payIn 15 = .ok (.invokevirtual 55, 3) := by decide +kernel
theorem dX5_payIn_18 : decode cX5_payIn 18 = .ok (.aload_n 0, 1) := by decide +kernel
theorem dX5_payIn_19 : decode cX5_payIn 19 = .ok (.getfield 16, 3) := by decide +kernel
theorem dX5_payIn_22 : decode cX5_payIn 22 = .ok (.iload_n 1, 1) := by decide +kernel
theorem dX5_payIn_23 : decode cX5_payIn 23 = .ok (.invokevirtual 47, 3) := by decide +kernel
theorem dX5_payIn_26 : decode cX5_payIn 26 = .ok (.ireturn, 1) := by decide +kernel
theorem dX5_takeWaiting_0 : decode cX5_takeWaiting 0 = .ok (.aload_n 0, 1) := by decide +kernel
theorem dX5_takeWaiting_1 : decode cX5_takeWaiting 1 = .ok (.getfield 20, 3) := by decide +kernel
theorem dX5_takeWaiting_4 : decode cX5_takeWaiting 4 = .ok (.iload_n 1, 1) := by decide +kernel
theorem dX5_takeWaiting_5 : decode cX5_takeWaiting 5 = .ok (.iconst 0, 1) := by decide +kernel
theorem dX5_takeWaiting_6 : decode cX5_takeWaiting 6 = .ok (.invokevirtual 58, 3) := by decide +kernel
theorem dX5_takeWaiting_9 : decode cX5_takeWaiting 9 = .ok (.ireturn, 1) := by decide +kernel
theorem dX5_unmark_0 : decode cX5_unmark 0 = .ok (.aload_n 0, 1) := by decide +kernel
theorem dX5_unmark_1 : decode cX5_unmark 1 = .ok (.getfield 23, 3) := by decide +kernel
theorem dX5_unmark_4 : decode cX5_unmark 4 = .ok (.iload_n 1, 1) := by decide +kernel
theorem dX5_unmark_5 : decode cX5_unmark 5 = .ok (.iconst 0, 1) := by decide +kernel
theorem dX5_unmark_6 : decode cX5_unmark 6 = .ok (.invokevirtual 43, 3) := by decide +kernel
theorem dX5_unmark_9 : decode cX5_unmark 9 = .ok (.aload_n 0, 1) := by decide +kernel
theorem dX5_unmark_10 : decode cX5_unmark 10 = .ok (.getfield 16, 3) := by decide +kernel
theorem dX5_unmark_13 : decode cX5_unmark 13 = .ok (.iload_n 1, 1) := by decide +kernel
theorem dX5_unmark_14 : decode cX5_unmark 14 = .ok (.invokevirtual 47, 3) := by decide +kernel
theorem dX5_unmark_17 : decode cX5_unmark 17 = .ok (.ireturn, 1) := by decide +kernel
theorem dX5_settleRide_0 : decode cX5_settleRide 0 = .ok (.iload_n 1, 1) := by decide +kernel
theorem dX5_settleRide_1 : decode cX5_settleRide 1 = .ok (.iload_n 2, 1) := by decide +kernel
theorem dX5_settleRide_2 : decode cX5_settleRide 2 = .ok (.invokestatic 62, 3) := by decide +kernel
theorem dX5_settleRide_5 : decode cX5_settleRide 5 = .ok (.istore 5, 2) := by decide +kernel
theorem dX5_settleRide_7 : decode cX5_settleRide 7 = .ok (.iconst 1, 1) := by decide +kernel
theorem dX5_settleRide_8 : decode cX5_settleRide 8 = .ok (.iload_n 2, 1) := by decide +kernel
theorem dX5_settleRide_9 : decode cX5_settleRide 9 = .ok (.bipush 31, 2) := by decide +kernel
theorem dX5_settleRide_11 : decode cX5_settleRide 11 = .ok (.iand, 1) := by decide +kernel
theorem dX5_settleRide_12 : decode cX5_settleRide 12 = .ok (.ishl, 1) := by decide +kernel
theorem dX5_settleRide_13 : decode cX5_settleRide 13 = .ok (.istore 6, 2) := by decide +kernel
theorem dX5_settleRide_15 : decode cX5_settleRide 15 = .ok (.aload_n 0, 1) := by decide +kernel
theorem dX5_settleRide_16 : decode cX5_settleRide 16 = .ok (.getfield 29, 3) := by decide +kernel
theorem dX5_settleRide_19 : decode cX5_settleRide 19 = .ok (.iload 5, 2) := by decide +kernel
theorem dX5_settleRide_21 : decode cX5_settleRide 21 = .ok (.invokevirtual 47, 3) := by decide +kernel
theorem dX5_settleRide_24 : decode cX5_settleRide 24 = .ok (.istore 7, 2) := by decide +kernel
theorem dX5_settleRide_26 : decode cX5_settleRide 26 = .ok (.iload 7, 2) := by decide +kernel
theorem dX5_settleRide_28 : decode cX5_settleRide 28 = .ok (.iload 6, 2) := by decide +kernel
theorem dX5_settleRide_30 : decode cX5_settleRide 30 = .ok (.iand, 1) := by decide +kernel
theorem dX5_settleRide_31 : decode cX5_settleRide 31 = .ok (.ifCond .eq 25, 3) := by decide +kernel
theorem dX5_settleRide_34 : decode cX5_settleRide 34 = .ok (.aload_n 0, 1) := by decide +kernel
theorem dX5_settleRide_35 : decode cX5_settleRide 35 = .ok (.getfield 16, 3) := by decide +kernel
theorem dX5_settleRide_38 : decode cX5_settleRide 38 = .ok (.iload_n 1, 1) := by decide +kernel
theorem dX5_settleRide_39 : decode cX5_settleRide 39 = .ok (.iload 4, 2) := by decide +kernel
theorem dX5_settleRide_41 : decode cX5_settleRide 41 = .ok (.ineg, 1) := by decide +kernel
theorem dX5_settleRide_42 : decode cX5_settleRide 42 = .ok (.invokevirtual 55, 3) := by decide +kernel
theorem dX5_settleRide_45 : decode cX5_settleRide 45 = .ok (.aload_n 0, 1) := by decide +kernel
theorem dX5_settleRide_46 : decode cX5_settleRide 46 = .ok (.getfield 23, 3) := by decide +kernel
theorem dX5_settleRide_49 : decode cX5_settleRide 49 = .ok (.iload_n 1, 1) := by decide +kernel
theorem dX5_settleRide_50 : decode cX5_settleRide 50 = .ok (.iconst 1, 1) := by decide +kernel
theorem dX5_settleRide_51 : decode cX5_settleRide 51 = .ok (.invokevirtual 43, 3) := by decide +kernel
theorem dX5_settleRide_54 : decode cX5_settleRide 54 = .ok (.iconst 0, 1) := by decide +kernel
theorem dX5_settleRide_55 : decode cX5_settleRide 55 = .ok (.ireturn, 1) := by decide +kernel
theorem dX5_settleRide_56 : decode cX5_settleRide 56 = .ok (.aload_n 0, 1) := by decide +kernel
theorem dX5_settleRide_57 : decode cX5_settleRide 57 = .ok (.getfield 29, 3) := by decide +kernel
theorem dX5_settleRide_60 : decode cX5_settleRide 60 = .ok (.iload 5, 2) := by decide +kernel
theorem dX5_settleRide_62 : decode cX5_settleRide 62 = .ok (.iload 7, 2) := by decide +kernel
theorem dX5_settleRide_64 : decode cX5_settleRide 64 = .ok (.iload 6, 2) := by decide +kernel
theorem dX5_settleRide_66 : decode cX5_settleRide 66 = .ok (.ior, 1) := by decide +kernel
theorem dX5_settleRide_67 : decode cX5_settleRide 67 = .ok (.invokevirtual 43, 3) := by decide +kernel
theorem dX5_settleRide_70 : decode cX5_settleRide 70 = .ok (.aload_n 0, 1) := by decide +kernel
theorem dX5_settleRide_71 : decode cX5_settleRide 71 = .ok (.getfield 26, 3) := by decide +kernel
theorem dX5_settleRide_74 : decode cX5_settleRide 74 = .ok (.iload_n 1, 1) := by decide +kernel
theorem dX5_settleRide_75 : decode cX5_settleRide 75 = .ok (.iconst 1, 1) := by decide +kernel
theorem dX5_settleRide_76 : decode cX5_settleRide 76 = .ok (.invokevirtual 55, 3) := by decide +kernel
theorem dX5_settleRide_79 : decode cX5_settleRide 79 = .ok (.aload_n 0, 1) := by decide +kernel
theorem dX5_settleRide_80 : decode cX5_settleRide 80 = .ok (.getfield 16, 3) := by decide +kernel
theorem dX5_settleRide_83 : decode cX5_settleRide 83 = .ok (.iload_n 1, 1) := by decide +kernel
theorem dX5_settleRide_84 : decode cX5_settleRide 84 = .ok (.iload_n 3, 1) := by decide +kernel
theorem dX5_settleRide_85 : decode cX5_settleRide 85 = .ok (.ineg, 1) := by decide +kernel
theorem dX5_settleRide_86 : decode cX5_settleRide 86 = .ok (.invokevirtual 55, 3) := by decide +kernel
theorem dX5_settleRide_89 : decode cX5_settleRide 89 = .ok (.iconst 1, 1) := by decide +kernel
theorem dX5_settleRide_90 : decode cX5_settleRide 90 = .ok (.ireturn, 1) := by decide +kernel
theorem dX5_clear_0 : decode cX5_clear 0 = .ok (.aload_n 0, 1) := by decide +kernel
theorem dX5_clear_1 : decode cX5_clear 1 = .ok (.iconst 0, 1) := by decide +kernel
theorem dX5_clear_2 : decode cX5_clear 2 = .ok (.putfield 32, 3) := by decide +kernel
theorem dX5_clear_5 : decode cX5_clear 5 = .ok (.aload_n 0, 1) := by decide +kernel
theorem dX5_clear_6 : decode cX5_clear 6 = .ok (.getfield 16, 3) := by decide +kernel
theorem dX5_clear_9 : decode cX5_clear 9 = .ok (.iconst 0, 1) := by decide +kernel
theorem dX5_clear_10 : decode cX5_clear 10 = .ok (.invokevirtual 36, 3) := by decide +kernel
theorem dX5_clear_13 : decode cX5_clear 13 = .ok (.aload_n 0, 1) := by decide +kernel
theorem dX5_clear_14 : decode cX5_clear 14 = .ok (.getfield 20, 3) := by decide +kernel
theorem dX5_clear_17 : decode cX5_clear 17 = .ok (.iconst 0, 1) := by decide +kernel
theorem dX5_clear_18 : decode cX5_clear 18 = .ok (.invokevirtual 36, 3) := by decide +kernel
theorem dX5_clear_21 : decode cX5_clear 21 = .ok (.aload_n 0, 1) := by decide +kernel
theorem dX5_clear_22 : decode cX5_clear 22 = .ok (.getfield 23, 3) := by decide +kernel
theorem dX5_clear_25 : decode cX5_clear 25 = .ok (.iconst 0, 1) := by decide +kernel
theorem dX5_clear_26 : decode cX5_clear 26 = .ok (.invokevirtual 36, 3) := by decide +kernel
theorem dX5_clear_29 : decode cX5_clear 29 = .ok (.aload_n 0, 1) := by decide +kernel
theorem dX5_clear_30 : decode cX5_clear 30 = .ok (.getfield 26, 3) := by decide +kernel
theorem dX5_clear_33 : decode cX5_clear 33 = .ok (.iconst 0, 1) := by decide +kernel
theorem dX5_clear_34 : decode cX5_clear 34 = .ok (.invokevirtual 36, 3) := by decide +kernel
theorem dX5_clear_37 : decode cX5_clear 37 = .ok (.aload_n 0, 1) := by decide +kernel
theorem dX5_clear_38 : decode cX5_clear 38 = .ok (.getfield 29, 3) := by decide +kernel
theorem dX5_clear_41 : decode cX5_clear 41 = .ok (.iconst 0, 1) := by decide +kernel
theorem dX5_clear_42 : decode cX5_clear 42 = .ok (.invokevirtual 36, 3) := by decide +kernel
theorem dX5_clear_45 : decode cX5_clear 45 = .ok (.return_, 1) := by decide +kernel
theorem yf_X6_fill : (Cond.instanceMethod yX6_fill) ∈ gtbl ∧ (Cond.selects RX6 yX6_fill yX6_fill) ∈ gtbl ∧ (Cond.initialized RX6) ∈ gtbl ∧ (Cond.code yX6_fill cX6_fill 3 none) ∈ gtbl ∧ (yX6_fill.cls = RX6 ∧ yX6_fill.cls ≠ "java/lang/invoke/MethodHandle" ∧ yX6_fill.cls ≠ "java/lang/invoke/VarHandle" ∧ (parseMethodDescriptor yX6_fill.desc).map (fun d => d.parameters.length) = some 1) := ⟨gt_in 171 (by decide +kernel) (by decide +kernel), gt_in 172 (by decide +kernel) (by decide +kernel), gt_in 13 (by decide +kernel) (by decide +kernel), gt_in 173 (by decide +kernel) (by decide +kernel), by decide +kernel⟩
theorem cw_X5_36 : uCW RX5 RX6 36 yX6_fill cX6_fill 3 none 1 := ⟨gt_in 170 (by decide +kernel) (by decide +kernel), yf_X6_fill⟩
theorem cw_X5_43 : uCW RX5 RX6 43 yX6_put cX6_put 3 none 2 := ⟨gt_in 485 (by decide +kernel) (by decide +kernel), yf_X6_put⟩
theorem cw_X5_47 : uCW RX5 RX6 47 yX6_get cX6_get 2 (some .int) 1 := ⟨gt_in 549 (by decide +kernel) (by decide +kernel), yf_X6_get⟩
theorem yf_X5_isBlocked : (Cond.instanceMethod yX5_isBlocked) ∈ gtbl ∧ (Cond.selects RX5 yX5_isBlocked yX5_isBlocked) ∈ gtbl ∧ (Cond.initialized RX5) ∈ gtbl ∧ (Cond.code yX5_isBlocked cX5_isBlocked 2 (some .boolean)) ∈ gtbl ∧ (yX5_isBlocked.cls = RX5 ∧ yX5_isBlocked.cls ≠ "java/lang/invoke/MethodHandle" ∧ yX5_isBlocked.cls ≠ "java/lang/invoke/VarHandle" ∧ (parseMethodDescriptor yX5_isBlocked.desc).map (fun d => d.parameters.length) = some 1) := ⟨gt_in 546 (by decide +kernel) (by decide +kernel), gt_in 547 (by decide +kernel) (by decide +kernel), gt_in 15 (by decide +kernel) (by decide +kernel), gt_in 548 (by decide +kernel) (by decide +kernel), by decide +kernel⟩
theorem cw_X5_51 : uCW RX5 RX5 51 yX5_isBlocked cX5_isBlocked 2 (some .boolean) 1 := ⟨gt_in 603 (by decide +kernel) (by decide +kernel), yf_X5_isBlocked⟩
theorem yf_X6_increase : (Cond.instanceMethod yX6_increase) ∈ gtbl ∧ (Cond.selects RX6 yX6_increase yX6_increase) ∈ gtbl ∧ (Cond.initialized RX6) ∈ gtbl ∧ (Cond.code yX6_increase cX6_increase 3 none) ∈ gtbl ∧ (yX6_increase.cls = RX6 ∧ yX6_increase.cls ≠ "java/lang/invoke/MethodHandle" ∧ yX6_increase.cls ≠ "java/lang/invoke/VarHandle" ∧ (parseMethodDescriptor yX6_increase.desc).map (fun d => d.parameters.length) = some 2) := ⟨gt_in 534 (by decide +kernel) (by decide +kernel), gt_in 535 (by decide +kernel) (by decide +kernel), gt_in 13 (by decide +kernel) (by decide +kernel), gt_in 536 (by decide +kernel) (by decide +kernel), by decide +kernel⟩
theorem cw_X5_55 : uCW RX5 RX6 55 yX6_increase cX6_increase 3 none 2 := ⟨gt_in 572 (by decide +kernel) (by decide +kernel), yf_X6_increase⟩
theorem yf_X6_replace : (Cond.instanceMethod yX6_replace) ∈ gtbl ∧ (Cond.selects RX6 yX6_replace yX6_replace) ∈ gtbl ∧ (Cond.initialized RX6) ∈ gtbl ∧ (Cond.code yX6_replace cX6_replace 4 (some .int)) ∈ gtbl ∧ (yX6_replace.cls = RX6 ∧ yX6_replace.cls ≠ "java/lang/invoke/MethodHandle" ∧ yX6_replace.cls ≠ "java/lang/invoke/VarHandle" ∧ (parseMethodDescriptor yX6_replace.desc).map (fun d => d.parameters.length) = some 2) := ⟨gt_in 528 (by decide +kernel) (by decide +kernel), gt_in 529 (by decide +kernel) (by decide +kernel), gt_in 13 (by decide +kernel) (by decide +kernel), gt_in 530 (by decide +kernel) (by decide +kernel), by decide +kernel⟩
theorem cw_X5_58 : uCW RX5 RX6 58 yX6_replace cX6_replace 4 (some .int) 2 := ⟨gt_in 527 (by decide +kernel) (by decide +kernel), yf_X6_replace⟩
theorem yf_X5_wordOf : (Cond.static yX5_wordOf) ∈ gtbl ∧ (Cond.initialized yX5_wordOf.cls) ∈ gtbl ∧ (Cond.code yX5_wordOf cX5_wordOf 2 (some .int)) ∈ gtbl ∧ (yX5_wordOf.cls ≠ "java/lang/invoke/MethodHandle" ∧ yX5_wordOf.cls ≠ "java/lang/invoke/VarHandle" ∧ (parseMethodDescriptor yX5_wordOf.desc).map (fun d => d.parameters.length) = some 2) := ⟨gt_in 570 (by decide +kernel) (by decide +kernel), gt_in 15 (by decide +kernel) (by decide +kernel), gt_in 571 (by decide +kernel) (by decide +kernel), by decide +kernel⟩
theorem cw_X5_62 : uCS RX5 62 yX5_wordOf cX5_wordOf 2 (some .int) 2 := ⟨gt_in 569 (by decide +kernel) (by decide +kernel), yf_X5_wordOf⟩
def fX5_wordOf (a1 : Int32) (a2 : Int32) : Int32 :=
  if a2 < 0 then
    (-1)
  else
    if a2 < 1024 then
      ((a1 * 32) + (a2 / 32))
    else
      (-1)
set_option maxHeartbeats 4000000 in
set_option maxRecDepth 20000 in
theorem kX5_wordOf {l : Launch} {G : UG} {V : uV}  {a1 : Int32} {a2 : Int32} {r : Int32} (h : fX5_wordOf a1 a2 = r) : uMi l G yX5_wordOf cX5_wordOf 2 .int (uR 0 0) [.int a1, .int a2] V r V := by
  refine uMi_of rfl (Nat.le_of_ble_eq_true rfl) (fun p e s m args below meth c ls X hret hl M => ?_)
  have hl : lv_has ls 2 [(0, .int a1), (1, .int a2)] := hl
  have hx := X.hx
  have hb := X.hb
  unfold fX5_wordOf at h
  refine lv_iload_n hx hb dX5_wordOf_0 rfl (lv_at hl 1 rfl) ?_
  refine lv_if_lt (tgt := 11) hx hb dX5_wordOf_1 (by decide) (fun c1 => ?_) (fun c1 => ?_)
  · have h := it_t h c1
    refine lv_iconst (v := (-1)) hx hb dX5_wordOf_11 (by decide) ?_
    exact u_iret X hret M h (rfl) rfl dX5_wordOf_12
  · have h := it_f h c1
    refine lv_iload_n hx hb dX5_wordOf_4 rfl (lv_at hl 1 rfl) ?_
    refine lv_sipush (v := 1024) hx hb dX5_wordOf_5 (by decide) ?_
    refine lv_icmp_lt (tgt := 13) hx hb dX5_wordOf_8 (by decide) (fun c2 => ?_) (fun c2 => ?_)
    · have h := it_t h c2
      refine lv_iload_n hx hb dX5_wordOf_13 rfl (lv_at hl 0 rfl) ?_
      refine lv_bipush (v := 32) hx hb dX5_wordOf_14 (by decide) ?_
      refine lv_imul hx hb dX5_wordOf_16 ?_
      refine lv_iload_n hx hb dX5_wordOf_17 rfl (lv_at hl 1 rfl) ?_
      refine lv_bipush (v := 32) hx hb dX5_wordOf_18 (by decide) ?_
      refine lv_idiv hx hb dX5_wordOf_20 (by decide) ?_
      refine lv_iadd hx hb dX5_wordOf_21 ?_
      exact u_iret X hret M h (rfl) rfl dX5_wordOf_22
    · have h := it_f h c2
      refine lv_iconst (v := (-1)) hx hb dX5_wordOf_11 (by decide) ?_
      exact u_iret X hret M h (rfl) rfl dX5_wordOf_12
def fX5_has (S : (Nat → Nat → Int32)) (a1 : Int32) : Int32 :=
  if a1 < 0 then
    0
  else
    lt_ (S 10 0) fun x2 =>
    if x2 ≤ a1 then
      0
    else
      1
set_option maxHeartbeats 4000000 in
set_option maxRecDepth 20000 in
theorem kX5_has {l : Launch} {G : UG} {V : uV} {t : Nat} (hS : uSt G t) {S : (Nat → Nat → Int32)} (hV : V t = S) {a1 : Int32} {r : Int32} (h : fX5_has S a1 = r) : uMi l G yX5_has cX5_has 2 .boolean (uR 0 0) [.ref (ga G t 10), .int a1] V r V := by
  refine uMi_of rfl (Nat.le_of_ble_eq_true rfl) (fun p e s m args below meth c ls X hret hl M => ?_)
  have hl : lv_has ls 2 [(0, .ref (ga G t 10)), (1, .int a1)] := hl
  have hx := X.hx
  have hb := X.hb
  unfold fX5_has at h
  refine lv_iload_n hx hb dX5_has_0 rfl (lv_at hl 1 rfl) ?_
  refine lv_if_lt (tgt := 16) hx hb dX5_has_1 (by decide) (fun c1 => ?_) (fun c1 => ?_)
  · have h := it_t h c1
    refine lv_iconst (v := 0) hx hb dX5_has_16 (by decide) ?_
    exact u_iret X hret M h (rfl) rfl dX5_has_17
  · have h := it_f h c1
    refine lv_iload_n hx hb dX5_has_4 rfl (lv_at hl 1 rfl) ?_
    refine lv_aload_n hx hb dX5_has_5 rfl (lv_at hl 0 rfl) ?_
    obtain ⟨x2, e3, h⟩ := lt_e h
    refine gf_X5_32 X M hS hV e3 dX5_has_6 ?_
    refine lv_icmp_ge (tgt := 16) hx hb dX5_has_9 (by decide) (fun c4 => ?_) (fun c4 => ?_)
    · have h := it_t h c4
      refine lv_iconst (v := 0) hx hb dX5_has_16 (by decide) ?_
      exact u_iret X hret M h (rfl) rfl dX5_has_17
    · have h := it_f h c4
      refine lv_iconst (v := 1) hx hb dX5_has_12 (by decide) ?_
      refine lv_goto (tgt := 17) hx hb dX5_has_13 (by decide) ?_
      exact u_iret X hret M h (rfl) rfl dX5_has_17
def fX5_isFull (S : (Nat → Nat → Int32)) : Int32 :=
  lt_ (S 10 0) fun x1 =>
  if x1 < 8 then
    0
  else
    1
set_option maxHeartbeats 4000000 in
set_option maxRecDepth 20000 in
theorem kX5_isFull {l : Launch} {G : UG} {V : uV} {t : Nat} (hS : uSt G t) {S : (Nat → Nat → Int32)} (hV : V t = S)  {r : Int32} (h : fX5_isFull S = r) : uMi l G yX5_isFull cX5_isFull 1 .boolean (uR 0 0) [.ref (ga G t 10)] V r V := by
  refine uMi_of rfl (Nat.le_of_ble_eq_true rfl) (fun p e s m args below meth c ls X hret hl M => ?_)
  have hl : lv_has ls 1 [(0, .ref (ga G t 10))] := hl
  have hx := X.hx
  have hb := X.hb
  unfold fX5_isFull at h
  refine lv_aload_n hx hb dX5_isFull_0 rfl (lv_at hl 0 rfl) ?_
  obtain ⟨x1, e2, h⟩ := lt_e h
  refine gf_X5_32 X M hS hV e2 dX5_isFull_1 ?_
  refine lv_bipush (v := 8) hx hb dX5_isFull_4 (by decide) ?_
  refine lv_icmp_lt (tgt := 13) hx hb dX5_isFull_6 (by decide) (fun c3 => ?_) (fun c3 => ?_)
  · have h := it_t h c3
    refine lv_iconst (v := 0) hx hb dX5_isFull_13 (by decide) ?_
    exact u_iret X hret M h (rfl) rfl dX5_isFull_14
  · have h := it_f h c3
    refine lv_iconst (v := 1) hx hb dX5_isFull_9 (by decide) ?_
    refine lv_goto (tgt := 14) hx hb dX5_isFull_10 (by decide) ?_
    exact u_iret X hret M h (rfl) rfl dX5_isFull_14
def fX5_make (S : (Nat → Nat → Int32)) (a1 : Int32) : Option (Int32 × (Nat → Nat → Int32)) :=
  lt_ (S 10 0) fun x1 =>
  lt_ (va_up S 12 (fput 8 (S 12) x1 a1)) fun S4 =>
  lt_ (S4 10 0) fun x6 =>
  lt_ (va_up S4 10 (upd (S4 10) 0 (x6 + 1))) fun S8 =>
  some (x1, S8)
set_option maxHeartbeats 4000000 in
set_option maxRecDepth 20000 in
theorem kX5_make {l : Launch} {G : UG} {V : uV} {t : Nat} (hS : uSt G t) {S S' : (Nat → Nat → Int32)} {a1 : Int32} {r : Int32} (h : fX5_make S a1 = some (r, S')) : uMi l G yX5_make cX5_make 3 .int (uR 1 22) [.ref (ga G t 10), .int a1] (va_up V t S) r (va_up V t S') := by
  refine uMi_of rfl (Nat.le_of_ble_eq_true rfl) (fun p e s m args below meth c ls X hret hl M => ?_)
  have hl : lv_has ls 3 [(0, .ref (ga G t 10)), (1, .int a1)] := hl
  have hx := X.hx
  have hb := X.hb
  unfold fX5_make at h
  refine lv_aload_n hx hb dX5_make_0 rfl (lv_at hl 0 rfl) ?_
  obtain ⟨x1, e2, h⟩ := lt_e h
  refine gf_X5_32 X M hS (va_up_s V t _) e2 dX5_make_1 ?_
  refine lv_istore_n (lv' := [(2, .int x1), (0, .ref (ga G t 10)), (1, .int a1)]) hx hb dX5_make_4 rfl hl (by decide) rfl (fun ls hl => ?_)
  refine lv_aload_n hx hb dX5_make_5 rfl (lv_at hl 1 rfl) ?_
  refine gf_X5_16 X M hS dX5_make_6 ?_
  refine lv_iload_n hx hb dX5_make_9 rfl (lv_at hl 0 rfl) ?_
  refine lv_iload_n hx hb dX5_make_10 rfl (lv_at hl 2 rfl) ?_
  obtain ⟨S4, e3, h⟩ := lt_e h
  refine u_cVv X M hl.1 (kX6_putS (uRw11 hS) e3) cw_X5_43 ⟨by decide, by decide⟩ (uR_recv X M (uRw11 hS)) rfl rfl (Nat.le_of_ble_eq_true rfl) ⟨Nat.zero_le _, Nat.zero_le _⟩ dX5_make_11 (fun H locs M => ?_)
  refine lv_aload_n hx hb dX5_make_14 rfl (lv_at hl 1 rfl) ?_
  refine lv_dup hx hb dX5_make_15 rfl ?_
  obtain ⟨x6, e7, h⟩ := lt_e h
  refine gf_X5_32 X M hS (va_up_s V t _) e7 dX5_make_16 ?_
  refine lv_iconst (v := 1) hx hb dX5_make_19 (by decide) ?_
  refine lv_iadd hx hb dX5_make_20 ?_
  obtain ⟨S8, e9, h⟩ := lt_e h
  refine pf_X5_32 X M hS e9 dX5_make_21 (fun H locs M => ?_)
  refine lv_iload_n hx hb dX5_make_24 rfl (lv_at hl 0 rfl) ?_
  exact u_iret X hret M (rt2 h).1 (congrArg (va_up V t) ((rt2 h).2)) rfl dX5_make_25
def fX5_isMarked (S : (Nat → Nat → Int32)) (a1 : Int32) : Int32 :=
  lt_ (fget 8 (S 16) a1) fun x2 =>
  if x2 = 0 then
    0
  else
    1
set_option maxHeartbeats 4000000 in
set_option maxRecDepth 20000 in
theorem kX5_isMarked {l : Launch} {G : UG} {V : uV} {t : Nat} (hS : uSt G t) {S : (Nat → Nat → Int32)} (hV : V t = S) {a1 : Int32} {r : Int32} (h : fX5_isMarked S a1 = r) : uMi l G yX5_isMarked cX5_isMarked 2 .boolean (uR 1 21) [.ref (ga G t 10), .int a1] V r V := by
  refine uMi_of rfl (Nat.le_of_ble_eq_true rfl) (fun p e s m args below meth c ls X hret hl M => ?_)
  have hl : lv_has ls 2 [(0, .ref (ga G t 10)), (1, .int a1)] := hl
  have hx := X.hx
  have hb := X.hb
  unfold fX5_isMarked at h
  refine lv_aload_n hx hb dX5_isMarked_0 rfl (lv_at hl 0 rfl) ?_
  refine gf_X5_23 X M hS dX5_isMarked_1 ?_
  refine lv_iload_n hx hb dX5_isMarked_4 rfl (lv_at hl 1 rfl) ?_
  obtain ⟨x2, e1, h⟩ := lt_e h
  refine u_cVi X M hl.1 (kX6_get (uRw15 hS) (congrFun hV 16) e1.symm) cw_X5_47 ⟨by decide, by decide⟩ (uR_recv X M (uRw15 hS)) rfl rfl (Nat.le_of_ble_eq_true rfl) ⟨Nat.zero_le _, Nat.zero_le _⟩ dX5_isMarked_5 (fun H locs M n3 => ?_)
  refine lv_if_eq (tgt := 15) hx hb dX5_isMarked_8 (by decide) (fun c4 => ?_) (fun c4 => ?_)
  · have h := it_t h c4
    refine lv_iconst (v := 0) hx hb dX5_isMarked_15 (by decide) ?_
    exact u_iret X hret M h (rfl) rfl dX5_isMarked_16
  · have h := it_f h c4
    refine lv_iconst (v := 1) hx hb dX5_isMarked_11 (by decide) ?_
    refine lv_goto (tgt := 16) hx hb dX5_isMarked_12 (by decide) ?_
    exact u_iret X hret M h (rfl) rfl dX5_isMarked_16
def fX5_isBlocked (S : (Nat → Nat → Int32)) (a1 : Int32) : Int32 :=
  lt_ (fget 8 (S 12) a1) fun x2 =>
  if x2 < 0 then
    1
  else
    lt_ (fget 8 (S 16) a1) fun x6 =>
    if x6 = 0 then
      0
    else
      1
set_option maxHeartbeats 4000000 in
set_option maxRecDepth 20000 in
theorem kX5_isBlocked {l : Launch} {G : UG} {V : uV} {t : Nat} (hS : uSt G t) {S : (Nat → Nat → Int32)} (hV : V t = S) {a1 : Int32} {r : Int32} (h : fX5_isBlocked S a1 = r) : uMi l G yX5_isBlocked cX5_isBlocked 2 .boolean (uR 1 21) [.ref (ga G t 10), .int a1] V r V := by
  refine uMi_of rfl (Nat.le_of_ble_eq_true rfl) (fun p e s m args below meth c ls X hret hl M => ?_)
  have hl : lv_has ls 2 [(0, .ref (ga G t 10)), (1, .int a1)] := hl
  have hx := X.hx
  have hb := X.hb
  unfold fX5_isBlocked at h
  refine lv_aload_n hx hb dX5_isBlocked_0 rfl (lv_at hl 0 rfl) ?_
  refine gf_X5_16 X M hS dX5_isBlocked_1 ?_
  refine lv_iload_n hx hb dX5_isBlocked_4 rfl (lv_at hl 1 rfl) ?_
  obtain ⟨x2, e1, h⟩ := lt_e h
  refine u_cVi X M hl.1 (kX6_get (uRw11 hS) (congrFun hV 12) e1.symm) cw_X5_47 ⟨by decide, by decide⟩ (uR_recv X M (uRw11 hS)) rfl rfl (Nat.le_of_ble_eq_true rfl) ⟨Nat.zero_le _, Nat.zero_le _⟩ dX5_isBlocked_5 (fun H locs M n3 => ?_)
  refine lv_if_lt (tgt := 22) hx hb dX5_isBlocked_8 (by decide) (fun c4 => ?_) (fun c4 => ?_)
  · have h := it_t h c4
    refine lv_iconst (v := 1) hx hb dX5_isBlocked_22 (by decide) ?_
    refine lv_goto (tgt := 27) hx hb dX5_isBlocked_23 (by decide) ?_
    exact u_iret X hret M h (rfl) rfl dX5_isBlocked_27
  · have h := it_f h c4
    refine lv_aload_n hx hb dX5_isBlocked_11 rfl (lv_at hl 0 rfl) ?_
    refine gf_X5_23 X M hS dX5_isBlocked_12 ?_
    refine lv_iload_n hx hb dX5_isBlocked_15 rfl (lv_at hl 1 rfl) ?_
    obtain ⟨x6, e5, h⟩ := lt_e h
    refine u_cVi X M hl.1 (kX6_get (uRw15 hS) (congrFun hV 16) e5.symm) cw_X5_47 ⟨by decide, by decide⟩ (uR_recv X M (uRw15 hS)) rfl rfl (Nat.le_of_ble_eq_true rfl) ⟨Nat.zero_le _, Nat.zero_le _⟩ dX5_isBlocked_16 (fun H locs M n7 => ?_)
    refine lv_if_eq (tgt := 26) hx hb dX5_isBlocked_19 (by decide) (fun c8 => ?_) (fun c8 => ?_)
    · have h := it_t h c8
      refine lv_iconst (v := 0) hx hb dX5_isBlocked_26 (by decide) ?_
      exact u_iret X hret M h (rfl) rfl dX5_isBlocked_27
    · have h := it_f h c8
      refine lv_iconst (v := 1) hx hb dX5_isBlocked_22 (by decide) ?_
      refine lv_goto (tgt := 27) hx hb dX5_isBlocked_23 (by decide) ?_
      exact u_iret X hret M h (rfl) rfl dX5_isBlocked_27
def fX5_blockedSet_L4 (S : (Nat → Nat → Int32)) (n : Nat) (y1 : Int32) (y2 : Int32) : Option Int32 :=
  match n with
  | 0 => none
  | n + 1 =>
    lt_ (S 10 0) fun x1 =>
    if x1 ≤ y2 then
      some y1
    else
      lt_ (fX5_isBlocked S y2) fun x5 =>
      if x5 = 0 then
        lt_ (y2 + 1) fun x8 =>
        fX5_blockedSet_L4 S n y1 x8
      else
        lt_ ((y1 ||| (1 <<< (y2 &&& 31)))) fun x10 =>
        lt_ (y2 + 1) fun x12 =>
        fX5_blockedSet_L4 S n x10 x12
set_option maxHeartbeats 4000000 in
set_option maxRecDepth 20000 in
theorem lpX5_blockedSet_4 {l : Launch} {G : UG} {V : uV} {t : Nat} (hS : uSt G t) {S : (Nat → Nat → Int32)} (hV : V t = S) {r : Int32} {p : Program} {e : Env} {s : State} {m : MethodId} {args : Array Value} {below : List Frame} {meth : Method} {c : Code} (X : UC p s m args meth c cX5_blockedSet 3 RX5 G) (hret : meth.sig.returnType = some .int) : ∀ (n : Nat) (y1 : Int32) (y2 : Int32) (H : Heap) (locs : List Loc) (ls : Array Slot), fX5_blockedSet_L4 S n y1 y2 = some r → UM G (V) s H locs → lv_has ls 3 [(0, .ref (ga G t 10)), (1, .int y1), (2, .int y2)] → W p l e (uR 2 42) s m args below meth c H locs 0 0 (MQ below (uQi G .int r V) args s 0 0 (uA G)) (F0 m 4 ls []) := by
  intro n
  have hx := X.hx
  have hb := X.hb
  induction n with
  | zero => intro y1 y2 H locs ls h M hl; rw [fX5_blockedSet_L4] at h; cases h
  | succ n ih =>
    intro y1 y2 H locs ls h M hl
    rw [fX5_blockedSet_L4] at h
    refine lv_iload_n hx hb dX5_blockedSet_4 rfl (lv_at hl 2 rfl) ?_
    refine lv_aload_n hx hb dX5_blockedSet_5 rfl (lv_at hl 0 rfl) ?_
    obtain ⟨x1, e2, h⟩ := lt_e h
    refine gf_X5_32 X M hS hV e2 dX5_blockedSet_6 ?_
    refine lv_icmp_ge (tgt := 32) hx hb dX5_blockedSet_9 (by decide) (fun c3 => ?_) (fun c3 => ?_)
    · have h := it_t h c3
      refine lv_iload_n hx hb dX5_blockedSet_32 rfl (lv_at hl 1 rfl) ?_
      exact u_iret X hret M (Option.some.inj h) (rfl) rfl dX5_blockedSet_33
    · have h := it_f h c3
      refine lv_aload_n hx hb dX5_blockedSet_12 rfl (lv_at hl 0 rfl) ?_
      refine lv_iload_n hx hb dX5_blockedSet_13 rfl (lv_at hl 2 rfl) ?_
      obtain ⟨x5, e4, h⟩ := lt_e h
      refine u_cVi X M hl.1 (kX5_isBlocked hS hV e4.symm) cw_X5_51 ⟨by decide, by decide⟩ (rc_X5 X M hS) rfl rfl (Nat.le_of_ble_eq_true rfl) ⟨Nat.zero_le _, Nat.zero_le _⟩ dX5_blockedSet_14 (fun H locs M n6 => ?_)
      refine lv_if_eq (tgt := 26) hx hb dX5_blockedSet_17 (by decide) (fun c7 => ?_) (fun c7 => ?_)
      · have h := it_t h c7
        obtain ⟨x8, e9, h⟩ := lt_e h
        refine lv_iinc (v := x8) (lv' := [(2, .int x8), (0, .ref (ga G t 10)), (1, .int y1)]) hx hb dX5_blockedSet_26 hl (k := 2) rfl (by rw [e9]; rfl) (by decide) rfl (fun ls hl => ?_)
        refine lv_goto (tgt := 4) hx hb dX5_blockedSet_29 (by decide) ?_
        exact ih _ _ _ _ _ h M (lv_sub hl [1, 2, 0] rfl)
      · have h := it_f h c7
        refine lv_iload_n hx hb dX5_blockedSet_20 rfl (lv_at hl 1 rfl) ?_
        refine lv_iconst (v := 1) hx hb dX5_blockedSet_21 (by decide) ?_
        refine lv_iload_n hx hb dX5_blockedSet_22 rfl (lv_at hl 2 rfl) ?_
        refine lv_ishl hx hb dX5_blockedSet_23 ?_
        refine lv_ior hx hb dX5_blockedSet_24 ?_
        obtain ⟨x10, e11, h⟩ := lt_e h
        refine u_topi e11 ?_
        refine lv_istore_n (lv' := [(1, .int x10), (0, .ref (ga G t 10)), (2, .int y2)]) hx hb dX5_blockedSet_25 rfl hl (by decide) rfl (fun ls hl => ?_)
        obtain ⟨x12, e13, h⟩ := lt_e h
        refine lv_iinc (v := x12) (lv' := [(2, .int x12), (1, .int x10), (0, .ref (ga G t 10))]) hx hb dX5_blockedSet_26 hl (k := 2) rfl (by rw [e13]; rfl) (by decide) rfl (fun ls hl => ?_)
        refine lv_goto (tgt := 4) hx hb dX5_blockedSet_29 (by decide) ?_
        exact ih _ _ _ _ _ h M (lv_sub hl [2, 1, 0] rfl)
def fX5_blockedSet (S : (Nat → Nat → Int32)) : Option Int32 :=
  fX5_blockedSet_L4 S 3000 0 0
set_option maxHeartbeats 4000000 in
set_option maxRecDepth 20000 in
theorem kX5_blockedSet {l : Launch} {G : UG} {V : uV} {t : Nat} (hS : uSt G t) {S : (Nat → Nat → Int32)} (hV : V t = S)  {r : Int32} (h : fX5_blockedSet S = some r) : uMi l G yX5_blockedSet cX5_blockedSet 3 .int (uR 2 42) [.ref (ga G t 10)] V r V := by
  refine uMi_of rfl (Nat.le_of_ble_eq_true rfl) (fun p e s m args below meth c ls X hret hl M => ?_)
  have hl : lv_has ls 3 [(0, .ref (ga G t 10))] := hl
  have hx := X.hx
  have hb := X.hb
  unfold fX5_blockedSet at h
  refine lv_iconst (v := 0) hx hb dX5_blockedSet_0 (by decide) ?_
  refine lv_istore_n (lv' := [(1, .int 0), (0, .ref (ga G t 10))]) hx hb dX5_blockedSet_1 rfl hl (by decide) rfl (fun ls hl => ?_)
  refine lv_iconst (v := 0) hx hb dX5_blockedSet_2 (by decide) ?_
  refine lv_istore_n (lv' := [(2, .int 0), (1, .int 0), (0, .ref (ga G t 10))]) hx hb dX5_blockedSet_3 rfl hl (by decide) rfl (fun ls hl => ?_)
  exact lpX5_blockedSet_4 hS hV X hret 3000 _ _ _ _ _ h M (lv_sub hl [2, 1, 0] rfl)
def fX5_payIn (S : (Nat → Nat → Int32)) (a1 : Int32) (a2 : Int32) : Option (Int32 × (Nat → Nat → Int32)) :=
  lt_ (va_up S 12 (finc 8 (S 12) a1 a2)) fun S2 =>
  lt_ (va_up S2 14 (finc 8 (S2 14) a1 a2)) fun S5 =>
  lt_ (fget 8 (S5 12) a1) fun x8 =>
  some (x8, S5)
set_option maxHeartbeats 4000000 in
set_option maxRecDepth 20000 in
theorem kX5_payIn {l : Launch} {G : UG} {V : uV} {t : Nat} (hS : uSt G t) {S S' : (Nat → Nat → Int32)} {a1 : Int32} {a2 : Int32} {r : Int32} (h : fX5_payIn S a1 a2 = some (r, S')) : uMi l G yX5_payIn cX5_payIn 3 .int (uR 1 22) [.ref (ga G t 10), .int a1, .int a2] (va_up V t S) r (va_up V t S') := by
  refine uMi_of rfl (Nat.le_of_ble_eq_true rfl) (fun p e s m args below meth c ls X hret hl M => ?_)
  have hl : lv_has ls 3 [(0, .ref (ga G t 10)), (1, .int a1), (2, .int a2)] := hl
  have hx := X.hx
  have hb := X.hb
  unfold fX5_payIn at h
  refine lv_aload_n hx hb dX5_payIn_0 rfl (lv_at hl 0 rfl) ?_
  refine gf_X5_16 X M hS dX5_payIn_1 ?_
  refine lv_iload_n hx hb dX5_payIn_4 rfl (lv_at hl 1 rfl) ?_
  refine lv_iload_n hx hb dX5_payIn_5 rfl (lv_at hl 2 rfl) ?_
  obtain ⟨S2, e1, h⟩ := lt_e h
  refine u_cVv X M hl.1 (kX6_increaseS (uRw11 hS) e1) cw_X5_55 ⟨by decide, by decide⟩ (uR_recv X M (uRw11 hS)) rfl rfl (Nat.le_of_ble_eq_true rfl) ⟨Nat.zero_le _, Nat.zero_le _⟩ dX5_payIn_6 (fun H locs M => ?_)
  refine lv_aload_n hx hb dX5_payIn_9 rfl (lv_at hl 0 rfl) ?_
  refine gf_X5_20 X M hS dX5_payIn_10 ?_
  refine lv_iload_n hx hb dX5_payIn_13 rfl (lv_at hl 1 rfl) ?_
  refine lv_iload_n hx hb dX5_payIn_14 rfl (lv_at hl 2 rfl) ?_
  obtain ⟨S5, e4, h⟩ := lt_e h
  refine u_cVv X M hl.1 (kX6_increaseS (uRw13 hS) e4) cw_X5_55 ⟨by decide, by decide⟩ (uR_recv X M (uRw13 hS)) rfl rfl (Nat.le_of_ble_eq_true rfl) ⟨Nat.zero_le _, Nat.zero_le _⟩ dX5_payIn_15 (fun H locs M => ?_)
  refine lv_aload_n hx hb dX5_payIn_18 rfl (lv_at hl 0 rfl) ?_
  refine gf_X5_16 X M hS dX5_payIn_19 ?_
  refine lv_iload_n hx hb dX5_payIn_22 rfl (lv_at hl 1 rfl) ?_
  obtain ⟨x8, e7, h⟩ := lt_e h
  refine u_cVi X M hl.1 (kX6_get (uRw11 hS) (congrFun (va_up_s V t _) 12) e7.symm) cw_X5_47 ⟨by decide, by decide⟩ (uR_recv X M (uRw11 hS)) rfl rfl (Nat.le_of_ble_eq_true rfl) ⟨Nat.zero_le _, Nat.zero_le _⟩ dX5_payIn_23 (fun H locs M n9 => ?_)
  exact u_iret X hret M (rt2 h).1 (congrArg (va_up V t) ((rt2 h).2)) rfl dX5_payIn_26
def fX5_takeWaiting (S : (Nat → Nat → Int32)) (a1 : Int32) : Option (Int32 × (Nat → Nat → Int32)) :=
  lt_ (fget 8 (S 14) a1) fun x2 =>
  lt_ (va_up S 14 (fput 8 (S 14) a1 0)) fun S4 =>
  some (x2, S4)
set_option maxHeartbeats 4000000 in
set_option maxRecDepth 20000 in
theorem kX5_takeWaiting {l : Launch} {G : UG} {V : uV} {t : Nat} (hS : uSt G t) {S S' : (Nat → Nat → Int32)} {a1 : Int32} {r : Int32} (h : fX5_takeWaiting S a1 = some (r, S')) : uMi l G yX5_takeWaiting cX5_takeWaiting 2 .int (uR 2 45) [.ref (ga G t 10), .int a1] (va_up V t S) r (va_up V t S') := by
  refine uMi_of rfl (Nat.le_of_ble_eq_true rfl) (fun p e s m args below meth c ls X hret hl M => ?_)
  have hl : lv_has ls 2 [(0, .ref (ga G t 10)), (1, .int a1)] := hl
  have hx := X.hx
  have hb := X.hb
  unfold fX5_takeWaiting at h
  refine lv_aload_n hx hb dX5_takeWaiting_0 rfl (lv_at hl 0 rfl) ?_
  refine gf_X5_20 X M hS dX5_takeWaiting_1 ?_
  refine lv_iload_n hx hb dX5_takeWaiting_4 rfl (lv_at hl 1 rfl) ?_
  refine lv_iconst (v := 0) hx hb dX5_takeWaiting_5 (by decide) ?_
  obtain ⟨x2, e3, h⟩ := lt_e h
  obtain ⟨S4, e1, h⟩ := lt_e h
  refine u_cVi X M hl.1 (kX6_replaceS (uRw13 hS) e3.symm e1) cw_X5_58 ⟨by decide, by decide⟩ (uR_recv X M (uRw13 hS)) rfl rfl (Nat.le_of_ble_eq_true rfl) ⟨Nat.zero_le _, Nat.zero_le _⟩ dX5_takeWaiting_6 (fun H locs M n5 => ?_)
  exact u_iret X hret M (rt2 h).1 (congrArg (va_up V t) ((rt2 h).2)) rfl dX5_takeWaiting_9
def fX5_unmark (S : (Nat → Nat → Int32)) (a1 : Int32) : Option (Int32 × (Nat → Nat → Int32)) :=
  lt_ (va_up S 16 (fput 8 (S 16) a1 0)) fun S2 =>
  lt_ (fget 8 (S2 12) a1) fun x5 =>
  some (x5, S2)
set_option maxHeartbeats 4000000 in
set_option maxRecDepth 20000 in
theorem kX5_unmark {l : Launch} {G : UG} {V : uV} {t : Nat} (hS : uSt G t) {S S' : (Nat → Nat → Int32)} {a1 : Int32} {r : Int32} (h : fX5_unmark S a1 = some (r, S')) : uMi l G yX5_unmark cX5_unmark 2 .int (uR 1 22) [.ref (ga G t 10), .int a1] (va_up V t S) r (va_up V t S') := by
  refine uMi_of rfl (Nat.le_of_ble_eq_true rfl) (fun p e s m args below meth c ls X hret hl M => ?_)
  have hl : lv_has ls 2 [(0, .ref (ga G t 10)), (1, .int a1)] := hl
  have hx := X.hx
  have hb := X.hb
  unfold fX5_unmark at h
  refine lv_aload_n hx hb dX5_unmark_0 rfl (lv_at hl 0 rfl) ?_
  refine gf_X5_23 X M hS dX5_unmark_1 ?_
  refine lv_iload_n hx hb dX5_unmark_4 rfl (lv_at hl 1 rfl) ?_
  refine lv_iconst (v := 0) hx hb dX5_unmark_5 (by decide) ?_
  obtain ⟨S2, e1, h⟩ := lt_e h
  refine u_cVv X M hl.1 (kX6_putS (uRw15 hS) e1) cw_X5_43 ⟨by decide, by decide⟩ (uR_recv X M (uRw15 hS)) rfl rfl (Nat.le_of_ble_eq_true rfl) ⟨Nat.zero_le _, Nat.zero_le _⟩ dX5_unmark_6 (fun H locs M => ?_)
  refine lv_aload_n hx hb dX5_unmark_9 rfl (lv_at hl 0 rfl) ?_
  refine gf_X5_16 X M hS dX5_unmark_10 ?_
  refine lv_iload_n hx hb dX5_unmark_13 rfl (lv_at hl 1 rfl) ?_
  obtain ⟨x5, e4, h⟩ := lt_e h
  refine u_cVi X M hl.1 (kX6_get (uRw11 hS) (congrFun (va_up_s V t _) 12) e4.symm) cw_X5_47 ⟨by decide, by decide⟩ (uR_recv X M (uRw11 hS)) rfl rfl (Nat.le_of_ble_eq_true rfl) ⟨Nat.zero_le _, Nat.zero_le _⟩ dX5_unmark_14 (fun H locs M n6 => ?_)
  exact u_iret X hret M (rt2 h).1 (congrArg (va_up V t) ((rt2 h).2)) rfl dX5_unmark_17
def fX5_settleRide (S : (Nat → Nat → Int32)) (a1 : Int32) (a2 : Int32) (a3 : Int32) (a4 : Int32) : Option (Int32 × (Nat → Nat → Int32)) :=
  lt_ (fX5_wordOf  a1 a2) fun x2 =>
  lt_ ((1 <<< ((a2 &&& 31) &&& 31))) fun x4 =>
  lt_ (fget 256 (S 20) x2) fun x7 =>
  if (x7 &&& x4) = 0 then
    lt_ (va_up S 20 (fput 256 (S 20) x2 (x7 ||| x4))) fun S11 =>
    lt_ (va_up S11 18 (finc 8 (S11 18) a1 1)) fun S14 =>
    lt_ (va_up S14 12 (finc 8 (S14 12) a1 (-a3))) fun S17 =>
    some (1, S17)
  else
    lt_ (va_up S 12 (finc 8 (S 12) a1 (-a4))) fun S20 =>
    lt_ (va_up S20 16 (fput 8 (S20 16) a1 1)) fun S23 =>
    some (0, S23)
set_option maxHeartbeats 4000000 in
set_option maxRecDepth 20000 in
theorem kX5_settleRide {l : Launch} {G : UG} {V : uV} {t : Nat} (hS : uSt G t) {S S' : (Nat → Nat → Int32)} {a1 : Int32} {a2 : Int32} {a3 : Int32} {a4 : Int32} {r : Int32} (h : fX5_settleRide S a1 a2 a3 a4 = some (r, S')) : uMi l G yX5_settleRide cX5_settleRide 8 .boolean (uR 1 22) [.ref (ga G t 10), .int a1, .int a2, .int a3, .int a4] (va_up V t S) r (va_up V t S') := by
  refine uMi_of rfl (Nat.le_of_ble_eq_true rfl) (fun p e s m args below meth c ls X hret hl M => ?_)
  have hl : lv_has ls 8 [(0, .ref (ga G t 10)), (1, .int a1), (2, .int a2), (3, .int a3), (4, .int a4)] := hl
  have hx := X.hx
  have hb := X.hb
  unfold fX5_settleRide at h
  refine lv_iload_n hx hb dX5_settleRide_0 rfl (lv_at hl 1 rfl) ?_
  refine lv_iload_n hx hb dX5_settleRide_1 rfl (lv_at hl 2 rfl) ?_
  obtain ⟨x2, e1, h⟩ := lt_e h
  refine u_cSi X M hl.1 (kX5_wordOf  e1.symm) cw_X5_62 ⟨by decide, by decide⟩ rfl rfl (Nat.le_of_ble_eq_true rfl) ⟨Nat.zero_le _, Nat.zero_le _⟩ dX5_settleRide_2 (fun H locs M n3 => ?_)
  refine lv_istore (lv' := [(5, .int x2), (0, .ref (ga G t 10)), (1, .int a1), (2, .int a2), (3, .int a3), (4, .int a4)]) hx hb dX5_settleRide_5 hl (by decide) rfl (fun ls hl => ?_)
  refine lv_iconst (v := 1) hx hb dX5_settleRide_7 (by decide) ?_
  refine lv_iload_n hx hb dX5_settleRide_8 rfl (lv_at hl 3 rfl) ?_
  refine lv_bipush (v := 31) hx hb dX5_settleRide_9 (by decide) ?_
  refine lv_iand hx hb dX5_settleRide_11 ?_
  refine lv_ishl hx hb dX5_settleRide_12 ?_
  obtain ⟨x4, e5, h⟩ := lt_e h
  refine u_topi e5 ?_
  refine lv_istore (lv' := [(6, .int x4), (5, .int x2), (0, .ref (ga G t 10)), (1, .int a1), (2, .int a2), (3, .int a3), (4, .int a4)]) hx hb dX5_settleRide_13 hl (by decide) rfl (fun ls hl => ?_)
  refine lv_aload_n hx hb dX5_settleRide_15 rfl (lv_at hl 2 rfl) ?_
  refine gf_X5_29 X M hS dX5_settleRide_16 ?_
  refine lv_iload hx hb dX5_settleRide_19 (lv_at hl 1 rfl) ?_
  obtain ⟨x7, e6, h⟩ := lt_e h
  refine u_cVi X M hl.1 (kX6_get (uRw19 hS) (congrFun (va_up_s V t _) 20) e6.symm) cw_X5_47 ⟨by decide, by decide⟩ (uR_recv X M (uRw19 hS)) rfl rfl (Nat.le_of_ble_eq_true rfl) ⟨Nat.zero_le _, Nat.zero_le _⟩ dX5_settleRide_21 (fun H locs M n8 => ?_)
  refine lv_istore (lv' := [(7, .int x7), (6, .int x4), (5, .int x2), (0, .ref (ga G t 10)), (1, .int a1), (2, .int a2), (3, .int a3), (4, .int a4)]) hx hb dX5_settleRide_24 hl (by decide) rfl (fun ls hl => ?_)
  refine lv_iload hx hb dX5_settleRide_26 (lv_at hl 0 rfl) ?_
  refine lv_iload hx hb dX5_settleRide_28 (lv_at hl 1 rfl) ?_
  refine lv_iand hx hb dX5_settleRide_30 ?_
  refine lv_if_eq (tgt := 56) hx hb dX5_settleRide_31 (by decide) (fun c9 => ?_) (fun c9 => ?_)
  · have h := it_t h c9
    refine lv_aload_n hx hb dX5_settleRide_56 rfl (lv_at hl 3 rfl) ?_
    refine gf_X5_29 X M hS dX5_settleRide_57 ?_
    refine lv_iload hx hb dX5_settleRide_60 (lv_at hl 2 rfl) ?_
    refine lv_iload hx hb dX5_settleRide_62 (lv_at hl 0 rfl) ?_
    refine lv_iload hx hb dX5_settleRide_64 (lv_at hl 1 rfl) ?_
    refine lv_ior hx hb dX5_settleRide_66 ?_
    obtain ⟨S11, e10, h⟩ := lt_e h
    refine u_cVv X M hl.1 (kX6_putS (uRw19 hS) e10) cw_X5_43 ⟨by decide, by decide⟩ (uR_recv X M (uRw19 hS)) rfl rfl (Nat.le_of_ble_eq_true rfl) ⟨Nat.zero_le _, Nat.zero_le _⟩ dX5_settleRide_67 (fun H locs M => ?_)
    refine lv_aload_n hx hb dX5_settleRide_70 rfl (lv_at hl 3 rfl) ?_
    refine gf_X5_26 X M hS dX5_settleRide_71 ?_
    refine lv_iload_n hx hb dX5_settleRide_74 rfl (lv_at hl 4 rfl) ?_
    refine lv_iconst (v := 1) hx hb dX5_settleRide_75 (by decide) ?_
    obtain ⟨S14, e13, h⟩ := lt_e h
    refine u_cVv X M hl.1 (kX6_increaseS (uRw17 hS) e13) cw_X5_55 ⟨by decide, by decide⟩ (uR_recv X M (uRw17 hS)) rfl rfl (Nat.le_of_ble_eq_true rfl) ⟨Nat.zero_le _, Nat.zero_le _⟩ dX5_settleRide_76 (fun H locs M => ?_)
    refine lv_aload_n hx hb dX5_settleRide_79 rfl (lv_at hl 3 rfl) ?_
    refine gf_X5_16 X M hS dX5_settleRide_80 ?_
    refine lv_iload_n hx hb dX5_settleRide_83 rfl (lv_at hl 4 rfl) ?_
    refine lv_iload_n hx hb dX5_settleRide_84 rfl (lv_at hl 6 rfl) ?_
    refine lv_ineg hx hb dX5_settleRide_85 ?_
    obtain ⟨S17, e16, h⟩ := lt_e h
    refine u_cVv X M hl.1 (kX6_increaseS (uRw11 hS) e16) cw_X5_55 ⟨by decide, by decide⟩ (uR_recv X M (uRw11 hS)) rfl rfl (Nat.le_of_ble_eq_true rfl) ⟨Nat.zero_le _, Nat.zero_le _⟩ dX5_settleRide_86 (fun H locs M => ?_)
    refine lv_iconst (v := 1) hx hb dX5_settleRide_89 (by decide) ?_
    exact u_iret X hret M (rt2 h).1 (congrArg (va_up V t) ((rt2 h).2)) rfl dX5_settleRide_90
  · have h := it_f h c9
    refine lv_aload_n hx hb dX5_settleRide_34 rfl (lv_at hl 3 rfl) ?_
    refine gf_X5_16 X M hS dX5_settleRide_35 ?_
    refine lv_iload_n hx hb dX5_settleRide_38 rfl (lv_at hl 4 rfl) ?_
    refine lv_iload hx hb dX5_settleRide_39 (lv_at hl 7 rfl) ?_
    refine lv_ineg hx hb dX5_settleRide_41 ?_
    obtain ⟨S20, e19, h⟩ := lt_e h
    refine u_cVv X M hl.1 (kX6_increaseS (uRw11 hS) e19) cw_X5_55 ⟨by decide, by decide⟩ (uR_recv X M (uRw11 hS)) rfl rfl (Nat.le_of_ble_eq_true rfl) ⟨Nat.zero_le _, Nat.zero_le _⟩ dX5_settleRide_42 (fun H locs M => ?_)
    refine lv_aload_n hx hb dX5_settleRide_45 rfl (lv_at hl 3 rfl) ?_
    refine gf_X5_23 X M hS dX5_settleRide_46 ?_
    refine lv_iload_n hx hb dX5_settleRide_49 rfl (lv_at hl 4 rfl) ?_
    refine lv_iconst (v := 1) hx hb dX5_settleRide_50 (by decide) ?_
    obtain ⟨S23, e22, h⟩ := lt_e h
    refine u_cVv X M hl.1 (kX6_putS (uRw15 hS) e22) cw_X5_43 ⟨by decide, by decide⟩ (uR_recv X M (uRw15 hS)) rfl rfl (Nat.le_of_ble_eq_true rfl) ⟨Nat.zero_le _, Nat.zero_le _⟩ dX5_settleRide_51 (fun H locs M => ?_)
    refine lv_iconst (v := 0) hx hb dX5_settleRide_54 (by decide) ?_
    exact u_iret X hret M (rt2 h).1 (congrArg (va_up V t) ((rt2 h).2)) rfl dX5_settleRide_55
def fX5_clear (S : (Nat → Nat → Int32)) : Option (Nat → Nat → Int32) :=
  lt_ (va_up S 10 (upd (S 10) 0 0)) fun S1 =>
  lt_ (va_up S1 12 (fun _ => 0)) fun S4 =>
  lt_ (va_up S4 14 (fun _ => 0)) fun S7 =>
  lt_ (va_up S7 16 (fun _ => 0)) fun S10 =>
  lt_ (va_up S10 18 (fun _ => 0)) fun S13 =>
  lt_ (va_up S13 20 (fun _ => 0)) fun S16 =>
  some S16
set_option maxHeartbeats 4000000 in
set_option maxRecDepth 20000 in
theorem kX5_clear {l : Launch} {G : UG} {V : uV} {t : Nat} (hS : uSt G t) {S S' : (Nat → Nat → Int32)}  (h : fX5_clear S = some S') : uMv l G yX5_clear cX5_clear 1 (uR 1 22) [.ref (ga G t 10)] (va_up V t S) (va_up V t S') := by
  refine uMv_of rfl (Nat.le_of_ble_eq_true rfl) (fun p e s m args below meth c ls X hret hl M => ?_)
  have hl : lv_has ls 1 [(0, .ref (ga G t 10))] := hl
  have hx := X.hx
  have hb := X.hb
  unfold fX5_clear at h
  refine lv_aload_n hx hb dX5_clear_0 rfl (lv_at hl 0 rfl) ?_
  refine lv_iconst (v := 0) hx hb dX5_clear_1 (by decide) ?_
  obtain ⟨S1, e2, h⟩ := lt_e h
  refine pf_X5_32 X M hS e2 dX5_clear_2 (fun H locs M => ?_)
  refine lv_aload_n hx hb dX5_clear_5 rfl (lv_at hl 0 rfl) ?_
  refine gf_X5_16 X M hS dX5_clear_6 ?_
  refine lv_iconst (v := 0) hx hb dX5_clear_9 (by decide) ?_
  obtain ⟨S4, e3, h⟩ := lt_e h
  refine u_cVv X M hl.1 (kX6_fillS (uRw11 hS) e3) cw_X5_36 ⟨by decide, by decide⟩ (uR_recv X M (uRw11 hS)) rfl rfl (Nat.le_of_ble_eq_true rfl) ⟨Nat.zero_le _, Nat.zero_le _⟩ dX5_clear_10 (fun H locs M => ?_)
  refine lv_aload_n hx hb dX5_clear_13 rfl (lv_at hl 0 rfl) ?_
  refine gf_X5_20 X M hS dX5_clear_14 ?_
  refine lv_iconst (v := 0) hx hb dX5_clear_17 (by decide) ?_
  obtain ⟨S7, e6, h⟩ := lt_e h
  refine u_cVv X M hl.1 (kX6_fillS (uRw13 hS) e6) cw_X5_36 ⟨by decide, by decide⟩ (uR_recv X M (uRw13 hS)) rfl rfl (Nat.le_of_ble_eq_true rfl) ⟨Nat.zero_le _, Nat.zero_le _⟩ dX5_clear_18 (fun H locs M => ?_)
  refine lv_aload_n hx hb dX5_clear_21 rfl (lv_at hl 0 rfl) ?_
  refine gf_X5_23 X M hS dX5_clear_22 ?_
  refine lv_iconst (v := 0) hx hb dX5_clear_25 (by decide) ?_
  obtain ⟨S10, e9, h⟩ := lt_e h
  refine u_cVv X M hl.1 (kX6_fillS (uRw15 hS) e9) cw_X5_36 ⟨by decide, by decide⟩ (uR_recv X M (uRw15 hS)) rfl rfl (Nat.le_of_ble_eq_true rfl) ⟨Nat.zero_le _, Nat.zero_le _⟩ dX5_clear_26 (fun H locs M => ?_)
  refine lv_aload_n hx hb dX5_clear_29 rfl (lv_at hl 0 rfl) ?_
  refine gf_X5_26 X M hS dX5_clear_30 ?_
  refine lv_iconst (v := 0) hx hb dX5_clear_33 (by decide) ?_
  obtain ⟨S13, e12, h⟩ := lt_e h
  refine u_cVv X M hl.1 (kX6_fillS (uRw17 hS) e12) cw_X5_36 ⟨by decide, by decide⟩ (uR_recv X M (uRw17 hS)) rfl rfl (Nat.le_of_ble_eq_true rfl) ⟨Nat.zero_le _, Nat.zero_le _⟩ dX5_clear_34 (fun H locs M => ?_)
  refine lv_aload_n hx hb dX5_clear_37 rfl (lv_at hl 0 rfl) ?_
  refine gf_X5_29 X M hS dX5_clear_38 ?_
  refine lv_iconst (v := 0) hx hb dX5_clear_41 (by decide) ?_
  obtain ⟨S16, e15, h⟩ := lt_e h
  refine u_cVv X M hl.1 (kX6_fillS (uRw19 hS) e15) cw_X5_36 ⟨by decide, by decide⟩ (uR_recv X M (uRw19 hS)) rfl rfl (Nat.le_of_ble_eq_true rfl) ⟨Nat.zero_le _, Nat.zero_le _⟩ dX5_clear_42 (fun H locs M => ?_)
  exact u_vret X hret M (congrArg (va_up V t) (Option.some.inj h)) dX5_clear_45
