theorem dX3_has_0 : decode cX3_has 0 = .ok (.iload_n 1, 1) := by decide +kernel
theorem dX3_has_1 : decode cX3_has 1 = .ok (.ifCond .lt 12, 3) := by decide +kernel
theorem dX3_has_4 : decode cX3_has 4 = .ok (.iload_n 1, 1) := by decide +kernel
theorem dX3_has_5 : decode cX3_has 5 = .ok (.iconst 4, 1) := by decide +kernel
theorem dX3_has_6 : decode cX3_has 6 = .ok (.if_icmp .ge 7, 3) := by decide +kernel
theorem dX3_has_9 : decode cX3_has 9 = .ok (.iconst 1, 1) := by decide +kernel
theorem dX3_has_10 : decode cX3_has 10 = .ok (.goto 4, 3) := by decide +kernel
theorem dX3_has_13 : decode cX3_has 13 = .ok (.iconst 0, 1) := by decide +kernel
theorem dX3_has_14 : decode cX3_has 14 = .ok (.ireturn, 1) := by decide +kernel
theorem dX3_isUp_0 : decode cX3_isUp 0 = .ok (.aload_n 0, 1) := by decide +kernel
theorem dX3_isUp_1 : decode cX3_isUp 1 = .ok (.getfield 21, 3) := by decide +kernel
theorem dX3_isUp_4 : decode cX3_isUp 4 = .ok (.iload_n 1, 1) := by decide +kernel
theorem dX3_isUp_5 : decode cX3_isUp 5 = .ok (.invokevirtual 46, 3) := by decide +kernel
theorem dX3_isUp_8 : decode cX3_isUp 8 = .ok (.ifCond .eq 7, 3) := by decide +kernel
theorem dX3_isUp_11 : decode cX3_isUp 11 = .ok (.iconst 1, 1) := by decide +kernel
theorem dX3_isUp_12 : decode cX3_isUp 12 = .ok (.goto 4, 3) := by decide +kernel
theorem dX3_isUp_15 : decode cX3_isUp 15 = .ok (.iconst 0, 1) := by decide +kernel
theorem dX3_isUp_16 : decode cX3_isUp 16 = .ok (.ireturn, 1) := by decide +kernel
theorem dX3_isOpen_0 : decode cX3_isOpen 0 = .ok (.aload_n 0, 1) := by decide +kernel
theorem dX3_isOpen_1 : decode cX3_isOpen 1 = .ok (.getfield 24, 3) := by decide +kernel
theorem dX3_isOpen_4 : decode cX3_isOpen 4 = .ok (.iload_n 1, 1) := by decide +kernel
theorem dX3_isOpen_5 : decode cX3_isOpen 5 = .ok (.invokevirtual 46, 3) := by decide +kernel
theorem dX3_isOpen_8 : decode cX3_isOpen 8 = .ok (.ifCond .eq 7, 3) := by decide +kernel
theorem dX3_isOpen_11 : decode cX3_isOpen 11 = .ok (.iconst 1, 1) := by decide +kernel
theorem dX3_isOpen_12 : decode cX3_isOpen 12 = .ok (.goto 4, 3) := by decide +kernel
theorem dX3_isOpen_15 : decode cX3_isOpen 15 = .ok (.iconst 0, 1) := by decide +kernel
theorem dX3_isOpen_16 : decode cX3_isOpen 16 = .ok (.ireturn, 1) := by decide +kernel
theorem dX3_setLine_0 : decode cX3_setLine 0 = .ok (.aload_n 0, 1) := by decide +kernel
theorem dX3_setLine_1 : decode cX3_setLine 1 = .ok (.getfield 21, 3) := by decide +kernel
theorem dX3_setLine_4 : decode cX3_setLine 4 = .ok (.iload_n 1, 1) := by decide +kernel
theorem dX3_setLine_5 : decode cX3_setLine 5 = .ok (.iload_n 2, 1) := by decide +kernel
theorem dX3_setLine_6 : decode cX3_setLine 6 = .ok (.ifCond .eq 7, 3) := by decide +kernel
theorem dX3_setLine_9 : decode cX3_setLine 9 = .ok (.iconst 1, 1) := by decide +kernel
theorem dX3_setLine_10 : decode cX3_setLine 10 = .ok (.goto 4, 3) := by decide +kernel
theorem dX3_setLine_13 : decode cX3_setLine 13 = .ok (.iconst 0, 1) := by decide +kernel
theorem dX3_setLine_14 : decode cX3_setLine 14 = .ok (.invokevirtual 50, 3) := by decide +kernel
theorem dX3_setLine_17 : decode cX3_setLine 17 = .ok (.return_, 1) := by decide +kernel
theorem dX3_turnOpen_0 : decode cX3_turnOpen 0 = .ok (.aload_n 0, 1) := by decide +kernel
theorem dX3_turnOpen_1 : decode cX3_turnOpen 1 = .ok (.getfield 24, 3) := by decide +kernel
theorem dX3_turnOpen_4 : decode cX3_turnOpen 4 = .ok (.iload_n 1, 1) := by decide +kernel
theorem dX3_turnOpen_5 : decode cX3_turnOpen 5 = .ok (.aload_n 0, 1) := by decide +kernel
theorem dX3_turnOpen_6 : decode cX3_turnOpen 6 = .ok (.iload_n 1, 1) := by decide +kernel
theorem dX3_turnOpen_7 : decode cX3_turnOpen 7 = .ok (.invokevirtual 54, 3) := by decide +kernel
theorem dX3_turnOpen_10 : decode cX3_turnOpen 10 = .ok (.ifCond .eq 7, 3) := by decide +kernel
theorem dX3_turnOpen_13 : decode cX3_turnOpen 13 = .ok (.iconst 0, 1) := by decide +kernel
theorem dX3_turnOpen_14 : decode cX3_turnOpen 14 = .ok (.goto 4, 3) := by decide +kernel
theorem dX3_turnOpen_17 : decode cX3_turnOpen 17 = .ok (.iconst 1, 1) := by decide +kernel
theorem dX3_turnOpen_18 : decode cX3_turnOpen 18 = .ok (.invokevirtual 50, 3) := by decide +kernel
theorem dX3_turnOpen_21 : decode cX3_turnOpen 21 = .ok (.aload_n 0, 1) := by decide +kernel
theorem dX3_turnOpen_22 : decode cX3_turnOpen 22 = .ok (.getfield 24, 3) := by decide +kernel
theorem dX3_turnOpen_25 : decode cX3_turnOpen 25 = .ok (.iload_n 1, 1) := by decide +kernel
theorem dX3_turnOpen_26 : decode cX3_turnOpen 26 = .ok (.invokevirtual 46, 3) := by decide +kernel
theorem dX3_turnOpen_29 : decode cX3_turnOpen 29 = .ok (.ireturn, 1) := by decide +kernel
theorem dX3_number_0 : decode cX3_number 0 = .ok (.iload_n 2, 1) := by decide +kernel
theorem dX3_number_1 : decode cX3_number 1 = .ok (.tableswitch 54 0 2 #[27, 36, 45], 27) := by decide +kernel
theorem dX3_number_28 : decode cX3_number 28 = .ok (.aload_n 0, 1) := by decide +kernel
theorem dX3_number_29 : decode cX3_number 29 = .ok (.getfield 14, 3) := by decide +kernel
theorem dX3_number_32 : decode cX3_number 32 = .ok (.iload_n 1, 1) := by decide +kernel
theorem dX3_number_33 : decode cX3_number 33 = .ok (.invokevirtual 46, 3) := by decide +kernel
theorem dX3_number_36 : decode cX3_number 36 = .ok (.ireturn, 1) := by decide +kernel
theorem dX3_number_37 : decode cX3_number 37 = .ok (.aload_n 0, 1) := by decide +kernel
theorem dX3_number_38 : decode cX3_number 38 = .ok (.getfield 21, 3) := by decide +kernel
theorem dX3_number_41 : decode cX3_number 41 = .ok (.iload_n 1, 1) := by decide +kernel
theorem dX3_number_42 : decode cX3_number 42 = .ok (.invokevirtual 46, 3) := by decide +kernel
theorem dX3_number_45 : decode cX3_number 45 = .ok (.ireturn, 1) := by decide +kernel
theorem dX3_number_46 : decode cX3_number 46 = .ok (.aload_n 0, 1) := by decide +kernel
theorem dX3_number_47 : decode cX3_number 47 = .ok (.getfield 24, 3) := by decide +kernel
theorem dX3_number_50 : decode cX3_number 50 = .ok (.iload_n 1, 1) := by decide +kernel
theorem dX3_number_51 : decode cX3_number 51 = .ok (.invokevirtual 46, 3) := by decide +kernel
theorem dX3_number_54 : decode cX3_number 54 = .ok (.ireturn, 1) := by decide +kernel
theorem dX3_number_55 : decode cX3_number 55 = .ok (.aload_n 0, 1) := by decide +kernel
theorem dX3_number_56 : decode cX3_number 56 = .ok (.getfield 27, 3) := by decide +kernel
theorem dX3_number_59 : decode cX3_number 59 = .ok (.iload_n 1, 1) := by decide +kernel
theorem dX3_number_60 : decode cX3_number 60 = .ok (.invokevirtual 46, 3) := by decide +kernel
theorem dX3_number_63 : decode cX3_number 63 = .ok (.ireturn, 1) := by decide +kernel
theorem dX3_logSize_0 : decode cX3_logSize 0 = .ok (.aload_n 0, 1) := by decide +kernel
theorem dX3_logSize_1 : decode cX3_logSize 1 = .ok (.getfield 27, 3) := by decide +kernel
theorem dX3_logSize_4 : decode cX3_logSize 4 = .ok (.iload_n 1, 1) := by decide +kernel
theorem dX3_logSize_5 : decode cX3_logSize 5 = .ok (.invokevirtual 46, 3) := by decide +kernel
theorem dX3_logSize_8 : decode cX3_logSize 8 = .ok (.ireturn, 1) := by decide +kernel
theorem dX3_isLogFull_0 : decode cX3_isLogFull 0 = .ok (.aload_n 0, 1) := by decide +kernel
theorem dX3_isLogFull_1 : decode cX3_isLogFull 1 = .ok (.getfield 27, 3) := by decide +kernel
theorem dX3_isLogFull_4 : decode cX3_isLogFull 4 = .ok (.iload_n 1, 1) := by decide +kernel
theorem dX3_isLogFull_5 : decode cX3_isLogFull 5 = .ok (.invokevirtual 46, 3) := by decide +kernel
theorem dX3_isLogFull_8 : decode cX3_isLogFull 8 = .ok (.bipush 12, 2) := by decide +kernel
theorem dX3_isLogFull_10 : decode cX3_isLogFull 10 = .ok (.if_icmp .lt 7, 3) := by decide +kernel
theorem dX3_isLogFull_13 : decode cX3_isLogFull 13 = .ok (.iconst 1, 1) := by decide +kernel
theorem dX3_isLogFull_14 : decode cX3_isLogFull 14 = .ok (.goto 4, 3) := by decide +kernel
theorem dX3_isLogFull_17 : decode cX3_isLogFull 17 = .ok (.iconst 0, 1) := by decide +kernel
theorem dX3_isLogFull_18 : decode cX3_isLogFull 18 = .ok (.ireturn, 1) := by decide +kernel
theorem dX3_hasLogged_0 : decode cX3_hasLogged 0 = .ok (.iload_n 2, 1) := by decide +kernel
theorem dX3_hasLogged_1 : decode cX3_hasLogged 1 = .ok (.ifCond .lt 19, 3) := by decide +kernel
theorem dX3_hasLogged_4 : decode cX3_hasLogged 4 = .ok (.iload_n 2, 1) := by decide +kernel
theorem dX3_hasLogged_5 : decode cX3_hasLogged 5 = .ok (.aload_n 0, 1) := by decide +kernel
theorem dX3_hasLogged_6 : decode cX3_hasLogged 6 = .ok (.getfield 27, 3) := by decide +kernel
theorem dX3_hasLogged_9 : decode cX3_hasLogged 9 = .ok (.iload_n 1, 1) := by decide +kernel
theorem dX3_hasLogged_10 : decode cX3_hasLogged 10 = .ok (.invokevirtual 46, 3) := by decide +kernel
theorem dX3_hasLogged_13 : decode cX3_hasLogged 13 = .ok (.if_icmp .ge 7, 3) := by decide +kernel
theorem dX3_hasLogged_16 : decode cX3_hasLogged 16 = .ok (.iconst 1, 1) := by decide +kernel
theorem dX3_hasLogged_17 : decode cX3_hasLogged 17 = .ok (.goto 4, 3) := by decide +kernel
theorem dX3_hasLogged_20 : decode cX3_hasLogged 20 = .ok (.iconst 0, 1) := by decide +kernel
theorem dX3_hasLogged_21 : decode cX3_hasLogged 21 = .ok (.ireturn, 1) := by decide +kernel
theorem dX3_loggedNumber_0 : decode cX3_loggedNumber 0 = .ok (.iload_n 1, 1) := by decide +kernel
theorem dX3_loggedNumber_1 : decode cX3_loggedNumber 1 = .ok (.bipush 12, 2) := by decide +kernel
theorem dX3_loggedNumber_3 : decode cX3_loggedNumber 3 = .ok (.imul, 1) := by decide +kernel
theorem dX3_loggedNumber_4 : decode cX3_loggedNumber 4 = .ok (.iload_n 2, 1) := by decide +kernel
theorem dX3_loggedNumber_5 : decode cX3_loggedNumber 5 = .ok (.iadd, 1) := by decide +kernel
theorem dX3_loggedNumber_6 : decode cX3_loggedNumber 6 = .ok (.istore 4, 2) := by decide +kernel
theorem dX3_loggedNumber_8 : decode cX3_loggedNumber 8 = .ok (.iload_n 3, 1) := by decide +kernel
theorem dX3_loggedNumber_9 : decode cX3_loggedNumber 9 = .ok (.lookupswitch 47 #[(0, 27), (1, 37)], 27) := by decide +kernel
theorem dX3_loggedNumber_36 : decode cX3_loggedNumber 36 = .ok (.aload_n 0, 1) := by decide +kernel
theorem dX3_loggedNumber_37 : decode cX3_loggedNumber 37 = .ok (.getfield 30, 3) := by decide +kernel
theorem dX3_loggedNumber_40 : decode cX3_loggedNumber 40 = .ok (.iload 4, 2) := by decide +kernel
theorem dX3_loggedNumber_42 : decode cX3_loggedNumber 42 = .ok (.invokevirtual 46, 3) := by decide +kernel
theorem dX3_loggedNumber_45 : decode cX3_loggedNumber 45 = .ok (.ireturn, 1) := by decide +kernel
theorem dX3_loggedNumber_46 : decode cX3_loggedNumber 46 = .ok (.aload_n 0, 1) := by decide +kernel
theorem dX3_loggedNumber_47 : decode cX3_loggedNumber 47 = .ok (.getfield 33, 3) := by decide +kernel
theorem dX3_loggedNumber_50 : decode cX3_loggedNumber 50 = .ok (.iload 4, 2) := by decide +kernel
theorem dX3_loggedNumber_52 : decode cX3_loggedNumber 52 = .ok (.invokevirtual 46, 3) := by decide +kernel
theorem dX3_loggedNumber_55 : decode cX3_loggedNumber 55 = .ok (.ireturn, 1) := by decide +kernel
theorem dX3_loggedNumber_56 : decode cX3_loggedNumber 56 = .ok (.aload_n 0, 1) := by decide +kernel
theorem dX3_loggedNumber_57 : decode cX3_loggedNumber 57 = .ok (.getfield 36, 3) := by decide +kernel
theorem dX3_loggedNumber_60 : decode cX3_loggedNumber 60 = .ok (.iload 4, 2) := by decide +kernel
theorem dX3_loggedNumber_62 : decode cX3_loggedNumber 62 = .ok (.invokevirtual 46, 3) := by decide +kernel
theorem dX3_loggedNumber_65 : decode cX3_loggedNumber 65 = .ok (.ireturn, 1) := by decide +kernel
theorem dX3_writeLog_0 : decode cX3_writeLog 0 = .ok (.iload_n 1, 1) := by decide +kernel
theorem dX3_writeLog_1 : decode cX3_writeLog 1 = .ok (.bipush 12, 2) := by decide +kernel
theorem dX3_writeLog_3 : decode cX3_writeLog 3 = .ok (.imul, 1) := by decide +kernel
theorem dX3_writeLog_4 : decode cX3_writeLog 4 = .ok (.aload_n 0, 1) := by decide +kernel
theorem dX3_writeLog_5 : decode cX3_writeLog 5 = .ok (.getfield 27, 3) := by decide +kernel
theorem dX3_writeLog_8 : decode cX3_writeLog 8 = .ok (.iload_n 1, 1) := by decide +kernel
theorem dX3_writeLog_9 : decode cX3_writeLog 9 = .ok (.invokevirtual 46, 3) := by decide +kernel
theorem dX3_writeLog_12 : decode cX3_writeLog 12 = .ok (.iadd, 1) := by decide +kernel
theorem dX3_writeLog_13 : decode cX3_writeLog 13 = .ok (.istore 5, 2) := by decide +kernel
theorem dX3_writeLog_15 : decode cX3_writeLog 15 = .ok (.aload_n 0, 1) := by decide +kernel
theorem dX3_writeLog_16 : decode cX3_writeLog 16 = .ok (.getfield 30, 3) := by decide +kernel
theorem dX3_writeLog_19 : decode cX3_writeLog 19 = .ok (.iload 5, 2) := by decide +kernel
theorem dX3_writeLog_21 : decode cX3_writeLog 21 = .ok (.iload_n 2, 1) := by decide +kernel
theorem dX3_writeLog_22 : decode cX3_writeLog 22 = .ok (.invokevirtual 50, 3) := by decide +kernel
theorem dX3_writeLog_25 : decode cX3_writeLog 25 = .ok (.aload_n 0, 1) := by decide +kernel
theorem dX3_writeLog_26 : decode cX3_writeLog 26 = .ok (.getfield 33, 3) := by decide +kernel
theorem dX3_writeLog_29 : decode cX3_writeLog 29 = .ok (.iload 5, 2) := by decide +kernel
theorem dX3_writeLog_31 : decode cX3_writeLog 31 = .ok (.iload_n 3, 1) := by decide +kernel
theorem dX3_writeLog_32 : decode cX3_writeLog 32 = .ok (.invokevirtual 50, 3) := by decide +kernel
theorem dX3_writeLog_35 : decode cX3_writeLog 35 = .ok (.aload_n 0, 1) := by decide +kernel
theorem dX3_writeLog_36 : decode cX3_writeLog 36 = .ok (.getfield 36, 3) := by decide +kernel
theorem dX3_writeLog_39 : decode cX3_writeLog 39 = .ok (.iload 5, 2) := by decide +kernel
theorem dX3_writeLog_41 : decode cX3_writeLog 41 = .ok (.iload 4, 2) := by decide +kernel
theorem dX3_writeLog_43 : decode cX3_writeLog 43 = .ok (.invokevirtual 50, 3) := by decide +kernel
theorem dX3_writeLog_46 : decode cX3_writeLog 46 = .ok (.aload_n 0, 1) := by decide +kernel
theorem dX3_writeLog_47 : decode cX3_writeLog 47 = .ok (.getfield 27, 3) := by decide +kernel
theorem dX3_writeLog_50 : decode cX3_writeLog 50 = .ok (.iload_n 1, 1) := by decide +kernel
theorem dX3_writeLog_51 : decode cX3_writeLog 51 = .ok (.iconst 1, 1) := by decide +kernel
theorem dX3_writeLog_52 : decode cX3_writeLog 52 = .ok (.invokevirtual 58, 3) := by decide +kernel
theorem dX3_writeLog_55 : decode cX3_writeLog 55 = .ok (.return_, 1) := by decide +kernel
theorem dX3_emptyLog_0 : decode cX3_emptyLog 0 = .ok (.aload_n 0, 1) := by decide +kernel
theorem dX3_emptyLog_1 : decode cX3_emptyLog 1 = .ok (.getfield 27, 3) := by decide +kernel
theorem dX3_emptyLog_4 : decode cX3_emptyLog 4 = .ok (.iload_n 1, 1) := by decide +kernel
theorem dX3_emptyLog_5 : decode cX3_emptyLog 5 = .ok (.iconst 0, 1) := by decide +kernel
theorem dX3_emptyLog_6 : decode cX3_emptyLog 6 = .ok (.invokevirtual 50, 3) := by decide +kernel
theorem dX3_emptyLog_9 : decode cX3_emptyLog 9 = .ok (.return_, 1) := by decide +kernel
theorem dX3_isOf_0 : decode cX3_isOf 0 = .ok (.iload_n 3, 1) := by decide +kernel
theorem dX3_isOf_1 : decode cX3_isOf 1 = .ok (.iconst (-1), 1) := by decide +kernel
theorem dX3_isOf_2 : decode cX3_isOf 2 = .ok (.if_icmp .eq 20, 3) := by decide +kernel
theorem dX3_isOf_5 : decode cX3_isOf 5 = .ok (.aload_n 0, 1) := by decide +kernel
theorem dX3_isOf_6 : decode cX3_isOf 6 = .ok (.getfield 30, 3) := by decide +kernel
theorem dX3_isOf_9 : decode cX3_isOf 9 = .ok (.iload_n 1, 1) := by decide +kernel
theorem dX3_isOf_10 : decode cX3_isOf 10 = .ok (.bipush 12, 2) := by decide +kernel
theorem dX3_isOf_12 : decode cX3_isOf 12 = .ok (.imul, 1) := by decide +kernel
theorem dX3_isOf_13 : decode cX3_isOf 13 = .ok (.iload_n 2, 1) := by decide +kernel
theorem dX3_isOf_14 : decode cX3_isOf 14 = .ok (.iadd, 1) := by decide +kernel
theorem dX3_isOf_15 : decode cX3_isOf 15 = .ok (.invokevirtual 46, 3) := by decide +kernel
theorem dX3_isOf_18 : decode cX3_isOf 18 = .ok (.iload_n 3, 1) := by decide +kernel
theorem dX3_isOf_19 : decode cX3_isOf 19 = .ok (.if_icmp .ne 7, 3) := by decide +kernel
theorem dX3_isOf_22 : decode cX3_isOf 22 = .ok (.iconst 1, 1) := by decide +kernel
theorem dX3_isOf_23 : decode cX3_isOf 23 = .ok (.goto 4, 3) := by decide +kernel
theorem dX3_isOf_26 : decode cX3_isOf 26 = .ok (.iconst 0, 1) := by decide +kernel
theorem dX3_isOf_27 : decode cX3_isOf 27 = .ok (.ireturn, 1) := by decide +kernel
theorem dX3_clear_0 : decode cX3_clear 0 = .ok (.aload_n 0, 1) := by decide +kernel
theorem dX3_clear_1 : decode cX3_clear 1 = .ok (.getfield 14, 3) := by decide +kernel
theorem dX3_clear_4 : decode cX3_clear 4 = .ok (.iconst 2, 1) := by decide +kernel
theorem dX3_clear_5 : decode cX3_clear 5 = .ok (.invokevirtual 39, 3) := by decide +kernel
theorem dX3_clear_8 : decode cX3_clear 8 = .ok (.aload_n 0, 1) := by decide +kernel
theorem dX3_clear_9 : decode cX3_clear 9 = .ok (.getfield 21, 3) := by decide +kernel
theorem dX3_clear_12 : decode cX3_clear 12 = .ok (.iconst 1, 1) := by decide +kernel
theorem dX3_clear_13 : decode cX3_clear 13 = .ok (.invokevirtual 39, 3) := by decide +kernel
theorem dX3_clear_16 : decode cX3_clear 16 = .ok (.aload_n 0, 1) := by decide +kernel
theorem dX3_clear_17 : decode cX3_clear 17 = .ok (.getfield 18, 3) := by decide +kernel
theorem dX3_clear_20 : decode cX3_clear 20 = .ok (.iconst 0, 1) := by decide +kernel
theorem dX3_clear_21 : decode cX3_clear 21 = .ok (.invokevirtual 39, 3) := by decide +kernel
theorem dX3_clear_24 : decode cX3_clear 24 = .ok (.aload_n 0, 1) := by decide +kernel
theorem dX3_clear_25 : decode cX3_clear 25 = .ok (.getfield 24, 3) := by decide +kernel
theorem dX3_clear_28 : decode cX3_clear 28 = .ok (.iconst 0, 1) := by decide +kernel
theorem dX3_clear_29 : decode cX3_clear 29 = .ok (.invokevirtual 39, 3) := by decide +kernel
theorem dX3_clear_32 : decode cX3_clear 32 = .ok (.aload_n 0, 1) := by decide +kernel
theorem dX3_clear_33 : decode cX3_clear 33 = .ok (.getfield 27, 3) := by decide +kernel
theorem dX3_clear_36 : decode cX3_clear 36 = .ok (.iconst 0, 1) := by decide +kernel
theorem dX3_clear_37 : decode cX3_clear 37 = .ok (.invokevirtual 39, 3) := by decide +kernel
theorem dX3_clear_40 : decode cX3_clear 40 = .ok (.return_, 1) := by decide +kernel
theorem dX3_ridesInLogs_0 : decode cX3_ridesInLogs 0 = .ok (.iconst 0, 1) := by decide +kernel
theorem dX3_ridesInLogs_1 : decode cX3_ridesInLogs 1 = .ok (.istore_n 2, 1) := by decide +kernel
theorem dX3_ridesInLogs_2 : decode cX3_ridesInLogs 2 = .ok (.iconst 0, 1) := by decide +kernel
theorem dX3_ridesInLogs_3 : decode cX3_ridesInLogs 3 = .ok (.istore_n 3, 1) := by decide +kernel
theorem dX3_ridesInLogs_4 : decode cX3_ridesInLogs 4 = .ok (.iload_n 3, 1) := by decide +kernel
theorem dX3_ridesInLogs_5 : decode cX3_ridesInLogs 5 = .ok (.iconst 4, 1) := by decide +kernel
theorem dX3_ridesInLogs_6 : decode cX3_ridesInLogs 6 = .ok (.if_icmp .ge 49, 3) := by decide +kernel
theorem dX3_ridesInLogs_9 : decode cX3_ridesInLogs 9 = .ok (.aload_n 0, 1) := by decide +kernel
theorem dX3_ridesInLogs_10 : decode cX3_ridesInLogs 10 = .ok (.getfield 27, 3) := by decide +kernel
theorem dX3_ridesInLogs_13 : decode cX3_ridesInLogs 13 = .ok (.iload_n 3, 1) := by decide +kernel
theorem dX3_ridesInLogs_14 : decode cX3_ridesInLogs 14 = .ok (.invokevirtual 46, 3) := by decide +kernel
theorem dX3_ridesInLogs_17 : decode cX3_ridesInLogs 17 = .ok (.istore 4, 2) := by decide +kernel
theorem dX3_ridesInLogs_19 : decode cX3_ridesInLogs 19 = .ok (.iconst 0, 1) := by decide +kernel
theorem dX3_ridesInLogs_20 : decode cX3_ridesInLogs 20 = .ok (.istore 5, 2) := by decide +kernel
theorem dX3_ridesInLogs_22 : decode cX3_ridesInLogs 22 = .ok (.iload 5, 2) := by decide +kernel
theorem dX3_ridesInLogs_24 : decode cX3_ridesInLogs 24 = .ok (.iload 4, 2) := by decide +kernel
theorem dX3_ridesInLogs_26 : decode cX3_ridesInLogs 26 = .ok (.if_icmp .ge 23, 3) := by decide +kernel
theorem dX3_ridesInLogs_29 : decode cX3_ridesInLogs 29 = .ok (.aload_n 0, 1) := by decide +kernel
theorem dX3_ridesInLogs_30 : decode cX3_ridesInLogs 30 = .ok (.iload_n 3, 1) := by decide +kernel
theorem dX3_ridesInLogs_31 : decode cX3_ridesInLogs 31 = .ok (.iload 5, 2) := by decide +kernel
theorem dX3_ridesInLogs_33 : decode cX3_ridesInLogs 33 = .ok (.iload_n 1, 1) := by decide +kernel
theorem dX3_ridesInLogs_34 : decode cX3_ridesInLogs 34 = .ok (.invokevirtual 61, 3) := by decide +kernel
theorem dX3_ridesInLogs_37 : decode cX3_ridesInLogs 37 = .ok (.ifCond .eq 6, 3) := by decide +kernel
theorem dX3_ridesInLogs_40 : decode cX3_ridesInLogs 40 = .ok (.iinc 2 1, 3) := by decide +kernel
theorem dX3_ridesInLogs_43 : decode cX3_ridesInLogs 43 = .ok (.iinc 5 1, 3) := by decide +kernel
theorem dX3_ridesInLogs_46 : decode cX3_ridesInLogs 46 = .ok (.goto (-24), 3) := by decide +kernel
theorem dX3_ridesInLogs_49 : decode cX3_ridesInLogs 49 = .ok (.iinc 3 1, 3) := by decide +kernel
theorem dX3_ridesInLogs_52 : decode cX3_ridesInLogs 52 = .ok (.goto (-48), 3) := by decide +kernel
theorem dX3_ridesInLogs_55 : decode cX3_ridesInLogs 55 = .ok (.iload_n 2, 1) := by decide +kernel
theorem dX3_ridesInLogs_56 : decode cX3_ridesInLogs 56 = .ok (.ireturn, 1) := by decide +kernel
theorem dX3_faresInLogs_0 : decode cX3_faresInLogs 0 = .ok (.iconst 0, 1) := by decide +kernel
theorem dX3_faresInLogs_1 : decode cX3_faresInLogs 1 = .ok (.istore_n 2, 1) := by decide +kernel
theorem dX3_faresInLogs_2 : decode cX3_faresInLogs 2 = .ok (.iconst 0, 1) := by decide +kernel
theorem dX3_faresInLogs_3 : decode cX3_faresInLogs 3 = .ok (.istore_n 3, 1) := by decide +kernel
theorem dX3_faresInLogs_4 : decode cX3_faresInLogs 4 = .ok (.iload_n 3, 1) := by decide +kernel
theorem dX3_faresInLogs_5 : decode cX3_faresInLogs 5 = .ok (.iconst 4, 1) := by decide +kernel
theorem dX3_faresInLogs_6 : decode cX3_faresInLogs 6 = .ok (.if_icmp .ge 63, 3) := by decide +kernel
theorem dX3_faresInLogs_9 : decode cX3_faresInLogs 9 = .ok (.aload_n 0, 1) := by decide +kernel
theorem dX3_faresInLogs_10 : decode cX3_faresInLogs 10 = .ok (.getfield 27, 3) := by decide +kernel
theorem dX3_faresInLogs_13 : decode cX3_faresInLogs 13 = .ok (.iload_n 3, 1) := by decide +kernel
theorem dX3_faresInLogs_14 : decode cX3_faresInLogs 14 = .ok (.invokevirtual 46, 3) := by decide +kernel
theorem dX3_faresInLogs_17 : decode cX3_faresInLogs 17 = .ok (.istore 4, 2) := by decide +kernel
theorem dX3_faresInLogs_19 : decode cX3_faresInLogs 19 = .ok (.iconst 0, 1) := by decide +kernel
theorem dX3_faresInLogs_20 : decode cX3_faresInLogs 20 = .ok (.istore 5, 2) := by decide +kernel
theorem dX3_faresInLogs_22 : decode cX3_faresInLogs 22 = .ok (.iload 5, 2) := by decide +kernel
theorem dX3_faresInLogs_24 : decode cX3_faresInLogs 24 = .ok (.iload 4, 2) := by decide +kernel
theorem dX3_faresInLogs_26 : decode cX3_faresInLogs 26 = .ok (.if_icmp .ge 37, 3) := by decide +kernel
theorem dX3_faresInLogs_29 : decode cX3_faresInLogs 29 = .ok (.aload_n 0, 1) := by decide +kernel
theorem dX3_faresInLogs_30 : decode cX3_faresInLogs 30 = .ok (.iload_n 3, 1) := by decide +kernel
theorem dX3_faresInLogs_31 : decode cX3_faresInLogs 31 = .ok (.iload 5, 2) := by decide +kernel
theorem dX3_faresInLogs_33 : decode cX3_faresInLogs 33 = .ok (.iload_n 1, 1) := by decide +kernel
theorem dX3_faresInLogs_34 : decode cX3_faresInLogs 34 = .ok (.invokevirtual 61, 3) := by decide +kernel
theorem dX3_faresInLogs_37 : decode cX3_faresInLogs 37 = .ok (.ifCond .eq 20, 3) := by decide +kernel
theorem dX3_faresInLogs_40 : decode cX3_faresInLogs 40 = .ok (.iload_n 2, 1) := by decide +kernel
theorem dX3_faresInLogs_41 : decode cX3_faresInLogs 41 = .ok (.aload_n 0, 1) := by decide +kernel
theorem dX3_faresInLogs_42 : decode cX3_faresInLogs 42 = .ok (.getfield 36, 3) := by decide +kernel
theorem dX3_faresInLogs_45 : decode cX3_faresInLogs 45 = .ok (.iload_n 3, 1) := by decide +kernel
theorem dX3_faresInLogs_46 : decode cX3_faresInLogs 46 = .ok (.bipush 12, 2) := by decide +kernel
theorem dX3_faresInLogs_48 : decode cX3_faresInLogs 48 = .ok (.imul, 1) := by decide +kernel
theorem dX3_faresInLogs_49 : decode cX3_faresInLogs 49 = .ok (.iload 5, 2) := by decide +kernel
theorem dX3_faresInLogs_51 : decode cX3_faresInLogs 51 = .ok (.iadd, 1) := by decide +kernel
theorem dX3_faresInLogs_52 : decode cX3_faresInLogs 52 = .ok (.invokevirtual 46, 3) := by decide +kernel
theorem dX3_faresInLogs_55 : decode cX3_faresInLogs 55 = .ok (.iadd, 1) := by decide +kernel
theorem dX3_faresInLogs_56 : decode cX3_faresInLogs 56 = .ok (.istore_n 2, 1) := by decide +kernel
theorem dX3_faresInLogs_57 : decode cX3_faresInLogs 57 = .ok (.iinc 5 1, 3) := by decide +kernel
theorem dX3_faresInLogs_60 : decode cX3_faresInLogs 60 = .ok (.goto (-38), 3) := by decide +kernel
theorem dX3_faresInLogs_63 : decode cX3_faresInLogs 63 = .ok (.iinc 3 1, 3) := by decide +kernel
theorem dX3_faresInLogs_66 : decode cX3_faresInLogs 66 = .ok (.goto (-62), 3) := by decide +kernel
theorem dX3_faresInLogs_69 : decode cX3_faresInLogs 69 = .ok (.iload_n 2, 1) := by decide +kernel
theorem dX3_faresInLogs_70 : decode cX3_faresInLogs 70 = .ok (.ireturn, 1) := by decide +kernel
theorem cw_X3_39 : uCW RX3 RX6 39 yX6_fill cX6_fill 3 none 1 := ⟨gt_in 178 (by decide +kernel) (by decide +kernel), yf_X6_fill⟩
theorem cw_X3_46 : uCW RX3 RX6 46 yX6_get cX6_get 2 (some .int) 1 := ⟨gt_in 517 (by decide +kernel) (by decide +kernel), yf_X6_get⟩
theorem cw_X3_50 : uCW RX3 RX6 50 yX6_put cX6_put 3 none 2 := ⟨gt_in 577 (by decide +kernel) (by decide +kernel), yf_X6_put⟩
theorem yf_X3_isOpen : (Cond.instanceMethod yX3_isOpen) ∈ gtbl ∧ (Cond.selects RX3 yX3_isOpen yX3_isOpen) ∈ gtbl ∧ (Cond.initialized RX3) ∈ gtbl ∧ (Cond.code yX3_isOpen cX3_isOpen 2 (some .boolean)) ∈ gtbl ∧ (yX3_isOpen.cls = RX3 ∧ yX3_isOpen.cls ≠ "java/lang/invoke/MethodHandle" ∧ yX3_isOpen.cls ≠ "java/lang/invoke/VarHandle" ∧ (parseMethodDescriptor yX3_isOpen.desc).map (fun d => d.parameters.length) = some 1) := ⟨gt_in 514 (by decide +kernel) (by decide +kernel), gt_in 515 (by decide +kernel) (by decide +kernel), gt_in 16 (by decide +kernel) (by decide +kernel), gt_in 516 (by decide +kernel) (by decide +kernel), by decide +kernel⟩
theorem cw_X3_54 : uCW RX3 RX3 54 yX3_isOpen cX3_isOpen 2 (some .boolean) 1 := ⟨gt_in 636 (by decide +kernel) (by decide +kernel), yf_X3_isOpen⟩
theorem cw_X3_58 : uCW RX3 RX6 58 yX6_increase cX6_increase 3 none 2 := ⟨gt_in 578 (by decide +kernel) (by decide +kernel), yf_X6_increase⟩
theorem yf_X3_isOf : (Cond.instanceMethod yX3_isOf) ∈ gtbl ∧ (Cond.selects RX3 yX3_isOf yX3_isOf) ∈ gtbl ∧ (Cond.initialized RX3) ∈ gtbl ∧ (Cond.code yX3_isOf cX3_isOf 4 (some .boolean)) ∈ gtbl ∧ (yX3_isOf.cls = RX3 ∧ yX3_isOf.cls ≠ "java/lang/invoke/MethodHandle" ∧ yX3_isOf.cls ≠ "java/lang/invoke/VarHandle" ∧ (parseMethodDescriptor yX3_isOf.desc).map (fun d => d.parameters.length) = some 3) := ⟨gt_in 660 (by decide +kernel) (by decide +kernel), gt_in 6 (by decide +kernel) (by decide +kernel), gt_in 16 (by decide +kernel) (by decide +kernel), gt_in 661 (by decide +kernel) (by decide +kernel), by decide +kernel⟩
theorem cw_X3_61 : uCW RX3 RX3 61 yX3_isOf cX3_isOf 4 (some .boolean) 3 := ⟨gt_in 658 (by decide +kernel) (by decide +kernel), yf_X3_isOf⟩
def fX3_has (S : (Nat → Nat → Int32)) (a1 : Int32) : Int32 :=
  if a1 < 0 then
    0
  else
    if 4 ≤ a1 then
      0
    else
      1
set_option maxHeartbeats 4000000 in
set_option maxRecDepth 20000 in
theorem kX3_has {l : Launch} {G : UG} {V : uV} {t : Nat} (hS : uSt G t) {S : (Nat → Nat → Int32)} (hV : V t = S) {a1 : Int32} {r : Int32} (h : fX3_has S a1 = r) : uMi l G yX3_has cX3_has 2 .boolean (uR 0 0) [.ref (ga G t 21), .int a1] V r V := by
  refine uMi_of rfl (Nat.le_of_ble_eq_true rfl) (fun p e s m args below meth c ls X hret hl M => ?_)
  have hl : lv_has ls 2 [(0, .ref (ga G t 21)), (1, .int a1)] := hl
  have hx := X.hx
  have hb := X.hb
  unfold fX3_has at h
  refine lv_iload_n hx hb dX3_has_0 rfl (lv_at hl 1 rfl) ?_
  refine lv_if_lt (tgt := 13) hx hb dX3_has_1 (by decide) (fun c1 => ?_) (fun c1 => ?_)
  · have h := it_t h c1
    refine lv_iconst (v := 0) hx hb dX3_has_13 (by decide) ?_
    exact u_iret X hret M h (rfl) rfl dX3_has_14
  · have h := it_f h c1
    refine lv_iload_n hx hb dX3_has_4 rfl (lv_at hl 1 rfl) ?_
    refine lv_iconst (v := 4) hx hb dX3_has_5 (by decide) ?_
    refine lv_icmp_ge (tgt := 13) hx hb dX3_has_6 (by decide) (fun c2 => ?_) (fun c2 => ?_)
    · have h := it_t h c2
      refine lv_iconst (v := 0) hx hb dX3_has_13 (by decide) ?_
      exact u_iret X hret M h (rfl) rfl dX3_has_14
    · have h := it_f h c2
      refine lv_iconst (v := 1) hx hb dX3_has_9 (by decide) ?_
      refine lv_goto (tgt := 14) hx hb dX3_has_10 (by decide) ?_
      exact u_iret X hret M h (rfl) rfl dX3_has_14
def fX3_isUp (S : (Nat → Nat → Int32)) (a1 : Int32) : Int32 :=
  lt_ (fget 4 (S 27) a1) fun x2 =>
  if x2 = 0 then
    0
  else
    1
set_option maxHeartbeats 4000000 in
set_option maxRecDepth 20000 in
theorem kX3_isUp {l : Launch} {G : UG} {V : uV} {t : Nat} (hS : uSt G t) {S : (Nat → Nat → Int32)} (hV : V t = S) {a1 : Int32} {r : Int32} (h : fX3_isUp S a1 = r) : uMi l G yX3_isUp cX3_isUp 2 .boolean (uR 1 21) [.ref (ga G t 21), .int a1] V r V := by
  refine uMi_of rfl (Nat.le_of_ble_eq_true rfl) (fun p e s m args below meth c ls X hret hl M => ?_)
  have hl : lv_has ls 2 [(0, .ref (ga G t 21)), (1, .int a1)] := hl
  have hx := X.hx
  have hb := X.hb
  unfold fX3_isUp at h
  refine lv_aload_n hx hb dX3_isUp_0 rfl (lv_at hl 0 rfl) ?_
  refine gf_X3_21 X M hS dX3_isUp_1 ?_
  refine lv_iload_n hx hb dX3_isUp_4 rfl (lv_at hl 1 rfl) ?_
  obtain ⟨x2, e1, h⟩ := lt_e h
  refine u_cVi X M hl.1 (kX6_get (uRw26 hS) (congrFun hV 27) e1.symm) cw_X3_46 ⟨by decide, by decide⟩ (uR_recv X M (uRw26 hS)) rfl rfl (Nat.le_of_ble_eq_true rfl) ⟨Nat.zero_le _, Nat.zero_le _⟩ dX3_isUp_5 (fun H locs M n3 => ?_)
  refine lv_if_eq (tgt := 15) hx hb dX3_isUp_8 (by decide) (fun c4 => ?_) (fun c4 => ?_)
  · have h := it_t h c4
    refine lv_iconst (v := 0) hx hb dX3_isUp_15 (by decide) ?_
    exact u_iret X hret M h (rfl) rfl dX3_isUp_16
  · have h := it_f h c4
    refine lv_iconst (v := 1) hx hb dX3_isUp_11 (by decide) ?_
    refine lv_goto (tgt := 16) hx hb dX3_isUp_12 (by decide) ?_
    exact u_iret X hret M h (rfl) rfl dX3_isUp_16
def fX3_isOpen (S : (Nat → Nat → Int32)) (a1 : Int32) : Int32 :=
  lt_ (fget 4 (S 29) a1) fun x2 =>
  if x2 = 0 then
    0
  else
    1
set_option maxHeartbeats 4000000 in
set_option maxRecDepth 20000 in
theorem kX3_isOpen {l : Launch} {G : UG} {V : uV} {t : Nat} (hS : uSt G t) {S : (Nat → Nat → Int32)} (hV : V t = S) {a1 : Int32} {r : Int32} (h : fX3_isOpen S a1 = r) : uMi l G yX3_isOpen cX3_isOpen 2 .boolean (uR 1 21) [.ref (ga G t 21), .int a1] V r V := by
  refine uMi_of rfl (Nat.le_of_ble_eq_true rfl) (fun p e s m args below meth c ls X hret hl M => ?_)
  have hl : lv_has ls 2 [(0, .ref (ga G t 21)), (1, .int a1)] := hl
  have hx := X.hx
  have hb := X.hb
  unfold fX3_isOpen at h
  refine lv_aload_n hx hb dX3_isOpen_0 rfl (lv_at hl 0 rfl) ?_
  refine gf_X3_24 X M hS dX3_isOpen_1 ?_
  refine lv_iload_n hx hb dX3_isOpen_4 rfl (lv_at hl 1 rfl) ?_
  obtain ⟨x2, e1, h⟩ := lt_e h
  refine u_cVi X M hl.1 (kX6_get (uRw28 hS) (congrFun hV 29) e1.symm) cw_X3_46 ⟨by decide, by decide⟩ (uR_recv X M (uRw28 hS)) rfl rfl (Nat.le_of_ble_eq_true rfl) ⟨Nat.zero_le _, Nat.zero_le _⟩ dX3_isOpen_5 (fun H locs M n3 => ?_)
  refine lv_if_eq (tgt := 15) hx hb dX3_isOpen_8 (by decide) (fun c4 => ?_) (fun c4 => ?_)
  · have h := it_t h c4
    refine lv_iconst (v := 0) hx hb dX3_isOpen_15 (by decide) ?_
    exact u_iret X hret M h (rfl) rfl dX3_isOpen_16
  · have h := it_f h c4
    refine lv_iconst (v := 1) hx hb dX3_isOpen_11 (by decide) ?_
    refine lv_goto (tgt := 16) hx hb dX3_isOpen_12 (by decide) ?_
    exact u_iret X hret M h (rfl) rfl dX3_isOpen_16
def fX3_setLine (S : (Nat → Nat → Int32)) (a1 : Int32) (a2 : Int32) : Option (Nat → Nat → Int32) :=
  if a2 = 0 then
    lt_ (va_up S 27 (fput 4 (S 27) a1 0)) fun S3 =>
    some S3
  else
    lt_ (va_up S 27 (fput 4 (S 27) a1 1)) fun S6 =>
    some S6
set_option maxHeartbeats 4000000 in
set_option maxRecDepth 20000 in
theorem kX3_setLine {l : Launch} {G : UG} {V : uV} {t : Nat} (hS : uSt G t) {S S' : (Nat → Nat → Int32)} {a1 : Int32} {a2 : Int32} (h : fX3_setLine S a1 a2 = some S') : uMv l G yX3_setLine cX3_setLine 3 (uR 1 22) [.ref (ga G t 21), .int a1, .int a2] (va_up V t S) (va_up V t S') := by
  refine uMv_of rfl (Nat.le_of_ble_eq_true rfl) (fun p e s m args below meth c ls X hret hl M => ?_)
  have hl : lv_has ls 3 [(0, .ref (ga G t 21)), (1, .int a1), (2, .int a2)] := hl
  have hx := X.hx
  have hb := X.hb
  unfold fX3_setLine at h
  refine lv_aload_n hx hb dX3_setLine_0 rfl (lv_at hl 0 rfl) ?_
  refine gf_X3_21 X M hS dX3_setLine_1 ?_
  refine lv_iload_n hx hb dX3_setLine_4 rfl (lv_at hl 1 rfl) ?_
  refine lv_iload_n hx hb dX3_setLine_5 rfl (lv_at hl 2 rfl) ?_
  refine lv_if_eq (tgt := 13) hx hb dX3_setLine_6 (by decide) (fun c1 => ?_) (fun c1 => ?_)
  · have h := it_t h c1
    refine lv_iconst (v := 0) hx hb dX3_setLine_13 (by decide) ?_
    obtain ⟨S3, e2, h⟩ := lt_e h
    refine u_cVv X M hl.1 (kX6_putS (uRw26 hS) e2) cw_X3_50 ⟨by decide, by decide⟩ (uR_recv X M (uRw26 hS)) rfl rfl (Nat.le_of_ble_eq_true rfl) ⟨Nat.zero_le _, Nat.zero_le _⟩ dX3_setLine_14 (fun H locs M => ?_)
    exact u_vret X hret M (congrArg (va_up V t) (Option.some.inj h)) dX3_setLine_17
  · have h := it_f h c1
    refine lv_iconst (v := 1) hx hb dX3_setLine_9 (by decide) ?_
    refine lv_goto (tgt := 14) hx hb dX3_setLine_10 (by decide) ?_
    obtain ⟨S6, e5, h⟩ := lt_e h
    refine u_cVv X M hl.1 (kX6_putS (uRw26 hS) e5) cw_X3_50 ⟨by decide, by decide⟩ (uR_recv X M (uRw26 hS)) rfl rfl (Nat.le_of_ble_eq_true rfl) ⟨Nat.zero_le _, Nat.zero_le _⟩ dX3_setLine_14 (fun H locs M => ?_)
    exact u_vret X hret M (congrArg (va_up V t) (Option.some.inj h)) dX3_setLine_17
def fX3_turnOpen (S : (Nat → Nat → Int32)) (a1 : Int32) : Option (Int32 × (Nat → Nat → Int32)) :=
  lt_ (fX3_isOpen S a1) fun x2 =>
  if x2 = 0 then
    lt_ (va_up S 29 (fput 4 (S 29) a1 1)) fun S6 =>
    lt_ (fget 4 (S6 29) a1) fun x9 =>
    some (x9, S6)
  else
    lt_ (va_up S 29 (fput 4 (S 29) a1 0)) fun S12 =>
    lt_ (fget 4 (S12 29) a1) fun x15 =>
    some (x15, S12)
set_option maxHeartbeats 4000000 in
set_option maxRecDepth 20000 in
theorem kX3_turnOpen {l : Launch} {G : UG} {V : uV} {t : Nat} (hS : uSt G t) {S S' : (Nat → Nat → Int32)} {a1 : Int32} {r : Int32} (h : fX3_turnOpen S a1 = some (r, S')) : uMi l G yX3_turnOpen cX3_turnOpen 2 .int (uR 2 42) [.ref (ga G t 21), .int a1] (va_up V t S) r (va_up V t S') := by
  refine uMi_of rfl (Nat.le_of_ble_eq_true rfl) (fun p e s m args below meth c ls X hret hl M => ?_)
  have hl : lv_has ls 2 [(0, .ref (ga G t 21)), (1, .int a1)] := hl
  have hx := X.hx
  have hb := X.hb
  unfold fX3_turnOpen at h
  refine lv_aload_n hx hb dX3_turnOpen_0 rfl (lv_at hl 0 rfl) ?_
  refine gf_X3_24 X M hS dX3_turnOpen_1 ?_
  refine lv_iload_n hx hb dX3_turnOpen_4 rfl (lv_at hl 1 rfl) ?_
  refine lv_aload_n hx hb dX3_turnOpen_5 rfl (lv_at hl 0 rfl) ?_
  refine lv_iload_n hx hb dX3_turnOpen_6 rfl (lv_at hl 1 rfl) ?_
  obtain ⟨x2, e1, h⟩ := lt_e h
  refine u_cVi X M hl.1 (kX3_isOpen hS (va_up_s V t _) e1.symm) cw_X3_54 ⟨by decide, by decide⟩ (rc_X3 X M hS) rfl rfl (Nat.le_of_ble_eq_true rfl) ⟨Nat.zero_le _, Nat.zero_le _⟩ dX3_turnOpen_7 (fun H locs M n3 => ?_)
  refine lv_if_eq (tgt := 17) hx hb dX3_turnOpen_10 (by decide) (fun c4 => ?_) (fun c4 => ?_)
  · have h := it_t h c4
    refine lv_iconst (v := 1) hx hb dX3_turnOpen_17 (by decide) ?_
    obtain ⟨S6, e5, h⟩ := lt_e h
    refine u_cVv X M hl.1 (kX6_putS (uRw28 hS) e5) cw_X3_50 ⟨by decide, by decide⟩ (uR_recv X M (uRw28 hS)) rfl rfl (Nat.le_of_ble_eq_true rfl) ⟨Nat.zero_le _, Nat.zero_le _⟩ dX3_turnOpen_18 (fun H locs M => ?_)
    refine lv_aload_n hx hb dX3_turnOpen_21 rfl (lv_at hl 0 rfl) ?_
    refine gf_X3_24 X M hS dX3_turnOpen_22 ?_
    refine lv_iload_n hx hb dX3_turnOpen_25 rfl (lv_at hl 1 rfl) ?_
    obtain ⟨x9, e8, h⟩ := lt_e h
    refine u_cVi X M hl.1 (kX6_get (uRw28 hS) (congrFun (va_up_s V t _) 29) e8.symm) cw_X3_46 ⟨by decide, by decide⟩ (uR_recv X M (uRw28 hS)) rfl rfl (Nat.le_of_ble_eq_true rfl) ⟨Nat.zero_le _, Nat.zero_le _⟩ dX3_turnOpen_26 (fun H locs M n10 => ?_)
    exact u_iret X hret M (rt2 h).1 (congrArg (va_up V t) ((rt2 h).2)) rfl dX3_turnOpen_29
  · have h := it_f h c4
    refine lv_iconst (v := 0) hx hb dX3_turnOpen_13 (by decide) ?_
    refine lv_goto (tgt := 18) hx hb dX3_turnOpen_14 (by decide) ?_
    obtain ⟨S12, e11, h⟩ := lt_e h
    refine u_cVv X M hl.1 (kX6_putS (uRw28 hS) e11) cw_X3_50 ⟨by decide, by decide⟩ (uR_recv X M (uRw28 hS)) rfl rfl (Nat.le_of_ble_eq_true rfl) ⟨Nat.zero_le _, Nat.zero_le _⟩ dX3_turnOpen_18 (fun H locs M => ?_)
    refine lv_aload_n hx hb dX3_turnOpen_21 rfl (lv_at hl 0 rfl) ?_
    refine gf_X3_24 X M hS dX3_turnOpen_22 ?_
    refine lv_iload_n hx hb dX3_turnOpen_25 rfl (lv_at hl 1 rfl) ?_
    obtain ⟨x15, e14, h⟩ := lt_e h
    refine u_cVi X M hl.1 (kX6_get (uRw28 hS) (congrFun (va_up_s V t _) 29) e14.symm) cw_X3_46 ⟨by decide, by decide⟩ (uR_recv X M (uRw28 hS)) rfl rfl (Nat.le_of_ble_eq_true rfl) ⟨Nat.zero_le _, Nat.zero_le _⟩ dX3_turnOpen_26 (fun H locs M n16 => ?_)
    exact u_iret X hret M (rt2 h).1 (congrArg (va_up V t) ((rt2 h).2)) rfl dX3_turnOpen_29
def fX3_number (S : (Nat → Nat → Int32)) (a1 : Int32) (a2 : Int32) : Int32 :=
  if a2 = 0 then
    lt_ (fget 4 (S 23) a1) fun x3 =>
    x3
  else if a2 = 1 then
    lt_ (fget 4 (S 27) a1) fun x7 =>
    x7
  else if a2 = 2 then
    lt_ (fget 4 (S 29) a1) fun x11 =>
    x11
  else 
  lt_ (fget 4 (S 31) a1) fun x14 =>
  x14
set_option maxHeartbeats 4000000 in
set_option maxRecDepth 20000 in
theorem kX3_number {l : Launch} {G : UG} {V : uV} {t : Nat} (hS : uSt G t) {S : (Nat → Nat → Int32)} (hV : V t = S) {a1 : Int32} {a2 : Int32} {r : Int32} (h : fX3_number S a1 a2 = r) : uMi l G yX3_number cX3_number 3 .int (uR 1 21) [.ref (ga G t 21), .int a1, .int a2] V r V := by
  refine uMi_of rfl (Nat.le_of_ble_eq_true rfl) (fun p e s m args below meth c ls X hret hl M => ?_)
  have hl : lv_has ls 3 [(0, .ref (ga G t 21)), (1, .int a1), (2, .int a2)] := hl
  have hx := X.hx
  have hb := X.hb
  unfold fX3_number at h
  refine lv_iload_n hx hb dX3_number_0 rfl (lv_at hl 2 rfl) ?_
  by_cases c1 : a2 = 0
  · have h := it_t h c1
    refine lv_tableIn (off := 27) (tgt := 28) hx hb dX3_number_1 (by rw [c1]; decide) (by rw [c1]; decide) (by rw [c1]; rfl) (by decide) ?_
    refine lv_aload_n hx hb dX3_number_28 rfl (lv_at hl 0 rfl) ?_
    refine gf_X3_14 X M hS dX3_number_29 ?_
    refine lv_iload_n hx hb dX3_number_32 rfl (lv_at hl 1 rfl) ?_
    obtain ⟨x3, e2, h⟩ := lt_e h
    refine u_cVi X M hl.1 (kX6_get (uRw22 hS) (congrFun hV 23) e2.symm) cw_X3_46 ⟨by decide, by decide⟩ (uR_recv X M (uRw22 hS)) rfl rfl (Nat.le_of_ble_eq_true rfl) ⟨Nat.zero_le _, Nat.zero_le _⟩ dX3_number_33 (fun H locs M n4 => ?_)
    exact u_iret X hret M h (rfl) rfl dX3_number_36
  · have h := it_f h c1
    by_cases c5 : a2 = 1
    · have h := it_t h c5
      refine lv_tableIn (off := 36) (tgt := 37) hx hb dX3_number_1 (by rw [c5]; decide) (by rw [c5]; decide) (by rw [c5]; rfl) (by decide) ?_
      refine lv_aload_n hx hb dX3_number_37 rfl (lv_at hl 0 rfl) ?_
      refine gf_X3_21 X M hS dX3_number_38 ?_
      refine lv_iload_n hx hb dX3_number_41 rfl (lv_at hl 1 rfl) ?_
      obtain ⟨x7, e6, h⟩ := lt_e h
      refine u_cVi X M hl.1 (kX6_get (uRw26 hS) (congrFun hV 27) e6.symm) cw_X3_46 ⟨by decide, by decide⟩ (uR_recv X M (uRw26 hS)) rfl rfl (Nat.le_of_ble_eq_true rfl) ⟨Nat.zero_le _, Nat.zero_le _⟩ dX3_number_42 (fun H locs M n8 => ?_)
      exact u_iret X hret M h (rfl) rfl dX3_number_45
    · have h := it_f h c5
      by_cases c9 : a2 = 2
      · have h := it_t h c9
        refine lv_tableIn (off := 45) (tgt := 46) hx hb dX3_number_1 (by rw [c9]; decide) (by rw [c9]; decide) (by rw [c9]; rfl) (by decide) ?_
        refine lv_aload_n hx hb dX3_number_46 rfl (lv_at hl 0 rfl) ?_
        refine gf_X3_24 X M hS dX3_number_47 ?_
        refine lv_iload_n hx hb dX3_number_50 rfl (lv_at hl 1 rfl) ?_
        obtain ⟨x11, e10, h⟩ := lt_e h
        refine u_cVi X M hl.1 (kX6_get (uRw28 hS) (congrFun hV 29) e10.symm) cw_X3_46 ⟨by decide, by decide⟩ (uR_recv X M (uRw28 hS)) rfl rfl (Nat.le_of_ble_eq_true rfl) ⟨Nat.zero_le _, Nat.zero_le _⟩ dX3_number_51 (fun H locs M n12 => ?_)
        exact u_iret X hret M h (rfl) rfl dX3_number_54
      · have h := it_f h c9
        have tc1 := lv_neT (a := 0) c1 (by decide)
        have tc5 := lv_neT (a := 1) c5 (by decide)
        have tc9 := lv_neT (a := 2) c9 (by decide)
        refine lv_tableOut (tgt := 55) hx hb dX3_number_1 (by omega) (by decide) ?_
        refine lv_aload_n hx hb dX3_number_55 rfl (lv_at hl 0 rfl) ?_
        refine gf_X3_27 X M hS dX3_number_56 ?_
        refine lv_iload_n hx hb dX3_number_59 rfl (lv_at hl 1 rfl) ?_
        obtain ⟨x14, e13, h⟩ := lt_e h
        refine u_cVi X M hl.1 (kX6_get (uRw30 hS) (congrFun hV 31) e13.symm) cw_X3_46 ⟨by decide, by decide⟩ (uR_recv X M (uRw30 hS)) rfl rfl (Nat.le_of_ble_eq_true rfl) ⟨Nat.zero_le _, Nat.zero_le _⟩ dX3_number_60 (fun H locs M n15 => ?_)
        exact u_iret X hret M h (rfl) rfl dX3_number_63
def fX3_logSize (S : (Nat → Nat → Int32)) (a1 : Int32) : Int32 :=
  lt_ (fget 4 (S 31) a1) fun x2 =>
  x2
set_option maxHeartbeats 4000000 in
set_option maxRecDepth 20000 in
theorem kX3_logSize {l : Launch} {G : UG} {V : uV} {t : Nat} (hS : uSt G t) {S : (Nat → Nat → Int32)} (hV : V t = S) {a1 : Int32} {r : Int32} (h : fX3_logSize S a1 = r) : uMi l G yX3_logSize cX3_logSize 2 .int (uR 1 21) [.ref (ga G t 21), .int a1] V r V := by
  refine uMi_of rfl (Nat.le_of_ble_eq_true rfl) (fun p e s m args below meth c ls X hret hl M => ?_)
  have hl : lv_has ls 2 [(0, .ref (ga G t 21)), (1, .int a1)] := hl
  have hx := X.hx
  have hb := X.hb
  unfold fX3_logSize at h
  refine lv_aload_n hx hb dX3_logSize_0 rfl (lv_at hl 0 rfl) ?_
  refine gf_X3_27 X M hS dX3_logSize_1 ?_
  refine lv_iload_n hx hb dX3_logSize_4 rfl (lv_at hl 1 rfl) ?_
  obtain ⟨x2, e1, h⟩ := lt_e h
  refine u_cVi X M hl.1 (kX6_get (uRw30 hS) (congrFun hV 31) e1.symm) cw_X3_46 ⟨by decide, by decide⟩ (uR_recv X M (uRw30 hS)) rfl rfl (Nat.le_of_ble_eq_true rfl) ⟨Nat.zero_le _, Nat.zero_le _⟩ dX3_logSize_5 (fun H locs M n3 => ?_)
  exact u_iret X hret M h (rfl) rfl dX3_logSize_8
def fX3_isLogFull (S : (Nat → Nat → Int32)) (a1 : Int32) : Int32 :=
  lt_ (fget 4 (S 31) a1) fun x2 =>
  if x2 < 12 then
    0
  else
    1
set_option maxHeartbeats 4000000 in
set_option maxRecDepth 20000 in
theorem kX3_isLogFull {l : Launch} {G : UG} {V : uV} {t : Nat} (hS : uSt G t) {S : (Nat → Nat → Int32)} (hV : V t = S) {a1 : Int32} {r : Int32} (h : fX3_isLogFull S a1 = r) : uMi l G yX3_isLogFull cX3_isLogFull 2 .boolean (uR 1 21) [.ref (ga G t 21), .int a1] V r V := by
  refine uMi_of rfl (Nat.le_of_ble_eq_true rfl) (fun p e s m args below meth c ls X hret hl M => ?_)
  have hl : lv_has ls 2 [(0, .ref (ga G t 21)), (1, .int a1)] := hl
  have hx := X.hx
  have hb := X.hb
  unfold fX3_isLogFull at h
  refine lv_aload_n hx hb dX3_isLogFull_0 rfl (lv_at hl 0 rfl) ?_
  refine gf_X3_27 X M hS dX3_isLogFull_1 ?_
  refine lv_iload_n hx hb dX3_isLogFull_4 rfl (lv_at hl 1 rfl) ?_
  obtain ⟨x2, e1, h⟩ := lt_e h
  refine u_cVi X M hl.1 (kX6_get (uRw30 hS) (congrFun hV 31) e1.symm) cw_X3_46 ⟨by decide, by decide⟩ (uR_recv X M (uRw30 hS)) rfl rfl (Nat.le_of_ble_eq_true rfl) ⟨Nat.zero_le _, Nat.zero_le _⟩ dX3_isLogFull_5 (fun H locs M n3 => ?_)
  refine lv_bipush (v := 12) hx hb dX3_isLogFull_8 (by decide) ?_
  refine lv_icmp_lt (tgt := 17) hx hb dX3_isLogFull_10 (by decide) (fun c4 => ?_) (fun c4 => ?_)
  · have h := it_t h c4
    refine lv_iconst (v := 0) hx hb dX3_isLogFull_17 (by decide) ?_
    exact u_iret X hret M h (rfl) rfl dX3_isLogFull_18
  · have h := it_f h c4
    refine lv_iconst (v := 1) hx hb dX3_isLogFull_13 (by decide) ?_
    refine lv_goto (tgt := 18) hx hb dX3_isLogFull_14 (by decide) ?_
    exact u_iret X hret M h (rfl) rfl dX3_isLogFull_18
def fX3_hasLogged (S : (Nat → Nat → Int32)) (a1 : Int32) (a2 : Int32) : Int32 :=
  if a2 < 0 then
    0
  else
    lt_ (fget 4 (S 31) a1) fun x3 =>
    if x3 ≤ a2 then
      0
    else
      1
set_option maxHeartbeats 4000000 in
set_option maxRecDepth 20000 in
theorem kX3_hasLogged {l : Launch} {G : UG} {V : uV} {t : Nat} (hS : uSt G t) {S : (Nat → Nat → Int32)} (hV : V t = S) {a1 : Int32} {a2 : Int32} {r : Int32} (h : fX3_hasLogged S a1 a2 = r) : uMi l G yX3_hasLogged cX3_hasLogged 3 .boolean (uR 1 21) [.ref (ga G t 21), .int a1, .int a2] V r V := by
  refine uMi_of rfl (Nat.le_of_ble_eq_true rfl) (fun p e s m args below meth c ls X hret hl M => ?_)
  have hl : lv_has ls 3 [(0, .ref (ga G t 21)), (1, .int a1), (2, .int a2)] := hl
  have hx := X.hx
  have hb := X.hb
  unfold fX3_hasLogged at h
  refine lv_iload_n hx hb dX3_hasLogged_0 rfl (lv_at hl 2 rfl) ?_
  refine lv_if_lt (tgt := 20) hx hb dX3_hasLogged_1 (by decide) (fun c1 => ?_) (fun c1 => ?_)
  · have h := it_t h c1
    refine lv_iconst (v := 0) hx hb dX3_hasLogged_20 (by decide) ?_
    exact u_iret X hret M h (rfl) rfl dX3_hasLogged_21
  · have h := it_f h c1
    refine lv_iload_n hx hb dX3_hasLogged_4 rfl (lv_at hl 2 rfl) ?_
    refine lv_aload_n hx hb dX3_hasLogged_5 rfl (lv_at hl 0 rfl) ?_
    refine gf_X3_27 X M hS dX3_hasLogged_6 ?_
    refine lv_iload_n hx hb dX3_hasLogged_9 rfl (lv_at hl 1 rfl) ?_
    obtain ⟨x3, e2, h⟩ := lt_e h
    refine u_cVi X M hl.1 (kX6_get (uRw30 hS) (congrFun hV 31) e2.symm) cw_X3_46 ⟨by decide, by decide⟩ (uR_recv X M (uRw30 hS)) rfl rfl (Nat.le_of_ble_eq_true rfl) ⟨Nat.zero_le _, Nat.zero_le _⟩ dX3_hasLogged_10 (fun H locs M n4 => ?_)
    refine lv_icmp_ge (tgt := 20) hx hb dX3_hasLogged_13 (by decide) (fun c5 => ?_) (fun c5 => ?_)
    · have h := it_t h c5
      refine lv_iconst (v := 0) hx hb dX3_hasLogged_20 (by decide) ?_
      exact u_iret X hret M h (rfl) rfl dX3_hasLogged_21
    · have h := it_f h c5
      refine lv_iconst (v := 1) hx hb dX3_hasLogged_16 (by decide) ?_
      refine lv_goto (tgt := 21) hx hb dX3_hasLogged_17 (by decide) ?_
      exact u_iret X hret M h (rfl) rfl dX3_hasLogged_21
def fX3_loggedNumber (S : (Nat → Nat → Int32)) (a1 : Int32) (a2 : Int32) (a3 : Int32) : Int32 :=
  lt_ (((a1 * 12) + a2)) fun x1 =>
  if a3 = 0 then
    lt_ (fget 48 (S 33) x1) fun x5 =>
    x5
  else if a3 = 1 then
    lt_ (fget 48 (S 35) x1) fun x9 =>
    x9
  else 
  lt_ (fget 48 (S 37) x1) fun x12 =>
  x12
set_option maxHeartbeats 4000000 in
set_option maxRecDepth 20000 in
theorem kX3_loggedNumber {l : Launch} {G : UG} {V : uV} {t : Nat} (hS : uSt G t) {S : (Nat → Nat → Int32)} (hV : V t = S) {a1 : Int32} {a2 : Int32} {a3 : Int32} {r : Int32} (h : fX3_loggedNumber S a1 a2 a3 = r) : uMi l G yX3_loggedNumber cX3_loggedNumber 5 .int (uR 1 21) [.ref (ga G t 21), .int a1, .int a2, .int a3] V r V := by
  refine uMi_of rfl (Nat.le_of_ble_eq_true rfl) (fun p e s m args below meth c ls X hret hl M => ?_)
  have hl : lv_has ls 5 [(0, .ref (ga G t 21)), (1, .int a1), (2, .int a2), (3, .int a3)] := hl
  have hx := X.hx
  have hb := X.hb
  unfold fX3_loggedNumber at h
  refine lv_iload_n hx hb dX3_loggedNumber_0 rfl (lv_at hl 1 rfl) ?_
  refine lv_bipush (v := 12) hx hb dX3_loggedNumber_1 (by decide) ?_
  refine lv_imul hx hb dX3_loggedNumber_3 ?_
  refine lv_iload_n hx hb dX3_loggedNumber_4 rfl (lv_at hl 2 rfl) ?_
  refine lv_iadd hx hb dX3_loggedNumber_5 ?_
  obtain ⟨x1, e2, h⟩ := lt_e h
  refine u_topi e2 ?_
  refine lv_istore (lv' := [(4, .int x1), (0, .ref (ga G t 21)), (1, .int a1), (2, .int a2), (3, .int a3)]) hx hb dX3_loggedNumber_6 hl (by decide) rfl (fun ls hl => ?_)
  refine lv_iload_n hx hb dX3_loggedNumber_8 rfl (lv_at hl 4 rfl) ?_
  by_cases c3 : a3 = 0
  · have h := it_t h c3
    refine lv_lookup (off := 27) (tgt := 36) hx hb dX3_loggedNumber_9 (by decide) (by rw [c3]; rfl) (by decide) ?_
    refine lv_aload_n hx hb dX3_loggedNumber_36 rfl (lv_at hl 1 rfl) ?_
    refine gf_X3_30 X M hS dX3_loggedNumber_37 ?_
    refine lv_iload hx hb dX3_loggedNumber_40 (lv_at hl 0 rfl) ?_
    obtain ⟨x5, e4, h⟩ := lt_e h
    refine u_cVi X M hl.1 (kX6_get (uRw32 hS) (congrFun hV 33) e4.symm) cw_X3_46 ⟨by decide, by decide⟩ (uR_recv X M (uRw32 hS)) rfl rfl (Nat.le_of_ble_eq_true rfl) ⟨Nat.zero_le _, Nat.zero_le _⟩ dX3_loggedNumber_42 (fun H locs M n6 => ?_)
    exact u_iret X hret M h (rfl) rfl dX3_loggedNumber_45
  · have h := it_f h c3
    by_cases c7 : a3 = 1
    · have h := it_t h c7
      refine lv_lookup (off := 37) (tgt := 46) hx hb dX3_loggedNumber_9 (by decide) (by rw [c7]; rfl) (by decide) ?_
      refine lv_aload_n hx hb dX3_loggedNumber_46 rfl (lv_at hl 1 rfl) ?_
      refine gf_X3_33 X M hS dX3_loggedNumber_47 ?_
      refine lv_iload hx hb dX3_loggedNumber_50 (lv_at hl 0 rfl) ?_
      obtain ⟨x9, e8, h⟩ := lt_e h
      refine u_cVi X M hl.1 (kX6_get (uRw34 hS) (congrFun hV 35) e8.symm) cw_X3_46 ⟨by decide, by decide⟩ (uR_recv X M (uRw34 hS)) rfl rfl (Nat.le_of_ble_eq_true rfl) ⟨Nat.zero_le _, Nat.zero_le _⟩ dX3_loggedNumber_52 (fun H locs M n10 => ?_)
      exact u_iret X hret M h (rfl) rfl dX3_loggedNumber_55
    · have h := it_f h c7
      refine lv_lookup (off := 47) (tgt := 56) hx hb dX3_loggedNumber_9 (by decide) ((lv_osw c3 (by decide)).trans ((lv_osw c7 (by decide)).trans rfl)) (by decide) ?_
      refine lv_aload_n hx hb dX3_loggedNumber_56 rfl (lv_at hl 1 rfl) ?_
      refine gf_X3_36 X M hS dX3_loggedNumber_57 ?_
      refine lv_iload hx hb dX3_loggedNumber_60 (lv_at hl 0 rfl) ?_
      obtain ⟨x12, e11, h⟩ := lt_e h
      refine u_cVi X M hl.1 (kX6_get (uRw36 hS) (congrFun hV 37) e11.symm) cw_X3_46 ⟨by decide, by decide⟩ (uR_recv X M (uRw36 hS)) rfl rfl (Nat.le_of_ble_eq_true rfl) ⟨Nat.zero_le _, Nat.zero_le _⟩ dX3_loggedNumber_62 (fun H locs M n13 => ?_)
      exact u_iret X hret M h (rfl) rfl dX3_loggedNumber_65
def fX3_writeLog (S : (Nat → Nat → Int32)) (a1 : Int32) (a2 : Int32) (a3 : Int32) (a4 : Int32) : Option (Nat → Nat → Int32) :=
  lt_ (fget 4 (S 31) a1) fun x2 =>
  lt_ (((a1 * 12) + x2)) fun x4 =>
  lt_ (va_up S 33 (fput 48 (S 33) x4 a2)) fun S7 =>
  lt_ (va_up S7 35 (fput 48 (S7 35) x4 a3)) fun S10 =>
  lt_ (va_up S10 37 (fput 48 (S10 37) x4 a4)) fun S13 =>
  lt_ (va_up S13 31 (finc 4 (S13 31) a1 1)) fun S16 =>
  some S16
set_option maxHeartbeats 4000000 in
set_option maxRecDepth 20000 in
theorem kX3_writeLog {l : Launch} {G : UG} {V : uV} {t : Nat} (hS : uSt G t) {S S' : (Nat → Nat → Int32)} {a1 : Int32} {a2 : Int32} {a3 : Int32} {a4 : Int32} (h : fX3_writeLog S a1 a2 a3 a4 = some S') : uMv l G yX3_writeLog cX3_writeLog 6 (uR 1 22) [.ref (ga G t 21), .int a1, .int a2, .int a3, .int a4] (va_up V t S) (va_up V t S') := by
  refine uMv_of rfl (Nat.le_of_ble_eq_true rfl) (fun p e s m args below meth c ls X hret hl M => ?_)
  have hl : lv_has ls 6 [(0, .ref (ga G t 21)), (1, .int a1), (2, .int a2), (3, .int a3), (4, .int a4)] := hl
  have hx := X.hx
  have hb := X.hb
  unfold fX3_writeLog at h
  refine lv_iload_n hx hb dX3_writeLog_0 rfl (lv_at hl 1 rfl) ?_
  refine lv_bipush (v := 12) hx hb dX3_writeLog_1 (by decide) ?_
  refine lv_imul hx hb dX3_writeLog_3 ?_
  refine lv_aload_n hx hb dX3_writeLog_4 rfl (lv_at hl 0 rfl) ?_
  refine gf_X3_27 X M hS dX3_writeLog_5 ?_
  refine lv_iload_n hx hb dX3_writeLog_8 rfl (lv_at hl 1 rfl) ?_
  obtain ⟨x2, e1, h⟩ := lt_e h
  refine u_cVi X M hl.1 (kX6_get (uRw30 hS) (congrFun (va_up_s V t _) 31) e1.symm) cw_X3_46 ⟨by decide, by decide⟩ (uR_recv X M (uRw30 hS)) rfl rfl (Nat.le_of_ble_eq_true rfl) ⟨Nat.zero_le _, Nat.zero_le _⟩ dX3_writeLog_9 (fun H locs M n3 => ?_)
  refine lv_iadd hx hb dX3_writeLog_12 ?_
  obtain ⟨x4, e5, h⟩ := lt_e h
  refine u_topi e5 ?_
  refine lv_istore (lv' := [(5, .int x4), (0, .ref (ga G t 21)), (1, .int a1), (2, .int a2), (3, .int a3), (4, .int a4)]) hx hb dX3_writeLog_13 hl (by decide) rfl (fun ls hl => ?_)
  refine lv_aload_n hx hb dX3_writeLog_15 rfl (lv_at hl 1 rfl) ?_
  refine gf_X3_30 X M hS dX3_writeLog_16 ?_
  refine lv_iload hx hb dX3_writeLog_19 (lv_at hl 0 rfl) ?_
  refine lv_iload_n hx hb dX3_writeLog_21 rfl (lv_at hl 3 rfl) ?_
  obtain ⟨S7, e6, h⟩ := lt_e h
  refine u_cVv X M hl.1 (kX6_putS (uRw32 hS) e6) cw_X3_50 ⟨by decide, by decide⟩ (uR_recv X M (uRw32 hS)) rfl rfl (Nat.le_of_ble_eq_true rfl) ⟨Nat.zero_le _, Nat.zero_le _⟩ dX3_writeLog_22 (fun H locs M => ?_)
  refine lv_aload_n hx hb dX3_writeLog_25 rfl (lv_at hl 1 rfl) ?_
  refine gf_X3_33 X M hS dX3_writeLog_26 ?_
  refine lv_iload hx hb dX3_writeLog_29 (lv_at hl 0 rfl) ?_
  refine lv_iload_n hx hb dX3_writeLog_31 rfl (lv_at hl 4 rfl) ?_
  obtain ⟨S10, e9, h⟩ := lt_e h
  refine u_cVv X M hl.1 (kX6_putS (uRw34 hS) e9) cw_X3_50 ⟨by decide, by decide⟩ (uR_recv X M (uRw34 hS)) rfl rfl (Nat.le_of_ble_eq_true rfl) ⟨Nat.zero_le _, Nat.zero_le _⟩ dX3_writeLog_32 (fun H locs M => ?_)
  refine lv_aload_n hx hb dX3_writeLog_35 rfl (lv_at hl 1 rfl) ?_
  refine gf_X3_36 X M hS dX3_writeLog_36 ?_
  refine lv_iload hx hb dX3_writeLog_39 (lv_at hl 0 rfl) ?_
  refine lv_iload hx hb dX3_writeLog_41 (lv_at hl 5 rfl) ?_
  obtain ⟨S13, e12, h⟩ := lt_e h
  refine u_cVv X M hl.1 (kX6_putS (uRw36 hS) e12) cw_X3_50 ⟨by decide, by decide⟩ (uR_recv X M (uRw36 hS)) rfl rfl (Nat.le_of_ble_eq_true rfl) ⟨Nat.zero_le _, Nat.zero_le _⟩ dX3_writeLog_43 (fun H locs M => ?_)
  refine lv_aload_n hx hb dX3_writeLog_46 rfl (lv_at hl 1 rfl) ?_
  refine gf_X3_27 X M hS dX3_writeLog_47 ?_
  refine lv_iload_n hx hb dX3_writeLog_50 rfl (lv_at hl 2 rfl) ?_
  refine lv_iconst (v := 1) hx hb dX3_writeLog_51 (by decide) ?_
  obtain ⟨S16, e15, h⟩ := lt_e h
  refine u_cVv X M hl.1 (kX6_increaseS (uRw30 hS) e15) cw_X3_58 ⟨by decide, by decide⟩ (uR_recv X M (uRw30 hS)) rfl rfl (Nat.le_of_ble_eq_true rfl) ⟨Nat.zero_le _, Nat.zero_le _⟩ dX3_writeLog_52 (fun H locs M => ?_)
  exact u_vret X hret M (congrArg (va_up V t) (Option.some.inj h)) dX3_writeLog_55
def fX3_emptyLog (S : (Nat → Nat → Int32)) (a1 : Int32) : Option (Nat → Nat → Int32) :=
  lt_ (va_up S 31 (fput 4 (S 31) a1 0)) fun S2 =>
  some S2
set_option maxHeartbeats 4000000 in
set_option maxRecDepth 20000 in
theorem kX3_emptyLog {l : Launch} {G : UG} {V : uV} {t : Nat} (hS : uSt G t) {S S' : (Nat → Nat → Int32)} {a1 : Int32} (h : fX3_emptyLog S a1 = some S') : uMv l G yX3_emptyLog cX3_emptyLog 2 (uR 1 22) [.ref (ga G t 21), .int a1] (va_up V t S) (va_up V t S') := by
  refine uMv_of rfl (Nat.le_of_ble_eq_true rfl) (fun p e s m args below meth c ls X hret hl M => ?_)
  have hl : lv_has ls 2 [(0, .ref (ga G t 21)), (1, .int a1)] := hl
  have hx := X.hx
  have hb := X.hb
  unfold fX3_emptyLog at h
  refine lv_aload_n hx hb dX3_emptyLog_0 rfl (lv_at hl 0 rfl) ?_
  refine gf_X3_27 X M hS dX3_emptyLog_1 ?_
  refine lv_iload_n hx hb dX3_emptyLog_4 rfl (lv_at hl 1 rfl) ?_
  refine lv_iconst (v := 0) hx hb dX3_emptyLog_5 (by decide) ?_
  obtain ⟨S2, e1, h⟩ := lt_e h
  refine u_cVv X M hl.1 (kX6_putS (uRw30 hS) e1) cw_X3_50 ⟨by decide, by decide⟩ (uR_recv X M (uRw30 hS)) rfl rfl (Nat.le_of_ble_eq_true rfl) ⟨Nat.zero_le _, Nat.zero_le _⟩ dX3_emptyLog_6 (fun H locs M => ?_)
  exact u_vret X hret M (congrArg (va_up V t) (Option.some.inj h)) dX3_emptyLog_9
def fX3_isOf (S : (Nat → Nat → Int32)) (a1 : Int32) (a2 : Int32) (a3 : Int32) : Int32 :=
  if a3 = (-1) then
    1
  else
    lt_ (fget 48 (S 33) ((a1 * 12) + a2)) fun x3 =>
    if x3 = a3 then
      1
    else
      0
set_option maxHeartbeats 4000000 in
set_option maxRecDepth 20000 in
theorem kX3_isOf {l : Launch} {G : UG} {V : uV} {t : Nat} (hS : uSt G t) {S : (Nat → Nat → Int32)} (hV : V t = S) {a1 : Int32} {a2 : Int32} {a3 : Int32} {r : Int32} (h : fX3_isOf S a1 a2 a3 = r) : uMi l G yX3_isOf cX3_isOf 4 .boolean (uR 1 21) [.ref (ga G t 21), .int a1, .int a2, .int a3] V r V := by
  refine uMi_of rfl (Nat.le_of_ble_eq_true rfl) (fun p e s m args below meth c ls X hret hl M => ?_)
  have hl : lv_has ls 4 [(0, .ref (ga G t 21)), (1, .int a1), (2, .int a2), (3, .int a3)] := hl
  have hx := X.hx
  have hb := X.hb
  unfold fX3_isOf at h
  refine lv_iload_n hx hb dX3_isOf_0 rfl (lv_at hl 3 rfl) ?_
  refine lv_iconst (v := (-1)) hx hb dX3_isOf_1 (by decide) ?_
  refine lv_icmp_eq (tgt := 22) hx hb dX3_isOf_2 (by decide) (fun c1 => ?_) (fun c1 => ?_)
  · have h := it_t h c1
    refine lv_iconst (v := 1) hx hb dX3_isOf_22 (by decide) ?_
    refine lv_goto (tgt := 27) hx hb dX3_isOf_23 (by decide) ?_
    exact u_iret X hret M h (rfl) rfl dX3_isOf_27
  · have h := it_f h c1
    refine lv_aload_n hx hb dX3_isOf_5 rfl (lv_at hl 0 rfl) ?_
    refine gf_X3_30 X M hS dX3_isOf_6 ?_
    refine lv_iload_n hx hb dX3_isOf_9 rfl (lv_at hl 1 rfl) ?_
    refine lv_bipush (v := 12) hx hb dX3_isOf_10 (by decide) ?_
    refine lv_imul hx hb dX3_isOf_12 ?_
    refine lv_iload_n hx hb dX3_isOf_13 rfl (lv_at hl 2 rfl) ?_
    refine lv_iadd hx hb dX3_isOf_14 ?_
    obtain ⟨x3, e2, h⟩ := lt_e h
    refine u_cVi X M hl.1 (kX6_get (uRw32 hS) (congrFun hV 33) e2.symm) cw_X3_46 ⟨by decide, by decide⟩ (uR_recv X M (uRw32 hS)) rfl rfl (Nat.le_of_ble_eq_true rfl) ⟨Nat.zero_le _, Nat.zero_le _⟩ dX3_isOf_15 (fun H locs M n4 => ?_)
    refine lv_iload_n hx hb dX3_isOf_18 rfl (lv_at hl 3 rfl) ?_
    refine lv_icmp_ne (tgt := 26) hx hb dX3_isOf_19 (by decide) (fun c5 => ?_) (fun c5 => ?_)
    · have h := it_f h c5
      refine lv_iconst (v := 0) hx hb dX3_isOf_26 (by decide) ?_
      exact u_iret X hret M h (rfl) rfl dX3_isOf_27
    · have h := it_t h c5
      refine lv_iconst (v := 1) hx hb dX3_isOf_22 (by decide) ?_
      refine lv_goto (tgt := 27) hx hb dX3_isOf_23 (by decide) ?_
      exact u_iret X hret M h (rfl) rfl dX3_isOf_27
def fX3_clear (S : (Nat → Nat → Int32)) : Option (Nat → Nat → Int32) :=
  lt_ (va_up S 23 (fun _ => 2)) fun S2 =>
  lt_ (va_up S2 27 (fun _ => 1)) fun S5 =>
  lt_ (va_up S5 25 (fun _ => 0)) fun S8 =>
  lt_ (va_up S8 29 (fun _ => 0)) fun S11 =>
  lt_ (va_up S11 31 (fun _ => 0)) fun S14 =>
  some S14
set_option maxHeartbeats 4000000 in
set_option maxRecDepth 20000 in
theorem kX3_clear {l : Launch} {G : UG} {V : uV} {t : Nat} (hS : uSt G t) {S S' : (Nat → Nat → Int32)}  (h : fX3_clear S = some S') : uMv l G yX3_clear cX3_clear 1 (uR 1 22) [.ref (ga G t 21)] (va_up V t S) (va_up V t S') := by
  refine uMv_of rfl (Nat.le_of_ble_eq_true rfl) (fun p e s m args below meth c ls X hret hl M => ?_)
  have hl : lv_has ls 1 [(0, .ref (ga G t 21))] := hl
  have hx := X.hx
  have hb := X.hb
  unfold fX3_clear at h
  refine lv_aload_n hx hb dX3_clear_0 rfl (lv_at hl 0 rfl) ?_
  refine gf_X3_14 X M hS dX3_clear_1 ?_
  refine lv_iconst (v := 2) hx hb dX3_clear_4 (by decide) ?_
  obtain ⟨S2, e1, h⟩ := lt_e h
  refine u_cVv X M hl.1 (kX6_fillS (uRw22 hS) e1) cw_X3_39 ⟨by decide, by decide⟩ (uR_recv X M (uRw22 hS)) rfl rfl (Nat.le_of_ble_eq_true rfl) ⟨Nat.zero_le _, Nat.zero_le _⟩ dX3_clear_5 (fun H locs M => ?_)
  refine lv_aload_n hx hb dX3_clear_8 rfl (lv_at hl 0 rfl) ?_
  refine gf_X3_21 X M hS dX3_clear_9 ?_
  refine lv_iconst (v := 1) hx hb dX3_clear_12 (by decide) ?_
  obtain ⟨S5, e4, h⟩ := lt_e h
  refine u_cVv X M hl.1 (kX6_fillS (uRw26 hS) e4) cw_X3_39 ⟨by decide, by decide⟩ (uR_recv X M (uRw26 hS)) rfl rfl (Nat.le_of_ble_eq_true rfl) ⟨Nat.zero_le _, Nat.zero_le _⟩ dX3_clear_13 (fun H locs M => ?_)
  refine lv_aload_n hx hb dX3_clear_16 rfl (lv_at hl 0 rfl) ?_
  refine gf_X3_18 X M hS dX3_clear_17 ?_
  refine lv_iconst (v := 0) hx hb dX3_clear_20 (by decide) ?_
  obtain ⟨S8, e7, h⟩ := lt_e h
  refine u_cVv X M hl.1 (kX6_fillS (uRw24 hS) e7) cw_X3_39 ⟨by decide, by decide⟩ (uR_recv X M (uRw24 hS)) rfl rfl (Nat.le_of_ble_eq_true rfl) ⟨Nat.zero_le _, Nat.zero_le _⟩ dX3_clear_21 (fun H locs M => ?_)
  refine lv_aload_n hx hb dX3_clear_24 rfl (lv_at hl 0 rfl) ?_
  refine gf_X3_24 X M hS dX3_clear_25 ?_
  refine lv_iconst (v := 0) hx hb dX3_clear_28 (by decide) ?_
  obtain ⟨S11, e10, h⟩ := lt_e h
  refine u_cVv X M hl.1 (kX6_fillS (uRw28 hS) e10) cw_X3_39 ⟨by decide, by decide⟩ (uR_recv X M (uRw28 hS)) rfl rfl (Nat.le_of_ble_eq_true rfl) ⟨Nat.zero_le _, Nat.zero_le _⟩ dX3_clear_29 (fun H locs M => ?_)
  refine lv_aload_n hx hb dX3_clear_32 rfl (lv_at hl 0 rfl) ?_
  refine gf_X3_27 X M hS dX3_clear_33 ?_
  refine lv_iconst (v := 0) hx hb dX3_clear_36 (by decide) ?_
  obtain ⟨S14, e13, h⟩ := lt_e h
  refine u_cVv X M hl.1 (kX6_fillS (uRw30 hS) e13) cw_X3_39 ⟨by decide, by decide⟩ (uR_recv X M (uRw30 hS)) rfl rfl (Nat.le_of_ble_eq_true rfl) ⟨Nat.zero_le _, Nat.zero_le _⟩ dX3_clear_37 (fun H locs M => ?_)
  exact u_vret X hret M (congrArg (va_up V t) (Option.some.inj h)) dX3_clear_40
def fX3_ridesInLogs_L22 (k : Int32 → Int32 → Int32 → Int32 → Int32 → Option Int32) (S : (Nat → Nat → Int32)) (n : Nat) (y1 : Int32) (y2 : Int32) (y3 : Int32) (y4 : Int32) (y5 : Int32) : Option Int32 :=
  match n with
  | 0 => none
  | n + 1 =>
    if y4 ≤ y5 then
      k y1 y2 y3 y4 y5
    else
      lt_ (fX3_isOf S y3 y5 y1) fun x7 =>
      if x7 = 0 then
        lt_ (y5 + 1) fun x10 =>
        fX3_ridesInLogs_L22 k S n y1 y2 y3 y4 x10
      else
        lt_ (y2 + 1) fun x12 =>
        lt_ (y5 + 1) fun x14 =>
        fX3_ridesInLogs_L22 k S n y1 x12 y3 y4 x14
set_option maxHeartbeats 4000000 in
set_option maxRecDepth 20000 in
theorem lpX3_ridesInLogs_22 {l : Launch} {G : UG} {V : uV} {t : Nat} (hS : uSt G t) {S : (Nat → Nat → Int32)} (hV : V t = S) {r : Int32} {p : Program} {e : Env} {s : State} {m : MethodId} {args : Array Value} {below : List Frame} {meth : Method} {c : Code} (X : UC p s m args meth c cX3_ridesInLogs 6 RX3 G) (hret : meth.sig.returnType = some .int) {k : Int32 → Int32 → Int32 → Int32 → Int32 → Option Int32} (kk : ∀ (y1 : Int32) (y2 : Int32) (y3 : Int32) (y4 : Int32) (y5 : Int32) (H : Heap) (locs : List Loc) (ls : Array Slot), k y1 y2 y3 y4 y5 = some r → UM G (V) s H locs → lv_has ls 6 [(0, .ref (ga G t 21)), (1, .int y1), (2, .int y2), (3, .int y3), (4, .int y4), (5, .int y5)] → W p l e (uR 2 44) s m args below meth c H locs 0 0 (MQ below (uQi G .int r V) args s 0 0 (uA G)) (F0 m 49 ls [])) : ∀ (n : Nat) (y1 : Int32) (y2 : Int32) (y3 : Int32) (y4 : Int32) (y5 : Int32) (H : Heap) (locs : List Loc) (ls : Array Slot), fX3_ridesInLogs_L22 k S n y1 y2 y3 y4 y5 = some r → UM G (V) s H locs → lv_has ls 6 [(0, .ref (ga G t 21)), (1, .int y1), (2, .int y2), (3, .int y3), (4, .int y4), (5, .int y5)] → W p l e (uR 2 44) s m args below meth c H locs 0 0 (MQ below (uQi G .int r V) args s 0 0 (uA G)) (F0 m 22 ls []) := by
  intro n
  have hx := X.hx
  have hb := X.hb
  induction n with
  | zero => intro y1 y2 y3 y4 y5 H locs ls h M hl; rw [fX3_ridesInLogs_L22] at h; cases h
  | succ n ih =>
    intro y1 y2 y3 y4 y5 H locs ls h M hl
    rw [fX3_ridesInLogs_L22] at h
    refine lv_iload hx hb dX3_ridesInLogs_22 (lv_at hl 5 rfl) ?_
    refine lv_iload hx hb dX3_ridesInLogs_24 (lv_at hl 4 rfl) ?_
    refine lv_icmp_ge (tgt := 49) hx hb dX3_ridesInLogs_26 (by decide) (fun c5 => ?_) (fun c5 => ?_)
    · have h := it_t h c5
      exact kk _ _ _ _ _ _ _ _ h M (lv_sub hl [0, 1, 2, 3, 4, 5] rfl)
    · have h := it_f h c5
      refine lv_aload_n hx hb dX3_ridesInLogs_29 rfl (lv_at hl 0 rfl) ?_
      refine lv_iload_n hx hb dX3_ridesInLogs_30 rfl (lv_at hl 3 rfl) ?_
      refine lv_iload hx hb dX3_ridesInLogs_31 (lv_at hl 5 rfl) ?_
      refine lv_iload_n hx hb dX3_ridesInLogs_33 rfl (lv_at hl 1 rfl) ?_
      obtain ⟨x7, e6, h⟩ := lt_e h
      refine u_cVi X M hl.1 (kX3_isOf hS hV e6.symm) cw_X3_61 ⟨by decide, by decide⟩ (rc_X3 X M hS) rfl rfl (Nat.le_of_ble_eq_true rfl) ⟨Nat.zero_le _, Nat.zero_le _⟩ dX3_ridesInLogs_34 (fun H locs M n8 => ?_)
      refine lv_if_eq (tgt := 43) hx hb dX3_ridesInLogs_37 (by decide) (fun c9 => ?_) (fun c9 => ?_)
      · have h := it_t h c9
        obtain ⟨x10, e11, h⟩ := lt_e h
        refine lv_iinc (v := x10) (lv' := [(5, .int x10), (0, .ref (ga G t 21)), (1, .int y1), (2, .int y2), (3, .int y3), (4, .int y4)]) hx hb dX3_ridesInLogs_43 hl (k := 5) rfl (by rw [e11]; rfl) (by decide) rfl (fun ls hl => ?_)
        refine lv_goto (tgt := 22) hx hb dX3_ridesInLogs_46 (by decide) ?_
        exact ih _ _ _ _ _ _ _ _ h M (lv_sub hl [1, 2, 3, 4, 5, 0] rfl)
      · have h := it_f h c9
        obtain ⟨x12, e13, h⟩ := lt_e h
        refine lv_iinc (v := x12) (lv' := [(2, .int x12), (0, .ref (ga G t 21)), (1, .int y1), (3, .int y3), (4, .int y4), (5, .int y5)]) hx hb dX3_ridesInLogs_40 hl (k := 2) rfl (by rw [e13]; rfl) (by decide) rfl (fun ls hl => ?_)
        obtain ⟨x14, e15, h⟩ := lt_e h
        refine lv_iinc (v := x14) (lv' := [(5, .int x14), (2, .int x12), (0, .ref (ga G t 21)), (1, .int y1), (3, .int y3), (4, .int y4)]) hx hb dX3_ridesInLogs_43 hl (k := 5) rfl (by rw [e15]; rfl) (by decide) rfl (fun ls hl => ?_)
        refine lv_goto (tgt := 22) hx hb dX3_ridesInLogs_46 (by decide) ?_
        exact ih _ _ _ _ _ _ _ _ h M (lv_sub hl [2, 3, 1, 4, 5, 0] rfl)
def fX3_ridesInLogs_L4 (S : (Nat → Nat → Int32)) (n : Nat) (y1 : Int32) (y2 : Int32) (y3 : Int32) : Option Int32 :=
  match n with
  | 0 => none
  | n + 1 =>
    if 4 ≤ y3 then
      some y2
    else
      lt_ (fget 4 (S 31) y3) fun x3 =>
      fX3_ridesInLogs_L22 (fun x16 x17 x18 x19 x20 =>
          lt_ (x18 + 1) fun x21 =>
          fX3_ridesInLogs_L4 S n x16 x17 x21) S 3000 y1 y2 y3 x3 0
set_option maxHeartbeats 4000000 in
set_option maxRecDepth 20000 in
theorem lpX3_ridesInLogs_4 {l : Launch} {G : UG} {V : uV} {t : Nat} (hS : uSt G t) {S : (Nat → Nat → Int32)} (hV : V t = S) {r : Int32} {p : Program} {e : Env} {s : State} {m : MethodId} {args : Array Value} {below : List Frame} {meth : Method} {c : Code} (X : UC p s m args meth c cX3_ridesInLogs 6 RX3 G) (hret : meth.sig.returnType = some .int) : ∀ (n : Nat) (y1 : Int32) (y2 : Int32) (y3 : Int32) (H : Heap) (locs : List Loc) (ls : Array Slot), fX3_ridesInLogs_L4 S n y1 y2 y3 = some r → UM G (V) s H locs → lv_has ls 6 [(0, .ref (ga G t 21)), (1, .int y1), (2, .int y2), (3, .int y3)] → W p l e (uR 2 44) s m args below meth c H locs 0 0 (MQ below (uQi G .int r V) args s 0 0 (uA G)) (F0 m 4 ls []) := by
  intro n
  have hx := X.hx
  have hb := X.hb
  induction n with
  | zero => intro y1 y2 y3 H locs ls h M hl; rw [fX3_ridesInLogs_L4] at h; cases h
  | succ n ih =>
    intro y1 y2 y3 H locs ls h M hl
    rw [fX3_ridesInLogs_L4] at h
    refine lv_iload_n hx hb dX3_ridesInLogs_4 rfl (lv_at hl 3 rfl) ?_
    refine lv_iconst (v := 4) hx hb dX3_ridesInLogs_5 (by decide) ?_
    refine lv_icmp_ge (tgt := 55) hx hb dX3_ridesInLogs_6 (by decide) (fun c1 => ?_) (fun c1 => ?_)
    · have h := it_t h c1
      refine lv_iload_n hx hb dX3_ridesInLogs_55 rfl (lv_at hl 2 rfl) ?_
      exact u_iret X hret M (Option.some.inj h) (rfl) rfl dX3_ridesInLogs_56
    · have h := it_f h c1
      refine lv_aload_n hx hb dX3_ridesInLogs_9 rfl (lv_at hl 0 rfl) ?_
      refine gf_X3_27 X M hS dX3_ridesInLogs_10 ?_
      refine lv_iload_n hx hb dX3_ridesInLogs_13 rfl (lv_at hl 3 rfl) ?_
      obtain ⟨x3, e2, h⟩ := lt_e h
      refine u_cVi X M hl.1 (kX6_get (uRw30 hS) (congrFun hV 31) e2.symm) cw_X3_46 ⟨by decide, by decide⟩ (uR_recv X M (uRw30 hS)) rfl rfl (Nat.le_of_ble_eq_true rfl) ⟨Nat.zero_le _, Nat.zero_le _⟩ dX3_ridesInLogs_14 (fun H locs M n4 => ?_)
      refine lv_istore (lv' := [(4, .int x3), (0, .ref (ga G t 21)), (1, .int y1), (2, .int y2), (3, .int y3)]) hx hb dX3_ridesInLogs_17 hl (by decide) rfl (fun ls hl => ?_)
      refine lv_iconst (v := 0) hx hb dX3_ridesInLogs_19 (by decide) ?_
      refine lv_istore (lv' := [(5, .int 0), (4, .int x3), (0, .ref (ga G t 21)), (1, .int y1), (2, .int y2), (3, .int y3)]) hx hb dX3_ridesInLogs_20 hl (by decide) rfl (fun ls hl => ?_)
      refine lpX3_ridesInLogs_22 hS hV X hret (fun x16 x17 x18 x19 x20 H locs ls h M hl => ?_) 3000 _ _ _ _ _ _ _ _ h M (lv_sub hl [2, 3, 4, 5, 1, 0] rfl)
      obtain ⟨x21, e22, h⟩ := lt_e h
      refine lv_iinc (v := x21) (lv' := [(3, .int x21), (0, .ref (ga G t 21)), (1, .int x16), (2, .int x17), (4, .int x19), (5, .int x20)]) hx hb dX3_ridesInLogs_49 hl (k := 3) rfl (by rw [e22]; rfl) (by decide) rfl (fun ls hl => ?_)
      refine lv_goto (tgt := 4) hx hb dX3_ridesInLogs_52 (by decide) ?_
      exact ih _ _ _ _ _ _ h M (lv_sub hl [1, 2, 3, 0] rfl)
def fX3_ridesInLogs (S : (Nat → Nat → Int32)) (a1 : Int32) : Option Int32 :=
  fX3_ridesInLogs_L4 S 3000 a1 0 0
set_option maxHeartbeats 4000000 in
set_option maxRecDepth 20000 in
theorem kX3_ridesInLogs {l : Launch} {G : UG} {V : uV} {t : Nat} (hS : uSt G t) {S : (Nat → Nat → Int32)} (hV : V t = S) {a1 : Int32} {r : Int32} (h : fX3_ridesInLogs S a1 = some r) : uMi l G yX3_ridesInLogs cX3_ridesInLogs 6 .int (uR 2 44) [.ref (ga G t 21), .int a1] V r V := by
  refine uMi_of rfl (Nat.le_of_ble_eq_true rfl) (fun p e s m args below meth c ls X hret hl M => ?_)
  have hl : lv_has ls 6 [(0, .ref (ga G t 21)), (1, .int a1)] := hl
  have hx := X.hx
  have hb := X.hb
  unfold fX3_ridesInLogs at h
  refine lv_iconst (v := 0) hx hb dX3_ridesInLogs_0 (by decide) ?_
  refine lv_istore_n (lv' := [(2, .int 0), (0, .ref (ga G t 21)), (1, .int a1)]) hx hb dX3_ridesInLogs_1 rfl hl (by decide) rfl (fun ls hl => ?_)
  refine lv_iconst (v := 0) hx hb dX3_ridesInLogs_2 (by decide) ?_
  refine lv_istore_n (lv' := [(3, .int 0), (2, .int 0), (0, .ref (ga G t 21)), (1, .int a1)]) hx hb dX3_ridesInLogs_3 rfl hl (by decide) rfl (fun ls hl => ?_)
  exact lpX3_ridesInLogs_4 hS hV X hret 3000 _ _ _ _ _ _ h M (lv_sub hl [2, 3, 1, 0] rfl)
def fX3_faresInLogs_L22 (k : Int32 → Int32 → Int32 → Int32 → Int32 → Option Int32) (S : (Nat → Nat → Int32)) (n : Nat) (y1 : Int32) (y2 : Int32) (y3 : Int32) (y4 : Int32) (y5 : Int32) : Option Int32 :=
  match n with
  | 0 => none
  | n + 1 =>
    if y4 ≤ y5 then
      k y1 y2 y3 y4 y5
    else
      lt_ (fX3_isOf S y3 y5 y1) fun x7 =>
      if x7 = 0 then
        lt_ (y5 + 1) fun x10 =>
        fX3_faresInLogs_L22 k S n y1 y2 y3 y4 x10
      else
        lt_ (fget 48 (S 37) ((y3 * 12) + y5)) fun x13 =>
        lt_ ((y2 + x13)) fun x15 =>
        lt_ (y5 + 1) fun x17 =>
        fX3_faresInLogs_L22 k S n y1 x15 y3 y4 x17
set_option maxHeartbeats 4000000 in
set_option maxRecDepth 20000 in
theorem lpX3_faresInLogs_22 {l : Launch} {G : UG} {V : uV} {t : Nat} (hS : uSt G t) {S : (Nat → Nat → Int32)} (hV : V t = S) {r : Int32} {p : Program} {e : Env} {s : State} {m : MethodId} {args : Array Value} {below : List Frame} {meth : Method} {c : Code} (X : UC p s m args meth c cX3_faresInLogs 6 RX3 G) (hret : meth.sig.returnType = some .int) {k : Int32 → Int32 → Int32 → Int32 → Int32 → Option Int32} (kk : ∀ (y1 : Int32) (y2 : Int32) (y3 : Int32) (y4 : Int32) (y5 : Int32) (H : Heap) (locs : List Loc) (ls : Array Slot), k y1 y2 y3 y4 y5 = some r → UM G (V) s H locs → lv_has ls 6 [(0, .ref (ga G t 21)), (1, .int y1), (2, .int y2), (3, .int y3), (4, .int y4), (5, .int y5)] → W p l e (uR 2 44) s m args below meth c H locs 0 0 (MQ below (uQi G .int r V) args s 0 0 (uA G)) (F0 m 63 ls [])) : ∀ (n : Nat) (y1 : Int32) (y2 : Int32) (y3 : Int32) (y4 : Int32) (y5 : Int32) (H : Heap) (locs : List Loc) (ls : Array Slot), fX3_faresInLogs_L22 k S n y1 y2 y3 y4 y5 = some r → UM G (V) s H locs → lv_has ls 6 [(0, .ref (ga G t 21)), (1, .int y1), (2, .int y2), (3, .int y3), (4, .int y4), (5, .int y5)] → W p l e (uR 2 44) s m args below meth c H locs 0 0 (MQ below (uQi G .int r V) args s 0 0 (uA G)) (F0 m 22 ls []) := by
  intro n
  have hx := X.hx
  have hb := X.hb
  induction n with
  | zero => intro y1 y2 y3 y4 y5 H locs ls h M hl; rw [fX3_faresInLogs_L22] at h; cases h
  | succ n ih =>
    intro y1 y2 y3 y4 y5 H locs ls h M hl
    rw [fX3_faresInLogs_L22] at h
    refine lv_iload hx hb dX3_faresInLogs_22 (lv_at hl 5 rfl) ?_
    refine lv_iload hx hb dX3_faresInLogs_24 (lv_at hl 4 rfl) ?_
    refine lv_icmp_ge (tgt := 63) hx hb dX3_faresInLogs_26 (by decide) (fun c5 => ?_) (fun c5 => ?_)
    · have h := it_t h c5
      exact kk _ _ _ _ _ _ _ _ h M (lv_sub hl [0, 1, 2, 3, 4, 5] rfl)
    · have h := it_f h c5
      refine lv_aload_n hx hb dX3_faresInLogs_29 rfl (lv_at hl 0 rfl) ?_
      refine lv_iload_n hx hb dX3_faresInLogs_30 rfl (lv_at hl 3 rfl) ?_
      refine lv_iload hx hb dX3_faresInLogs_31 (lv_at hl 5 rfl) ?_
      refine lv_iload_n hx hb dX3_faresInLogs_33 rfl (lv_at hl 1 rfl) ?_
      obtain ⟨x7, e6, h⟩ := lt_e h
      refine u_cVi X M hl.1 (kX3_isOf hS hV e6.symm) cw_X3_61 ⟨by decide, by decide⟩ (rc_X3 X M hS) rfl rfl (Nat.le_of_ble_eq_true rfl) ⟨Nat.zero_le _, Nat.zero_le _⟩ dX3_faresInLogs_34 (fun H locs M n8 => ?_)
      refine lv_if_eq (tgt := 57) hx hb dX3_faresInLogs_37 (by decide) (fun c9 => ?_) (fun c9 => ?_)
      · have h := it_t h c9
        obtain ⟨x10, e11, h⟩ := lt_e h
        refine lv_iinc (v := x10) (lv' := [(5, .int x10), (0, .ref (ga G t 21)), (1, .int y1), (2, .int y2), (3, .int y3), (4, .int y4)]) hx hb dX3_faresInLogs_57 hl (k := 5) rfl (by rw [e11]; rfl) (by decide) rfl (fun ls hl => ?_)
        refine lv_goto (tgt := 22) hx hb dX3_faresInLogs_60 (by decide) ?_
        exact ih _ _ _ _ _ _ _ _ h M (lv_sub hl [1, 2, 3, 4, 5, 0] rfl)
      · have h := it_f h c9
        refine lv_iload_n hx hb dX3_faresInLogs_40 rfl (lv_at hl 2 rfl) ?_
        refine lv_aload_n hx hb dX3_faresInLogs_41 rfl (lv_at hl 0 rfl) ?_
        refine gf_X3_36 X M hS dX3_faresInLogs_42 ?_
        refine lv_iload_n hx hb dX3_faresInLogs_45 rfl (lv_at hl 3 rfl) ?_
        refine lv_bipush (v := 12) hx hb dX3_faresInLogs_46 (by decide) ?_
        refine lv_imul hx hb dX3_faresInLogs_48 ?_
        refine lv_iload hx hb dX3_faresInLogs_49 (lv_at hl 5 rfl) ?_
        refine lv_iadd hx hb dX3_faresInLogs_51 ?_
        obtain ⟨x13, e12, h⟩ := lt_e h
        refine u_cVi X M hl.1 (kX6_get (uRw36 hS) (congrFun hV 37) e12.symm) cw_X3_46 ⟨by decide, by decide⟩ (uR_recv X M (uRw36 hS)) rfl rfl (Nat.le_of_ble_eq_true rfl) ⟨Nat.zero_le _, Nat.zero_le _⟩ dX3_faresInLogs_52 (fun H locs M n14 => ?_)
        refine lv_iadd hx hb dX3_faresInLogs_55 ?_
        obtain ⟨x15, e16, h⟩ := lt_e h
        refine u_topi e16 ?_
        refine lv_istore_n (lv' := [(2, .int x15), (0, .ref (ga G t 21)), (1, .int y1), (3, .int y3), (4, .int y4), (5, .int y5)]) hx hb dX3_faresInLogs_56 rfl hl (by decide) rfl (fun ls hl => ?_)
        obtain ⟨x17, e18, h⟩ := lt_e h
        refine lv_iinc (v := x17) (lv' := [(5, .int x17), (2, .int x15), (0, .ref (ga G t 21)), (1, .int y1), (3, .int y3), (4, .int y4)]) hx hb dX3_faresInLogs_57 hl (k := 5) rfl (by rw [e18]; rfl) (by decide) rfl (fun ls hl => ?_)
        refine lv_goto (tgt := 22) hx hb dX3_faresInLogs_60 (by decide) ?_
        exact ih _ _ _ _ _ _ _ _ h M (lv_sub hl [2, 3, 1, 4, 5, 0] rfl)
def fX3_faresInLogs_L4 (S : (Nat → Nat → Int32)) (n : Nat) (y1 : Int32) (y2 : Int32) (y3 : Int32) : Option Int32 :=
  match n with
  | 0 => none
  | n + 1 =>
    if 4 ≤ y3 then
      some y2
    else
      lt_ (fget 4 (S 31) y3) fun x3 =>
      fX3_faresInLogs_L22 (fun x19 x20 x21 x22 x23 =>
          lt_ (x21 + 1) fun x24 =>
          fX3_faresInLogs_L4 S n x19 x20 x24) S 3000 y1 y2 y3 x3 0
set_option maxHeartbeats 4000000 in
set_option maxRecDepth 20000 in
theorem lpX3_faresInLogs_4 {l : Launch} {G : UG} {V : uV} {t : Nat} (hS : uSt G t) {S : (Nat → Nat → Int32)} (hV : V t = S) {r : Int32} {p : Program} {e : Env} {s : State} {m : MethodId} {args : Array Value} {below : List Frame} {meth : Method} {c : Code} (X : UC p s m args meth c cX3_faresInLogs 6 RX3 G) (hret : meth.sig.returnType = some .int) : ∀ (n : Nat) (y1 : Int32) (y2 : Int32) (y3 : Int32) (H : Heap) (locs : List Loc) (ls : Array Slot), fX3_faresInLogs_L4 S n y1 y2 y3 = some r → UM G (V) s H locs → lv_has ls 6 [(0, .ref (ga G t 21)), (1, .int y1), (2, .int y2), (3, .int y3)] → W p l e (uR 2 44) s m args below meth c H locs 0 0 (MQ below (uQi G .int r V) args s 0 0 (uA G)) (F0 m 4 ls []) := by
  intro n
  have hx := X.hx
  have hb := X.hb
  induction n with
  | zero => intro y1 y2 y3 H locs ls h M hl; rw [fX3_faresInLogs_L4] at h; cases h
  | succ n ih =>
    intro y1 y2 y3 H locs ls h M hl
    rw [fX3_faresInLogs_L4] at h
    refine lv_iload_n hx hb dX3_faresInLogs_4 rfl (lv_at hl 3 rfl) ?_
    refine lv_iconst (v := 4) hx hb dX3_faresInLogs_5 (by decide) ?_
    refine lv_icmp_ge (tgt := 69) hx hb dX3_faresInLogs_6 (by decide) (fun c1 => ?_) (fun c1 => ?_)
    · have h := it_t h c1
      refine lv_iload_n hx hb dX3_faresInLogs_69 rfl (lv_at hl 2 rfl) ?_
      exact u_iret X hret M (Option.some.inj h) (rfl) rfl dX3_faresInLogs_70
    · have h := it_f h c1
      refine lv_aload_n hx hb dX3_faresInLogs_9 rfl (lv_at hl 0 rfl) ?_
      refine gf_X3_27 X M hS dX3_faresInLogs_10 ?_
      refine lv_iload_n hx hb dX3_faresInLogs_13 rfl (lv_at hl 3 rfl) ?_
      obtain ⟨x3, e2, h⟩ := lt_e h
      refine u_cVi X M hl.1 (kX6_get (uRw30 hS) (congrFun hV 31) e2.symm) cw_X3_46 ⟨by decide, by decide⟩ (uR_recv X M (uRw30 hS)) rfl rfl (Nat.le_of_ble_eq_true rfl) ⟨Nat.zero_le _, Nat.zero_le _⟩ dX3_faresInLogs_14 (fun H locs M n4 => ?_)
      refine lv_istore (lv' := [(4, .int x3), (0, .ref (ga G t 21)), (1, .int y1), (2, .int y2), (3, .int y3)]) hx hb dX3_faresInLogs_17 hl (by decide) rfl (fun ls hl => ?_)
      refine lv_iconst (v := 0) hx hb dX3_faresInLogs_19 (by decide) ?_
      refine lv_istore (lv' := [(5, .int 0), (4, .int x3), (0, .ref (ga G t 21)), (1, .int y1), (2, .int y2), (3, .int y3)]) hx hb dX3_faresInLogs_20 hl (by decide) rfl (fun ls hl => ?_)
      refine lpX3_faresInLogs_22 hS hV X hret (fun x19 x20 x21 x22 x23 H locs ls h M hl => ?_) 3000 _ _ _ _ _ _ _ _ h M (lv_sub hl [2, 3, 4, 5, 1, 0] rfl)
      obtain ⟨x24, e25, h⟩ := lt_e h
      refine lv_iinc (v := x24) (lv' := [(3, .int x24), (0, .ref (ga G t 21)), (1, .int x19), (2, .int x20), (4, .int x22), (5, .int x23)]) hx hb dX3_faresInLogs_63 hl (k := 3) rfl (by rw [e25]; rfl) (by decide) rfl (fun ls hl => ?_)
      refine lv_goto (tgt := 4) hx hb dX3_faresInLogs_66 (by decide) ?_
      exact ih _ _ _ _ _ _ h M (lv_sub hl [1, 2, 3, 0] rfl)
def fX3_faresInLogs (S : (Nat → Nat → Int32)) (a1 : Int32) : Option Int32 :=
  fX3_faresInLogs_L4 S 3000 a1 0 0
set_option maxHeartbeats 4000000 in
set_option maxRecDepth 20000 in
theorem kX3_faresInLogs {l : Launch} {G : UG} {V : uV} {t : Nat} (hS : uSt G t) {S : (Nat → Nat → Int32)} (hV : V t = S) {a1 : Int32} {r : Int32} (h : fX3_faresInLogs S a1 = some r) : uMi l G yX3_faresInLogs cX3_faresInLogs 6 .int (uR 2 44) [.ref (ga G t 21), .int a1] V r V := by
  refine uMi_of rfl (Nat.le_of_ble_eq_true rfl) (fun p e s m args below meth c ls X hret hl M => ?_)
  have hl : lv_has ls 6 [(0, .ref (ga G t 21)), (1, .int a1)] := hl
  have hx := X.hx
  have hb := X.hb
  unfold fX3_faresInLogs at h
  refine lv_iconst (v := 0) hx hb dX3_faresInLogs_0 (by decide) ?_
  refine lv_istore_n (lv' := [(2, .int 0), (0, .ref (ga G t 21)), (1, .int a1)]) hx hb dX3_faresInLogs_1 rfl hl (by decide) rfl (fun ls hl => ?_)
  refine lv_iconst (v := 0) hx hb dX3_faresInLogs_2 (by decide) ?_
  refine lv_istore_n (lv' := [(3, .int 0), (2, .int 0), (0, .ref (ga G t 21)), (1, .int a1)]) hx hb dX3_faresInLogs_3 rfl hl (by decide) rfl (fun ls hl => ?_)
  exact lpX3_faresInLogs_4 hS hV X hret 3000 _ _ _ _ _ _ h M (lv_sub hl [2, 3, 1, 0] rfl)
