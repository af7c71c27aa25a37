theorem dX11_remember_0 : decode cX11_remember 0 = .ok (.aload_n 0, 1) := by decide +kernel
theorem dX11_remember_1 : decode cX11_remember 1 = .ok (.getfield 29, 3) := by decide +kernel
theorem dX11_remember_4 : decode cX11_remember 4 = .ok (.aload_n 0, 1) := by decide +kernel
theorem dX11_remember_5 : decode cX11_remember 5 = .ok (.getfield 10, 3) := by decide +kernel
theorem dX11_remember_8 : decode cX11_remember 8 = .ok (.invokevirtual 268, 3) := by decide +kernel
theorem dX11_remember_11 : decode cX11_remember 11 = .ok (.return_, 1) := by decide +kernel
theorem dX11_numberIfUp_0 : decode cX11_numberIfUp 0 = .ok (.aload_n 0, 1) := by decide +kernel
theorem dX11_numberIfUp_1 : decode cX11_numberIfUp 1 = .ok (.getfield 16, 3) := by decide +kernel
theorem dX11_numberIfUp_4 : decode cX11_numberIfUp 4 = .ok (.aload_n 0, 1) := by decide +kernel
theorem dX11_numberIfUp_5 : decode cX11_numberIfUp 5 = .ok (.getfield 10, 3) := by decide +kernel
theorem dX11_numberIfUp_8 : decode cX11_numberIfUp 8 = .ok (.invokevirtual 197, 3) := by decide +kernel
theorem dX11_numberIfUp_11 : decode cX11_numberIfUp 11 = .ok (.aload_n 0, 1) := by decide +kernel
theorem dX11_numberIfUp_12 : decode cX11_numberIfUp 12 = .ok (.getfield 16, 3) := by decide +kernel
theorem dX11_numberIfUp_15 : decode cX11_numberIfUp 15 = .ok (.iload_n 1, 1) := by decide +kernel
theorem dX11_numberIfUp_16 : decode cX11_numberIfUp 16 = .ok (.invokevirtual 216, 3) := by decide +kernel
theorem dX11_numberIfUp_19 : decode cX11_numberIfUp 19 = .ok (.pop, 1) := by decide +kernel
theorem dX11_numberIfUp_20 : decode cX11_numberIfUp 20 = .ok (.iload_n 2, 1) := by decide +kernel
theorem dX11_numberIfUp_21 : decode cX11_numberIfUp 21 = .ok (.tableswitch 70 0 2 #[27, 43, 59], 27) := by decide +kernel
theorem dX11_numberIfUp_48 : decode cX11_numberIfUp 48 = .ok (.aload_n 0, 1) := by decide +kernel
theorem dX11_numberIfUp_49 : decode cX11_numberIfUp 49 = .ok (.getfield 16, 3) := by decide +kernel
theorem dX11_numberIfUp_52 : decode cX11_numberIfUp 52 = .ok (.getfield 251, 3) := by decide +kernel
theorem dX11_numberIfUp_55 : decode cX11_numberIfUp 55 = .ok (.aload_n 0, 1) := by decide +kernel
theorem dX11_numberIfUp_56 : decode cX11_numberIfUp 56 = .ok (.getfield 10, 3) := by decide +kernel
theorem dX11_numberIfUp_59 : decode cX11_numberIfUp 59 = .ok (.getfield 251, 3) := by decide +kernel
theorem dX11_numberIfUp_62 : decode cX11_numberIfUp 62 = .ok (.isub, 1) := by decide +kernel
theorem dX11_numberIfUp_63 : decode cX11_numberIfUp 63 = .ok (.ireturn, 1) := by decide +kernel
theorem dX11_numberIfUp_64 : decode cX11_numberIfUp 64 = .ok (.aload_n 0, 1) := by decide +kernel
theorem dX11_numberIfUp_65 : decode cX11_numberIfUp 65 = .ok (.getfield 16, 3) := by decide +kernel
theorem dX11_numberIfUp_68 : decode cX11_numberIfUp 68 = .ok (.getfield 254, 3) := by decide +kernel
theorem dX11_numberIfUp_71 : decode cX11_numberIfUp 71 = .ok (.aload_n 0, 1) := by decide +kernel
theorem dX11_numberIfUp_72 : decode cX11_numberIfUp 72 = .ok (.getfield 10, 3) := by decide +kernel
theorem dX11_numberIfUp_75 : decode cX11_numberIfUp 75 = .ok (.getfield 254, 3) := by decide +kernel
theorem dX11_numberIfUp_78 : decode cX11_numberIfUp 78 = .ok (.isub, 1) := by decide +kernel
theorem dX11_numberIfUp_79 : decode cX11_numberIfUp 79 = .ok (.ireturn, 1) := by decide +kernel
theorem dX11_numberIfUp_80 : decode cX11_numberIfUp 80 = .ok (.aload_n 0, 1) := by decide +kernel
theorem dX11_numberIfUp_81 : decode cX11_numberIfUp 81 = .ok (.getfield 16, 3) := by decide +kernel
theorem dX11_numberIfUp_84 : decode cX11_numberIfUp 84 = .ok (.getfield 99, 3) := by decide +kernel
theorem dX11_numberIfUp_87 : decode cX11_numberIfUp 87 = .ok (.invokevirtual 271, 3) := by decide +kernel
theorem dX11_numberIfUp_90 : decode cX11_numberIfUp 90 = .ok (.ireturn, 1) := by decide +kernel
theorem dX11_numberIfUp_91 : decode cX11_numberIfUp 91 = .ok (.aload_n 0, 1) := by decide +kernel
theorem dX11_numberIfUp_92 : decode cX11_numberIfUp 92 = .ok (.getfield 16, 3) := by decide +kernel
theorem dX11_numberIfUp_95 : decode cX11_numberIfUp 95 = .ok (.getfield 274, 3) := by decide +kernel
theorem dX11_numberIfUp_98 : decode cX11_numberIfUp 98 = .ok (.aload_n 0, 1) := by decide +kernel
theorem dX11_numberIfUp_99 : decode cX11_numberIfUp 99 = .ok (.getfield 10, 3) := by decide +kernel
theorem dX11_numberIfUp_102 : decode cX11_numberIfUp 102 = .ok (.getfield 274, 3) := by decide +kernel
theorem dX11_numberIfUp_105 : decode cX11_numberIfUp 105 = .ok (.isub, 1) := by decide +kernel
theorem dX11_numberIfUp_106 : decode cX11_numberIfUp 106 = .ok (.ireturn, 1) := by decide +kernel
theorem dX11_bestUp_0 : decode cX11_bestUp 0 = .ok (.iconst (-1), 1) := by decide +kernel
theorem dX11_bestUp_1 : decode cX11_bestUp 1 = .ok (.istore_n 1, 1) := by decide +kernel
theorem dX11_bestUp_2 : decode cX11_bestUp 2 = .ok (.iconst (-1), 1) := by decide +kernel
theorem dX11_bestUp_3 : decode cX11_bestUp 3 = .ok (.istore_n 2, 1) := by decide +kernel
theorem dX11_bestUp_4 : decode cX11_bestUp 4 = .ok (.iconst 0, 1) := by decide +kernel
theorem dX11_bestUp_5 : decode cX11_bestUp 5 = .ok (.istore_n 3, 1) := by decide +kernel
theorem dX11_bestUp_6 : decode cX11_bestUp 6 = .ok (.iload_n 3, 1) := by decide +kernel
theorem dX11_bestUp_7 : decode cX11_bestUp 7 = .ok (.iconst 4, 1) := by decide +kernel
theorem dX11_bestUp_8 : decode cX11_bestUp 8 = .ok (.if_icmp .ge 42, 3) := by decide +kernel
theorem dX11_bestUp_11 : decode cX11_bestUp 11 = .ok (.aload_n 0, 1) := by decide +kernel
theorem dX11_bestUp_12 : decode cX11_bestUp 12 = .ok (.getfield 10, 3) := by decide +kernel
theorem dX11_bestUp_15 : decode cX11_bestUp 15 = .ok (.getfield 109, 3) := by decide +kernel
theorem dX11_bestUp_18 : decode cX11_bestUp 18 = .ok (.iload_n 3, 1) := by decide +kernel
theorem dX11_bestUp_19 : decode cX11_bestUp 19 = .ok (.invokevirtual 165, 3) := by decide +kernel
theorem dX11_bestUp_22 : decode cX11_bestUp 22 = .ok (.ifCond .ne 22, 3) := by decide +kernel
theorem dX11_bestUp_25 : decode cX11_bestUp 25 = .ok (.aload_n 0, 1) := by decide +kernel
theorem dX11_bestUp_26 : decode cX11_bestUp 26 = .ok (.iload_n 3, 1) := by decide +kernel
theorem dX11_bestUp_27 : decode cX11_bestUp 27 = .ok (.iconst 3, 1) := by decide +kernel
theorem dX11_bestUp_28 : decode cX11_bestUp 28 = .ok (.invokevirtual 204, 3) := by decide +kernel
theorem dX11_bestUp_31 : decode cX11_bestUp 31 = .ok (.istore 4, 2) := by decide +kernel
theorem dX11_bestUp_33 : decode cX11_bestUp 33 = .ok (.iload 4, 2) := by decide +kernel
theorem dX11_bestUp_35 : decode cX11_bestUp 35 = .ok (.iload_n 2, 1) := by decide +kernel
theorem dX11_bestUp_36 : decode cX11_bestUp 36 = .ok (.if_icmp .le 8, 3) := by decide +kernel
theorem dX11_bestUp_39 : decode cX11_bestUp 39 = .ok (.iload_n 3, 1) := by decide +kernel
theorem dX11_bestUp_40 : decode cX11_bestUp 40 = .ok (.istore_n 1, 1) := by decide +kernel
theorem dX11_bestUp_41 : decode cX11_bestUp 41 = .ok (.iload 4, 2) := by decide +kernel
theorem dX11_bestUp_43 : decode cX11_bestUp 43 = .ok (.istore_n 2, 1) := by decide +kernel
theorem dX11_bestUp_44 : decode cX11_bestUp 44 = .ok (.iinc 3 1, 3) := by decide +kernel
theorem dX11_bestUp_47 : decode cX11_bestUp 47 = .ok (.goto (-41), 3) := by decide +kernel
theorem dX11_bestUp_50 : decode cX11_bestUp 50 = .ok (.iload_n 1, 1) := by decide +kernel
theorem dX11_bestUp_51 : decode cX11_bestUp 51 = .ok (.ireturn, 1) := by decide +kernel
theorem dX11_worst_0 : decode cX11_worst 0 = .ok (.iconst (-1), 1) := by decide +kernel
theorem dX11_worst_1 : decode cX11_worst 1 = .ok (.istore_n 1, 1) := by decide +kernel
theorem dX11_worst_2 : decode cX11_worst 2 = .ok (.iconst 0, 1) := by decide +kernel
theorem dX11_worst_3 : decode cX11_worst 3 = .ok (.istore_n 2, 1) := by decide +kernel
theorem dX11_worst_4 : decode cX11_worst 4 = .ok (.iconst 0, 1) := by decide +kernel
theorem dX11_worst_5 : decode cX11_worst 5 = .ok (.istore_n 3, 1) := by decide +kernel
theorem dX11_worst_6 : decode cX11_worst 6 = .ok (.iload_n 3, 1) := by decide +kernel
theorem dX11_worst_7 : decode cX11_worst 7 = .ok (.aload_n 0, 1) := by decide +kernel
theorem dX11_worst_8 : decode cX11_worst 8 = .ok (.getfield 10, 3) := by decide +kernel
theorem dX11_worst_11 : decode cX11_worst 11 = .ok (.getfield 99, 3) := by decide +kernel
theorem dX11_worst_14 : decode cX11_worst 14 = .ok (.getfield 207, 3) := by decide +kernel
theorem dX11_worst_17 : decode cX11_worst 17 = .ok (.if_icmp .ge 53, 3) := by decide +kernel
theorem dX11_worst_20 : decode cX11_worst 20 = .ok (.aload_n 0, 1) := by decide +kernel
theorem dX11_worst_21 : decode cX11_worst 21 = .ok (.getfield 10, 3) := by decide +kernel
theorem dX11_worst_24 : decode cX11_worst 24 = .ok (.getfield 99, 3) := by decide +kernel
theorem dX11_worst_27 : decode cX11_worst 27 = .ok (.getfield 210, 3) := by decide +kernel
theorem dX11_worst_30 : decode cX11_worst 30 = .ok (.iload_n 3, 1) := by decide +kernel
theorem dX11_worst_31 : decode cX11_worst 31 = .ok (.invokevirtual 132, 3) := by decide +kernel
theorem dX11_worst_34 : decode cX11_worst 34 = .ok (.aload_n 0, 1) := by decide +kernel
theorem dX11_worst_35 : decode cX11_worst 35 = .ok (.getfield 10, 3) := by decide +kernel
theorem dX11_worst_38 : decode cX11_worst 38 = .ok (.getfield 109, 3) := by decide +kernel
theorem dX11_worst_41 : decode cX11_worst 41 = .ok (.iload_n 3, 1) := by decide +kernel
theorem dX11_worst_42 : decode cX11_worst 42 = .ok (.invokevirtual 213, 3) := by decide +kernel
theorem dX11_worst_45 : decode cX11_worst 45 = .ok (.isub, 1) := by decide +kernel
theorem dX11_worst_46 : decode cX11_worst 46 = .ok (.istore 4, 2) := by decide +kernel
theorem dX11_worst_48 : decode cX11_worst 48 = .ok (.iload_n 1, 1) := by decide +kernel
theorem dX11_worst_49 : decode cX11_worst 49 = .ok (.iconst (-1), 1) := by decide +kernel
theorem dX11_worst_50 : decode cX11_worst 50 = .ok (.if_icmp .eq 9, 3) := by decide +kernel
theorem dX11_worst_53 : decode cX11_worst 53 = .ok (.iload 4, 2) := by decide +kernel
theorem dX11_worst_55 : decode cX11_worst 55 = .ok (.iload_n 2, 1) := by decide +kernel
theorem dX11_worst_56 : decode cX11_worst 56 = .ok (.if_icmp .ge 8, 3) := by decide +kernel
theorem dX11_worst_59 : decode cX11_worst 59 = .ok (.iload_n 3, 1) := by decide +kernel
theorem dX11_worst_60 : decode cX11_worst 60 = .ok (.istore_n 1, 1) := by decide +kernel
theorem dX11_worst_61 : decode cX11_worst 61 = .ok (.iload 4, 2) := by decide +kernel
theorem dX11_worst_63 : decode cX11_worst 63 = .ok (.istore_n 2, 1) := by decide +kernel
theorem dX11_worst_64 : decode cX11_worst 64 = .ok (.iinc 3 1, 3) := by decide +kernel
theorem dX11_worst_67 : decode cX11_worst 67 = .ok (.goto (-61), 3) := by decide +kernel
theorem dX11_worst_70 : decode cX11_worst 70 = .ok (.iload_n 1, 1) := by decide +kernel
theorem dX11_worst_71 : decode cX11_worst 71 = .ok (.ireturn, 1) := by decide +kernel
theorem dX11_append_0 : decode cX11_append 0 = .ok (.iload_n 1, 1) := by decide +kernel
theorem dX11_append_1 : decode cX11_append 1 = .ok (.iconst 0, 1) := by decide +kernel
theorem dX11_append_2 : decode cX11_append 2 = .ok (.sipush 255, 3) := by decide +kernel
theorem dX11_append_5 : decode cX11_append 5 = .ok (.invokestatic 40, 3) := by decide +kernel
theorem dX11_append_8 : decode cX11_append 8 = .ok (.aload_n 0, 1) := by decide +kernel
theorem dX11_append_9 : decode cX11_append 9 = .ok (.getfield 22, 3) := by decide +kernel
theorem dX11_append_12 : decode cX11_append 12 = .ok (.invokevirtual 44, 3) := by decide +kernel
theorem dX11_append_15 : decode cX11_append 15 = .ok (.bipush 120, 2) := by decide +kernel
theorem dX11_append_17 : decode cX11_append 17 = .ok (.if_icmp .ge 7, 3) := by decide +kernel
theorem dX11_append_20 : decode cX11_append 20 = .ok (.iconst 1, 1) := by decide +kernel
theorem dX11_append_21 : decode cX11_append 21 = .ok (.goto 4, 3) := by decide +kernel
theorem dX11_append_24 : decode cX11_append 24 = .ok (.iconst 0, 1) := by decide +kernel
theorem dX11_append_25 : decode cX11_append 25 = .ok (.invokestatic 48, 3) := by decide +kernel
theorem dX11_append_28 : decode cX11_append 28 = .ok (.aload_n 0, 1) := by decide +kernel
theorem dX11_append_29 : decode cX11_append 29 = .ok (.getfield 22, 3) := by decide +kernel
theorem dX11_append_32 : decode cX11_append 32 = .ok (.iload_n 1, 1) := by decide +kernel
theorem dX11_append_33 : decode cX11_append 33 = .ok (.invokevirtual 52, 3) := by decide +kernel
theorem dX11_append_36 : decode cX11_append 36 = .ok (.ireturn, 1) := by decide +kernel
theorem dX11_about_0 : decode cX11_about 0 = .ok (.iload_n 1, 1) := by decide +kernel
theorem dX11_about_1 : decode cX11_about 1 = .ok (.iconst 0, 1) := by decide +kernel
theorem dX11_about_2 : decode cX11_about 2 = .ok (.bipush 10, 2) := by decide +kernel
theorem dX11_about_4 : decode cX11_about 4 = .ok (.invokestatic 40, 3) := by decide +kernel
theorem dX11_about_7 : decode cX11_about 7 = .ok (.aload_n 0, 1) := by decide +kernel
theorem dX11_about_8 : decode cX11_about 8 = .ok (.getfield 10, 3) := by decide +kernel
theorem dX11_about_11 : decode cX11_about 11 = .ok (.iload_n 1, 1) := by decide +kernel
theorem dX11_about_12 : decode cX11_about 12 = .ok (.invokevirtual 79, 3) := by decide +kernel
theorem dX11_about_15 : decode cX11_about 15 = .ok (.ireturn, 1) := by decide +kernel
theorem dX11_card_0 : decode cX11_card 0 = .ok (.aload_n 0, 1) := by decide +kernel
theorem dX11_card_1 : decode cX11_card 1 = .ok (.getfield 10, 3) := by decide +kernel
theorem dX11_card_4 : decode cX11_card 4 = .ok (.getfield 82, 3) := by decide +kernel
theorem dX11_card_7 : decode cX11_card 7 = .ok (.iload_n 1, 1) := by decide +kernel
theorem dX11_card_8 : decode cX11_card 8 = .ok (.invokevirtual 86, 3) := by decide +kernel
theorem dX11_card_11 : decode cX11_card 11 = .ok (.invokestatic 92, 3) := by decide +kernel
theorem dX11_card_14 : decode cX11_card 14 = .ok (.iload_n 2, 1) := by decide +kernel
theorem dX11_card_15 : decode cX11_card 15 = .ok (.iconst 0, 1) := by decide +kernel
theorem dX11_card_16 : decode cX11_card 16 = .ok (.iconst 3, 1) := by decide +kernel
theorem dX11_card_17 : decode cX11_card 17 = .ok (.invokestatic 40, 3) := by decide +kernel
theorem dX11_card_20 : decode cX11_card 20 = .ok (.aload_n 0, 1) := by decide +kernel
theorem dX11_card_21 : decode cX11_card 21 = .ok (.getfield 10, 3) := by decide +kernel
theorem dX11_card_24 : decode cX11_card 24 = .ok (.getfield 82, 3) := by decide +kernel
theorem dX11_card_27 : decode cX11_card 27 = .ok (.iload_n 1, 1) := by decide +kernel
theorem dX11_card_28 : decode cX11_card 28 = .ok (.iload_n 2, 1) := by decide +kernel
theorem dX11_card_29 : decode cX11_card 29 = .ok (.invokevirtual 95, 3) := by decide +kernel
theorem dX11_card_32 : decode cX11_card 32 = .ok (.ireturn, 1) := by decide +kernel
theorem dX11_account_0 : decode cX11_account 0 = .ok (.aload_n 0, 1) := by decide +kernel
theorem dX11_account_1 : decode cX11_account 1 = .ok (.getfield 10, 3) := by decide +kernel
theorem dX11_account_4 : decode cX11_account 4 = .ok (.getfield 99, 3) := by decide +kernel
theorem dX11_account_7 : decode cX11_account 7 = .ok (.iload_n 1, 1) := by decide +kernel
theorem dX11_account_8 : decode cX11_account 8 = .ok (.invokevirtual 103, 3) := by decide +kernel
theorem dX11_account_11 : decode cX11_account 11 = .ok (.invokestatic 92, 3) := by decide +kernel
theorem dX11_account_14 : decode cX11_account 14 = .ok (.iload_n 2, 1) := by decide +kernel
theorem dX11_account_15 : decode cX11_account 15 = .ok (.iconst 0, 1) := by decide +kernel
theorem dX11_account_16 : decode cX11_account 16 = .ok (.bipush 7, 2) := by decide +kernel
theorem dX11_account_18 : decode cX11_account 18 = .ok (.invokestatic 40, 3) := by decide +kernel
theorem dX11_account_21 : decode cX11_account 21 = .ok (.aload_n 0, 1) := by decide +kernel
theorem dX11_account_22 : decode cX11_account 22 = .ok (.getfield 10, 3) := by decide +kernel
theorem dX11_account_25 : decode cX11_account 25 = .ok (.iload_n 1, 1) := by decide +kernel
theorem dX11_account_26 : decode cX11_account 26 = .ok (.iload_n 2, 1) := by decide +kernel
theorem dX11_account_27 : decode cX11_account 27 = .ok (.invokevirtual 106, 3) := by decide +kernel
theorem dX11_account_30 : decode cX11_account 30 = .ok (.ireturn, 1) := by decide +kernel
theorem dX11_gate_0 : decode cX11_gate 0 = .ok (.aload_n 0, 1) := by decide +kernel
theorem dX11_gate_1 : decode cX11_gate 1 = .ok (.getfield 10, 3) := by decide +kernel
theorem dX11_gate_4 : decode cX11_gate 4 = .ok (.getfield 109, 3) := by decide +kernel
theorem dX11_gate_7 : decode cX11_gate 7 = .ok (.iload_n 1, 1) := by decide +kernel
theorem dX11_gate_8 : decode cX11_gate 8 = .ok (.invokevirtual 113, 3) := by decide +kernel
theorem dX11_gate_11 : decode cX11_gate 11 = .ok (.invokestatic 92, 3) := by decide +kernel
theorem dX11_gate_14 : decode cX11_gate 14 = .ok (.iload_n 2, 1) := by decide +kernel
theorem dX11_gate_15 : decode cX11_gate 15 = .ok (.iconst 0, 1) := by decide +kernel
theorem dX11_gate_16 : decode cX11_gate 16 = .ok (.iconst 4, 1) := by decide +kernel
theorem dX11_gate_17 : decode cX11_gate 17 = .ok (.invokestatic 40, 3) := by decide +kernel
theorem dX11_gate_20 : decode cX11_gate 20 = .ok (.iload_n 2, 1) := by decide +kernel
theorem dX11_gate_21 : decode cX11_gate 21 = .ok (.iconst 4, 1) := by decide +kernel
theorem dX11_gate_22 : decode cX11_gate 22 = .ok (.if_icmp .ne 14, 3) := by decide +kernel
theorem dX11_gate_25 : decode cX11_gate 25 = .ok (.aload_n 0, 1) := by decide +kernel
theorem dX11_gate_26 : decode cX11_gate 26 = .ok (.getfield 10, 3) := by decide +kernel
theorem dX11_gate_29 : decode cX11_gate 29 = .ok (.iload_n 1, 1) := by decide +kernel
theorem dX11_gate_30 : decode cX11_gate 30 = .ok (.invokevirtual 116, 3) := by decide +kernel
theorem dX11_gate_33 : decode cX11_gate 33 = .ok (.goto 15, 3) := by decide +kernel
theorem dX11_gate_36 : decode cX11_gate 36 = .ok (.aload_n 0, 1) := by decide +kernel
theorem dX11_gate_37 : decode cX11_gate 37 = .ok (.getfield 10, 3) := by decide +kernel
theorem dX11_gate_40 : decode cX11_gate 40 = .ok (.getfield 109, 3) := by decide +kernel
theorem dX11_gate_43 : decode cX11_gate 43 = .ok (.iload_n 1, 1) := by decide +kernel
theorem dX11_gate_44 : decode cX11_gate 44 = .ok (.iload_n 2, 1) := by decide +kernel
theorem dX11_gate_45 : decode cX11_gate 45 = .ok (.invokevirtual 119, 3) := by decide +kernel
theorem dX11_gate_48 : decode cX11_gate 48 = .ok (.ireturn, 1) := by decide +kernel
theorem dX11_logged_0 : decode cX11_logged 0 = .ok (.aload_n 0, 1) := by decide +kernel
theorem dX11_logged_1 : decode cX11_logged 1 = .ok (.getfield 10, 3) := by decide +kernel
theorem dX11_logged_4 : decode cX11_logged 4 = .ok (.getfield 109, 3) := by decide +kernel
theorem dX11_logged_7 : decode cX11_logged 7 = .ok (.iload_n 1, 1) := by decide +kernel
theorem dX11_logged_8 : decode cX11_logged 8 = .ok (.invokevirtual 113, 3) := by decide +kernel
theorem dX11_logged_11 : decode cX11_logged 11 = .ok (.ifCond .eq 22, 3) := by decide +kernel
theorem dX11_logged_14 : decode cX11_logged 14 = .ok (.aload_n 0, 1) := by decide +kernel
theorem dX11_logged_15 : decode cX11_logged 15 = .ok (.getfield 10, 3) := by decide +kernel
theorem dX11_logged_18 : decode cX11_logged 18 = .ok (.getfield 109, 3) := by decide +kernel
theorem dX11_logged_21 : decode cX11_logged 21 = .ok (.iload_n 1, 1) := by decide +kernel
theorem dX11_logged_22 : decode cX11_logged 22 = .ok (.iload_n 2, 1) := by decide +kernel
theorem dX11_logged_23 : decode cX11_logged 23 = .ok (.invokevirtual 120, 3) := by decide +kernel
theorem dX11_logged_26 : decode cX11_logged 26 = .ok (.ifCond .eq 7, 3) := by decide +kernel
theorem dX11_logged_29 : decode cX11_logged 29 = .ok (.iconst 1, 1) := by decide +kernel
theorem dX11_logged_30 : decode cX11_logged 30 = .ok (.goto 4, 3) := by decide +kernel
theorem dX11_logged_33 : decode cX11_logged 33 = .ok (.iconst 0, 1) := by decide +kernel
theorem dX11_logged_34 : decode cX11_logged 34 = .ok (.invokestatic 92, 3) := by decide +kernel
theorem dX11_logged_37 : decode cX11_logged 37 = .ok (.iload_n 3, 1) := by decide +kernel
theorem dX11_logged_38 : decode cX11_logged 38 = .ok (.iconst 0, 1) := by decide +kernel
theorem dX11_logged_39 : decode cX11_logged 39 = .ok (.iconst 2, 1) := by decide +kernel
theorem dX11_logged_40 : decode cX11_logged 40 = .ok (.invokestatic 40, 3) := by decide +kernel
theorem dX11_logged_43 : decode cX11_logged 43 = .ok (.aload_n 0, 1) := by decide +kernel
theorem dX11_logged_44 : decode cX11_logged 44 = .ok (.getfield 10, 3) := by decide +kernel
theorem dX11_logged_47 : decode cX11_logged 47 = .ok (.getfield 109, 3) := by decide +kernel
theorem dX11_logged_50 : decode cX11_logged 50 = .ok (.iload_n 1, 1) := by decide +kernel
theorem dX11_logged_51 : decode cX11_logged 51 = .ok (.iload_n 2, 1) := by decide +kernel
theorem dX11_logged_52 : decode cX11_logged 52 = .ok (.iload_n 3, 1) := by decide +kernel
theorem dX11_logged_53 : decode cX11_logged 53 = .ok (.invokevirtual 124, 3) := by decide +kernel
theorem dX11_logged_56 : decode cX11_logged 56 = .ok (.ireturn, 1) := by decide +kernel
theorem dX11_setting_0 : decode cX11_setting 0 = .ok (.iload_n 1, 1) := by decide +kernel
theorem dX11_setting_1 : decode cX11_setting 1 = .ok (.iconst 0, 1) := by decide +kernel
theorem dX11_setting_2 : decode cX11_setting 2 = .ok (.iconst 3, 1) := by decide +kernel
theorem dX11_setting_3 : decode cX11_setting 3 = .ok (.invokestatic 40, 3) := by decide +kernel
theorem dX11_setting_6 : decode cX11_setting 6 = .ok (.aload_n 0, 1) := by decide +kernel
theorem dX11_setting_7 : decode cX11_setting 7 = .ok (.getfield 10, 3) := by decide +kernel
theorem dX11_setting_10 : decode cX11_setting 10 = .ok (.getfield 128, 3) := by decide +kernel
theorem dX11_setting_13 : decode cX11_setting 13 = .ok (.iload_n 1, 1) := by decide +kernel
theorem dX11_setting_14 : decode cX11_setting 14 = .ok (.invokevirtual 132, 3) := by decide +kernel
theorem dX11_setting_17 : decode cX11_setting 17 = .ok (.ireturn, 1) := by decide +kernel
theorem yf_X11_needRange : (Cond.static yX11_needRange) ∈ gtbl ∧ (Cond.initialized yX11_needRange.cls) ∈ gtbl ∧ (Cond.code yX11_needRange cX11_needRange 3 none) ∈ gtbl ∧ (yX11_needRange.cls ≠ "java/lang/invoke/MethodHandle" ∧ yX11_needRange.cls ≠ "java/lang/invoke/VarHandle" ∧ (parseMethodDescriptor yX11_needRange.desc).map (fun d => d.parameters.length) = some 3) := ⟨gt_in 310 (by decide +kernel) (by decide +kernel), gt_in 10 (by decide +kernel) (by decide +kernel), gt_in 311 (by decide +kernel) (by decide +kernel), by decide +kernel⟩
theorem cw_X11_40 : uCS RX11 40 yX11_needRange cX11_needRange 3 none 3 := ⟨gt_in 309 (by decide +kernel) (by decide +kernel), yf_X11_needRange⟩
theorem yf_X2_length : (Cond.instanceMethod yX2_length) ∈ gtbl ∧ (Cond.selects RX2 yX2_length yX2_length) ∈ gtbl ∧ (Cond.initialized RX2) ∈ gtbl ∧ (Cond.code yX2_length cX2_length 1 (some .int)) ∈ gtbl ∧ (yX2_length.cls = RX2 ∧ yX2_length.cls ≠ "java/lang/invoke/MethodHandle" ∧ yX2_length.cls ≠ "java/lang/invoke/VarHandle" ∧ (parseMethodDescriptor yX2_length.desc).map (fun d => d.parameters.length) = some 0) := ⟨gt_in 384 (by decide +kernel) (by decide +kernel), gt_in 385 (by decide +kernel) (by decide +kernel), gt_in 17 (by decide +kernel) (by decide +kernel), gt_in 386 (by decide +kernel) (by decide +kernel), by decide +kernel⟩
theorem cw_X11_44 : uCW RX11 RX2 44 yX2_length cX2_length 1 (some .int) 0 := ⟨gt_in 383 (by decide +kernel) (by decide +kernel), yf_X2_length⟩
theorem yf_X11_needState : (Cond.static yX11_needState) ∈ gtbl ∧ (Cond.initialized yX11_needState.cls) ∈ gtbl ∧ (Cond.code yX11_needState cX11_needState 1 none) ∈ gtbl ∧ (yX11_needState.cls ≠ "java/lang/invoke/MethodHandle" ∧ yX11_needState.cls ≠ "java/lang/invoke/VarHandle" ∧ (parseMethodDescriptor yX11_needState.desc).map (fun d => d.parameters.length) = some 1) := ⟨gt_in 388 (by decide +kernel) (by decide +kernel), gt_in 10 (by decide +kernel) (by decide +kernel), gt_in 389 (by decide +kernel) (by decide +kernel), by decide +kernel⟩
theorem cw_X11_48 : uCS RX11 48 yX11_needState cX11_needState 1 none 1 := ⟨gt_in 387 (by decide +kernel) (by decide +kernel), yf_X11_needState⟩
theorem yf_X2_add : (Cond.instanceMethod yX2_add) ∈ gtbl ∧ (Cond.selects RX2 yX2_add yX2_add) ∈ gtbl ∧ (Cond.initialized RX2) ∈ gtbl ∧ (Cond.code yX2_add cX2_add 2 (some .int)) ∈ gtbl ∧ (yX2_add.cls = RX2 ∧ yX2_add.cls ≠ "java/lang/invoke/MethodHandle" ∧ yX2_add.cls ≠ "java/lang/invoke/VarHandle" ∧ (parseMethodDescriptor yX2_add.desc).map (fun d => d.parameters.length) = some 1) := ⟨gt_in 407 (by decide +kernel) (by decide +kernel), gt_in 408 (by decide +kernel) (by decide +kernel), gt_in 17 (by decide +kernel) (by decide +kernel), gt_in 409 (by decide +kernel) (by decide +kernel), by decide +kernel⟩
theorem cw_X11_52 : uCW RX11 RX2 52 yX2_add cX2_add 2 (some .int) 1 := ⟨gt_in 406 (by decide +kernel) (by decide +kernel), yf_X2_add⟩
theorem yf_X10_total : (Cond.instanceMethod yX10_total) ∈ gtbl ∧ (Cond.selects RX10 yX10_total yX10_total) ∈ gtbl ∧ (Cond.initialized RX10) ∈ gtbl ∧ (Cond.code yX10_total cX10_total 2 (some .int)) ∈ gtbl ∧ (yX10_total.cls = RX10 ∧ yX10_total.cls ≠ "java/lang/invoke/MethodHandle" ∧ yX10_total.cls ≠ "java/lang/invoke/VarHandle" ∧ (parseMethodDescriptor yX10_total.desc).map (fun d => d.parameters.length) = some 1) := ⟨gt_in 651 (by decide +kernel) (by decide +kernel), gt_in 652 (by decide +kernel) (by decide +kernel), gt_in 11 (by decide +kernel) (by decide +kernel), gt_in 653 (by decide +kernel) (by decide +kernel), by decide +kernel⟩
theorem cw_X11_79 : uCW RX11 RX10 79 yX10_total cX10_total 2 (some .int) 1 := ⟨gt_in 650 (by decide +kernel) (by decide +kernel), yf_X10_total⟩
theorem cw_X11_86 : uCW RX11 RX0 86 yX0_has cX0_has 2 (some .boolean) 1 := ⟨gt_in 674 (by decide +kernel) (by decide +kernel), yf_X0_has⟩
theorem yf_X11_needThere : (Cond.static yX11_needThere) ∈ gtbl ∧ (Cond.initialized yX11_needThere.cls) ∈ gtbl ∧ (Cond.code yX11_needThere cX11_needThere 1 none) ∈ gtbl ∧ (yX11_needThere.cls ≠ "java/lang/invoke/MethodHandle" ∧ yX11_needThere.cls ≠ "java/lang/invoke/VarHandle" ∧ (parseMethodDescriptor yX11_needThere.desc).map (fun d => d.parameters.length) = some 1) := ⟨gt_in 676 (by decide +kernel) (by decide +kernel), gt_in 10 (by decide +kernel) (by decide +kernel), gt_in 677 (by decide +kernel) (by decide +kernel), by decide +kernel⟩
theorem cw_X11_92 : uCS RX11 92 yX11_needThere cX11_needThere 1 none 1 := ⟨gt_in 675 (by decide +kernel) (by decide +kernel), yf_X11_needThere⟩
theorem yf_X0_number : (Cond.instanceMethod yX0_number) ∈ gtbl ∧ (Cond.selects RX0 yX0_number yX0_number) ∈ gtbl ∧ (Cond.initialized RX0) ∈ gtbl ∧ (Cond.code yX0_number cX0_number 3 (some .int)) ∈ gtbl ∧ (yX0_number.cls = RX0 ∧ yX0_number.cls ≠ "java/lang/invoke/MethodHandle" ∧ yX0_number.cls ≠ "java/lang/invoke/VarHandle" ∧ (parseMethodDescriptor yX0_number.desc).map (fun d => d.parameters.length) = some 2) := ⟨gt_in 695 (by decide +kernel) (by decide +kernel), gt_in 696 (by decide +kernel) (by decide +kernel), gt_in 12 (by decide +kernel) (by decide +kernel), gt_in 697 (by decide +kernel) (by decide +kernel), by decide +kernel⟩
theorem cw_X11_95 : uCW RX11 RX0 95 yX0_number cX0_number 3 (some .int) 2 := ⟨gt_in 694 (by decide +kernel) (by decide +kernel), yf_X0_number⟩
theorem cw_X11_103 : uCW RX11 RX5 103 yX5_has cX5_has 2 (some .boolean) 1 := ⟨gt_in 706 (by decide +kernel) (by decide +kernel), yf_X5_has⟩
theorem yf_X10_accountNumber : (Cond.instanceMethod yX10_accountNumber) ∈ gtbl ∧ (Cond.selects RX10 yX10_accountNumber yX10_accountNumber) ∈ gtbl ∧ (Cond.initialized RX10) ∈ gtbl ∧ (Cond.code yX10_accountNumber cX10_accountNumber 3 (some .int)) ∈ gtbl ∧ (yX10_accountNumber.cls = RX10 ∧ yX10_accountNumber.cls ≠ "java/lang/invoke/MethodHandle" ∧ yX10_accountNumber.cls ≠ "java/lang/invoke/VarHandle" ∧ (parseMethodDescriptor yX10_accountNumber.desc).map (fun d => d.parameters.length) = some 2) := ⟨gt_in 708 (by decide +kernel) (by decide +kernel), gt_in 709 (by decide +kernel) (by decide +kernel), gt_in 11 (by decide +kernel) (by decide +kernel), gt_in 710 (by decide +kernel) (by decide +kernel), by decide +kernel⟩
theorem cw_X11_106 : uCW RX11 RX10 106 yX10_accountNumber cX10_accountNumber 3 (some .int) 2 := ⟨gt_in 707 (by decide +kernel) (by decide +kernel), yf_X10_accountNumber⟩
theorem cw_X11_113 : uCW RX11 RX3 113 yX3_has cX3_has 2 (some .boolean) 1 := ⟨gt_in 722 (by decide +kernel) (by decide +kernel), yf_X3_has⟩
theorem yf_X10_listAt : (Cond.instanceMethod yX10_listAt) ∈ gtbl ∧ (Cond.selects RX10 yX10_listAt yX10_listAt) ∈ gtbl ∧ (Cond.initialized RX10) ∈ gtbl ∧ (Cond.code yX10_listAt cX10_listAt 2 (some .int)) ∈ gtbl ∧ (yX10_listAt.cls = RX10 ∧ yX10_listAt.cls ≠ "java/lang/invoke/MethodHandle" ∧ yX10_listAt.cls ≠ "java/lang/invoke/VarHandle" ∧ (parseMethodDescriptor yX10_listAt.desc).map (fun d => d.parameters.length) = some 1) := ⟨gt_in 724 (by decide +kernel) (by decide +kernel), gt_in 725 (by decide +kernel) (by decide +kernel), gt_in 11 (by decide +kernel) (by decide +kernel), gt_in 726 (by decide +kernel) (by decide +kernel), by decide +kernel⟩
theorem cw_X11_116 : uCW RX11 RX10 116 yX10_listAt cX10_listAt 2 (some .int) 1 := ⟨gt_in 723 (by decide +kernel) (by decide +kernel), yf_X10_listAt⟩
theorem yf_X3_number : (Cond.instanceMethod yX3_number) ∈ gtbl ∧ (Cond.selects RX3 yX3_number yX3_number) ∈ gtbl ∧ (Cond.initialized RX3) ∈ gtbl ∧ (Cond.code yX3_number cX3_number 3 (some .int)) ∈ gtbl ∧ (yX3_number.cls = RX3 ∧ yX3_number.cls ≠ "java/lang/invoke/MethodHandle" ∧ yX3_number.cls ≠ "java/lang/invoke/VarHandle" ∧ (parseMethodDescriptor yX3_number.desc).map (fun d => d.parameters.length) = some 2) := ⟨gt_in 728 (by decide +kernel) (by decide +kernel), gt_in 729 (by decide +kernel) (by decide +kernel), gt_in 16 (by decide +kernel) (by decide +kernel), gt_in 730 (by decide +kernel) (by decide +kernel), by decide +kernel⟩
theorem cw_X11_119 : uCW RX11 RX3 119 yX3_number cX3_number 3 (some .int) 2 := ⟨gt_in 727 (by decide +kernel) (by decide +kernel), yf_X3_number⟩
theorem yf_X3_hasLogged : (Cond.instanceMethod yX3_hasLogged) ∈ gtbl ∧ (Cond.selects RX3 yX3_hasLogged yX3_hasLogged) ∈ gtbl ∧ (Cond.initialized RX3) ∈ gtbl ∧ (Cond.code yX3_hasLogged cX3_hasLogged 3 (some .boolean)) ∈ gtbl ∧ (yX3_hasLogged.cls = RX3 ∧ yX3_hasLogged.cls ≠ "java/lang/invoke/MethodHandle" ∧ yX3_hasLogged.cls ≠ "java/lang/invoke/VarHandle" ∧ (parseMethodDescriptor yX3_hasLogged.desc).map (fun d => d.parameters.length) = some 2) := ⟨gt_in 739 (by decide +kernel) (by decide +kernel), gt_in 740 (by decide +kernel) (by decide +kernel), gt_in 16 (by decide +kernel) (by decide +kernel), gt_in 741 (by decide +kernel) (by decide +kernel), by decide +kernel⟩
theorem cw_X11_120 : uCW RX11 RX3 120 yX3_hasLogged cX3_hasLogged 3 (some .boolean) 2 := ⟨gt_in 738 (by decide +kernel) (by decide +kernel), yf_X3_hasLogged⟩
theorem cw_X11_124 : uCW RX11 RX3 124 yX3_loggedNumber cX3_loggedNumber 5 (some .int) 3 := ⟨gt_in 742 (by decide +kernel) (by decide +kernel), yf_X3_loggedNumber⟩
theorem cw_X11_132 : uCW RX11 RX6 132 yX6_get cX6_get 2 (some .int) 1 := ⟨gt_in 750 (by decide +kernel) (by decide +kernel), yf_X6_get⟩
theorem cw_X11_165 : uCW RX11 RX3 165 yX3_isUp cX3_isUp 2 (some .boolean) 1 := ⟨gt_in 844 (by decide +kernel) (by decide +kernel), yf_X3_isUp⟩
theorem cw_X11_197 : uCW RX11 RX10 197 yX10_copyFrom cX10_copyFrom 2 none 1 := ⟨gt_in 909 (by decide +kernel) (by decide +kernel), yf_X10_copyFrom⟩
theorem yf_X11_numberIfUp : (Cond.instanceMethod yX11_numberIfUp) ∈ gtbl ∧ (Cond.selects RX11 yX11_numberIfUp yX11_numberIfUp) ∈ gtbl ∧ (Cond.initialized RX11) ∈ gtbl ∧ (Cond.code yX11_numberIfUp cX11_numberIfUp 3 (some .int)) ∈ gtbl ∧ (yX11_numberIfUp.cls = RX11 ∧ yX11_numberIfUp.cls ≠ "java/lang/invoke/MethodHandle" ∧ yX11_numberIfUp.cls ≠ "java/lang/invoke/VarHandle" ∧ (parseMethodDescriptor yX11_numberIfUp.desc).map (fun d => d.parameters.length) = some 2) := ⟨gt_in 927 (by decide +kernel) (by decide +kernel), gt_in 8 (by decide +kernel) (by decide +kernel), gt_in 10 (by decide +kernel) (by decide +kernel), gt_in 928 (by decide +kernel) (by decide +kernel), by decide +kernel⟩
theorem cw_X11_204 : uCW RX11 RX11 204 yX11_numberIfUp cX11_numberIfUp 3 (some .int) 2 := ⟨gt_in 925 (by decide +kernel) (by decide +kernel), yf_X11_numberIfUp⟩
theorem cw_X11_213 : uCW RX11 RX3 213 yX3_faresInLogs cX3_faresInLogs 6 (some .int) 1 := ⟨gt_in 1045 (by decide +kernel) (by decide +kernel), yf_X3_faresInLogs⟩
theorem cw_X11_216 : uCW RX11 RX10 216 yX10_tryUp cX10_tryUp 2 (some .boolean) 1 := ⟨gt_in 929 (by decide +kernel) (by decide +kernel), yf_X10_tryUp⟩
theorem yf_X4_push : (Cond.instanceMethod yX4_push) ∈ gtbl ∧ (Cond.selects RX4 yX4_push yX4_push) ∈ gtbl ∧ (Cond.initialized RX4) ∈ gtbl ∧ (Cond.code yX4_push cX4_push 3 none) ∈ gtbl ∧ (yX4_push.cls = RX4 ∧ yX4_push.cls ≠ "java/lang/invoke/MethodHandle" ∧ yX4_push.cls ≠ "java/lang/invoke/VarHandle" ∧ (parseMethodDescriptor yX4_push.desc).map (fun d => d.parameters.length) = some 1) := ⟨gt_in 764 (by decide +kernel) (by decide +kernel), gt_in 765 (by decide +kernel) (by decide +kernel), gt_in 18 (by decide +kernel) (by decide +kernel), gt_in 766 (by decide +kernel) (by decide +kernel), by decide +kernel⟩
theorem cw_X11_268 : uCW RX11 RX4 268 yX4_push cX4_push 3 none 1 := ⟨gt_in 763 (by decide +kernel) (by decide +kernel), yf_X4_push⟩
theorem cw_X11_271 : uCW RX11 RX5 271 yX5_blockedSet cX5_blockedSet 3 (some .int) 0 := ⟨gt_in 930 (by decide +kernel) (by decide +kernel), yf_X5_blockedSet⟩
def fX11_remember (V : uV) : Option uV :=
  bd (fX4_push V) fun S2 =>
  some S2
set_option maxHeartbeats 4000000 in
set_option maxRecDepth 20000 in
theorem kX11_remember {l : Launch} {G : UG} (hG : uAll G) {V V' : uV}  (h : fX11_remember V = some V') : uMv l G yX11_remember cX11_remember 1 (uR 5 125) [.ref (ga G 18 0)] V V' := by
  refine uMv_of rfl (Nat.le_of_ble_eq_true rfl) (fun p e s m args below meth c ls X hret hl M => ?_)
  have hl : lv_has ls 1 [(0, .ref (ga G 18 0))] := hl
  have hx := X.hx
  have hb := X.hb
  unfold fX11_remember at h
  refine lv_aload_n hx hb dX11_remember_0 rfl (lv_at hl 0 rfl) ?_
  refine gf_X11_29 X M hG.2.1 dX11_remember_1 ?_
  refine lv_aload_n hx hb dX11_remember_4 rfl (lv_at hl 0 rfl) ?_
  refine gf_X11_10 X M hG.2.1 dX11_remember_5 ?_
  obtain ⟨S2, e1, h⟩ := bd_e h
  refine u_cVv X M hl.1 (kX4_push hG e1) cw_X11_268 ⟨by decide, by decide⟩ (rc_X4 X M hG.2.1) rfl rfl (Nat.le_of_ble_eq_true rfl) ⟨Nat.zero_le _, Nat.zero_le _⟩ dX11_remember_8 (fun H locs M => ?_)
  exact u_vret X hret M (Option.some.inj h) dX11_remember_11
def fX11_numberIfUp (V : uV) (a1 : Int32) (a2 : Int32) : Option (Int32 × uV) :=
  lt_ (va_up V 1 (V 0)) fun V1 =>
  bd2 (fX10_tryUp (V1 1) a1) fun x4 S5 =>
  lt_ (va_up V1 1 S5) fun V7 =>
  if a2 = 0 then
    lt_ ((V7 1) 0 5) fun x10 =>
    lt_ ((V7 0) 0 5) fun x12 =>
    some ((x10 - x12), V7)
  else if a2 = 1 then
    lt_ ((V7 1) 0 7) fun x15 =>
    lt_ ((V7 0) 0 7) fun x17 =>
    some ((x15 - x17), V7)
  else if a2 = 2 then
    bd (fX5_blockedSet (V7 1)) fun x21 =>
    some (x21, V7)
  else 
  lt_ ((V7 1) 0 6) fun x23 =>
  lt_ ((V7 0) 0 6) fun x25 =>
  some ((x23 - x25), V7)
set_option maxHeartbeats 4000000 in
set_option maxRecDepth 20000 in
theorem kX11_numberIfUp {l : Launch} {G : UG} (hG : uAll G) {V V' : uV} {a1 : Int32} {a2 : Int32} {r : Int32} (h : fX11_numberIfUp V a1 a2 = some (r, V')) : uMi l G yX11_numberIfUp cX11_numberIfUp 3 .int (uR 5 117) [.ref (ga G 18 0), .int a1, .int a2] V r V' := by
  refine uMi_of rfl (Nat.le_of_ble_eq_true rfl) (fun p e s m args below meth c ls X hret hl M => ?_)
  have hl : lv_has ls 3 [(0, .ref (ga G 18 0)), (1, .int a1), (2, .int a2)] := hl
  have hx := X.hx
  have hb := X.hb
  unfold fX11_numberIfUp at h
  refine lv_aload_n hx hb dX11_numberIfUp_0 rfl (lv_at hl 0 rfl) ?_
  refine gf_X11_16 X M hG.2.1 dX11_numberIfUp_1 ?_
  refine lv_aload_n hx hb dX11_numberIfUp_4 rfl (lv_at hl 0 rfl) ?_
  refine gf_X11_10 X M hG.2.1 dX11_numberIfUp_5 ?_
  obtain ⟨V1, e2, h⟩ := lt_e h
  refine u_cVv X M hl.1 (kX10_copyFromV (hG.1 1 (by decide)) (hG.1 0 (by decide)) (by decide) hG.2.2 e2) cw_X11_197 ⟨by decide, by decide⟩ (rc_X10 X M (hG.1 1 (by decide))) rfl rfl (Nat.le_of_ble_eq_true rfl) ⟨Nat.zero_le _, Nat.zero_le _⟩ dX11_numberIfUp_8 (fun H locs M => ?_)
  refine lv_aload_n hx hb dX11_numberIfUp_11 rfl (lv_at hl 0 rfl) ?_
  refine gf_X11_16 X M hG.2.1 dX11_numberIfUp_12 ?_
  refine lv_iload_n hx hb dX11_numberIfUp_15 rfl (lv_at hl 1 rfl) ?_
  obtain ⟨x4, S5, e3, h⟩ := bd2_e h
  have M := um_in 1 M
  refine u_cVi X M hl.1 (kX10_tryUp (hG.1 1 (by decide)) e3) cw_X11_216 ⟨by decide, by decide⟩ (rc_X10 X M (hG.1 1 (by decide))) rfl rfl (Nat.le_of_ble_eq_true rfl) ⟨Nat.zero_le _, Nat.zero_le _⟩ dX11_numberIfUp_16 (fun H locs M n6 => ?_)
  obtain ⟨V7, e8, h⟩ := lt_e h
  rw [← e8] at M
  refine lv_pop hx hb dX11_numberIfUp_19 rfl ?_
  refine lv_iload_n hx hb dX11_numberIfUp_20 rfl (lv_at hl 2 rfl) ?_
  by_cases c9 : a2 = 0
  · have h := it_t h c9
    refine lv_tableIn (off := 27) (tgt := 48) hx hb dX11_numberIfUp_21 (by rw [c9]; decide) (by rw [c9]; decide) (by rw [c9]; rfl) (by decide) ?_
    refine lv_aload_n hx hb dX11_numberIfUp_48 rfl (lv_at hl 0 rfl) ?_
    refine gf_X11_16 X M hG.2.1 dX11_numberIfUp_49 ?_
    obtain ⟨x10, e11, h⟩ := lt_e h
    refine gf_X11_251 X M (hG.1 1 (by decide)) rfl e11 dX11_numberIfUp_52 ?_
    refine lv_aload_n hx hb dX11_numberIfUp_55 rfl (lv_at hl 0 rfl) ?_
    refine gf_X11_10 X M hG.2.1 dX11_numberIfUp_56 ?_
    obtain ⟨x12, e13, h⟩ := lt_e h
    refine gf_X11_251 X M (hG.1 0 (by decide)) rfl e13 dX11_numberIfUp_59 ?_
    refine lv_isub hx hb dX11_numberIfUp_62 ?_
    exact u_iret X hret M (rt2 h).1 ((rt2 h).2) rfl dX11_numberIfUp_63
  · have h := it_f h c9
    by_cases c14 : a2 = 1
    · have h := it_t h c14
      refine lv_tableIn (off := 43) (tgt := 64) hx hb dX11_numberIfUp_21 (by rw [c14]; decide) (by rw [c14]; decide) (by rw [c14]; rfl) (by decide) ?_
      refine lv_aload_n hx hb dX11_numberIfUp_64 rfl (lv_at hl 0 rfl) ?_
      refine gf_X11_16 X M hG.2.1 dX11_numberIfUp_65 ?_
      obtain ⟨x15, e16, h⟩ := lt_e h
      refine gf_X11_254 X M (hG.1 1 (by decide)) rfl e16 dX11_numberIfUp_68 ?_
      refine lv_aload_n hx hb dX11_numberIfUp_71 rfl (lv_at hl 0 rfl) ?_
      refine gf_X11_10 X M hG.2.1 dX11_numberIfUp_72 ?_
      obtain ⟨x17, e18, h⟩ := lt_e h
      refine gf_X11_254 X M (hG.1 0 (by decide)) rfl e18 dX11_numberIfUp_75 ?_
      refine lv_isub hx hb dX11_numberIfUp_78 ?_
      exact u_iret X hret M (rt2 h).1 ((rt2 h).2) rfl dX11_numberIfUp_79
    · have h := it_f h c14
      by_cases c19 : a2 = 2
      · have h := it_t h c19
        refine lv_tableIn (off := 59) (tgt := 80) hx hb dX11_numberIfUp_21 (by rw [c19]; decide) (by rw [c19]; decide) (by rw [c19]; rfl) (by decide) ?_
        refine lv_aload_n hx hb dX11_numberIfUp_80 rfl (lv_at hl 0 rfl) ?_
        refine gf_X11_16 X M hG.2.1 dX11_numberIfUp_81 ?_
        refine gf_X11_99 X M (hG.1 1 (by decide)) dX11_numberIfUp_84 ?_
        obtain ⟨x21, e20, h⟩ := bd_e h
        refine u_cVi X M hl.1 (kX5_blockedSet (hG.1 1 (by decide)) rfl e20) cw_X11_271 ⟨by decide, by decide⟩ (rc_X5 X M (hG.1 1 (by decide))) rfl rfl (Nat.le_of_ble_eq_true rfl) ⟨Nat.zero_le _, Nat.zero_le _⟩ dX11_numberIfUp_87 (fun H locs M n22 => ?_)
        exact u_iret X hret M (rt2 h).1 ((rt2 h).2) rfl dX11_numberIfUp_90
      · have h := it_f h c19
        have tc9 := lv_neT (a := 0) c9 (by decide)
        have tc14 := lv_neT (a := 1) c14 (by decide)
        have tc19 := lv_neT (a := 2) c19 (by decide)
        refine lv_tableOut (tgt := 91) hx hb dX11_numberIfUp_21 (by omega) (by decide) ?_
        refine lv_aload_n hx hb dX11_numberIfUp_91 rfl (lv_at hl 0 rfl) ?_
        refine gf_X11_16 X M hG.2.1 dX11_numberIfUp_92 ?_
        obtain ⟨x23, e24, h⟩ := lt_e h
        refine gf_X11_274 X M (hG.1 1 (by decide)) rfl e24 dX11_numberIfUp_95 ?_
        refine lv_aload_n hx hb dX11_numberIfUp_98 rfl (lv_at hl 0 rfl) ?_
        refine gf_X11_10 X M hG.2.1 dX11_numberIfUp_99 ?_
        obtain ⟨x25, e26, h⟩ := lt_e h
        refine gf_X11_274 X M (hG.1 0 (by decide)) rfl e26 dX11_numberIfUp_102 ?_
        refine lv_isub hx hb dX11_numberIfUp_105 ?_
        exact u_iret X hret M (rt2 h).1 ((rt2 h).2) rfl dX11_numberIfUp_106
def fX11_bestUp_L6 (n : Nat) (V : uV) (y1 : Int32) (y2 : Int32) (y3 : Int32) : Option (Int32 × uV) :=
  match n with
  | 0 => none
  | n + 1 =>
    if 4 ≤ y3 then
      some (y1, V)
    else
      lt_ (fX3_isUp (V 0) y3) fun x3 =>
      if x3 = 0 then
        bd2 (fX11_numberIfUp V y3 3) fun x9 S10 =>
        if x9 ≤ y2 then
          lt_ (y3 + 1) fun x13 =>
          fX11_bestUp_L6 n S10 y1 y2 x13
        else
          lt_ (y3 + 1) fun x15 =>
          fX11_bestUp_L6 n S10 y3 x9 x15
      else
        lt_ (y3 + 1) fun x6 =>
        fX11_bestUp_L6 n V y1 y2 x6
set_option maxHeartbeats 4000000 in
set_option maxRecDepth 20000 in
theorem lpX11_bestUp_6 {l : Launch} {G : UG} (hG : uAll G) {V' : uV} {r : Int32} {p : Program} {e : Env} {s : State} {m : MethodId} {args : Array Value} {below : List Frame} {meth : Method} {c : Code} (X : UC p s m args meth c cX11_bestUp 5 RX11 G) (hret : meth.sig.returnType = some .int) : ∀ (n : Nat) (V : uV) (y1 : Int32) (y2 : Int32) (y3 : Int32) (H : Heap) (locs : List Loc) (ls : Array Slot), fX11_bestUp_L6  n V y1 y2 y3 = some (r, V') → UM G (V) s H locs → lv_has ls 5 [(0, .ref (ga G 18 0)), (1, .int y1), (2, .int y2), (3, .int y3)] → W p l e (uR 6 139) s m args below meth c H locs 0 0 (MQ below (uQi G .int r V') args s 0 0 (uA G)) (F0 m 6 ls []) := by
  intro n
  have hx := X.hx
  have hb := X.hb
  induction n with
  | zero => intro V y1 y2 y3 H locs ls h M hl; rw [fX11_bestUp_L6] at h; cases h
  | succ n ih =>
    intro V y1 y2 y3 H locs ls h M hl
    rw [fX11_bestUp_L6] at h
    refine lv_iload_n hx hb dX11_bestUp_6 rfl (lv_at hl 3 rfl) ?_
    refine lv_iconst (v := 4) hx hb dX11_bestUp_7 (by decide) ?_
    refine lv_icmp_ge (tgt := 50) hx hb dX11_bestUp_8 (by decide) (fun c1 => ?_) (fun c1 => ?_)
    · have h := it_t h c1
      refine lv_iload_n hx hb dX11_bestUp_50 rfl (lv_at hl 1 rfl) ?_
      exact u_iret X hret M (rt2 h).1 ((rt2 h).2) rfl dX11_bestUp_51
    · have h := it_f h c1
      refine lv_aload_n hx hb dX11_bestUp_11 rfl (lv_at hl 0 rfl) ?_
      refine gf_X11_10 X M hG.2.1 dX11_bestUp_12 ?_
      refine gf_X11_109 X M (hG.1 0 (by decide)) dX11_bestUp_15 ?_
      refine lv_iload_n hx hb dX11_bestUp_18 rfl (lv_at hl 3 rfl) ?_
      obtain ⟨x3, e2, h⟩ := lt_e h
      refine u_cVi X M hl.1 (kX3_isUp (hG.1 0 (by decide)) rfl e2.symm) cw_X11_165 ⟨by decide, by decide⟩ (rc_X3 X M (hG.1 0 (by decide))) rfl rfl (Nat.le_of_ble_eq_true rfl) ⟨Nat.zero_le _, Nat.zero_le _⟩ dX11_bestUp_19 (fun H locs M n4 => ?_)
      refine lv_if_ne (tgt := 44) hx hb dX11_bestUp_22 (by decide) (fun c5 => ?_) (fun c5 => ?_)
      · have h := it_f h c5
        obtain ⟨x6, e7, h⟩ := lt_e h
        refine lv_iinc (v := x6) (lv' := [(3, .int x6), (0, .ref (ga G 18 0)), (1, .int y1), (2, .int y2)]) hx hb dX11_bestUp_44 hl (k := 3) rfl (by rw [e7]; rfl) (by decide) rfl (fun ls hl => ?_)
        refine lv_goto (tgt := 6) hx hb dX11_bestUp_47 (by decide) ?_
        exact ih _ _ _ _ _ _ _ h M (lv_sub hl [1, 2, 3, 0] rfl)
      · have h := it_t h c5
        refine lv_aload_n hx hb dX11_bestUp_25 rfl (lv_at hl 0 rfl) ?_
        refine lv_iload_n hx hb dX11_bestUp_26 rfl (lv_at hl 3 rfl) ?_
        refine lv_iconst (v := 3) hx hb dX11_bestUp_27 (by decide) ?_
        obtain ⟨x9, S10, e8, h⟩ := bd2_e h
        refine u_cVi X M hl.1 (kX11_numberIfUp hG e8) cw_X11_204 ⟨by decide, by decide⟩ (rc_X11 X M hG.2.1) rfl rfl (Nat.le_of_ble_eq_true rfl) ⟨Nat.zero_le _, Nat.zero_le _⟩ dX11_bestUp_28 (fun H locs M n11 => ?_)
        refine lv_istore (lv' := [(4, .int x9), (0, .ref (ga G 18 0)), (1, .int y1), (2, .int y2), (3, .int y3)]) hx hb dX11_bestUp_31 hl (by decide) rfl (fun ls hl => ?_)
        refine lv_iload hx hb dX11_bestUp_33 (lv_at hl 0 rfl) ?_
        refine lv_iload_n hx hb dX11_bestUp_35 rfl (lv_at hl 3 rfl) ?_
        refine lv_icmp_le (tgt := 44) hx hb dX11_bestUp_36 (by decide) (fun c12 => ?_) (fun c12 => ?_)
        · have h := it_t h c12
          obtain ⟨x13, e14, h⟩ := lt_e h
          refine lv_iinc (v := x13) (lv' := [(3, .int x13), (4, .int x9), (0, .ref (ga G 18 0)), (1, .int y1), (2, .int y2)]) hx hb dX11_bestUp_44 hl (k := 4) rfl (by rw [e14]; rfl) (by decide) rfl (fun ls hl => ?_)
          refine lv_goto (tgt := 6) hx hb dX11_bestUp_47 (by decide) ?_
          exact ih _ _ _ _ _ _ _ h M (lv_sub hl [2, 3, 4, 0] rfl)
        · have h := it_f h c12
          refine lv_iload_n hx hb dX11_bestUp_39 rfl (lv_at hl 4 rfl) ?_
          refine lv_istore_n (lv' := [(1, .int y3), (4, .int x9), (0, .ref (ga G 18 0)), (2, .int y2), (3, .int y3)]) hx hb dX11_bestUp_40 rfl hl (by decide) rfl (fun ls hl => ?_)
          refine lv_iload hx hb dX11_bestUp_41 (lv_at hl 1 rfl) ?_
          refine lv_istore_n (lv' := [(2, .int x9), (1, .int y3), (4, .int x9), (0, .ref (ga G 18 0)), (3, .int y3)]) hx hb dX11_bestUp_43 rfl hl (by decide) rfl (fun ls hl => ?_)
          obtain ⟨x15, e16, h⟩ := lt_e h
          refine lv_iinc (v := x15) (lv' := [(3, .int x15), (2, .int x9), (1, .int y3), (4, .int x9), (0, .ref (ga G 18 0))]) hx hb dX11_bestUp_44 hl (k := 4) rfl (by rw [e16]; rfl) (by decide) rfl (fun ls hl => ?_)
          refine lv_goto (tgt := 6) hx hb dX11_bestUp_47 (by decide) ?_
          exact ih _ _ _ _ _ _ _ h M (lv_sub hl [4, 2, 1, 0] rfl)
def fX11_bestUp (V : uV) : Option (Int32 × uV) :=
  fX11_bestUp_L6 3000 V (-1) (-1) 0
set_option maxHeartbeats 4000000 in
set_option maxRecDepth 20000 in
theorem kX11_bestUp {l : Launch} {G : UG} (hG : uAll G) {V V' : uV}  {r : Int32} (h : fX11_bestUp V = some (r, V')) : uMi l G yX11_bestUp cX11_bestUp 5 .int (uR 6 139) [.ref (ga G 18 0)] V r V' := by
  refine uMi_of rfl (Nat.le_of_ble_eq_true rfl) (fun p e s m args below meth c ls X hret hl M => ?_)
  have hl : lv_has ls 5 [(0, .ref (ga G 18 0))] := hl
  have hx := X.hx
  have hb := X.hb
  unfold fX11_bestUp at h
  refine lv_iconst (v := (-1)) hx hb dX11_bestUp_0 (by decide) ?_
  refine lv_istore_n (lv' := [(1, .int (-1)), (0, .ref (ga G 18 0))]) hx hb dX11_bestUp_1 rfl hl (by decide) rfl (fun ls hl => ?_)
  refine lv_iconst (v := (-1)) hx hb dX11_bestUp_2 (by decide) ?_
  refine lv_istore_n (lv' := [(2, .int (-1)), (1, .int (-1)), (0, .ref (ga G 18 0))]) hx hb dX11_bestUp_3 rfl hl (by decide) rfl (fun ls hl => ?_)
  refine lv_iconst (v := 0) hx hb dX11_bestUp_4 (by decide) ?_
  refine lv_istore_n (lv' := [(3, .int 0), (2, .int (-1)), (1, .int (-1)), (0, .ref (ga G 18 0))]) hx hb dX11_bestUp_5 rfl hl (by decide) rfl (fun ls hl => ?_)
  exact lpX11_bestUp_6 hG X hret 3000 _ _ _ _ _ _ _ h M (lv_sub hl [3, 2, 1, 0] rfl)
def fX11_worst_L6 (n : Nat) (V : uV) (y1 : Int32) (y2 : Int32) (y3 : Int32) : Option (Int32 × uV) :=
  match n with
  | 0 => none
  | n + 1 =>
    lt_ ((V 0) 10 0) fun x1 =>
    if x1 ≤ y3 then
      some (y1, V)
    else
      lt_ (fget 8 ((V 0) 12) y3) fun x5 =>
      bd (fX3_faresInLogs (V 0) y3) fun x8 =>
      lt_ ((x5 - x8)) fun x10 =>
      if y1 = (-1) then
        lt_ (y3 + 1) fun x13 =>
        fX11_worst_L6 n V y3 x10 x13
      else
        if y2 ≤ x10 then
          lt_ (y3 + 1) fun x16 =>
          fX11_worst_L6 n V y1 y2 x16
        else
          lt_ (y3 + 1) fun x18 =>
          fX11_worst_L6 n V y3 x10 x18
set_option maxHeartbeats 4000000 in
set_option maxRecDepth 20000 in
theorem lpX11_worst_6 {l : Launch} {G : UG} (hG : uAll G) {V' : uV} {r : Int32} {p : Program} {e : Env} {s : State} {m : MethodId} {args : Array Value} {below : List Frame} {meth : Method} {c : Code} (X : UC p s m args meth c cX11_worst 5 RX11 G) (hret : meth.sig.returnType = some .int) : ∀ (n : Nat) (V : uV) (y1 : Int32) (y2 : Int32) (y3 : Int32) (H : Heap) (locs : List Loc) (ls : Array Slot), fX11_worst_L6  n V y1 y2 y3 = some (r, V') → UM G (V) s H locs → lv_has ls 5 [(0, .ref (ga G 18 0)), (1, .int y1), (2, .int y2), (3, .int y3)] → W p l e (uR 3 69) s m args below meth c H locs 0 0 (MQ below (uQi G .int r V') args s 0 0 (uA G)) (F0 m 6 ls []) := by
  intro n
  have hx := X.hx
  have hb := X.hb
  induction n with
  | zero => intro V y1 y2 y3 H locs ls h M hl; rw [fX11_worst_L6] at h; cases h
  | succ n ih =>
    intro V y1 y2 y3 H locs ls h M hl
    rw [fX11_worst_L6] at h
    refine lv_iload_n hx hb dX11_worst_6 rfl (lv_at hl 3 rfl) ?_
    refine lv_aload_n hx hb dX11_worst_7 rfl (lv_at hl 0 rfl) ?_
    refine gf_X11_10 X M hG.2.1 dX11_worst_8 ?_
    refine gf_X11_99 X M (hG.1 0 (by decide)) dX11_worst_11 ?_
    obtain ⟨x1, e2, h⟩ := lt_e h
    refine gf_X11_207 X M (hG.1 0 (by decide)) rfl e2 dX11_worst_14 ?_
    refine lv_icmp_ge (tgt := 70) hx hb dX11_worst_17 (by decide) (fun c3 => ?_) (fun c3 => ?_)
    · have h := it_t h c3
      refine lv_iload_n hx hb dX11_worst_70 rfl (lv_at hl 1 rfl) ?_
      exact u_iret X hret M (rt2 h).1 ((rt2 h).2) rfl dX11_worst_71
    · have h := it_f h c3
      refine lv_aload_n hx hb dX11_worst_20 rfl (lv_at hl 0 rfl) ?_
      refine gf_X11_10 X M hG.2.1 dX11_worst_21 ?_
      refine gf_X11_99 X M (hG.1 0 (by decide)) dX11_worst_24 ?_
      refine gf_X11_210 X M (hG.1 0 (by decide)) dX11_worst_27 ?_
      refine lv_iload_n hx hb dX11_worst_30 rfl (lv_at hl 3 rfl) ?_
      obtain ⟨x5, e4, h⟩ := lt_e h
      refine u_cVi X M hl.1 (kX6_get (uRw11 (hG.1 0 (by decide))) rfl e4.symm) cw_X11_132 ⟨by decide, by decide⟩ (uR_recv X M (uRw11 (hG.1 0 (by decide)))) rfl rfl (Nat.le_of_ble_eq_true rfl) ⟨Nat.zero_le _, Nat.zero_le _⟩ dX11_worst_31 (fun H locs M n6 => ?_)
      refine lv_aload_n hx hb dX11_worst_34 rfl (lv_at hl 0 rfl) ?_
      refine gf_X11_10 X M hG.2.1 dX11_worst_35 ?_
      refine gf_X11_109 X M (hG.1 0 (by decide)) dX11_worst_38 ?_
      refine lv_iload_n hx hb dX11_worst_41 rfl (lv_at hl 3 rfl) ?_
      obtain ⟨x8, e7, h⟩ := bd_e h
      refine u_cVi X M hl.1 (kX3_faresInLogs (hG.1 0 (by decide)) rfl e7) cw_X11_213 ⟨by decide, by decide⟩ (rc_X3 X M (hG.1 0 (by decide))) rfl rfl (Nat.le_of_ble_eq_true rfl) ⟨Nat.zero_le _, Nat.zero_le _⟩ dX11_worst_42 (fun H locs M n9 => ?_)
      refine lv_isub hx hb dX11_worst_45 ?_
      obtain ⟨x10, e11, h⟩ := lt_e h
      refine u_topi e11 ?_
      refine lv_istore (lv' := [(4, .int x10), (0, .ref (ga G 18 0)), (1, .int y1), (2, .int y2), (3, .int y3)]) hx hb dX11_worst_46 hl (by decide) rfl (fun ls hl => ?_)
      refine lv_iload_n hx hb dX11_worst_48 rfl (lv_at hl 2 rfl) ?_
      refine lv_iconst (v := (-1)) hx hb dX11_worst_49 (by decide) ?_
      refine lv_icmp_eq (tgt := 59) hx hb dX11_worst_50 (by decide) (fun c12 => ?_) (fun c12 => ?_)
      · have h := it_t h c12
        refine lv_iload_n hx hb dX11_worst_59 rfl (lv_at hl 4 rfl) ?_
        refine lv_istore_n (lv' := [(1, .int y3), (4, .int x10), (0, .ref (ga G 18 0)), (2, .int y2), (3, .int y3)]) hx hb dX11_worst_60 rfl hl (by decide) rfl (fun ls hl => ?_)
        refine lv_iload hx hb dX11_worst_61 (lv_at hl 1 rfl) ?_
        refine lv_istore_n (lv' := [(2, .int x10), (1, .int y3), (4, .int x10), (0, .ref (ga G 18 0)), (3, .int y3)]) hx hb dX11_worst_63 rfl hl (by decide) rfl (fun ls hl => ?_)
        obtain ⟨x13, e14, h⟩ := lt_e h
        refine lv_iinc (v := x13) (lv' := [(3, .int x13), (2, .int x10), (1, .int y3), (4, .int x10), (0, .ref (ga G 18 0))]) hx hb dX11_worst_64 hl (k := 4) rfl (by rw [e14]; rfl) (by decide) rfl (fun ls hl => ?_)
        refine lv_goto (tgt := 6) hx hb dX11_worst_67 (by decide) ?_
        exact ih _ _ _ _ _ _ _ h M (lv_sub hl [4, 2, 1, 0] rfl)
      · have h := it_f h c12
        refine lv_iload hx hb dX11_worst_53 (lv_at hl 0 rfl) ?_
        refine lv_iload_n hx hb dX11_worst_55 rfl (lv_at hl 3 rfl) ?_
        refine lv_icmp_ge (tgt := 64) hx hb dX11_worst_56 (by decide) (fun c15 => ?_) (fun c15 => ?_)
        · have h := it_t h c15
          obtain ⟨x16, e17, h⟩ := lt_e h
          refine lv_iinc (v := x16) (lv' := [(3, .int x16), (4, .int x10), (0, .ref (ga G 18 0)), (1, .int y1), (2, .int y2)]) hx hb dX11_worst_64 hl (k := 4) rfl (by rw [e17]; rfl) (by decide) rfl (fun ls hl => ?_)
          refine lv_goto (tgt := 6) hx hb dX11_worst_67 (by decide) ?_
          exact ih _ _ _ _ _ _ _ h M (lv_sub hl [2, 3, 4, 0] rfl)
        · have h := it_f h c15
          refine lv_iload_n hx hb dX11_worst_59 rfl (lv_at hl 4 rfl) ?_
          refine lv_istore_n (lv' := [(1, .int y3), (4, .int x10), (0, .ref (ga G 18 0)), (2, .int y2), (3, .int y3)]) hx hb dX11_worst_60 rfl hl (by decide) rfl (fun ls hl => ?_)
          refine lv_iload hx hb dX11_worst_61 (lv_at hl 1 rfl) ?_
          refine lv_istore_n (lv' := [(2, .int x10), (1, .int y3), (4, .int x10), (0, .ref (ga G 18 0)), (3, .int y3)]) hx hb dX11_worst_63 rfl hl (by decide) rfl (fun ls hl => ?_)
          obtain ⟨x18, e19, h⟩ := lt_e h
          refine lv_iinc (v := x18) (lv' := [(3, .int x18), (2, .int x10), (1, .int y3), (4, .int x10), (0, .ref (ga G 18 0))]) hx hb dX11_worst_64 hl (k := 4) rfl (by rw [e19]; rfl) (by decide) rfl (fun ls hl => ?_)
          refine lv_goto (tgt := 6) hx hb dX11_worst_67 (by decide) ?_
          exact ih _ _ _ _ _ _ _ h M (lv_sub hl [4, 2, 1, 0] rfl)
def fX11_worst (V : uV) : Option (Int32 × uV) :=
  fX11_worst_L6 3000 V (-1) 0 0
set_option maxHeartbeats 4000000 in
set_option maxRecDepth 20000 in
theorem kX11_worst {l : Launch} {G : UG} (hG : uAll G) {V V' : uV}  {r : Int32} (h : fX11_worst V = some (r, V')) : uMi l G yX11_worst cX11_worst 5 .int (uR 3 69) [.ref (ga G 18 0)] V r V' := by
  refine uMi_of rfl (Nat.le_of_ble_eq_true rfl) (fun p e s m args below meth c ls X hret hl M => ?_)
  have hl : lv_has ls 5 [(0, .ref (ga G 18 0))] := hl
  have hx := X.hx
  have hb := X.hb
  unfold fX11_worst at h
  refine lv_iconst (v := (-1)) hx hb dX11_worst_0 (by decide) ?_
  refine lv_istore_n (lv' := [(1, .int (-1)), (0, .ref (ga G 18 0))]) hx hb dX11_worst_1 rfl hl (by decide) rfl (fun ls hl => ?_)
  refine lv_iconst (v := 0) hx hb dX11_worst_2 (by decide) ?_
  refine lv_istore_n (lv' := [(2, .int 0), (1, .int (-1)), (0, .ref (ga G 18 0))]) hx hb dX11_worst_3 rfl hl (by decide) rfl (fun ls hl => ?_)
  refine lv_iconst (v := 0) hx hb dX11_worst_4 (by decide) ?_
  refine lv_istore_n (lv' := [(3, .int 0), (2, .int 0), (1, .int (-1)), (0, .ref (ga G 18 0))]) hx hb dX11_worst_5 rfl hl (by decide) rfl (fun ls hl => ?_)
  exact lpX11_worst_6 hG X hret 3000 _ _ _ _ _ _ _ h M (lv_sub hl [3, 2, 1, 0] rfl)
def fX11_append (V : uV) (a1 : Int32) : Option (Int32 × Int32 × uV) :=
  th_ (decide (0 ≤ a1 ∧ a1 ≤ 255)) (some (1, 0, V)) <|
  lt_ (fX2_length (V 18)) fun x3 =>
  if 120 ≤ x3 then
    th_ (decide (¬ (0 : Int32) = 0)) (some (2, 0, V)) <|
    bd2 (fX2_add (V 18) a1) fun x8 S9 =>
    lt_ (va_up V 18 S9) fun V11 =>
    some (0, x8, V11)
  else
    th_ (decide (¬ (1 : Int32) = 0)) (some (2, 0, V)) <|
    bd2 (fX2_add (V 18) a1) fun x15 S16 =>
    lt_ (va_up V 18 S16) fun V18 =>
    some (0, x15, V18)
set_option maxHeartbeats 4000000 in
set_option maxRecDepth 20000 in
theorem kX11_append {l : Launch} {G : UG} (hG : uAll G) {V V' : uV} {a1 : Int32} {r : Int32} {E : Int32} (hlt : l.stackTraces = false) (h : fX11_append V a1 = some (E, r, V')) : uXi l G yX11_append cX11_append 2 .int (uRx 8 131) [.ref (ga G 18 0), .int a1] V E r V' := by
  refine uXi_of rfl (Nat.le_of_ble_eq_true rfl) (fun p e s m args below meth c ls X hret htb hl M => ?_)
  have hl : lv_has ls 2 [(0, .ref (ga G 18 0)), (1, .int a1)] := hl
  have hx := X.hx
  have hb := X.hb
  unfold fX11_append at h
  refine lv_iload_n hx hb dX11_append_0 rfl (lv_at hl 1 rfl) ?_
  refine lv_iconst (v := 0) hx hb dX11_append_1 (by decide) ?_
  refine lv_sipush (v := 255) hx hb dX11_append_2 (by decide) ?_
  by_cases c1 : 0 ≤ a1 ∧ a1 ≤ 255
  rotate_left
  · have h := th_f h (decide_eq_false c1)
    exact x_outS X M htb hl.1 (by decide) (kX11_needRange_x hlt c1) cw_X11_40 ⟨by decide, by decide⟩ rfl rfl (Nat.le_of_ble_eq_true rfl) dX11_append_5 (rt3 h).1 (rt3 h).2.2
  have h := th_t h (decide_eq_true c1)
  refine u_cSv X M hl.1 (kX11_needRange_ok c1) cw_X11_40 ⟨by decide, by decide⟩ rfl rfl (Nat.le_of_ble_eq_true rfl) ⟨Nat.zero_le _, Nat.zero_le _⟩ dX11_append_5 (fun H locs M => ?_)
  refine lv_aload_n hx hb dX11_append_8 rfl (lv_at hl 0 rfl) ?_
  refine gf_X11_22 X M hG.2.1 dX11_append_9 ?_
  obtain ⟨x3, e2, h⟩ := lt_e h
  refine u_cVi X M hl.1 (kX2_length hG.2.1 rfl e2.symm) cw_X11_44 ⟨by decide, by decide⟩ (rc_X2 X M hG.2.1) rfl rfl (Nat.le_of_ble_eq_true rfl) ⟨Nat.zero_le _, Nat.zero_le _⟩ dX11_append_12 (fun H locs M n4 => ?_)
  refine lv_bipush (v := 120) hx hb dX11_append_15 (by decide) ?_
  refine lv_icmp_ge (tgt := 24) hx hb dX11_append_17 (by decide) (fun c5 => ?_) (fun c5 => ?_)
  · have h := it_t h c5
    refine lv_iconst (v := 0) hx hb dX11_append_24 (by decide) ?_
    by_cases c6 : ¬ (0 : Int32) = 0
    rotate_left
    · have h := th_f h (decide_eq_false c6)
      exact x_outS X M htb hl.1 (by decide) (kX11_needState_x hlt c6) cw_X11_48 ⟨by decide, by decide⟩ rfl rfl (Nat.le_of_ble_eq_true rfl) dX11_append_25 (rt3 h).1 (rt3 h).2.2
    have h := th_t h (decide_eq_true c6)
    refine u_cSv X M hl.1 (kX11_needState_ok c6) cw_X11_48 ⟨by decide, by decide⟩ rfl rfl (Nat.le_of_ble_eq_true rfl) ⟨Nat.zero_le _, Nat.zero_le _⟩ dX11_append_25 (fun H locs M => ?_)
    refine lv_aload_n hx hb dX11_append_28 rfl (lv_at hl 0 rfl) ?_
    refine gf_X11_22 X M hG.2.1 dX11_append_29 ?_
    refine lv_iload_n hx hb dX11_append_32 rfl (lv_at hl 1 rfl) ?_
    obtain ⟨x8, S9, e7, h⟩ := bd2_e h
    have M := um_in 18 M
    refine u_cVi X M hl.1 (kX2_add hG.2.1 e7) cw_X11_52 ⟨by decide, by decide⟩ (rc_X2 X M hG.2.1) rfl rfl (Nat.le_of_ble_eq_true rfl) ⟨Nat.zero_le _, Nat.zero_le _⟩ dX11_append_33 (fun H locs M n10 => ?_)
    obtain ⟨V11, e12, h⟩ := lt_e h
    rw [← e12] at M
    exact x_iret X hret M (rt3 h).1 (rt3 h).2.1 (rt3 h).2.2 rfl dX11_append_36
  · have h := it_f h c5
    refine lv_iconst (v := 1) hx hb dX11_append_20 (by decide) ?_
    refine lv_goto (tgt := 25) hx hb dX11_append_21 (by decide) ?_
    by_cases c13 : ¬ (1 : Int32) = 0
    rotate_left
    · have h := th_f h (decide_eq_false c13)
      exact x_outS X M htb hl.1 (by decide) (kX11_needState_x hlt c13) cw_X11_48 ⟨by decide, by decide⟩ rfl rfl (Nat.le_of_ble_eq_true rfl) dX11_append_25 (rt3 h).1 (rt3 h).2.2
    have h := th_t h (decide_eq_true c13)
    refine u_cSv X M hl.1 (kX11_needState_ok c13) cw_X11_48 ⟨by decide, by decide⟩ rfl rfl (Nat.le_of_ble_eq_true rfl) ⟨Nat.zero_le _, Nat.zero_le _⟩ dX11_append_25 (fun H locs M => ?_)
    refine lv_aload_n hx hb dX11_append_28 rfl (lv_at hl 0 rfl) ?_
    refine gf_X11_22 X M hG.2.1 dX11_append_29 ?_
    refine lv_iload_n hx hb dX11_append_32 rfl (lv_at hl 1 rfl) ?_
    obtain ⟨x15, S16, e14, h⟩ := bd2_e h
    have M := um_in 18 M
    refine u_cVi X M hl.1 (kX2_add hG.2.1 e14) cw_X11_52 ⟨by decide, by decide⟩ (rc_X2 X M hG.2.1) rfl rfl (Nat.le_of_ble_eq_true rfl) ⟨Nat.zero_le _, Nat.zero_le _⟩ dX11_append_33 (fun H locs M n17 => ?_)
    obtain ⟨V18, e19, h⟩ := lt_e h
    rw [← e19] at M
    exact x_iret X hret M (rt3 h).1 (rt3 h).2.1 (rt3 h).2.2 rfl dX11_append_36
def fX11_about (V : uV) (a1 : Int32) : Option (Int32 × Int32 × uV) :=
  th_ (decide (0 ≤ a1 ∧ a1 ≤ 10)) (some (1, 0, V)) <|
  bd (fX10_total (V 0) a1) fun x3 =>
  some (0, x3, V)
set_option maxHeartbeats 4000000 in
set_option maxRecDepth 20000 in
theorem kX11_about {l : Launch} {G : UG} (hG : uAll G) {V V' : uV} {a1 : Int32} {r : Int32} {E : Int32} (hlt : l.stackTraces = false) (h : fX11_about V a1 = some (E, r, V')) : uXi l G yX11_about cX11_about 2 .int (uRx 8 131) [.ref (ga G 18 0), .int a1] V E r V' := by
  refine uXi_of rfl (Nat.le_of_ble_eq_true rfl) (fun p e s m args below meth c ls X hret htb hl M => ?_)
  have hl : lv_has ls 2 [(0, .ref (ga G 18 0)), (1, .int a1)] := hl
  have hx := X.hx
  have hb := X.hb
  unfold fX11_about at h
  refine lv_iload_n hx hb dX11_about_0 rfl (lv_at hl 1 rfl) ?_
  refine lv_iconst (v := 0) hx hb dX11_about_1 (by decide) ?_
  refine lv_bipush (v := 10) hx hb dX11_about_2 (by decide) ?_
  by_cases c1 : 0 ≤ a1 ∧ a1 ≤ 10
  rotate_left
  · have h := th_f h (decide_eq_false c1)
    exact x_outS X M htb hl.1 (by decide) (kX11_needRange_x hlt c1) cw_X11_40 ⟨by decide, by decide⟩ rfl rfl (Nat.le_of_ble_eq_true rfl) dX11_about_4 (rt3 h).1 (rt3 h).2.2
  have h := th_t h (decide_eq_true c1)
  refine u_cSv X M hl.1 (kX11_needRange_ok c1) cw_X11_40 ⟨by decide, by decide⟩ rfl rfl (Nat.le_of_ble_eq_true rfl) ⟨Nat.zero_le _, Nat.zero_le _⟩ dX11_about_4 (fun H locs M => ?_)
  refine lv_aload_n hx hb dX11_about_7 rfl (lv_at hl 0 rfl) ?_
  refine gf_X11_10 X M hG.2.1 dX11_about_8 ?_
  refine lv_iload_n hx hb dX11_about_11 rfl (lv_at hl 1 rfl) ?_
  obtain ⟨x3, e2, h⟩ := bd_e h
  refine u_cVi X M hl.1 (kX10_total (hG.1 0 (by decide)) rfl e2) cw_X11_79 ⟨by decide, by decide⟩ (rc_X10 X M (hG.1 0 (by decide))) rfl rfl (Nat.le_of_ble_eq_true rfl) ⟨Nat.zero_le _, Nat.zero_le _⟩ dX11_about_12 (fun H locs M n4 => ?_)
  exact x_iret X hret M (rt3 h).1 (rt3 h).2.1 (rt3 h).2.2 rfl dX11_about_15
def fX11_card (V : uV) (a1 : Int32) (a2 : Int32) : Option (Int32 × Int32 × uV) :=
  lt_ (fX0_has (V 0) a1) fun x2 =>
  th_ (decide (¬ (x2 : Int32) = 0)) (some (3, 0, V)) <|
  th_ (decide (0 ≤ a2 ∧ a2 ≤ 3)) (some (1, 0, V)) <|
  lt_ (fX0_number (V 0) a1 a2) fun x7 =>
  some (0, x7, V)
set_option maxHeartbeats 4000000 in
set_option maxRecDepth 20000 in
theorem kX11_card {l : Launch} {G : UG} (hG : uAll G) {V V' : uV} {a1 : Int32} {a2 : Int32} {r : Int32} {E : Int32} (hlt : l.stackTraces = false) (h : fX11_card V a1 a2 = some (E, r, V')) : uXi l G yX11_card cX11_card 3 .int (uRx 8 131) [.ref (ga G 18 0), .int a1, .int a2] V E r V' := by
  refine uXi_of rfl (Nat.le_of_ble_eq_true rfl) (fun p e s m args below meth c ls X hret htb hl M => ?_)
  have hl : lv_has ls 3 [(0, .ref (ga G 18 0)), (1, .int a1), (2, .int a2)] := hl
  have hx := X.hx
  have hb := X.hb
  unfold fX11_card at h
  refine lv_aload_n hx hb dX11_card_0 rfl (lv_at hl 0 rfl) ?_
  refine gf_X11_10 X M hG.2.1 dX11_card_1 ?_
  refine gf_X11_82 X M (hG.1 0 (by decide)) dX11_card_4 ?_
  refine lv_iload_n hx hb dX11_card_7 rfl (lv_at hl 1 rfl) ?_
  obtain ⟨x2, e1, h⟩ := lt_e h
  refine u_cVi X M hl.1 (kX0_has (hG.1 0 (by decide)) rfl e1.symm) cw_X11_86 ⟨by decide, by decide⟩ (rc_X0 X M (hG.1 0 (by decide))) rfl rfl (Nat.le_of_ble_eq_true rfl) ⟨Nat.zero_le _, Nat.zero_le _⟩ dX11_card_8 (fun H locs M n3 => ?_)
  by_cases c4 : ¬ (x2 : Int32) = 0
  rotate_left
  · have h := th_f h (decide_eq_false c4)
    exact x_outS X M htb hl.1 (by decide) (kX11_needThere_x hlt c4) cw_X11_92 ⟨by decide, by decide⟩ rfl rfl (Nat.le_of_ble_eq_true rfl) dX11_card_11 (rt3 h).1 (rt3 h).2.2
  have h := th_t h (decide_eq_true c4)
  refine u_cSv X M hl.1 (kX11_needThere_ok c4) cw_X11_92 ⟨by decide, by decide⟩ rfl rfl (Nat.le_of_ble_eq_true rfl) ⟨Nat.zero_le _, Nat.zero_le _⟩ dX11_card_11 (fun H locs M => ?_)
  refine lv_iload_n hx hb dX11_card_14 rfl (lv_at hl 2 rfl) ?_
  refine lv_iconst (v := 0) hx hb dX11_card_15 (by decide) ?_
  refine lv_iconst (v := 3) hx hb dX11_card_16 (by decide) ?_
  by_cases c5 : 0 ≤ a2 ∧ a2 ≤ 3
  rotate_left
  · have h := th_f h (decide_eq_false c5)
    exact x_outS X M htb hl.1 (by decide) (kX11_needRange_x hlt c5) cw_X11_40 ⟨by decide, by decide⟩ rfl rfl (Nat.le_of_ble_eq_true rfl) dX11_card_17 (rt3 h).1 (rt3 h).2.2
  have h := th_t h (decide_eq_true c5)
  refine u_cSv X M hl.1 (kX11_needRange_ok c5) cw_X11_40 ⟨by decide, by decide⟩ rfl rfl (Nat.le_of_ble_eq_true rfl) ⟨Nat.zero_le _, Nat.zero_le _⟩ dX11_card_17 (fun H locs M => ?_)
  refine lv_aload_n hx hb dX11_card_20 rfl (lv_at hl 0 rfl) ?_
  refine gf_X11_10 X M hG.2.1 dX11_card_21 ?_
  refine gf_X11_82 X M (hG.1 0 (by decide)) dX11_card_24 ?_
  refine lv_iload_n hx hb dX11_card_27 rfl (lv_at hl 1 rfl) ?_
  refine lv_iload_n hx hb dX11_card_28 rfl (lv_at hl 2 rfl) ?_
  obtain ⟨x7, e6, h⟩ := lt_e h
  refine u_cVi X M hl.1 (kX0_number (hG.1 0 (by decide)) rfl e6.symm) cw_X11_95 ⟨by decide, by decide⟩ (rc_X0 X M (hG.1 0 (by decide))) rfl rfl (Nat.le_of_ble_eq_true rfl) ⟨Nat.zero_le _, Nat.zero_le _⟩ dX11_card_29 (fun H locs M n8 => ?_)
  exact x_iret X hret M (rt3 h).1 (rt3 h).2.1 (rt3 h).2.2 rfl dX11_card_32
def fX11_account (V : uV) (a1 : Int32) (a2 : Int32) : Option (Int32 × Int32 × uV) :=
  lt_ (fX5_has (V 0) a1) fun x2 =>
  th_ (decide (¬ (x2 : Int32) = 0)) (some (3, 0, V)) <|
  th_ (decide (0 ≤ a2 ∧ a2 ≤ 7)) (some (1, 0, V)) <|
  bd (fX10_accountNumber (V 0) a1 a2) fun x7 =>
  some (0, x7, V)
set_option maxHeartbeats 4000000 in
set_option maxRecDepth 20000 in
theorem kX11_account {l : Launch} {G : UG} (hG : uAll G) {V V' : uV} {a1 : Int32} {a2 : Int32} {r : Int32} {E : Int32} (hlt : l.stackTraces = false) (h : fX11_account V a1 a2 = some (E, r, V')) : uXi l G yX11_account cX11_account 3 .int (uRx 8 131) [.ref (ga G 18 0), .int a1, .int a2] V E r V' := by
  refine uXi_of rfl (Nat.le_of_ble_eq_true rfl) (fun p e s m args below meth c ls X hret htb hl M => ?_)
  have hl : lv_has ls 3 [(0, .ref (ga G 18 0)), (1, .int a1), (2, .int a2)] := hl
  have hx := X.hx
  have hb := X.hb
  unfold fX11_account at h
  refine lv_aload_n hx hb dX11_account_0 rfl (lv_at hl 0 rfl) ?_
  refine gf_X11_10 X M hG.2.1 dX11_account_1 ?_
  refine gf_X11_99 X M (hG.1 0 (by decide)) dX11_account_4 ?_
  refine lv_iload_n hx hb dX11_account_7 rfl (lv_at hl 1 rfl) ?_
  obtain ⟨x2, e1, h⟩ := lt_e h
  refine u_cVi X M hl.1 (kX5_has (hG.1 0 (by decide)) rfl e1.symm) cw_X11_103 ⟨by decide, by decide⟩ (rc_X5 X M (hG.1 0 (by decide))) rfl rfl (Nat.le_of_ble_eq_true rfl) ⟨Nat.zero_le _, Nat.zero_le _⟩ dX11_account_8 (fun H locs M n3 => ?_)
  by_cases c4 : ¬ (x2 : Int32) = 0
  rotate_left
  · have h := th_f h (decide_eq_false c4)
    exact x_outS X M htb hl.1 (by decide) (kX11_needThere_x hlt c4) cw_X11_92 ⟨by decide, by decide⟩ rfl rfl (Nat.le_of_ble_eq_true rfl) dX11_account_11 (rt3 h).1 (rt3 h).2.2
  have h := th_t h (decide_eq_true c4)
  refine u_cSv X M hl.1 (kX11_needThere_ok c4) cw_X11_92 ⟨by decide, by decide⟩ rfl rfl (Nat.le_of_ble_eq_true rfl) ⟨Nat.zero_le _, Nat.zero_le _⟩ dX11_account_11 (fun H locs M => ?_)
  refine lv_iload_n hx hb dX11_account_14 rfl (lv_at hl 2 rfl) ?_
  refine lv_iconst (v := 0) hx hb dX11_account_15 (by decide) ?_
  refine lv_bipush (v := 7) hx hb dX11_account_16 (by decide) ?_
  by_cases c5 : 0 ≤ a2 ∧ a2 ≤ 7
  rotate_left
  · have h := th_f h (decide_eq_false c5)
    exact x_outS X M htb hl.1 (by decide) (kX11_needRange_x hlt c5) cw_X11_40 ⟨by decide, by decide⟩ rfl rfl (Nat.le_of_ble_eq_true rfl) dX11_account_18 (rt3 h).1 (rt3 h).2.2
  have h := th_t h (decide_eq_true c5)
  refine u_cSv X M hl.1 (kX11_needRange_ok c5) cw_X11_40 ⟨by decide, by decide⟩ rfl rfl (Nat.le_of_ble_eq_true rfl) ⟨Nat.zero_le _, Nat.zero_le _⟩ dX11_account_18 (fun H locs M => ?_)
  refine lv_aload_n hx hb dX11_account_21 rfl (lv_at hl 0 rfl) ?_
  refine gf_X11_10 X M hG.2.1 dX11_account_22 ?_
  refine lv_iload_n hx hb dX11_account_25 rfl (lv_at hl 1 rfl) ?_
  refine lv_iload_n hx hb dX11_account_26 rfl (lv_at hl 2 rfl) ?_
  obtain ⟨x7, e6, h⟩ := bd_e h
  refine u_cVi X M hl.1 (kX10_accountNumber (hG.1 0 (by decide)) rfl e6) cw_X11_106 ⟨by decide, by decide⟩ (rc_X10 X M (hG.1 0 (by decide))) rfl rfl (Nat.le_of_ble_eq_true rfl) ⟨Nat.zero_le _, Nat.zero_le _⟩ dX11_account_27 (fun H locs M n8 => ?_)
  exact x_iret X hret M (rt3 h).1 (rt3 h).2.1 (rt3 h).2.2 rfl dX11_account_30
def fX11_gate (V : uV) (a1 : Int32) (a2 : Int32) : Option (Int32 × Int32 × uV) :=
  lt_ (fX3_has (V 0) a1) fun x2 =>
  th_ (decide (¬ (x2 : Int32) = 0)) (some (3, 0, V)) <|
  th_ (decide (0 ≤ a2 ∧ a2 ≤ 4)) (some (1, 0, V)) <|
  if a2 = 4 then
    bd (fX10_listAt (V 0) a1) fun x11 =>
    some (0, x11, V)
  else
    lt_ (fX3_number (V 0) a1 a2) fun x8 =>
    some (0, x8, V)
set_option maxHeartbeats 4000000 in
set_option maxRecDepth 20000 in
theorem kX11_gate {l : Launch} {G : UG} (hG : uAll G) {V V' : uV} {a1 : Int32} {a2 : Int32} {r : Int32} {E : Int32} (hlt : l.stackTraces = false) (h : fX11_gate V a1 a2 = some (E, r, V')) : uXi l G yX11_gate cX11_gate 3 .int (uRx 8 131) [.ref (ga G 18 0), .int a1, .int a2] V E r V' := by
  refine uXi_of rfl (Nat.le_of_ble_eq_true rfl) (fun p e s m args below meth c ls X hret htb hl M => ?_)
  have hl : lv_has ls 3 [(0, .ref (ga G 18 0)), (1, .int a1), (2, .int a2)] := hl
  have hx := X.hx
  have hb := X.hb
  unfold fX11_gate at h
  refine lv_aload_n hx hb dX11_gate_0 rfl (lv_at hl 0 rfl) ?_
  refine gf_X11_10 X M hG.2.1 dX11_gate_1 ?_
  refine gf_X11_109 X M (hG.1 0 (by decide)) dX11_gate_4 ?_
  refine lv_iload_n hx hb dX11_gate_7 rfl (lv_at hl 1 rfl) ?_
  obtain ⟨x2, e1, h⟩ := lt_e h
  refine u_cVi X M hl.1 (kX3_has (hG.1 0 (by decide)) rfl e1.symm) cw_X11_113 ⟨by decide, by decide⟩ (rc_X3 X M (hG.1 0 (by decide))) rfl rfl (Nat.le_of_ble_eq_true rfl) ⟨Nat.zero_le _, Nat.zero_le _⟩ dX11_gate_8 (fun H locs M n3 => ?_)
  by_cases c4 : ¬ (x2 : Int32) = 0
  rotate_left
  · have h := th_f h (decide_eq_false c4)
    exact x_outS X M htb hl.1 (by decide) (kX11_needThere_x hlt c4) cw_X11_92 ⟨by decide, by decide⟩ rfl rfl (Nat.le_of_ble_eq_true rfl) dX11_gate_11 (rt3 h).1 (rt3 h).2.2
  have h := th_t h (decide_eq_true c4)
  refine u_cSv X M hl.1 (kX11_needThere_ok c4) cw_X11_92 ⟨by decide, by decide⟩ rfl rfl (Nat.le_of_ble_eq_true rfl) ⟨Nat.zero_le _, Nat.zero_le _⟩ dX11_gate_11 (fun H locs M => ?_)
  refine lv_iload_n hx hb dX11_gate_14 rfl (lv_at hl 2 rfl) ?_
  refine lv_iconst (v := 0) hx hb dX11_gate_15 (by decide) ?_
  refine lv_iconst (v := 4) hx hb dX11_gate_16 (by decide) ?_
  by_cases c5 : 0 ≤ a2 ∧ a2 ≤ 4
  rotate_left
  · have h := th_f h (decide_eq_false c5)
    exact x_outS X M htb hl.1 (by decide) (kX11_needRange_x hlt c5) cw_X11_40 ⟨by decide, by decide⟩ rfl rfl (Nat.le_of_ble_eq_true rfl) dX11_gate_17 (rt3 h).1 (rt3 h).2.2
  have h := th_t h (decide_eq_true c5)
  refine u_cSv X M hl.1 (kX11_needRange_ok c5) cw_X11_40 ⟨by decide, by decide⟩ rfl rfl (Nat.le_of_ble_eq_true rfl) ⟨Nat.zero_le _, Nat.zero_le _⟩ dX11_gate_17 (fun H locs M => ?_)
  refine lv_iload_n hx hb dX11_gate_20 rfl (lv_at hl 2 rfl) ?_
  refine lv_iconst (v := 4) hx hb dX11_gate_21 (by decide) ?_
  refine lv_icmp_ne (tgt := 36) hx hb dX11_gate_22 (by decide) (fun c6 => ?_) (fun c6 => ?_)
  · have h := it_f h c6
    refine lv_aload_n hx hb dX11_gate_36 rfl (lv_at hl 0 rfl) ?_
    refine gf_X11_10 X M hG.2.1 dX11_gate_37 ?_
    refine gf_X11_109 X M (hG.1 0 (by decide)) dX11_gate_40 ?_
    refine lv_iload_n hx hb dX11_gate_43 rfl (lv_at hl 1 rfl) ?_
    refine lv_iload_n hx hb dX11_gate_44 rfl (lv_at hl 2 rfl) ?_
    obtain ⟨x8, e7, h⟩ := lt_e h
    refine u_cVi X M hl.1 (kX3_number (hG.1 0 (by decide)) rfl e7.symm) cw_X11_119 ⟨by decide, by decide⟩ (rc_X3 X M (hG.1 0 (by decide))) rfl rfl (Nat.le_of_ble_eq_true rfl) ⟨Nat.zero_le _, Nat.zero_le _⟩ dX11_gate_45 (fun H locs M n9 => ?_)
    exact x_iret X hret M (rt3 h).1 (rt3 h).2.1 (rt3 h).2.2 rfl dX11_gate_48
  · have h := it_t h c6
    refine lv_aload_n hx hb dX11_gate_25 rfl (lv_at hl 0 rfl) ?_
    refine gf_X11_10 X M hG.2.1 dX11_gate_26 ?_
    refine lv_iload_n hx hb dX11_gate_29 rfl (lv_at hl 1 rfl) ?_
    obtain ⟨x11, e10, h⟩ := bd_e h
    refine u_cVi X M hl.1 (kX10_listAt (hG.1 0 (by decide)) rfl e10) cw_X11_116 ⟨by decide, by decide⟩ (rc_X10 X M (hG.1 0 (by decide))) rfl rfl (Nat.le_of_ble_eq_true rfl) ⟨Nat.zero_le _, Nat.zero_le _⟩ dX11_gate_30 (fun H locs M n12 => ?_)
    refine lv_goto (tgt := 48) hx hb dX11_gate_33 (by decide) ?_
    exact x_iret X hret M (rt3 h).1 (rt3 h).2.1 (rt3 h).2.2 rfl dX11_gate_48
def fX11_logged (V : uV) (a1 : Int32) (a2 : Int32) (a3 : Int32) : Option (Int32 × Int32 × uV) :=
  lt_ (fX3_has (V 0) a1) fun x2 =>
  if x2 = 0 then
    th_ (decide (¬ (0 : Int32) = 0)) (some (3, 0, V)) <|
    th_ (decide (0 ≤ a3 ∧ a3 ≤ 2)) (some (1, 0, V)) <|
    lt_ (fX3_loggedNumber (V 0) a1 a2 a3) fun x8 =>
    some (0, x8, V)
  else
    lt_ (fX3_hasLogged (V 0) a1 a2) fun x11 =>
    if x11 = 0 then
      th_ (decide (¬ (0 : Int32) = 0)) (some (3, 0, V)) <|
      th_ (decide (0 ≤ a3 ∧ a3 ≤ 2)) (some (1, 0, V)) <|
      lt_ (fX3_loggedNumber (V 0) a1 a2 a3) fun x17 =>
      some (0, x17, V)
    else
      th_ (decide (¬ (1 : Int32) = 0)) (some (3, 0, V)) <|
      th_ (decide (0 ≤ a3 ∧ a3 ≤ 2)) (some (1, 0, V)) <|
      lt_ (fX3_loggedNumber (V 0) a1 a2 a3) fun x22 =>
      some (0, x22, V)
set_option maxHeartbeats 4000000 in
set_option maxRecDepth 20000 in
theorem kX11_logged {l : Launch} {G : UG} (hG : uAll G) {V V' : uV} {a1 : Int32} {a2 : Int32} {a3 : Int32} {r : Int32} {E : Int32} (hlt : l.stackTraces = false) (h : fX11_logged V a1 a2 a3 = some (E, r, V')) : uXi l G yX11_logged cX11_logged 4 .int (uRx 8 131) [.ref (ga G 18 0), .int a1, .int a2, .int a3] V E r V' := by
  refine uXi_of rfl (Nat.le_of_ble_eq_true rfl) (fun p e s m args below meth c ls X hret htb hl M => ?_)
  have hl : lv_has ls 4 [(0, .ref (ga G 18 0)), (1, .int a1), (2, .int a2), (3, .int a3)] := hl
  have hx := X.hx
  have hb := X.hb
  unfold fX11_logged at h
  refine lv_aload_n hx hb dX11_logged_0 rfl (lv_at hl 0 rfl) ?_
  refine gf_X11_10 X M hG.2.1 dX11_logged_1 ?_
  refine gf_X11_109 X M (hG.1 0 (by decide)) dX11_logged_4 ?_
  refine lv_iload_n hx hb dX11_logged_7 rfl (lv_at hl 1 rfl) ?_
  obtain ⟨x2, e1, h⟩ := lt_e h
  refine u_cVi X M hl.1 (kX3_has (hG.1 0 (by decide)) rfl e1.symm) cw_X11_113 ⟨by decide, by decide⟩ (rc_X3 X M (hG.1 0 (by decide))) rfl rfl (Nat.le_of_ble_eq_true rfl) ⟨Nat.zero_le _, Nat.zero_le _⟩ dX11_logged_8 (fun H locs M n3 => ?_)
  refine lv_if_eq (tgt := 33) hx hb dX11_logged_11 (by decide) (fun c4 => ?_) (fun c4 => ?_)
  · have h := it_t h c4
    refine lv_iconst (v := 0) hx hb dX11_logged_33 (by decide) ?_
    by_cases c5 : ¬ (0 : Int32) = 0
    rotate_left
    · have h := th_f h (decide_eq_false c5)
      exact x_outS X M htb hl.1 (by decide) (kX11_needThere_x hlt c5) cw_X11_92 ⟨by decide, by decide⟩ rfl rfl (Nat.le_of_ble_eq_true rfl) dX11_logged_34 (rt3 h).1 (rt3 h).2.2
    have h := th_t h (decide_eq_true c5)
    refine u_cSv X M hl.1 (kX11_needThere_ok c5) cw_X11_92 ⟨by decide, by decide⟩ rfl rfl (Nat.le_of_ble_eq_true rfl) ⟨Nat.zero_le _, Nat.zero_le _⟩ dX11_logged_34 (fun H locs M => ?_)
    refine lv_iload_n hx hb dX11_logged_37 rfl (lv_at hl 3 rfl) ?_
    refine lv_iconst (v := 0) hx hb dX11_logged_38 (by decide) ?_
    refine lv_iconst (v := 2) hx hb dX11_logged_39 (by decide) ?_
    by_cases c6 : 0 ≤ a3 ∧ a3 ≤ 2
    rotate_left
    · have h := th_f h (decide_eq_false c6)
      exact x_outS X M htb hl.1 (by decide) (kX11_needRange_x hlt c6) cw_X11_40 ⟨by decide, by decide⟩ rfl rfl (Nat.le_of_ble_eq_true rfl) dX11_logged_40 (rt3 h).1 (rt3 h).2.2
    have h := th_t h (decide_eq_true c6)
    refine u_cSv X M hl.1 (kX11_needRange_ok c6) cw_X11_40 ⟨by decide, by decide⟩ rfl rfl (Nat.le_of_ble_eq_true rfl) ⟨Nat.zero_le _, Nat.zero_le _⟩ dX11_logged_40 (fun H locs M => ?_)
    refine lv_aload_n hx hb dX11_logged_43 rfl (lv_at hl 0 rfl) ?_
    refine gf_X11_10 X M hG.2.1 dX11_logged_44 ?_
    refine gf_X11_109 X M (hG.1 0 (by decide)) dX11_logged_47 ?_
    refine lv_iload_n hx hb dX11_logged_50 rfl (lv_at hl 1 rfl) ?_
    refine lv_iload_n hx hb dX11_logged_51 rfl (lv_at hl 2 rfl) ?_
    refine lv_iload_n hx hb dX11_logged_52 rfl (lv_at hl 3 rfl) ?_
    obtain ⟨x8, e7, h⟩ := lt_e h
    refine u_cVi X M hl.1 (kX3_loggedNumber (hG.1 0 (by decide)) rfl e7.symm) cw_X11_124 ⟨by decide, by decide⟩ (rc_X3 X M (hG.1 0 (by decide))) rfl rfl (Nat.le_of_ble_eq_true rfl) ⟨Nat.zero_le _, Nat.zero_le _⟩ dX11_logged_53 (fun H locs M n9 => ?_)
    exact x_iret X hret M (rt3 h).1 (rt3 h).2.1 (rt3 h).2.2 rfl dX11_logged_56
  · have h := it_f h c4
    refine lv_aload_n hx hb dX11_logged_14 rfl (lv_at hl 0 rfl) ?_
    refine gf_X11_10 X M hG.2.1 dX11_logged_15 ?_
    refine gf_X11_109 X M (hG.1 0 (by decide)) dX11_logged_18 ?_
    refine lv_iload_n hx hb dX11_logged_21 rfl (lv_at hl 1 rfl) ?_
    refine lv_iload_n hx hb dX11_logged_22 rfl (lv_at hl 2 rfl) ?_
    obtain ⟨x11, e10, h⟩ := lt_e h
    refine u_cVi X M hl.1 (kX3_hasLogged (hG.1 0 (by decide)) rfl e10.symm) cw_X11_120 ⟨by decide, by decide⟩ (rc_X3 X M (hG.1 0 (by decide))) rfl rfl (Nat.le_of_ble_eq_true rfl) ⟨Nat.zero_le _, Nat.zero_le _⟩ dX11_logged_23 (fun H locs M n12 => ?_)
    refine lv_if_eq (tgt := 33) hx hb dX11_logged_26 (by decide) (fun c13 => ?_) (fun c13 => ?_)
    · have h := it_t h c13
      refine lv_iconst (v := 0) hx hb dX11_logged_33 (by decide) ?_
      by_cases c14 : ¬ (0 : Int32) = 0
      rotate_left
      · have h := th_f h (decide_eq_false c14)
        exact x_outS X M htb hl.1 (by decide) (kX11_needThere_x hlt c14) cw_X11_92 ⟨by decide, by decide⟩ rfl rfl (Nat.le_of_ble_eq_true rfl) dX11_logged_34 (rt3 h).1 (rt3 h).2.2
      have h := th_t h (decide_eq_true c14)
      refine u_cSv X M hl.1 (kX11_needThere_ok c14) cw_X11_92 ⟨by decide, by decide⟩ rfl rfl (Nat.le_of_ble_eq_true rfl) ⟨Nat.zero_le _, Nat.zero_le _⟩ dX11_logged_34 (fun H locs M => ?_)
      refine lv_iload_n hx hb dX11_logged_37 rfl (lv_at hl 3 rfl) ?_
      refine lv_iconst (v := 0) hx hb dX11_logged_38 (by decide) ?_
      refine lv_iconst (v := 2) hx hb dX11_logged_39 (by decide) ?_
      by_cases c15 : 0 ≤ a3 ∧ a3 ≤ 2
      rotate_left
      · have h := th_f h (decide_eq_false c15)
        exact x_outS X M htb hl.1 (by decide) (kX11_needRange_x hlt c15) cw_X11_40 ⟨by decide, by decide⟩ rfl rfl (Nat.le_of_ble_eq_true rfl) dX11_logged_40 (rt3 h).1 (rt3 h).2.2
      have h := th_t h (decide_eq_true c15)
      refine u_cSv X M hl.1 (kX11_needRange_ok c15) cw_X11_40 ⟨by decide, by decide⟩ rfl rfl (Nat.le_of_ble_eq_true rfl) ⟨Nat.zero_le _, Nat.zero_le _⟩ dX11_logged_40 (fun H locs M => ?_)
      refine lv_aload_n hx hb dX11_logged_43 rfl (lv_at hl 0 rfl) ?_
      refine gf_X11_10 X M hG.2.1 dX11_logged_44 ?_
      refine gf_X11_109 X M (hG.1 0 (by decide)) dX11_logged_47 ?_
      refine lv_iload_n hx hb dX11_logged_50 rfl (lv_at hl 1 rfl) ?_
      refine lv_iload_n hx hb dX11_logged_51 rfl (lv_at hl 2 rfl) ?_
      refine lv_iload_n hx hb dX11_logged_52 rfl (lv_at hl 3 rfl) ?_
      obtain ⟨x17, e16, h⟩ := lt_e h
      refine u_cVi X M hl.1 (kX3_loggedNumber (hG.1 0 (by decide)) rfl e16.symm) cw_X11_124 ⟨by decide, by decide⟩ (rc_X3 X M (hG.1 0 (by decide))) rfl rfl (Nat.le_of_ble_eq_true rfl) ⟨Nat.zero_le _, Nat.zero_le _⟩ dX11_logged_53 (fun H locs M n18 => ?_)
      exact x_iret X hret M (rt3 h).1 (rt3 h).2.1 (rt3 h).2.2 rfl dX11_logged_56
    · have h := it_f h c13
      refine lv_iconst (v := 1) hx hb dX11_logged_29 (by decide) ?_
      refine lv_goto (tgt := 34) hx hb dX11_logged_30 (by decide) ?_
      by_cases c19 : ¬ (1 : Int32) = 0
      rotate_left
      · have h := th_f h (decide_eq_false c19)
        exact x_outS X M htb hl.1 (by decide) (kX11_needThere_x hlt c19) cw_X11_92 ⟨by decide, by decide⟩ rfl rfl (Nat.le_of_ble_eq_true rfl) dX11_logged_34 (rt3 h).1 (rt3 h).2.2
      have h := th_t h (decide_eq_true c19)
      refine u_cSv X M hl.1 (kX11_needThere_ok c19) cw_X11_92 ⟨by decide, by decide⟩ rfl rfl (Nat.le_of_ble_eq_true rfl) ⟨Nat.zero_le _, Nat.zero_le _⟩ dX11_logged_34 (fun H locs M => ?_)
      refine lv_iload_n hx hb dX11_logged_37 rfl (lv_at hl 3 rfl) ?_
      refine lv_iconst (v := 0) hx hb dX11_logged_38 (by decide) ?_
      refine lv_iconst (v := 2) hx hb dX11_logged_39 (by decide) ?_
      by_cases c20 : 0 ≤ a3 ∧ a3 ≤ 2
      rotate_left
      · have h := th_f h (decide_eq_false c20)
        exact x_outS X M htb hl.1 (by decide) (kX11_needRange_x hlt c20) cw_X11_40 ⟨by decide, by decide⟩ rfl rfl (Nat.le_of_ble_eq_true rfl) dX11_logged_40 (rt3 h).1 (rt3 h).2.2
      have h := th_t h (decide_eq_true c20)
      refine u_cSv X M hl.1 (kX11_needRange_ok c20) cw_X11_40 ⟨by decide, by decide⟩ rfl rfl (Nat.le_of_ble_eq_true rfl) ⟨Nat.zero_le _, Nat.zero_le _⟩ dX11_logged_40 (fun H locs M => ?_)
      refine lv_aload_n hx hb dX11_logged_43 rfl (lv_at hl 0 rfl) ?_
      refine gf_X11_10 X M hG.2.1 dX11_logged_44 ?_
      refine gf_X11_109 X M (hG.1 0 (by decide)) dX11_logged_47 ?_
      refine lv_iload_n hx hb dX11_logged_50 rfl (lv_at hl 1 rfl) ?_
      refine lv_iload_n hx hb dX11_logged_51 rfl (lv_at hl 2 rfl) ?_
      refine lv_iload_n hx hb dX11_logged_52 rfl (lv_at hl 3 rfl) ?_
      obtain ⟨x22, e21, h⟩ := lt_e h
      refine u_cVi X M hl.1 (kX3_loggedNumber (hG.1 0 (by decide)) rfl e21.symm) cw_X11_124 ⟨by decide, by decide⟩ (rc_X3 X M (hG.1 0 (by decide))) rfl rfl (Nat.le_of_ble_eq_true rfl) ⟨Nat.zero_le _, Nat.zero_le _⟩ dX11_logged_53 (fun H locs M n23 => ?_)
      exact x_iret X hret M (rt3 h).1 (rt3 h).2.1 (rt3 h).2.2 rfl dX11_logged_56
def fX11_setting (V : uV) (a1 : Int32) : Option (Int32 × Int32 × uV) :=
  th_ (decide (0 ≤ a1 ∧ a1 ≤ 3)) (some (1, 0, V)) <|
  lt_ (fget 4 ((V 0) 39) a1) fun x3 =>
  some (0, x3, V)
set_option maxHeartbeats 4000000 in
set_option maxRecDepth 20000 in
theorem kX11_setting {l : Launch} {G : UG} (hG : uAll G) {V V' : uV} {a1 : Int32} {r : Int32} {E : Int32} (hlt : l.stackTraces = false) (h : fX11_setting V a1 = some (E, r, V')) : uXi l G yX11_setting cX11_setting 2 .int (uRx 8 131) [.ref (ga G 18 0), .int a1] V E r V' := by
  refine uXi_of rfl (Nat.le_of_ble_eq_true rfl) (fun p e s m args below meth c ls X hret htb hl M => ?_)
  have hl : lv_has ls 2 [(0, .ref (ga G 18 0)), (1, .int a1)] := hl
  have hx := X.hx
  have hb := X.hb
  unfold fX11_setting at h
  refine lv_iload_n hx hb dX11_setting_0 rfl (lv_at hl 1 rfl) ?_
  refine lv_iconst (v := 0) hx hb dX11_setting_1 (by decide) ?_
  refine lv_iconst (v := 3) hx hb dX11_setting_2 (by decide) ?_
  by_cases c1 : 0 ≤ a1 ∧ a1 ≤ 3
  rotate_left
  · have h := th_f h (decide_eq_false c1)
    exact x_outS X M htb hl.1 (by decide) (kX11_needRange_x hlt c1) cw_X11_40 ⟨by decide, by decide⟩ rfl rfl (Nat.le_of_ble_eq_true rfl) dX11_setting_3 (rt3 h).1 (rt3 h).2.2
  have h := th_t h (decide_eq_true c1)
  refine u_cSv X M hl.1 (kX11_needRange_ok c1) cw_X11_40 ⟨by decide, by decide⟩ rfl rfl (Nat.le_of_ble_eq_true rfl) ⟨Nat.zero_le _, Nat.zero_le _⟩ dX11_setting_3 (fun H locs M => ?_)
  refine lv_aload_n hx hb dX11_setting_6 rfl (lv_at hl 0 rfl) ?_
  refine gf_X11_10 X M hG.2.1 dX11_setting_7 ?_
  refine gf_X11_128 X M (hG.1 0 (by decide)) dX11_setting_10 ?_
  refine lv_iload_n hx hb dX11_setting_13 rfl (lv_at hl 1 rfl) ?_
  obtain ⟨x3, e2, h⟩ := lt_e h
  refine u_cVi X M hl.1 (kX6_get (uRw38 (hG.1 0 (by decide))) rfl e2.symm) cw_X11_132 ⟨by decide, by decide⟩ (uR_recv X M (uRw38 (hG.1 0 (by decide)))) rfl rfl (Nat.le_of_ble_eq_true rfl) ⟨Nat.zero_le _, Nat.zero_le _⟩ dX11_setting_14 (fun H locs M n4 => ?_)
  exact x_iret X hret M (rt3 h).1 (rt3 h).2.1 (rt3 h).2.2 rfl dX11_setting_17
