theorem dX12_issue_0 : decode cX12_issue 0 = .ok (.aload_n 0, 1) := by decide +kernel
theorem dX12_issue_1 : decode cX12_issue 1 = .ok (.iload_n 1, 1) := by decide +kernel
theorem dX12_issue_2 : decode cX12_issue 2 = .ok (.i2l, 1) := by decide +kernel
theorem dX12_issue_3 : decode cX12_issue 3 = .ok (.lconst 0, 1) := by decide +kernel
theorem dX12_issue_4 : decode cX12_issue 4 = .ok (.ldc2_w 94, 3) := by decide +kernel
theorem dX12_issue_7 : decode cX12_issue 7 = .ok (.invokestatic 44, 3) := by decide +kernel
theorem dX12_issue_10 : decode cX12_issue 10 = .ok (.ifCond .ne 7, 3) := by decide +kernel
theorem dX12_issue_13 : decode cX12_issue 13 = .ok (.iconst 1, 1) := by decide +kernel
theorem dX12_issue_14 : decode cX12_issue 14 = .ok (.goto 18, 3) := by decide +kernel
theorem dX12_issue_17 : decode cX12_issue 17 = .ok (.aload_n 0, 1) := by decide +kernel
theorem dX12_issue_18 : decode cX12_issue 18 = .ok (.getfield 13, 3) := by decide +kernel
theorem dX12_issue_21 : decode cX12_issue 21 = .ok (.invokestatic 123, 3) := by decide +kernel
theorem dX12_issue_24 : decode cX12_issue 24 = .ok (.ifCond .eq 7, 3) := by decide +kernel
theorem dX12_issue_27 : decode cX12_issue 27 = .ok (.iconst 0, 1) := by decide +kernel
theorem dX12_issue_28 : decode cX12_issue 28 = .ok (.goto 4, 3) := by decide +kernel
theorem dX12_issue_31 : decode cX12_issue 31 = .ok (.iconst 2, 1) := by decide +kernel
theorem dX12_issue_32 : decode cX12_issue 32 = .ok (.invokevirtual 101, 3) := by decide +kernel
theorem dX12_issue_35 : decode cX12_issue 35 = .ok (.ifCond .eq 5, 3) := by decide +kernel
theorem dX12_issue_38 : decode cX12_issue 38 = .ok (.iconst 0, 1) := by decide +kernel
theorem dX12_issue_39 : decode cX12_issue 39 = .ok (.ireturn, 1) := by decide +kernel
theorem dX12_issue_40 : decode cX12_issue 40 = .ok (.aload_n 0, 1) := by decide +kernel
theorem dX12_issue_41 : decode cX12_issue 41 = .ok (.invokevirtual 190, 3) := by decide +kernel
theorem dX12_issue_44 : decode cX12_issue 44 = .ok (.aload_n 0, 1) := by decide +kernel
theorem dX12_issue_45 : decode cX12_issue 45 = .ok (.getfield 13, 3) := by decide +kernel
theorem dX12_issue_48 : decode cX12_issue 48 = .ok (.iload_n 1, 1) := by decide +kernel
theorem dX12_issue_49 : decode cX12_issue 49 = .ok (.invokestatic 127, 3) := by decide +kernel
theorem dX12_issue_52 : decode cX12_issue 52 = .ok (.ireturn, 1) := by decide +kernel
theorem dX12_copy_0 : decode cX12_copy 0 = .ok (.aload_n 0, 1) := by decide +kernel
theorem dX12_copy_1 : decode cX12_copy 1 = .ok (.aload_n 0, 1) := by decide +kernel
theorem dX12_copy_2 : decode cX12_copy 2 = .ok (.getfield 13, 3) := by decide +kernel
theorem dX12_copy_5 : decode cX12_copy 5 = .ok (.iload_n 1, 1) := by decide +kernel
theorem dX12_copy_6 : decode cX12_copy 6 = .ok (.invokestatic 87, 3) := by decide +kernel
theorem dX12_copy_9 : decode cX12_copy 9 = .ok (.ifCond .ne 7, 3) := by decide +kernel
theorem dX12_copy_12 : decode cX12_copy 12 = .ok (.iconst 1, 1) := by decide +kernel
theorem dX12_copy_13 : decode cX12_copy 13 = .ok (.goto 19, 3) := by decide +kernel
theorem dX12_copy_16 : decode cX12_copy 16 = .ok (.aload_n 0, 1) := by decide +kernel
theorem dX12_copy_17 : decode cX12_copy 17 = .ok (.getfield 13, 3) := by decide +kernel
theorem dX12_copy_20 : decode cX12_copy 20 = .ok (.iload_n 1, 1) := by decide +kernel
theorem dX12_copy_21 : decode cX12_copy 21 = .ok (.invokestatic 134, 3) := by decide +kernel
theorem dX12_copy_24 : decode cX12_copy 24 = .ok (.ifCond .eq 7, 3) := by decide +kernel
theorem dX12_copy_27 : decode cX12_copy 27 = .ok (.iconst 0, 1) := by decide +kernel
theorem dX12_copy_28 : decode cX12_copy 28 = .ok (.goto 4, 3) := by decide +kernel
theorem dX12_copy_31 : decode cX12_copy 31 = .ok (.iconst 2, 1) := by decide +kernel
theorem dX12_copy_32 : decode cX12_copy 32 = .ok (.invokevirtual 101, 3) := by decide +kernel
theorem dX12_copy_35 : decode cX12_copy 35 = .ok (.ifCond .eq 5, 3) := by decide +kernel
theorem dX12_copy_38 : decode cX12_copy 38 = .ok (.iconst 0, 1) := by decide +kernel
theorem dX12_copy_39 : decode cX12_copy 39 = .ok (.ireturn, 1) := by decide +kernel
theorem dX12_copy_40 : decode cX12_copy 40 = .ok (.aload_n 0, 1) := by decide +kernel
theorem dX12_copy_41 : decode cX12_copy 41 = .ok (.invokevirtual 190, 3) := by decide +kernel
theorem dX12_copy_44 : decode cX12_copy 44 = .ok (.aload_n 0, 1) := by decide +kernel
theorem dX12_copy_45 : decode cX12_copy 45 = .ok (.getfield 13, 3) := by decide +kernel
theorem dX12_copy_48 : decode cX12_copy 48 = .ok (.iload_n 1, 1) := by decide +kernel
theorem dX12_copy_49 : decode cX12_copy 49 = .ok (.invokestatic 137, 3) := by decide +kernel
theorem dX12_copy_52 : decode cX12_copy 52 = .ok (.ireturn, 1) := by decide +kernel
theorem dX12_ride_0 : decode cX12_ride 0 = .ok (.aload_n 0, 1) := by decide +kernel
theorem dX12_ride_1 : decode cX12_ride 1 = .ok (.aload_n 0, 1) := by decide +kernel
theorem dX12_ride_2 : decode cX12_ride 2 = .ok (.getfield 13, 3) := by decide +kernel
theorem dX12_ride_5 : decode cX12_ride 5 = .ok (.iload_n 1, 1) := by decide +kernel
theorem dX12_ride_6 : decode cX12_ride 6 = .ok (.invokestatic 87, 3) := by decide +kernel
theorem dX12_ride_9 : decode cX12_ride 9 = .ok (.ifCond .eq 14, 3) := by decide +kernel
theorem dX12_ride_12 : decode cX12_ride 12 = .ok (.iload_n 2, 1) := by decide +kernel
theorem dX12_ride_13 : decode cX12_ride 13 = .ok (.invokestatic 183, 3) := by decide +kernel
theorem dX12_ride_16 : decode cX12_ride 16 = .ok (.ifCond .eq 7, 3) := by decide +kernel
theorem dX12_ride_19 : decode cX12_ride 19 = .ok (.iconst 0, 1) := by decide +kernel
theorem dX12_ride_20 : decode cX12_ride 20 = .ok (.goto 4, 3) := by decide +kernel
theorem dX12_ride_23 : decode cX12_ride 23 = .ok (.iconst 1, 1) := by decide +kernel
theorem dX12_ride_24 : decode cX12_ride 24 = .ok (.invokevirtual 101, 3) := by decide +kernel
theorem dX12_ride_27 : decode cX12_ride 27 = .ok (.ifCond .eq 5, 3) := by decide +kernel
theorem dX12_ride_30 : decode cX12_ride 30 = .ok (.iconst 0, 1) := by decide +kernel
theorem dX12_ride_31 : decode cX12_ride 31 = .ok (.ireturn, 1) := by decide +kernel
theorem dX12_ride_32 : decode cX12_ride 32 = .ok (.aload_n 0, 1) := by decide +kernel
theorem dX12_ride_33 : decode cX12_ride 33 = .ok (.invokevirtual 190, 3) := by decide +kernel
theorem dX12_ride_36 : decode cX12_ride 36 = .ok (.aload_n 0, 1) := by decide +kernel
theorem dX12_ride_37 : decode cX12_ride 37 = .ok (.getfield 13, 3) := by decide +kernel
theorem dX12_ride_40 : decode cX12_ride 40 = .ok (.iload_n 1, 1) := by decide +kernel
theorem dX12_ride_41 : decode cX12_ride 41 = .ok (.iload_n 2, 1) := by decide +kernel
theorem dX12_ride_42 : decode cX12_ride 42 = .ok (.invokestatic 140, 3) := by decide +kernel
theorem dX12_ride_45 : decode cX12_ride 45 = .ok (.ireturn, 1) := by decide +kernel
theorem dX12_pay_0 : decode cX12_pay 0 = .ok (.aload_n 0, 1) := by decide +kernel
theorem dX12_pay_1 : decode cX12_pay 1 = .ok (.aload_n 0, 1) := by decide +kernel
theorem dX12_pay_2 : decode cX12_pay 2 = .ok (.getfield 13, 3) := by decide +kernel
theorem dX12_pay_5 : decode cX12_pay 5 = .ok (.iload_n 1, 1) := by decide +kernel
theorem dX12_pay_6 : decode cX12_pay 6 = .ok (.invokestatic 143, 3) := by decide +kernel
theorem dX12_pay_9 : decode cX12_pay 9 = .ok (.ifCond .ne 7, 3) := by decide +kernel
theorem dX12_pay_12 : decode cX12_pay 12 = .ok (.iconst 1, 1) := by decide +kernel
theorem dX12_pay_13 : decode cX12_pay 13 = .ok (.goto 20, 3) := by decide +kernel
theorem dX12_pay_16 : decode cX12_pay 16 = .ok (.iload_n 2, 1) := by decide +kernel
theorem dX12_pay_17 : decode cX12_pay 17 = .ok (.i2l, 1) := by decide +kernel
theorem dX12_pay_18 : decode cX12_pay 18 = .ok (.lconst 1, 1) := by decide +kernel
theorem dX12_pay_19 : decode cX12_pay 19 = .ok (.ldc2_w 94, 3) := by decide +kernel
theorem dX12_pay_22 : decode cX12_pay 22 = .ok (.invokestatic 44, 3) := by decide +kernel
theorem dX12_pay_25 : decode cX12_pay 25 = .ok (.ifCond .eq 7, 3) := by decide +kernel
theorem dX12_pay_28 : decode cX12_pay 28 = .ok (.iconst 0, 1) := by decide +kernel
theorem dX12_pay_29 : decode cX12_pay 29 = .ok (.goto 4, 3) := by decide +kernel
theorem dX12_pay_32 : decode cX12_pay 32 = .ok (.iconst 2, 1) := by decide +kernel
theorem dX12_pay_33 : decode cX12_pay 33 = .ok (.invokevirtual 101, 3) := by decide +kernel
theorem dX12_pay_36 : decode cX12_pay 36 = .ok (.ifCond .eq 5, 3) := by decide +kernel
theorem dX12_pay_39 : decode cX12_pay 39 = .ok (.iconst 0, 1) := by decide +kernel
theorem dX12_pay_40 : decode cX12_pay 40 = .ok (.ireturn, 1) := by decide +kernel
theorem dX12_pay_41 : decode cX12_pay 41 = .ok (.aload_n 0, 1) := by decide +kernel
theorem dX12_pay_42 : decode cX12_pay 42 = .ok (.invokevirtual 190, 3) := by decide +kernel
theorem dX12_pay_45 : decode cX12_pay 45 = .ok (.aload_n 0, 1) := by decide +kernel
theorem dX12_pay_46 : decode cX12_pay 46 = .ok (.getfield 13, 3) := by decide +kernel
theorem dX12_pay_49 : decode cX12_pay 49 = .ok (.iload_n 1, 1) := by decide +kernel
theorem dX12_pay_50 : decode cX12_pay 50 = .ok (.iload_n 2, 1) := by decide +kernel
theorem dX12_pay_51 : decode cX12_pay 51 = .ok (.invokestatic 146, 3) := by decide +kernel
theorem dX12_pay_54 : decode cX12_pay 54 = .ok (.ireturn, 1) := by decide +kernel
theorem dX12_pardon_0 : decode cX12_pardon 0 = .ok (.aload_n 0, 1) := by decide +kernel
theorem dX12_pardon_1 : decode cX12_pardon 1 = .ok (.aload_n 0, 1) := by decide +kernel
theorem dX12_pardon_2 : decode cX12_pardon 2 = .ok (.getfield 13, 3) := by decide +kernel
theorem dX12_pardon_5 : decode cX12_pardon 5 = .ok (.iload_n 1, 1) := by decide +kernel
theorem dX12_pardon_6 : decode cX12_pardon 6 = .ok (.invokestatic 143, 3) := by decide +kernel
theorem dX12_pardon_9 : decode cX12_pardon 9 = .ok (.ifCond .ne 7, 3) := by decide +kernel
theorem dX12_pardon_12 : decode cX12_pardon 12 = .ok (.iconst 1, 1) := by decide +kernel
theorem dX12_pardon_13 : decode cX12_pardon 13 = .ok (.goto 19, 3) := by decide +kernel
theorem dX12_pardon_16 : decode cX12_pardon 16 = .ok (.aload_n 0, 1) := by decide +kernel
theorem dX12_pardon_17 : decode cX12_pardon 17 = .ok (.getfield 13, 3) := by decide +kernel
theorem dX12_pardon_20 : decode cX12_pardon 20 = .ok (.iload_n 1, 1) := by decide +kernel
theorem dX12_pardon_21 : decode cX12_pardon 21 = .ok (.invokestatic 193, 3) := by decide +kernel
theorem dX12_pardon_24 : decode cX12_pardon 24 = .ok (.ifCond .eq 7, 3) := by decide +kernel
theorem dX12_pardon_27 : decode cX12_pardon 27 = .ok (.iconst 0, 1) := by decide +kernel
theorem dX12_pardon_28 : decode cX12_pardon 28 = .ok (.goto 4, 3) := by decide +kernel
theorem dX12_pardon_31 : decode cX12_pardon 31 = .ok (.iconst 2, 1) := by decide +kernel
theorem dX12_pardon_32 : decode cX12_pardon 32 = .ok (.invokevirtual 101, 3) := by decide +kernel
theorem dX12_pardon_35 : decode cX12_pardon 35 = .ok (.ifCond .eq 5, 3) := by decide +kernel
theorem dX12_pardon_38 : decode cX12_pardon 38 = .ok (.iconst 0, 1) := by decide +kernel
theorem dX12_pardon_39 : decode cX12_pardon 39 = .ok (.ireturn, 1) := by decide +kernel
theorem dX12_pardon_40 : decode cX12_pardon 40 = .ok (.aload_n 0, 1) := by decide +kernel
theorem dX12_pardon_41 : decode cX12_pardon 41 = .ok (.invokevirtual 190, 3) := by decide +kernel
theorem dX12_pardon_44 : decode cX12_pardon 44 = .ok (.aload_n 0, 1) := by decide +kernel
theorem dX12_pardon_45 : decode cX12_pardon 45 = .ok (.getfield 13, 3) := by decide +kernel
theorem dX12_pardon_48 : decode cX12_pardon 48 = .ok (.iload_n 1, 1) := by decide +kernel
theorem dX12_pardon_49 : decode cX12_pardon 49 = .ok (.invokestatic 50, 3) := by decide +kernel
theorem dX12_pardon_52 : decode cX12_pardon 52 = .ok (.iconst 2, 1) := by decide +kernel
theorem dX12_pardon_53 : decode cX12_pardon 53 = .ok (.iadd, 1) := by decide +kernel
theorem dX12_pardon_54 : decode cX12_pardon 54 = .ok (.iconst 0, 1) := by decide +kernel
theorem dX12_pardon_55 : decode cX12_pardon 55 = .ok (.iastore, 1) := by decide +kernel
theorem dX12_pardon_56 : decode cX12_pardon 56 = .ok (.aload_n 0, 1) := by decide +kernel
theorem dX12_pardon_57 : decode cX12_pardon 57 = .ok (.getfield 13, 3) := by decide +kernel
theorem dX12_pardon_60 : decode cX12_pardon 60 = .ok (.iload_n 1, 1) := by decide +kernel
theorem dX12_pardon_61 : decode cX12_pardon 61 = .ok (.invokestatic 50, 3) := by decide +kernel
theorem dX12_pardon_64 : decode cX12_pardon 64 = .ok (.iconst 0, 1) := by decide +kernel
theorem dX12_pardon_65 : decode cX12_pardon 65 = .ok (.iadd, 1) := by decide +kernel
theorem dX12_pardon_66 : decode cX12_pardon 66 = .ok (.iaload, 1) := by decide +kernel
theorem dX12_pardon_67 : decode cX12_pardon 67 = .ok (.ireturn, 1) := by decide +kernel
theorem dX12_down_0 : decode cX12_down 0 = .ok (.aload_n 0, 1) := by decide +kernel
theorem dX12_down_1 : decode cX12_down 1 = .ok (.iload_n 1, 1) := by decide +kernel
theorem dX12_down_2 : decode cX12_down 2 = .ok (.invokestatic 183, 3) := by decide +kernel
theorem dX12_down_5 : decode cX12_down 5 = .ok (.ifCond .ne 7, 3) := by decide +kernel
theorem dX12_down_8 : decode cX12_down 8 = .ok (.iconst 1, 1) := by decide +kernel
theorem dX12_down_9 : decode cX12_down 9 = .ok (.goto 19, 3) := by decide +kernel
theorem dX12_down_12 : decode cX12_down 12 = .ok (.aload_n 0, 1) := by decide +kernel
theorem dX12_down_13 : decode cX12_down 13 = .ok (.getfield 13, 3) := by decide +kernel
theorem dX12_down_16 : decode cX12_down 16 = .ok (.iload_n 1, 1) := by decide +kernel
theorem dX12_down_17 : decode cX12_down 17 = .ok (.invokestatic 57, 3) := by decide +kernel
theorem dX12_down_20 : decode cX12_down 20 = .ok (.ifCond .eq 7, 3) := by decide +kernel
theorem dX12_down_23 : decode cX12_down 23 = .ok (.iconst 0, 1) := by decide +kernel
theorem dX12_down_24 : decode cX12_down 24 = .ok (.goto 4, 3) := by decide +kernel
theorem dX12_down_27 : decode cX12_down 27 = .ok (.iconst 2, 1) := by decide +kernel
theorem dX12_down_28 : decode cX12_down 28 = .ok (.invokevirtual 101, 3) := by decide +kernel
theorem dX12_down_31 : decode cX12_down 31 = .ok (.ifCond .eq 5, 3) := by decide +kernel
theorem dX12_down_34 : decode cX12_down 34 = .ok (.iconst 0, 1) := by decide +kernel
theorem dX12_down_35 : decode cX12_down 35 = .ok (.ireturn, 1) := by decide +kernel
theorem dX12_down_36 : decode cX12_down 36 = .ok (.aload_n 0, 1) := by decide +kernel
theorem dX12_down_37 : decode cX12_down 37 = .ok (.invokevirtual 190, 3) := by decide +kernel
theorem dX12_down_40 : decode cX12_down 40 = .ok (.aload_n 0, 1) := by decide +kernel
theorem dX12_down_41 : decode cX12_down 41 = .ok (.getfield 13, 3) := by decide +kernel
theorem dX12_down_44 : decode cX12_down 44 = .ok (.iload_n 1, 1) := by decide +kernel
theorem dX12_down_45 : decode cX12_down 45 = .ok (.invokestatic 116, 3) := by decide +kernel
theorem dX12_down_48 : decode cX12_down 48 = .ok (.ireturn, 1) := by decide +kernel
theorem dX12_up_0 : decode cX12_up 0 = .ok (.aload_n 0, 1) := by decide +kernel
theorem dX12_up_1 : decode cX12_up 1 = .ok (.iload_n 1, 1) := by decide +kernel
theorem dX12_up_2 : decode cX12_up 2 = .ok (.invokestatic 183, 3) := by decide +kernel
theorem dX12_up_5 : decode cX12_up 5 = .ok (.ifCond .ne 7, 3) := by decide +kernel
theorem dX12_up_8 : decode cX12_up 8 = .ok (.iconst 1, 1) := by decide +kernel
theorem dX12_up_9 : decode cX12_up 9 = .ok (.goto 19, 3) := by decide +kernel
theorem dX12_up_12 : decode cX12_up 12 = .ok (.aload_n 0, 1) := by decide +kernel
theorem dX12_up_13 : decode cX12_up 13 = .ok (.getfield 13, 3) := by decide +kernel
theorem dX12_up_16 : decode cX12_up 16 = .ok (.iload_n 1, 1) := by decide +kernel
theorem dX12_up_17 : decode cX12_up 17 = .ok (.invokestatic 57, 3) := by decide +kernel
theorem dX12_up_20 : decode cX12_up 20 = .ok (.ifCond .eq 7, 3) := by decide +kernel
theorem dX12_up_23 : decode cX12_up 23 = .ok (.iconst 2, 1) := by decide +kernel
theorem dX12_up_24 : decode cX12_up 24 = .ok (.goto 4, 3) := by decide +kernel
theorem dX12_up_27 : decode cX12_up 27 = .ok (.iconst 0, 1) := by decide +kernel
theorem dX12_up_28 : decode cX12_up 28 = .ok (.invokevirtual 101, 3) := by decide +kernel
theorem dX12_up_31 : decode cX12_up 31 = .ok (.ifCond .eq 5, 3) := by decide +kernel
theorem dX12_up_34 : decode cX12_up 34 = .ok (.iconst 0, 1) := by decide +kernel
theorem dX12_up_35 : decode cX12_up 35 = .ok (.ireturn, 1) := by decide +kernel
theorem dX12_up_36 : decode cX12_up 36 = .ok (.aload_n 0, 1) := by decide +kernel
theorem dX12_up_37 : decode cX12_up 37 = .ok (.invokevirtual 190, 3) := by decide +kernel
theorem dX12_up_40 : decode cX12_up 40 = .ok (.aload_n 0, 1) := by decide +kernel
theorem dX12_up_41 : decode cX12_up 41 = .ok (.getfield 13, 3) := by decide +kernel
theorem dX12_up_44 : decode cX12_up 44 = .ok (.iload_n 1, 1) := by decide +kernel
theorem dX12_up_45 : decode cX12_up 45 = .ok (.invokestatic 113, 3) := by decide +kernel
theorem dX12_up_48 : decode cX12_up 48 = .ok (.ireturn, 1) := by decide +kernel
theorem dX12_open_0 : decode cX12_open 0 = .ok (.aload_n 0, 1) := by decide +kernel
theorem dX12_open_1 : decode cX12_open 1 = .ok (.iload_n 1, 1) := by decide +kernel
theorem dX12_open_2 : decode cX12_open 2 = .ok (.invokestatic 183, 3) := by decide +kernel
theorem dX12_open_5 : decode cX12_open 5 = .ok (.ifCond .eq 7, 3) := by decide +kernel
theorem dX12_open_8 : decode cX12_open 8 = .ok (.iconst 0, 1) := by decide +kernel
theorem dX12_open_9 : decode cX12_open 9 = .ok (.goto 4, 3) := by decide +kernel
theorem dX12_open_12 : decode cX12_open 12 = .ok (.iconst 1, 1) := by decide +kernel
theorem dX12_open_13 : decode cX12_open 13 = .ok (.invokevirtual 101, 3) := by decide +kernel
theorem dX12_open_16 : decode cX12_open 16 = .ok (.ifCond .eq 5, 3) := by decide +kernel
theorem dX12_open_19 : decode cX12_open 19 = .ok (.iconst 0, 1) := by decide +kernel
theorem dX12_open_20 : decode cX12_open 20 = .ok (.ireturn, 1) := by decide +kernel
theorem dX12_open_21 : decode cX12_open 21 = .ok (.aload_n 0, 1) := by decide +kernel
theorem dX12_open_22 : decode cX12_open 22 = .ok (.invokevirtual 190, 3) := by decide +kernel
theorem dX12_open_25 : decode cX12_open 25 = .ok (.aload_n 0, 1) := by decide +kernel
theorem dX12_open_26 : decode cX12_open 26 = .ok (.getfield 13, 3) := by decide +kernel
theorem dX12_open_29 : decode cX12_open 29 = .ok (.iload_n 1, 1) := by decide +kernel
theorem dX12_open_30 : decode cX12_open 30 = .ok (.invokestatic 153, 3) := by decide +kernel
theorem dX12_open_33 : decode cX12_open 33 = .ok (.ireturn, 1) := by decide +kernel
theorem dX12_fare_0 : decode cX12_fare 0 = .ok (.aload_n 0, 1) := by decide +kernel
theorem dX12_fare_1 : decode cX12_fare 1 = .ok (.iload_n 1, 1) := by decide +kernel
theorem dX12_fare_2 : decode cX12_fare 2 = .ok (.invokestatic 183, 3) := by decide +kernel
theorem dX12_fare_5 : decode cX12_fare 5 = .ok (.ifCond .ne 7, 3) := by decide +kernel
theorem dX12_fare_8 : decode cX12_fare 8 = .ok (.iconst 1, 1) := by decide +kernel
theorem dX12_fare_9 : decode cX12_fare 9 = .ok (.goto 20, 3) := by decide +kernel
theorem dX12_fare_12 : decode cX12_fare 12 = .ok (.iload_n 2, 1) := by decide +kernel
theorem dX12_fare_13 : decode cX12_fare 13 = .ok (.i2l, 1) := by decide +kernel
theorem dX12_fare_14 : decode cX12_fare 14 = .ok (.lconst 1, 1) := by decide +kernel
theorem dX12_fare_15 : decode cX12_fare 15 = .ok (.ldc2_w 108, 3) := by decide +kernel
theorem dX12_fare_18 : decode cX12_fare 18 = .ok (.invokestatic 44, 3) := by decide +kernel
theorem dX12_fare_21 : decode cX12_fare 21 = .ok (.ifCond .eq 7, 3) := by decide +kernel
theorem dX12_fare_24 : decode cX12_fare 24 = .ok (.iconst 0, 1) := by decide +kernel
theorem dX12_fare_25 : decode cX12_fare 25 = .ok (.goto 4, 3) := by decide +kernel
theorem dX12_fare_28 : decode cX12_fare 28 = .ok (.iconst 2, 1) := by decide +kernel
theorem dX12_fare_29 : decode cX12_fare 29 = .ok (.invokevirtual 101, 3) := by decide +kernel
theorem dX12_fare_32 : decode cX12_fare 32 = .ok (.ifCond .eq 5, 3) := by decide +kernel
theorem dX12_fare_35 : decode cX12_fare 35 = .ok (.iconst 0, 1) := by decide +kernel
theorem dX12_fare_36 : decode cX12_fare 36 = .ok (.ireturn, 1) := by decide +kernel
theorem dX12_fare_37 : decode cX12_fare 37 = .ok (.aload_n 0, 1) := by decide +kernel
theorem dX12_fare_38 : decode cX12_fare 38 = .ok (.invokevirtual 190, 3) := by decide +kernel
theorem dX12_fare_41 : decode cX12_fare 41 = .ok (.aload_n 0, 1) := by decide +kernel
theorem dX12_fare_42 : decode cX12_fare 42 = .ok (.getfield 13, 3) := by decide +kernel
theorem dX12_fare_45 : decode cX12_fare 45 = .ok (.iload_n 1, 1) := by decide +kernel
theorem dX12_fare_46 : decode cX12_fare 46 = .ok (.invokestatic 40, 3) := by decide +kernel
theorem dX12_fare_49 : decode cX12_fare 49 = .ok (.iconst 0, 1) := by decide +kernel
theorem dX12_fare_50 : decode cX12_fare 50 = .ok (.iadd, 1) := by decide +kernel
theorem dX12_fare_51 : decode cX12_fare 51 = .ok (.iaload, 1) := by decide +kernel
theorem dX12_fare_52 : decode cX12_fare 52 = .ok (.istore_n 3, 1) := by decide +kernel
theorem dX12_fare_53 : decode cX12_fare 53 = .ok (.aload_n 0, 1) := by decide +kernel
theorem dX12_fare_54 : decode cX12_fare 54 = .ok (.getfield 13, 3) := by decide +kernel
theorem dX12_fare_57 : decode cX12_fare 57 = .ok (.iload_n 1, 1) := by decide +kernel
theorem dX12_fare_58 : decode cX12_fare 58 = .ok (.invokestatic 40, 3) := by decide +kernel
theorem dX12_fare_61 : decode cX12_fare 61 = .ok (.iconst 0, 1) := by decide +kernel
theorem dX12_fare_62 : decode cX12_fare 62 = .ok (.iadd, 1) := by decide +kernel
theorem dX12_fare_63 : decode cX12_fare 63 = .ok (.iload_n 2, 1) := by decide +kernel
theorem dX12_fare_64 : decode cX12_fare 64 = .ok (.iastore, 1) := by decide +kernel
theorem dX12_fare_65 : decode cX12_fare 65 = .ok (.iload_n 3, 1) := by decide +kernel
theorem dX12_fare_66 : decode cX12_fare 66 = .ok (.ireturn, 1) := by decide +kernel
theorem dX12_run_0 : decode cX12_run 0 = .ok (.aload_n 0, 1) := by decide +kernel
theorem dX12_run_1 : decode cX12_run 1 = .ok (.iload_n 1, 1) := by decide +kernel
theorem dX12_run_2 : decode cX12_run 2 = .ok (.i2l, 1) := by decide +kernel
theorem dX12_run_3 : decode cX12_run 3 = .ok (.lconst 1, 1) := by decide +kernel
theorem dX12_run_4 : decode cX12_run 4 = .ok (.ldc2_w 196, 3) := by decide +kernel
theorem dX12_run_7 : decode cX12_run 7 = .ok (.invokestatic 44, 3) := by decide +kernel
theorem dX12_run_10 : decode cX12_run 10 = .ok (.ifCond .eq 7, 3) := by decide +kernel
theorem dX12_run_13 : decode cX12_run 13 = .ok (.iconst 0, 1) := by decide +kernel
theorem dX12_run_14 : decode cX12_run 14 = .ok (.goto 4, 3) := by decide +kernel
theorem dX12_run_17 : decode cX12_run 17 = .ok (.iconst 1, 1) := by decide +kernel
theorem dX12_run_18 : decode cX12_run 18 = .ok (.invokevirtual 101, 3) := by decide +kernel
theorem dX12_run_21 : decode cX12_run 21 = .ok (.ifCond .eq 5, 3) := by decide +kernel
theorem dX12_run_24 : decode cX12_run 24 = .ok (.iconst 0, 1) := by decide +kernel
theorem dX12_run_25 : decode cX12_run 25 = .ok (.ireturn, 1) := by decide +kernel
theorem dX12_run_26 : decode cX12_run 26 = .ok (.aload_n 0, 1) := by decide +kernel
theorem dX12_run_27 : decode cX12_run 27 = .ok (.invokevirtual 190, 3) := by decide +kernel
theorem dX12_run_30 : decode cX12_run 30 = .ok (.aload_n 0, 1) := by decide +kernel
theorem dX12_run_31 : decode cX12_run 31 = .ok (.getfield 13, 3) := by decide +kernel
theorem dX12_run_34 : decode cX12_run 34 = .ok (.iload_n 1, 1) := by decide +kernel
theorem dX12_run_35 : decode cX12_run 35 = .ok (.invokestatic 156, 3) := by decide +kernel
theorem dX12_run_38 : decode cX12_run 38 = .ok (.ireturn, 1) := by decide +kernel
theorem dX12_set_0 : decode cX12_set 0 = .ok (.aload_n 0, 1) := by decide +kernel
theorem dX12_set_1 : decode cX12_set 1 = .ok (.iload_n 1, 1) := by decide +kernel
theorem dX12_set_2 : decode cX12_set 2 = .ok (.iload_n 2, 1) := by decide +kernel
theorem dX12_set_3 : decode cX12_set 3 = .ok (.invokestatic 198, 3) := by decide +kernel
theorem dX12_set_6 : decode cX12_set 6 = .ok (.ifCond .eq 7, 3) := by decide +kernel
theorem dX12_set_9 : decode cX12_set 9 = .ok (.iconst 0, 1) := by decide +kernel
theorem dX12_set_10 : decode cX12_set 10 = .ok (.goto 4, 3) := by decide +kernel
theorem dX12_set_13 : decode cX12_set 13 = .ok (.iconst 1, 1) := by decide +kernel
theorem dX12_set_14 : decode cX12_set 14 = .ok (.invokevirtual 101, 3) := by decide +kernel
theorem dX12_set_17 : decode cX12_set 17 = .ok (.ifCond .eq 5, 3) := by decide +kernel
theorem dX12_set_20 : decode cX12_set 20 = .ok (.iconst 0, 1) := by decide +kernel
theorem dX12_set_21 : decode cX12_set 21 = .ok (.ireturn, 1) := by decide +kernel
theorem dX12_set_22 : decode cX12_set 22 = .ok (.aload_n 0, 1) := by decide +kernel
theorem dX12_set_23 : decode cX12_set 23 = .ok (.invokevirtual 190, 3) := by decide +kernel
theorem dX12_set_26 : decode cX12_set 26 = .ok (.aload_n 0, 1) := by decide +kernel
theorem dX12_set_27 : decode cX12_set 27 = .ok (.getfield 13, 3) := by decide +kernel
theorem dX12_set_30 : decode cX12_set 30 = .ok (.bipush 8, 2) := by decide +kernel
theorem dX12_set_32 : decode cX12_set 32 = .ok (.iload_n 1, 1) := by decide +kernel
theorem dX12_set_33 : decode cX12_set 33 = .ok (.iadd, 1) := by decide +kernel
theorem dX12_set_34 : decode cX12_set 34 = .ok (.iaload, 1) := by decide +kernel
theorem dX12_set_35 : decode cX12_set 35 = .ok (.istore_n 3, 1) := by decide +kernel
theorem dX12_set_36 : decode cX12_set 36 = .ok (.aload_n 0, 1) := by decide +kernel
theorem dX12_set_37 : decode cX12_set 37 = .ok (.getfield 13, 3) := by decide +kernel
theorem dX12_set_40 : decode cX12_set 40 = .ok (.bipush 8, 2) := by decide +kernel
theorem dX12_set_42 : decode cX12_set 42 = .ok (.iload_n 1, 1) := by decide +kernel
theorem dX12_set_43 : decode cX12_set 43 = .ok (.iadd, 1) := by decide +kernel
theorem dX12_set_44 : decode cX12_set 44 = .ok (.iload_n 2, 1) := by decide +kernel
theorem dX12_set_45 : decode cX12_set 45 = .ok (.iastore, 1) := by decide +kernel
theorem dX12_set_46 : decode cX12_set 46 = .ok (.iload_n 3, 1) := by decide +kernel
theorem dX12_set_47 : decode cX12_set 47 = .ok (.ireturn, 1) := by decide +kernel
theorem dX12_undo_0 : decode cX12_undo 0 = .ok (.aload_n 0, 1) := by decide +kernel
theorem dX12_undo_1 : decode cX12_undo 1 = .ok (.aload_n 0, 1) := by decide +kernel
theorem dX12_undo_2 : decode cX12_undo 2 = .ok (.getfield 169, 3) := by decide +kernel
theorem dX12_undo_5 : decode cX12_undo 5 = .ok (.ifCond .ne 7, 3) := by decide +kernel
theorem dX12_undo_8 : decode cX12_undo 8 = .ok (.iconst 1, 1) := by decide +kernel
theorem dX12_undo_9 : decode cX12_undo 9 = .ok (.goto 4, 3) := by decide +kernel
theorem dX12_undo_12 : decode cX12_undo 12 = .ok (.iconst 0, 1) := by decide +kernel
theorem dX12_undo_13 : decode cX12_undo 13 = .ok (.invokevirtual 101, 3) := by decide +kernel
theorem dX12_undo_16 : decode cX12_undo 16 = .ok (.ifCond .eq 5, 3) := by decide +kernel
theorem dX12_undo_19 : decode cX12_undo 19 = .ok (.iconst 0, 1) := by decide +kernel
theorem dX12_undo_20 : decode cX12_undo 20 = .ok (.ireturn, 1) := by decide +kernel
theorem dX12_undo_21 : decode cX12_undo 21 = .ok (.aload_n 0, 1) := by decide +kernel
theorem dX12_undo_22 : decode cX12_undo 22 = .ok (.dup, 1) := by decide +kernel
theorem dX12_undo_23 : decode cX12_undo 23 = .ok (.getfield 169, 3) := by decide +kernel
theorem dX12_undo_26 : decode cX12_undo 26 = .ok (.iconst 1, 1) := by decide +kernel
theorem dX12_undo_27 : decode cX12_undo 27 = .ok (.isub, 1) := by decide +kernel
theorem dX12_undo_28 : decode cX12_undo 28 = .ok (.putfield 169, 3) := by decide +kernel
theorem dX12_undo_31 : decode cX12_undo 31 = .ok (.aload_n 0, 1) := by decide +kernel
theorem dX12_undo_32 : decode cX12_undo 32 = .ok (.getfield 22, 3) := by decide +kernel
theorem dX12_undo_35 : decode cX12_undo 35 = .ok (.sipush 1272, 3) := by decide +kernel
theorem dX12_undo_38 : decode cX12_undo 38 = .ok (.aload_n 0, 1) := by decide +kernel
theorem dX12_undo_39 : decode cX12_undo 39 = .ok (.getfield 169, 3) := by decide +kernel
theorem dX12_undo_42 : decode cX12_undo 42 = .ok (.imul, 1) := by decide +kernel
theorem dX12_undo_43 : decode cX12_undo 43 = .ok (.aload_n 0, 1) := by decide +kernel
theorem dX12_undo_44 : decode cX12_undo 44 = .ok (.getfield 13, 3) := by decide +kernel
theorem dX12_undo_47 : decode cX12_undo 47 = .ok (.iconst 0, 1) := by decide +kernel
theorem dX12_undo_48 : decode cX12_undo 48 = .ok (.invokestatic 165, 3) := by decide +kernel
theorem dX12_undo_51 : decode cX12_undo 51 = .ok (.aload_n 0, 1) := by decide +kernel
theorem dX12_undo_52 : decode cX12_undo 52 = .ok (.getfield 169, 3) := by decide +kernel
theorem dX12_undo_55 : decode cX12_undo 55 = .ok (.ireturn, 1) := by decide +kernel
theorem dX12_would_0 : decode cX12_would 0 = .ok (.aload_n 0, 1) := by decide +kernel
theorem dX12_would_1 : decode cX12_would 1 = .ok (.aload_n 0, 1) := by decide +kernel
theorem dX12_would_2 : decode cX12_would 2 = .ok (.getfield 13, 3) := by decide +kernel
theorem dX12_would_5 : decode cX12_would 5 = .ok (.iload_n 1, 1) := by decide +kernel
theorem dX12_would_6 : decode cX12_would 6 = .ok (.invokestatic 87, 3) := by decide +kernel
theorem dX12_would_9 : decode cX12_would 9 = .ok (.ifCond .eq 14, 3) := by decide +kernel
theorem dX12_would_12 : decode cX12_would 12 = .ok (.iload_n 2, 1) := by decide +kernel
theorem dX12_would_13 : decode cX12_would 13 = .ok (.invokestatic 183, 3) := by decide +kernel
theorem dX12_would_16 : decode cX12_would 16 = .ok (.ifCond .eq 7, 3) := by decide +kernel
theorem dX12_would_19 : decode cX12_would 19 = .ok (.iconst 0, 1) := by decide +kernel
theorem dX12_would_20 : decode cX12_would 20 = .ok (.goto 4, 3) := by decide +kernel
theorem dX12_would_23 : decode cX12_would 23 = .ok (.iconst 1, 1) := by decide +kernel
theorem dX12_would_24 : decode cX12_would 24 = .ok (.invokevirtual 101, 3) := by decide +kernel
theorem dX12_would_27 : decode cX12_would 27 = .ok (.ifCond .eq 5, 3) := by decide +kernel
theorem dX12_would_30 : decode cX12_would 30 = .ok (.iconst 0, 1) := by decide +kernel
theorem dX12_would_31 : decode cX12_would 31 = .ok (.ireturn, 1) := by decide +kernel
theorem dX12_would_32 : decode cX12_would 32 = .ok (.aload_n 0, 1) := by decide +kernel
theorem dX12_would_33 : decode cX12_would 33 = .ok (.getfield 13, 3) := by decide +kernel
theorem dX12_would_36 : decode cX12_would 36 = .ok (.iconst 0, 1) := by decide +kernel
theorem dX12_would_37 : decode cX12_would 37 = .ok (.aload_n 0, 1) := by decide +kernel
theorem dX12_would_38 : decode cX12_would 38 = .ok (.getfield 16, 3) := by decide +kernel
theorem dX12_would_41 : decode cX12_would 41 = .ok (.iconst 0, 1) := by decide +kernel
theorem dX12_would_42 : decode cX12_would 42 = .ok (.invokestatic 165, 3) := by decide +kernel
theorem dX12_would_45 : decode cX12_would 45 = .ok (.aload_n 0, 1) := by decide +kernel
theorem dX12_would_46 : decode cX12_would 46 = .ok (.getfield 16, 3) := by decide +kernel
theorem dX12_would_49 : decode cX12_would 49 = .ok (.iload_n 1, 1) := by decide +kernel
theorem dX12_would_50 : decode cX12_would 50 = .ok (.iload_n 2, 1) := by decide +kernel
theorem dX12_would_51 : decode cX12_would 51 = .ok (.invokestatic 140, 3) := by decide +kernel
theorem dX12_would_54 : decode cX12_would 54 = .ok (.ireturn, 1) := by decide +kernel
theorem dX12_rides_0 : decode cX12_rides 0 = .ok (.aload_n 0, 1) := by decide +kernel
theorem dX12_rides_1 : decode cX12_rides 1 = .ok (.aload_n 0, 1) := by decide +kernel
theorem dX12_rides_2 : decode cX12_rides 2 = .ok (.getfield 13, 3) := by decide +kernel
theorem dX12_rides_5 : decode cX12_rides 5 = .ok (.iload_n 1, 1) := by decide +kernel
theorem dX12_rides_6 : decode cX12_rides 6 = .ok (.invokestatic 87, 3) := by decide +kernel
theorem dX12_rides_9 : decode cX12_rides 9 = .ok (.ifCond .eq 14, 3) := by decide +kernel
theorem dX12_rides_12 : decode cX12_rides 12 = .ok (.iload_n 2, 1) := by decide +kernel
theorem dX12_rides_13 : decode cX12_rides 13 = .ok (.invokestatic 183, 3) := by decide +kernel
theorem dX12_rides_16 : decode cX12_rides 16 = .ok (.ifCond .eq 7, 3) := by decide +kernel
theorem dX12_rides_19 : decode cX12_rides 19 = .ok (.iconst 0, 1) := by decide +kernel
theorem dX12_rides_20 : decode cX12_rides 20 = .ok (.goto 4, 3) := by decide +kernel
theorem dX12_rides_23 : decode cX12_rides 23 = .ok (.iconst 1, 1) := by decide +kernel
theorem dX12_rides_24 : decode cX12_rides 24 = .ok (.invokevirtual 101, 3) := by decide +kernel
theorem dX12_rides_27 : decode cX12_rides 27 = .ok (.ifCond .eq 5, 3) := by decide +kernel
theorem dX12_rides_30 : decode cX12_rides 30 = .ok (.iconst 0, 1) := by decide +kernel
theorem dX12_rides_31 : decode cX12_rides 31 = .ok (.ireturn, 1) := by decide +kernel
theorem dX12_rides_32 : decode cX12_rides 32 = .ok (.aload_n 0, 1) := by decide +kernel
theorem dX12_rides_33 : decode cX12_rides 33 = .ok (.getfield 13, 3) := by decide +kernel
theorem dX12_rides_36 : decode cX12_rides 36 = .ok (.iconst 0, 1) := by decide +kernel
theorem dX12_rides_37 : decode cX12_rides 37 = .ok (.aload_n 0, 1) := by decide +kernel
theorem dX12_rides_38 : decode cX12_rides 38 = .ok (.getfield 16, 3) := by decide +kernel
theorem dX12_rides_41 : decode cX12_rides 41 = .ok (.iconst 0, 1) := by decide +kernel
theorem dX12_rides_42 : decode cX12_rides 42 = .ok (.invokestatic 165, 3) := by decide +kernel
theorem dX12_rides_45 : decode cX12_rides 45 = .ok (.iconst 0, 1) := by decide +kernel
theorem dX12_rides_46 : decode cX12_rides 46 = .ok (.istore_n 3, 1) := by decide +kernel
theorem dX12_rides_47 : decode cX12_rides 47 = .ok (.iload_n 3, 1) := by decide +kernel
theorem dX12_rides_48 : decode cX12_rides 48 = .ok (.bipush 100, 2) := by decide +kernel
theorem dX12_rides_50 : decode cX12_rides 50 = .ok (.if_icmp .ge 41, 3) := by decide +kernel
theorem dX12_rides_53 : decode cX12_rides 53 = .ok (.aload_n 0, 1) := by decide +kernel
theorem dX12_rides_54 : decode cX12_rides 54 = .ok (.getfield 16, 3) := by decide +kernel
theorem dX12_rides_57 : decode cX12_rides 57 = .ok (.aload_n 0, 1) := by decide +kernel
theorem dX12_rides_58 : decode cX12_rides 58 = .ok (.getfield 16, 3) := by decide +kernel
theorem dX12_rides_61 : decode cX12_rides 61 = .ok (.bipush 9, 2) := by decide +kernel
theorem dX12_rides_63 : decode cX12_rides 63 = .ok (.iaload, 1) := by decide +kernel
theorem dX12_rides_64 : decode cX12_rides 64 = .ok (.invokestatic 156, 3) := by decide +kernel
theorem dX12_rides_67 : decode cX12_rides 67 = .ok (.pop, 1) := by decide +kernel
theorem dX12_rides_68 : decode cX12_rides 68 = .ok (.aload_n 0, 1) := by decide +kernel
theorem dX12_rides_69 : decode cX12_rides 69 = .ok (.getfield 16, 3) := by decide +kernel
theorem dX12_rides_72 : decode cX12_rides 72 = .ok (.iload_n 1, 1) := by decide +kernel
theorem dX12_rides_73 : decode cX12_rides 73 = .ok (.iload_n 2, 1) := by decide +kernel
theorem dX12_rides_74 : decode cX12_rides 74 = .ok (.invokestatic 140, 3) := by decide +kernel
theorem dX12_rides_77 : decode cX12_rides 77 = .ok (.invokestatic 202, 3) := by decide +kernel
theorem dX12_rides_80 : decode cX12_rides 80 = .ok (.ifCond .ne 5, 3) := by decide +kernel
theorem dX12_rides_83 : decode cX12_rides 83 = .ok (.iload_n 3, 1) := by decide +kernel
theorem dX12_rides_84 : decode cX12_rides 84 = .ok (.ireturn, 1) := by decide +kernel
theorem dX12_rides_85 : decode cX12_rides 85 = .ok (.iinc 3 1, 3) := by decide +kernel
theorem dX12_rides_88 : decode cX12_rides 88 = .ok (.goto (-41), 3) := by decide +kernel
theorem dX12_rides_91 : decode cX12_rides 91 = .ok (.bipush 100, 2) := by decide +kernel
theorem dX12_rides_93 : decode cX12_rides 93 = .ok (.ireturn, 1) := by decide +kernel
theorem dX12_brings_0 : decode cX12_brings 0 = .ok (.aload_n 0, 1) := by decide +kernel
theorem dX12_brings_1 : decode cX12_brings 1 = .ok (.getfield 13, 3) := by decide +kernel
theorem dX12_brings_4 : decode cX12_brings 4 = .ok (.iconst 0, 1) := by decide +kernel
theorem dX12_brings_5 : decode cX12_brings 5 = .ok (.aload_n 0, 1) := by decide +kernel
theorem dX12_brings_6 : decode cX12_brings 6 = .ok (.getfield 19, 3) := by decide +kernel
theorem dX12_brings_9 : decode cX12_brings 9 = .ok (.iconst 0, 1) := by decide +kernel
theorem dX12_brings_10 : decode cX12_brings 10 = .ok (.invokestatic 165, 3) := by decide +kernel
theorem dX12_brings_13 : decode cX12_brings 13 = .ok (.aload_n 0, 1) := by decide +kernel
theorem dX12_brings_14 : decode cX12_brings 14 = .ok (.getfield 19, 3) := by decide +kernel
theorem dX12_brings_17 : decode cX12_brings 17 = .ok (.iload_n 1, 1) := by decide +kernel
theorem dX12_brings_18 : decode cX12_brings 18 = .ok (.invokestatic 57, 3) := by decide +kernel
theorem dX12_brings_21 : decode cX12_brings 21 = .ok (.ifCond .ne 12, 3) := by decide +kernel
theorem dX12_brings_24 : decode cX12_brings 24 = .ok (.aload_n 0, 1) := by decide +kernel
theorem dX12_brings_25 : decode cX12_brings 25 = .ok (.getfield 19, 3) := by decide +kernel
theorem dX12_brings_28 : decode cX12_brings 28 = .ok (.iload_n 1, 1) := by decide +kernel
theorem dX12_brings_29 : decode cX12_brings 29 = .ok (.invokestatic 113, 3) := by decide +kernel
theorem dX12_brings_32 : decode cX12_brings 32 = .ok (.pop, 1) := by decide +kernel
theorem dX12_brings_33 : decode cX12_brings 33 = .ok (.iload_n 2, 1) := by decide +kernel
theorem dX12_brings_34 : decode cX12_brings 34 = .ok (.ifCond .ne 19, 3) := by decide +kernel
theorem dX12_brings_37 : decode cX12_brings 37 = .ok (.aload_n 0, 1) := by decide +kernel
theorem dX12_brings_38 : decode cX12_brings 38 = .ok (.getfield 19, 3) := by decide +kernel
theorem dX12_brings_41 : decode cX12_brings 41 = .ok (.iconst 3, 1) := by decide +kernel
theorem dX12_brings_42 : decode cX12_brings 42 = .ok (.iaload, 1) := by decide +kernel
theorem dX12_brings_43 : decode cX12_brings 43 = .ok (.aload_n 0, 1) := by decide +kernel
theorem dX12_brings_44 : decode cX12_brings 44 = .ok (.getfield 13, 3) := by decide +kernel
theorem dX12_brings_47 : decode cX12_brings 47 = .ok (.iconst 3, 1) := by decide +kernel
theorem dX12_brings_48 : decode cX12_brings 48 = .ok (.iaload, 1) := by decide +kernel
theorem dX12_brings_49 : decode cX12_brings 49 = .ok (.isub, 1) := by decide +kernel
theorem dX12_brings_50 : decode cX12_brings 50 = .ok (.goto 52, 3) := by decide +kernel
theorem dX12_brings_53 : decode cX12_brings 53 = .ok (.iload_n 2, 1) := by decide +kernel
theorem dX12_brings_54 : decode cX12_brings 54 = .ok (.iconst 1, 1) := by decide +kernel
theorem dX12_brings_55 : decode cX12_brings 55 = .ok (.if_icmp .ne 19, 3) := by decide +kernel
theorem dX12_brings_58 : decode cX12_brings 58 = .ok (.aload_n 0, 1) := by decide +kernel
theorem dX12_brings_59 : decode cX12_brings 59 = .ok (.getfield 19, 3) := by decide +kernel
theorem dX12_brings_62 : decode cX12_brings 62 = .ok (.iconst 5, 1) := by decide +kernel
theorem dX12_brings_63 : decode cX12_brings 63 = .ok (.iaload, 1) := by decide +kernel
theorem dX12_brings_64 : decode cX12_brings 64 = .ok (.aload_n 0, 1) := by decide +kernel
theorem dX12_brings_65 : decode cX12_brings 65 = .ok (.getfield 13, 3) := by decide +kernel
theorem dX12_brings_68 : decode cX12_brings 68 = .ok (.iconst 5, 1) := by decide +kernel
theorem dX12_brings_69 : decode cX12_brings 69 = .ok (.iaload, 1) := by decide +kernel
theorem dX12_brings_70 : decode cX12_brings 70 = .ok (.isub, 1) := by decide +kernel
theorem dX12_brings_71 : decode cX12_brings 71 = .ok (.goto 31, 3) := by decide +kernel
theorem dX12_brings_74 : decode cX12_brings 74 = .ok (.iload_n 2, 1) := by decide +kernel
theorem dX12_brings_75 : decode cX12_brings 75 = .ok (.iconst 2, 1) := by decide +kernel
theorem dX12_brings_76 : decode cX12_brings 76 = .ok (.if_icmp .ne 13, 3) := by decide +kernel
theorem dX12_brings_79 : decode cX12_brings 79 = .ok (.aload_n 0, 1) := by decide +kernel
theorem dX12_brings_80 : decode cX12_brings 80 = .ok (.getfield 19, 3) := by decide +kernel
theorem dX12_brings_83 : decode cX12_brings 83 = .ok (.invokestatic 60, 3) := by decide +kernel
theorem dX12_brings_86 : decode cX12_brings 86 = .ok (.goto 16, 3) := by decide +kernel
theorem dX12_brings_89 : decode cX12_brings 89 = .ok (.aload_n 0, 1) := by decide +kernel
theorem dX12_brings_90 : decode cX12_brings 90 = .ok (.getfield 19, 3) := by decide +kernel
theorem dX12_brings_93 : decode cX12_brings 93 = .ok (.iconst 4, 1) := by decide +kernel
theorem dX12_brings_94 : decode cX12_brings 94 = .ok (.iaload, 1) := by decide +kernel
theorem dX12_brings_95 : decode cX12_brings 95 = .ok (.aload_n 0, 1) := by decide +kernel
theorem dX12_brings_96 : decode cX12_brings 96 = .ok (.getfield 13, 3) := by decide +kernel
theorem dX12_brings_99 : decode cX12_brings 99 = .ok (.iconst 4, 1) := by decide +kernel
theorem dX12_brings_100 : decode cX12_brings 100 = .ok (.iaload, 1) := by decide +kernel
theorem dX12_brings_101 : decode cX12_brings 101 = .ok (.isub, 1) := by decide +kernel
theorem dX12_brings_102 : decode cX12_brings 102 = .ok (.ireturn, 1) := by decide +kernel
theorem dX12_ifUp_0 : decode cX12_ifUp 0 = .ok (.aload_n 0, 1) := by decide +kernel
theorem dX12_ifUp_1 : decode cX12_ifUp 1 = .ok (.iload_n 1, 1) := by decide +kernel
theorem dX12_ifUp_2 : decode cX12_ifUp 2 = .ok (.invokestatic 183, 3) := by decide +kernel
theorem dX12_ifUp_5 : decode cX12_ifUp 5 = .ok (.ifCond .ne 7, 3) := by decide +kernel
theorem dX12_ifUp_8 : decode cX12_ifUp 8 = .ok (.iconst 1, 1) := by decide +kernel
theorem dX12_ifUp_9 : decode cX12_ifUp 9 = .ok (.goto 20, 3) := by decide +kernel
theorem dX12_ifUp_12 : decode cX12_ifUp 12 = .ok (.iload_n 2, 1) := by decide +kernel
theorem dX12_ifUp_13 : decode cX12_ifUp 13 = .ok (.i2l, 1) := by decide +kernel
theorem dX12_ifUp_14 : decode cX12_ifUp 14 = .ok (.lconst 0, 1) := by decide +kernel
theorem dX12_ifUp_15 : decode cX12_ifUp 15 = .ok (.ldc2_w 48, 3) := by decide +kernel
theorem dX12_ifUp_18 : decode cX12_ifUp 18 = .ok (.invokestatic 44, 3) := by decide +kernel
theorem dX12_ifUp_21 : decode cX12_ifUp 21 = .ok (.ifCond .eq 7, 3) := by decide +kernel
theorem dX12_ifUp_24 : decode cX12_ifUp 24 = .ok (.iconst 0, 1) := by decide +kernel
theorem dX12_ifUp_25 : decode cX12_ifUp 25 = .ok (.goto 4, 3) := by decide +kernel
theorem dX12_ifUp_28 : decode cX12_ifUp 28 = .ok (.iconst 2, 1) := by decide +kernel
theorem dX12_ifUp_29 : decode cX12_ifUp 29 = .ok (.invokevirtual 101, 3) := by decide +kernel
theorem dX12_ifUp_32 : decode cX12_ifUp 32 = .ok (.ifCond .eq 5, 3) := by decide +kernel
theorem dX12_ifUp_35 : decode cX12_ifUp 35 = .ok (.iconst 0, 1) := by decide +kernel
theorem dX12_ifUp_36 : decode cX12_ifUp 36 = .ok (.ireturn, 1) := by decide +kernel
theorem dX12_ifUp_37 : decode cX12_ifUp 37 = .ok (.aload_n 0, 1) := by decide +kernel
theorem dX12_ifUp_38 : decode cX12_ifUp 38 = .ok (.iload_n 1, 1) := by decide +kernel
theorem dX12_ifUp_39 : decode cX12_ifUp 39 = .ok (.iload_n 2, 1) := by decide +kernel
theorem dX12_ifUp_40 : decode cX12_ifUp 40 = .ok (.invokevirtual 205, 3) := by decide +kernel
theorem dX12_ifUp_43 : decode cX12_ifUp 43 = .ok (.ireturn, 1) := by decide +kernel
theorem dX12_bestUp_0 : decode cX12_bestUp 0 = .ok (.aload_n 0, 1) := by decide +kernel
theorem dX12_bestUp_1 : decode cX12_bestUp 1 = .ok (.iconst 0, 1) := by decide +kernel
theorem dX12_bestUp_2 : decode cX12_bestUp 2 = .ok (.putfield 36, 3) := by decide +kernel
theorem dX12_bestUp_5 : decode cX12_bestUp 5 = .ok (.iconst (-1), 1) := by decide +kernel
theorem dX12_bestUp_6 : decode cX12_bestUp 6 = .ok (.istore_n 1, 1) := by decide +kernel
theorem dX12_bestUp_7 : decode cX12_bestUp 7 = .ok (.iconst (-1), 1) := by decide +kernel
theorem dX12_bestUp_8 : decode cX12_bestUp 8 = .ok (.istore_n 2, 1) := by decide +kernel
theorem dX12_bestUp_9 : decode cX12_bestUp 9 = .ok (.iconst 0, 1) := by decide +kernel
theorem dX12_bestUp_10 : decode cX12_bestUp 10 = .ok (.istore_n 3, 1) := by decide +kernel
theorem dX12_bestUp_11 : decode cX12_bestUp 11 = .ok (.iload_n 3, 1) := by decide +kernel
theorem dX12_bestUp_12 : decode cX12_bestUp 12 = .ok (.iconst 4, 1) := by decide +kernel
theorem dX12_bestUp_13 : decode cX12_bestUp 13 = .ok (.if_icmp .ge 39, 3) := by decide +kernel
theorem dX12_bestUp_16 : decode cX12_bestUp 16 = .ok (.aload_n 0, 1) := by decide +kernel
theorem dX12_bestUp_17 : decode cX12_bestUp 17 = .ok (.iload_n 3, 1) := by decide +kernel
theorem dX12_bestUp_18 : decode cX12_bestUp 18 = .ok (.iconst 3, 1) := by decide +kernel
theorem dX12_bestUp_19 : decode cX12_bestUp 19 = .ok (.invokevirtual 205, 3) := by decide +kernel
theorem dX12_bestUp_22 : decode cX12_bestUp 22 = .ok (.istore 4, 2) := by decide +kernel
theorem dX12_bestUp_24 : decode cX12_bestUp 24 = .ok (.aload_n 0, 1) := by decide +kernel
theorem dX12_bestUp_25 : decode cX12_bestUp 25 = .ok (.getfield 13, 3) := by decide +kernel
theorem dX12_bestUp_28 : decode cX12_bestUp 28 = .ok (.iload_n 3, 1) := by decide +kernel
theorem dX12_bestUp_29 : decode cX12_bestUp 29 = .ok (.invokestatic 57, 3) := by decide +kernel
theorem dX12_bestUp_32 : decode cX12_bestUp 32 = .ok (.ifCond .ne 14, 3) := by decide +kernel
theorem dX12_bestUp_35 : decode cX12_bestUp 35 = .ok (.iload 4, 2) := by decide +kernel
theorem dX12_bestUp_37 : decode cX12_bestUp 37 = .ok (.iload_n 2, 1) := by decide +kernel
theorem dX12_bestUp_38 : decode cX12_bestUp 38 = .ok (.if_icmp .le 8, 3) := by decide +kernel
theorem dX12_bestUp_41 : decode cX12_bestUp 41 = .ok (.iload_n 3, 1) := by decide +kernel
theorem dX12_bestUp_42 : decode cX12_bestUp 42 = .ok (.istore_n 1, 1) := by decide +kernel
theorem dX12_bestUp_43 : decode cX12_bestUp 43 = .ok (.iload 4, 2) := by decide +kernel
theorem dX12_bestUp_45 : decode cX12_bestUp 45 = .ok (.istore_n 2, 1) := by decide +kernel
theorem dX12_bestUp_46 : decode cX12_bestUp 46 = .ok (.iinc 3 1, 3) := by decide +kernel
theorem dX12_bestUp_49 : decode cX12_bestUp 49 = .ok (.goto (-38), 3) := by decide +kernel
theorem dX12_bestUp_52 : decode cX12_bestUp 52 = .ok (.iload_n 1, 1) := by decide +kernel
theorem dX12_bestUp_53 : decode cX12_bestUp 53 = .ok (.ireturn, 1) := by decide +kernel
theorem dX12_worst_0 : decode cX12_worst 0 = .ok (.aload_n 0, 1) := by decide +kernel
theorem dX12_worst_1 : decode cX12_worst 1 = .ok (.iconst 0, 1) := by decide +kernel
theorem dX12_worst_2 : decode cX12_worst 2 = .ok (.putfield 36, 3) := by decide +kernel
theorem dX12_worst_5 : decode cX12_worst 5 = .ok (.iconst (-1), 1) := by decide +kernel
theorem dX12_worst_6 : decode cX12_worst 6 = .ok (.istore_n 1, 1) := by decide +kernel
theorem dX12_worst_7 : decode cX12_worst 7 = .ok (.iconst 0, 1) := by decide +kernel
theorem dX12_worst_8 : decode cX12_worst 8 = .ok (.istore_n 2, 1) := by decide +kernel
theorem dX12_worst_9 : decode cX12_worst 9 = .ok (.iload_n 2, 1) := by decide +kernel
theorem dX12_worst_10 : decode cX12_worst 10 = .ok (.aload_n 0, 1) := by decide +kernel
theorem dX12_worst_11 : decode cX12_worst 11 = .ok (.getfield 13, 3) := by decide +kernel
theorem dX12_worst_14 : decode cX12_worst 14 = .ok (.iconst 1, 1) := by decide +kernel
theorem dX12_worst_15 : decode cX12_worst 15 = .ok (.iaload, 1) := by decide +kernel
theorem dX12_worst_16 : decode cX12_worst 16 = .ok (.if_icmp .ge 39, 3) := by decide +kernel
theorem dX12_worst_19 : decode cX12_worst 19 = .ok (.iload_n 1, 1) := by decide +kernel
theorem dX12_worst_20 : decode cX12_worst 20 = .ok (.iconst (-1), 1) := by decide +kernel
theorem dX12_worst_21 : decode cX12_worst 21 = .ok (.if_icmp .eq 22, 3) := by decide +kernel
theorem dX12_worst_24 : decode cX12_worst 24 = .ok (.aload_n 0, 1) := by decide +kernel
theorem dX12_worst_25 : decode cX12_worst 25 = .ok (.getfield 13, 3) := by decide +kernel
theorem dX12_worst_28 : decode cX12_worst 28 = .ok (.iload_n 2, 1) := by decide +kernel
theorem dX12_worst_29 : decode cX12_worst 29 = .ok (.invokestatic 208, 3) := by decide +kernel
theorem dX12_worst_32 : decode cX12_worst 32 = .ok (.aload_n 0, 1) := by decide +kernel
theorem dX12_worst_33 : decode cX12_worst 33 = .ok (.getfield 13, 3) := by decide +kernel
theorem dX12_worst_36 : decode cX12_worst 36 = .ok (.iload_n 1, 1) := by decide +kernel
theorem dX12_worst_37 : decode cX12_worst 37 = .ok (.invokestatic 208, 3) := by decide +kernel
theorem dX12_worst_40 : decode cX12_worst 40 = .ok (.if_icmp .ge 7, 3) := by decide +kernel
theorem dX12_worst_43 : decode cX12_worst 43 = .ok (.iload_n 2, 1) := by decide +kernel
theorem dX12_worst_44 : decode cX12_worst 44 = .ok (.goto 4, 3) := by decide +kernel
theorem dX12_worst_47 : decode cX12_worst 47 = .ok (.iload_n 1, 1) := by decide +kernel
theorem dX12_worst_48 : decode cX12_worst 48 = .ok (.istore_n 1, 1) := by decide +kernel
theorem dX12_worst_49 : decode cX12_worst 49 = .ok (.iinc 2 1, 3) := by decide +kernel
theorem dX12_worst_52 : decode cX12_worst 52 = .ok (.goto (-43), 3) := by decide +kernel
theorem dX12_worst_55 : decode cX12_worst 55 = .ok (.iload_n 1, 1) := by decide +kernel
theorem dX12_worst_56 : decode cX12_worst 56 = .ok (.ireturn, 1) := by decide +kernel
theorem dX12_owes_0 : decode cX12_owes 0 = .ok (.aload_n 0, 1) := by decide +kernel
theorem dX12_owes_1 : decode cX12_owes 1 = .ok (.aload_n 0, 1) := by decide +kernel
theorem dX12_owes_2 : decode cX12_owes 2 = .ok (.getfield 13, 3) := by decide +kernel
theorem dX12_owes_5 : decode cX12_owes 5 = .ok (.iload_n 1, 1) := by decide +kernel
theorem dX12_owes_6 : decode cX12_owes 6 = .ok (.invokestatic 143, 3) := by decide +kernel
theorem dX12_owes_9 : decode cX12_owes 9 = .ok (.ifCond .eq 7, 3) := by decide +kernel
theorem dX12_owes_12 : decode cX12_owes 12 = .ok (.iconst 0, 1) := by decide +kernel
theorem dX12_owes_13 : decode cX12_owes 13 = .ok (.goto 4, 3) := by decide +kernel
theorem dX12_owes_16 : decode cX12_owes 16 = .ok (.iconst 1, 1) := by decide +kernel
theorem dX12_owes_17 : decode cX12_owes 17 = .ok (.invokevirtual 101, 3) := by decide +kernel
theorem dX12_owes_20 : decode cX12_owes 20 = .ok (.ifCond .eq 5, 3) := by decide +kernel
theorem dX12_owes_23 : decode cX12_owes 23 = .ok (.iconst 0, 1) := by decide +kernel
theorem dX12_owes_24 : decode cX12_owes 24 = .ok (.ireturn, 1) := by decide +kernel
theorem dX12_owes_25 : decode cX12_owes 25 = .ok (.aload_n 0, 1) := by decide +kernel
theorem dX12_owes_26 : decode cX12_owes 26 = .ok (.getfield 13, 3) := by decide +kernel
theorem dX12_owes_29 : decode cX12_owes 29 = .ok (.iconst 0, 1) := by decide +kernel
theorem dX12_owes_30 : decode cX12_owes 30 = .ok (.aload_n 0, 1) := by decide +kernel
theorem dX12_owes_31 : decode cX12_owes 31 = .ok (.getfield 16, 3) := by decide +kernel
theorem dX12_owes_34 : decode cX12_owes 34 = .ok (.iconst 0, 1) := by decide +kernel
theorem dX12_owes_35 : decode cX12_owes 35 = .ok (.invokestatic 165, 3) := by decide +kernel
theorem dX12_owes_38 : decode cX12_owes 38 = .ok (.iconst 0, 1) := by decide +kernel
theorem dX12_owes_39 : decode cX12_owes 39 = .ok (.istore_n 2, 1) := by decide +kernel
theorem dX12_owes_40 : decode cX12_owes 40 = .ok (.iload_n 2, 1) := by decide +kernel
theorem dX12_owes_41 : decode cX12_owes 41 = .ok (.iconst 4, 1) := by decide +kernel
theorem dX12_owes_42 : decode cX12_owes 42 = .ok (.if_icmp .ge 19, 3) := by decide +kernel
theorem dX12_owes_45 : decode cX12_owes 45 = .ok (.aload_n 0, 1) := by decide +kernel
theorem dX12_owes_46 : decode cX12_owes 46 = .ok (.getfield 16, 3) := by decide +kernel
theorem dX12_owes_49 : decode cX12_owes 49 = .ok (.iload_n 2, 1) := by decide +kernel
theorem dX12_owes_50 : decode cX12_owes 50 = .ok (.iconst 1, 1) := by decide +kernel
theorem dX12_owes_51 : decode cX12_owes 51 = .ok (.invokestatic 149, 3) := by decide +kernel
theorem dX12_owes_54 : decode cX12_owes 54 = .ok (.pop, 1) := by decide +kernel
theorem dX12_owes_55 : decode cX12_owes 55 = .ok (.iinc 2 1, 3) := by decide +kernel
theorem dX12_owes_58 : decode cX12_owes 58 = .ok (.goto (-18), 3) := by decide +kernel
theorem dX12_owes_61 : decode cX12_owes 61 = .ok (.aload_n 0, 1) := by decide +kernel
theorem dX12_owes_62 : decode cX12_owes 62 = .ok (.getfield 16, 3) := by decide +kernel
theorem dX12_owes_65 : decode cX12_owes 65 = .ok (.iload_n 1, 1) := by decide +kernel
theorem dX12_owes_66 : decode cX12_owes 66 = .ok (.invokestatic 50, 3) := by decide +kernel
theorem dX12_owes_69 : decode cX12_owes 69 = .ok (.iconst 0, 1) := by decide +kernel
theorem dX12_owes_70 : decode cX12_owes 70 = .ok (.iadd, 1) := by decide +kernel
theorem dX12_owes_71 : decode cX12_owes 71 = .ok (.iaload, 1) := by decide +kernel
theorem dX12_owes_72 : decode cX12_owes 72 = .ok (.istore_n 2, 1) := by decide +kernel
theorem dX12_owes_73 : decode cX12_owes 73 = .ok (.iload_n 2, 1) := by decide +kernel
theorem dX12_owes_74 : decode cX12_owes 74 = .ok (.ifCond .ge 8, 3) := by decide +kernel
theorem dX12_owes_77 : decode cX12_owes 77 = .ok (.iload_n 2, 1) := by decide +kernel
theorem dX12_owes_78 : decode cX12_owes 78 = .ok (.ineg, 1) := by decide +kernel
theorem dX12_owes_79 : decode cX12_owes 79 = .ok (.goto 4, 3) := by decide +kernel
theorem dX12_owes_82 : decode cX12_owes 82 = .ok (.iconst 0, 1) := by decide +kernel
theorem dX12_owes_83 : decode cX12_owes 83 = .ok (.ireturn, 1) := by decide +kernel
theorem dX12_runScript_0 : decode cX12_runScript 0 = .ok (.lconst 1, 1) := by decide +kernel
theorem dX12_runScript_1 : decode cX12_runScript 1 = .ok (.lstore 4, 2) := by decide +kernel
theorem dX12_runScript_3 : decode cX12_runScript 3 = .ok (.iconst 0, 1) := by decide +kernel
theorem dX12_runScript_4 : decode cX12_runScript 4 = .ok (.istore 6, 2) := by decide +kernel
theorem dX12_runScript_6 : decode cX12_runScript 6 = .ok (.iload 6, 2) := by decide +kernel
theorem dX12_runScript_8 : decode cX12_runScript 8 = .ok (.iload_n 1, 1) := by decide +kernel
theorem dX12_runScript_9 : decode cX12_runScript 9 = .ok (.if_icmp .ge 23, 3) := by decide +kernel
theorem dX12_runScript_12 : decode cX12_runScript 12 = .ok (.iload 6, 2) := by decide +kernel
theorem dX12_runScript_14 : decode cX12_runScript 14 = .ok (.iconst 3, 1) := by decide +kernel
theorem dX12_runScript_15 : decode cX12_runScript 15 = .ok (.if_icmp .ge 17, 3) := by decide +kernel
theorem dX12_runScript_18 : decode cX12_runScript 18 = .ok (.lload 4, 2) := by decide +kernel
theorem dX12_runScript_20 : decode cX12_runScript 20 = .ok (.ldc2_w 211, 3) := by decide +kernel
theorem dX12_runScript_23 : decode cX12_runScript 23 = .ok (.lmul, 1) := by decide +kernel
theorem dX12_runScript_24 : decode cX12_runScript 24 = .ok (.lstore 4, 2) := by decide +kernel
theorem dX12_runScript_26 : decode cX12_runScript 26 = .ok (.iinc 6 1, 3) := by decide +kernel
theorem dX12_runScript_29 : decode cX12_runScript 29 = .ok (.goto (-23), 3) := by decide +kernel
theorem dX12_runScript_32 : decode cX12_runScript 32 = .ok (.aload_n 0, 1) := by decide +kernel
theorem dX12_runScript_33 : decode cX12_runScript 33 = .ok (.iload_n 1, 1) := by decide +kernel
theorem dX12_runScript_34 : decode cX12_runScript 34 = .ok (.i2l, 1) := by decide +kernel
theorem dX12_runScript_35 : decode cX12_runScript 35 = .ok (.lconst 1, 1) := by decide +kernel
theorem dX12_runScript_36 : decode cX12_runScript 36 = .ok (.ldc2_w 48, 3) := by decide +kernel
theorem dX12_runScript_39 : decode cX12_runScript 39 = .ok (.invokestatic 44, 3) := by decide +kernel
theorem dX12_runScript_42 : decode cX12_runScript 42 = .ok (.ifCond .eq 19, 3) := by decide +kernel
theorem dX12_runScript_45 : decode cX12_runScript 45 = .ok (.lload_n 2, 1) := by decide +kernel
theorem dX12_runScript_46 : decode cX12_runScript 46 = .ok (.lconst 0, 1) := by decide +kernel
theorem dX12_runScript_47 : decode cX12_runScript 47 = .ok (.lload 4, 2) := by decide +kernel
theorem dX12_runScript_49 : decode cX12_runScript 49 = .ok (.lconst 1, 1) := by decide +kernel
theorem dX12_runScript_50 : decode cX12_runScript 50 = .ok (.lsub, 1) := by decide +kernel
theorem dX12_runScript_51 : decode cX12_runScript 51 = .ok (.invokestatic 44, 3) := by decide +kernel
theorem dX12_runScript_54 : decode cX12_runScript 54 = .ok (.ifCond .eq 7, 3) := by decide +kernel
theorem dX12_runScript_57 : decode cX12_runScript 57 = .ok (.iconst 0, 1) := by decide +kernel
theorem dX12_runScript_58 : decode cX12_runScript 58 = .ok (.goto 4, 3) := by decide +kernel
theorem dX12_runScript_61 : decode cX12_runScript 61 = .ok (.iconst 1, 1) := by decide +kernel
theorem dX12_runScript_62 : decode cX12_runScript 62 = .ok (.invokevirtual 101, 3) := by decide +kernel
theorem dX12_runScript_65 : decode cX12_runScript 65 = .ok (.ifCond .eq 5, 3) := by decide +kernel
theorem dX12_runScript_68 : decode cX12_runScript 68 = .ok (.iconst 0, 1) := by decide +kernel
theorem dX12_runScript_69 : decode cX12_runScript 69 = .ok (.ireturn, 1) := by decide +kernel
theorem dX12_runScript_70 : decode cX12_runScript 70 = .ok (.aload_n 0, 1) := by decide +kernel
theorem dX12_runScript_71 : decode cX12_runScript 71 = .ok (.getfield 13, 3) := by decide +kernel
theorem dX12_runScript_74 : decode cX12_runScript 74 = .ok (.iconst 0, 1) := by decide +kernel
theorem dX12_runScript_75 : decode cX12_runScript 75 = .ok (.aload_n 0, 1) := by decide +kernel
theorem dX12_runScript_76 : decode cX12_runScript 76 = .ok (.getfield 16, 3) := by decide +kernel
theorem dX12_runScript_79 : decode cX12_runScript 79 = .ok (.iconst 0, 1) := by decide +kernel
theorem dX12_runScript_80 : decode cX12_runScript 80 = .ok (.invokestatic 165, 3) := by decide +kernel
theorem dX12_runScript_83 : decode cX12_runScript 83 = .ok (.iconst 0, 1) := by decide +kernel
theorem dX12_runScript_84 : decode cX12_runScript 84 = .ok (.istore 6, 2) := by decide +kernel
theorem dX12_runScript_86 : decode cX12_runScript 86 = .ok (.iload 6, 2) := by decide +kernel
theorem dX12_runScript_88 : decode cX12_runScript 88 = .ok (.iload_n 1, 1) := by decide +kernel
theorem dX12_runScript_89 : decode cX12_runScript 89 = .ok (.if_icmp .ge 68, 3) := by decide +kernel
theorem dX12_runScript_92 : decode cX12_runScript 92 = .ok (.lload 4, 2) := by decide +kernel
theorem dX12_runScript_94 : decode cX12_runScript 94 = .ok (.ldc2_w 211, 3) := by decide +kernel
theorem dX12_runScript_97 : decode cX12_runScript 97 = .ok (.ldiv, 1) := by decide +kernel
theorem dX12_runScript_98 : decode cX12_runScript 98 = .ok (.lstore 4, 2) := by decide +kernel
theorem dX12_runScript_100 : decode cX12_runScript 100 = .ok (.lload_n 2, 1) := by decide +kernel
theorem dX12_runScript_101 : decode cX12_runScript 101 = .ok (.lload 4, 2) := by decide +kernel
theorem dX12_runScript_103 : decode cX12_runScript 103 = .ok (.ldiv, 1) := by decide +kernel
theorem dX12_runScript_104 : decode cX12_runScript 104 = .ok (.ldc2_w 211, 3) := by decide +kernel
theorem dX12_runScript_107 : decode cX12_runScript 107 = .ok (.lrem, 1) := by decide +kernel
theorem dX12_runScript_108 : decode cX12_runScript 108 = .ok (.l2i, 1) := by decide +kernel
theorem dX12_runScript_109 : decode cX12_runScript 109 = .ok (.istore 7, 2) := by decide +kernel
theorem dX12_runScript_111 : decode cX12_runScript 111 = .ok (.aload_n 0, 1) := by decide +kernel
theorem dX12_runScript_112 : decode cX12_runScript 112 = .ok (.getfield 16, 3) := by decide +kernel
theorem dX12_runScript_115 : decode cX12_runScript 115 = .ok (.iload 7, 2) := by decide +kernel
theorem dX12_runScript_117 : decode cX12_runScript 117 = .ok (.sipush 1000, 3) := by decide +kernel
theorem dX12_runScript_120 : decode cX12_runScript 120 = .ok (.idiv, 1) := by decide +kernel
theorem dX12_runScript_121 : decode cX12_runScript 121 = .ok (.iload 7, 2) := by decide +kernel
theorem dX12_runScript_123 : decode cX12_runScript 123 = .ok (.bipush 100, 2) := by decide +kernel
theorem dX12_runScript_125 : decode cX12_runScript 125 = .ok (.idiv, 1) := by decide +kernel
theorem dX12_runScript_126 : decode cX12_runScript 126 = .ok (.bipush 10, 2) := by decide +kernel
theorem dX12_runScript_128 : decode cX12_runScript 128 = .ok (.irem, 1) := by decide +kernel
theorem dX12_runScript_129 : decode cX12_runScript 129 = .ok (.iload 7, 2) := by decide +kernel
theorem dX12_runScript_131 : decode cX12_runScript 131 = .ok (.bipush 10, 2) := by decide +kernel
theorem dX12_runScript_133 : decode cX12_runScript 133 = .ok (.idiv, 1) := by decide +kernel
theorem dX12_runScript_134 : decode cX12_runScript 134 = .ok (.bipush 10, 2) := by decide +kernel
theorem dX12_runScript_136 : decode cX12_runScript 136 = .ok (.irem, 1) := by decide +kernel
theorem dX12_runScript_137 : decode cX12_runScript 137 = .ok (.iload 7, 2) := by decide +kernel
theorem dX12_runScript_139 : decode cX12_runScript 139 = .ok (.bipush 10, 2) := by decide +kernel
theorem dX12_runScript_141 : decode cX12_runScript 141 = .ok (.irem, 1) := by decide +kernel
theorem dX12_runScript_142 : decode cX12_runScript 142 = .ok (.invokestatic 213, 3) := by decide +kernel
theorem dX12_runScript_145 : decode cX12_runScript 145 = .ok (.ifCond .ne 6, 3) := by decide +kernel
theorem dX12_runScript_148 : decode cX12_runScript 148 = .ok (.iload 6, 2) := by decide +kernel
theorem dX12_runScript_150 : decode cX12_runScript 150 = .ok (.ireturn, 1) := by decide +kernel
theorem dX12_runScript_151 : decode cX12_runScript 151 = .ok (.iinc 6 1, 3) := by decide +kernel
theorem dX12_runScript_154 : decode cX12_runScript 154 = .ok (.goto (-68), 3) := by decide +kernel
theorem dX12_runScript_157 : decode cX12_runScript 157 = .ok (.iconst (-1), 1) := by decide +kernel
theorem dX12_runScript_158 : decode cX12_runScript 158 = .ok (.ireturn, 1) := by decide +kernel
theorem dX12_simulate_0 : decode cX12_simulate 0 = .ok (.aload_n 0, 1) := by decide +kernel
theorem dX12_simulate_1 : decode cX12_simulate 1 = .ok (.iload_n 3, 1) := by decide +kernel
theorem dX12_simulate_2 : decode cX12_simulate 2 = .ok (.i2l, 1) := by decide +kernel
theorem dX12_simulate_3 : decode cX12_simulate 3 = .ok (.lconst 1, 1) := by decide +kernel
theorem dX12_simulate_4 : decode cX12_simulate 4 = .ok (.ldc2_w 217, 3) := by decide +kernel
theorem dX12_simulate_7 : decode cX12_simulate 7 = .ok (.invokestatic 44, 3) := by decide +kernel
theorem dX12_simulate_10 : decode cX12_simulate 10 = .ok (.ifCond .eq 7, 3) := by decide +kernel
theorem dX12_simulate_13 : decode cX12_simulate 13 = .ok (.iconst 0, 1) := by decide +kernel
theorem dX12_simulate_14 : decode cX12_simulate 14 = .ok (.goto 4, 3) := by decide +kernel
theorem dX12_simulate_17 : decode cX12_simulate 17 = .ok (.iconst 1, 1) := by decide +kernel
theorem dX12_simulate_18 : decode cX12_simulate 18 = .ok (.invokevirtual 101, 3) := by decide +kernel
theorem dX12_simulate_21 : decode cX12_simulate 21 = .ok (.ifCond .eq 5, 3) := by decide +kernel
theorem dX12_simulate_24 : decode cX12_simulate 24 = .ok (.iconst 0, 1) := by decide +kernel
theorem dX12_simulate_25 : decode cX12_simulate 25 = .ok (.ireturn, 1) := by decide +kernel
theorem dX12_simulate_26 : decode cX12_simulate 26 = .ok (.aload_n 0, 1) := by decide +kernel
theorem dX12_simulate_27 : decode cX12_simulate 27 = .ok (.getfield 13, 3) := by decide +kernel
theorem dX12_simulate_30 : decode cX12_simulate 30 = .ok (.iconst 0, 1) := by decide +kernel
theorem dX12_simulate_31 : decode cX12_simulate 31 = .ok (.aload_n 0, 1) := by decide +kernel
theorem dX12_simulate_32 : decode cX12_simulate 32 = .ok (.getfield 16, 3) := by decide +kernel
theorem dX12_simulate_35 : decode cX12_simulate 35 = .ok (.iconst 0, 1) := by decide +kernel
theorem dX12_simulate_36 : decode cX12_simulate 36 = .ok (.invokestatic 165, 3) := by decide +kernel
theorem dX12_simulate_39 : decode cX12_simulate 39 = .ok (.lload_n 1, 1) := by decide +kernel
theorem dX12_simulate_40 : decode cX12_simulate 40 = .ok (.lstore 4, 2) := by decide +kernel
theorem dX12_simulate_42 : decode cX12_simulate 42 = .ok (.iconst 0, 1) := by decide +kernel
theorem dX12_simulate_43 : decode cX12_simulate 43 = .ok (.istore 6, 2) := by decide +kernel
theorem dX12_simulate_45 : decode cX12_simulate 45 = .ok (.iload 6, 2) := by decide +kernel
theorem dX12_simulate_47 : decode cX12_simulate 47 = .ok (.iload_n 3, 1) := by decide +kernel
theorem dX12_simulate_48 : decode cX12_simulate 48 = .ok (.if_icmp .ge 34, 3) := by decide +kernel
theorem dX12_simulate_51 : decode cX12_simulate 51 = .ok (.lload 4, 2) := by decide +kernel
theorem dX12_simulate_53 : decode cX12_simulate 53 = .ok (.ldc2_w 219, 3) := by decide +kernel
theorem dX12_simulate_56 : decode cX12_simulate 56 = .ok (.lmul, 1) := by decide +kernel
theorem dX12_simulate_57 : decode cX12_simulate 57 = .ok (.ldc2_w 221, 3) := by decide +kernel
theorem dX12_simulate_60 : decode cX12_simulate 60 = .ok (.ladd, 1) := by decide +kernel
theorem dX12_simulate_61 : decode cX12_simulate 61 = .ok (.lstore 4, 2) := by decide +kernel
theorem dX12_simulate_63 : decode cX12_simulate 63 = .ok (.aload_n 0, 1) := by decide +kernel
theorem dX12_simulate_64 : decode cX12_simulate 64 = .ok (.getfield 16, 3) := by decide +kernel
theorem dX12_simulate_67 : decode cX12_simulate 67 = .ok (.lload 4, 2) := by decide +kernel
theorem dX12_simulate_69 : decode cX12_simulate 69 = .ok (.bipush 33, 2) := by decide +kernel
theorem dX12_simulate_71 : decode cX12_simulate 71 = .ok (.lushr, 1) := by decide +kernel
theorem dX12_simulate_72 : decode cX12_simulate 72 = .ok (.l2i, 1) := by decide +kernel
theorem dX12_simulate_73 : decode cX12_simulate 73 = .ok (.invokestatic 223, 3) := by decide +kernel
theorem dX12_simulate_76 : decode cX12_simulate 76 = .ok (.iinc 6 1, 3) := by decide +kernel
theorem dX12_simulate_79 : decode cX12_simulate 79 = .ok (.goto (-34), 3) := by decide +kernel
theorem dX12_simulate_82 : decode cX12_simulate 82 = .ok (.sipush 1000, 3) := by decide +kernel
theorem dX12_simulate_85 : decode cX12_simulate 85 = .ok (.aload_n 0, 1) := by decide +kernel
theorem dX12_simulate_86 : decode cX12_simulate 86 = .ok (.getfield 16, 3) := by decide +kernel
theorem dX12_simulate_89 : decode cX12_simulate 89 = .ok (.iconst 3, 1) := by decide +kernel
theorem dX12_simulate_90 : decode cX12_simulate 90 = .ok (.iaload, 1) := by decide +kernel
theorem dX12_simulate_91 : decode cX12_simulate 91 = .ok (.aload_n 0, 1) := by decide +kernel
theorem dX12_simulate_92 : decode cX12_simulate 92 = .ok (.getfield 13, 3) := by decide +kernel
theorem dX12_simulate_95 : decode cX12_simulate 95 = .ok (.iconst 3, 1) := by decide +kernel
theorem dX12_simulate_96 : decode cX12_simulate 96 = .ok (.iaload, 1) := by decide +kernel
theorem dX12_simulate_97 : decode cX12_simulate 97 = .ok (.isub, 1) := by decide +kernel
theorem dX12_simulate_98 : decode cX12_simulate 98 = .ok (.imul, 1) := by decide +kernel
theorem dX12_simulate_99 : decode cX12_simulate 99 = .ok (.aload_n 0, 1) := by decide +kernel
theorem dX12_simulate_100 : decode cX12_simulate 100 = .ok (.getfield 16, 3) := by decide +kernel
theorem dX12_simulate_103 : decode cX12_simulate 103 = .ok (.iconst 5, 1) := by decide +kernel
theorem dX12_simulate_104 : decode cX12_simulate 104 = .ok (.iaload, 1) := by decide +kernel
theorem dX12_simulate_105 : decode cX12_simulate 105 = .ok (.iadd, 1) := by decide +kernel
theorem dX12_simulate_106 : decode cX12_simulate 106 = .ok (.aload_n 0, 1) := by decide +kernel
theorem dX12_simulate_107 : decode cX12_simulate 107 = .ok (.getfield 13, 3) := by decide +kernel
theorem dX12_simulate_110 : decode cX12_simulate 110 = .ok (.iconst 5, 1) := by decide +kernel
theorem dX12_simulate_111 : decode cX12_simulate 111 = .ok (.iaload, 1) := by decide +kernel
theorem dX12_simulate_112 : decode cX12_simulate 112 = .ok (.isub, 1) := by decide +kernel
theorem dX12_simulate_113 : decode cX12_simulate 113 = .ok (.ireturn, 1) := by decide +kernel
theorem dX12_save_0 : decode cX12_save 0 = .ok (.aload_n 0, 1) := by decide +kernel
theorem dX12_save_1 : decode cX12_save 1 = .ok (.iload_n 1, 1) := by decide +kernel
theorem dX12_save_2 : decode cX12_save 2 = .ok (.i2l, 1) := by decide +kernel
theorem dX12_save_3 : decode cX12_save 3 = .ok (.lconst 0, 1) := by decide +kernel
theorem dX12_save_4 : decode cX12_save 4 = .ok (.lconst 1, 1) := by decide +kernel
theorem dX12_save_5 : decode cX12_save 5 = .ok (.invokestatic 44, 3) := by decide +kernel
theorem dX12_save_8 : decode cX12_save 8 = .ok (.ifCond .eq 7, 3) := by decide +kernel
theorem dX12_save_11 : decode cX12_save 11 = .ok (.iconst 0, 1) := by decide +kernel
theorem dX12_save_12 : decode cX12_save 12 = .ok (.goto 4, 3) := by decide +kernel
theorem dX12_save_15 : decode cX12_save 15 = .ok (.iconst 1, 1) := by decide +kernel
theorem dX12_save_16 : decode cX12_save 16 = .ok (.invokevirtual 101, 3) := by decide +kernel
theorem dX12_save_19 : decode cX12_save 19 = .ok (.ifCond .eq 5, 3) := by decide +kernel
theorem dX12_save_22 : decode cX12_save 22 = .ok (.iconst 0, 1) := by decide +kernel
theorem dX12_save_23 : decode cX12_save 23 = .ok (.ireturn, 1) := by decide +kernel
theorem dX12_save_24 : decode cX12_save 24 = .ok (.aload_n 0, 1) := by decide +kernel
theorem dX12_save_25 : decode cX12_save 25 = .ok (.getfield 13, 3) := by decide +kernel
theorem dX12_save_28 : decode cX12_save 28 = .ok (.iconst 0, 1) := by decide +kernel
theorem dX12_save_29 : decode cX12_save 29 = .ok (.aload_n 0, 1) := by decide +kernel
theorem dX12_save_30 : decode cX12_save 30 = .ok (.getfield 25, 3) := by decide +kernel
theorem dX12_save_33 : decode cX12_save 33 = .ok (.sipush 1272, 3) := by decide +kernel
theorem dX12_save_36 : decode cX12_save 36 = .ok (.iload_n 1, 1) := by decide +kernel
theorem dX12_save_37 : decode cX12_save 37 = .ok (.imul, 1) := by decide +kernel
theorem dX12_save_38 : decode cX12_save 38 = .ok (.invokestatic 165, 3) := by decide +kernel
theorem dX12_save_41 : decode cX12_save 41 = .ok (.aload_n 0, 1) := by decide +kernel
theorem dX12_save_42 : decode cX12_save 42 = .ok (.getfield 28, 3) := by decide +kernel
theorem dX12_save_45 : decode cX12_save 45 = .ok (.iload_n 1, 1) := by decide +kernel
theorem dX12_save_46 : decode cX12_save 46 = .ok (.iconst 1, 1) := by decide +kernel
theorem dX12_save_47 : decode cX12_save 47 = .ok (.bastore, 1) := by decide +kernel
theorem dX12_save_48 : decode cX12_save 48 = .ok (.aload_n 0, 1) := by decide +kernel
theorem dX12_save_49 : decode cX12_save 49 = .ok (.getfield 13, 3) := by decide +kernel
theorem dX12_save_52 : decode cX12_save 52 = .ok (.iconst 2, 1) := by decide +kernel
theorem dX12_save_53 : decode cX12_save 53 = .ok (.iaload, 1) := by decide +kernel
theorem dX12_save_54 : decode cX12_save 54 = .ok (.ireturn, 1) := by decide +kernel
theorem dX12_restore_0 : decode cX12_restore 0 = .ok (.aload_n 0, 1) := by decide +kernel
theorem dX12_restore_1 : decode cX12_restore 1 = .ok (.iload_n 1, 1) := by decide +kernel
theorem dX12_restore_2 : decode cX12_restore 2 = .ok (.i2l, 1) := by decide +kernel
theorem dX12_restore_3 : decode cX12_restore 3 = .ok (.lconst 0, 1) := by decide +kernel
theorem dX12_restore_4 : decode cX12_restore 4 = .ok (.lconst 1, 1) := by decide +kernel
theorem dX12_restore_5 : decode cX12_restore 5 = .ok (.invokestatic 44, 3) := by decide +kernel
theorem dX12_restore_8 : decode cX12_restore 8 = .ok (.ifCond .ne 7, 3) := by decide +kernel
theorem dX12_restore_11 : decode cX12_restore 11 = .ok (.iconst 1, 1) := by decide +kernel
theorem dX12_restore_12 : decode cX12_restore 12 = .ok (.goto 17, 3) := by decide +kernel
theorem dX12_restore_15 : decode cX12_restore 15 = .ok (.aload_n 0, 1) := by decide +kernel
theorem dX12_restore_16 : decode cX12_restore 16 = .ok (.getfield 28, 3) := by decide +kernel
theorem dX12_restore_19 : decode cX12_restore 19 = .ok (.iload_n 1, 1) := by decide +kernel
theorem dX12_restore_20 : decode cX12_restore 20 = .ok (.baload, 1) := by decide +kernel
theorem dX12_restore_21 : decode cX12_restore 21 = .ok (.ifCond .ne 7, 3) := by decide +kernel
theorem dX12_restore_24 : decode cX12_restore 24 = .ok (.iconst 2, 1) := by decide +kernel
theorem dX12_restore_25 : decode cX12_restore 25 = .ok (.goto 4, 3) := by decide +kernel
theorem dX12_restore_28 : decode cX12_restore 28 = .ok (.iconst 0, 1) := by decide +kernel
theorem dX12_restore_29 : decode cX12_restore 29 = .ok (.invokevirtual 101, 3) := by decide +kernel
theorem dX12_restore_32 : decode cX12_restore 32 = .ok (.ifCond .eq 5, 3) := by decide +kernel
theorem dX12_restore_35 : decode cX12_restore 35 = .ok (.iconst 0, 1) := by decide +kernel
theorem dX12_restore_36 : decode cX12_restore 36 = .ok (.ireturn, 1) := by decide +kernel
theorem dX12_restore_37 : decode cX12_restore 37 = .ok (.aload_n 0, 1) := by decide +kernel
theorem dX12_restore_38 : decode cX12_restore 38 = .ok (.getfield 25, 3) := by decide +kernel
theorem dX12_restore_41 : decode cX12_restore 41 = .ok (.sipush 1272, 3) := by decide +kernel
theorem dX12_restore_44 : decode cX12_restore 44 = .ok (.iload_n 1, 1) := by decide +kernel
theorem dX12_restore_45 : decode cX12_restore 45 = .ok (.imul, 1) := by decide +kernel
theorem dX12_restore_46 : decode cX12_restore 46 = .ok (.aload_n 0, 1) := by decide +kernel
theorem dX12_restore_47 : decode cX12_restore 47 = .ok (.getfield 13, 3) := by decide +kernel
theorem dX12_restore_50 : decode cX12_restore 50 = .ok (.iconst 0, 1) := by decide +kernel
theorem dX12_restore_51 : decode cX12_restore 51 = .ok (.invokestatic 165, 3) := by decide +kernel
theorem dX12_restore_54 : decode cX12_restore 54 = .ok (.aload_n 0, 1) := by decide +kernel
theorem dX12_restore_55 : decode cX12_restore 55 = .ok (.iconst 0, 1) := by decide +kernel
theorem dX12_restore_56 : decode cX12_restore 56 = .ok (.putfield 169, 3) := by decide +kernel
theorem dX12_restore_59 : decode cX12_restore 59 = .ok (.aload_n 0, 1) := by decide +kernel
theorem dX12_restore_60 : decode cX12_restore 60 = .ok (.getfield 13, 3) := by decide +kernel
theorem dX12_restore_63 : decode cX12_restore 63 = .ok (.iconst 2, 1) := by decide +kernel
theorem dX12_restore_64 : decode cX12_restore 64 = .ok (.iaload, 1) := by decide +kernel
theorem dX12_restore_65 : decode cX12_restore 65 = .ok (.ireturn, 1) := by decide +kernel
theorem yf_X12_remember : (Cond.instanceMethod yX12_remember) ∈ gtbl ∧ (Cond.selects RX12 yX12_remember yX12_remember) ∈ gtbl ∧ (Cond.initialized RX12) ∈ gtbl ∧ (Cond.code yX12_remember cX12_remember 2 none) ∈ gtbl ∧ (yX12_remember.cls = RX12 ∧ yX12_remember.cls ≠ "java/lang/invoke/MethodHandle" ∧ yX12_remember.cls ≠ "java/lang/invoke/VarHandle" ∧ (parseMethodDescriptor yX12_remember.desc).map (fun d => d.parameters.length) = some 0) := ⟨gt_in 1261 (by decide +kernel) (by decide +kernel), gt_in 14 (by decide +kernel) (by decide +kernel), gt_in 27 (by decide +kernel) (by decide +kernel), gt_in 1262 (by decide +kernel) (by decide +kernel), by decide +kernel⟩
theorem cw_X12_190 : uCW RX12 RX12 190 yX12_remember cX12_remember 2 none 0 := ⟨gt_in 1259 (by decide +kernel) (by decide +kernel), yf_X12_remember⟩
theorem yf_X12_isSetting : (Cond.static yX12_isSetting) ∈ gtbl ∧ (Cond.initialized yX12_isSetting.cls) ∈ gtbl ∧ (Cond.code yX12_isSetting cX12_isSetting 2 (some .boolean)) ∈ gtbl ∧ (yX12_isSetting.cls ≠ "java/lang/invoke/MethodHandle" ∧ yX12_isSetting.cls ≠ "java/lang/invoke/VarHandle" ∧ (parseMethodDescriptor yX12_isSetting.desc).map (fun d => d.parameters.length) = some 2) := ⟨gt_in 1308 (by decide +kernel) (by decide +kernel), gt_in 27 (by decide +kernel) (by decide +kernel), gt_in 1309 (by decide +kernel) (by decide +kernel), by decide +kernel⟩
theorem cw_X12_198 : uCS RX12 198 yX12_isSetting cX12_isSetting 2 (some .boolean) 2 := ⟨gt_in 1307 (by decide +kernel) (by decide +kernel), yf_X12_isSetting⟩
theorem yf_X12_brings : (Cond.instanceMethod yX12_brings) ∈ gtbl ∧ (Cond.selects RX12 yX12_brings yX12_brings) ∈ gtbl ∧ (Cond.initialized RX12) ∈ gtbl ∧ (Cond.code yX12_brings cX12_brings 3 (some .int)) ∈ gtbl ∧ (yX12_brings.cls = RX12 ∧ yX12_brings.cls ≠ "java/lang/invoke/MethodHandle" ∧ yX12_brings.cls ≠ "java/lang/invoke/VarHandle" ∧ (parseMethodDescriptor yX12_brings.desc).map (fun d => d.parameters.length) = some 2) := ⟨gt_in 1333 (by decide +kernel) (by decide +kernel), gt_in 15 (by decide +kernel) (by decide +kernel), gt_in 27 (by decide +kernel) (by decide +kernel), gt_in 1334 (by decide +kernel) (by decide +kernel), by decide +kernel⟩
theorem cw_X12_205 : uCW RX12 RX12 205 yX12_brings cX12_brings 3 (some .int) 2 := ⟨gt_in 1331 (by decide +kernel) (by decide +kernel), yf_X12_brings⟩
theorem yf_X12_standing : (Cond.static yX12_standing) ∈ gtbl ∧ (Cond.initialized yX12_standing.cls) ∈ gtbl ∧ (Cond.code yX12_standing cX12_standing 2 (some .int)) ∈ gtbl ∧ (yX12_standing.cls ≠ "java/lang/invoke/MethodHandle" ∧ yX12_standing.cls ≠ "java/lang/invoke/VarHandle" ∧ (parseMethodDescriptor yX12_standing.desc).map (fun d => d.parameters.length) = some 2) := ⟨gt_in 1344 (by decide +kernel) (by decide +kernel), gt_in 27 (by decide +kernel) (by decide +kernel), gt_in 1345 (by decide +kernel) (by decide +kernel), by decide +kernel⟩
theorem cw_X12_208 : uCS RX12 208 yX12_standing cX12_standing 2 (some .int) 2 := ⟨gt_in 1343 (by decide +kernel) (by decide +kernel), yf_X12_standing⟩
theorem yf_X12_command : (Cond.static yX12_command) ∈ gtbl ∧ (Cond.initialized yX12_command.cls) ∈ gtbl ∧ (Cond.code yX12_command cX12_command 6 (some .boolean)) ∈ gtbl ∧ (yX12_command.cls ≠ "java/lang/invoke/MethodHandle" ∧ yX12_command.cls ≠ "java/lang/invoke/VarHandle" ∧ (parseMethodDescriptor yX12_command.desc).map (fun d => d.parameters.length) = some 5) := ⟨gt_in 1356 (by decide +kernel) (by decide +kernel), gt_in 27 (by decide +kernel) (by decide +kernel), gt_in 1357 (by decide +kernel) (by decide +kernel), by decide +kernel⟩
theorem cw_X12_213 : uCS RX12 213 yX12_command cX12_command 6 (some .boolean) 5 := ⟨gt_in 1355 (by decide +kernel) (by decide +kernel), yf_X12_command⟩
theorem yf_X12_turn : (Cond.static yX12_turn) ∈ gtbl ∧ (Cond.initialized yX12_turn.cls) ∈ gtbl ∧ (Cond.code yX12_turn cX12_turn 4 none) ∈ gtbl ∧ (yX12_turn.cls ≠ "java/lang/invoke/MethodHandle" ∧ yX12_turn.cls ≠ "java/lang/invoke/VarHandle" ∧ (parseMethodDescriptor yX12_turn.desc).map (fun d => d.parameters.length) = some 2) := ⟨gt_in 1366 (by decide +kernel) (by decide +kernel), gt_in 27 (by decide +kernel) (by decide +kernel), gt_in 1367 (by decide +kernel) (by decide +kernel), by decide +kernel⟩
theorem cw_X12_223 : uCS RX12 223 yX12_turn cX12_turn 4 none 2 := ⟨gt_in 1365 (by decide +kernel) (by decide +kernel), yf_X12_turn⟩
def fX12_issue (S : (Nat → Nat → Int32)) (a1 : Int32) : Option (Int32 × (Nat → Nat → Int32)) :=
  lt_ (fX12_in  ((a1 : Int32).toInt64) 0 99) fun x2 =>
  if x2 = 0 then
    bd2 (fX12_refused S 1) fun x38 S39 =>
    if x38 = 0 then
      bd (fX12_remember S39) fun S43 =>
      bd2 (fX12_issueOn (S43 2) a1) fun x46 r48 =>
      lt_ (va_up S43 2 r48) fun S47 =>
      some (x46, S47)
    else
      some (0, S39)
  else
    bd (fX12_canIssue (S 2)) fun x6 =>
    if x6 = 0 then
      bd2 (fX12_refused S 2) fun x10 S11 =>
      if x10 = 0 then
        bd (fX12_remember S11) fun S15 =>
        bd2 (fX12_issueOn (S15 2) a1) fun x18 r20 =>
        lt_ (va_up S15 2 r20) fun S19 =>
        some (x18, S19)
      else
        some (0, S11)
    else
      bd2 (fX12_refused S 0) fun x24 S25 =>
      if x24 = 0 then
        bd (fX12_remember S25) fun S29 =>
        bd2 (fX12_issueOn (S29 2) a1) fun x32 r34 =>
        lt_ (va_up S29 2 r34) fun S33 =>
        some (x32, S33)
      else
        some (0, S25)
set_option maxHeartbeats 4000000 in
set_option maxRecDepth 20000 in
theorem kX12_issue {l : Launch} {G : UG} {V : uV} (hD : uMd G) {S S' : (Nat → Nat → Int32)} {a1 : Int32} {r : Int32} (h : fX12_issue S a1 = some (r, S')) : uMi l G yX12_issue cX12_issue 2 .int (uR 2 45) [.ref (ga G 19 0), .int a1] (va_up V 19 S) r (va_up V 19 S') := by
  refine uMi_of rfl (Nat.le_of_ble_eq_true rfl) (fun p e s m args below meth c ls X hret hl M => ?_)
  have hl : lv_has ls 2 [(0, .ref (ga G 19 0)), (1, .int a1)] := hl
  have hx := X.hx
  have hb := X.hb
  unfold fX12_issue at h
  refine lv_aload_n hx hb dX12_issue_0 rfl (lv_at hl 0 rfl) ?_
  refine lv_iload_n hx hb dX12_issue_1 rfl (lv_at hl 1 rfl) ?_
  refine lv_i2l hx hb dX12_issue_2 rfl ?_
  refine lv_lconst (v := 0) hx hb dX12_issue_3 rfl ?_
  refine lv_ldc2 (v := 99) hx hb X.1.2.2.2.1 (X.hts (gt_in 1258 (by decide +kernel) (by decide +kernel))) dX12_issue_4 ?_
  obtain ⟨x2, e1, h⟩ := lt_e h
  refine u_cSi X M hl.1 (kX12_in  e1.symm) cw_X12_44 ⟨by decide, by decide⟩ rfl rfl (Nat.le_of_ble_eq_true rfl) ⟨Nat.zero_le _, Nat.zero_le _⟩ dX12_issue_7 (fun H locs M n3 => ?_)
  refine lv_if_ne (tgt := 17) hx hb dX12_issue_10 (by decide) (fun c4 => ?_) (fun c4 => ?_)
  · have h := it_f h c4
    refine lv_aload_n hx hb dX12_issue_17 rfl (lv_at hl 0 rfl) ?_
    refine gf_X12_13 X M hD dX12_issue_18 ?_
    obtain ⟨x6, e5, h⟩ := bd_e h
    refine u_cSi X M hl.1 (kX12_canIssue (uArD2 hD) (congrFun (va_up_s V 19 _) 2) e5) cw_X12_123 ⟨by decide, by decide⟩ rfl rfl (Nat.le_of_ble_eq_true rfl) ⟨Nat.zero_le _, Nat.zero_le _⟩ dX12_issue_21 (fun H locs M n7 => ?_)
    refine lv_if_eq (tgt := 31) hx hb dX12_issue_24 (by decide) (fun c8 => ?_) (fun c8 => ?_)
    · have h := it_t h c8
      refine lv_iconst (v := 2) hx hb dX12_issue_31 (by decide) ?_
      obtain ⟨x10, S11, e9, h⟩ := bd2_e h
      refine u_cVi X M hl.1 (kX12_refused hD e9) cw_X12_101 ⟨by decide, by decide⟩ (rc_X12 X M hD) rfl rfl (Nat.le_of_ble_eq_true rfl) ⟨Nat.zero_le _, Nat.zero_le _⟩ dX12_issue_32 (fun H locs M n12 => ?_)
      refine lv_if_eq (tgt := 40) hx hb dX12_issue_35 (by decide) (fun c13 => ?_) (fun c13 => ?_)
      · have h := it_t h c13
        refine lv_aload_n hx hb dX12_issue_40 rfl (lv_at hl 0 rfl) ?_
        obtain ⟨S15, e14, h⟩ := bd_e h
        refine u_cVv X M hl.1 (kX12_remember hD e14) cw_X12_190 ⟨by decide, by decide⟩ (rc_X12 X M hD) rfl rfl (Nat.le_of_ble_eq_true rfl) ⟨Nat.zero_le _, Nat.zero_le _⟩ dX12_issue_41 (fun H locs M => ?_)
        refine lv_aload_n hx hb dX12_issue_44 rfl (lv_at hl 0 rfl) ?_
        refine gf_X12_13 X M hD dX12_issue_45 ?_
        refine lv_iload_n hx hb dX12_issue_48 rfl (lv_at hl 1 rfl) ?_
        obtain ⟨x18, r20, e17, h⟩ := bd2_e h
        have M := um_in2 2 M
        refine u_cSi X M hl.1 (kX12_issueOn (uArD2 hD) e17) cw_X12_127 ⟨by decide, by decide⟩ rfl rfl (Nat.le_of_ble_eq_true rfl) ⟨Nat.zero_le _, Nat.zero_le _⟩ dX12_issue_49 (fun H locs M n22 => ?_)
        obtain ⟨S19, e21, h⟩ := lt_e h
        rw [← e21] at M
        exact u_iret X hret M (rt2 h).1 (congrArg (va_up V 19) ((rt2 h).2)) rfl dX12_issue_52
      · have h := it_f h c13
        refine lv_iconst (v := 0) hx hb dX12_issue_38 (by decide) ?_
        exact u_iret X hret M (rt2 h).1 (congrArg (va_up V 19) ((rt2 h).2)) rfl dX12_issue_39
    · have h := it_f h c8
      refine lv_iconst (v := 0) hx hb dX12_issue_27 (by decide) ?_
      refine lv_goto (tgt := 32) hx hb dX12_issue_28 (by decide) ?_
      obtain ⟨x24, S25, e23, h⟩ := bd2_e h
      refine u_cVi X M hl.1 (kX12_refused hD e23) cw_X12_101 ⟨by decide, by decide⟩ (rc_X12 X M hD) rfl rfl (Nat.le_of_ble_eq_true rfl) ⟨Nat.zero_le _, Nat.zero_le _⟩ dX12_issue_32 (fun H locs M n26 => ?_)
      refine lv_if_eq (tgt := 40) hx hb dX12_issue_35 (by decide) (fun c27 => ?_) (fun c27 => ?_)
      · have h := it_t h c27
        refine lv_aload_n hx hb dX12_issue_40 rfl (lv_at hl 0 rfl) ?_
        obtain ⟨S29, e28, h⟩ := bd_e h
        refine u_cVv X M hl.1 (kX12_remember hD e28) cw_X12_190 ⟨by decide, by decide⟩ (rc_X12 X M hD) rfl rfl (Nat.le_of_ble_eq_true rfl) ⟨Nat.zero_le _, Nat.zero_le _⟩ dX12_issue_41 (fun H locs M => ?_)
        refine lv_aload_n hx hb dX12_issue_44 rfl (lv_at hl 0 rfl) ?_
        refine gf_X12_13 X M hD dX12_issue_45 ?_
        refine lv_iload_n hx hb dX12_issue_48 rfl (lv_at hl 1 rfl) ?_
        obtain ⟨x32, r34, e31, h⟩ := bd2_e h
        have M := um_in2 2 M
        refine u_cSi X M hl.1 (kX12_issueOn (uArD2 hD) e31) cw_X12_127 ⟨by decide, by decide⟩ rfl rfl (Nat.le_of_ble_eq_true rfl) ⟨Nat.zero_le _, Nat.zero_le _⟩ dX12_issue_49 (fun H locs M n36 => ?_)
        obtain ⟨S33, e35, h⟩ := lt_e h
        rw [← e35] at M
        exact u_iret X hret M (rt2 h).1 (congrArg (va_up V 19) ((rt2 h).2)) rfl dX12_issue_52
      · have h := it_f h c27
        refine lv_iconst (v := 0) hx hb dX12_issue_38 (by decide) ?_
        exact u_iret X hret M (rt2 h).1 (congrArg (va_up V 19) ((rt2 h).2)) rfl dX12_issue_39
  · have h := it_t h c4
    refine lv_iconst (v := 1) hx hb dX12_issue_13 (by decide) ?_
    refine lv_goto (tgt := 32) hx hb dX12_issue_14 (by decide) ?_
    obtain ⟨x38, S39, e37, h⟩ := bd2_e h
    refine u_cVi X M hl.1 (kX12_refused hD e37) cw_X12_101 ⟨by decide, by decide⟩ (rc_X12 X M hD) rfl rfl (Nat.le_of_ble_eq_true rfl) ⟨Nat.zero_le _, Nat.zero_le _⟩ dX12_issue_32 (fun H locs M n40 => ?_)
    refine lv_if_eq (tgt := 40) hx hb dX12_issue_35 (by decide) (fun c41 => ?_) (fun c41 => ?_)
    · have h := it_t h c41
      refine lv_aload_n hx hb dX12_issue_40 rfl (lv_at hl 0 rfl) ?_
      obtain ⟨S43, e42, h⟩ := bd_e h
      refine u_cVv X M hl.1 (kX12_remember hD e42) cw_X12_190 ⟨by decide, by decide⟩ (rc_X12 X M hD) rfl rfl (Nat.le_of_ble_eq_true rfl) ⟨Nat.zero_le _, Nat.zero_le _⟩ dX12_issue_41 (fun H locs M => ?_)
      refine lv_aload_n hx hb dX12_issue_44 rfl (lv_at hl 0 rfl) ?_
      refine gf_X12_13 X M hD dX12_issue_45 ?_
      refine lv_iload_n hx hb dX12_issue_48 rfl (lv_at hl 1 rfl) ?_
      obtain ⟨x46, r48, e45, h⟩ := bd2_e h
      have M := um_in2 2 M
      refine u_cSi X M hl.1 (kX12_issueOn (uArD2 hD) e45) cw_X12_127 ⟨by decide, by decide⟩ rfl rfl (Nat.le_of_ble_eq_true rfl) ⟨Nat.zero_le _, Nat.zero_le _⟩ dX12_issue_49 (fun H locs M n50 => ?_)
      obtain ⟨S47, e49, h⟩ := lt_e h
      rw [← e49] at M
      exact u_iret X hret M (rt2 h).1 (congrArg (va_up V 19) ((rt2 h).2)) rfl dX12_issue_52
    · have h := it_f h c41
      refine lv_iconst (v := 0) hx hb dX12_issue_38 (by decide) ?_
      exact u_iret X hret M (rt2 h).1 (congrArg (va_up V 19) ((rt2 h).2)) rfl dX12_issue_39
def fX12_copy (S : (Nat → Nat → Int32)) (a1 : Int32) : Option (Int32 × (Nat → Nat → Int32)) :=
  bd (fX12_isCard (S 2) a1) fun x2 =>
  if x2 = 0 then
    bd2 (fX12_refused S 1) fun x38 S39 =>
    if x38 = 0 then
      bd (fX12_remember S39) fun S43 =>
      bd2 (fX12_copyOn (S43 2) a1) fun x46 r48 =>
      lt_ (va_up S43 2 r48) fun S47 =>
      some (x46, S47)
    else
      some (0, S39)
  else
    bd (fX12_canCopy (S 2) a1) fun x6 =>
    if x6 = 0 then
      bd2 (fX12_refused S 2) fun x10 S11 =>
      if x10 = 0 then
        bd (fX12_remember S11) fun S15 =>
        bd2 (fX12_copyOn (S15 2) a1) fun x18 r20 =>
        lt_ (va_up S15 2 r20) fun S19 =>
        some (x18, S19)
      else
        some (0, S11)
    else
      bd2 (fX12_refused S 0) fun x24 S25 =>
      if x24 = 0 then
        bd (fX12_remember S25) fun S29 =>
        bd2 (fX12_copyOn (S29 2) a1) fun x32 r34 =>
        lt_ (va_up S29 2 r34) fun S33 =>
        some (x32, S33)
      else
        some (0, S25)
set_option maxHeartbeats 4000000 in
set_option maxRecDepth 20000 in
theorem kX12_copy {l : Launch} {G : UG} {V : uV} (hD : uMd G) {S S' : (Nat → Nat → Int32)} {a1 : Int32} {r : Int32} (h : fX12_copy S a1 = some (r, S')) : uMi l G yX12_copy cX12_copy 2 .int (uR 3 67) [.ref (ga G 19 0), .int a1] (va_up V 19 S) r (va_up V 19 S') := by
  refine uMi_of rfl (Nat.le_of_ble_eq_true rfl) (fun p e s m args below meth c ls X hret hl M => ?_)
  have hl : lv_has ls 2 [(0, .ref (ga G 19 0)), (1, .int a1)] := hl
  have hx := X.hx
  have hb := X.hb
  unfold fX12_copy at h
  refine lv_aload_n hx hb dX12_copy_0 rfl (lv_at hl 0 rfl) ?_
  refine lv_aload_n hx hb dX12_copy_1 rfl (lv_at hl 0 rfl) ?_
  refine gf_X12_13 X M hD dX12_copy_2 ?_
  refine lv_iload_n hx hb dX12_copy_5 rfl (lv_at hl 1 rfl) ?_
  obtain ⟨x2, e1, h⟩ := bd_e h
  refine u_cSi X M hl.1 (kX12_isCard (uArD2 hD) (congrFun (va_up_s V 19 _) 2) e1) cw_X12_87 ⟨by decide, by decide⟩ rfl rfl (Nat.le_of_ble_eq_true rfl) ⟨Nat.zero_le _, Nat.zero_le _⟩ dX12_copy_6 (fun H locs M n3 => ?_)
  refine lv_if_ne (tgt := 16) hx hb dX12_copy_9 (by decide) (fun c4 => ?_) (fun c4 => ?_)
  · have h := it_f h c4
    refine lv_aload_n hx hb dX12_copy_16 rfl (lv_at hl 0 rfl) ?_
    refine gf_X12_13 X M hD dX12_copy_17 ?_
    refine lv_iload_n hx hb dX12_copy_20 rfl (lv_at hl 1 rfl) ?_
    obtain ⟨x6, e5, h⟩ := bd_e h
    refine u_cSi X M hl.1 (kX12_canCopy (uArD2 hD) (congrFun (va_up_s V 19 _) 2) e5) cw_X12_134 ⟨by decide, by decide⟩ rfl rfl (Nat.le_of_ble_eq_true rfl) ⟨Nat.zero_le _, Nat.zero_le _⟩ dX12_copy_21 (fun H locs M n7 => ?_)
    refine lv_if_eq (tgt := 31) hx hb dX12_copy_24 (by decide) (fun c8 => ?_) (fun c8 => ?_)
    · have h := it_t h c8
      refine lv_iconst (v := 2) hx hb dX12_copy_31 (by decide) ?_
      obtain ⟨x10, S11, e9, h⟩ := bd2_e h
      refine u_cVi X M hl.1 (kX12_refused hD e9) cw_X12_101 ⟨by decide, by decide⟩ (rc_X12 X M hD) rfl rfl (Nat.le_of_ble_eq_true rfl) ⟨Nat.zero_le _, Nat.zero_le _⟩ dX12_copy_32 (fun H locs M n12 => ?_)
      refine lv_if_eq (tgt := 40) hx hb dX12_copy_35 (by decide) (fun c13 => ?_) (fun c13 => ?_)
      · have h := it_t h c13
        refine lv_aload_n hx hb dX12_copy_40 rfl (lv_at hl 0 rfl) ?_
        obtain ⟨S15, e14, h⟩ := bd_e h
        refine u_cVv X M hl.1 (kX12_remember hD e14) cw_X12_190 ⟨by decide, by decide⟩ (rc_X12 X M hD) rfl rfl (Nat.le_of_ble_eq_true rfl) ⟨Nat.zero_le _, Nat.zero_le _⟩ dX12_copy_41 (fun H locs M => ?_)
        refine lv_aload_n hx hb dX12_copy_44 rfl (lv_at hl 0 rfl) ?_
        refine gf_X12_13 X M hD dX12_copy_45 ?_
        refine lv_iload_n hx hb dX12_copy_48 rfl (lv_at hl 1 rfl) ?_
        obtain ⟨x18, r20, e17, h⟩ := bd2_e h
        have M := um_in2 2 M
        refine u_cSi X M hl.1 (kX12_copyOn (uArD2 hD) e17) cw_X12_137 ⟨by decide, by decide⟩ rfl rfl (Nat.le_of_ble_eq_true rfl) ⟨Nat.zero_le _, Nat.zero_le _⟩ dX12_copy_49 (fun H locs M n22 => ?_)
        obtain ⟨S19, e21, h⟩ := lt_e h
        rw [← e21] at M
        exact u_iret X hret M (rt2 h).1 (congrArg (va_up V 19) ((rt2 h).2)) rfl dX12_copy_52
      · have h := it_f h c13
        refine lv_iconst (v := 0) hx hb dX12_copy_38 (by decide) ?_
        exact u_iret X hret M (rt2 h).1 (congrArg (va_up V 19) ((rt2 h).2)) rfl dX12_copy_39
    · have h := it_f h c8
      refine lv_iconst (v := 0) hx hb dX12_copy_27 (by decide) ?_
      refine lv_goto (tgt := 32) hx hb dX12_copy_28 (by decide) ?_
      obtain ⟨x24, S25, e23, h⟩ := bd2_e h
      refine u_cVi X M hl.1 (kX12_refused hD e23) cw_X12_101 ⟨by decide, by decide⟩ (rc_X12 X M hD) rfl rfl (Nat.le_of_ble_eq_true rfl) ⟨Nat.zero_le _, Nat.zero_le _⟩ dX12_copy_32 (fun H locs M n26 => ?_)
      refine lv_if_eq (tgt := 40) hx hb dX12_copy_35 (by decide) (fun c27 => ?_) (fun c27 => ?_)
      · have h := it_t h c27
        refine lv_aload_n hx hb dX12_copy_40 rfl (lv_at hl 0 rfl) ?_
        obtain ⟨S29, e28, h⟩ := bd_e h
        refine u_cVv X M hl.1 (kX12_remember hD e28) cw_X12_190 ⟨by decide, by decide⟩ (rc_X12 X M hD) rfl rfl (Nat.le_of_ble_eq_true rfl) ⟨Nat.zero_le _, Nat.zero_le _⟩ dX12_copy_41 (fun H locs M => ?_)
        refine lv_aload_n hx hb dX12_copy_44 rfl (lv_at hl 0 rfl) ?_
        refine gf_X12_13 X M hD dX12_copy_45 ?_
        refine lv_iload_n hx hb dX12_copy_48 rfl (lv_at hl 1 rfl) ?_
        obtain ⟨x32, r34, e31, h⟩ := bd2_e h
        have M := um_in2 2 M
        refine u_cSi X M hl.1 (kX12_copyOn (uArD2 hD) e31) cw_X12_137 ⟨by decide, by decide⟩ rfl rfl (Nat.le_of_ble_eq_true rfl) ⟨Nat.zero_le _, Nat.zero_le _⟩ dX12_copy_49 (fun H locs M n36 => ?_)
        obtain ⟨S33, e35, h⟩ := lt_e h
        rw [← e35] at M
        exact u_iret X hret M (rt2 h).1 (congrArg (va_up V 19) ((rt2 h).2)) rfl dX12_copy_52
      · have h := it_f h c27
        refine lv_iconst (v := 0) hx hb dX12_copy_38 (by decide) ?_
        exact u_iret X hret M (rt2 h).1 (congrArg (va_up V 19) ((rt2 h).2)) rfl dX12_copy_39
  · have h := it_t h c4
    refine lv_iconst (v := 1) hx hb dX12_copy_12 (by decide) ?_
    refine lv_goto (tgt := 32) hx hb dX12_copy_13 (by decide) ?_
    obtain ⟨x38, S39, e37, h⟩ := bd2_e h
    refine u_cVi X M hl.1 (kX12_refused hD e37) cw_X12_101 ⟨by decide, by decide⟩ (rc_X12 X M hD) rfl rfl (Nat.le_of_ble_eq_true rfl) ⟨Nat.zero_le _, Nat.zero_le _⟩ dX12_copy_32 (fun H locs M n40 => ?_)
    refine lv_if_eq (tgt := 40) hx hb dX12_copy_35 (by decide) (fun c41 => ?_) (fun c41 => ?_)
    · have h := it_t h c41
      refine lv_aload_n hx hb dX12_copy_40 rfl (lv_at hl 0 rfl) ?_
      obtain ⟨S43, e42, h⟩ := bd_e h
      refine u_cVv X M hl.1 (kX12_remember hD e42) cw_X12_190 ⟨by decide, by decide⟩ (rc_X12 X M hD) rfl rfl (Nat.le_of_ble_eq_true rfl) ⟨Nat.zero_le _, Nat.zero_le _⟩ dX12_copy_41 (fun H locs M => ?_)
      refine lv_aload_n hx hb dX12_copy_44 rfl (lv_at hl 0 rfl) ?_
      refine gf_X12_13 X M hD dX12_copy_45 ?_
      refine lv_iload_n hx hb dX12_copy_48 rfl (lv_at hl 1 rfl) ?_
      obtain ⟨x46, r48, e45, h⟩ := bd2_e h
      have M := um_in2 2 M
      refine u_cSi X M hl.1 (kX12_copyOn (uArD2 hD) e45) cw_X12_137 ⟨by decide, by decide⟩ rfl rfl (Nat.le_of_ble_eq_true rfl) ⟨Nat.zero_le _, Nat.zero_le _⟩ dX12_copy_49 (fun H locs M n50 => ?_)
      obtain ⟨S47, e49, h⟩ := lt_e h
      rw [← e49] at M
      exact u_iret X hret M (rt2 h).1 (congrArg (va_up V 19) ((rt2 h).2)) rfl dX12_copy_52
    · have h := it_f h c41
      refine lv_iconst (v := 0) hx hb dX12_copy_38 (by decide) ?_
      exact u_iret X hret M (rt2 h).1 (congrArg (va_up V 19) ((rt2 h).2)) rfl dX12_copy_39
def fX12_ride (S : (Nat → Nat → Int32)) (a1 : Int32) (a2 : Int32) : Option (Int32 × (Nat → Nat → Int32)) :=
  bd (fX12_isCard (S 2) a1) fun x2 =>
  if x2 = 0 then
    bd2 (fX12_refused S 1) fun x6 S7 =>
    if x6 = 0 then
      bd (fX12_remember S7) fun S11 =>
      bd2 (fX12_rideOn (S11 2) a1 a2) fun x14 r16 =>
      lt_ (va_up S11 2 r16) fun S15 =>
      some (x14, S15)
    else
      some (0, S7)
  else
    lt_ (fX12_isGate  a2) fun x20 =>
    if x20 = 0 then
      bd2 (fX12_refused S 1) fun x24 S25 =>
      if x24 = 0 then
        bd (fX12_remember S25) fun S29 =>
        bd2 (fX12_rideOn (S29 2) a1 a2) fun x32 r34 =>
        lt_ (va_up S29 2 r34) fun S33 =>
        some (x32, S33)
      else
        some (0, S25)
    else
      bd2 (fX12_refused S 0) fun x38 S39 =>
      if x38 = 0 then
        bd (fX12_remember S39) fun S43 =>
        bd2 (fX12_rideOn (S43 2) a1 a2) fun x46 r48 =>
        lt_ (va_up S43 2 r48) fun S47 =>
        some (x46, S47)
      else
        some (0, S39)
set_option maxHeartbeats 4000000 in
set_option maxRecDepth 20000 in
theorem kX12_ride {l : Launch} {G : UG} {V : uV} (hD : uMd G) {S S' : (Nat → Nat → Int32)} {a1 : Int32} {a2 : Int32} {r : Int32} (h : fX12_ride S a1 a2 = some (r, S')) : uMi l G yX12_ride cX12_ride 3 .int (uR 6 137) [.ref (ga G 19 0), .int a1, .int a2] (va_up V 19 S) r (va_up V 19 S') := by
  refine uMi_of rfl (Nat.le_of_ble_eq_true rfl) (fun p e s m args below meth c ls X hret hl M => ?_)
  have hl : lv_has ls 3 [(0, .ref (ga G 19 0)), (1, .int a1), (2, .int a2)] := hl
  have hx := X.hx
  have hb := X.hb
  unfold fX12_ride at h
  refine lv_aload_n hx hb dX12_ride_0 rfl (lv_at hl 0 rfl) ?_
  refine lv_aload_n hx hb dX12_ride_1 rfl (lv_at hl 0 rfl) ?_
  refine gf_X12_13 X M hD dX12_ride_2 ?_
  refine lv_iload_n hx hb dX12_ride_5 rfl (lv_at hl 1 rfl) ?_
  obtain ⟨x2, e1, h⟩ := bd_e h
  refine u_cSi X M hl.1 (kX12_isCard (uArD2 hD) (congrFun (va_up_s V 19 _) 2) e1) cw_X12_87 ⟨by decide, by decide⟩ rfl rfl (Nat.le_of_ble_eq_true rfl) ⟨Nat.zero_le _, Nat.zero_le _⟩ dX12_ride_6 (fun H locs M n3 => ?_)
  refine lv_if_eq (tgt := 23) hx hb dX12_ride_9 (by decide) (fun c4 => ?_) (fun c4 => ?_)
  · have h := it_t h c4
    refine lv_iconst (v := 1) hx hb dX12_ride_23 (by decide) ?_
    obtain ⟨x6, S7, e5, h⟩ := bd2_e h
    refine u_cVi X M hl.1 (kX12_refused hD e5) cw_X12_101 ⟨by decide, by decide⟩ (rc_X12 X M hD) rfl rfl (Nat.le_of_ble_eq_true rfl) ⟨Nat.zero_le _, Nat.zero_le _⟩ dX12_ride_24 (fun H locs M n8 => ?_)
    refine lv_if_eq (tgt := 32) hx hb dX12_ride_27 (by decide) (fun c9 => ?_) (fun c9 => ?_)
    · have h := it_t h c9
      refine lv_aload_n hx hb dX12_ride_32 rfl (lv_at hl 0 rfl) ?_
      obtain ⟨S11, e10, h⟩ := bd_e h
      refine u_cVv X M hl.1 (kX12_remember hD e10) cw_X12_190 ⟨by decide, by decide⟩ (rc_X12 X M hD) rfl rfl (Nat.le_of_ble_eq_true rfl) ⟨Nat.zero_le _, Nat.zero_le _⟩ dX12_ride_33 (fun H locs M => ?_)
      refine lv_aload_n hx hb dX12_ride_36 rfl (lv_at hl 0 rfl) ?_
      refine gf_X12_13 X M hD dX12_ride_37 ?_
      refine lv_iload_n hx hb dX12_ride_40 rfl (lv_at hl 1 rfl) ?_
      refine lv_iload_n hx hb dX12_ride_41 rfl (lv_at hl 2 rfl) ?_
      obtain ⟨x14, r16, e13, h⟩ := bd2_e h
      have M := um_in2 2 M
      refine u_cSi X M hl.1 (kX12_rideOn (uArD2 hD) e13) cw_X12_140 ⟨by decide, by decide⟩ rfl rfl (Nat.le_of_ble_eq_true rfl) ⟨Nat.zero_le _, Nat.zero_le _⟩ dX12_ride_42 (fun H locs M n18 => ?_)
      obtain ⟨S15, e17, h⟩ := lt_e h
      rw [← e17] at M
      exact u_iret X hret M (rt2 h).1 (congrArg (va_up V 19) ((rt2 h).2)) rfl dX12_ride_45
    · have h := it_f h c9
      refine lv_iconst (v := 0) hx hb dX12_ride_30 (by decide) ?_
      exact u_iret X hret M (rt2 h).1 (congrArg (va_up V 19) ((rt2 h).2)) rfl dX12_ride_31
  · have h := it_f h c4
    refine lv_iload_n hx hb dX12_ride_12 rfl (lv_at hl 2 rfl) ?_
    obtain ⟨x20, e19, h⟩ := lt_e h
    refine u_cSi X M hl.1 (kX12_isGate  e19.symm) cw_X12_183 ⟨by decide, by decide⟩ rfl rfl (Nat.le_of_ble_eq_true rfl) ⟨Nat.zero_le _, Nat.zero_le _⟩ dX12_ride_13 (fun H locs M n21 => ?_)
    refine lv_if_eq (tgt := 23) hx hb dX12_ride_16 (by decide) (fun c22 => ?_) (fun c22 => ?_)
    · have h := it_t h c22
      refine lv_iconst (v := 1) hx hb dX12_ride_23 (by decide) ?_
      obtain ⟨x24, S25, e23, h⟩ := bd2_e h
      refine u_cVi X M hl.1 (kX12_refused hD e23) cw_X12_101 ⟨by decide, by decide⟩ (rc_X12 X M hD) rfl rfl (Nat.le_of_ble_eq_true rfl) ⟨Nat.zero_le _, Nat.zero_le _⟩ dX12_ride_24 (fun H locs M n26 => ?_)
      refine lv_if_eq (tgt := 32) hx hb dX12_ride_27 (by decide) (fun c27 => ?_) (fun c27 => ?_)
      · have h := it_t h c27
        refine lv_aload_n hx hb dX12_ride_32 rfl (lv_at hl 0 rfl) ?_
        obtain ⟨S29, e28, h⟩ := bd_e h
        refine u_cVv X M hl.1 (kX12_remember hD e28) cw_X12_190 ⟨by decide, by decide⟩ (rc_X12 X M hD) rfl rfl (Nat.le_of_ble_eq_true rfl) ⟨Nat.zero_le _, Nat.zero_le _⟩ dX12_ride_33 (fun H locs M => ?_)
        refine lv_aload_n hx hb dX12_ride_36 rfl (lv_at hl 0 rfl) ?_
        refine gf_X12_13 X M hD dX12_ride_37 ?_
        refine lv_iload_n hx hb dX12_ride_40 rfl (lv_at hl 1 rfl) ?_
        refine lv_iload_n hx hb dX12_ride_41 rfl (lv_at hl 2 rfl) ?_
        obtain ⟨x32, r34, e31, h⟩ := bd2_e h
        have M := um_in2 2 M
        refine u_cSi X M hl.1 (kX12_rideOn (uArD2 hD) e31) cw_X12_140 ⟨by decide, by decide⟩ rfl rfl (Nat.le_of_ble_eq_true rfl) ⟨Nat.zero_le _, Nat.zero_le _⟩ dX12_ride_42 (fun H locs M n36 => ?_)
        obtain ⟨S33, e35, h⟩ := lt_e h
        rw [← e35] at M
        exact u_iret X hret M (rt2 h).1 (congrArg (va_up V 19) ((rt2 h).2)) rfl dX12_ride_45
      · have h := it_f h c27
        refine lv_iconst (v := 0) hx hb dX12_ride_30 (by decide) ?_
        exact u_iret X hret M (rt2 h).1 (congrArg (va_up V 19) ((rt2 h).2)) rfl dX12_ride_31
    · have h := it_f h c22
      refine lv_iconst (v := 0) hx hb dX12_ride_19 (by decide) ?_
      refine lv_goto (tgt := 24) hx hb dX12_ride_20 (by decide) ?_
      obtain ⟨x38, S39, e37, h⟩ := bd2_e h
      refine u_cVi X M hl.1 (kX12_refused hD e37) cw_X12_101 ⟨by decide, by decide⟩ (rc_X12 X M hD) rfl rfl (Nat.le_of_ble_eq_true rfl) ⟨Nat.zero_le _, Nat.zero_le _⟩ dX12_ride_24 (fun H locs M n40 => ?_)
      refine lv_if_eq (tgt := 32) hx hb dX12_ride_27 (by decide) (fun c41 => ?_) (fun c41 => ?_)
      · have h := it_t h c41
        refine lv_aload_n hx hb dX12_ride_32 rfl (lv_at hl 0 rfl) ?_
        obtain ⟨S43, e42, h⟩ := bd_e h
        refine u_cVv X M hl.1 (kX12_remember hD e42) cw_X12_190 ⟨by decide, by decide⟩ (rc_X12 X M hD) rfl rfl (Nat.le_of_ble_eq_true rfl) ⟨Nat.zero_le _, Nat.zero_le _⟩ dX12_ride_33 (fun H locs M => ?_)
        refine lv_aload_n hx hb dX12_ride_36 rfl (lv_at hl 0 rfl) ?_
        refine gf_X12_13 X M hD dX12_ride_37 ?_
        refine lv_iload_n hx hb dX12_ride_40 rfl (lv_at hl 1 rfl) ?_
        refine lv_iload_n hx hb dX12_ride_41 rfl (lv_at hl 2 rfl) ?_
        obtain ⟨x46, r48, e45, h⟩ := bd2_e h
        have M := um_in2 2 M
        refine u_cSi X M hl.1 (kX12_rideOn (uArD2 hD) e45) cw_X12_140 ⟨by decide, by decide⟩ rfl rfl (Nat.le_of_ble_eq_true rfl) ⟨Nat.zero_le _, Nat.zero_le _⟩ dX12_ride_42 (fun H locs M n50 => ?_)
        obtain ⟨S47, e49, h⟩ := lt_e h
        rw [← e49] at M
        exact u_iret X hret M (rt2 h).1 (congrArg (va_up V 19) ((rt2 h).2)) rfl dX12_ride_45
      · have h := it_f h c41
        refine lv_iconst (v := 0) hx hb dX12_ride_30 (by decide) ?_
        exact u_iret X hret M (rt2 h).1 (congrArg (va_up V 19) ((rt2 h).2)) rfl dX12_ride_31
def fX12_pay (S : (Nat → Nat → Int32)) (a1 : Int32) (a2 : Int32) : Option (Int32 × (Nat → Nat → Int32)) :=
  bd (fX12_isAccount (S 2) a1) fun x2 =>
  if x2 = 0 then
    bd2 (fX12_refused S 1) fun x38 S39 =>
    if x38 = 0 then
      bd (fX12_remember S39) fun S43 =>
      bd2 (fX12_payOn (S43 2) a1 a2) fun x46 r48 =>
      lt_ (va_up S43 2 r48) fun S47 =>
      some (x46, S47)
    else
      some (0, S39)
  else
    lt_ (fX12_in  ((a2 : Int32).toInt64) 1 99) fun x6 =>
    if x6 = 0 then
      bd2 (fX12_refused S 2) fun x10 S11 =>
      if x10 = 0 then
        bd (fX12_remember S11) fun S15 =>
        bd2 (fX12_payOn (S15 2) a1 a2) fun x18 r20 =>
        lt_ (va_up S15 2 r20) fun S19 =>
        some (x18, S19)
      else
        some (0, S11)
    else
      bd2 (fX12_refused S 0) fun x24 S25 =>
      if x24 = 0 then
        bd (fX12_remember S25) fun S29 =>
        bd2 (fX12_payOn (S29 2) a1 a2) fun x32 r34 =>
        lt_ (va_up S29 2 r34) fun S33 =>
        some (x32, S33)
      else
        some (0, S25)
set_option maxHeartbeats 4000000 in
set_option maxRecDepth 20000 in
theorem kX12_pay {l : Launch} {G : UG} {V : uV} (hD : uMd G) {S S' : (Nat → Nat → Int32)} {a1 : Int32} {a2 : Int32} {r : Int32} (h : fX12_pay S a1 a2 = some (r, S')) : uMi l G yX12_pay cX12_pay 3 .int (uR 2 46) [.ref (ga G 19 0), .int a1, .int a2] (va_up V 19 S) r (va_up V 19 S') := by
  refine uMi_of rfl (Nat.le_of_ble_eq_true rfl) (fun p e s m args below meth c ls X hret hl M => ?_)
  have hl : lv_has ls 3 [(0, .ref (ga G 19 0)), (1, .int a1), (2, .int a2)] := hl
  have hx := X.hx
  have hb := X.hb
  unfold fX12_pay at h
  refine lv_aload_n hx hb dX12_pay_0 rfl (lv_at hl 0 rfl) ?_
  refine lv_aload_n hx hb dX12_pay_1 rfl (lv_at hl 0 rfl) ?_
  refine gf_X12_13 X M hD dX12_pay_2 ?_
  refine lv_iload_n hx hb dX12_pay_5 rfl (lv_at hl 1 rfl) ?_
  obtain ⟨x2, e1, h⟩ := bd_e h
  refine u_cSi X M hl.1 (kX12_isAccount (uArD2 hD) (congrFun (va_up_s V 19 _) 2) e1) cw_X12_143 ⟨by decide, by decide⟩ rfl rfl (Nat.le_of_ble_eq_true rfl) ⟨Nat.zero_le _, Nat.zero_le _⟩ dX12_pay_6 (fun H locs M n3 => ?_)
  refine lv_if_ne (tgt := 16) hx hb dX12_pay_9 (by decide) (fun c4 => ?_) (fun c4 => ?_)
  · have h := it_f h c4
    refine lv_iload_n hx hb dX12_pay_16 rfl (lv_at hl 2 rfl) ?_
    refine lv_i2l hx hb dX12_pay_17 rfl ?_
    refine lv_lconst (v := 1) hx hb dX12_pay_18 rfl ?_
    refine lv_ldc2 (v := 99) hx hb X.1.2.2.2.1 (X.hts (gt_in 1258 (by decide +kernel) (by decide +kernel))) dX12_pay_19 ?_
    obtain ⟨x6, e5, h⟩ := lt_e h
    refine u_cSi X M hl.1 (kX12_in  e5.symm) cw_X12_44 ⟨by decide, by decide⟩ rfl rfl (Nat.le_of_ble_eq_true rfl) ⟨Nat.zero_le _, Nat.zero_le _⟩ dX12_pay_22 (fun H locs M n7 => ?_)
    refine lv_if_eq (tgt := 32) hx hb dX12_pay_25 (by decide) (fun c8 => ?_) (fun c8 => ?_)
    · have h := it_t h c8
      refine lv_iconst (v := 2) hx hb dX12_pay_32 (by decide) ?_
      obtain ⟨x10, S11, e9, h⟩ := bd2_e h
      refine u_cVi X M hl.1 (kX12_refused hD e9) cw_X12_101 ⟨by decide, by decide⟩ (rc_X12 X M hD) rfl rfl (Nat.le_of_ble_eq_true rfl) ⟨Nat.zero_le _, Nat.zero_le _⟩ dX12_pay_33 (fun H locs M n12 => ?_)
      refine lv_if_eq (tgt := 41) hx hb dX12_pay_36 (by decide) (fun c13 => ?_) (fun c13 => ?_)
      · have h := it_t h c13
        refine lv_aload_n hx hb dX12_pay_41 rfl (lv_at hl 0 rfl) ?_
        obtain ⟨S15, e14, h⟩ := bd_e h
        refine u_cVv X M hl.1 (kX12_remember hD e14) cw_X12_190 ⟨by decide, by decide⟩ (rc_X12 X M hD) rfl rfl (Nat.le_of_ble_eq_true rfl) ⟨Nat.zero_le _, Nat.zero_le _⟩ dX12_pay_42 (fun H locs M => ?_)
        refine lv_aload_n hx hb dX12_pay_45 rfl (lv_at hl 0 rfl) ?_
        refine gf_X12_13 X M hD dX12_pay_46 ?_
        refine lv_iload_n hx hb dX12_pay_49 rfl (lv_at hl 1 rfl) ?_
        refine lv_iload_n hx hb dX12_pay_50 rfl (lv_at hl 2 rfl) ?_
        obtain ⟨x18, r20, e17, h⟩ := bd2_e h
        have M := um_in2 2 M
        refine u_cSi X M hl.1 (kX12_payOn (uArD2 hD) e17) cw_X12_146 ⟨by decide, by decide⟩ rfl rfl (Nat.le_of_ble_eq_true rfl) ⟨Nat.zero_le _, Nat.zero_le _⟩ dX12_pay_51 (fun H locs M n22 => ?_)
        obtain ⟨S19, e21, h⟩ := lt_e h
        rw [← e21] at M
        exact u_iret X hret M (rt2 h).1 (congrArg (va_up V 19) ((rt2 h).2)) rfl dX12_pay_54
      · have h := it_f h c13
        refine lv_iconst (v := 0) hx hb dX12_pay_39 (by decide) ?_
        exact u_iret X hret M (rt2 h).1 (congrArg (va_up V 19) ((rt2 h).2)) rfl dX12_pay_40
    · have h := it_f h c8
      refine lv_iconst (v := 0) hx hb dX12_pay_28 (by decide) ?_
      refine lv_goto (tgt := 33) hx hb dX12_pay_29 (by decide) ?_
      obtain ⟨x24, S25, e23, h⟩ := bd2_e h
      refine u_cVi X M hl.1 (kX12_refused hD e23) cw_X12_101 ⟨by decide, by decide⟩ (rc_X12 X M hD) rfl rfl (Nat.le_of_ble_eq_true rfl) ⟨Nat.zero_le _, Nat.zero_le _⟩ dX12_pay_33 (fun H locs M n26 => ?_)
      refine lv_if_eq (tgt := 41) hx hb dX12_pay_36 (by decide) (fun c27 => ?_) (fun c27 => ?_)
      · have h := it_t h c27
        refine lv_aload_n hx hb dX12_pay_41 rfl (lv_at hl 0 rfl) ?_
        obtain ⟨S29, e28, h⟩ := bd_e h
        refine u_cVv X M hl.1 (kX12_remember hD e28) cw_X12_190 ⟨by decide, by decide⟩ (rc_X12 X M hD) rfl rfl (Nat.le_of_ble_eq_true rfl) ⟨Nat.zero_le _, Nat.zero_le _⟩ dX12_pay_42 (fun H locs M => ?_)
        refine lv_aload_n hx hb dX12_pay_45 rfl (lv_at hl 0 rfl) ?_
        refine gf_X12_13 X M hD dX12_pay_46 ?_
        refine lv_iload_n hx hb dX12_pay_49 rfl (lv_at hl 1 rfl) ?_
        refine lv_iload_n hx hb dX12_pay_50 rfl (lv_at hl 2 rfl) ?_
        obtain ⟨x32, r34, e31, h⟩ := bd2_e h
        have M := um_in2 2 M
        refine u_cSi X M hl.1 (kX12_payOn (uArD2 hD) e31) cw_X12_146 ⟨by decide, by decide⟩ rfl rfl (Nat.le_of_ble_eq_true rfl) ⟨Nat.zero_le _, Nat.zero_le _⟩ dX12_pay_51 (fun H locs M n36 => ?_)
        obtain ⟨S33, e35, h⟩ := lt_e h
        rw [← e35] at M
        exact u_iret X hret M (rt2 h).1 (congrArg (va_up V 19) ((rt2 h).2)) rfl dX12_pay_54
      · have h := it_f h c27
        refine lv_iconst (v := 0) hx hb dX12_pay_39 (by decide) ?_
        exact u_iret X hret M (rt2 h).1 (congrArg (va_up V 19) ((rt2 h).2)) rfl dX12_pay_40
  · have h := it_t h c4
    refine lv_iconst (v := 1) hx hb dX12_pay_12 (by decide) ?_
    refine lv_goto (tgt := 33) hx hb dX12_pay_13 (by decide) ?_
    obtain ⟨x38, S39, e37, h⟩ := bd2_e h
    refine u_cVi X M hl.1 (kX12_refused hD e37) cw_X12_101 ⟨by decide, by decide⟩ (rc_X12 X M hD) rfl rfl (Nat.le_of_ble_eq_true rfl) ⟨Nat.zero_le _, Nat.zero_le _⟩ dX12_pay_33 (fun H locs M n40 => ?_)
    refine lv_if_eq (tgt := 41) hx hb dX12_pay_36 (by decide) (fun c41 => ?_) (fun c41 => ?_)
    · have h := it_t h c41
      refine lv_aload_n hx hb dX12_pay_41 rfl (lv_at hl 0 rfl) ?_
      obtain ⟨S43, e42, h⟩ := bd_e h
      refine u_cVv X M hl.1 (kX12_remember hD e42) cw_X12_190 ⟨by decide, by decide⟩ (rc_X12 X M hD) rfl rfl (Nat.le_of_ble_eq_true rfl) ⟨Nat.zero_le _, Nat.zero_le _⟩ dX12_pay_42 (fun H locs M => ?_)
      refine lv_aload_n hx hb dX12_pay_45 rfl (lv_at hl 0 rfl) ?_
      refine gf_X12_13 X M hD dX12_pay_46 ?_
      refine lv_iload_n hx hb dX12_pay_49 rfl (lv_at hl 1 rfl) ?_
      refine lv_iload_n hx hb dX12_pay_50 rfl (lv_at hl 2 rfl) ?_
      obtain ⟨x46, r48, e45, h⟩ := bd2_e h
      have M := um_in2 2 M
      refine u_cSi X M hl.1 (kX12_payOn (uArD2 hD) e45) cw_X12_146 ⟨by decide, by decide⟩ rfl rfl (Nat.le_of_ble_eq_true rfl) ⟨Nat.zero_le _, Nat.zero_le _⟩ dX12_pay_51 (fun H locs M n50 => ?_)
      obtain ⟨S47, e49, h⟩ := lt_e h
      rw [← e49] at M
      exact u_iret X hret M (rt2 h).1 (congrArg (va_up V 19) ((rt2 h).2)) rfl dX12_pay_54
    · have h := it_f h c41
      refine lv_iconst (v := 0) hx hb dX12_pay_39 (by decide) ?_
      exact u_iret X hret M (rt2 h).1 (congrArg (va_up V 19) ((rt2 h).2)) rfl dX12_pay_40
def fX12_pardon (S : (Nat → Nat → Int32)) (a1 : Int32) : Option (Int32 × (Nat → Nat → Int32)) :=
  bd (fX12_isAccount (S 2) a1) fun x2 =>
  if x2 = 0 then
    bd2 (fX12_refused S 1) fun x50 S51 =>
    if x50 = 0 then
      bd (fX12_remember S51) fun S55 =>
      lt_ (fX12_accountAt  a1) fun x58 =>
      gd (inb (x58 + 2) 1272) <|
      lt_ (va_up S55 2 (upd (S55 2) ((x58 + 2) : Int32).toNatClampNeg 0)) fun S61 =>
      lt_ (fX12_accountAt  a1) fun x64 =>
      gd (inb (x64 + 0) 1272) <|
      lt_ (S61 2 ((x64 + 0) : Int32).toNatClampNeg) fun x67 =>
      some (x67, S61)
    else
      some (0, S51)
  else
    bd (fX12_canPardon (S 2) a1) fun x6 =>
    if x6 = 0 then
      bd2 (fX12_refused S 2) fun x10 S11 =>
      if x10 = 0 then
        bd (fX12_remember S11) fun S15 =>
        lt_ (fX12_accountAt  a1) fun x18 =>
        gd (inb (x18 + 2) 1272) <|
        lt_ (va_up S15 2 (upd (S15 2) ((x18 + 2) : Int32).toNatClampNeg 0)) fun S21 =>
        lt_ (fX12_accountAt  a1) fun x24 =>
        gd (inb (x24 + 0) 1272) <|
        lt_ (S21 2 ((x24 + 0) : Int32).toNatClampNeg) fun x27 =>
        some (x27, S21)
      else
        some (0, S11)
    else
      bd2 (fX12_refused S 0) fun x30 S31 =>
      if x30 = 0 then
        bd (fX12_remember S31) fun S35 =>
        lt_ (fX12_accountAt  a1) fun x38 =>
        gd (inb (x38 + 2) 1272) <|
        lt_ (va_up S35 2 (upd (S35 2) ((x38 + 2) : Int32).toNatClampNeg 0)) fun S41 =>
        lt_ (fX12_accountAt  a1) fun x44 =>
        gd (inb (x44 + 0) 1272) <|
        lt_ (S41 2 ((x44 + 0) : Int32).toNatClampNeg) fun x47 =>
        some (x47, S41)
      else
        some (0, S31)
set_option maxHeartbeats 4000000 in
set_option maxRecDepth 20000 in
theorem kX12_pardon {l : Launch} {G : UG} {V : uV} (hD : uMd G) {S S' : (Nat → Nat → Int32)} {a1 : Int32} {r : Int32} (h : fX12_pardon S a1 = some (r, S')) : uMi l G yX12_pardon cX12_pardon 2 .int (uR 3 67) [.ref (ga G 19 0), .int a1] (va_up V 19 S) r (va_up V 19 S') := by
  refine uMi_of rfl (Nat.le_of_ble_eq_true rfl) (fun p e s m args below meth c ls X hret hl M => ?_)
  have hl : lv_has ls 2 [(0, .ref (ga G 19 0)), (1, .int a1)] := hl
  have hx := X.hx
  have hb := X.hb
  unfold fX12_pardon at h
  refine lv_aload_n hx hb dX12_pardon_0 rfl (lv_at hl 0 rfl) ?_
  refine lv_aload_n hx hb dX12_pardon_1 rfl (lv_at hl 0 rfl) ?_
  refine gf_X12_13 X M hD dX12_pardon_2 ?_
  refine lv_iload_n hx hb dX12_pardon_5 rfl (lv_at hl 1 rfl) ?_
  obtain ⟨x2, e1, h⟩ := bd_e h
  refine u_cSi X M hl.1 (kX12_isAccount (uArD2 hD) (congrFun (va_up_s V 19 _) 2) e1) cw_X12_143 ⟨by decide, by decide⟩ rfl rfl (Nat.le_of_ble_eq_true rfl) ⟨Nat.zero_le _, Nat.zero_le _⟩ dX12_pardon_6 (fun H locs M n3 => ?_)
  refine lv_if_ne (tgt := 16) hx hb dX12_pardon_9 (by decide) (fun c4 => ?_) (fun c4 => ?_)
  · have h := it_f h c4
    refine lv_aload_n hx hb dX12_pardon_16 rfl (lv_at hl 0 rfl) ?_
    refine gf_X12_13 X M hD dX12_pardon_17 ?_
    refine lv_iload_n hx hb dX12_pardon_20 rfl (lv_at hl 1 rfl) ?_
    obtain ⟨x6, e5, h⟩ := bd_e h
    refine u_cSi X M hl.1 (kX12_canPardon (uArD2 hD) (congrFun (va_up_s V 19 _) 2) e5) cw_X12_193 ⟨by decide, by decide⟩ rfl rfl (Nat.le_of_ble_eq_true rfl) ⟨Nat.zero_le _, Nat.zero_le _⟩ dX12_pardon_21 (fun H locs M n7 => ?_)
    refine lv_if_eq (tgt := 31) hx hb dX12_pardon_24 (by decide) (fun c8 => ?_) (fun c8 => ?_)
    · have h := it_t h c8
      refine lv_iconst (v := 2) hx hb dX12_pardon_31 (by decide) ?_
      obtain ⟨x10, S11, e9, h⟩ := bd2_e h
      refine u_cVi X M hl.1 (kX12_refused hD e9) cw_X12_101 ⟨by decide, by decide⟩ (rc_X12 X M hD) rfl rfl (Nat.le_of_ble_eq_true rfl) ⟨Nat.zero_le _, Nat.zero_le _⟩ dX12_pardon_32 (fun H locs M n12 => ?_)
      refine lv_if_eq (tgt := 40) hx hb dX12_pardon_35 (by decide) (fun c13 => ?_) (fun c13 => ?_)
      · have h := it_t h c13
        refine lv_aload_n hx hb dX12_pardon_40 rfl (lv_at hl 0 rfl) ?_
        obtain ⟨S15, e14, h⟩ := bd_e h
        refine u_cVv X M hl.1 (kX12_remember hD e14) cw_X12_190 ⟨by decide, by decide⟩ (rc_X12 X M hD) rfl rfl (Nat.le_of_ble_eq_true rfl) ⟨Nat.zero_le _, Nat.zero_le _⟩ dX12_pardon_41 (fun H locs M => ?_)
        refine lv_aload_n hx hb dX12_pardon_44 rfl (lv_at hl 0 rfl) ?_
        refine gf_X12_13 X M hD dX12_pardon_45 ?_
        refine lv_iload_n hx hb dX12_pardon_48 rfl (lv_at hl 1 rfl) ?_
        obtain ⟨x18, e17, h⟩ := lt_e h
        refine u_cSi X M hl.1 (kX12_accountAt  e17.symm) cw_X12_50 ⟨by decide, by decide⟩ rfl rfl (Nat.le_of_ble_eq_true rfl) ⟨Nat.zero_le _, Nat.zero_le _⟩ dX12_pardon_49 (fun H locs M n19 => ?_)
        refine lv_iconst (v := 2) hx hb dX12_pardon_52 (by decide) ?_
        refine lv_iadd hx hb dX12_pardon_53 ?_
        refine lv_iconst (v := 0) hx hb dX12_pardon_54 (by decide) ?_
        obtain ⟨g20, h⟩ := gd_e h
        obtain ⟨S21, e22, h⟩ := lt_e h
        refine u_ast_b X M (hD 2 (by decide)) uSh_md2 (inb_e g20) e22 dX12_pardon_55 (fun H locs M => ?_)
        refine lv_aload_n hx hb dX12_pardon_56 rfl (lv_at hl 0 rfl) ?_
        refine gf_X12_13 X M hD dX12_pardon_57 ?_
        refine lv_iload_n hx hb dX12_pardon_60 rfl (lv_at hl 1 rfl) ?_
        obtain ⟨x24, e23, h⟩ := lt_e h
        refine u_cSi X M hl.1 (kX12_accountAt  e23.symm) cw_X12_50 ⟨by decide, by decide⟩ rfl rfl (Nat.le_of_ble_eq_true rfl) ⟨Nat.zero_le _, Nat.zero_le _⟩ dX12_pardon_61 (fun H locs M n25 => ?_)
        refine lv_iconst (v := 0) hx hb dX12_pardon_64 (by decide) ?_
        refine lv_iadd hx hb dX12_pardon_65 ?_
        obtain ⟨g26, h⟩ := gd_e h
        obtain ⟨x27, e28, h⟩ := lt_e h
        refine u_ald X M (hD 2 (by decide)) (uAd_sh uSh_md2 (congrFun (va_up_s V 19 _) 2)) (inb_e g26) e28 dX12_pardon_66 ?_
        exact u_iret X hret M (rt2 h).1 (congrArg (va_up V 19) ((rt2 h).2)) rfl dX12_pardon_67
      · have h := it_f h c13
        refine lv_iconst (v := 0) hx hb dX12_pardon_38 (by decide) ?_
        exact u_iret X hret M (rt2 h).1 (congrArg (va_up V 19) ((rt2 h).2)) rfl dX12_pardon_39
    · have h := it_f h c8
      refine lv_iconst (v := 0) hx hb dX12_pardon_27 (by decide) ?_
      refine lv_goto (tgt := 32) hx hb dX12_pardon_28 (by decide) ?_
      obtain ⟨x30, S31, e29, h⟩ := bd2_e h
      refine u_cVi X M hl.1 (kX12_refused hD e29) cw_X12_101 ⟨by decide, by decide⟩ (rc_X12 X M hD) rfl rfl (Nat.le_of_ble_eq_true rfl) ⟨Nat.zero_le _, Nat.zero_le _⟩ dX12_pardon_32 (fun H locs M n32 => ?_)
      refine lv_if_eq (tgt := 40) hx hb dX12_pardon_35 (by decide) (fun c33 => ?_) (fun c33 => ?_)
      · have h := it_t h c33
        refine lv_aload_n hx hb dX12_pardon_40 rfl (lv_at hl 0 rfl) ?_
        obtain ⟨S35, e34, h⟩ := bd_e h
        refine u_cVv X M hl.1 (kX12_remember hD e34) cw_X12_190 ⟨by decide, by decide⟩ (rc_X12 X M hD) rfl rfl (Nat.le_of_ble_eq_true rfl) ⟨Nat.zero_le _, Nat.zero_le _⟩ dX12_pardon_41 (fun H locs M => ?_)
        refine lv_aload_n hx hb dX12_pardon_44 rfl (lv_at hl 0 rfl) ?_
        refine gf_X12_13 X M hD dX12_pardon_45 ?_
        refine lv_iload_n hx hb dX12_pardon_48 rfl (lv_at hl 1 rfl) ?_
        obtain ⟨x38, e37, h⟩ := lt_e h
        refine u_cSi X M hl.1 (kX12_accountAt  e37.symm) cw_X12_50 ⟨by decide, by decide⟩ rfl rfl (Nat.le_of_ble_eq_true rfl) ⟨Nat.zero_le _, Nat.zero_le _⟩ dX12_pardon_49 (fun H locs M n39 => ?_)
        refine lv_iconst (v := 2) hx hb dX12_pardon_52 (by decide) ?_
        refine lv_iadd hx hb dX12_pardon_53 ?_
        refine lv_iconst (v := 0) hx hb dX12_pardon_54 (by decide) ?_
        obtain ⟨g40, h⟩ := gd_e h
        obtain ⟨S41, e42, h⟩ := lt_e h
        refine u_ast_b X M (hD 2 (by decide)) uSh_md2 (inb_e g40) e42 dX12_pardon_55 (fun H locs M => ?_)
        refine lv_aload_n hx hb dX12_pardon_56 rfl (lv_at hl 0 rfl) ?_
        refine gf_X12_13 X M hD dX12_pardon_57 ?_
        refine lv_iload_n hx hb dX12_pardon_60 rfl (lv_at hl 1 rfl) ?_
        obtain ⟨x44, e43, h⟩ := lt_e h
        refine u_cSi X M hl.1 (kX12_accountAt  e43.symm) cw_X12_50 ⟨by decide, by decide⟩ rfl rfl (Nat.le_of_ble_eq_true rfl) ⟨Nat.zero_le _, Nat.zero_le _⟩ dX12_pardon_61 (fun H locs M n45 => ?_)
        refine lv_iconst (v := 0) hx hb dX12_pardon_64 (by decide) ?_
        refine lv_iadd hx hb dX12_pardon_65 ?_
        obtain ⟨g46, h⟩ := gd_e h
        obtain ⟨x47, e48, h⟩ := lt_e h
        refine u_ald X M (hD 2 (by decide)) (uAd_sh uSh_md2 (congrFun (va_up_s V 19 _) 2)) (inb_e g46) e48 dX12_pardon_66 ?_
        exact u_iret X hret M (rt2 h).1 (congrArg (va_up V 19) ((rt2 h).2)) rfl dX12_pardon_67
      · have h := it_f h c33
        refine lv_iconst (v := 0) hx hb dX12_pardon_38 (by decide) ?_
        exact u_iret X hret M (rt2 h).1 (congrArg (va_up V 19) ((rt2 h).2)) rfl dX12_pardon_39
  · have h := it_t h c4
    refine lv_iconst (v := 1) hx hb dX12_pardon_12 (by decide) ?_
    refine lv_goto (tgt := 32) hx hb dX12_pardon_13 (by decide) ?_
    obtain ⟨x50, S51, e49, h⟩ := bd2_e h
    refine u_cVi X M hl.1 (kX12_refused hD e49) cw_X12_101 ⟨by decide, by decide⟩ (rc_X12 X M hD) rfl rfl (Nat.le_of_ble_eq_true rfl) ⟨Nat.zero_le _, Nat.zero_le _⟩ dX12_pardon_32 (fun H locs M n52 => ?_)
    refine lv_if_eq (tgt := 40) hx hb dX12_pardon_35 (by decide) (fun c53 => ?_) (fun c53 => ?_)
    · have h := it_t h c53
      refine lv_aload_n hx hb dX12_pardon_40 rfl (lv_at hl 0 rfl) ?_
      obtain ⟨S55, e54, h⟩ := bd_e h
      refine u_cVv X M hl.1 (kX12_remember hD e54) cw_X12_190 ⟨by decide, by decide⟩ (rc_X12 X M hD) rfl rfl (Nat.le_of_ble_eq_true rfl) ⟨Nat.zero_le _, Nat.zero_le _⟩ dX12_pardon_41 (fun H locs M => ?_)
      refine lv_aload_n hx hb dX12_pardon_44 rfl (lv_at hl 0 rfl) ?_
      refine gf_X12_13 X M hD dX12_pardon_45 ?_
      refine lv_iload_n hx hb dX12_pardon_48 rfl (lv_at hl 1 rfl) ?_
      obtain ⟨x58, e57, h⟩ := lt_e h
      refine u_cSi X M hl.1 (kX12_accountAt  e57.symm) cw_X12_50 ⟨by decide, by decide⟩ rfl rfl (Nat.le_of_ble_eq_true rfl) ⟨Nat.zero_le _, Nat.zero_le _⟩ dX12_pardon_49 (fun H locs M n59 => ?_)
      refine lv_iconst (v := 2) hx hb dX12_pardon_52 (by decide) ?_
      refine lv_iadd hx hb dX12_pardon_53 ?_
      refine lv_iconst (v := 0) hx hb dX12_pardon_54 (by decide) ?_
      obtain ⟨g60, h⟩ := gd_e h
      obtain ⟨S61, e62, h⟩ := lt_e h
      refine u_ast_b X M (hD 2 (by decide)) uSh_md2 (inb_e g60) e62 dX12_pardon_55 (fun H locs M => ?_)
      refine lv_aload_n hx hb dX12_pardon_56 rfl (lv_at hl 0 rfl) ?_
      refine gf_X12_13 X M hD dX12_pardon_57 ?_
      refine lv_iload_n hx hb dX12_pardon_60 rfl (lv_at hl 1 rfl) ?_
      obtain ⟨x64, e63, h⟩ := lt_e h
      refine u_cSi X M hl.1 (kX12_accountAt  e63.symm) cw_X12_50 ⟨by decide, by decide⟩ rfl rfl (Nat.le_of_ble_eq_true rfl) ⟨Nat.zero_le _, Nat.zero_le _⟩ dX12_pardon_61 (fun H locs M n65 => ?_)
      refine lv_iconst (v := 0) hx hb dX12_pardon_64 (by decide) ?_
      refine lv_iadd hx hb dX12_pardon_65 ?_
      obtain ⟨g66, h⟩ := gd_e h
      obtain ⟨x67, e68, h⟩ := lt_e h
      refine u_ald X M (hD 2 (by decide)) (uAd_sh uSh_md2 (congrFun (va_up_s V 19 _) 2)) (inb_e g66) e68 dX12_pardon_66 ?_
      exact u_iret X hret M (rt2 h).1 (congrArg (va_up V 19) ((rt2 h).2)) rfl dX12_pardon_67
    · have h := it_f h c53
      refine lv_iconst (v := 0) hx hb dX12_pardon_38 (by decide) ?_
      exact u_iret X hret M (rt2 h).1 (congrArg (va_up V 19) ((rt2 h).2)) rfl dX12_pardon_39
def fX12_down (S : (Nat → Nat → Int32)) (a1 : Int32) : Option (Int32 × (Nat → Nat → Int32)) :=
  lt_ (fX12_isGate  a1) fun x2 =>
  if x2 = 0 then
    bd2 (fX12_refused S 1) fun x38 S39 =>
    if x38 = 0 then
      bd (fX12_remember S39) fun S43 =>
      bd2 (fX12_downOn (S43 2) a1) fun x46 r48 =>
      lt_ (va_up S43 2 r48) fun S47 =>
      some (x46, S47)
    else
      some (0, S39)
  else
    bd (fX12_isUp (S 2) a1) fun x6 =>
    if x6 = 0 then
      bd2 (fX12_refused S 2) fun x10 S11 =>
      if x10 = 0 then
        bd (fX12_remember S11) fun S15 =>
        bd2 (fX12_downOn (S15 2) a1) fun x18 r20 =>
        lt_ (va_up S15 2 r20) fun S19 =>
        some (x18, S19)
      else
        some (0, S11)
    else
      bd2 (fX12_refused S 0) fun x24 S25 =>
      if x24 = 0 then
        bd (fX12_remember S25) fun S29 =>
        bd2 (fX12_downOn (S29 2) a1) fun x32 r34 =>
        lt_ (va_up S29 2 r34) fun S33 =>
        some (x32, S33)
      else
        some (0, S25)
set_option maxHeartbeats 4000000 in
set_option maxRecDepth 20000 in
theorem kX12_down {l : Launch} {G : UG} {V : uV} (hD : uMd G) {S S' : (Nat → Nat → Int32)} {a1 : Int32} {r : Int32} (h : fX12_down S a1 = some (r, S')) : uMi l G yX12_down cX12_down 2 .int (uR 4 84) [.ref (ga G 19 0), .int a1] (va_up V 19 S) r (va_up V 19 S') := by
  refine uMi_of rfl (Nat.le_of_ble_eq_true rfl) (fun p e s m args below meth c ls X hret hl M => ?_)
  have hl : lv_has ls 2 [(0, .ref (ga G 19 0)), (1, .int a1)] := hl
  have hx := X.hx
  have hb := X.hb
  unfold fX12_down at h
  refine lv_aload_n hx hb dX12_down_0 rfl (lv_at hl 0 rfl) ?_
  refine lv_iload_n hx hb dX12_down_1 rfl (lv_at hl 1 rfl) ?_
  obtain ⟨x2, e1, h⟩ := lt_e h
  refine u_cSi X M hl.1 (kX12_isGate  e1.symm) cw_X12_183 ⟨by decide, by decide⟩ rfl rfl (Nat.le_of_ble_eq_true rfl) ⟨Nat.zero_le _, Nat.zero_le _⟩ dX12_down_2 (fun H locs M n3 => ?_)
  refine lv_if_ne (tgt := 12) hx hb dX12_down_5 (by decide) (fun c4 => ?_) (fun c4 => ?_)
  · have h := it_f h c4
    refine lv_aload_n hx hb dX12_down_12 rfl (lv_at hl 0 rfl) ?_
    refine gf_X12_13 X M hD dX12_down_13 ?_
    refine lv_iload_n hx hb dX12_down_16 rfl (lv_at hl 1 rfl) ?_
    obtain ⟨x6, e5, h⟩ := bd_e h
    refine u_cSi X M hl.1 (kX12_isUp (uArD2 hD) (congrFun (va_up_s V 19 _) 2) e5) cw_X12_57 ⟨by decide, by decide⟩ rfl rfl (Nat.le_of_ble_eq_true rfl) ⟨Nat.zero_le _, Nat.zero_le _⟩ dX12_down_17 (fun H locs M n7 => ?_)
    refine lv_if_eq (tgt := 27) hx hb dX12_down_20 (by decide) (fun c8 => ?_) (fun c8 => ?_)
    · have h := it_t h c8
      refine lv_iconst (v := 2) hx hb dX12_down_27 (by decide) ?_
      obtain ⟨x10, S11, e9, h⟩ := bd2_e h
      refine u_cVi X M hl.1 (kX12_refused hD e9) cw_X12_101 ⟨by decide, by decide⟩ (rc_X12 X M hD) rfl rfl (Nat.le_of_ble_eq_true rfl) ⟨Nat.zero_le _, Nat.zero_le _⟩ dX12_down_28 (fun H locs M n12 => ?_)
      refine lv_if_eq (tgt := 36) hx hb dX12_down_31 (by decide) (fun c13 => ?_) (fun c13 => ?_)
      · have h := it_t h c13
        refine lv_aload_n hx hb dX12_down_36 rfl (lv_at hl 0 rfl) ?_
        obtain ⟨S15, e14, h⟩ := bd_e h
        refine u_cVv X M hl.1 (kX12_remember hD e14) cw_X12_190 ⟨by decide, by decide⟩ (rc_X12 X M hD) rfl rfl (Nat.le_of_ble_eq_true rfl) ⟨Nat.zero_le _, Nat.zero_le _⟩ dX12_down_37 (fun H locs M => ?_)
        refine lv_aload_n hx hb dX12_down_40 rfl (lv_at hl 0 rfl) ?_
        refine gf_X12_13 X M hD dX12_down_41 ?_
        refine lv_iload_n hx hb dX12_down_44 rfl (lv_at hl 1 rfl) ?_
        obtain ⟨x18, r20, e17, h⟩ := bd2_e h
        have M := um_in2 2 M
        refine u_cSi X M hl.1 (kX12_downOn (uArD2 hD) e17) cw_X12_116 ⟨by decide, by decide⟩ rfl rfl (Nat.le_of_ble_eq_true rfl) ⟨Nat.zero_le _, Nat.zero_le _⟩ dX12_down_45 (fun H locs M n22 => ?_)
        obtain ⟨S19, e21, h⟩ := lt_e h
        rw [← e21] at M
        exact u_iret X hret M (rt2 h).1 (congrArg (va_up V 19) ((rt2 h).2)) rfl dX12_down_48
      · have h := it_f h c13
        refine lv_iconst (v := 0) hx hb dX12_down_34 (by decide) ?_
        exact u_iret X hret M (rt2 h).1 (congrArg (va_up V 19) ((rt2 h).2)) rfl dX12_down_35
    · have h := it_f h c8
      refine lv_iconst (v := 0) hx hb dX12_down_23 (by decide) ?_
      refine lv_goto (tgt := 28) hx hb dX12_down_24 (by decide) ?_
      obtain ⟨x24, S25, e23, h⟩ := bd2_e h
      refine u_cVi X M hl.1 (kX12_refused hD e23) cw_X12_101 ⟨by decide, by decide⟩ (rc_X12 X M hD) rfl rfl (Nat.le_of_ble_eq_true rfl) ⟨Nat.zero_le _, Nat.zero_le _⟩ dX12_down_28 (fun H locs M n26 => ?_)
      refine lv_if_eq (tgt := 36) hx hb dX12_down_31 (by decide) (fun c27 => ?_) (fun c27 => ?_)
      · have h := it_t h c27
        refine lv_aload_n hx hb dX12_down_36 rfl (lv_at hl 0 rfl) ?_
        obtain ⟨S29, e28, h⟩ := bd_e h
        refine u_cVv X M hl.1 (kX12_remember hD e28) cw_X12_190 ⟨by decide, by decide⟩ (rc_X12 X M hD) rfl rfl (Nat.le_of_ble_eq_true rfl) ⟨Nat.zero_le _, Nat.zero_le _⟩ dX12_down_37 (fun H locs M => ?_)
        refine lv_aload_n hx hb dX12_down_40 rfl (lv_at hl 0 rfl) ?_
        refine gf_X12_13 X M hD dX12_down_41 ?_
        refine lv_iload_n hx hb dX12_down_44 rfl (lv_at hl 1 rfl) ?_
        obtain ⟨x32, r34, e31, h⟩ := bd2_e h
        have M := um_in2 2 M
        refine u_cSi X M hl.1 (kX12_downOn (uArD2 hD) e31) cw_X12_116 ⟨by decide, by decide⟩ rfl rfl (Nat.le_of_ble_eq_true rfl) ⟨Nat.zero_le _, Nat.zero_le _⟩ dX12_down_45 (fun H locs M n36 => ?_)
        obtain ⟨S33, e35, h⟩ := lt_e h
        rw [← e35] at M
        exact u_iret X hret M (rt2 h).1 (congrArg (va_up V 19) ((rt2 h).2)) rfl dX12_down_48
      · have h := it_f h c27
        refine lv_iconst (v := 0) hx hb dX12_down_34 (by decide) ?_
        exact u_iret X hret M (rt2 h).1 (congrArg (va_up V 19) ((rt2 h).2)) rfl dX12_down_35
  · have h := it_t h c4
    refine lv_iconst (v := 1) hx hb dX12_down_8 (by decide) ?_
    refine lv_goto (tgt := 28) hx hb dX12_down_9 (by decide) ?_
    obtain ⟨x38, S39, e37, h⟩ := bd2_e h
    refine u_cVi X M hl.1 (kX12_refused hD e37) cw_X12_101 ⟨by decide, by decide⟩ (rc_X12 X M hD) rfl rfl (Nat.le_of_ble_eq_true rfl) ⟨Nat.zero_le _, Nat.zero_le _⟩ dX12_down_28 (fun H locs M n40 => ?_)
    refine lv_if_eq (tgt := 36) hx hb dX12_down_31 (by decide) (fun c41 => ?_) (fun c41 => ?_)
    · have h := it_t h c41
      refine lv_aload_n hx hb dX12_down_36 rfl (lv_at hl 0 rfl) ?_
      obtain ⟨S43, e42, h⟩ := bd_e h
      refine u_cVv X M hl.1 (kX12_remember hD e42) cw_X12_190 ⟨by decide, by decide⟩ (rc_X12 X M hD) rfl rfl (Nat.le_of_ble_eq_true rfl) ⟨Nat.zero_le _, Nat.zero_le _⟩ dX12_down_37 (fun H locs M => ?_)
      refine lv_aload_n hx hb dX12_down_40 rfl (lv_at hl 0 rfl) ?_
      refine gf_X12_13 X M hD dX12_down_41 ?_
      refine lv_iload_n hx hb dX12_down_44 rfl (lv_at hl 1 rfl) ?_
      obtain ⟨x46, r48, e45, h⟩ := bd2_e h
      have M := um_in2 2 M
      refine u_cSi X M hl.1 (kX12_downOn (uArD2 hD) e45) cw_X12_116 ⟨by decide, by decide⟩ rfl rfl (Nat.le_of_ble_eq_true rfl) ⟨Nat.zero_le _, Nat.zero_le _⟩ dX12_down_45 (fun H locs M n50 => ?_)
      obtain ⟨S47, e49, h⟩ := lt_e h
      rw [← e49] at M
      exact u_iret X hret M (rt2 h).1 (congrArg (va_up V 19) ((rt2 h).2)) rfl dX12_down_48
    · have h := it_f h c41
      refine lv_iconst (v := 0) hx hb dX12_down_34 (by decide) ?_
      exact u_iret X hret M (rt2 h).1 (congrArg (va_up V 19) ((rt2 h).2)) rfl dX12_down_35
def fX12_up (S : (Nat → Nat → Int32)) (a1 : Int32) : Option (Int32 × (Nat → Nat → Int32)) :=
  lt_ (fX12_isGate  a1) fun x2 =>
  if x2 = 0 then
    bd2 (fX12_refused S 1) fun x38 S39 =>
    if x38 = 0 then
      bd (fX12_remember S39) fun S43 =>
      bd2 (fX12_upOn (S43 2) a1) fun x46 r48 =>
      lt_ (va_up S43 2 r48) fun S47 =>
      some (x46, S47)
    else
      some (0, S39)
  else
    bd (fX12_isUp (S 2) a1) fun x6 =>
    if x6 = 0 then
      bd2 (fX12_refused S 0) fun x10 S11 =>
      if x10 = 0 then
        bd (fX12_remember S11) fun S15 =>
        bd2 (fX12_upOn (S15 2) a1) fun x18 r20 =>
        lt_ (va_up S15 2 r20) fun S19 =>
        some (x18, S19)
      else
        some (0, S11)
    else
      bd2 (fX12_refused S 2) fun x24 S25 =>
      if x24 = 0 then
        bd (fX12_remember S25) fun S29 =>
        bd2 (fX12_upOn (S29 2) a1) fun x32 r34 =>
        lt_ (va_up S29 2 r34) fun S33 =>
        some (x32, S33)
      else
        some (0, S25)
set_option maxHeartbeats 4000000 in
set_option maxRecDepth 20000 in
theorem kX12_up {l : Launch} {G : UG} {V : uV} (hD : uMd G) {S S' : (Nat → Nat → Int32)} {a1 : Int32} {r : Int32} (h : fX12_up S a1 = some (r, S')) : uMi l G yX12_up cX12_up 2 .int (uR 3 69) [.ref (ga G 19 0), .int a1] (va_up V 19 S) r (va_up V 19 S') := by
  refine uMi_of rfl (Nat.le_of_ble_eq_true rfl) (fun p e s m args below meth c ls X hret hl M => ?_)
  have hl : lv_has ls 2 [(0, .ref (ga G 19 0)), (1, .int a1)] := hl
  have hx := X.hx
  have hb := X.hb
  unfold fX12_up at h
  refine lv_aload_n hx hb dX12_up_0 rfl (lv_at hl 0 rfl) ?_
  refine lv_iload_n hx hb dX12_up_1 rfl (lv_at hl 1 rfl) ?_
  obtain ⟨x2, e1, h⟩ := lt_e h
  refine u_cSi X M hl.1 (kX12_isGate  e1.symm) cw_X12_183 ⟨by decide, by decide⟩ rfl rfl (Nat.le_of_ble_eq_true rfl) ⟨Nat.zero_le _, Nat.zero_le _⟩ dX12_up_2 (fun H locs M n3 => ?_)
  refine lv_if_ne (tgt := 12) hx hb dX12_up_5 (by decide) (fun c4 => ?_) (fun c4 => ?_)
  · have h := it_f h c4
    refine lv_aload_n hx hb dX12_up_12 rfl (lv_at hl 0 rfl) ?_
    refine gf_X12_13 X M hD dX12_up_13 ?_
    refine lv_iload_n hx hb dX12_up_16 rfl (lv_at hl 1 rfl) ?_
    obtain ⟨x6, e5, h⟩ := bd_e h
    refine u_cSi X M hl.1 (kX12_isUp (uArD2 hD) (congrFun (va_up_s V 19 _) 2) e5) cw_X12_57 ⟨by decide, by decide⟩ rfl rfl (Nat.le_of_ble_eq_true rfl) ⟨Nat.zero_le _, Nat.zero_le _⟩ dX12_up_17 (fun H locs M n7 => ?_)
    refine lv_if_eq (tgt := 27) hx hb dX12_up_20 (by decide) (fun c8 => ?_) (fun c8 => ?_)
    · have h := it_t h c8
      refine lv_iconst (v := 0) hx hb dX12_up_27 (by decide) ?_
      obtain ⟨x10, S11, e9, h⟩ := bd2_e h
      refine u_cVi X M hl.1 (kX12_refused hD e9) cw_X12_101 ⟨by decide, by decide⟩ (rc_X12 X M hD) rfl rfl (Nat.le_of_ble_eq_true rfl) ⟨Nat.zero_le _, Nat.zero_le _⟩ dX12_up_28 (fun H locs M n12 => ?_)
      refine lv_if_eq (tgt := 36) hx hb dX12_up_31 (by decide) (fun c13 => ?_) (fun c13 => ?_)
      · have h := it_t h c13
        refine lv_aload_n hx hb dX12_up_36 rfl (lv_at hl 0 rfl) ?_
        obtain ⟨S15, e14, h⟩ := bd_e h
        refine u_cVv X M hl.1 (kX12_remember hD e14) cw_X12_190 ⟨by decide, by decide⟩ (rc_X12 X M hD) rfl rfl (Nat.le_of_ble_eq_true rfl) ⟨Nat.zero_le _, Nat.zero_le _⟩ dX12_up_37 (fun H locs M => ?_)
        refine lv_aload_n hx hb dX12_up_40 rfl (lv_at hl 0 rfl) ?_
        refine gf_X12_13 X M hD dX12_up_41 ?_
        refine lv_iload_n hx hb dX12_up_44 rfl (lv_at hl 1 rfl) ?_
        obtain ⟨x18, r20, e17, h⟩ := bd2_e h
        have M := um_in2 2 M
        refine u_cSi X M hl.1 (kX12_upOn (uArD2 hD) e17) cw_X12_113 ⟨by decide, by decide⟩ rfl rfl (Nat.le_of_ble_eq_true rfl) ⟨Nat.zero_le _, Nat.zero_le _⟩ dX12_up_45 (fun H locs M n22 => ?_)
        obtain ⟨S19, e21, h⟩ := lt_e h
        rw [← e21] at M
        exact u_iret X hret M (rt2 h).1 (congrArg (va_up V 19) ((rt2 h).2)) rfl dX12_up_48
      · have h := it_f h c13
        refine lv_iconst (v := 0) hx hb dX12_up_34 (by decide) ?_
        exact u_iret X hret M (rt2 h).1 (congrArg (va_up V 19) ((rt2 h).2)) rfl dX12_up_35
    · have h := it_f h c8
      refine lv_iconst (v := 2) hx hb dX12_up_23 (by decide) ?_
      refine lv_goto (tgt := 28) hx hb dX12_up_24 (by decide) ?_
      obtain ⟨x24, S25, e23, h⟩ := bd2_e h
      refine u_cVi X M hl.1 (kX12_refused hD e23) cw_X12_101 ⟨by decide, by decide⟩ (rc_X12 X M hD) rfl rfl (Nat.le_of_ble_eq_true rfl) ⟨Nat.zero_le _, Nat.zero_le _⟩ dX12_up_28 (fun H locs M n26 => ?_)
      refine lv_if_eq (tgt := 36) hx hb dX12_up_31 (by decide) (fun c27 => ?_) (fun c27 => ?_)
      · have h := it_t h c27
        refine lv_aload_n hx hb dX12_up_36 rfl (lv_at hl 0 rfl) ?_
        obtain ⟨S29, e28, h⟩ := bd_e h
        refine u_cVv X M hl.1 (kX12_remember hD e28) cw_X12_190 ⟨by decide, by decide⟩ (rc_X12 X M hD) rfl rfl (Nat.le_of_ble_eq_true rfl) ⟨Nat.zero_le _, Nat.zero_le _⟩ dX12_up_37 (fun H locs M => ?_)
        refine lv_aload_n hx hb dX12_up_40 rfl (lv_at hl 0 rfl) ?_
        refine gf_X12_13 X M hD dX12_up_41 ?_
        refine lv_iload_n hx hb dX12_up_44 rfl (lv_at hl 1 rfl) ?_
        obtain ⟨x32, r34, e31, h⟩ := bd2_e h
        have M := um_in2 2 M
        refine u_cSi X M hl.1 (kX12_upOn (uArD2 hD) e31) cw_X12_113 ⟨by decide, by decide⟩ rfl rfl (Nat.le_of_ble_eq_true rfl) ⟨Nat.zero_le _, Nat.zero_le _⟩ dX12_up_45 (fun H locs M n36 => ?_)
        obtain ⟨S33, e35, h⟩ := lt_e h
        rw [← e35] at M
        exact u_iret X hret M (rt2 h).1 (congrArg (va_up V 19) ((rt2 h).2)) rfl dX12_up_48
      · have h := it_f h c27
        refine lv_iconst (v := 0) hx hb dX12_up_34 (by decide) ?_
        exact u_iret X hret M (rt2 h).1 (congrArg (va_up V 19) ((rt2 h).2)) rfl dX12_up_35
  · have h := it_t h c4
    refine lv_iconst (v := 1) hx hb dX12_up_8 (by decide) ?_
    refine lv_goto (tgt := 28) hx hb dX12_up_9 (by decide) ?_
    obtain ⟨x38, S39, e37, h⟩ := bd2_e h
    refine u_cVi X M hl.1 (kX12_refused hD e37) cw_X12_101 ⟨by decide, by decide⟩ (rc_X12 X M hD) rfl rfl (Nat.le_of_ble_eq_true rfl) ⟨Nat.zero_le _, Nat.zero_le _⟩ dX12_up_28 (fun H locs M n40 => ?_)
    refine lv_if_eq (tgt := 36) hx hb dX12_up_31 (by decide) (fun c41 => ?_) (fun c41 => ?_)
    · have h := it_t h c41
      refine lv_aload_n hx hb dX12_up_36 rfl (lv_at hl 0 rfl) ?_
      obtain ⟨S43, e42, h⟩ := bd_e h
      refine u_cVv X M hl.1 (kX12_remember hD e42) cw_X12_190 ⟨by decide, by decide⟩ (rc_X12 X M hD) rfl rfl (Nat.le_of_ble_eq_true rfl) ⟨Nat.zero_le _, Nat.zero_le _⟩ dX12_up_37 (fun H locs M => ?_)
      refine lv_aload_n hx hb dX12_up_40 rfl (lv_at hl 0 rfl) ?_
      refine gf_X12_13 X M hD dX12_up_41 ?_
      refine lv_iload_n hx hb dX12_up_44 rfl (lv_at hl 1 rfl) ?_
      obtain ⟨x46, r48, e45, h⟩ := bd2_e h
      have M := um_in2 2 M
      refine u_cSi X M hl.1 (kX12_upOn (uArD2 hD) e45) cw_X12_113 ⟨by decide, by decide⟩ rfl rfl (Nat.le_of_ble_eq_true rfl) ⟨Nat.zero_le _, Nat.zero_le _⟩ dX12_up_45 (fun H locs M n50 => ?_)
      obtain ⟨S47, e49, h⟩ := lt_e h
      rw [← e49] at M
      exact u_iret X hret M (rt2 h).1 (congrArg (va_up V 19) ((rt2 h).2)) rfl dX12_up_48
    · have h := it_f h c41
      refine lv_iconst (v := 0) hx hb dX12_up_34 (by decide) ?_
      exact u_iret X hret M (rt2 h).1 (congrArg (va_up V 19) ((rt2 h).2)) rfl dX12_up_35
def fX12_open (S : (Nat → Nat → Int32)) (a1 : Int32) : Option (Int32 × (Nat → Nat → Int32)) :=
  lt_ (fX12_isGate  a1) fun x2 =>
  if x2 = 0 then
    bd2 (fX12_refused S 1) fun x6 S7 =>
    if x6 = 0 then
      bd (fX12_remember S7) fun S11 =>
      bd2 (fX12_openOn (S11 2) a1) fun x14 r16 =>
      lt_ (va_up S11 2 r16) fun S15 =>
      some (x14, S15)
    else
      some (0, S7)
  else
    bd2 (fX12_refused S 0) fun x20 S21 =>
    if x20 = 0 then
      bd (fX12_remember S21) fun S25 =>
      bd2 (fX12_openOn (S25 2) a1) fun x28 r30 =>
      lt_ (va_up S25 2 r30) fun S29 =>
      some (x28, S29)
    else
      some (0, S21)
set_option maxHeartbeats 4000000 in
set_option maxRecDepth 20000 in
theorem kX12_open {l : Launch} {G : UG} {V : uV} (hD : uMd G) {S S' : (Nat → Nat → Int32)} {a1 : Int32} {r : Int32} (h : fX12_open S a1 = some (r, S')) : uMi l G yX12_open cX12_open 2 .int (uR 2 45) [.ref (ga G 19 0), .int a1] (va_up V 19 S) r (va_up V 19 S') := by
  refine uMi_of rfl (Nat.le_of_ble_eq_true rfl) (fun p e s m args below meth c ls X hret hl M => ?_)
  have hl : lv_has ls 2 [(0, .ref (ga G 19 0)), (1, .int a1)] := hl
  have hx := X.hx
  have hb := X.hb
  unfold fX12_open at h
  refine lv_aload_n hx hb dX12_open_0 rfl (lv_at hl 0 rfl) ?_
  refine lv_iload_n hx hb dX12_open_1 rfl (lv_at hl 1 rfl) ?_
  obtain ⟨x2, e1, h⟩ := lt_e h
  refine u_cSi X M hl.1 (kX12_isGate  e1.symm) cw_X12_183 ⟨by decide, by decide⟩ rfl rfl (Nat.le_of_ble_eq_true rfl) ⟨Nat.zero_le _, Nat.zero_le _⟩ dX12_open_2 (fun H locs M n3 => ?_)
  refine lv_if_eq (tgt := 12) hx hb dX12_open_5 (by decide) (fun c4 => ?_) (fun c4 => ?_)
  · have h := it_t h c4
    refine lv_iconst (v := 1) hx hb dX12_open_12 (by decide) ?_
    obtain ⟨x6, S7, e5, h⟩ := bd2_e h
    refine u_cVi X M hl.1 (kX12_refused hD e5) cw_X12_101 ⟨by decide, by decide⟩ (rc_X12 X M hD) rfl rfl (Nat.le_of_ble_eq_true rfl) ⟨Nat.zero_le _, Nat.zero_le _⟩ dX12_open_13 (fun H locs M n8 => ?_)
    refine lv_if_eq (tgt := 21) hx hb dX12_open_16 (by decide) (fun c9 => ?_) (fun c9 => ?_)
    · have h := it_t h c9
      refine lv_aload_n hx hb dX12_open_21 rfl (lv_at hl 0 rfl) ?_
      obtain ⟨S11, e10, h⟩ := bd_e h
      refine u_cVv X M hl.1 (kX12_remember hD e10) cw_X12_190 ⟨by decide, by decide⟩ (rc_X12 X M hD) rfl rfl (Nat.le_of_ble_eq_true rfl) ⟨Nat.zero_le _, Nat.zero_le _⟩ dX12_open_22 (fun H locs M => ?_)
      refine lv_aload_n hx hb dX12_open_25 rfl (lv_at hl 0 rfl) ?_
      refine gf_X12_13 X M hD dX12_open_26 ?_
      refine lv_iload_n hx hb dX12_open_29 rfl (lv_at hl 1 rfl) ?_
      obtain ⟨x14, r16, e13, h⟩ := bd2_e h
      have M := um_in2 2 M
      refine u_cSi X M hl.1 (kX12_openOn (uArD2 hD) e13) cw_X12_153 ⟨by decide, by decide⟩ rfl rfl (Nat.le_of_ble_eq_true rfl) ⟨Nat.zero_le _, Nat.zero_le _⟩ dX12_open_30 (fun H locs M n18 => ?_)
      obtain ⟨S15, e17, h⟩ := lt_e h
      rw [← e17] at M
      exact u_iret X hret M (rt2 h).1 (congrArg (va_up V 19) ((rt2 h).2)) rfl dX12_open_33
    · have h := it_f h c9
      refine lv_iconst (v := 0) hx hb dX12_open_19 (by decide) ?_
      exact u_iret X hret M (rt2 h).1 (congrArg (va_up V 19) ((rt2 h).2)) rfl dX12_open_20
  · have h := it_f h c4
    refine lv_iconst (v := 0) hx hb dX12_open_8 (by decide) ?_
    refine lv_goto (tgt := 13) hx hb dX12_open_9 (by decide) ?_
    obtain ⟨x20, S21, e19, h⟩ := bd2_e h
    refine u_cVi X M hl.1 (kX12_refused hD e19) cw_X12_101 ⟨by decide, by decide⟩ (rc_X12 X M hD) rfl rfl (Nat.le_of_ble_eq_true rfl) ⟨Nat.zero_le _, Nat.zero_le _⟩ dX12_open_13 (fun H locs M n22 => ?_)
    refine lv_if_eq (tgt := 21) hx hb dX12_open_16 (by decide) (fun c23 => ?_) (fun c23 => ?_)
    · have h := it_t h c23
      refine lv_aload_n hx hb dX12_open_21 rfl (lv_at hl 0 rfl) ?_
      obtain ⟨S25, e24, h⟩ := bd_e h
      refine u_cVv X M hl.1 (kX12_remember hD e24) cw_X12_190 ⟨by decide, by decide⟩ (rc_X12 X M hD) rfl rfl (Nat.le_of_ble_eq_true rfl) ⟨Nat.zero_le _, Nat.zero_le _⟩ dX12_open_22 (fun H locs M => ?_)
      refine lv_aload_n hx hb dX12_open_25 rfl (lv_at hl 0 rfl) ?_
      refine gf_X12_13 X M hD dX12_open_26 ?_
      refine lv_iload_n hx hb dX12_open_29 rfl (lv_at hl 1 rfl) ?_
      obtain ⟨x28, r30, e27, h⟩ := bd2_e h
      have M := um_in2 2 M
      refine u_cSi X M hl.1 (kX12_openOn (uArD2 hD) e27) cw_X12_153 ⟨by decide, by decide⟩ rfl rfl (Nat.le_of_ble_eq_true rfl) ⟨Nat.zero_le _, Nat.zero_le _⟩ dX12_open_30 (fun H locs M n32 => ?_)
      obtain ⟨S29, e31, h⟩ := lt_e h
      rw [← e31] at M
      exact u_iret X hret M (rt2 h).1 (congrArg (va_up V 19) ((rt2 h).2)) rfl dX12_open_33
    · have h := it_f h c23
      refine lv_iconst (v := 0) hx hb dX12_open_19 (by decide) ?_
      exact u_iret X hret M (rt2 h).1 (congrArg (va_up V 19) ((rt2 h).2)) rfl dX12_open_20
def fX12_fare (S : (Nat → Nat → Int32)) (a1 : Int32) (a2 : Int32) : Option (Int32 × (Nat → Nat → Int32)) :=
  lt_ (fX12_isGate  a1) fun x2 =>
  if x2 = 0 then
    bd2 (fX12_refused S 1) fun x50 S51 =>
    if x50 = 0 then
      bd (fX12_remember S51) fun S55 =>
      lt_ (fX12_gateAt  a1) fun x58 =>
      gd (inb (x58 + 0) 1272) <|
      lt_ (S55 2 ((x58 + 0) : Int32).toNatClampNeg) fun x61 =>
      lt_ (fX12_gateAt  a1) fun x64 =>
      gd (inb (x64 + 0) 1272) <|
      lt_ (va_up S55 2 (upd (S55 2) ((x64 + 0) : Int32).toNatClampNeg a2)) fun S67 =>
      some (x61, S67)
    else
      some (0, S51)
  else
    lt_ (fX12_in  ((a2 : Int32).toInt64) 1 9) fun x6 =>
    if x6 = 0 then
      bd2 (fX12_refused S 2) fun x10 S11 =>
      if x10 = 0 then
        bd (fX12_remember S11) fun S15 =>
        lt_ (fX12_gateAt  a1) fun x18 =>
        gd (inb (x18 + 0) 1272) <|
        lt_ (S15 2 ((x18 + 0) : Int32).toNatClampNeg) fun x21 =>
        lt_ (fX12_gateAt  a1) fun x24 =>
        gd (inb (x24 + 0) 1272) <|
        lt_ (va_up S15 2 (upd (S15 2) ((x24 + 0) : Int32).toNatClampNeg a2)) fun S27 =>
        some (x21, S27)
      else
        some (0, S11)
    else
      bd2 (fX12_refused S 0) fun x30 S31 =>
      if x30 = 0 then
        bd (fX12_remember S31) fun S35 =>
        lt_ (fX12_gateAt  a1) fun x38 =>
        gd (inb (x38 + 0) 1272) <|
        lt_ (S35 2 ((x38 + 0) : Int32).toNatClampNeg) fun x41 =>
        lt_ (fX12_gateAt  a1) fun x44 =>
        gd (inb (x44 + 0) 1272) <|
        lt_ (va_up S35 2 (upd (S35 2) ((x44 + 0) : Int32).toNatClampNeg a2)) fun S47 =>
        some (x41, S47)
      else
        some (0, S31)
set_option maxHeartbeats 4000000 in
set_option maxRecDepth 20000 in
theorem kX12_fare {l : Launch} {G : UG} {V : uV} (hD : uMd G) {S S' : (Nat → Nat → Int32)} {a1 : Int32} {a2 : Int32} {r : Int32} (h : fX12_fare S a1 a2 = some (r, S')) : uMi l G yX12_fare cX12_fare 4 .int (uR 2 45) [.ref (ga G 19 0), .int a1, .int a2] (va_up V 19 S) r (va_up V 19 S') := by
  refine uMi_of rfl (Nat.le_of_ble_eq_true rfl) (fun p e s m args below meth c ls X hret hl M => ?_)
  have hl : lv_has ls 4 [(0, .ref (ga G 19 0)), (1, .int a1), (2, .int a2)] := hl
  have hx := X.hx
  have hb := X.hb
  unfold fX12_fare at h
  refine lv_aload_n hx hb dX12_fare_0 rfl (lv_at hl 0 rfl) ?_
  refine lv_iload_n hx hb dX12_fare_1 rfl (lv_at hl 1 rfl) ?_
  obtain ⟨x2, e1, h⟩ := lt_e h
  refine u_cSi X M hl.1 (kX12_isGate  e1.symm) cw_X12_183 ⟨by decide, by decide⟩ rfl rfl (Nat.le_of_ble_eq_true rfl) ⟨Nat.zero_le _, Nat.zero_le _⟩ dX12_fare_2 (fun H locs M n3 => ?_)
  refine lv_if_ne (tgt := 12) hx hb dX12_fare_5 (by decide) (fun c4 => ?_) (fun c4 => ?_)
  · have h := it_f h c4
    refine lv_iload_n hx hb dX12_fare_12 rfl (lv_at hl 2 rfl) ?_
    refine lv_i2l hx hb dX12_fare_13 rfl ?_
    refine lv_lconst (v := 1) hx hb dX12_fare_14 rfl ?_
    refine lv_ldc2 (v := 9) hx hb X.1.2.2.2.1 (X.hts (gt_in 1135 (by decide +kernel) (by decide +kernel))) dX12_fare_15 ?_
    obtain ⟨x6, e5, h⟩ := lt_e h
    refine u_cSi X M hl.1 (kX12_in  e5.symm) cw_X12_44 ⟨by decide, by decide⟩ rfl rfl (Nat.le_of_ble_eq_true rfl) ⟨Nat.zero_le _, Nat.zero_le _⟩ dX12_fare_18 (fun H locs M n7 => ?_)
    refine lv_if_eq (tgt := 28) hx hb dX12_fare_21 (by decide) (fun c8 => ?_) (fun c8 => ?_)
    · have h := it_t h c8
      refine lv_iconst (v := 2) hx hb dX12_fare_28 (by decide) ?_
      obtain ⟨x10, S11, e9, h⟩ := bd2_e h
      refine u_cVi X M hl.1 (kX12_refused hD e9) cw_X12_101 ⟨by decide, by decide⟩ (rc_X12 X M hD) rfl rfl (Nat.le_of_ble_eq_true rfl) ⟨Nat.zero_le _, Nat.zero_le _⟩ dX12_fare_29 (fun H locs M n12 => ?_)
      refine lv_if_eq (tgt := 37) hx hb dX12_fare_32 (by decide) (fun c13 => ?_) (fun c13 => ?_)
      · have h := it_t h c13
        refine lv_aload_n hx hb dX12_fare_37 rfl (lv_at hl 0 rfl) ?_
        obtain ⟨S15, e14, h⟩ := bd_e h
        refine u_cVv X M hl.1 (kX12_remember hD e14) cw_X12_190 ⟨by decide, by decide⟩ (rc_X12 X M hD) rfl rfl (Nat.le_of_ble_eq_true rfl) ⟨Nat.zero_le _, Nat.zero_le _⟩ dX12_fare_38 (fun H locs M => ?_)
        refine lv_aload_n hx hb dX12_fare_41 rfl (lv_at hl 0 rfl) ?_
        refine gf_X12_13 X M hD dX12_fare_42 ?_
        refine lv_iload_n hx hb dX12_fare_45 rfl (lv_at hl 1 rfl) ?_
        obtain ⟨x18, e17, h⟩ := lt_e h
        refine u_cSi X M hl.1 (kX12_gateAt  e17.symm) cw_X12_40 ⟨by decide, by decide⟩ rfl rfl (Nat.le_of_ble_eq_true rfl) ⟨Nat.zero_le _, Nat.zero_le _⟩ dX12_fare_46 (fun H locs M n19 => ?_)
        refine lv_iconst (v := 0) hx hb dX12_fare_49 (by decide) ?_
        refine lv_iadd hx hb dX12_fare_50 ?_
        obtain ⟨g20, h⟩ := gd_e h
        obtain ⟨x21, e22, h⟩ := lt_e h
        refine u_ald X M (hD 2 (by decide)) (uAd_sh uSh_md2 (congrFun (va_up_s V 19 _) 2)) (inb_e g20) e22 dX12_fare_51 ?_
        refine lv_istore_n (lv' := [(3, .int x21), (0, .ref (ga G 19 0)), (1, .int a1), (2, .int a2)]) hx hb dX12_fare_52 rfl hl (by decide) rfl (fun ls hl => ?_)
        refine lv_aload_n hx hb dX12_fare_53 rfl (lv_at hl 1 rfl) ?_
        refine gf_X12_13 X M hD dX12_fare_54 ?_
        refine lv_iload_n hx hb dX12_fare_57 rfl (lv_at hl 2 rfl) ?_
        obtain ⟨x24, e23, h⟩ := lt_e h
        refine u_cSi X M hl.1 (kX12_gateAt  e23.symm) cw_X12_40 ⟨by decide, by decide⟩ rfl rfl (Nat.le_of_ble_eq_true rfl) ⟨Nat.zero_le _, Nat.zero_le _⟩ dX12_fare_58 (fun H locs M n25 => ?_)
        refine lv_iconst (v := 0) hx hb dX12_fare_61 (by decide) ?_
        refine lv_iadd hx hb dX12_fare_62 ?_
        refine lv_iload_n hx hb dX12_fare_63 rfl (lv_at hl 3 rfl) ?_
        obtain ⟨g26, h⟩ := gd_e h
        obtain ⟨S27, e28, h⟩ := lt_e h
        refine u_ast_b X M (hD 2 (by decide)) uSh_md2 (inb_e g26) e28 dX12_fare_64 (fun H locs M => ?_)
        refine lv_iload_n hx hb dX12_fare_65 rfl (lv_at hl 0 rfl) ?_
        exact u_iret X hret M (rt2 h).1 (congrArg (va_up V 19) ((rt2 h).2)) rfl dX12_fare_66
      · have h := it_f h c13
        refine lv_iconst (v := 0) hx hb dX12_fare_35 (by decide) ?_
        exact u_iret X hret M (rt2 h).1 (congrArg (va_up V 19) ((rt2 h).2)) rfl dX12_fare_36
    · have h := it_f h c8
      refine lv_iconst (v := 0) hx hb dX12_fare_24 (by decide) ?_
      refine lv_goto (tgt := 29) hx hb dX12_fare_25 (by decide) ?_
      obtain ⟨x30, S31, e29, h⟩ := bd2_e h
      refine u_cVi X M hl.1 (kX12_refused hD e29) cw_X12_101 ⟨by decide, by decide⟩ (rc_X12 X M hD) rfl rfl (Nat.le_of_ble_eq_true rfl) ⟨Nat.zero_le _, Nat.zero_le _⟩ dX12_fare_29 (fun H locs M n32 => ?_)
      refine lv_if_eq (tgt := 37) hx hb dX12_fare_32 (by decide) (fun c33 => ?_) (fun c33 => ?_)
      · have h := it_t h c33
        refine lv_aload_n hx hb dX12_fare_37 rfl (lv_at hl 0 rfl) ?_
        obtain ⟨S35, e34, h⟩ := bd_e h
        refine u_cVv X M hl.1 (kX12_remember hD e34) cw_X12_190 ⟨by decide, by decide⟩ (rc_X12 X M hD) rfl rfl (Nat.le_of_ble_eq_true rfl) ⟨Nat.zero_le _, Nat.zero_le _⟩ dX12_fare_38 (fun H locs M => ?_)
        refine lv_aload_n hx hb dX12_fare_41 rfl (lv_at hl 0 rfl) ?_
        refine gf_X12_13 X M hD dX12_fare_42 ?_
        refine lv_iload_n hx hb dX12_fare_45 rfl (lv_at hl 1 rfl) ?_
        obtain ⟨x38, e37, h⟩ := lt_e h
        refine u_cSi X M hl.1 (kX12_gateAt  e37.symm) cw_X12_40 ⟨by decide, by decide⟩ rfl rfl (Nat.le_of_ble_eq_true rfl) ⟨Nat.zero_le _, Nat.zero_le _⟩ dX12_fare_46 (fun H locs M n39 => ?_)
        refine lv_iconst (v := 0) hx hb dX12_fare_49 (by decide) ?_
        refine lv_iadd hx hb dX12_fare_50 ?_
        obtain ⟨g40, h⟩ := gd_e h
        obtain ⟨x41, e42, h⟩ := lt_e h
        refine u_ald X M (hD 2 (by decide)) (uAd_sh uSh_md2 (congrFun (va_up_s V 19 _) 2)) (inb_e g40) e42 dX12_fare_51 ?_
        refine lv_istore_n (lv' := [(3, .int x41), (0, .ref (ga G 19 0)), (1, .int a1), (2, .int a2)]) hx hb dX12_fare_52 rfl hl (by decide) rfl (fun ls hl => ?_)
        refine lv_aload_n hx hb dX12_fare_53 rfl (lv_at hl 1 rfl) ?_
        refine gf_X12_13 X M hD dX12_fare_54 ?_
        refine lv_iload_n hx hb dX12_fare_57 rfl (lv_at hl 2 rfl) ?_
        obtain ⟨x44, e43, h⟩ := lt_e h
        refine u_cSi X M hl.1 (kX12_gateAt  e43.symm) cw_X12_40 ⟨by decide, by decide⟩ rfl rfl (Nat.le_of_ble_eq_true rfl) ⟨Nat.zero_le _, Nat.zero_le _⟩ dX12_fare_58 (fun H locs M n45 => ?_)
        refine lv_iconst (v := 0) hx hb dX12_fare_61 (by decide) ?_
        refine lv_iadd hx hb dX12_fare_62 ?_
        refine lv_iload_n hx hb dX12_fare_63 rfl (lv_at hl 3 rfl) ?_
        obtain ⟨g46, h⟩ := gd_e h
        obtain ⟨S47, e48, h⟩ := lt_e h
        refine u_ast_b X M (hD 2 (by decide)) uSh_md2 (inb_e g46) e48 dX12_fare_64 (fun H locs M => ?_)
        refine lv_iload_n hx hb dX12_fare_65 rfl (lv_at hl 0 rfl) ?_
        exact u_iret X hret M (rt2 h).1 (congrArg (va_up V 19) ((rt2 h).2)) rfl dX12_fare_66
      · have h := it_f h c33
        refine lv_iconst (v := 0) hx hb dX12_fare_35 (by decide) ?_
        exact u_iret X hret M (rt2 h).1 (congrArg (va_up V 19) ((rt2 h).2)) rfl dX12_fare_36
  · have h := it_t h c4
    refine lv_iconst (v := 1) hx hb dX12_fare_8 (by decide) ?_
    refine lv_goto (tgt := 29) hx hb dX12_fare_9 (by decide) ?_
    obtain ⟨x50, S51, e49, h⟩ := bd2_e h
    refine u_cVi X M hl.1 (kX12_refused hD e49) cw_X12_101 ⟨by decide, by decide⟩ (rc_X12 X M hD) rfl rfl (Nat.le_of_ble_eq_true rfl) ⟨Nat.zero_le _, Nat.zero_le _⟩ dX12_fare_29 (fun H locs M n52 => ?_)
    refine lv_if_eq (tgt := 37) hx hb dX12_fare_32 (by decide) (fun c53 => ?_) (fun c53 => ?_)
    · have h := it_t h c53
      refine lv_aload_n hx hb dX12_fare_37 rfl (lv_at hl 0 rfl) ?_
      obtain ⟨S55, e54, h⟩ := bd_e h
      refine u_cVv X M hl.1 (kX12_remember hD e54) cw_X12_190 ⟨by decide, by decide⟩ (rc_X12 X M hD) rfl rfl (Nat.le_of_ble_eq_true rfl) ⟨Nat.zero_le _, Nat.zero_le _⟩ dX12_fare_38 (fun H locs M => ?_)
      refine lv_aload_n hx hb dX12_fare_41 rfl (lv_at hl 0 rfl) ?_
      refine gf_X12_13 X M hD dX12_fare_42 ?_
      refine lv_iload_n hx hb dX12_fare_45 rfl (lv_at hl 1 rfl) ?_
      obtain ⟨x58, e57, h⟩ := lt_e h
      refine u_cSi X M hl.1 (kX12_gateAt  e57.symm) cw_X12_40 ⟨by decide, by decide⟩ rfl rfl (Nat.le_of_ble_eq_true rfl) ⟨Nat.zero_le _, Nat.zero_le _⟩ dX12_fare_46 (fun H locs M n59 => ?_)
      refine lv_iconst (v := 0) hx hb dX12_fare_49 (by decide) ?_
      refine lv_iadd hx hb dX12_fare_50 ?_
      obtain ⟨g60, h⟩ := gd_e h
      obtain ⟨x61, e62, h⟩ := lt_e h
      refine u_ald X M (hD 2 (by decide)) (uAd_sh uSh_md2 (congrFun (va_up_s V 19 _) 2)) (inb_e g60) e62 dX12_fare_51 ?_
      refine lv_istore_n (lv' := [(3, .int x61), (0, .ref (ga G 19 0)), (1, .int a1), (2, .int a2)]) hx hb dX12_fare_52 rfl hl (by decide) rfl (fun ls hl => ?_)
      refine lv_aload_n hx hb dX12_fare_53 rfl (lv_at hl 1 rfl) ?_
      refine gf_X12_13 X M hD dX12_fare_54 ?_
      refine lv_iload_n hx hb dX12_fare_57 rfl (lv_at hl 2 rfl) ?_
      obtain ⟨x64, e63, h⟩ := lt_e h
      refine u_cSi X M hl.1 (kX12_gateAt  e63.symm) cw_X12_40 ⟨by decide, by decide⟩ rfl rfl (Nat.le_of_ble_eq_true rfl) ⟨Nat.zero_le _, Nat.zero_le _⟩ dX12_fare_58 (fun H locs M n65 => ?_)
      refine lv_iconst (v := 0) hx hb dX12_fare_61 (by decide) ?_
      refine lv_iadd hx hb dX12_fare_62 ?_
      refine lv_iload_n hx hb dX12_fare_63 rfl (lv_at hl 3 rfl) ?_
      obtain ⟨g66, h⟩ := gd_e h
      obtain ⟨S67, e68, h⟩ := lt_e h
      refine u_ast_b X M (hD 2 (by decide)) uSh_md2 (inb_e g66) e68 dX12_fare_64 (fun H locs M => ?_)
      refine lv_iload_n hx hb dX12_fare_65 rfl (lv_at hl 0 rfl) ?_
      exact u_iret X hret M (rt2 h).1 (congrArg (va_up V 19) ((rt2 h).2)) rfl dX12_fare_66
    · have h := it_f h c53
      refine lv_iconst (v := 0) hx hb dX12_fare_35 (by decide) ?_
      exact u_iret X hret M (rt2 h).1 (congrArg (va_up V 19) ((rt2 h).2)) rfl dX12_fare_36
def fX12_run (S : (Nat → Nat → Int32)) (a1 : Int32) : Option (Int32 × (Nat → Nat → Int32)) :=
  lt_ (fX12_in  ((a1 : Int32).toInt64) 1 60) fun x2 =>
  if x2 = 0 then
    bd2 (fX12_refused S 1) fun x6 S7 =>
    if x6 = 0 then
      bd (fX12_remember S7) fun S11 =>
      bd2 (fX12_runOn (S11 2) a1) fun x14 r16 =>
      lt_ (va_up S11 2 r16) fun S15 =>
      some (x14, S15)
    else
      some (0, S7)
  else
    bd2 (fX12_refused S 0) fun x20 S21 =>
    if x20 = 0 then
      bd (fX12_remember S21) fun S25 =>
      bd2 (fX12_runOn (S25 2) a1) fun x28 r30 =>
      lt_ (va_up S25 2 r30) fun S29 =>
      some (x28, S29)
    else
      some (0, S21)
set_option maxHeartbeats 4000000 in
set_option maxRecDepth 20000 in
theorem kX12_run {l : Launch} {G : UG} {V : uV} (hD : uMd G) {S S' : (Nat → Nat → Int32)} {a1 : Int32} {r : Int32} (h : fX12_run S a1 = some (r, S')) : uMi l G yX12_run cX12_run 2 .int (uR 2 45) [.ref (ga G 19 0), .int a1] (va_up V 19 S) r (va_up V 19 S') := by
  refine uMi_of rfl (Nat.le_of_ble_eq_true rfl) (fun p e s m args below meth c ls X hret hl M => ?_)
  have hl : lv_has ls 2 [(0, .ref (ga G 19 0)), (1, .int a1)] := hl
  have hx := X.hx
  have hb := X.hb
  unfold fX12_run at h
  refine lv_aload_n hx hb dX12_run_0 rfl (lv_at hl 0 rfl) ?_
  refine lv_iload_n hx hb dX12_run_1 rfl (lv_at hl 1 rfl) ?_
  refine lv_i2l hx hb dX12_run_2 rfl ?_
  refine lv_lconst (v := 1) hx hb dX12_run_3 rfl ?_
  refine lv_ldc2 (v := 60) hx hb X.1.2.2.2.1 (X.hts (gt_in 1302 (by decide +kernel) (by decide +kernel))) dX12_run_4 ?_
  obtain ⟨x2, e1, h⟩ := lt_e h
  refine u_cSi X M hl.1 (kX12_in  e1.symm) cw_X12_44 ⟨by decide, by decide⟩ rfl rfl (Nat.le_of_ble_eq_true rfl) ⟨Nat.zero_le _, Nat.zero_le _⟩ dX12_run_7 (fun H locs M n3 => ?_)
  refine lv_if_eq (tgt := 17) hx hb dX12_run_10 (by decide) (fun c4 => ?_) (fun c4 => ?_)
  · have h := it_t h c4
    refine lv_iconst (v := 1) hx hb dX12_run_17 (by decide) ?_
    obtain ⟨x6, S7, e5, h⟩ := bd2_e h
    refine u_cVi X M hl.1 (kX12_refused hD e5) cw_X12_101 ⟨by decide, by decide⟩ (rc_X12 X M hD) rfl rfl (Nat.le_of_ble_eq_true rfl) ⟨Nat.zero_le _, Nat.zero_le _⟩ dX12_run_18 (fun H locs M n8 => ?_)
    refine lv_if_eq (tgt := 26) hx hb dX12_run_21 (by decide) (fun c9 => ?_) (fun c9 => ?_)
    · have h := it_t h c9
      refine lv_aload_n hx hb dX12_run_26 rfl (lv_at hl 0 rfl) ?_
      obtain ⟨S11, e10, h⟩ := bd_e h
      refine u_cVv X M hl.1 (kX12_remember hD e10) cw_X12_190 ⟨by decide, by decide⟩ (rc_X12 X M hD) rfl rfl (Nat.le_of_ble_eq_true rfl) ⟨Nat.zero_le _, Nat.zero_le _⟩ dX12_run_27 (fun H locs M => ?_)
      refine lv_aload_n hx hb dX12_run_30 rfl (lv_at hl 0 rfl) ?_
      refine gf_X12_13 X M hD dX12_run_31 ?_
      refine lv_iload_n hx hb dX12_run_34 rfl (lv_at hl 1 rfl) ?_
      obtain ⟨x14, r16, e13, h⟩ := bd2_e h
      have M := um_in2 2 M
      refine u_cSi X M hl.1 (kX12_runOn (uArD2 hD) e13) cw_X12_156 ⟨by decide, by decide⟩ rfl rfl (Nat.le_of_ble_eq_true rfl) ⟨Nat.zero_le _, Nat.zero_le _⟩ dX12_run_35 (fun H locs M n18 => ?_)
      obtain ⟨S15, e17, h⟩ := lt_e h
      rw [← e17] at M
      exact u_iret X hret M (rt2 h).1 (congrArg (va_up V 19) ((rt2 h).2)) rfl dX12_run_38
    · have h := it_f h c9
      refine lv_iconst (v := 0) hx hb dX12_run_24 (by decide) ?_
      exact u_iret X hret M (rt2 h).1 (congrArg (va_up V 19) ((rt2 h).2)) rfl dX12_run_25
  · have h := it_f h c4
    refine lv_iconst (v := 0) hx hb dX12_run_13 (by decide) ?_
    refine lv_goto (tgt := 18) hx hb dX12_run_14 (by decide) ?_
    obtain ⟨x20, S21, e19, h⟩ := bd2_e h
    refine u_cVi X M hl.1 (kX12_refused hD e19) cw_X12_101 ⟨by decide, by decide⟩ (rc_X12 X M hD) rfl rfl (Nat.le_of_ble_eq_true rfl) ⟨Nat.zero_le _, Nat.zero_le _⟩ dX12_run_18 (fun H locs M n22 => ?_)
    refine lv_if_eq (tgt := 26) hx hb dX12_run_21 (by decide) (fun c23 => ?_) (fun c23 => ?_)
    · have h := it_t h c23
      refine lv_aload_n hx hb dX12_run_26 rfl (lv_at hl 0 rfl) ?_
      obtain ⟨S25, e24, h⟩ := bd_e h
      refine u_cVv X M hl.1 (kX12_remember hD e24) cw_X12_190 ⟨by decide, by decide⟩ (rc_X12 X M hD) rfl rfl (Nat.le_of_ble_eq_true rfl) ⟨Nat.zero_le _, Nat.zero_le _⟩ dX12_run_27 (fun H locs M => ?_)
      refine lv_aload_n hx hb dX12_run_30 rfl (lv_at hl 0 rfl) ?_
      refine gf_X12_13 X M hD dX12_run_31 ?_
      refine lv_iload_n hx hb dX12_run_34 rfl (lv_at hl 1 rfl) ?_
      obtain ⟨x28, r30, e27, h⟩ := bd2_e h
      have M := um_in2 2 M
      refine u_cSi X M hl.1 (kX12_runOn (uArD2 hD) e27) cw_X12_156 ⟨by decide, by decide⟩ rfl rfl (Nat.le_of_ble_eq_true rfl) ⟨Nat.zero_le _, Nat.zero_le _⟩ dX12_run_35 (fun H locs M n32 => ?_)
      obtain ⟨S29, e31, h⟩ := lt_e h
      rw [← e31] at M
      exact u_iret X hret M (rt2 h).1 (congrArg (va_up V 19) ((rt2 h).2)) rfl dX12_run_38
    · have h := it_f h c23
      refine lv_iconst (v := 0) hx hb dX12_run_24 (by decide) ?_
      exact u_iret X hret M (rt2 h).1 (congrArg (va_up V 19) ((rt2 h).2)) rfl dX12_run_25
def fX12_set (S : (Nat → Nat → Int32)) (a1 : Int32) (a2 : Int32) : Option (Int32 × (Nat → Nat → Int32)) :=
  lt_ (fX12_isSetting  a1 a2) fun x2 =>
  if x2 = 0 then
    bd2 (fX12_refused S 1) fun x6 S7 =>
    if x6 = 0 then
      bd (fX12_remember S7) fun S11 =>
      gd (inb (8 + a1) 1272) <|
      lt_ (S11 2 ((8 + a1) : Int32).toNatClampNeg) fun x14 =>
      lt_ (va_up S11 2 (upd (S11 2) ((8 + a1) : Int32).toNatClampNeg a2)) fun S16 =>
      some (x14, S16)
    else
      some (0, S7)
  else
    bd2 (fX12_refused S 0) fun x19 S20 =>
    if x19 = 0 then
      bd (fX12_remember S20) fun S24 =>
      gd (inb (8 + a1) 1272) <|
      lt_ (S24 2 ((8 + a1) : Int32).toNatClampNeg) fun x27 =>
      lt_ (va_up S24 2 (upd (S24 2) ((8 + a1) : Int32).toNatClampNeg a2)) fun S29 =>
      some (x27, S29)
    else
      some (0, S20)
set_option maxHeartbeats 4000000 in
set_option maxRecDepth 20000 in
theorem kX12_set {l : Launch} {G : UG} {V : uV} (hD : uMd G) {S S' : (Nat → Nat → Int32)} {a1 : Int32} {a2 : Int32} {r : Int32} (h : fX12_set S a1 a2 = some (r, S')) : uMi l G yX12_set cX12_set 4 .int (uR 2 46) [.ref (ga G 19 0), .int a1, .int a2] (va_up V 19 S) r (va_up V 19 S') := by
  refine uMi_of rfl (Nat.le_of_ble_eq_true rfl) (fun p e s m args below meth c ls X hret hl M => ?_)
  have hl : lv_has ls 4 [(0, .ref (ga G 19 0)), (1, .int a1), (2, .int a2)] := hl
  have hx := X.hx
  have hb := X.hb
  unfold fX12_set at h
  refine lv_aload_n hx hb dX12_set_0 rfl (lv_at hl 0 rfl) ?_
  refine lv_iload_n hx hb dX12_set_1 rfl (lv_at hl 1 rfl) ?_
  refine lv_iload_n hx hb dX12_set_2 rfl (lv_at hl 2 rfl) ?_
  obtain ⟨x2, e1, h⟩ := lt_e h
  refine u_cSi X M hl.1 (kX12_isSetting  e1.symm) cw_X12_198 ⟨by decide, by decide⟩ rfl rfl (Nat.le_of_ble_eq_true rfl) ⟨Nat.zero_le _, Nat.zero_le _⟩ dX12_set_3 (fun H locs M n3 => ?_)
  refine lv_if_eq (tgt := 13) hx hb dX12_set_6 (by decide) (fun c4 => ?_) (fun c4 => ?_)
  · have h := it_t h c4
    refine lv_iconst (v := 1) hx hb dX12_set_13 (by decide) ?_
    obtain ⟨x6, S7, e5, h⟩ := bd2_e h
    refine u_cVi X M hl.1 (kX12_refused hD e5) cw_X12_101 ⟨by decide, by decide⟩ (rc_X12 X M hD) rfl rfl (Nat.le_of_ble_eq_true rfl) ⟨Nat.zero_le _, Nat.zero_le _⟩ dX12_set_14 (fun H locs M n8 => ?_)
    refine lv_if_eq (tgt := 22) hx hb dX12_set_17 (by decide) (fun c9 => ?_) (fun c9 => ?_)
    · have h := it_t h c9
      refine lv_aload_n hx hb dX12_set_22 rfl (lv_at hl 0 rfl) ?_
      obtain ⟨S11, e10, h⟩ := bd_e h
      refine u_cVv X M hl.1 (kX12_remember hD e10) cw_X12_190 ⟨by decide, by decide⟩ (rc_X12 X M hD) rfl rfl (Nat.le_of_ble_eq_true rfl) ⟨Nat.zero_le _, Nat.zero_le _⟩ dX12_set_23 (fun H locs M => ?_)
      refine lv_aload_n hx hb dX12_set_26 rfl (lv_at hl 0 rfl) ?_
      refine gf_X12_13 X M hD dX12_set_27 ?_
      refine lv_bipush (v := 8) hx hb dX12_set_30 (by decide) ?_
      refine lv_iload_n hx hb dX12_set_32 rfl (lv_at hl 1 rfl) ?_
      refine lv_iadd hx hb dX12_set_33 ?_
      obtain ⟨g13, h⟩ := gd_e h
      obtain ⟨x14, e15, h⟩ := lt_e h
      refine u_ald X M (hD 2 (by decide)) (uAd_sh uSh_md2 (congrFun (va_up_s V 19 _) 2)) (inb_e g13) e15 dX12_set_34 ?_
      refine lv_istore_n (lv' := [(3, .int x14), (0, .ref (ga G 19 0)), (1, .int a1), (2, .int a2)]) hx hb dX12_set_35 rfl hl (by decide) rfl (fun ls hl => ?_)
      refine lv_aload_n hx hb dX12_set_36 rfl (lv_at hl 1 rfl) ?_
      refine gf_X12_13 X M hD dX12_set_37 ?_
      refine lv_bipush (v := 8) hx hb dX12_set_40 (by decide) ?_
      refine lv_iload_n hx hb dX12_set_42 rfl (lv_at hl 2 rfl) ?_
      refine lv_iadd hx hb dX12_set_43 ?_
      refine lv_iload_n hx hb dX12_set_44 rfl (lv_at hl 3 rfl) ?_
      obtain ⟨S16, e17, h⟩ := lt_e h
      refine u_ast_b X M (hD 2 (by decide)) uSh_md2 (inb_e g13) e17 dX12_set_45 (fun H locs M => ?_)
      refine lv_iload_n hx hb dX12_set_46 rfl (lv_at hl 0 rfl) ?_
      exact u_iret X hret M (rt2 h).1 (congrArg (va_up V 19) ((rt2 h).2)) rfl dX12_set_47
    · have h := it_f h c9
      refine lv_iconst (v := 0) hx hb dX12_set_20 (by decide) ?_
      exact u_iret X hret M (rt2 h).1 (congrArg (va_up V 19) ((rt2 h).2)) rfl dX12_set_21
  · have h := it_f h c4
    refine lv_iconst (v := 0) hx hb dX12_set_9 (by decide) ?_
    refine lv_goto (tgt := 14) hx hb dX12_set_10 (by decide) ?_
    obtain ⟨x19, S20, e18, h⟩ := bd2_e h
    refine u_cVi X M hl.1 (kX12_refused hD e18) cw_X12_101 ⟨by decide, by decide⟩ (rc_X12 X M hD) rfl rfl (Nat.le_of_ble_eq_true rfl) ⟨Nat.zero_le _, Nat.zero_le _⟩ dX12_set_14 (fun H locs M n21 => ?_)
    refine lv_if_eq (tgt := 22) hx hb dX12_set_17 (by decide) (fun c22 => ?_) (fun c22 => ?_)
    · have h := it_t h c22
      refine lv_aload_n hx hb dX12_set_22 rfl (lv_at hl 0 rfl) ?_
      obtain ⟨S24, e23, h⟩ := bd_e h
      refine u_cVv X M hl.1 (kX12_remember hD e23) cw_X12_190 ⟨by decide, by decide⟩ (rc_X12 X M hD) rfl rfl (Nat.le_of_ble_eq_true rfl) ⟨Nat.zero_le _, Nat.zero_le _⟩ dX12_set_23 (fun H locs M => ?_)
      refine lv_aload_n hx hb dX12_set_26 rfl (lv_at hl 0 rfl) ?_
      refine gf_X12_13 X M hD dX12_set_27 ?_
      refine lv_bipush (v := 8) hx hb dX12_set_30 (by decide) ?_
      refine lv_iload_n hx hb dX12_set_32 rfl (lv_at hl 1 rfl) ?_
      refine lv_iadd hx hb dX12_set_33 ?_
      obtain ⟨g26, h⟩ := gd_e h
      obtain ⟨x27, e28, h⟩ := lt_e h
      refine u_ald X M (hD 2 (by decide)) (uAd_sh uSh_md2 (congrFun (va_up_s V 19 _) 2)) (inb_e g26) e28 dX12_set_34 ?_
      refine lv_istore_n (lv' := [(3, .int x27), (0, .ref (ga G 19 0)), (1, .int a1), (2, .int a2)]) hx hb dX12_set_35 rfl hl (by decide) rfl (fun ls hl => ?_)
      refine lv_aload_n hx hb dX12_set_36 rfl (lv_at hl 1 rfl) ?_
      refine gf_X12_13 X M hD dX12_set_37 ?_
      refine lv_bipush (v := 8) hx hb dX12_set_40 (by decide) ?_
      refine lv_iload_n hx hb dX12_set_42 rfl (lv_at hl 2 rfl) ?_
      refine lv_iadd hx hb dX12_set_43 ?_
      refine lv_iload_n hx hb dX12_set_44 rfl (lv_at hl 3 rfl) ?_
      obtain ⟨S29, e30, h⟩ := lt_e h
      refine u_ast_b X M (hD 2 (by decide)) uSh_md2 (inb_e g26) e30 dX12_set_45 (fun H locs M => ?_)
      refine lv_iload_n hx hb dX12_set_46 rfl (lv_at hl 0 rfl) ?_
      exact u_iret X hret M (rt2 h).1 (congrArg (va_up V 19) ((rt2 h).2)) rfl dX12_set_47
    · have h := it_f h c22
      refine lv_iconst (v := 0) hx hb dX12_set_20 (by decide) ?_
      exact u_iret X hret M (rt2 h).1 (congrArg (va_up V 19) ((rt2 h).2)) rfl dX12_set_21
def fX12_undo (S : (Nat → Nat → Int32)) : Option (Int32 × (Nat → Nat → Int32)) :=
  lt_ (S 0 7) fun x1 =>
  if x1 = 0 then
    bd2 (fX12_refused S 1) fun x22 S23 =>
    if x22 = 0 then
      lt_ (S23 0 7) fun x26 =>
      lt_ (va_up S23 0 (upd (S23 0) 7 (x26 - 1))) fun S28 =>
      lt_ (S28 0 7) fun x30 =>
      bd (fcp 17808 (S28 5) (1272 * x30) 1272 (S28 2) 0) fun r32 =>
      lt_ (va_up S28 2 r32) fun S34 =>
      lt_ (S34 0 7) fun x36 =>
      some (x36, S34)
    else
      some (0, S23)
  else
    bd2 (fX12_refused S 0) fun x5 S6 =>
    if x5 = 0 then
      lt_ (S6 0 7) fun x9 =>
      lt_ (va_up S6 0 (upd (S6 0) 7 (x9 - 1))) fun S11 =>
      lt_ (S11 0 7) fun x13 =>
      bd (fcp 17808 (S11 5) (1272 * x13) 1272 (S11 2) 0) fun r15 =>
      lt_ (va_up S11 2 r15) fun S17 =>
      lt_ (S17 0 7) fun x19 =>
      some (x19, S17)
    else
      some (0, S6)
set_option maxHeartbeats 4000000 in
set_option maxRecDepth 20000 in
theorem kX12_undo {l : Launch} {G : UG} {V : uV} (hD : uMd G) {S S' : (Nat → Nat → Int32)}  {r : Int32} (h : fX12_undo S = some (r, S')) : uMi l G yX12_undo cX12_undo 1 .int (uR 1 24) [.ref (ga G 19 0)] (va_up V 19 S) r (va_up V 19 S') := by
  refine uMi_of rfl (Nat.le_of_ble_eq_true rfl) (fun p e s m args below meth c ls X hret hl M => ?_)
  have hl : lv_has ls 1 [(0, .ref (ga G 19 0))] := hl
  have hx := X.hx
  have hb := X.hb
  unfold fX12_undo at h
  refine lv_aload_n hx hb dX12_undo_0 rfl (lv_at hl 0 rfl) ?_
  refine lv_aload_n hx hb dX12_undo_1 rfl (lv_at hl 0 rfl) ?_
  obtain ⟨x1, e2, h⟩ := lt_e h
  refine gf_X12_169 X M hD (va_up_s V 19 _) e2 dX12_undo_2 ?_
  refine lv_if_ne (tgt := 12) hx hb dX12_undo_5 (by decide) (fun c3 => ?_) (fun c3 => ?_)
  · have h := it_f h c3
    refine lv_iconst (v := 0) hx hb dX12_undo_12 (by decide) ?_
    obtain ⟨x5, S6, e4, h⟩ := bd2_e h
    refine u_cVi X M hl.1 (kX12_refused hD e4) cw_X12_101 ⟨by decide, by decide⟩ (rc_X12 X M hD) rfl rfl (Nat.le_of_ble_eq_true rfl) ⟨Nat.zero_le _, Nat.zero_le _⟩ dX12_undo_13 (fun H locs M n7 => ?_)
    refine lv_if_eq (tgt := 21) hx hb dX12_undo_16 (by decide) (fun c8 => ?_) (fun c8 => ?_)
    · have h := it_t h c8
      refine lv_aload_n hx hb dX12_undo_21 rfl (lv_at hl 0 rfl) ?_
      refine lv_dup hx hb dX12_undo_22 rfl ?_
      obtain ⟨x9, e10, h⟩ := lt_e h
      refine gf_X12_169 X M hD (va_up_s V 19 _) e10 dX12_undo_23 ?_
      refine lv_iconst (v := 1) hx hb dX12_undo_26 (by decide) ?_
      refine lv_isub hx hb dX12_undo_27 ?_
      obtain ⟨S11, e12, h⟩ := lt_e h
      refine pf_X12_169 X M hD e12 dX12_undo_28 (fun H locs M => ?_)
      refine lv_aload_n hx hb dX12_undo_31 rfl (lv_at hl 0 rfl) ?_
      refine gf_X12_22 X M hD dX12_undo_32 ?_
      refine lv_sipush (v := 1272) hx hb dX12_undo_35 (by decide) ?_
      refine lv_aload_n hx hb dX12_undo_38 rfl (lv_at hl 0 rfl) ?_
      obtain ⟨x13, e14, h⟩ := lt_e h
      refine gf_X12_169 X M hD (va_up_s V 19 _) e14 dX12_undo_39 ?_
      refine lv_imul hx hb dX12_undo_42 ?_
      refine lv_aload_n hx hb dX12_undo_43 rfl (lv_at hl 0 rfl) ?_
      refine gf_X12_13 X M hD dX12_undo_44 ?_
      refine lv_iconst (v := 0) hx hb dX12_undo_47 (by decide) ?_
      obtain ⟨r15, e16, h⟩ := bd_e h
      refine u_cSv X M hl.1 (kX12_copyState hD (o1 := 5) (o2 := 2) (by decide) (by decide) (by decide) uSh_md5 uSh_md2 (by decide) (by decide) e16) cw_X12_165 ⟨by decide, by decide⟩ rfl rfl (Nat.le_of_ble_eq_true rfl) ⟨Nat.zero_le _, Nat.zero_le _⟩ dX12_undo_48 (fun H locs M => ?_)
      obtain ⟨S17, e18, h⟩ := lt_e h
      rw [← e18] at M
      refine lv_aload_n hx hb dX12_undo_51 rfl (lv_at hl 0 rfl) ?_
      obtain ⟨x19, e20, h⟩ := lt_e h
      refine gf_X12_169 X M hD (va_up_s V 19 _) e20 dX12_undo_52 ?_
      exact u_iret X hret M (rt2 h).1 (congrArg (va_up V 19) ((rt2 h).2)) rfl dX12_undo_55
    · have h := it_f h c8
      refine lv_iconst (v := 0) hx hb dX12_undo_19 (by decide) ?_
      exact u_iret X hret M (rt2 h).1 (congrArg (va_up V 19) ((rt2 h).2)) rfl dX12_undo_20
  · have h := it_t h c3
    refine lv_iconst (v := 1) hx hb dX12_undo_8 (by decide) ?_
    refine lv_goto (tgt := 13) hx hb dX12_undo_9 (by decide) ?_
    obtain ⟨x22, S23, e21, h⟩ := bd2_e h
    refine u_cVi X M hl.1 (kX12_refused hD e21) cw_X12_101 ⟨by decide, by decide⟩ (rc_X12 X M hD) rfl rfl (Nat.le_of_ble_eq_true rfl) ⟨Nat.zero_le _, Nat.zero_le _⟩ dX12_undo_13 (fun H locs M n24 => ?_)
    refine lv_if_eq (tgt := 21) hx hb dX12_undo_16 (by decide) (fun c25 => ?_) (fun c25 => ?_)
    · have h := it_t h c25
      refine lv_aload_n hx hb dX12_undo_21 rfl (lv_at hl 0 rfl) ?_
      refine lv_dup hx hb dX12_undo_22 rfl ?_
      obtain ⟨x26, e27, h⟩ := lt_e h
      refine gf_X12_169 X M hD (va_up_s V 19 _) e27 dX12_undo_23 ?_
      refine lv_iconst (v := 1) hx hb dX12_undo_26 (by decide) ?_
      refine lv_isub hx hb dX12_undo_27 ?_
      obtain ⟨S28, e29, h⟩ := lt_e h
      refine pf_X12_169 X M hD e29 dX12_undo_28 (fun H locs M => ?_)
      refine lv_aload_n hx hb dX12_undo_31 rfl (lv_at hl 0 rfl) ?_
      refine gf_X12_22 X M hD dX12_undo_32 ?_
      refine lv_sipush (v := 1272) hx hb dX12_undo_35 (by decide) ?_
      refine lv_aload_n hx hb dX12_undo_38 rfl (lv_at hl 0 rfl) ?_
      obtain ⟨x30, e31, h⟩ := lt_e h
      refine gf_X12_169 X M hD (va_up_s V 19 _) e31 dX12_undo_39 ?_
      refine lv_imul hx hb dX12_undo_42 ?_
      refine lv_aload_n hx hb dX12_undo_43 rfl (lv_at hl 0 rfl) ?_
      refine gf_X12_13 X M hD dX12_undo_44 ?_
      refine lv_iconst (v := 0) hx hb dX12_undo_47 (by decide) ?_
      obtain ⟨r32, e33, h⟩ := bd_e h
      refine u_cSv X M hl.1 (kX12_copyState hD (o1 := 5) (o2 := 2) (by decide) (by decide) (by decide) uSh_md5 uSh_md2 (by decide) (by decide) e33) cw_X12_165 ⟨by decide, by decide⟩ rfl rfl (Nat.le_of_ble_eq_true rfl) ⟨Nat.zero_le _, Nat.zero_le _⟩ dX12_undo_48 (fun H locs M => ?_)
      obtain ⟨S34, e35, h⟩ := lt_e h
      rw [← e35] at M
      refine lv_aload_n hx hb dX12_undo_51 rfl (lv_at hl 0 rfl) ?_
      obtain ⟨x36, e37, h⟩ := lt_e h
      refine gf_X12_169 X M hD (va_up_s V 19 _) e37 dX12_undo_52 ?_
      exact u_iret X hret M (rt2 h).1 (congrArg (va_up V 19) ((rt2 h).2)) rfl dX12_undo_55
    · have h := it_f h c25
      refine lv_iconst (v := 0) hx hb dX12_undo_19 (by decide) ?_
      exact u_iret X hret M (rt2 h).1 (congrArg (va_up V 19) ((rt2 h).2)) rfl dX12_undo_20
def fX12_would (S : (Nat → Nat → Int32)) (a1 : Int32) (a2 : Int32) : Option (Int32 × (Nat → Nat → Int32)) :=
  bd (fX12_isCard (S 2) a1) fun x2 =>
  if x2 = 0 then
    bd2 (fX12_refused S 1) fun x6 S7 =>
    if x6 = 0 then
      bd (fcp 1272 (S7 2) 0 1272 (S7 3) 0) fun r10 =>
      lt_ (va_up S7 3 r10) fun S12 =>
      bd2 (fX12_rideOn (S12 3) a1 a2) fun x15 r17 =>
      lt_ (va_up S12 3 r17) fun S16 =>
      some (x15, S16)
    else
      some (0, S7)
  else
    lt_ (fX12_isGate  a2) fun x21 =>
    if x21 = 0 then
      bd2 (fX12_refused S 1) fun x25 S26 =>
      if x25 = 0 then
        bd (fcp 1272 (S26 2) 0 1272 (S26 3) 0) fun r29 =>
        lt_ (va_up S26 3 r29) fun S31 =>
        bd2 (fX12_rideOn (S31 3) a1 a2) fun x34 r36 =>
        lt_ (va_up S31 3 r36) fun S35 =>
        some (x34, S35)
      else
        some (0, S26)
    else
      bd2 (fX12_refused S 0) fun x40 S41 =>
      if x40 = 0 then
        bd (fcp 1272 (S41 2) 0 1272 (S41 3) 0) fun r44 =>
        lt_ (va_up S41 3 r44) fun S46 =>
        bd2 (fX12_rideOn (S46 3) a1 a2) fun x49 r51 =>
        lt_ (va_up S46 3 r51) fun S50 =>
        some (x49, S50)
      else
        some (0, S41)
set_option maxHeartbeats 4000000 in
set_option maxRecDepth 20000 in
theorem kX12_would {l : Launch} {G : UG} {V : uV} (hD : uMd G) {S S' : (Nat → Nat → Int32)} {a1 : Int32} {a2 : Int32} {r : Int32} (h : fX12_would S a1 a2 = some (r, S')) : uMi l G yX12_would cX12_would 3 .int (uR 6 137) [.ref (ga G 19 0), .int a1, .int a2] (va_up V 19 S) r (va_up V 19 S') := by
  refine uMi_of rfl (Nat.le_of_ble_eq_true rfl) (fun p e s m args below meth c ls X hret hl M => ?_)
  have hl : lv_has ls 3 [(0, .ref (ga G 19 0)), (1, .int a1), (2, .int a2)] := hl
  have hx := X.hx
  have hb := X.hb
  unfold fX12_would at h
  refine lv_aload_n hx hb dX12_would_0 rfl (lv_at hl 0 rfl) ?_
  refine lv_aload_n hx hb dX12_would_1 rfl (lv_at hl 0 rfl) ?_
  refine gf_X12_13 X M hD dX12_would_2 ?_
  refine lv_iload_n hx hb dX12_would_5 rfl (lv_at hl 1 rfl) ?_
  obtain ⟨x2, e1, h⟩ := bd_e h
  refine u_cSi X M hl.1 (kX12_isCard (uArD2 hD) (congrFun (va_up_s V 19 _) 2) e1) cw_X12_87 ⟨by decide, by decide⟩ rfl rfl (Nat.le_of_ble_eq_true rfl) ⟨Nat.zero_le _, Nat.zero_le _⟩ dX12_would_6 (fun H locs M n3 => ?_)
  refine lv_if_eq (tgt := 23) hx hb dX12_would_9 (by decide) (fun c4 => ?_) (fun c4 => ?_)
  · have h := it_t h c4
    refine lv_iconst (v := 1) hx hb dX12_would_23 (by decide) ?_
    obtain ⟨x6, S7, e5, h⟩ := bd2_e h
    refine u_cVi X M hl.1 (kX12_refused hD e5) cw_X12_101 ⟨by decide, by decide⟩ (rc_X12 X M hD) rfl rfl (Nat.le_of_ble_eq_true rfl) ⟨Nat.zero_le _, Nat.zero_le _⟩ dX12_would_24 (fun H locs M n8 => ?_)
    refine lv_if_eq (tgt := 32) hx hb dX12_would_27 (by decide) (fun c9 => ?_) (fun c9 => ?_)
    · have h := it_t h c9
      refine lv_aload_n hx hb dX12_would_32 rfl (lv_at hl 0 rfl) ?_
      refine gf_X12_13 X M hD dX12_would_33 ?_
      refine lv_iconst (v := 0) hx hb dX12_would_36 (by decide) ?_
      refine lv_aload_n hx hb dX12_would_37 rfl (lv_at hl 0 rfl) ?_
      refine gf_X12_16 X M hD dX12_would_38 ?_
      refine lv_iconst (v := 0) hx hb dX12_would_41 (by decide) ?_
      obtain ⟨r10, e11, h⟩ := bd_e h
      refine u_cSv X M hl.1 (kX12_copyState hD (o1 := 2) (o2 := 3) (by decide) (by decide) (by decide) uSh_md2 uSh_md3 (by decide) (by decide) e11) cw_X12_165 ⟨by decide, by decide⟩ rfl rfl (Nat.le_of_ble_eq_true rfl) ⟨Nat.zero_le _, Nat.zero_le _⟩ dX12_would_42 (fun H locs M => ?_)
      obtain ⟨S12, e13, h⟩ := lt_e h
      rw [← e13] at M
      refine lv_aload_n hx hb dX12_would_45 rfl (lv_at hl 0 rfl) ?_
      refine gf_X12_16 X M hD dX12_would_46 ?_
      refine lv_iload_n hx hb dX12_would_49 rfl (lv_at hl 1 rfl) ?_
      refine lv_iload_n hx hb dX12_would_50 rfl (lv_at hl 2 rfl) ?_
      obtain ⟨x15, r17, e14, h⟩ := bd2_e h
      have M := um_in2 3 M
      refine u_cSi X M hl.1 (kX12_rideOn (uArD3 hD) e14) cw_X12_140 ⟨by decide, by decide⟩ rfl rfl (Nat.le_of_ble_eq_true rfl) ⟨Nat.zero_le _, Nat.zero_le _⟩ dX12_would_51 (fun H locs M n19 => ?_)
      obtain ⟨S16, e18, h⟩ := lt_e h
      rw [← e18] at M
      exact u_iret X hret M (rt2 h).1 (congrArg (va_up V 19) ((rt2 h).2)) rfl dX12_would_54
    · have h := it_f h c9
      refine lv_iconst (v := 0) hx hb dX12_would_30 (by decide) ?_
      exact u_iret X hret M (rt2 h).1 (congrArg (va_up V 19) ((rt2 h).2)) rfl dX12_would_31
  · have h := it_f h c4
    refine lv_iload_n hx hb dX12_would_12 rfl (lv_at hl 2 rfl) ?_
    obtain ⟨x21, e20, h⟩ := lt_e h
    refine u_cSi X M hl.1 (kX12_isGate  e20.symm) cw_X12_183 ⟨by decide, by decide⟩ rfl rfl (Nat.le_of_ble_eq_true rfl) ⟨Nat.zero_le _, Nat.zero_le _⟩ dX12_would_13 (fun H locs M n22 => ?_)
    refine lv_if_eq (tgt := 23) hx hb dX12_would_16 (by decide) (fun c23 => ?_) (fun c23 => ?_)
    · have h := it_t h c23
      refine lv_iconst (v := 1) hx hb dX12_would_23 (by decide) ?_
      obtain ⟨x25, S26, e24, h⟩ := bd2_e h
      refine u_cVi X M hl.1 (kX12_refused hD e24) cw_X12_101 ⟨by decide, by decide⟩ (rc_X12 X M hD) rfl rfl (Nat.le_of_ble_eq_true rfl) ⟨Nat.zero_le _, Nat.zero_le _⟩ dX12_would_24 (fun H locs M n27 => ?_)
      refine lv_if_eq (tgt := 32) hx hb dX12_would_27 (by decide) (fun c28 => ?_) (fun c28 => ?_)
      · have h := it_t h c28
        refine lv_aload_n hx hb dX12_would_32 rfl (lv_at hl 0 rfl) ?_
        refine gf_X12_13 X M hD dX12_would_33 ?_
        refine lv_iconst (v := 0) hx hb dX12_would_36 (by decide) ?_
        refine lv_aload_n hx hb dX12_would_37 rfl (lv_at hl 0 rfl) ?_
        refine gf_X12_16 X M hD dX12_would_38 ?_
        refine lv_iconst (v := 0) hx hb dX12_would_41 (by decide) ?_
        obtain ⟨r29, e30, h⟩ := bd_e h
        refine u_cSv X M hl.1 (kX12_copyState hD (o1 := 2) (o2 := 3) (by decide) (by decide) (by decide) uSh_md2 uSh_md3 (by decide) (by decide) e30) cw_X12_165 ⟨by decide, by decide⟩ rfl rfl (Nat.le_of_ble_eq_true rfl) ⟨Nat.zero_le _, Nat.zero_le _⟩ dX12_would_42 (fun H locs M => ?_)
        obtain ⟨S31, e32, h⟩ := lt_e h
        rw [← e32] at M
        refine lv_aload_n hx hb dX12_would_45 rfl (lv_at hl 0 rfl) ?_
        refine gf_X12_16 X M hD dX12_would_46 ?_
        refine lv_iload_n hx hb dX12_would_49 rfl (lv_at hl 1 rfl) ?_
        refine lv_iload_n hx hb dX12_would_50 rfl (lv_at hl 2 rfl) ?_
        obtain ⟨x34, r36, e33, h⟩ := bd2_e h
        have M := um_in2 3 M
        refine u_cSi X M hl.1 (kX12_rideOn (uArD3 hD) e33) cw_X12_140 ⟨by decide, by decide⟩ rfl rfl (Nat.le_of_ble_eq_true rfl) ⟨Nat.zero_le _, Nat.zero_le _⟩ dX12_would_51 (fun H locs M n38 => ?_)
        obtain ⟨S35, e37, h⟩ := lt_e h
        rw [← e37] at M
        exact u_iret X hret M (rt2 h).1 (congrArg (va_up V 19) ((rt2 h).2)) rfl dX12_would_54
      · have h := it_f h c28
        refine lv_iconst (v := 0) hx hb dX12_would_30 (by decide) ?_
        exact u_iret X hret M (rt2 h).1 (congrArg (va_up V 19) ((rt2 h).2)) rfl dX12_would_31
    · have h := it_f h c23
      refine lv_iconst (v := 0) hx hb dX12_would_19 (by decide) ?_
      refine lv_goto (tgt := 24) hx hb dX12_would_20 (by decide) ?_
      obtain ⟨x40, S41, e39, h⟩ := bd2_e h
      refine u_cVi X M hl.1 (kX12_refused hD e39) cw_X12_101 ⟨by decide, by decide⟩ (rc_X12 X M hD) rfl rfl (Nat.le_of_ble_eq_true rfl) ⟨Nat.zero_le _, Nat.zero_le _⟩ dX12_would_24 (fun H locs M n42 => ?_)
      refine lv_if_eq (tgt := 32) hx hb dX12_would_27 (by decide) (fun c43 => ?_) (fun c43 => ?_)
      · have h := it_t h c43
        refine lv_aload_n hx hb dX12_would_32 rfl (lv_at hl 0 rfl) ?_
        refine gf_X12_13 X M hD dX12_would_33 ?_
        refine lv_iconst (v := 0) hx hb dX12_would_36 (by decide) ?_
        refine lv_aload_n hx hb dX12_would_37 rfl (lv_at hl 0 rfl) ?_
        refine gf_X12_16 X M hD dX12_would_38 ?_
        refine lv_iconst (v := 0) hx hb dX12_would_41 (by decide) ?_
        obtain ⟨r44, e45, h⟩ := bd_e h
        refine u_cSv X M hl.1 (kX12_copyState hD (o1 := 2) (o2 := 3) (by decide) (by decide) (by decide) uSh_md2 uSh_md3 (by decide) (by decide) e45) cw_X12_165 ⟨by decide, by decide⟩ rfl rfl (Nat.le_of_ble_eq_true rfl) ⟨Nat.zero_le _, Nat.zero_le _⟩ dX12_would_42 (fun H locs M => ?_)
        obtain ⟨S46, e47, h⟩ := lt_e h
        rw [← e47] at M
        refine lv_aload_n hx hb dX12_would_45 rfl (lv_at hl 0 rfl) ?_
        refine gf_X12_16 X M hD dX12_would_46 ?_
        refine lv_iload_n hx hb dX12_would_49 rfl (lv_at hl 1 rfl) ?_
        refine lv_iload_n hx hb dX12_would_50 rfl (lv_at hl 2 rfl) ?_
        obtain ⟨x49, r51, e48, h⟩ := bd2_e h
        have M := um_in2 3 M
        refine u_cSi X M hl.1 (kX12_rideOn (uArD3 hD) e48) cw_X12_140 ⟨by decide, by decide⟩ rfl rfl (Nat.le_of_ble_eq_true rfl) ⟨Nat.zero_le _, Nat.zero_le _⟩ dX12_would_51 (fun H locs M n53 => ?_)
        obtain ⟨S50, e52, h⟩ := lt_e h
        rw [← e52] at M
        exact u_iret X hret M (rt2 h).1 (congrArg (va_up V 19) ((rt2 h).2)) rfl dX12_would_54
      · have h := it_f h c43
        refine lv_iconst (v := 0) hx hb dX12_would_30 (by decide) ?_
        exact u_iret X hret M (rt2 h).1 (congrArg (va_up V 19) ((rt2 h).2)) rfl dX12_would_31
def fX12_rides_L47 (n : Nat) (S : (Nat → Nat → Int32)) (y1 : Int32) (y2 : Int32) (y3 : Int32) : Option (Int32 × (Nat → Nat → Int32)) :=
  match n with
  | 0 => none
  | n + 1 =>
    if 100 ≤ y3 then
      some (100, S)
    else
      gd (inb 9 1272) <|
      lt_ (S 3 (9 : Int32).toNatClampNeg) fun x16 =>
      bd2 (fX12_runOn (S 3) x16) fun x19 r21 =>
      lt_ (va_up S 3 r21) fun S20 =>
      bd2 (fX12_rideOn (S20 3) y1 y2) fun x25 r27 =>
      lt_ (va_up S20 3 r27) fun S26 =>
      lt_ (fX12_isThrough  x25) fun x31 =>
      if x31 = 0 then
        some (y3, S26)
      else
        lt_ (y3 + 1) fun x34 =>
        fX12_rides_L47 n S26 y1 y2 x34
set_option maxHeartbeats 4000000 in
set_option maxRecDepth 20000 in
theorem lpX12_rides_47 {l : Launch} {G : UG} {V : uV} (hD : uMd G) {S' : (Nat → Nat → Int32)} {r : Int32} {p : Program} {e : Env} {s : State} {m : MethodId} {args : Array Value} {below : List Frame} {meth : Method} {c : Code} (X : UC p s m args meth c cX12_rides 4 RX12 G) (hret : meth.sig.returnType = some .int) : ∀ (n : Nat) (S : (Nat → Nat → Int32)) (y1 : Int32) (y2 : Int32) (y3 : Int32) (H : Heap) (locs : List Loc) (ls : Array Slot), fX12_rides_L47  n S y1 y2 y3 = some (r, S') → UM G (va_up V 19 S) s H locs → lv_has ls 4 [(0, .ref (ga G 19 0)), (1, .int y1), (2, .int y2), (3, .int y3)] → W p l e (uR 6 137) s m args below meth c H locs 0 0 (MQ below (uQi G .int r (va_up V 19 S')) args s 0 0 (uA G)) (F0 m 47 ls []) := by
  intro n
  have hx := X.hx
  have hb := X.hb
  induction n with
  | zero => intro S y1 y2 y3 H locs ls h M hl; rw [fX12_rides_L47] at h; cases h
  | succ n ih =>
    intro S y1 y2 y3 H locs ls h M hl
    rw [fX12_rides_L47] at h
    refine lv_iload_n hx hb dX12_rides_47 rfl (lv_at hl 3 rfl) ?_
    refine lv_bipush (v := 100) hx hb dX12_rides_48 (by decide) ?_
    refine lv_icmp_ge (tgt := 91) hx hb dX12_rides_50 (by decide) (fun c14 => ?_) (fun c14 => ?_)
    · have h := it_t h c14
      refine lv_bipush (v := 100) hx hb dX12_rides_91 (by decide) ?_
      exact u_iret X hret M (rt2 h).1 (congrArg (va_up V 19) ((rt2 h).2)) rfl dX12_rides_93
    · have h := it_f h c14
      refine lv_aload_n hx hb dX12_rides_53 rfl (lv_at hl 0 rfl) ?_
      refine gf_X12_16 X M hD dX12_rides_54 ?_
      refine lv_aload_n hx hb dX12_rides_57 rfl (lv_at hl 0 rfl) ?_
      refine gf_X12_16 X M hD dX12_rides_58 ?_
      refine lv_bipush (v := 9) hx hb dX12_rides_61 (by decide) ?_
      obtain ⟨g15, h⟩ := gd_e h
      obtain ⟨x16, e17, h⟩ := lt_e h
      refine u_ald X M (hD 3 (by decide)) (uAd_sh uSh_md3 (congrFun (va_up_s V 19 _) 3)) (inb_e g15) e17 dX12_rides_63 ?_
      obtain ⟨x19, r21, e18, h⟩ := bd2_e h
      have M := um_in2 3 M
      refine u_cSi X M hl.1 (kX12_runOn (uArD3 hD) e18) cw_X12_156 ⟨by decide, by decide⟩ rfl rfl (Nat.le_of_ble_eq_true rfl) ⟨Nat.zero_le _, Nat.zero_le _⟩ dX12_rides_64 (fun H locs M n23 => ?_)
      obtain ⟨S20, e22, h⟩ := lt_e h
      rw [← e22] at M
      refine lv_pop hx hb dX12_rides_67 rfl ?_
      refine lv_aload_n hx hb dX12_rides_68 rfl (lv_at hl 0 rfl) ?_
      refine gf_X12_16 X M hD dX12_rides_69 ?_
      refine lv_iload_n hx hb dX12_rides_72 rfl (lv_at hl 1 rfl) ?_
      refine lv_iload_n hx hb dX12_rides_73 rfl (lv_at hl 2 rfl) ?_
      obtain ⟨x25, r27, e24, h⟩ := bd2_e h
      have M := um_in2 3 M
      refine u_cSi X M hl.1 (kX12_rideOn (uArD3 hD) e24) cw_X12_140 ⟨by decide, by decide⟩ rfl rfl (Nat.le_of_ble_eq_true rfl) ⟨Nat.zero_le _, Nat.zero_le _⟩ dX12_rides_74 (fun H locs M n29 => ?_)
      obtain ⟨S26, e28, h⟩ := lt_e h
      rw [← e28] at M
      obtain ⟨x31, e30, h⟩ := lt_e h
      refine u_cSi X M hl.1 (kX12_isThrough  e30.symm) cw_X12_202 ⟨by decide, by decide⟩ rfl rfl (Nat.le_of_ble_eq_true rfl) ⟨Nat.zero_le _, Nat.zero_le _⟩ dX12_rides_77 (fun H locs M n32 => ?_)
      refine lv_if_ne (tgt := 85) hx hb dX12_rides_80 (by decide) (fun c33 => ?_) (fun c33 => ?_)
      · have h := it_f h c33
        obtain ⟨x34, e35, h⟩ := lt_e h
        refine lv_iinc (v := x34) (lv' := [(3, .int x34), (0, .ref (ga G 19 0)), (1, .int y1), (2, .int y2)]) hx hb dX12_rides_85 hl (k := 3) rfl (by rw [e35]; rfl) (by decide) rfl (fun ls hl => ?_)
        refine lv_goto (tgt := 47) hx hb dX12_rides_88 (by decide) ?_
        exact ih _ _ _ _ _ _ _ h M (lv_sub hl [1, 2, 3, 0] rfl)
      · have h := it_t h c33
        refine lv_iload_n hx hb dX12_rides_83 rfl (lv_at hl 3 rfl) ?_
        exact u_iret X hret M (rt2 h).1 (congrArg (va_up V 19) ((rt2 h).2)) rfl dX12_rides_84
def fX12_rides (S : (Nat → Nat → Int32)) (a1 : Int32) (a2 : Int32) : Option (Int32 × (Nat → Nat → Int32)) :=
  bd (fX12_isCard (S 2) a1) fun x2 =>
  if x2 = 0 then
    bd2 (fX12_refused S 1) fun x6 S7 =>
    if x6 = 0 then
      bd (fcp 1272 (S7 2) 0 1272 (S7 3) 0) fun r10 =>
      lt_ (va_up S7 3 r10) fun S12 =>
      fX12_rides_L47 3000 S12 a1 a2 0
    else
      some (0, S7)
  else
    lt_ (fX12_isGate  a2) fun x37 =>
    if x37 = 0 then
      bd2 (fX12_refused S 1) fun x41 S42 =>
      if x41 = 0 then
        bd (fcp 1272 (S42 2) 0 1272 (S42 3) 0) fun r45 =>
        lt_ (va_up S42 3 r45) fun S47 =>
        fX12_rides_L47 3000 S47 a1 a2 0
      else
        some (0, S42)
    else
      bd2 (fX12_refused S 0) fun x50 S51 =>
      if x50 = 0 then
        bd (fcp 1272 (S51 2) 0 1272 (S51 3) 0) fun r54 =>
        lt_ (va_up S51 3 r54) fun S56 =>
        fX12_rides_L47 3000 S56 a1 a2 0
      else
        some (0, S51)
set_option maxHeartbeats 4000000 in
set_option maxRecDepth 20000 in
theorem kX12_rides {l : Launch} {G : UG} {V : uV} (hD : uMd G) {S S' : (Nat → Nat → Int32)} {a1 : Int32} {a2 : Int32} {r : Int32} (h : fX12_rides S a1 a2 = some (r, S')) : uMi l G yX12_rides cX12_rides 4 .int (uR 6 137) [.ref (ga G 19 0), .int a1, .int a2] (va_up V 19 S) r (va_up V 19 S') := by
  refine uMi_of rfl (Nat.le_of_ble_eq_true rfl) (fun p e s m args below meth c ls X hret hl M => ?_)
  have hl : lv_has ls 4 [(0, .ref (ga G 19 0)), (1, .int a1), (2, .int a2)] := hl
  have hx := X.hx
  have hb := X.hb
  unfold fX12_rides at h
  refine lv_aload_n hx hb dX12_rides_0 rfl (lv_at hl 0 rfl) ?_
  refine lv_aload_n hx hb dX12_rides_1 rfl (lv_at hl 0 rfl) ?_
  refine gf_X12_13 X M hD dX12_rides_2 ?_
  refine lv_iload_n hx hb dX12_rides_5 rfl (lv_at hl 1 rfl) ?_
  obtain ⟨x2, e1, h⟩ := bd_e h
  refine u_cSi X M hl.1 (kX12_isCard (uArD2 hD) (congrFun (va_up_s V 19 _) 2) e1) cw_X12_87 ⟨by decide, by decide⟩ rfl rfl (Nat.le_of_ble_eq_true rfl) ⟨Nat.zero_le _, Nat.zero_le _⟩ dX12_rides_6 (fun H locs M n3 => ?_)
  refine lv_if_eq (tgt := 23) hx hb dX12_rides_9 (by decide) (fun c4 => ?_) (fun c4 => ?_)
  · have h := it_t h c4
    refine lv_iconst (v := 1) hx hb dX12_rides_23 (by decide) ?_
    obtain ⟨x6, S7, e5, h⟩ := bd2_e h
    refine u_cVi X M hl.1 (kX12_refused hD e5) cw_X12_101 ⟨by decide, by decide⟩ (rc_X12 X M hD) rfl rfl (Nat.le_of_ble_eq_true rfl) ⟨Nat.zero_le _, Nat.zero_le _⟩ dX12_rides_24 (fun H locs M n8 => ?_)
    refine lv_if_eq (tgt := 32) hx hb dX12_rides_27 (by decide) (fun c9 => ?_) (fun c9 => ?_)
    · have h := it_t h c9
      refine lv_aload_n hx hb dX12_rides_32 rfl (lv_at hl 0 rfl) ?_
      refine gf_X12_13 X M hD dX12_rides_33 ?_
      refine lv_iconst (v := 0) hx hb dX12_rides_36 (by decide) ?_
      refine lv_aload_n hx hb dX12_rides_37 rfl (lv_at hl 0 rfl) ?_
      refine gf_X12_16 X M hD dX12_rides_38 ?_
      refine lv_iconst (v := 0) hx hb dX12_rides_41 (by decide) ?_
      obtain ⟨r10, e11, h⟩ := bd_e h
      refine u_cSv X M hl.1 (kX12_copyState hD (o1 := 2) (o2 := 3) (by decide) (by decide) (by decide) uSh_md2 uSh_md3 (by decide) (by decide) e11) cw_X12_165 ⟨by decide, by decide⟩ rfl rfl (Nat.le_of_ble_eq_true rfl) ⟨Nat.zero_le _, Nat.zero_le _⟩ dX12_rides_42 (fun H locs M => ?_)
      obtain ⟨S12, e13, h⟩ := lt_e h
      rw [← e13] at M
      refine lv_iconst (v := 0) hx hb dX12_rides_45 (by decide) ?_
      refine lv_istore_n (lv' := [(3, .int 0), (0, .ref (ga G 19 0)), (1, .int a1), (2, .int a2)]) hx hb dX12_rides_46 rfl hl (by decide) rfl (fun ls hl => ?_)
      exact lpX12_rides_47 hD X hret 3000 _ _ _ _ _ _ _ h M (lv_sub hl [1, 2, 3, 0] rfl)
    · have h := it_f h c9
      refine lv_iconst (v := 0) hx hb dX12_rides_30 (by decide) ?_
      exact u_iret X hret M (rt2 h).1 (congrArg (va_up V 19) ((rt2 h).2)) rfl dX12_rides_31
  · have h := it_f h c4
    refine lv_iload_n hx hb dX12_rides_12 rfl (lv_at hl 2 rfl) ?_
    obtain ⟨x37, e36, h⟩ := lt_e h
    refine u_cSi X M hl.1 (kX12_isGate  e36.symm) cw_X12_183 ⟨by decide, by decide⟩ rfl rfl (Nat.le_of_ble_eq_true rfl) ⟨Nat.zero_le _, Nat.zero_le _⟩ dX12_rides_13 (fun H locs M n38 => ?_)
    refine lv_if_eq (tgt := 23) hx hb dX12_rides_16 (by decide) (fun c39 => ?_) (fun c39 => ?_)
    · have h := it_t h c39
      refine lv_iconst (v := 1) hx hb dX12_rides_23 (by decide) ?_
      obtain ⟨x41, S42, e40, h⟩ := bd2_e h
      refine u_cVi X M hl.1 (kX12_refused hD e40) cw_X12_101 ⟨by decide, by decide⟩ (rc_X12 X M hD) rfl rfl (Nat.le_of_ble_eq_true rfl) ⟨Nat.zero_le _, Nat.zero_le _⟩ dX12_rides_24 (fun H locs M n43 => ?_)
      refine lv_if_eq (tgt := 32) hx hb dX12_rides_27 (by decide) (fun c44 => ?_) (fun c44 => ?_)
      · have h := it_t h c44
        refine lv_aload_n hx hb dX12_rides_32 rfl (lv_at hl 0 rfl) ?_
        refine gf_X12_13 X M hD dX12_rides_33 ?_
        refine lv_iconst (v := 0) hx hb dX12_rides_36 (by decide) ?_
        refine lv_aload_n hx hb dX12_rides_37 rfl (lv_at hl 0 rfl) ?_
        refine gf_X12_16 X M hD dX12_rides_38 ?_
        refine lv_iconst (v := 0) hx hb dX12_rides_41 (by decide) ?_
        obtain ⟨r45, e46, h⟩ := bd_e h
        refine u_cSv X M hl.1 (kX12_copyState hD (o1 := 2) (o2 := 3) (by decide) (by decide) (by decide) uSh_md2 uSh_md3 (by decide) (by decide) e46) cw_X12_165 ⟨by decide, by decide⟩ rfl rfl (Nat.le_of_ble_eq_true rfl) ⟨Nat.zero_le _, Nat.zero_le _⟩ dX12_rides_42 (fun H locs M => ?_)
        obtain ⟨S47, e48, h⟩ := lt_e h
        rw [← e48] at M
        refine lv_iconst (v := 0) hx hb dX12_rides_45 (by decide) ?_
        refine lv_istore_n (lv' := [(3, .int 0), (0, .ref (ga G 19 0)), (1, .int a1), (2, .int a2)]) hx hb dX12_rides_46 rfl hl (by decide) rfl (fun ls hl => ?_)
        exact lpX12_rides_47 hD X hret 3000 _ _ _ _ _ _ _ h M (lv_sub hl [1, 2, 3, 0] rfl)
      · have h := it_f h c44
        refine lv_iconst (v := 0) hx hb dX12_rides_30 (by decide) ?_
        exact u_iret X hret M (rt2 h).1 (congrArg (va_up V 19) ((rt2 h).2)) rfl dX12_rides_31
    · have h := it_f h c39
      refine lv_iconst (v := 0) hx hb dX12_rides_19 (by decide) ?_
      refine lv_goto (tgt := 24) hx hb dX12_rides_20 (by decide) ?_
      obtain ⟨x50, S51, e49, h⟩ := bd2_e h
      refine u_cVi X M hl.1 (kX12_refused hD e49) cw_X12_101 ⟨by decide, by decide⟩ (rc_X12 X M hD) rfl rfl (Nat.le_of_ble_eq_true rfl) ⟨Nat.zero_le _, Nat.zero_le _⟩ dX12_rides_24 (fun H locs M n52 => ?_)
      refine lv_if_eq (tgt := 32) hx hb dX12_rides_27 (by decide) (fun c53 => ?_) (fun c53 => ?_)
      · have h := it_t h c53
        refine lv_aload_n hx hb dX12_rides_32 rfl (lv_at hl 0 rfl) ?_
        refine gf_X12_13 X M hD dX12_rides_33 ?_
        refine lv_iconst (v := 0) hx hb dX12_rides_36 (by decide) ?_
        refine lv_aload_n hx hb dX12_rides_37 rfl (lv_at hl 0 rfl) ?_
        refine gf_X12_16 X M hD dX12_rides_38 ?_
        refine lv_iconst (v := 0) hx hb dX12_rides_41 (by decide) ?_
        obtain ⟨r54, e55, h⟩ := bd_e h
        refine u_cSv X M hl.1 (kX12_copyState hD (o1 := 2) (o2 := 3) (by decide) (by decide) (by decide) uSh_md2 uSh_md3 (by decide) (by decide) e55) cw_X12_165 ⟨by decide, by decide⟩ rfl rfl (Nat.le_of_ble_eq_true rfl) ⟨Nat.zero_le _, Nat.zero_le _⟩ dX12_rides_42 (fun H locs M => ?_)
        obtain ⟨S56, e57, h⟩ := lt_e h
        rw [← e57] at M
        refine lv_iconst (v := 0) hx hb dX12_rides_45 (by decide) ?_
        refine lv_istore_n (lv' := [(3, .int 0), (0, .ref (ga G 19 0)), (1, .int a1), (2, .int a2)]) hx hb dX12_rides_46 rfl hl (by decide) rfl (fun ls hl => ?_)
        exact lpX12_rides_47 hD X hret 3000 _ _ _ _ _ _ _ h M (lv_sub hl [1, 2, 3, 0] rfl)
      · have h := it_f h c53
        refine lv_iconst (v := 0) hx hb dX12_rides_30 (by decide) ?_
        exact u_iret X hret M (rt2 h).1 (congrArg (va_up V 19) ((rt2 h).2)) rfl dX12_rides_31
def fX12_brings (S : (Nat → Nat → Int32)) (a1 : Int32) (a2 : Int32) : Option (Int32 × (Nat → Nat → Int32)) :=
  bd (fcp 1272 (S 2) 0 1272 (S 4) 0) fun r1 =>
  lt_ (va_up S 4 r1) fun S3 =>
  bd (fX12_isUp (S3 4) a1) fun x6 =>
  if x6 = 0 then
    bd2 (fX12_upOn (S3 4) a1) fun x31 r33 =>
    lt_ (va_up S3 4 r33) fun S32 =>
    if a2 = 0 then
      gd (inb 3 1272) <|
      lt_ (S32 4 (3 : Int32).toNatClampNeg) fun x53 =>
      lt_ (S32 2 (3 : Int32).toNatClampNeg) fun x55 =>
      some ((x53 - x55), S32)
    else
      if a2 = 1 then
        gd (inb 5 1272) <|
        lt_ (S32 4 (5 : Int32).toNatClampNeg) fun x48 =>
        lt_ (S32 2 (5 : Int32).toNatClampNeg) fun x50 =>
        some ((x48 - x50), S32)
      else
        if a2 = 2 then
          bd (fX12_blocked (S32 4)) fun x45 =>
          some (x45, S32)
        else
          gd (inb 4 1272) <|
          lt_ (S32 4 (4 : Int32).toNatClampNeg) fun x40 =>
          lt_ (S32 2 (4 : Int32).toNatClampNeg) fun x42 =>
          some ((x40 - x42), S32)
  else
    if a2 = 0 then
      gd (inb 3 1272) <|
      lt_ (S3 4 (3 : Int32).toNatClampNeg) fun x26 =>
      lt_ (S3 2 (3 : Int32).toNatClampNeg) fun x28 =>
      some ((x26 - x28), S3)
    else
      if a2 = 1 then
        gd (inb 5 1272) <|
        lt_ (S3 4 (5 : Int32).toNatClampNeg) fun x21 =>
        lt_ (S3 2 (5 : Int32).toNatClampNeg) fun x23 =>
        some ((x21 - x23), S3)
      else
        if a2 = 2 then
          bd (fX12_blocked (S3 4)) fun x18 =>
          some (x18, S3)
        else
          gd (inb 4 1272) <|
          lt_ (S3 4 (4 : Int32).toNatClampNeg) fun x13 =>
          lt_ (S3 2 (4 : Int32).toNatClampNeg) fun x15 =>
          some ((x13 - x15), S3)
set_option maxHeartbeats 4000000 in
set_option maxRecDepth 20000 in
theorem kX12_brings {l : Launch} {G : UG} {V : uV} (hD : uMd G) {S S' : (Nat → Nat → Int32)} {a1 : Int32} {a2 : Int32} {r : Int32} (h : fX12_brings S a1 a2 = some (r, S')) : uMi l G yX12_brings cX12_brings 3 .int (uR 3 69) [.ref (ga G 19 0), .int a1, .int a2] (va_up V 19 S) r (va_up V 19 S') := by
  refine uMi_of rfl (Nat.le_of_ble_eq_true rfl) (fun p e s m args below meth c ls X hret hl M => ?_)
  have hl : lv_has ls 3 [(0, .ref (ga G 19 0)), (1, .int a1), (2, .int a2)] := hl
  have hx := X.hx
  have hb := X.hb
  unfold fX12_brings at h
  refine lv_aload_n hx hb dX12_brings_0 rfl (lv_at hl 0 rfl) ?_
  refine gf_X12_13 X M hD dX12_brings_1 ?_
  refine lv_iconst (v := 0) hx hb dX12_brings_4 (by decide) ?_
  refine lv_aload_n hx hb dX12_brings_5 rfl (lv_at hl 0 rfl) ?_
  refine gf_X12_19 X M hD dX12_brings_6 ?_
  refine lv_iconst (v := 0) hx hb dX12_brings_9 (by decide) ?_
  obtain ⟨r1, e2, h⟩ := bd_e h
  refine u_cSv X M hl.1 (kX12_copyState hD (o1 := 2) (o2 := 4) (by decide) (by decide) (by decide) uSh_md2 uSh_md4 (by decide) (by decide) e2) cw_X12_165 ⟨by decide, by decide⟩ rfl rfl (Nat.le_of_ble_eq_true rfl) ⟨Nat.zero_le _, Nat.zero_le _⟩ dX12_brings_10 (fun H locs M => ?_)
  obtain ⟨S3, e4, h⟩ := lt_e h
  rw [← e4] at M
  refine lv_aload_n hx hb dX12_brings_13 rfl (lv_at hl 0 rfl) ?_
  refine gf_X12_19 X M hD dX12_brings_14 ?_
  refine lv_iload_n hx hb dX12_brings_17 rfl (lv_at hl 1 rfl) ?_
  obtain ⟨x6, e5, h⟩ := bd_e h
  refine u_cSi X M hl.1 (kX12_isUp (uArD4 hD) (congrFun (va_up_s V 19 _) 4) e5) cw_X12_57 ⟨by decide, by decide⟩ rfl rfl (Nat.le_of_ble_eq_true rfl) ⟨Nat.zero_le _, Nat.zero_le _⟩ dX12_brings_18 (fun H locs M n7 => ?_)
  refine lv_if_ne (tgt := 33) hx hb dX12_brings_21 (by decide) (fun c8 => ?_) (fun c8 => ?_)
  · have h := it_f h c8
    refine lv_iload_n hx hb dX12_brings_33 rfl (lv_at hl 2 rfl) ?_
    refine lv_if_ne (tgt := 53) hx hb dX12_brings_34 (by decide) (fun c9 => ?_) (fun c9 => ?_)
    · have h := it_f h c9
      refine lv_iload_n hx hb dX12_brings_53 rfl (lv_at hl 2 rfl) ?_
      refine lv_iconst (v := 1) hx hb dX12_brings_54 (by decide) ?_
      refine lv_icmp_ne (tgt := 74) hx hb dX12_brings_55 (by decide) (fun c10 => ?_) (fun c10 => ?_)
      · have h := it_f h c10
        refine lv_iload_n hx hb dX12_brings_74 rfl (lv_at hl 2 rfl) ?_
        refine lv_iconst (v := 2) hx hb dX12_brings_75 (by decide) ?_
        refine lv_icmp_ne (tgt := 89) hx hb dX12_brings_76 (by decide) (fun c11 => ?_) (fun c11 => ?_)
        · have h := it_f h c11
          refine lv_aload_n hx hb dX12_brings_89 rfl (lv_at hl 0 rfl) ?_
          refine gf_X12_19 X M hD dX12_brings_90 ?_
          refine lv_iconst (v := 4) hx hb dX12_brings_93 (by decide) ?_
          obtain ⟨g12, h⟩ := gd_e h
          obtain ⟨x13, e14, h⟩ := lt_e h
          refine u_ald X M (hD 4 (by decide)) (uAd_sh uSh_md4 (congrFun (va_up_s V 19 _) 4)) (inb_e g12) e14 dX12_brings_94 ?_
          refine lv_aload_n hx hb dX12_brings_95 rfl (lv_at hl 0 rfl) ?_
          refine gf_X12_13 X M hD dX12_brings_96 ?_
          refine lv_iconst (v := 4) hx hb dX12_brings_99 (by decide) ?_
          obtain ⟨x15, e16, h⟩ := lt_e h
          refine u_ald X M (hD 2 (by decide)) (uAd_sh uSh_md2 (congrFun (va_up_s V 19 _) 2)) (inb_e g12) e16 dX12_brings_100 ?_
          refine lv_isub hx hb dX12_brings_101 ?_
          exact u_iret X hret M (rt2 h).1 (congrArg (va_up V 19) ((rt2 h).2)) rfl dX12_brings_102
        · have h := it_t h c11
          refine lv_aload_n hx hb dX12_brings_79 rfl (lv_at hl 0 rfl) ?_
          refine gf_X12_19 X M hD dX12_brings_80 ?_
          obtain ⟨x18, e17, h⟩ := bd_e h
          refine u_cSi X M hl.1 (kX12_blocked (uArD4 hD) (congrFun (va_up_s V 19 _) 4) e17) cw_X12_60 ⟨by decide, by decide⟩ rfl rfl (Nat.le_of_ble_eq_true rfl) ⟨Nat.zero_le _, Nat.zero_le _⟩ dX12_brings_83 (fun H locs M n19 => ?_)
          refine lv_goto (tgt := 102) hx hb dX12_brings_86 (by decide) ?_
          exact u_iret X hret M (rt2 h).1 (congrArg (va_up V 19) ((rt2 h).2)) rfl dX12_brings_102
      · have h := it_t h c10
        refine lv_aload_n hx hb dX12_brings_58 rfl (lv_at hl 0 rfl) ?_
        refine gf_X12_19 X M hD dX12_brings_59 ?_
        refine lv_iconst (v := 5) hx hb dX12_brings_62 (by decide) ?_
        obtain ⟨g20, h⟩ := gd_e h
        obtain ⟨x21, e22, h⟩ := lt_e h
        refine u_ald X M (hD 4 (by decide)) (uAd_sh uSh_md4 (congrFun (va_up_s V 19 _) 4)) (inb_e g20) e22 dX12_brings_63 ?_
        refine lv_aload_n hx hb dX12_brings_64 rfl (lv_at hl 0 rfl) ?_
        refine gf_X12_13 X M hD dX12_brings_65 ?_
        refine lv_iconst (v := 5) hx hb dX12_brings_68 (by decide) ?_
        obtain ⟨x23, e24, h⟩ := lt_e h
        refine u_ald X M (hD 2 (by decide)) (uAd_sh uSh_md2 (congrFun (va_up_s V 19 _) 2)) (inb_e g20) e24 dX12_brings_69 ?_
        refine lv_isub hx hb dX12_brings_70 ?_
        refine lv_goto (tgt := 102) hx hb dX12_brings_71 (by decide) ?_
        exact u_iret X hret M (rt2 h).1 (congrArg (va_up V 19) ((rt2 h).2)) rfl dX12_brings_102
    · have h := it_t h c9
      refine lv_aload_n hx hb dX12_brings_37 rfl (lv_at hl 0 rfl) ?_
      refine gf_X12_19 X M hD dX12_brings_38 ?_
      refine lv_iconst (v := 3) hx hb dX12_brings_41 (by decide) ?_
      obtain ⟨g25, h⟩ := gd_e h
      obtain ⟨x26, e27, h⟩ := lt_e h
      refine u_ald X M (hD 4 (by decide)) (uAd_sh uSh_md4 (congrFun (va_up_s V 19 _) 4)) (inb_e g25) e27 dX12_brings_42 ?_
      refine lv_aload_n hx hb dX12_brings_43 rfl (lv_at hl 0 rfl) ?_
      refine gf_X12_13 X M hD dX12_brings_44 ?_
      refine lv_iconst (v := 3) hx hb dX12_brings_47 (by decide) ?_
      obtain ⟨x28, e29, h⟩ := lt_e h
      refine u_ald X M (hD 2 (by decide)) (uAd_sh uSh_md2 (congrFun (va_up_s V 19 _) 2)) (inb_e g25) e29 dX12_brings_48 ?_
      refine lv_isub hx hb dX12_brings_49 ?_
      refine lv_goto (tgt := 102) hx hb dX12_brings_50 (by decide) ?_
      exact u_iret X hret M (rt2 h).1 (congrArg (va_up V 19) ((rt2 h).2)) rfl dX12_brings_102
  · have h := it_t h c8
    refine lv_aload_n hx hb dX12_brings_24 rfl (lv_at hl 0 rfl) ?_
    refine gf_X12_19 X M hD dX12_brings_25 ?_
    refine lv_iload_n hx hb dX12_brings_28 rfl (lv_at hl 1 rfl) ?_
    obtain ⟨x31, r33, e30, h⟩ := bd2_e h
    have M := um_in2 4 M
    refine u_cSi X M hl.1 (kX12_upOn (uArD4 hD) e30) cw_X12_113 ⟨by decide, by decide⟩ rfl rfl (Nat.le_of_ble_eq_true rfl) ⟨Nat.zero_le _, Nat.zero_le _⟩ dX12_brings_29 (fun H locs M n35 => ?_)
    obtain ⟨S32, e34, h⟩ := lt_e h
    rw [← e34] at M
    refine lv_pop hx hb dX12_brings_32 rfl ?_
    refine lv_iload_n hx hb dX12_brings_33 rfl (lv_at hl 2 rfl) ?_
    refine lv_if_ne (tgt := 53) hx hb dX12_brings_34 (by decide) (fun c36 => ?_) (fun c36 => ?_)
    · have h := it_f h c36
      refine lv_iload_n hx hb dX12_brings_53 rfl (lv_at hl 2 rfl) ?_
      refine lv_iconst (v := 1) hx hb dX12_brings_54 (by decide) ?_
      refine lv_icmp_ne (tgt := 74) hx hb dX12_brings_55 (by decide) (fun c37 => ?_) (fun c37 => ?_)
      · have h := it_f h c37
        refine lv_iload_n hx hb dX12_brings_74 rfl (lv_at hl 2 rfl) ?_
        refine lv_iconst (v := 2) hx hb dX12_brings_75 (by decide) ?_
        refine lv_icmp_ne (tgt := 89) hx hb dX12_brings_76 (by decide) (fun c38 => ?_) (fun c38 => ?_)
        · have h := it_f h c38
          refine lv_aload_n hx hb dX12_brings_89 rfl (lv_at hl 0 rfl) ?_
          refine gf_X12_19 X M hD dX12_brings_90 ?_
          refine lv_iconst (v := 4) hx hb dX12_brings_93 (by decide) ?_
          obtain ⟨g39, h⟩ := gd_e h
          obtain ⟨x40, e41, h⟩ := lt_e h
          refine u_ald X M (hD 4 (by decide)) (uAd_sh uSh_md4 (congrFun (va_up_s V 19 _) 4)) (inb_e g39) e41 dX12_brings_94 ?_
          refine lv_aload_n hx hb dX12_brings_95 rfl (lv_at hl 0 rfl) ?_
          refine gf_X12_13 X M hD dX12_brings_96 ?_
          refine lv_iconst (v := 4) hx hb dX12_brings_99 (by decide) ?_
          obtain ⟨x42, e43, h⟩ := lt_e h
          refine u_ald X M (hD 2 (by decide)) (uAd_sh uSh_md2 (congrFun (va_up_s V 19 _) 2)) (inb_e g39) e43 dX12_brings_100 ?_
          refine lv_isub hx hb dX12_brings_101 ?_
          exact u_iret X hret M (rt2 h).1 (congrArg (va_up V 19) ((rt2 h).2)) rfl dX12_brings_102
        · have h := it_t h c38
          refine lv_aload_n hx hb dX12_brings_79 rfl (lv_at hl 0 rfl) ?_
          refine gf_X12_19 X M hD dX12_brings_80 ?_
          obtain ⟨x45, e44, h⟩ := bd_e h
          refine u_cSi X M hl.1 (kX12_blocked (uArD4 hD) (congrFun (va_up_s V 19 _) 4) e44) cw_X12_60 ⟨by decide, by decide⟩ rfl rfl (Nat.le_of_ble_eq_true rfl) ⟨Nat.zero_le _, Nat.zero_le _⟩ dX12_brings_83 (fun H locs M n46 => ?_)
          refine lv_goto (tgt := 102) hx hb dX12_brings_86 (by decide) ?_
          exact u_iret X hret M (rt2 h).1 (congrArg (va_up V 19) ((rt2 h).2)) rfl dX12_brings_102
      · have h := it_t h c37
        refine lv_aload_n hx hb dX12_brings_58 rfl (lv_at hl 0 rfl) ?_
        refine gf_X12_19 X M hD dX12_brings_59 ?_
        refine lv_iconst (v := 5) hx hb dX12_brings_62 (by decide) ?_
        obtain ⟨g47, h⟩ := gd_e h
        obtain ⟨x48, e49, h⟩ := lt_e h
        refine u_ald X M (hD 4 (by decide)) (uAd_sh uSh_md4 (congrFun (va_up_s V 19 _) 4)) (inb_e g47) e49 dX12_brings_63 ?_
        refine lv_aload_n hx hb dX12_brings_64 rfl (lv_at hl 0 rfl) ?_
        refine gf_X12_13 X M hD dX12_brings_65 ?_
        refine lv_iconst (v := 5) hx hb dX12_brings_68 (by decide) ?_
        obtain ⟨x50, e51, h⟩ := lt_e h
        refine u_ald X M (hD 2 (by decide)) (uAd_sh uSh_md2 (congrFun (va_up_s V 19 _) 2)) (inb_e g47) e51 dX12_brings_69 ?_
        refine lv_isub hx hb dX12_brings_70 ?_
        refine lv_goto (tgt := 102) hx hb dX12_brings_71 (by decide) ?_
        exact u_iret X hret M (rt2 h).1 (congrArg (va_up V 19) ((rt2 h).2)) rfl dX12_brings_102
    · have h := it_t h c36
      refine lv_aload_n hx hb dX12_brings_37 rfl (lv_at hl 0 rfl) ?_
      refine gf_X12_19 X M hD dX12_brings_38 ?_
      refine lv_iconst (v := 3) hx hb dX12_brings_41 (by decide) ?_
      obtain ⟨g52, h⟩ := gd_e h
      obtain ⟨x53, e54, h⟩ := lt_e h
      refine u_ald X M (hD 4 (by decide)) (uAd_sh uSh_md4 (congrFun (va_up_s V 19 _) 4)) (inb_e g52) e54 dX12_brings_42 ?_
      refine lv_aload_n hx hb dX12_brings_43 rfl (lv_at hl 0 rfl) ?_
      refine gf_X12_13 X M hD dX12_brings_44 ?_
      refine lv_iconst (v := 3) hx hb dX12_brings_47 (by decide) ?_
      obtain ⟨x55, e56, h⟩ := lt_e h
      refine u_ald X M (hD 2 (by decide)) (uAd_sh uSh_md2 (congrFun (va_up_s V 19 _) 2)) (inb_e g52) e56 dX12_brings_48 ?_
      refine lv_isub hx hb dX12_brings_49 ?_
      refine lv_goto (tgt := 102) hx hb dX12_brings_50 (by decide) ?_
      exact u_iret X hret M (rt2 h).1 (congrArg (va_up V 19) ((rt2 h).2)) rfl dX12_brings_102
def fX12_ifUp (S : (Nat → Nat → Int32)) (a1 : Int32) (a2 : Int32) : Option (Int32 × (Nat → Nat → Int32)) :=
  lt_ (fX12_isGate  a1) fun x2 =>
  if x2 = 0 then
    bd2 (fX12_refused S 1) fun x28 S29 =>
    if x28 = 0 then
      bd2 (fX12_brings S29 a1 a2) fun x33 S34 =>
      some (x33, S34)
    else
      some (0, S29)
  else
    lt_ (fX12_in  ((a2 : Int32).toInt64) 0 3) fun x6 =>
    if x6 = 0 then
      bd2 (fX12_refused S 2) fun x10 S11 =>
      if x10 = 0 then
        bd2 (fX12_brings S11 a1 a2) fun x15 S16 =>
        some (x15, S16)
      else
        some (0, S11)
    else
      bd2 (fX12_refused S 0) fun x19 S20 =>
      if x19 = 0 then
        bd2 (fX12_brings S20 a1 a2) fun x24 S25 =>
        some (x24, S25)
      else
        some (0, S20)
set_option maxHeartbeats 4000000 in
set_option maxRecDepth 20000 in
theorem kX12_ifUp {l : Launch} {G : UG} {V : uV} (hD : uMd G) {S S' : (Nat → Nat → Int32)} {a1 : Int32} {a2 : Int32} {r : Int32} (h : fX12_ifUp S a1 a2 = some (r, S')) : uMi l G yX12_ifUp cX12_ifUp 3 .int (uR 4 91) [.ref (ga G 19 0), .int a1, .int a2] (va_up V 19 S) r (va_up V 19 S') := by
  refine uMi_of rfl (Nat.le_of_ble_eq_true rfl) (fun p e s m args below meth c ls X hret hl M => ?_)
  have hl : lv_has ls 3 [(0, .ref (ga G 19 0)), (1, .int a1), (2, .int a2)] := hl
  have hx := X.hx
  have hb := X.hb
  unfold fX12_ifUp at h
  refine lv_aload_n hx hb dX12_ifUp_0 rfl (lv_at hl 0 rfl) ?_
  refine lv_iload_n hx hb dX12_ifUp_1 rfl (lv_at hl 1 rfl) ?_
  obtain ⟨x2, e1, h⟩ := lt_e h
  refine u_cSi X M hl.1 (kX12_isGate  e1.symm) cw_X12_183 ⟨by decide, by decide⟩ rfl rfl (Nat.le_of_ble_eq_true rfl) ⟨Nat.zero_le _, Nat.zero_le _⟩ dX12_ifUp_2 (fun H locs M n3 => ?_)
  refine lv_if_ne (tgt := 12) hx hb dX12_ifUp_5 (by decide) (fun c4 => ?_) (fun c4 => ?_)
  · have h := it_f h c4
    refine lv_iload_n hx hb dX12_ifUp_12 rfl (lv_at hl 2 rfl) ?_
    refine lv_i2l hx hb dX12_ifUp_13 rfl ?_
    refine lv_lconst (v := 0) hx hb dX12_ifUp_14 rfl ?_
    refine lv_ldc2 (v := 3) hx hb X.1.2.2.2.1 (X.hts (gt_in 1228 (by decide +kernel) (by decide +kernel))) dX12_ifUp_15 ?_
    obtain ⟨x6, e5, h⟩ := lt_e h
    refine u_cSi X M hl.1 (kX12_in  e5.symm) cw_X12_44 ⟨by decide, by decide⟩ rfl rfl (Nat.le_of_ble_eq_true rfl) ⟨Nat.zero_le _, Nat.zero_le _⟩ dX12_ifUp_18 (fun H locs M n7 => ?_)
    refine lv_if_eq (tgt := 28) hx hb dX12_ifUp_21 (by decide) (fun c8 => ?_) (fun c8 => ?_)
    · have h := it_t h c8
      refine lv_iconst (v := 2) hx hb dX12_ifUp_28 (by decide) ?_
      obtain ⟨x10, S11, e9, h⟩ := bd2_e h
      refine u_cVi X M hl.1 (kX12_refused hD e9) cw_X12_101 ⟨by decide, by decide⟩ (rc_X12 X M hD) rfl rfl (Nat.le_of_ble_eq_true rfl) ⟨Nat.zero_le _, Nat.zero_le _⟩ dX12_ifUp_29 (fun H locs M n12 => ?_)
      refine lv_if_eq (tgt := 37) hx hb dX12_ifUp_32 (by decide) (fun c13 => ?_) (fun c13 => ?_)
      · have h := it_t h c13
        refine lv_aload_n hx hb dX12_ifUp_37 rfl (lv_at hl 0 rfl) ?_
        refine lv_iload_n hx hb dX12_ifUp_38 rfl (lv_at hl 1 rfl) ?_
        refine lv_iload_n hx hb dX12_ifUp_39 rfl (lv_at hl 2 rfl) ?_
        obtain ⟨x15, S16, e14, h⟩ := bd2_e h
        refine u_cVi X M hl.1 (kX12_brings hD e14) cw_X12_205 ⟨by decide, by decide⟩ (rc_X12 X M hD) rfl rfl (Nat.le_of_ble_eq_true rfl) ⟨Nat.zero_le _, Nat.zero_le _⟩ dX12_ifUp_40 (fun H locs M n17 => ?_)
        exact u_iret X hret M (rt2 h).1 (congrArg (va_up V 19) ((rt2 h).2)) rfl dX12_ifUp_43
      · have h := it_f h c13
        refine lv_iconst (v := 0) hx hb dX12_ifUp_35 (by decide) ?_
        exact u_iret X hret M (rt2 h).1 (congrArg (va_up V 19) ((rt2 h).2)) rfl dX12_ifUp_36
    · have h := it_f h c8
      refine lv_iconst (v := 0) hx hb dX12_ifUp_24 (by decide) ?_
      refine lv_goto (tgt := 29) hx hb dX12_ifUp_25 (by decide) ?_
      obtain ⟨x19, S20, e18, h⟩ := bd2_e h
      refine u_cVi X M hl.1 (kX12_refused hD e18) cw_X12_101 ⟨by decide, by decide⟩ (rc_X12 X M hD) rfl rfl (Nat.le_of_ble_eq_true rfl) ⟨Nat.zero_le _, Nat.zero_le _⟩ dX12_ifUp_29 (fun H locs M n21 => ?_)
      refine lv_if_eq (tgt := 37) hx hb dX12_ifUp_32 (by decide) (fun c22 => ?_) (fun c22 => ?_)
      · have h := it_t h c22
        refine lv_aload_n hx hb dX12_ifUp_37 rfl (lv_at hl 0 rfl) ?_
        refine lv_iload_n hx hb dX12_ifUp_38 rfl (lv_at hl 1 rfl) ?_
        refine lv_iload_n hx hb dX12_ifUp_39 rfl (lv_at hl 2 rfl) ?_
        obtain ⟨x24, S25, e23, h⟩ := bd2_e h
        refine u_cVi X M hl.1 (kX12_brings hD e23) cw_X12_205 ⟨by decide, by decide⟩ (rc_X12 X M hD) rfl rfl (Nat.le_of_ble_eq_true rfl) ⟨Nat.zero_le _, Nat.zero_le _⟩ dX12_ifUp_40 (fun H locs M n26 => ?_)
        exact u_iret X hret M (rt2 h).1 (congrArg (va_up V 19) ((rt2 h).2)) rfl dX12_ifUp_43
      · have h := it_f h c22
        refine lv_iconst (v := 0) hx hb dX12_ifUp_35 (by decide) ?_
        exact u_iret X hret M (rt2 h).1 (congrArg (va_up V 19) ((rt2 h).2)) rfl dX12_ifUp_36
  · have h := it_t h c4
    refine lv_iconst (v := 1) hx hb dX12_ifUp_8 (by decide) ?_
    refine lv_goto (tgt := 29) hx hb dX12_ifUp_9 (by decide) ?_
    obtain ⟨x28, S29, e27, h⟩ := bd2_e h
    refine u_cVi X M hl.1 (kX12_refused hD e27) cw_X12_101 ⟨by decide, by decide⟩ (rc_X12 X M hD) rfl rfl (Nat.le_of_ble_eq_true rfl) ⟨Nat.zero_le _, Nat.zero_le _⟩ dX12_ifUp_29 (fun H locs M n30 => ?_)
    refine lv_if_eq (tgt := 37) hx hb dX12_ifUp_32 (by decide) (fun c31 => ?_) (fun c31 => ?_)
    · have h := it_t h c31
      refine lv_aload_n hx hb dX12_ifUp_37 rfl (lv_at hl 0 rfl) ?_
      refine lv_iload_n hx hb dX12_ifUp_38 rfl (lv_at hl 1 rfl) ?_
      refine lv_iload_n hx hb dX12_ifUp_39 rfl (lv_at hl 2 rfl) ?_
      obtain ⟨x33, S34, e32, h⟩ := bd2_e h
      refine u_cVi X M hl.1 (kX12_brings hD e32) cw_X12_205 ⟨by decide, by decide⟩ (rc_X12 X M hD) rfl rfl (Nat.le_of_ble_eq_true rfl) ⟨Nat.zero_le _, Nat.zero_le _⟩ dX12_ifUp_40 (fun H locs M n35 => ?_)
      exact u_iret X hret M (rt2 h).1 (congrArg (va_up V 19) ((rt2 h).2)) rfl dX12_ifUp_43
    · have h := it_f h c31
      refine lv_iconst (v := 0) hx hb dX12_ifUp_35 (by decide) ?_
      exact u_iret X hret M (rt2 h).1 (congrArg (va_up V 19) ((rt2 h).2)) rfl dX12_ifUp_36
def fX12_bestUp_L11 (n : Nat) (S : (Nat → Nat → Int32)) (y1 : Int32) (y2 : Int32) (y3 : Int32) : Option (Int32 × (Nat → Nat → Int32)) :=
  match n with
  | 0 => none
  | n + 1 =>
    if 4 ≤ y3 then
      some (y1, S)
    else
      bd2 (fX12_brings S y3 3) fun x5 S6 =>
      bd (fX12_isUp (S6 2) y3) fun x9 =>
      if x9 = 0 then
        if x5 ≤ y2 then
          lt_ (y3 + 1) fun x15 =>
          fX12_bestUp_L11 n S6 y1 y2 x15
        else
          lt_ (y3 + 1) fun x17 =>
          fX12_bestUp_L11 n S6 y3 x5 x17
      else
        lt_ (y3 + 1) fun x12 =>
        fX12_bestUp_L11 n S6 y1 y2 x12
set_option maxHeartbeats 4000000 in
set_option maxRecDepth 20000 in
theorem lpX12_bestUp_11 {l : Launch} {G : UG} {V : uV} (hD : uMd G) {S' : (Nat → Nat → Int32)} {r : Int32} {p : Program} {e : Env} {s : State} {m : MethodId} {args : Array Value} {below : List Frame} {meth : Method} {c : Code} (X : UC p s m args meth c cX12_bestUp 5 RX12 G) (hret : meth.sig.returnType = some .int) : ∀ (n : Nat) (S : (Nat → Nat → Int32)) (y1 : Int32) (y2 : Int32) (y3 : Int32) (H : Heap) (locs : List Loc) (ls : Array Slot), fX12_bestUp_L11  n S y1 y2 y3 = some (r, S') → UM G (va_up V 19 S) s H locs → lv_has ls 5 [(0, .ref (ga G 19 0)), (1, .int y1), (2, .int y2), (3, .int y3)] → W p l e (uR 4 91) s m args below meth c H locs 0 0 (MQ below (uQi G .int r (va_up V 19 S')) args s 0 0 (uA G)) (F0 m 11 ls []) := by
  intro n
  have hx := X.hx
  have hb := X.hb
  induction n with
  | zero => intro S y1 y2 y3 H locs ls h M hl; rw [fX12_bestUp_L11] at h; cases h
  | succ n ih =>
    intro S y1 y2 y3 H locs ls h M hl
    rw [fX12_bestUp_L11] at h
    refine lv_iload_n hx hb dX12_bestUp_11 rfl (lv_at hl 3 rfl) ?_
    refine lv_iconst (v := 4) hx hb dX12_bestUp_12 (by decide) ?_
    refine lv_icmp_ge (tgt := 52) hx hb dX12_bestUp_13 (by decide) (fun c3 => ?_) (fun c3 => ?_)
    · have h := it_t h c3
      refine lv_iload_n hx hb dX12_bestUp_52 rfl (lv_at hl 1 rfl) ?_
      exact u_iret X hret M (rt2 h).1 (congrArg (va_up V 19) ((rt2 h).2)) rfl dX12_bestUp_53
    · have h := it_f h c3
      refine lv_aload_n hx hb dX12_bestUp_16 rfl (lv_at hl 0 rfl) ?_
      refine lv_iload_n hx hb dX12_bestUp_17 rfl (lv_at hl 3 rfl) ?_
      refine lv_iconst (v := 3) hx hb dX12_bestUp_18 (by decide) ?_
      obtain ⟨x5, S6, e4, h⟩ := bd2_e h
      refine u_cVi X M hl.1 (kX12_brings hD e4) cw_X12_205 ⟨by decide, by decide⟩ (rc_X12 X M hD) rfl rfl (Nat.le_of_ble_eq_true rfl) ⟨Nat.zero_le _, Nat.zero_le _⟩ dX12_bestUp_19 (fun H locs M n7 => ?_)
      refine lv_istore (lv' := [(4, .int x5), (0, .ref (ga G 19 0)), (1, .int y1), (2, .int y2), (3, .int y3)]) hx hb dX12_bestUp_22 hl (by decide) rfl (fun ls hl => ?_)
      refine lv_aload_n hx hb dX12_bestUp_24 rfl (lv_at hl 1 rfl) ?_
      refine gf_X12_13 X M hD dX12_bestUp_25 ?_
      refine lv_iload_n hx hb dX12_bestUp_28 rfl (lv_at hl 4 rfl) ?_
      obtain ⟨x9, e8, h⟩ := bd_e h
      refine u_cSi X M hl.1 (kX12_isUp (uArD2 hD) (congrFun (va_up_s V 19 _) 2) e8) cw_X12_57 ⟨by decide, by decide⟩ rfl rfl (Nat.le_of_ble_eq_true rfl) ⟨Nat.zero_le _, Nat.zero_le _⟩ dX12_bestUp_29 (fun H locs M n10 => ?_)
      refine lv_if_ne (tgt := 46) hx hb dX12_bestUp_32 (by decide) (fun c11 => ?_) (fun c11 => ?_)
      · have h := it_f h c11
        obtain ⟨x12, e13, h⟩ := lt_e h
        refine lv_iinc (v := x12) (lv' := [(3, .int x12), (4, .int x5), (0, .ref (ga G 19 0)), (1, .int y1), (2, .int y2)]) hx hb dX12_bestUp_46 hl (k := 4) rfl (by rw [e13]; rfl) (by decide) rfl (fun ls hl => ?_)
        refine lv_goto (tgt := 11) hx hb dX12_bestUp_49 (by decide) ?_
        exact ih _ _ _ _ _ _ _ h M (lv_sub hl [2, 3, 4, 0] rfl)
      · have h := it_t h c11
        refine lv_iload hx hb dX12_bestUp_35 (lv_at hl 0 rfl) ?_
        refine lv_iload_n hx hb dX12_bestUp_37 rfl (lv_at hl 3 rfl) ?_
        refine lv_icmp_le (tgt := 46) hx hb dX12_bestUp_38 (by decide) (fun c14 => ?_) (fun c14 => ?_)
        · have h := it_t h c14
          obtain ⟨x15, e16, h⟩ := lt_e h
          refine lv_iinc (v := x15) (lv' := [(3, .int x15), (4, .int x5), (0, .ref (ga G 19 0)), (1, .int y1), (2, .int y2)]) hx hb dX12_bestUp_46 hl (k := 4) rfl (by rw [e16]; rfl) (by decide) rfl (fun ls hl => ?_)
          refine lv_goto (tgt := 11) hx hb dX12_bestUp_49 (by decide) ?_
          exact ih _ _ _ _ _ _ _ h M (lv_sub hl [2, 3, 4, 0] rfl)
        · have h := it_f h c14
          refine lv_iload_n hx hb dX12_bestUp_41 rfl (lv_at hl 4 rfl) ?_
          refine lv_istore_n (lv' := [(1, .int y3), (4, .int x5), (0, .ref (ga G 19 0)), (2, .int y2), (3, .int y3)]) hx hb dX12_bestUp_42 rfl hl (by decide) rfl (fun ls hl => ?_)
          refine lv_iload hx hb dX12_bestUp_43 (lv_at hl 1 rfl) ?_
          refine lv_istore_n (lv' := [(2, .int x5), (1, .int y3), (4, .int x5), (0, .ref (ga G 19 0)), (3, .int y3)]) hx hb dX12_bestUp_45 rfl hl (by decide) rfl (fun ls hl => ?_)
          obtain ⟨x17, e18, h⟩ := lt_e h
          refine lv_iinc (v := x17) (lv' := [(3, .int x17), (2, .int x5), (1, .int y3), (4, .int x5), (0, .ref (ga G 19 0))]) hx hb dX12_bestUp_46 hl (k := 4) rfl (by rw [e18]; rfl) (by decide) rfl (fun ls hl => ?_)
          refine lv_goto (tgt := 11) hx hb dX12_bestUp_49 (by decide) ?_
          exact ih _ _ _ _ _ _ _ h M (lv_sub hl [4, 2, 1, 0] rfl)
def fX12_bestUp (S : (Nat → Nat → Int32)) : Option (Int32 × (Nat → Nat → Int32)) :=
  lt_ (va_up S 0 (upd (S 0) 0 0)) fun S1 =>
  fX12_bestUp_L11 3000 S1 (-1) (-1) 0
set_option maxHeartbeats 4000000 in
set_option maxRecDepth 20000 in
theorem kX12_bestUp {l : Launch} {G : UG} {V : uV} (hD : uMd G) {S S' : (Nat → Nat → Int32)}  {r : Int32} (h : fX12_bestUp S = some (r, S')) : uMi l G yX12_bestUp cX12_bestUp 5 .int (uR 4 91) [.ref (ga G 19 0)] (va_up V 19 S) r (va_up V 19 S') := by
  refine uMi_of rfl (Nat.le_of_ble_eq_true rfl) (fun p e s m args below meth c ls X hret hl M => ?_)
  have hl : lv_has ls 5 [(0, .ref (ga G 19 0))] := hl
  have hx := X.hx
  have hb := X.hb
  unfold fX12_bestUp at h
  refine lv_aload_n hx hb dX12_bestUp_0 rfl (lv_at hl 0 rfl) ?_
  refine lv_iconst (v := 0) hx hb dX12_bestUp_1 (by decide) ?_
  obtain ⟨S1, e2, h⟩ := lt_e h
  refine pf_X12_36 X M hD e2 dX12_bestUp_2 (fun H locs M => ?_)
  refine lv_iconst (v := (-1)) hx hb dX12_bestUp_5 (by decide) ?_
  refine lv_istore_n (lv' := [(1, .int (-1)), (0, .ref (ga G 19 0))]) hx hb dX12_bestUp_6 rfl hl (by decide) rfl (fun ls hl => ?_)
  refine lv_iconst (v := (-1)) hx hb dX12_bestUp_7 (by decide) ?_
  refine lv_istore_n (lv' := [(2, .int (-1)), (1, .int (-1)), (0, .ref (ga G 19 0))]) hx hb dX12_bestUp_8 rfl hl (by decide) rfl (fun ls hl => ?_)
  refine lv_iconst (v := 0) hx hb dX12_bestUp_9 (by decide) ?_
  refine lv_istore_n (lv' := [(3, .int 0), (2, .int (-1)), (1, .int (-1)), (0, .ref (ga G 19 0))]) hx hb dX12_bestUp_10 rfl hl (by decide) rfl (fun ls hl => ?_)
  exact lpX12_bestUp_11 hD X hret 3000 _ _ _ _ _ _ _ h M (lv_sub hl [3, 2, 1, 0] rfl)
def fX12_worst_L9 (n : Nat) (S : (Nat → Nat → Int32)) (y1 : Int32) (y2 : Int32) : Option (Int32 × (Nat → Nat → Int32)) :=
  match n with
  | 0 => none
  | n + 1 =>
    gd (inb 1 1272) <|
    lt_ (S 2 (1 : Int32).toNatClampNeg) fun x4 =>
    if x4 ≤ y2 then
      some (y1, S)
    else
      if y1 = (-1) then
        lt_ (y2 + 1) fun x8 =>
        fX12_worst_L9 n S y2 x8
      else
        bd (fX12_standing (S 2) y2) fun x11 =>
        bd (fX12_standing (S 2) y1) fun x14 =>
        if x14 ≤ x11 then
          lt_ (y2 + 1) fun x17 =>
          fX12_worst_L9 n S y1 x17
        else
          lt_ (y2 + 1) fun x19 =>
          fX12_worst_L9 n S y2 x19
set_option maxHeartbeats 4000000 in
set_option maxRecDepth 20000 in
theorem lpX12_worst_9 {l : Launch} {G : UG} {V : uV} (hD : uMd G) {S' : (Nat → Nat → Int32)} {r : Int32} {p : Program} {e : Env} {s : State} {m : MethodId} {args : Array Value} {below : List Frame} {meth : Method} {c : Code} (X : UC p s m args meth c cX12_worst 3 RX12 G) (hret : meth.sig.returnType = some .int) : ∀ (n : Nat) (S : (Nat → Nat → Int32)) (y1 : Int32) (y2 : Int32) (H : Heap) (locs : List Loc) (ls : Array Slot), fX12_worst_L9  n S y1 y2 = some (r, S') → UM G (va_up V 19 S) s H locs → lv_has ls 3 [(0, .ref (ga G 19 0)), (1, .int y1), (2, .int y2)] → W p l e (uR 3 68) s m args below meth c H locs 0 0 (MQ below (uQi G .int r (va_up V 19 S')) args s 0 0 (uA G)) (F0 m 9 ls []) := by
  intro n
  have hx := X.hx
  have hb := X.hb
  induction n with
  | zero => intro S y1 y2 H locs ls h M hl; rw [fX12_worst_L9] at h; cases h
  | succ n ih =>
    intro S y1 y2 H locs ls h M hl
    rw [fX12_worst_L9] at h
    refine lv_iload_n hx hb dX12_worst_9 rfl (lv_at hl 2 rfl) ?_
    refine lv_aload_n hx hb dX12_worst_10 rfl (lv_at hl 0 rfl) ?_
    refine gf_X12_13 X M hD dX12_worst_11 ?_
    refine lv_iconst (v := 1) hx hb dX12_worst_14 (by decide) ?_
    obtain ⟨g3, h⟩ := gd_e h
    obtain ⟨x4, e5, h⟩ := lt_e h
    refine u_ald X M (hD 2 (by decide)) (uAd_sh uSh_md2 (congrFun (va_up_s V 19 _) 2)) (inb_e g3) e5 dX12_worst_15 ?_
    refine lv_icmp_ge (tgt := 55) hx hb dX12_worst_16 (by decide) (fun c6 => ?_) (fun c6 => ?_)
    · have h := it_t h c6
      refine lv_iload_n hx hb dX12_worst_55 rfl (lv_at hl 1 rfl) ?_
      exact u_iret X hret M (rt2 h).1 (congrArg (va_up V 19) ((rt2 h).2)) rfl dX12_worst_56
    · have h := it_f h c6
      refine lv_iload_n hx hb dX12_worst_19 rfl (lv_at hl 1 rfl) ?_
      refine lv_iconst (v := (-1)) hx hb dX12_worst_20 (by decide) ?_
      refine lv_icmp_eq (tgt := 43) hx hb dX12_worst_21 (by decide) (fun c7 => ?_) (fun c7 => ?_)
      · have h := it_t h c7
        refine lv_iload_n hx hb dX12_worst_43 rfl (lv_at hl 2 rfl) ?_
        refine lv_goto (tgt := 48) hx hb dX12_worst_44 (by decide) ?_
        refine lv_istore_n (lv' := [(1, .int y2), (0, .ref (ga G 19 0)), (2, .int y2)]) hx hb dX12_worst_48 rfl hl (by decide) rfl (fun ls hl => ?_)
        obtain ⟨x8, e9, h⟩ := lt_e h
        refine lv_iinc (v := x8) (lv' := [(2, .int x8), (1, .int y2), (0, .ref (ga G 19 0))]) hx hb dX12_worst_49 hl (k := 2) rfl (by rw [e9]; rfl) (by decide) rfl (fun ls hl => ?_)
        refine lv_goto (tgt := 9) hx hb dX12_worst_52 (by decide) ?_
        exact ih _ _ _ _ _ _ h M (lv_sub hl [2, 1, 0] rfl)
      · have h := it_f h c7
        refine lv_aload_n hx hb dX12_worst_24 rfl (lv_at hl 0 rfl) ?_
        refine gf_X12_13 X M hD dX12_worst_25 ?_
        refine lv_iload_n hx hb dX12_worst_28 rfl (lv_at hl 2 rfl) ?_
        obtain ⟨x11, e10, h⟩ := bd_e h
        refine u_cSi X M hl.1 (kX12_standing (uArD2 hD) (congrFun (va_up_s V 19 _) 2) e10) cw_X12_208 ⟨by decide, by decide⟩ rfl rfl (Nat.le_of_ble_eq_true rfl) ⟨Nat.zero_le _, Nat.zero_le _⟩ dX12_worst_29 (fun H locs M n12 => ?_)
        refine lv_aload_n hx hb dX12_worst_32 rfl (lv_at hl 0 rfl) ?_
        refine gf_X12_13 X M hD dX12_worst_33 ?_
        refine lv_iload_n hx hb dX12_worst_36 rfl (lv_at hl 1 rfl) ?_
        obtain ⟨x14, e13, h⟩ := bd_e h
        refine u_cSi X M hl.1 (kX12_standing (uArD2 hD) (congrFun (va_up_s V 19 _) 2) e13) cw_X12_208 ⟨by decide, by decide⟩ rfl rfl (Nat.le_of_ble_eq_true rfl) ⟨Nat.zero_le _, Nat.zero_le _⟩ dX12_worst_37 (fun H locs M n15 => ?_)
        refine lv_icmp_ge (tgt := 47) hx hb dX12_worst_40 (by decide) (fun c16 => ?_) (fun c16 => ?_)
        · have h := it_t h c16
          refine lv_iload_n hx hb dX12_worst_47 rfl (lv_at hl 1 rfl) ?_
          refine lv_istore_n (lv' := [(1, .int y1), (0, .ref (ga G 19 0)), (2, .int y2)]) hx hb dX12_worst_48 rfl hl (by decide) rfl (fun ls hl => ?_)
          obtain ⟨x17, e18, h⟩ := lt_e h
          refine lv_iinc (v := x17) (lv' := [(2, .int x17), (1, .int y1), (0, .ref (ga G 19 0))]) hx hb dX12_worst_49 hl (k := 2) rfl (by rw [e18]; rfl) (by decide) rfl (fun ls hl => ?_)
          refine lv_goto (tgt := 9) hx hb dX12_worst_52 (by decide) ?_
          exact ih _ _ _ _ _ _ h M (lv_sub hl [2, 1, 0] rfl)
        · have h := it_f h c16
          refine lv_iload_n hx hb dX12_worst_43 rfl (lv_at hl 2 rfl) ?_
          refine lv_goto (tgt := 48) hx hb dX12_worst_44 (by decide) ?_
          refine lv_istore_n (lv' := [(1, .int y2), (0, .ref (ga G 19 0)), (2, .int y2)]) hx hb dX12_worst_48 rfl hl (by decide) rfl (fun ls hl => ?_)
          obtain ⟨x19, e20, h⟩ := lt_e h
          refine lv_iinc (v := x19) (lv' := [(2, .int x19), (1, .int y2), (0, .ref (ga G 19 0))]) hx hb dX12_worst_49 hl (k := 2) rfl (by rw [e20]; rfl) (by decide) rfl (fun ls hl => ?_)
          refine lv_goto (tgt := 9) hx hb dX12_worst_52 (by decide) ?_
          exact ih _ _ _ _ _ _ h M (lv_sub hl [2, 1, 0] rfl)
def fX12_worst (S : (Nat → Nat → Int32)) : Option (Int32 × (Nat → Nat → Int32)) :=
  lt_ (va_up S 0 (upd (S 0) 0 0)) fun S1 =>
  fX12_worst_L9 3000 S1 (-1) 0
set_option maxHeartbeats 4000000 in
set_option maxRecDepth 20000 in
theorem kX12_worst {l : Launch} {G : UG} {V : uV} (hD : uMd G) {S S' : (Nat → Nat → Int32)}  {r : Int32} (h : fX12_worst S = some (r, S')) : uMi l G yX12_worst cX12_worst 3 .int (uR 3 68) [.ref (ga G 19 0)] (va_up V 19 S) r (va_up V 19 S') := by
  refine uMi_of rfl (Nat.le_of_ble_eq_true rfl) (fun p e s m args below meth c ls X hret hl M => ?_)
  have hl : lv_has ls 3 [(0, .ref (ga G 19 0))] := hl
  have hx := X.hx
  have hb := X.hb
  unfold fX12_worst at h
  refine lv_aload_n hx hb dX12_worst_0 rfl (lv_at hl 0 rfl) ?_
  refine lv_iconst (v := 0) hx hb dX12_worst_1 (by decide) ?_
  obtain ⟨S1, e2, h⟩ := lt_e h
  refine pf_X12_36 X M hD e2 dX12_worst_2 (fun H locs M => ?_)
  refine lv_iconst (v := (-1)) hx hb dX12_worst_5 (by decide) ?_
  refine lv_istore_n (lv' := [(1, .int (-1)), (0, .ref (ga G 19 0))]) hx hb dX12_worst_6 rfl hl (by decide) rfl (fun ls hl => ?_)
  refine lv_iconst (v := 0) hx hb dX12_worst_7 (by decide) ?_
  refine lv_istore_n (lv' := [(2, .int 0), (1, .int (-1)), (0, .ref (ga G 19 0))]) hx hb dX12_worst_8 rfl hl (by decide) rfl (fun ls hl => ?_)
  exact lpX12_worst_9 hD X hret 3000 _ _ _ _ _ _ h M (lv_sub hl [2, 1, 0] rfl)
def fX12_owes_L40 (n : Nat) (S : (Nat → Nat → Int32)) (y1 : Int32) (y2 : Int32) : Option (Int32 × (Nat → Nat → Int32)) :=
  match n with
  | 0 => none
  | n + 1 =>
    if 4 ≤ y2 then
      lt_ (fX12_accountAt  y1) fun x16 =>
      gd (inb (x16 + 0) 1272) <|
      lt_ (S 3 ((x16 + 0) : Int32).toNatClampNeg) fun x19 =>
      if 0 ≤ x19 then
        some (0, S)
      else
        some ((-x19), S)
    else
      bd2 (fX12_doesLine (S 3) y2 1) fun x23 r25 =>
      lt_ (va_up S 3 r25) fun S24 =>
      lt_ (y2 + 1) fun x28 =>
      fX12_owes_L40 n S24 y1 x28
set_option maxHeartbeats 4000000 in
set_option maxRecDepth 20000 in
theorem lpX12_owes_40 {l : Launch} {G : UG} {V : uV} (hD : uMd G) {S' : (Nat → Nat → Int32)} {r : Int32} {p : Program} {e : Env} {s : State} {m : MethodId} {args : Array Value} {below : List Frame} {meth : Method} {c : Code} (X : UC p s m args meth c cX12_owes 3 RX12 G) (hret : meth.sig.returnType = some .int) : ∀ (n : Nat) (S : (Nat → Nat → Int32)) (y1 : Int32) (y2 : Int32) (H : Heap) (locs : List Loc) (ls : Array Slot), fX12_owes_L40  n S y1 y2 = some (r, S') → UM G (va_up V 19 S) s H locs → lv_has ls 3 [(0, .ref (ga G 19 0)), (1, .int y1), (2, .int y2)] → W p l e (uR 5 106) s m args below meth c H locs 0 0 (MQ below (uQi G .int r (va_up V 19 S')) args s 0 0 (uA G)) (F0 m 40 ls []) := by
  intro n
  have hx := X.hx
  have hb := X.hb
  induction n with
  | zero => intro S y1 y2 H locs ls h M hl; rw [fX12_owes_L40] at h; cases h
  | succ n ih =>
    intro S y1 y2 H locs ls h M hl
    rw [fX12_owes_L40] at h
    refine lv_iload_n hx hb dX12_owes_40 rfl (lv_at hl 2 rfl) ?_
    refine lv_iconst (v := 4) hx hb dX12_owes_41 (by decide) ?_
    refine lv_icmp_ge (tgt := 61) hx hb dX12_owes_42 (by decide) (fun c14 => ?_) (fun c14 => ?_)
    · have h := it_t h c14
      refine lv_aload_n hx hb dX12_owes_61 rfl (lv_at hl 0 rfl) ?_
      refine gf_X12_16 X M hD dX12_owes_62 ?_
      refine lv_iload_n hx hb dX12_owes_65 rfl (lv_at hl 1 rfl) ?_
      obtain ⟨x16, e15, h⟩ := lt_e h
      refine u_cSi X M hl.1 (kX12_accountAt  e15.symm) cw_X12_50 ⟨by decide, by decide⟩ rfl rfl (Nat.le_of_ble_eq_true rfl) ⟨Nat.zero_le _, Nat.zero_le _⟩ dX12_owes_66 (fun H locs M n17 => ?_)
      refine lv_iconst (v := 0) hx hb dX12_owes_69 (by decide) ?_
      refine lv_iadd hx hb dX12_owes_70 ?_
      obtain ⟨g18, h⟩ := gd_e h
      obtain ⟨x19, e20, h⟩ := lt_e h
      refine u_ald X M (hD 3 (by decide)) (uAd_sh uSh_md3 (congrFun (va_up_s V 19 _) 3)) (inb_e g18) e20 dX12_owes_71 ?_
      refine lv_istore_n (lv' := [(2, .int x19), (0, .ref (ga G 19 0)), (1, .int y1)]) hx hb dX12_owes_72 rfl hl (by decide) rfl (fun ls hl => ?_)
      refine lv_iload_n hx hb dX12_owes_73 rfl (lv_at hl 0 rfl) ?_
      refine lv_if_ge (tgt := 82) hx hb dX12_owes_74 (by decide) (fun c21 => ?_) (fun c21 => ?_)
      · have h := it_t h c21
        refine lv_iconst (v := 0) hx hb dX12_owes_82 (by decide) ?_
        exact u_iret X hret M (rt2 h).1 (congrArg (va_up V 19) ((rt2 h).2)) rfl dX12_owes_83
      · have h := it_f h c21
        refine lv_iload_n hx hb dX12_owes_77 rfl (lv_at hl 0 rfl) ?_
        refine lv_ineg hx hb dX12_owes_78 ?_
        refine lv_goto (tgt := 83) hx hb dX12_owes_79 (by decide) ?_
        exact u_iret X hret M (rt2 h).1 (congrArg (va_up V 19) ((rt2 h).2)) rfl dX12_owes_83
    · have h := it_f h c14
      refine lv_aload_n hx hb dX12_owes_45 rfl (lv_at hl 0 rfl) ?_
      refine gf_X12_16 X M hD dX12_owes_46 ?_
      refine lv_iload_n hx hb dX12_owes_49 rfl (lv_at hl 2 rfl) ?_
      refine lv_iconst (v := 1) hx hb dX12_owes_50 (by decide) ?_
      obtain ⟨x23, r25, e22, h⟩ := bd2_e h
      have M := um_in2 3 M
      refine u_cSi X M hl.1 (kX12_doesLine (uArD3 hD) e22) cw_X12_149 ⟨by decide, by decide⟩ rfl rfl (Nat.le_of_ble_eq_true rfl) ⟨Nat.zero_le _, Nat.zero_le _⟩ dX12_owes_51 (fun H locs M n27 => ?_)
      obtain ⟨S24, e26, h⟩ := lt_e h
      rw [← e26] at M
      refine lv_pop hx hb dX12_owes_54 rfl ?_
      obtain ⟨x28, e29, h⟩ := lt_e h
      refine lv_iinc (v := x28) (lv' := [(2, .int x28), (0, .ref (ga G 19 0)), (1, .int y1)]) hx hb dX12_owes_55 hl (k := 2) rfl (by rw [e29]; rfl) (by decide) rfl (fun ls hl => ?_)
      refine lv_goto (tgt := 40) hx hb dX12_owes_58 (by decide) ?_
      exact ih _ _ _ _ _ _ h M (lv_sub hl [1, 2, 0] rfl)
def fX12_owes (S : (Nat → Nat → Int32)) (a1 : Int32) : Option (Int32 × (Nat → Nat → Int32)) :=
  bd (fX12_isAccount (S 2) a1) fun x2 =>
  if x2 = 0 then
    bd2 (fX12_refused S 1) fun x6 S7 =>
    if x6 = 0 then
      bd (fcp 1272 (S7 2) 0 1272 (S7 3) 0) fun r10 =>
      lt_ (va_up S7 3 r10) fun S12 =>
      fX12_owes_L40 3000 S12 a1 0
    else
      some (0, S7)
  else
    bd2 (fX12_refused S 0) fun x31 S32 =>
    if x31 = 0 then
      bd (fcp 1272 (S32 2) 0 1272 (S32 3) 0) fun r35 =>
      lt_ (va_up S32 3 r35) fun S37 =>
      fX12_owes_L40 3000 S37 a1 0
    else
      some (0, S32)
set_option maxHeartbeats 4000000 in
set_option maxRecDepth 20000 in
theorem kX12_owes {l : Launch} {G : UG} {V : uV} (hD : uMd G) {S S' : (Nat → Nat → Int32)} {a1 : Int32} {r : Int32} (h : fX12_owes S a1 = some (r, S')) : uMi l G yX12_owes cX12_owes 3 .int (uR 5 106) [.ref (ga G 19 0), .int a1] (va_up V 19 S) r (va_up V 19 S') := by
  refine uMi_of rfl (Nat.le_of_ble_eq_true rfl) (fun p e s m args below meth c ls X hret hl M => ?_)
  have hl : lv_has ls 3 [(0, .ref (ga G 19 0)), (1, .int a1)] := hl
  have hx := X.hx
  have hb := X.hb
  unfold fX12_owes at h
  refine lv_aload_n hx hb dX12_owes_0 rfl (lv_at hl 0 rfl) ?_
  refine lv_aload_n hx hb dX12_owes_1 rfl (lv_at hl 0 rfl) ?_
  refine gf_X12_13 X M hD dX12_owes_2 ?_
  refine lv_iload_n hx hb dX12_owes_5 rfl (lv_at hl 1 rfl) ?_
  obtain ⟨x2, e1, h⟩ := bd_e h
  refine u_cSi X M hl.1 (kX12_isAccount (uArD2 hD) (congrFun (va_up_s V 19 _) 2) e1) cw_X12_143 ⟨by decide, by decide⟩ rfl rfl (Nat.le_of_ble_eq_true rfl) ⟨Nat.zero_le _, Nat.zero_le _⟩ dX12_owes_6 (fun H locs M n3 => ?_)
  refine lv_if_eq (tgt := 16) hx hb dX12_owes_9 (by decide) (fun c4 => ?_) (fun c4 => ?_)
  · have h := it_t h c4
    refine lv_iconst (v := 1) hx hb dX12_owes_16 (by decide) ?_
    obtain ⟨x6, S7, e5, h⟩ := bd2_e h
    refine u_cVi X M hl.1 (kX12_refused hD e5) cw_X12_101 ⟨by decide, by decide⟩ (rc_X12 X M hD) rfl rfl (Nat.le_of_ble_eq_true rfl) ⟨Nat.zero_le _, Nat.zero_le _⟩ dX12_owes_17 (fun H locs M n8 => ?_)
    refine lv_if_eq (tgt := 25) hx hb dX12_owes_20 (by decide) (fun c9 => ?_) (fun c9 => ?_)
    · have h := it_t h c9
      refine lv_aload_n hx hb dX12_owes_25 rfl (lv_at hl 0 rfl) ?_
      refine gf_X12_13 X M hD dX12_owes_26 ?_
      refine lv_iconst (v := 0) hx hb dX12_owes_29 (by decide) ?_
      refine lv_aload_n hx hb dX12_owes_30 rfl (lv_at hl 0 rfl) ?_
      refine gf_X12_16 X M hD dX12_owes_31 ?_
      refine lv_iconst (v := 0) hx hb dX12_owes_34 (by decide) ?_
      obtain ⟨r10, e11, h⟩ := bd_e h
      refine u_cSv X M hl.1 (kX12_copyState hD (o1 := 2) (o2 := 3) (by decide) (by decide) (by decide) uSh_md2 uSh_md3 (by decide) (by decide) e11) cw_X12_165 ⟨by decide, by decide⟩ rfl rfl (Nat.le_of_ble_eq_true rfl) ⟨Nat.zero_le _, Nat.zero_le _⟩ dX12_owes_35 (fun H locs M => ?_)
      obtain ⟨S12, e13, h⟩ := lt_e h
      rw [← e13] at M
      refine lv_iconst (v := 0) hx hb dX12_owes_38 (by decide) ?_
      refine lv_istore_n (lv' := [(2, .int 0), (0, .ref (ga G 19 0)), (1, .int a1)]) hx hb dX12_owes_39 rfl hl (by decide) rfl (fun ls hl => ?_)
      exact lpX12_owes_40 hD X hret 3000 _ _ _ _ _ _ h M (lv_sub hl [1, 2, 0] rfl)
    · have h := it_f h c9
      refine lv_iconst (v := 0) hx hb dX12_owes_23 (by decide) ?_
      exact u_iret X hret M (rt2 h).1 (congrArg (va_up V 19) ((rt2 h).2)) rfl dX12_owes_24
  · have h := it_f h c4
    refine lv_iconst (v := 0) hx hb dX12_owes_12 (by decide) ?_
    refine lv_goto (tgt := 17) hx hb dX12_owes_13 (by decide) ?_
    obtain ⟨x31, S32, e30, h⟩ := bd2_e h
    refine u_cVi X M hl.1 (kX12_refused hD e30) cw_X12_101 ⟨by decide, by decide⟩ (rc_X12 X M hD) rfl rfl (Nat.le_of_ble_eq_true rfl) ⟨Nat.zero_le _, Nat.zero_le _⟩ dX12_owes_17 (fun H locs M n33 => ?_)
    refine lv_if_eq (tgt := 25) hx hb dX12_owes_20 (by decide) (fun c34 => ?_) (fun c34 => ?_)
    · have h := it_t h c34
      refine lv_aload_n hx hb dX12_owes_25 rfl (lv_at hl 0 rfl) ?_
      refine gf_X12_13 X M hD dX12_owes_26 ?_
      refine lv_iconst (v := 0) hx hb dX12_owes_29 (by decide) ?_
      refine lv_aload_n hx hb dX12_owes_30 rfl (lv_at hl 0 rfl) ?_
      refine gf_X12_16 X M hD dX12_owes_31 ?_
      refine lv_iconst (v := 0) hx hb dX12_owes_34 (by decide) ?_
      obtain ⟨r35, e36, h⟩ := bd_e h
      refine u_cSv X M hl.1 (kX12_copyState hD (o1 := 2) (o2 := 3) (by decide) (by decide) (by decide) uSh_md2 uSh_md3 (by decide) (by decide) e36) cw_X12_165 ⟨by decide, by decide⟩ rfl rfl (Nat.le_of_ble_eq_true rfl) ⟨Nat.zero_le _, Nat.zero_le _⟩ dX12_owes_35 (fun H locs M => ?_)
      obtain ⟨S37, e38, h⟩ := lt_e h
      rw [← e38] at M
      refine lv_iconst (v := 0) hx hb dX12_owes_38 (by decide) ?_
      refine lv_istore_n (lv' := [(2, .int 0), (0, .ref (ga G 19 0)), (1, .int a1)]) hx hb dX12_owes_39 rfl hl (by decide) rfl (fun ls hl => ?_)
      exact lpX12_owes_40 hD X hret 3000 _ _ _ _ _ _ h M (lv_sub hl [1, 2, 0] rfl)
    · have h := it_f h c34
      refine lv_iconst (v := 0) hx hb dX12_owes_23 (by decide) ?_
      exact u_iret X hret M (rt2 h).1 (congrArg (va_up V 19) ((rt2 h).2)) rfl dX12_owes_24
def fX12_runScript_L86 (n : Nat) (S : (Nat → Nat → Int32)) (y1 : Int32) (y2 : Int64) (y4 : Int64) (y6 : Int32) : Option (Int32 × (Nat → Nat → Int32)) :=
  match n with
  | 0 => none
  | n + 1 =>
    if y1 ≤ y6 then
      some ((-1), S)
    else
      lt_ ((y4 / 10000)) fun x16 =>
      gd (decide (¬ x16 = 0)) <|
      lt_ (((((y2 / x16) - (y2 / x16) / 10000 * 10000) : Int64).toInt32)) fun x19 =>
      bd2 (fX12_command (S 3) (x19 / 1000) ((x19 / 100) - (x19 / 100) / 10 * 10) ((x19 / 10) - (x19 / 10) / 10 * 10) (x19 - x19 / 10 * 10)) fun x22 r24 =>
      lt_ (va_up S 3 r24) fun S23 =>
      if x22 = 0 then
        some (y6, S23)
      else
        lt_ (y6 + 1) fun x28 =>
        fX12_runScript_L86 n S23 y1 y2 x16 x28
set_option maxHeartbeats 4000000 in
set_option maxRecDepth 20000 in
theorem lpX12_runScript_86 {l : Launch} {G : UG} {V : uV} (hD : uMd G) {S' : (Nat → Nat → Int32)} {r : Int32} {p : Program} {e : Env} {s : State} {m : MethodId} {args : Array Value} {below : List Frame} {meth : Method} {c : Code} (X : UC p s m args meth c cX12_runScript 8 RX12 G) (hret : meth.sig.returnType = some .int) : ∀ (n : Nat) (S : (Nat → Nat → Int32)) (y1 : Int32) (y2 : Int64) (y4 : Int64) (y6 : Int32) (H : Heap) (locs : List Loc) (ls : Array Slot), fX12_runScript_L86  n S y1 y2 y4 y6 = some (r, S') → UM G (va_up V 19 S) s H locs → lv_has ls 8 [(0, .ref (ga G 19 0)), (1, .int y1), (2, .long y2), (4, .long y4), (6, .int y6)] → W p l e (uR 7 162) s m args below meth c H locs 0 0 (MQ below (uQi G .int r (va_up V 19 S')) args s 0 0 (uA G)) (F0 m 86 ls []) := by
  intro n
  have hx := X.hx
  have hb := X.hb
  induction n with
  | zero => intro S y1 y2 y4 y6 H locs ls h M hl; rw [fX12_runScript_L86] at h; cases h
  | succ n ih =>
    intro S y1 y2 y4 y6 H locs ls h M hl
    rw [fX12_runScript_L86] at h
    refine lv_iload hx hb dX12_runScript_86 (lv_at hl 4 rfl) ?_
    refine lv_iload_n hx hb dX12_runScript_88 rfl (lv_at hl 1 rfl) ?_
    refine lv_icmp_ge (tgt := 157) hx hb dX12_runScript_89 (by decide) (fun c15 => ?_) (fun c15 => ?_)
    · have h := it_t h c15
      refine lv_iconst (v := (-1)) hx hb dX12_runScript_157 (by decide) ?_
      exact u_iret X hret M (rt2 h).1 (congrArg (va_up V 19) ((rt2 h).2)) rfl dX12_runScript_158
    · have h := it_f h c15
      refine lv_lload hx hb dX12_runScript_92 (lv_at hl 3 rfl) ?_
      refine lv_ldc2 (v := 10000) hx hb X.1.2.2.2.1 (X.hts (gt_in 1354 (by decide +kernel) (by decide +kernel))) dX12_runScript_94 ?_
      refine lv_ldiv hx hb dX12_runScript_97 (by decide) ?_
      obtain ⟨x16, e17, h⟩ := lt_e h
      refine u_topl e17 ?_
      refine lv_lstore (lv' := [(4, .long x16), (0, .ref (ga G 19 0)), (1, .int y1), (2, .long y2), (6, .int y6)]) hx hb dX12_runScript_98 hl (by decide) rfl (fun ls hl => ?_)
      refine lv_lload_n hx hb dX12_runScript_100 rfl (lv_at hl 3 rfl) ?_
      refine lv_lload hx hb dX12_runScript_101 (lv_at hl 0 rfl) ?_
      obtain ⟨z18, h⟩ := gd_e h
      refine lv_ldiv hx hb dX12_runScript_103 (of_decide_eq_true z18) ?_
      refine lv_ldc2 (v := 10000) hx hb X.1.2.2.2.1 (X.hts (gt_in 1354 (by decide +kernel) (by decide +kernel))) dX12_runScript_104 ?_
      refine lv_lrem hx hb dX12_runScript_107 (by decide) ?_
      refine lv_l2i hx hb dX12_runScript_108 rfl ?_
      obtain ⟨x19, e20, h⟩ := lt_e h
      refine u_topi e20 ?_
      refine lv_istore (lv' := [(7, .int x19), (4, .long x16), (0, .ref (ga G 19 0)), (1, .int y1), (2, .long y2), (6, .int y6)]) hx hb dX12_runScript_109 hl (by decide) rfl (fun ls hl => ?_)
      refine lv_aload_n hx hb dX12_runScript_111 rfl (lv_at hl 2 rfl) ?_
      refine gf_X12_16 X M hD dX12_runScript_112 ?_
      refine lv_iload hx hb dX12_runScript_115 (lv_at hl 0 rfl) ?_
      refine lv_sipush (v := 1000) hx hb dX12_runScript_117 (by decide) ?_
      refine lv_idiv hx hb dX12_runScript_120 (by decide) ?_
      refine lv_iload hx hb dX12_runScript_121 (lv_at hl 0 rfl) ?_
      refine lv_bipush (v := 100) hx hb dX12_runScript_123 (by decide) ?_
      refine lv_idiv hx hb dX12_runScript_125 (by decide) ?_
      refine lv_bipush (v := 10) hx hb dX12_runScript_126 (by decide) ?_
      refine lv_irem hx hb dX12_runScript_128 (by decide) ?_
      refine lv_iload hx hb dX12_runScript_129 (lv_at hl 0 rfl) ?_
      refine lv_bipush (v := 10) hx hb dX12_runScript_131 (by decide) ?_
      refine lv_idiv hx hb dX12_runScript_133 (by decide) ?_
      refine lv_bipush (v := 10) hx hb dX12_runScript_134 (by decide) ?_
      refine lv_irem hx hb dX12_runScript_136 (by decide) ?_
      refine lv_iload hx hb dX12_runScript_137 (lv_at hl 0 rfl) ?_
      refine lv_bipush (v := 10) hx hb dX12_runScript_139 (by decide) ?_
      refine lv_irem hx hb dX12_runScript_141 (by decide) ?_
      obtain ⟨x22, r24, e21, h⟩ := bd2_e h
      have M := um_in2 3 M
      refine u_cSi X M hl.1 (kX12_command (uArD3 hD) e21) cw_X12_213 ⟨by decide, by decide⟩ rfl rfl (Nat.le_of_ble_eq_true rfl) ⟨Nat.zero_le _, Nat.zero_le _⟩ dX12_runScript_142 (fun H locs M n26 => ?_)
      obtain ⟨S23, e25, h⟩ := lt_e h
      rw [← e25] at M
      refine lv_if_ne (tgt := 151) hx hb dX12_runScript_145 (by decide) (fun c27 => ?_) (fun c27 => ?_)
      · have h := it_f h c27
        obtain ⟨x28, e29, h⟩ := lt_e h
        refine lv_iinc (v := x28) (lv' := [(6, .int x28), (7, .int x19), (4, .long x16), (0, .ref (ga G 19 0)), (1, .int y1), (2, .long y2)]) hx hb dX12_runScript_151 hl (k := 5) rfl (by rw [e29]; rfl) (by decide) rfl (fun ls hl => ?_)
        refine lv_goto (tgt := 86) hx hb dX12_runScript_154 (by decide) ?_
        exact ih _ _ _ _ _ _ _ _ h M (lv_sub hl [3, 4, 5, 2, 0] rfl)
      · have h := it_t h c27
        refine lv_iload hx hb dX12_runScript_148 (lv_at hl 5 rfl) ?_
        exact u_iret X hret M (rt2 h).1 (congrArg (va_up V 19) ((rt2 h).2)) rfl dX12_runScript_150
def fX12_runScript_L6 (n : Nat) (S : (Nat → Nat → Int32)) (y1 : Int32) (y2 : Int64) (y4 : Int64) (y6 : Int32) : Option (Int32 × (Nat → Nat → Int32)) :=
  match n with
  | 0 => none
  | n + 1 =>
    if y1 ≤ y6 then
      lt_ (fX12_in  ((y1 : Int32).toInt64) 1 3) fun x3 =>
      if x3 = 0 then
        bd2 (fX12_refused S 1) fun x7 S8 =>
        if x7 = 0 then
          bd (fcp 1272 (S8 2) 0 1272 (S8 3) 0) fun r11 =>
          lt_ (va_up S8 3 r11) fun S13 =>
          fX12_runScript_L86 3000 S13 y1 y2 y4 0
        else
          some (0, S8)
      else
        lt_ (fX12_in  y2 0 (y4 - 1)) fun x31 =>
        if x31 = 0 then
          bd2 (fX12_refused S 1) fun x35 S36 =>
          if x35 = 0 then
            bd (fcp 1272 (S36 2) 0 1272 (S36 3) 0) fun r39 =>
            lt_ (va_up S36 3 r39) fun S41 =>
            fX12_runScript_L86 3000 S41 y1 y2 y4 0
          else
            some (0, S36)
        else
          bd2 (fX12_refused S 0) fun x44 S45 =>
          if x44 = 0 then
            bd (fcp 1272 (S45 2) 0 1272 (S45 3) 0) fun r48 =>
            lt_ (va_up S45 3 r48) fun S50 =>
            fX12_runScript_L86 3000 S50 y1 y2 y4 0
          else
            some (0, S45)
    else
      if 3 ≤ y6 then
        lt_ (fX12_in  ((y1 : Int32).toInt64) 1 3) fun x54 =>
        if x54 = 0 then
          bd2 (fX12_refused S 1) fun x58 S59 =>
          if x58 = 0 then
            bd (fcp 1272 (S59 2) 0 1272 (S59 3) 0) fun r62 =>
            lt_ (va_up S59 3 r62) fun S64 =>
            fX12_runScript_L86 3000 S64 y1 y2 y4 0
          else
            some (0, S59)
        else
          lt_ (fX12_in  y2 0 (y4 - 1)) fun x67 =>
          if x67 = 0 then
            bd2 (fX12_refused S 1) fun x71 S72 =>
            if x71 = 0 then
              bd (fcp 1272 (S72 2) 0 1272 (S72 3) 0) fun r75 =>
              lt_ (va_up S72 3 r75) fun S77 =>
              fX12_runScript_L86 3000 S77 y1 y2 y4 0
            else
              some (0, S72)
          else
            bd2 (fX12_refused S 0) fun x80 S81 =>
            if x80 = 0 then
              bd (fcp 1272 (S81 2) 0 1272 (S81 3) 0) fun r84 =>
              lt_ (va_up S81 3 r84) fun S86 =>
              fX12_runScript_L86 3000 S86 y1 y2 y4 0
            else
              some (0, S81)
      else
        lt_ ((y4 * 10000)) fun x88 =>
        lt_ (y6 + 1) fun x90 =>
        fX12_runScript_L6 n S y1 y2 x88 x90
set_option maxHeartbeats 4000000 in
set_option maxRecDepth 20000 in
theorem lpX12_runScript_6 {l : Launch} {G : UG} {V : uV} (hD : uMd G) {S' : (Nat → Nat → Int32)} {r : Int32} {p : Program} {e : Env} {s : State} {m : MethodId} {args : Array Value} {below : List Frame} {meth : Method} {c : Code} (X : UC p s m args meth c cX12_runScript 8 RX12 G) (hret : meth.sig.returnType = some .int) : ∀ (n : Nat) (S : (Nat → Nat → Int32)) (y1 : Int32) (y2 : Int64) (y4 : Int64) (y6 : Int32) (H : Heap) (locs : List Loc) (ls : Array Slot), fX12_runScript_L6  n S y1 y2 y4 y6 = some (r, S') → UM G (va_up V 19 S) s H locs → lv_has ls 8 [(0, .ref (ga G 19 0)), (1, .int y1), (2, .long y2), (4, .long y4), (6, .int y6)] → W p l e (uR 7 162) s m args below meth c H locs 0 0 (MQ below (uQi G .int r (va_up V 19 S')) args s 0 0 (uA G)) (F0 m 6 ls []) := by
  intro n
  have hx := X.hx
  have hb := X.hb
  induction n with
  | zero => intro S y1 y2 y4 y6 H locs ls h M hl; rw [fX12_runScript_L6] at h; cases h
  | succ n ih =>
    intro S y1 y2 y4 y6 H locs ls h M hl
    rw [fX12_runScript_L6] at h
    refine lv_iload hx hb dX12_runScript_6 (lv_at hl 4 rfl) ?_
    refine lv_iload_n hx hb dX12_runScript_8 rfl (lv_at hl 1 rfl) ?_
    refine lv_icmp_ge (tgt := 32) hx hb dX12_runScript_9 (by decide) (fun c1 => ?_) (fun c1 => ?_)
    · have h := it_t h c1
      refine lv_aload_n hx hb dX12_runScript_32 rfl (lv_at hl 0 rfl) ?_
      refine lv_iload_n hx hb dX12_runScript_33 rfl (lv_at hl 1 rfl) ?_
      refine lv_i2l hx hb dX12_runScript_34 rfl ?_
      refine lv_lconst (v := 1) hx hb dX12_runScript_35 rfl ?_
      refine lv_ldc2 (v := 3) hx hb X.1.2.2.2.1 (X.hts (gt_in 1228 (by decide +kernel) (by decide +kernel))) dX12_runScript_36 ?_
      obtain ⟨x3, e2, h⟩ := lt_e h
      refine u_cSi X M hl.1 (kX12_in  e2.symm) cw_X12_44 ⟨by decide, by decide⟩ rfl rfl (Nat.le_of_ble_eq_true rfl) ⟨Nat.zero_le _, Nat.zero_le _⟩ dX12_runScript_39 (fun H locs M n4 => ?_)
      refine lv_if_eq (tgt := 61) hx hb dX12_runScript_42 (by decide) (fun c5 => ?_) (fun c5 => ?_)
      · have h := it_t h c5
        refine lv_iconst (v := 1) hx hb dX12_runScript_61 (by decide) ?_
        obtain ⟨x7, S8, e6, h⟩ := bd2_e h
        refine u_cVi X M hl.1 (kX12_refused hD e6) cw_X12_101 ⟨by decide, by decide⟩ (rc_X12 X M hD) rfl rfl (Nat.le_of_ble_eq_true rfl) ⟨Nat.zero_le _, Nat.zero_le _⟩ dX12_runScript_62 (fun H locs M n9 => ?_)
        refine lv_if_eq (tgt := 70) hx hb dX12_runScript_65 (by decide) (fun c10 => ?_) (fun c10 => ?_)
        · have h := it_t h c10
          refine lv_aload_n hx hb dX12_runScript_70 rfl (lv_at hl 0 rfl) ?_
          refine gf_X12_13 X M hD dX12_runScript_71 ?_
          refine lv_iconst (v := 0) hx hb dX12_runScript_74 (by decide) ?_
          refine lv_aload_n hx hb dX12_runScript_75 rfl (lv_at hl 0 rfl) ?_
          refine gf_X12_16 X M hD dX12_runScript_76 ?_
          refine lv_iconst (v := 0) hx hb dX12_runScript_79 (by decide) ?_
          obtain ⟨r11, e12, h⟩ := bd_e h
          refine u_cSv X M hl.1 (kX12_copyState hD (o1 := 2) (o2 := 3) (by decide) (by decide) (by decide) uSh_md2 uSh_md3 (by decide) (by decide) e12) cw_X12_165 ⟨by decide, by decide⟩ rfl rfl (Nat.le_of_ble_eq_true rfl) ⟨Nat.zero_le _, Nat.zero_le _⟩ dX12_runScript_80 (fun H locs M => ?_)
          obtain ⟨S13, e14, h⟩ := lt_e h
          rw [← e14] at M
          refine lv_iconst (v := 0) hx hb dX12_runScript_83 (by decide) ?_
          refine lv_istore (lv' := [(6, .int 0), (0, .ref (ga G 19 0)), (1, .int y1), (2, .long y2), (4, .long y4)]) hx hb dX12_runScript_84 hl (by decide) rfl (fun ls hl => ?_)
          exact lpX12_runScript_86 hD X hret 3000 _ _ _ _ _ _ _ _ h M (lv_sub hl [1, 2, 3, 4, 0] rfl)
        · have h := it_f h c10
          refine lv_iconst (v := 0) hx hb dX12_runScript_68 (by decide) ?_
          exact u_iret X hret M (rt2 h).1 (congrArg (va_up V 19) ((rt2 h).2)) rfl dX12_runScript_69
      · have h := it_f h c5
        refine lv_lload_n hx hb dX12_runScript_45 rfl (lv_at hl 2 rfl) ?_
        refine lv_lconst (v := 0) hx hb dX12_runScript_46 rfl ?_
        refine lv_lload hx hb dX12_runScript_47 (lv_at hl 3 rfl) ?_
        refine lv_lconst (v := 1) hx hb dX12_runScript_49 rfl ?_
        refine lv_lsub hx hb dX12_runScript_50 ?_
        obtain ⟨x31, e30, h⟩ := lt_e h
        refine u_cSi X M hl.1 (kX12_in  e30.symm) cw_X12_44 ⟨by decide, by decide⟩ rfl rfl (Nat.le_of_ble_eq_true rfl) ⟨Nat.zero_le _, Nat.zero_le _⟩ dX12_runScript_51 (fun H locs M n32 => ?_)
        refine lv_if_eq (tgt := 61) hx hb dX12_runScript_54 (by decide) (fun c33 => ?_) (fun c33 => ?_)
        · have h := it_t h c33
          refine lv_iconst (v := 1) hx hb dX12_runScript_61 (by decide) ?_
          obtain ⟨x35, S36, e34, h⟩ := bd2_e h
          refine u_cVi X M hl.1 (kX12_refused hD e34) cw_X12_101 ⟨by decide, by decide⟩ (rc_X12 X M hD) rfl rfl (Nat.le_of_ble_eq_true rfl) ⟨Nat.zero_le _, Nat.zero_le _⟩ dX12_runScript_62 (fun H locs M n37 => ?_)
          refine lv_if_eq (tgt := 70) hx hb dX12_runScript_65 (by decide) (fun c38 => ?_) (fun c38 => ?_)
          · have h := it_t h c38
            refine lv_aload_n hx hb dX12_runScript_70 rfl (lv_at hl 0 rfl) ?_
            refine gf_X12_13 X M hD dX12_runScript_71 ?_
            refine lv_iconst (v := 0) hx hb dX12_runScript_74 (by decide) ?_
            refine lv_aload_n hx hb dX12_runScript_75 rfl (lv_at hl 0 rfl) ?_
            refine gf_X12_16 X M hD dX12_runScript_76 ?_
            refine lv_iconst (v := 0) hx hb dX12_runScript_79 (by decide) ?_
            obtain ⟨r39, e40, h⟩ := bd_e h
            refine u_cSv X M hl.1 (kX12_copyState hD (o1 := 2) (o2 := 3) (by decide) (by decide) (by decide) uSh_md2 uSh_md3 (by decide) (by decide) e40) cw_X12_165 ⟨by decide, by decide⟩ rfl rfl (Nat.le_of_ble_eq_true rfl) ⟨Nat.zero_le _, Nat.zero_le _⟩ dX12_runScript_80 (fun H locs M => ?_)
            obtain ⟨S41, e42, h⟩ := lt_e h
            rw [← e42] at M
            refine lv_iconst (v := 0) hx hb dX12_runScript_83 (by decide) ?_
            refine lv_istore (lv' := [(6, .int 0), (0, .ref (ga G 19 0)), (1, .int y1), (2, .long y2), (4, .long y4)]) hx hb dX12_runScript_84 hl (by decide) rfl (fun ls hl => ?_)
            exact lpX12_runScript_86 hD X hret 3000 _ _ _ _ _ _ _ _ h M (lv_sub hl [1, 2, 3, 4, 0] rfl)
          · have h := it_f h c38
            refine lv_iconst (v := 0) hx hb dX12_runScript_68 (by decide) ?_
            exact u_iret X hret M (rt2 h).1 (congrArg (va_up V 19) ((rt2 h).2)) rfl dX12_runScript_69
        · have h := it_f h c33
          refine lv_iconst (v := 0) hx hb dX12_runScript_57 (by decide) ?_
          refine lv_goto (tgt := 62) hx hb dX12_runScript_58 (by decide) ?_
          obtain ⟨x44, S45, e43, h⟩ := bd2_e h
          refine u_cVi X M hl.1 (kX12_refused hD e43) cw_X12_101 ⟨by decide, by decide⟩ (rc_X12 X M hD) rfl rfl (Nat.le_of_ble_eq_true rfl) ⟨Nat.zero_le _, Nat.zero_le _⟩ dX12_runScript_62 (fun H locs M n46 => ?_)
          refine lv_if_eq (tgt := 70) hx hb dX12_runScript_65 (by decide) (fun c47 => ?_) (fun c47 => ?_)
          · have h := it_t h c47
            refine lv_aload_n hx hb dX12_runScript_70 rfl (lv_at hl 0 rfl) ?_
            refine gf_X12_13 X M hD dX12_runScript_71 ?_
            refine lv_iconst (v := 0) hx hb dX12_runScript_74 (by decide) ?_
            refine lv_aload_n hx hb dX12_runScript_75 rfl (lv_at hl 0 rfl) ?_
            refine gf_X12_16 X M hD dX12_runScript_76 ?_
            refine lv_iconst (v := 0) hx hb dX12_runScript_79 (by decide) ?_
            obtain ⟨r48, e49, h⟩ := bd_e h
            refine u_cSv X M hl.1 (kX12_copyState hD (o1 := 2) (o2 := 3) (by decide) (by decide) (by decide) uSh_md2 uSh_md3 (by decide) (by decide) e49) cw_X12_165 ⟨by decide, by decide⟩ rfl rfl (Nat.le_of_ble_eq_true rfl) ⟨Nat.zero_le _, Nat.zero_le _⟩ dX12_runScript_80 (fun H locs M => ?_)
            obtain ⟨S50, e51, h⟩ := lt_e h
            rw [← e51] at M
            refine lv_iconst (v := 0) hx hb dX12_runScript_83 (by decide) ?_
            refine lv_istore (lv' := [(6, .int 0), (0, .ref (ga G 19 0)), (1, .int y1), (2, .long y2), (4, .long y4)]) hx hb dX12_runScript_84 hl (by decide) rfl (fun ls hl => ?_)
            exact lpX12_runScript_86 hD X hret 3000 _ _ _ _ _ _ _ _ h M (lv_sub hl [1, 2, 3, 4, 0] rfl)
          · have h := it_f h c47
            refine lv_iconst (v := 0) hx hb dX12_runScript_68 (by decide) ?_
            exact u_iret X hret M (rt2 h).1 (congrArg (va_up V 19) ((rt2 h).2)) rfl dX12_runScript_69
    · have h := it_f h c1
      refine lv_iload hx hb dX12_runScript_12 (lv_at hl 4 rfl) ?_
      refine lv_iconst (v := 3) hx hb dX12_runScript_14 (by decide) ?_
      refine lv_icmp_ge (tgt := 32) hx hb dX12_runScript_15 (by decide) (fun c52 => ?_) (fun c52 => ?_)
      · have h := it_t h c52
        refine lv_aload_n hx hb dX12_runScript_32 rfl (lv_at hl 0 rfl) ?_
        refine lv_iload_n hx hb dX12_runScript_33 rfl (lv_at hl 1 rfl) ?_
        refine lv_i2l hx hb dX12_runScript_34 rfl ?_
        refine lv_lconst (v := 1) hx hb dX12_runScript_35 rfl ?_
        refine lv_ldc2 (v := 3) hx hb X.1.2.2.2.1 (X.hts (gt_in 1228 (by decide +kernel) (by decide +kernel))) dX12_runScript_36 ?_
        obtain ⟨x54, e53, h⟩ := lt_e h
        refine u_cSi X M hl.1 (kX12_in  e53.symm) cw_X12_44 ⟨by decide, by decide⟩ rfl rfl (Nat.le_of_ble_eq_true rfl) ⟨Nat.zero_le _, Nat.zero_le _⟩ dX12_runScript_39 (fun H locs M n55 => ?_)
        refine lv_if_eq (tgt := 61) hx hb dX12_runScript_42 (by decide) (fun c56 => ?_) (fun c56 => ?_)
        · have h := it_t h c56
          refine lv_iconst (v := 1) hx hb dX12_runScript_61 (by decide) ?_
          obtain ⟨x58, S59, e57, h⟩ := bd2_e h
          refine u_cVi X M hl.1 (kX12_refused hD e57) cw_X12_101 ⟨by decide, by decide⟩ (rc_X12 X M hD) rfl rfl (Nat.le_of_ble_eq_true rfl) ⟨Nat.zero_le _, Nat.zero_le _⟩ dX12_runScript_62 (fun H locs M n60 => ?_)
          refine lv_if_eq (tgt := 70) hx hb dX12_runScript_65 (by decide) (fun c61 => ?_) (fun c61 => ?_)
          · have h := it_t h c61
            refine lv_aload_n hx hb dX12_runScript_70 rfl (lv_at hl 0 rfl) ?_
            refine gf_X12_13 X M hD dX12_runScript_71 ?_
            refine lv_iconst (v := 0) hx hb dX12_runScript_74 (by decide) ?_
            refine lv_aload_n hx hb dX12_runScript_75 rfl (lv_at hl 0 rfl) ?_
            refine gf_X12_16 X M hD dX12_runScript_76 ?_
            refine lv_iconst (v := 0) hx hb dX12_runScript_79 (by decide) ?_
            obtain ⟨r62, e63, h⟩ := bd_e h
            refine u_cSv X M hl.1 (kX12_copyState hD (o1 := 2) (o2 := 3) (by decide) (by decide) (by decide) uSh_md2 uSh_md3 (by decide) (by decide) e63) cw_X12_165 ⟨by decide, by decide⟩ rfl rfl (Nat.le_of_ble_eq_true rfl) ⟨Nat.zero_le _, Nat.zero_le _⟩ dX12_runScript_80 (fun H locs M => ?_)
            obtain ⟨S64, e65, h⟩ := lt_e h
            rw [← e65] at M
            refine lv_iconst (v := 0) hx hb dX12_runScript_83 (by decide) ?_
            refine lv_istore (lv' := [(6, .int 0), (0, .ref (ga G 19 0)), (1, .int y1), (2, .long y2), (4, .long y4)]) hx hb dX12_runScript_84 hl (by decide) rfl (fun ls hl => ?_)
            exact lpX12_runScript_86 hD X hret 3000 _ _ _ _ _ _ _ _ h M (lv_sub hl [1, 2, 3, 4, 0] rfl)
          · have h := it_f h c61
            refine lv_iconst (v := 0) hx hb dX12_runScript_68 (by decide) ?_
            exact u_iret X hret M (rt2 h).1 (congrArg (va_up V 19) ((rt2 h).2)) rfl dX12_runScript_69
        · have h := it_f h c56
          refine lv_lload_n hx hb dX12_runScript_45 rfl (lv_at hl 2 rfl) ?_
          refine lv_lconst (v := 0) hx hb dX12_runScript_46 rfl ?_
          refine lv_lload hx hb dX12_runScript_47 (lv_at hl 3 rfl) ?_
          refine lv_lconst (v := 1) hx hb dX12_runScript_49 rfl ?_
          refine lv_lsub hx hb dX12_runScript_50 ?_
          obtain ⟨x67, e66, h⟩ := lt_e h
          refine u_cSi X M hl.1 (kX12_in  e66.symm) cw_X12_44 ⟨by decide, by decide⟩ rfl rfl (Nat.le_of_ble_eq_true rfl) ⟨Nat.zero_le _, Nat.zero_le _⟩ dX12_runScript_51 (fun H locs M n68 => ?_)
          refine lv_if_eq (tgt := 61) hx hb dX12_runScript_54 (by decide) (fun c69 => ?_) (fun c69 => ?_)
          · have h := it_t h c69
            refine lv_iconst (v := 1) hx hb dX12_runScript_61 (by decide) ?_
            obtain ⟨x71, S72, e70, h⟩ := bd2_e h
            refine u_cVi X M hl.1 (kX12_refused hD e70) cw_X12_101 ⟨by decide, by decide⟩ (rc_X12 X M hD) rfl rfl (Nat.le_of_ble_eq_true rfl) ⟨Nat.zero_le _, Nat.zero_le _⟩ dX12_runScript_62 (fun H locs M n73 => ?_)
            refine lv_if_eq (tgt := 70) hx hb dX12_runScript_65 (by decide) (fun c74 => ?_) (fun c74 => ?_)
            · have h := it_t h c74
              refine lv_aload_n hx hb dX12_runScript_70 rfl (lv_at hl 0 rfl) ?_
              refine gf_X12_13 X M hD dX12_runScript_71 ?_
              refine lv_iconst (v := 0) hx hb dX12_runScript_74 (by decide) ?_
              refine lv_aload_n hx hb dX12_runScript_75 rfl (lv_at hl 0 rfl) ?_
              refine gf_X12_16 X M hD dX12_runScript_76 ?_
              refine lv_iconst (v := 0) hx hb dX12_runScript_79 (by decide) ?_
              obtain ⟨r75, e76, h⟩ := bd_e h
              refine u_cSv X M hl.1 (kX12_copyState hD (o1 := 2) (o2 := 3) (by decide) (by decide) (by decide) uSh_md2 uSh_md3 (by decide) (by decide) e76) cw_X12_165 ⟨by decide, by decide⟩ rfl rfl (Nat.le_of_ble_eq_true rfl) ⟨Nat.zero_le _, Nat.zero_le _⟩ dX12_runScript_80 (fun H locs M => ?_)
              obtain ⟨S77, e78, h⟩ := lt_e h
              rw [← e78] at M
              refine lv_iconst (v := 0) hx hb dX12_runScript_83 (by decide) ?_
              refine lv_istore (lv' := [(6, .int 0), (0, .ref (ga G 19 0)), (1, .int y1), (2, .long y2), (4, .long y4)]) hx hb dX12_runScript_84 hl (by decide) rfl (fun ls hl => ?_)
              exact lpX12_runScript_86 hD X hret 3000 _ _ _ _ _ _ _ _ h M (lv_sub hl [1, 2, 3, 4, 0] rfl)
            · have h := it_f h c74
              refine lv_iconst (v := 0) hx hb dX12_runScript_68 (by decide) ?_
              exact u_iret X hret M (rt2 h).1 (congrArg (va_up V 19) ((rt2 h).2)) rfl dX12_runScript_69
          · have h := it_f h c69
            refine lv_iconst (v := 0) hx hb dX12_runScript_57 (by decide) ?_
            refine lv_goto (tgt := 62) hx hb dX12_runScript_58 (by decide) ?_
            obtain ⟨x80, S81, e79, h⟩ := bd2_e h
            refine u_cVi X M hl.1 (kX12_refused hD e79) cw_X12_101 ⟨by decide, by decide⟩ (rc_X12 X M hD) rfl rfl (Nat.le_of_ble_eq_true rfl) ⟨Nat.zero_le _, Nat.zero_le _⟩ dX12_runScript_62 (fun H locs M n82 => ?_)
            refine lv_if_eq (tgt := 70) hx hb dX12_runScript_65 (by decide) (fun c83 => ?_) (fun c83 => ?_)
            · have h := it_t h c83
              refine lv_aload_n hx hb dX12_runScript_70 rfl (lv_at hl 0 rfl) ?_
              refine gf_X12_13 X M hD dX12_runScript_71 ?_
              refine lv_iconst (v := 0) hx hb dX12_runScript_74 (by decide) ?_
              refine lv_aload_n hx hb dX12_runScript_75 rfl (lv_at hl 0 rfl) ?_
              refine gf_X12_16 X M hD dX12_runScript_76 ?_
              refine lv_iconst (v := 0) hx hb dX12_runScript_79 (by decide) ?_
              obtain ⟨r84, e85, h⟩ := bd_e h
              refine u_cSv X M hl.1 (kX12_copyState hD (o1 := 2) (o2 := 3) (by decide) (by decide) (by decide) uSh_md2 uSh_md3 (by decide) (by decide) e85) cw_X12_165 ⟨by decide, by decide⟩ rfl rfl (Nat.le_of_ble_eq_true rfl) ⟨Nat.zero_le _, Nat.zero_le _⟩ dX12_runScript_80 (fun H locs M => ?_)
              obtain ⟨S86, e87, h⟩ := lt_e h
              rw [← e87] at M
              refine lv_iconst (v := 0) hx hb dX12_runScript_83 (by decide) ?_
              refine lv_istore (lv' := [(6, .int 0), (0, .ref (ga G 19 0)), (1, .int y1), (2, .long y2), (4, .long y4)]) hx hb dX12_runScript_84 hl (by decide) rfl (fun ls hl => ?_)
              exact lpX12_runScript_86 hD X hret 3000 _ _ _ _ _ _ _ _ h M (lv_sub hl [1, 2, 3, 4, 0] rfl)
            · have h := it_f h c83
              refine lv_iconst (v := 0) hx hb dX12_runScript_68 (by decide) ?_
              exact u_iret X hret M (rt2 h).1 (congrArg (va_up V 19) ((rt2 h).2)) rfl dX12_runScript_69
      · have h := it_f h c52
        refine lv_lload hx hb dX12_runScript_18 (lv_at hl 3 rfl) ?_
        refine lv_ldc2 (v := 10000) hx hb X.1.2.2.2.1 (X.hts (gt_in 1354 (by decide +kernel) (by decide +kernel))) dX12_runScript_20 ?_
        refine lv_lmul hx hb dX12_runScript_23 ?_
        obtain ⟨x88, e89, h⟩ := lt_e h
        refine u_topl e89 ?_
        refine lv_lstore (lv' := [(4, .long x88), (0, .ref (ga G 19 0)), (1, .int y1), (2, .long y2), (6, .int y6)]) hx hb dX12_runScript_24 hl (by decide) rfl (fun ls hl => ?_)
        obtain ⟨x90, e91, h⟩ := lt_e h
        refine lv_iinc (v := x90) (lv' := [(6, .int x90), (4, .long x88), (0, .ref (ga G 19 0)), (1, .int y1), (2, .long y2)]) hx hb dX12_runScript_26 hl (k := 4) rfl (by rw [e91]; rfl) (by decide) rfl (fun ls hl => ?_)
        refine lv_goto (tgt := 6) hx hb dX12_runScript_29 (by decide) ?_
        exact ih _ _ _ _ _ _ _ _ h M (lv_sub hl [2, 3, 4, 1, 0] rfl)
def fX12_runScript (S : (Nat → Nat → Int32)) (a1 : Int32) (a2 : Int64) : Option (Int32 × (Nat → Nat → Int32)) :=
  fX12_runScript_L6 3000 S a1 a2 1 0
set_option maxHeartbeats 4000000 in
set_option maxRecDepth 20000 in
theorem kX12_runScript {l : Launch} {G : UG} {V : uV} (hD : uMd G) {S S' : (Nat → Nat → Int32)} {a1 : Int32} {a2 : Int64} {r : Int32} (h : fX12_runScript S a1 a2 = some (r, S')) : uMi l G yX12_runScript cX12_runScript 8 .int (uR 7 162) [.ref (ga G 19 0), .int a1, .long a2] (va_up V 19 S) r (va_up V 19 S') := by
  refine uMi_of rfl (Nat.le_of_ble_eq_true rfl) (fun p e s m args below meth c ls X hret hl M => ?_)
  have hl : lv_has ls 8 [(0, .ref (ga G 19 0)), (1, .int a1), (2, .long a2)] := hl
  have hx := X.hx
  have hb := X.hb
  unfold fX12_runScript at h
  refine lv_lconst (v := 1) hx hb dX12_runScript_0 rfl ?_
  refine lv_lstore (lv' := [(4, .long 1), (0, .ref (ga G 19 0)), (1, .int a1), (2, .long a2)]) hx hb dX12_runScript_1 hl (by decide) rfl (fun ls hl => ?_)
  refine lv_iconst (v := 0) hx hb dX12_runScript_3 (by decide) ?_
  refine lv_istore (lv' := [(6, .int 0), (4, .long 1), (0, .ref (ga G 19 0)), (1, .int a1), (2, .long a2)]) hx hb dX12_runScript_4 hl (by decide) rfl (fun ls hl => ?_)
  exact lpX12_runScript_6 hD X hret 3000 _ _ _ _ _ _ _ _ h M (lv_sub hl [2, 3, 4, 1, 0] rfl)
def fX12_simulate_L45 (n : Nat) (S : (Nat → Nat → Int32)) (y1 : Int64) (y3 : Int32) (y4 : Int64) (y6 : Int32) : Option (Int32 × (Nat → Nat → Int32)) :=
  match n with
  | 0 => none
  | n + 1 =>
    if y3 ≤ y6 then
      gd (inb 3 1272) <|
      lt_ (S 3 (3 : Int32).toNatClampNeg) fun x16 =>
      lt_ (S 2 (3 : Int32).toNatClampNeg) fun x18 =>
      gd (inb 5 1272) <|
      lt_ (S 3 (5 : Int32).toNatClampNeg) fun x21 =>
      lt_ (S 2 (5 : Int32).toNatClampNeg) fun x23 =>
      some ((((1000 * (x16 - x18)) + x21) - x23), S)
    else
      lt_ (((y4 * 6364136223846793005) + 1442695040888963407)) fun x25 =>
      bd (fX12_turn (S 3) (((((x25 : Int64).toUInt64 >>> ((33 : Int32).toInt64.toUInt64 &&& Int64.toUInt64 63)).toInt64) : Int64).toInt32)) fun r29 =>
      lt_ (va_up S 3 r29) fun S28 =>
      lt_ (y6 + 1) fun x32 =>
      fX12_simulate_L45 n S28 y1 y3 x25 x32
set_option maxHeartbeats 4000000 in
set_option maxRecDepth 20000 in
theorem lpX12_simulate_45 {l : Launch} {G : UG} {V : uV} (hD : uMd G) {S' : (Nat → Nat → Int32)} {r : Int32} {p : Program} {e : Env} {s : State} {m : MethodId} {args : Array Value} {below : List Frame} {meth : Method} {c : Code} (X : UC p s m args meth c cX12_simulate 7 RX12 G) (hret : meth.sig.returnType = some .int) : ∀ (n : Nat) (S : (Nat → Nat → Int32)) (y1 : Int64) (y3 : Int32) (y4 : Int64) (y6 : Int32) (H : Heap) (locs : List Loc) (ls : Array Slot), fX12_simulate_L45  n S y1 y3 y4 y6 = some (r, S') → UM G (va_up V 19 S) s H locs → lv_has ls 7 [(0, .ref (ga G 19 0)), (1, .long y1), (3, .int y3), (4, .long y4), (6, .int y6)] → W p l e (uR 7 160) s m args below meth c H locs 0 0 (MQ below (uQi G .int r (va_up V 19 S')) args s 0 0 (uA G)) (F0 m 45 ls []) := by
  intro n
  have hx := X.hx
  have hb := X.hb
  induction n with
  | zero => intro S y1 y3 y4 y6 H locs ls h M hl; rw [fX12_simulate_L45] at h; cases h
  | succ n ih =>
    intro S y1 y3 y4 y6 H locs ls h M hl
    rw [fX12_simulate_L45] at h
    refine lv_iload hx hb dX12_simulate_45 (lv_at hl 4 rfl) ?_
    refine lv_iload_n hx hb dX12_simulate_47 rfl (lv_at hl 2 rfl) ?_
    refine lv_icmp_ge (tgt := 82) hx hb dX12_simulate_48 (by decide) (fun c14 => ?_) (fun c14 => ?_)
    · have h := it_t h c14
      refine lv_sipush (v := 1000) hx hb dX12_simulate_82 (by decide) ?_
      refine lv_aload_n hx hb dX12_simulate_85 rfl (lv_at hl 0 rfl) ?_
      refine gf_X12_16 X M hD dX12_simulate_86 ?_
      refine lv_iconst (v := 3) hx hb dX12_simulate_89 (by decide) ?_
      obtain ⟨g15, h⟩ := gd_e h
      obtain ⟨x16, e17, h⟩ := lt_e h
      refine u_ald X M (hD 3 (by decide)) (uAd_sh uSh_md3 (congrFun (va_up_s V 19 _) 3)) (inb_e g15) e17 dX12_simulate_90 ?_
      refine lv_aload_n hx hb dX12_simulate_91 rfl (lv_at hl 0 rfl) ?_
      refine gf_X12_13 X M hD dX12_simulate_92 ?_
      refine lv_iconst (v := 3) hx hb dX12_simulate_95 (by decide) ?_
      obtain ⟨x18, e19, h⟩ := lt_e h
      refine u_ald X M (hD 2 (by decide)) (uAd_sh uSh_md2 (congrFun (va_up_s V 19 _) 2)) (inb_e g15) e19 dX12_simulate_96 ?_
      refine lv_isub hx hb dX12_simulate_97 ?_
      refine lv_imul hx hb dX12_simulate_98 ?_
      refine lv_aload_n hx hb dX12_simulate_99 rfl (lv_at hl 0 rfl) ?_
      refine gf_X12_16 X M hD dX12_simulate_100 ?_
      refine lv_iconst (v := 5) hx hb dX12_simulate_103 (by decide) ?_
      obtain ⟨g20, h⟩ := gd_e h
      obtain ⟨x21, e22, h⟩ := lt_e h
      refine u_ald X M (hD 3 (by decide)) (uAd_sh uSh_md3 (congrFun (va_up_s V 19 _) 3)) (inb_e g20) e22 dX12_simulate_104 ?_
      refine lv_iadd hx hb dX12_simulate_105 ?_
      refine lv_aload_n hx hb dX12_simulate_106 rfl (lv_at hl 0 rfl) ?_
      refine gf_X12_13 X M hD dX12_simulate_107 ?_
      refine lv_iconst (v := 5) hx hb dX12_simulate_110 (by decide) ?_
      obtain ⟨x23, e24, h⟩ := lt_e h
      refine u_ald X M (hD 2 (by decide)) (uAd_sh uSh_md2 (congrFun (va_up_s V 19 _) 2)) (inb_e g20) e24 dX12_simulate_111 ?_
      refine lv_isub hx hb dX12_simulate_112 ?_
      exact u_iret X hret M (rt2 h).1 (congrArg (va_up V 19) ((rt2 h).2)) rfl dX12_simulate_113
    · have h := it_f h c14
      refine lv_lload hx hb dX12_simulate_51 (lv_at hl 3 rfl) ?_
      refine lv_ldc2 (v := 6364136223846793005) hx hb X.1.2.2.2.1 (X.hts (gt_in 1363 (by decide +kernel) (by decide +kernel))) dX12_simulate_53 ?_
      refine lv_lmul hx hb dX12_simulate_56 ?_
      refine lv_ldc2 (v := 1442695040888963407) hx hb X.1.2.2.2.1 (X.hts (gt_in 1364 (by decide +kernel) (by decide +kernel))) dX12_simulate_57 ?_
      refine lv_ladd hx hb dX12_simulate_60 ?_
      obtain ⟨x25, e26, h⟩ := lt_e h
      refine u_topl e26 ?_
      refine lv_lstore (lv' := [(4, .long x25), (0, .ref (ga G 19 0)), (1, .long y1), (3, .int y3), (6, .int y6)]) hx hb dX12_simulate_61 hl (by decide) rfl (fun ls hl => ?_)
      refine lv_aload_n hx hb dX12_simulate_63 rfl (lv_at hl 1 rfl) ?_
      refine gf_X12_16 X M hD dX12_simulate_64 ?_
      refine lv_lload hx hb dX12_simulate_67 (lv_at hl 0 rfl) ?_
      refine lv_bipush (v := 33) hx hb dX12_simulate_69 (by decide) ?_
      refine lv_lushr hx hb dX12_simulate_71 rfl ?_
      refine lv_l2i hx hb dX12_simulate_72 rfl ?_
      obtain ⟨r29, e27, h⟩ := bd_e h
      have M := um_in2 3 M
      refine u_cSv X M hl.1 (kX12_turn (uArD3 hD) e27) cw_X12_223 ⟨by decide, by decide⟩ rfl rfl (Nat.le_of_ble_eq_true rfl) ⟨Nat.zero_le _, Nat.zero_le _⟩ dX12_simulate_73 (fun H locs M => ?_)
      obtain ⟨S28, e30, h⟩ := lt_e h
      rw [← e30] at M
      obtain ⟨x32, e33, h⟩ := lt_e h
      refine lv_iinc (v := x32) (lv' := [(6, .int x32), (4, .long x25), (0, .ref (ga G 19 0)), (1, .long y1), (3, .int y3)]) hx hb dX12_simulate_76 hl (k := 4) rfl (by rw [e33]; rfl) (by decide) rfl (fun ls hl => ?_)
      refine lv_goto (tgt := 45) hx hb dX12_simulate_79 (by decide) ?_
      exact ih _ _ _ _ _ _ _ _ h M (lv_sub hl [2, 3, 4, 1, 0] rfl)
def fX12_simulate (S : (Nat → Nat → Int32)) (a1 : Int64) (a2 : Int32) : Option (Int32 × (Nat → Nat → Int32)) :=
  lt_ (fX12_in  ((a2 : Int32).toInt64) 1 80) fun x2 =>
  if x2 = 0 then
    bd2 (fX12_refused S 1) fun x6 S7 =>
    if x6 = 0 then
      bd (fcp 1272 (S7 2) 0 1272 (S7 3) 0) fun r10 =>
      lt_ (va_up S7 3 r10) fun S12 =>
      fX12_simulate_L45 3000 S12 a1 a2 a1 0
    else
      some (0, S7)
  else
    bd2 (fX12_refused S 0) fun x35 S36 =>
    if x35 = 0 then
      bd (fcp 1272 (S36 2) 0 1272 (S36 3) 0) fun r39 =>
      lt_ (va_up S36 3 r39) fun S41 =>
      fX12_simulate_L45 3000 S41 a1 a2 a1 0
    else
      some (0, S36)
set_option maxHeartbeats 4000000 in
set_option maxRecDepth 20000 in
theorem kX12_simulate {l : Launch} {G : UG} {V : uV} (hD : uMd G) {S S' : (Nat → Nat → Int32)} {a1 : Int64} {a2 : Int32} {r : Int32} (h : fX12_simulate S a1 a2 = some (r, S')) : uMi l G yX12_simulate cX12_simulate 7 .int (uR 7 160) [.ref (ga G 19 0), .long a1, .int a2] (va_up V 19 S) r (va_up V 19 S') := by
  refine uMi_of rfl (Nat.le_of_ble_eq_true rfl) (fun p e s m args below meth c ls X hret hl M => ?_)
  have hl : lv_has ls 7 [(0, .ref (ga G 19 0)), (1, .long a1), (3, .int a2)] := hl
  have hx := X.hx
  have hb := X.hb
  unfold fX12_simulate at h
  refine lv_aload_n hx hb dX12_simulate_0 rfl (lv_at hl 0 rfl) ?_
  refine lv_iload_n hx hb dX12_simulate_1 rfl (lv_at hl 2 rfl) ?_
  refine lv_i2l hx hb dX12_simulate_2 rfl ?_
  refine lv_lconst (v := 1) hx hb dX12_simulate_3 rfl ?_
  refine lv_ldc2 (v := 80) hx hb X.1.2.2.2.1 (X.hts (gt_in 1362 (by decide +kernel) (by decide +kernel))) dX12_simulate_4 ?_
  obtain ⟨x2, e1, h⟩ := lt_e h
  refine u_cSi X M hl.1 (kX12_in  e1.symm) cw_X12_44 ⟨by decide, by decide⟩ rfl rfl (Nat.le_of_ble_eq_true rfl) ⟨Nat.zero_le _, Nat.zero_le _⟩ dX12_simulate_7 (fun H locs M n3 => ?_)
  refine lv_if_eq (tgt := 17) hx hb dX12_simulate_10 (by decide) (fun c4 => ?_) (fun c4 => ?_)
  · have h := it_t h c4
    refine lv_iconst (v := 1) hx hb dX12_simulate_17 (by decide) ?_
    obtain ⟨x6, S7, e5, h⟩ := bd2_e h
    refine u_cVi X M hl.1 (kX12_refused hD e5) cw_X12_101 ⟨by decide, by decide⟩ (rc_X12 X M hD) rfl rfl (Nat.le_of_ble_eq_true rfl) ⟨Nat.zero_le _, Nat.zero_le _⟩ dX12_simulate_18 (fun H locs M n8 => ?_)
    refine lv_if_eq (tgt := 26) hx hb dX12_simulate_21 (by decide) (fun c9 => ?_) (fun c9 => ?_)
    · have h := it_t h c9
      refine lv_aload_n hx hb dX12_simulate_26 rfl (lv_at hl 0 rfl) ?_
      refine gf_X12_13 X M hD dX12_simulate_27 ?_
      refine lv_iconst (v := 0) hx hb dX12_simulate_30 (by decide) ?_
      refine lv_aload_n hx hb dX12_simulate_31 rfl (lv_at hl 0 rfl) ?_
      refine gf_X12_16 X M hD dX12_simulate_32 ?_
      refine lv_iconst (v := 0) hx hb dX12_simulate_35 (by decide) ?_
      obtain ⟨r10, e11, h⟩ := bd_e h
      refine u_cSv X M hl.1 (kX12_copyState hD (o1 := 2) (o2 := 3) (by decide) (by decide) (by decide) uSh_md2 uSh_md3 (by decide) (by decide) e11) cw_X12_165 ⟨by decide, by decide⟩ rfl rfl (Nat.le_of_ble_eq_true rfl) ⟨Nat.zero_le _, Nat.zero_le _⟩ dX12_simulate_36 (fun H locs M => ?_)
      obtain ⟨S12, e13, h⟩ := lt_e h
      rw [← e13] at M
      refine lv_lload_n hx hb dX12_simulate_39 rfl (lv_at hl 1 rfl) ?_
      refine lv_lstore (lv' := [(4, .long a1), (0, .ref (ga G 19 0)), (1, .long a1), (3, .int a2)]) hx hb dX12_simulate_40 hl (by decide) rfl (fun ls hl => ?_)
      refine lv_iconst (v := 0) hx hb dX12_simulate_42 (by decide) ?_
      refine lv_istore (lv' := [(6, .int 0), (4, .long a1), (0, .ref (ga G 19 0)), (1, .long a1), (3, .int a2)]) hx hb dX12_simulate_43 hl (by decide) rfl (fun ls hl => ?_)
      exact lpX12_simulate_45 hD X hret 3000 _ _ _ _ _ _ _ _ h M (lv_sub hl [2, 3, 4, 1, 0] rfl)
    · have h := it_f h c9
      refine lv_iconst (v := 0) hx hb dX12_simulate_24 (by decide) ?_
      exact u_iret X hret M (rt2 h).1 (congrArg (va_up V 19) ((rt2 h).2)) rfl dX12_simulate_25
  · have h := it_f h c4
    refine lv_iconst (v := 0) hx hb dX12_simulate_13 (by decide) ?_
    refine lv_goto (tgt := 18) hx hb dX12_simulate_14 (by decide) ?_
    obtain ⟨x35, S36, e34, h⟩ := bd2_e h
    refine u_cVi X M hl.1 (kX12_refused hD e34) cw_X12_101 ⟨by decide, by decide⟩ (rc_X12 X M hD) rfl rfl (Nat.le_of_ble_eq_true rfl) ⟨Nat.zero_le _, Nat.zero_le _⟩ dX12_simulate_18 (fun H locs M n37 => ?_)
    refine lv_if_eq (tgt := 26) hx hb dX12_simulate_21 (by decide) (fun c38 => ?_) (fun c38 => ?_)
    · have h := it_t h c38
      refine lv_aload_n hx hb dX12_simulate_26 rfl (lv_at hl 0 rfl) ?_
      refine gf_X12_13 X M hD dX12_simulate_27 ?_
      refine lv_iconst (v := 0) hx hb dX12_simulate_30 (by decide) ?_
      refine lv_aload_n hx hb dX12_simulate_31 rfl (lv_at hl 0 rfl) ?_
      refine gf_X12_16 X M hD dX12_simulate_32 ?_
      refine lv_iconst (v := 0) hx hb dX12_simulate_35 (by decide) ?_
      obtain ⟨r39, e40, h⟩ := bd_e h
      refine u_cSv X M hl.1 (kX12_copyState hD (o1 := 2) (o2 := 3) (by decide) (by decide) (by decide) uSh_md2 uSh_md3 (by decide) (by decide) e40) cw_X12_165 ⟨by decide, by decide⟩ rfl rfl (Nat.le_of_ble_eq_true rfl) ⟨Nat.zero_le _, Nat.zero_le _⟩ dX12_simulate_36 (fun H locs M => ?_)
      obtain ⟨S41, e42, h⟩ := lt_e h
      rw [← e42] at M
      refine lv_lload_n hx hb dX12_simulate_39 rfl (lv_at hl 1 rfl) ?_
      refine lv_lstore (lv' := [(4, .long a1), (0, .ref (ga G 19 0)), (1, .long a1), (3, .int a2)]) hx hb dX12_simulate_40 hl (by decide) rfl (fun ls hl => ?_)
      refine lv_iconst (v := 0) hx hb dX12_simulate_42 (by decide) ?_
      refine lv_istore (lv' := [(6, .int 0), (4, .long a1), (0, .ref (ga G 19 0)), (1, .long a1), (3, .int a2)]) hx hb dX12_simulate_43 hl (by decide) rfl (fun ls hl => ?_)
      exact lpX12_simulate_45 hD X hret 3000 _ _ _ _ _ _ _ _ h M (lv_sub hl [2, 3, 4, 1, 0] rfl)
    · have h := it_f h c38
      refine lv_iconst (v := 0) hx hb dX12_simulate_24 (by decide) ?_
      exact u_iret X hret M (rt2 h).1 (congrArg (va_up V 19) ((rt2 h).2)) rfl dX12_simulate_25
def fX12_save (S : (Nat → Nat → Int32)) (a1 : Int32) : Option (Int32 × (Nat → Nat → Int32)) :=
  lt_ (fX12_in  ((a1 : Int32).toInt64) 0 1) fun x2 =>
  if x2 = 0 then
    bd2 (fX12_refused S 1) fun x6 S7 =>
    if x6 = 0 then
      bd (fcp 1272 (S7 2) 0 2544 (S7 6) (1272 * a1)) fun r10 =>
      lt_ (va_up S7 6 r10) fun S12 =>
      gd (inb a1 2) <|
      lt_ (va_up S12 7 (upd (S12 7) (a1 : Int32).toNatClampNeg 1)) fun S15 =>
      gd (inb 2 1272) <|
      lt_ (S15 2 (2 : Int32).toNatClampNeg) fun x18 =>
      some (x18, S15)
    else
      some (0, S7)
  else
    bd2 (fX12_refused S 0) fun x21 S22 =>
    if x21 = 0 then
      bd (fcp 1272 (S22 2) 0 2544 (S22 6) (1272 * a1)) fun r25 =>
      lt_ (va_up S22 6 r25) fun S27 =>
      gd (inb a1 2) <|
      lt_ (va_up S27 7 (upd (S27 7) (a1 : Int32).toNatClampNeg 1)) fun S30 =>
      gd (inb 2 1272) <|
      lt_ (S30 2 (2 : Int32).toNatClampNeg) fun x33 =>
      some (x33, S30)
    else
      some (0, S22)
set_option maxHeartbeats 4000000 in
set_option maxRecDepth 20000 in
theorem kX12_save {l : Launch} {G : UG} {V : uV} (hD : uMd G) {S S' : (Nat → Nat → Int32)} {a1 : Int32} {r : Int32} (h : fX12_save S a1 = some (r, S')) : uMi l G yX12_save cX12_save 2 .int (uR 1 25) [.ref (ga G 19 0), .int a1] (va_up V 19 S) r (va_up V 19 S') := by
  refine uMi_of rfl (Nat.le_of_ble_eq_true rfl) (fun p e s m args below meth c ls X hret hl M => ?_)
  have hl : lv_has ls 2 [(0, .ref (ga G 19 0)), (1, .int a1)] := hl
  have hx := X.hx
  have hb := X.hb
  unfold fX12_save at h
  refine lv_aload_n hx hb dX12_save_0 rfl (lv_at hl 0 rfl) ?_
  refine lv_iload_n hx hb dX12_save_1 rfl (lv_at hl 1 rfl) ?_
  refine lv_i2l hx hb dX12_save_2 rfl ?_
  refine lv_lconst (v := 0) hx hb dX12_save_3 rfl ?_
  refine lv_lconst (v := 1) hx hb dX12_save_4 rfl ?_
  obtain ⟨x2, e1, h⟩ := lt_e h
  refine u_cSi X M hl.1 (kX12_in  e1.symm) cw_X12_44 ⟨by decide, by decide⟩ rfl rfl (Nat.le_of_ble_eq_true rfl) ⟨Nat.zero_le _, Nat.zero_le _⟩ dX12_save_5 (fun H locs M n3 => ?_)
  refine lv_if_eq (tgt := 15) hx hb dX12_save_8 (by decide) (fun c4 => ?_) (fun c4 => ?_)
  · have h := it_t h c4
    refine lv_iconst (v := 1) hx hb dX12_save_15 (by decide) ?_
    obtain ⟨x6, S7, e5, h⟩ := bd2_e h
    refine u_cVi X M hl.1 (kX12_refused hD e5) cw_X12_101 ⟨by decide, by decide⟩ (rc_X12 X M hD) rfl rfl (Nat.le_of_ble_eq_true rfl) ⟨Nat.zero_le _, Nat.zero_le _⟩ dX12_save_16 (fun H locs M n8 => ?_)
    refine lv_if_eq (tgt := 24) hx hb dX12_save_19 (by decide) (fun c9 => ?_) (fun c9 => ?_)
    · have h := it_t h c9
      refine lv_aload_n hx hb dX12_save_24 rfl (lv_at hl 0 rfl) ?_
      refine gf_X12_13 X M hD dX12_save_25 ?_
      refine lv_iconst (v := 0) hx hb dX12_save_28 (by decide) ?_
      refine lv_aload_n hx hb dX12_save_29 rfl (lv_at hl 0 rfl) ?_
      refine gf_X12_25 X M hD dX12_save_30 ?_
      refine lv_sipush (v := 1272) hx hb dX12_save_33 (by decide) ?_
      refine lv_iload_n hx hb dX12_save_36 rfl (lv_at hl 1 rfl) ?_
      refine lv_imul hx hb dX12_save_37 ?_
      obtain ⟨r10, e11, h⟩ := bd_e h
      refine u_cSv X M hl.1 (kX12_copyState hD (o1 := 2) (o2 := 6) (by decide) (by decide) (by decide) uSh_md2 uSh_md6 (by decide) (by decide) e11) cw_X12_165 ⟨by decide, by decide⟩ rfl rfl (Nat.le_of_ble_eq_true rfl) ⟨Nat.zero_le _, Nat.zero_le _⟩ dX12_save_38 (fun H locs M => ?_)
      obtain ⟨S12, e13, h⟩ := lt_e h
      rw [← e13] at M
      refine lv_aload_n hx hb dX12_save_41 rfl (lv_at hl 0 rfl) ?_
      refine gf_X12_28 X M hD dX12_save_42 ?_
      refine lv_iload_n hx hb dX12_save_45 rfl (lv_at hl 1 rfl) ?_
      refine lv_iconst (v := 1) hx hb dX12_save_46 (by decide) ?_
      obtain ⟨g14, h⟩ := gd_e h
      obtain ⟨S15, e16, h⟩ := lt_e h
      refine u_zast_b X M (hD 7 (by decide)) uSh_md7 (inb_e g14) (by decide) e16 dX12_save_47 (fun H locs M => ?_)
      refine lv_aload_n hx hb dX12_save_48 rfl (lv_at hl 0 rfl) ?_
      refine gf_X12_13 X M hD dX12_save_49 ?_
      refine lv_iconst (v := 2) hx hb dX12_save_52 (by decide) ?_
      obtain ⟨g17, h⟩ := gd_e h
      obtain ⟨x18, e19, h⟩ := lt_e h
      refine u_ald X M (hD 2 (by decide)) (uAd_sh uSh_md2 (congrFun (va_up_s V 19 _) 2)) (inb_e g17) e19 dX12_save_53 ?_
      exact u_iret X hret M (rt2 h).1 (congrArg (va_up V 19) ((rt2 h).2)) rfl dX12_save_54
    · have h := it_f h c9
      refine lv_iconst (v := 0) hx hb dX12_save_22 (by decide) ?_
      exact u_iret X hret M (rt2 h).1 (congrArg (va_up V 19) ((rt2 h).2)) rfl dX12_save_23
  · have h := it_f h c4
    refine lv_iconst (v := 0) hx hb dX12_save_11 (by decide) ?_
    refine lv_goto (tgt := 16) hx hb dX12_save_12 (by decide) ?_
    obtain ⟨x21, S22, e20, h⟩ := bd2_e h
    refine u_cVi X M hl.1 (kX12_refused hD e20) cw_X12_101 ⟨by decide, by decide⟩ (rc_X12 X M hD) rfl rfl (Nat.le_of_ble_eq_true rfl) ⟨Nat.zero_le _, Nat.zero_le _⟩ dX12_save_16 (fun H locs M n23 => ?_)
    refine lv_if_eq (tgt := 24) hx hb dX12_save_19 (by decide) (fun c24 => ?_) (fun c24 => ?_)
    · have h := it_t h c24
      refine lv_aload_n hx hb dX12_save_24 rfl (lv_at hl 0 rfl) ?_
      refine gf_X12_13 X M hD dX12_save_25 ?_
      refine lv_iconst (v := 0) hx hb dX12_save_28 (by decide) ?_
      refine lv_aload_n hx hb dX12_save_29 rfl (lv_at hl 0 rfl) ?_
      refine gf_X12_25 X M hD dX12_save_30 ?_
      refine lv_sipush (v := 1272) hx hb dX12_save_33 (by decide) ?_
      refine lv_iload_n hx hb dX12_save_36 rfl (lv_at hl 1 rfl) ?_
      refine lv_imul hx hb dX12_save_37 ?_
      obtain ⟨r25, e26, h⟩ := bd_e h
      refine u_cSv X M hl.1 (kX12_copyState hD (o1 := 2) (o2 := 6) (by decide) (by decide) (by decide) uSh_md2 uSh_md6 (by decide) (by decide) e26) cw_X12_165 ⟨by decide, by decide⟩ rfl rfl (Nat.le_of_ble_eq_true rfl) ⟨Nat.zero_le _, Nat.zero_le _⟩ dX12_save_38 (fun H locs M => ?_)
      obtain ⟨S27, e28, h⟩ := lt_e h
      rw [← e28] at M
      refine lv_aload_n hx hb dX12_save_41 rfl (lv_at hl 0 rfl) ?_
      refine gf_X12_28 X M hD dX12_save_42 ?_
      refine lv_iload_n hx hb dX12_save_45 rfl (lv_at hl 1 rfl) ?_
      refine lv_iconst (v := 1) hx hb dX12_save_46 (by decide) ?_
      obtain ⟨g29, h⟩ := gd_e h
      obtain ⟨S30, e31, h⟩ := lt_e h
      refine u_zast_b X M (hD 7 (by decide)) uSh_md7 (inb_e g29) (by decide) e31 dX12_save_47 (fun H locs M => ?_)
      refine lv_aload_n hx hb dX12_save_48 rfl (lv_at hl 0 rfl) ?_
      refine gf_X12_13 X M hD dX12_save_49 ?_
      refine lv_iconst (v := 2) hx hb dX12_save_52 (by decide) ?_
      obtain ⟨g32, h⟩ := gd_e h
      obtain ⟨x33, e34, h⟩ := lt_e h
      refine u_ald X M (hD 2 (by decide)) (uAd_sh uSh_md2 (congrFun (va_up_s V 19 _) 2)) (inb_e g32) e34 dX12_save_53 ?_
      exact u_iret X hret M (rt2 h).1 (congrArg (va_up V 19) ((rt2 h).2)) rfl dX12_save_54
    · have h := it_f h c24
      refine lv_iconst (v := 0) hx hb dX12_save_22 (by decide) ?_
      exact u_iret X hret M (rt2 h).1 (congrArg (va_up V 19) ((rt2 h).2)) rfl dX12_save_23
def fX12_restore (S : (Nat → Nat → Int32)) (a1 : Int32) : Option (Int32 × (Nat → Nat → Int32)) :=
  lt_ (fX12_in  ((a1 : Int32).toInt64) 0 1) fun x2 =>
  if x2 = 0 then
    bd2 (fX12_refused S 1) fun x38 S39 =>
    if x38 = 0 then
      bd (fcp 2544 (S39 6) (1272 * a1) 1272 (S39 2) 0) fun r42 =>
      lt_ (va_up S39 2 r42) fun S44 =>
      lt_ (va_up S44 0 (upd (S44 0) 7 0)) fun S46 =>
      gd (inb 2 1272) <|
      lt_ (S46 2 (2 : Int32).toNatClampNeg) fun x49 =>
      some (x49, S46)
    else
      some (0, S39)
  else
    gd (inb a1 2) <|
    lt_ (S 7 (a1 : Int32).toNatClampNeg) fun x6 =>
    if x6 = 0 then
      bd2 (fX12_refused S 2) fun x24 S25 =>
      if x24 = 0 then
        bd (fcp 2544 (S25 6) (1272 * a1) 1272 (S25 2) 0) fun r28 =>
        lt_ (va_up S25 2 r28) fun S30 =>
        lt_ (va_up S30 0 (upd (S30 0) 7 0)) fun S32 =>
        gd (inb 2 1272) <|
        lt_ (S32 2 (2 : Int32).toNatClampNeg) fun x35 =>
        some (x35, S32)
      else
        some (0, S25)
    else
      bd2 (fX12_refused S 0) fun x10 S11 =>
      if x10 = 0 then
        bd (fcp 2544 (S11 6) (1272 * a1) 1272 (S11 2) 0) fun r14 =>
        lt_ (va_up S11 2 r14) fun S16 =>
        lt_ (va_up S16 0 (upd (S16 0) 7 0)) fun S18 =>
        gd (inb 2 1272) <|
        lt_ (S18 2 (2 : Int32).toNatClampNeg) fun x21 =>
        some (x21, S18)
      else
        some (0, S11)
set_option maxHeartbeats 4000000 in
set_option maxRecDepth 20000 in
theorem kX12_restore {l : Launch} {G : UG} {V : uV} (hD : uMd G) {S S' : (Nat → Nat → Int32)} {a1 : Int32} {r : Int32} (h : fX12_restore S a1 = some (r, S')) : uMi l G yX12_restore cX12_restore 2 .int (uR 1 25) [.ref (ga G 19 0), .int a1] (va_up V 19 S) r (va_up V 19 S') := by
  refine uMi_of rfl (Nat.le_of_ble_eq_true rfl) (fun p e s m args below meth c ls X hret hl M => ?_)
  have hl : lv_has ls 2 [(0, .ref (ga G 19 0)), (1, .int a1)] := hl
  have hx := X.hx
  have hb := X.hb
  unfold fX12_restore at h
  refine lv_aload_n hx hb dX12_restore_0 rfl (lv_at hl 0 rfl) ?_
  refine lv_iload_n hx hb dX12_restore_1 rfl (lv_at hl 1 rfl) ?_
  refine lv_i2l hx hb dX12_restore_2 rfl ?_
  refine lv_lconst (v := 0) hx hb dX12_restore_3 rfl ?_
  refine lv_lconst (v := 1) hx hb dX12_restore_4 rfl ?_
  obtain ⟨x2, e1, h⟩ := lt_e h
  refine u_cSi X M hl.1 (kX12_in  e1.symm) cw_X12_44 ⟨by decide, by decide⟩ rfl rfl (Nat.le_of_ble_eq_true rfl) ⟨Nat.zero_le _, Nat.zero_le _⟩ dX12_restore_5 (fun H locs M n3 => ?_)
  refine lv_if_ne (tgt := 15) hx hb dX12_restore_8 (by decide) (fun c4 => ?_) (fun c4 => ?_)
  · have h := it_f h c4
    refine lv_aload_n hx hb dX12_restore_15 rfl (lv_at hl 0 rfl) ?_
    refine gf_X12_28 X M hD dX12_restore_16 ?_
    refine lv_iload_n hx hb dX12_restore_19 rfl (lv_at hl 1 rfl) ?_
    obtain ⟨g5, h⟩ := gd_e h
    obtain ⟨x6, e7, h⟩ := lt_e h
    refine u_zald X M (hD 7 (by decide)) (uAd_sh uSh_md7 (congrFun (va_up_s V 19 _) 7)) (inb_e g5) e7 dX12_restore_20 ?_
    refine lv_if_ne (tgt := 28) hx hb dX12_restore_21 (by decide) (fun c8 => ?_) (fun c8 => ?_)
    · have h := it_f h c8
      refine lv_iconst (v := 0) hx hb dX12_restore_28 (by decide) ?_
      obtain ⟨x10, S11, e9, h⟩ := bd2_e h
      refine u_cVi X M hl.1 (kX12_refused hD e9) cw_X12_101 ⟨by decide, by decide⟩ (rc_X12 X M hD) rfl rfl (Nat.le_of_ble_eq_true rfl) ⟨Nat.zero_le _, Nat.zero_le _⟩ dX12_restore_29 (fun H locs M n12 => ?_)
      refine lv_if_eq (tgt := 37) hx hb dX12_restore_32 (by decide) (fun c13 => ?_) (fun c13 => ?_)
      · have h := it_t h c13
        refine lv_aload_n hx hb dX12_restore_37 rfl (lv_at hl 0 rfl) ?_
        refine gf_X12_25 X M hD dX12_restore_38 ?_
        refine lv_sipush (v := 1272) hx hb dX12_restore_41 (by decide) ?_
        refine lv_iload_n hx hb dX12_restore_44 rfl (lv_at hl 1 rfl) ?_
        refine lv_imul hx hb dX12_restore_45 ?_
        refine lv_aload_n hx hb dX12_restore_46 rfl (lv_at hl 0 rfl) ?_
        refine gf_X12_13 X M hD dX12_restore_47 ?_
        refine lv_iconst (v := 0) hx hb dX12_restore_50 (by decide) ?_
        obtain ⟨r14, e15, h⟩ := bd_e h
        refine u_cSv X M hl.1 (kX12_copyState hD (o1 := 6) (o2 := 2) (by decide) (by decide) (by decide) uSh_md6 uSh_md2 (by decide) (by decide) e15) cw_X12_165 ⟨by decide, by decide⟩ rfl rfl (Nat.le_of_ble_eq_true rfl) ⟨Nat.zero_le _, Nat.zero_le _⟩ dX12_restore_51 (fun H locs M => ?_)
        obtain ⟨S16, e17, h⟩ := lt_e h
        rw [← e17] at M
        refine lv_aload_n hx hb dX12_restore_54 rfl (lv_at hl 0 rfl) ?_
        refine lv_iconst (v := 0) hx hb dX12_restore_55 (by decide) ?_
        obtain ⟨S18, e19, h⟩ := lt_e h
        refine pf_X12_169 X M hD e19 dX12_restore_56 (fun H locs M => ?_)
        refine lv_aload_n hx hb dX12_restore_59 rfl (lv_at hl 0 rfl) ?_
        refine gf_X12_13 X M hD dX12_restore_60 ?_
        refine lv_iconst (v := 2) hx hb dX12_restore_63 (by decide) ?_
        obtain ⟨g20, h⟩ := gd_e h
        obtain ⟨x21, e22, h⟩ := lt_e h
        refine u_ald X M (hD 2 (by decide)) (uAd_sh uSh_md2 (congrFun (va_up_s V 19 _) 2)) (inb_e g20) e22 dX12_restore_64 ?_
        exact u_iret X hret M (rt2 h).1 (congrArg (va_up V 19) ((rt2 h).2)) rfl dX12_restore_65
      · have h := it_f h c13
        refine lv_iconst (v := 0) hx hb dX12_restore_35 (by decide) ?_
        exact u_iret X hret M (rt2 h).1 (congrArg (va_up V 19) ((rt2 h).2)) rfl dX12_restore_36
    · have h := it_t h c8
      refine lv_iconst (v := 2) hx hb dX12_restore_24 (by decide) ?_
      refine lv_goto (tgt := 29) hx hb dX12_restore_25 (by decide) ?_
      obtain ⟨x24, S25, e23, h⟩ := bd2_e h
      refine u_cVi X M hl.1 (kX12_refused hD e23) cw_X12_101 ⟨by decide, by decide⟩ (rc_X12 X M hD) rfl rfl (Nat.le_of_ble_eq_true rfl) ⟨Nat.zero_le _, Nat.zero_le _⟩ dX12_restore_29 (fun H locs M n26 => ?_)
      refine lv_if_eq (tgt := 37) hx hb dX12_restore_32 (by decide) (fun c27 => ?_) (fun c27 => ?_)
      · have h := it_t h c27
        refine lv_aload_n hx hb dX12_restore_37 rfl (lv_at hl 0 rfl) ?_
        refine gf_X12_25 X M hD dX12_restore_38 ?_
        refine lv_sipush (v := 1272) hx hb dX12_restore_41 (by decide) ?_
        refine lv_iload_n hx hb dX12_restore_44 rfl (lv_at hl 1 rfl) ?_
        refine lv_imul hx hb dX12_restore_45 ?_
        refine lv_aload_n hx hb dX12_restore_46 rfl (lv_at hl 0 rfl) ?_
        refine gf_X12_13 X M hD dX12_restore_47 ?_
        refine lv_iconst (v := 0) hx hb dX12_restore_50 (by decide) ?_
        obtain ⟨r28, e29, h⟩ := bd_e h
        refine u_cSv X M hl.1 (kX12_copyState hD (o1 := 6) (o2 := 2) (by decide) (by decide) (by decide) uSh_md6 uSh_md2 (by decide) (by decide) e29) cw_X12_165 ⟨by decide, by decide⟩ rfl rfl (Nat.le_of_ble_eq_true rfl) ⟨Nat.zero_le _, Nat.zero_le _⟩ dX12_restore_51 (fun H locs M => ?_)
        obtain ⟨S30, e31, h⟩ := lt_e h
        rw [← e31] at M
        refine lv_aload_n hx hb dX12_restore_54 rfl (lv_at hl 0 rfl) ?_
        refine lv_iconst (v := 0) hx hb dX12_restore_55 (by decide) ?_
        obtain ⟨S32, e33, h⟩ := lt_e h
        refine pf_X12_169 X M hD e33 dX12_restore_56 (fun H locs M => ?_)
        refine lv_aload_n hx hb dX12_restore_59 rfl (lv_at hl 0 rfl) ?_
        refine gf_X12_13 X M hD dX12_restore_60 ?_
        refine lv_iconst (v := 2) hx hb dX12_restore_63 (by decide) ?_
        obtain ⟨g34, h⟩ := gd_e h
        obtain ⟨x35, e36, h⟩ := lt_e h
        refine u_ald X M (hD 2 (by decide)) (uAd_sh uSh_md2 (congrFun (va_up_s V 19 _) 2)) (inb_e g34) e36 dX12_restore_64 ?_
        exact u_iret X hret M (rt2 h).1 (congrArg (va_up V 19) ((rt2 h).2)) rfl dX12_restore_65
      · have h := it_f h c27
        refine lv_iconst (v := 0) hx hb dX12_restore_35 (by decide) ?_
        exact u_iret X hret M (rt2 h).1 (congrArg (va_up V 19) ((rt2 h).2)) rfl dX12_restore_36
  · have h := it_t h c4
    refine lv_iconst (v := 1) hx hb dX12_restore_11 (by decide) ?_
    refine lv_goto (tgt := 29) hx hb dX12_restore_12 (by decide) ?_
    obtain ⟨x38, S39, e37, h⟩ := bd2_e h
    refine u_cVi X M hl.1 (kX12_refused hD e37) cw_X12_101 ⟨by decide, by decide⟩ (rc_X12 X M hD) rfl rfl (Nat.le_of_ble_eq_true rfl) ⟨Nat.zero_le _, Nat.zero_le _⟩ dX12_restore_29 (fun H locs M n40 => ?_)
    refine lv_if_eq (tgt := 37) hx hb dX12_restore_32 (by decide) (fun c41 => ?_) (fun c41 => ?_)
    · have h := it_t h c41
      refine lv_aload_n hx hb dX12_restore_37 rfl (lv_at hl 0 rfl) ?_
      refine gf_X12_25 X M hD dX12_restore_38 ?_
      refine lv_sipush (v := 1272) hx hb dX12_restore_41 (by decide) ?_
      refine lv_iload_n hx hb dX12_restore_44 rfl (lv_at hl 1 rfl) ?_
      refine lv_imul hx hb dX12_restore_45 ?_
      refine lv_aload_n hx hb dX12_restore_46 rfl (lv_at hl 0 rfl) ?_
      refine gf_X12_13 X M hD dX12_restore_47 ?_
      refine lv_iconst (v := 0) hx hb dX12_restore_50 (by decide) ?_
      obtain ⟨r42, e43, h⟩ := bd_e h
      refine u_cSv X M hl.1 (kX12_copyState hD (o1 := 6) (o2 := 2) (by decide) (by decide) (by decide) uSh_md6 uSh_md2 (by decide) (by decide) e43) cw_X12_165 ⟨by decide, by decide⟩ rfl rfl (Nat.le_of_ble_eq_true rfl) ⟨Nat.zero_le _, Nat.zero_le _⟩ dX12_restore_51 (fun H locs M => ?_)
      obtain ⟨S44, e45, h⟩ := lt_e h
      rw [← e45] at M
      refine lv_aload_n hx hb dX12_restore_54 rfl (lv_at hl 0 rfl) ?_
      refine lv_iconst (v := 0) hx hb dX12_restore_55 (by decide) ?_
      obtain ⟨S46, e47, h⟩ := lt_e h
      refine pf_X12_169 X M hD e47 dX12_restore_56 (fun H locs M => ?_)
      refine lv_aload_n hx hb dX12_restore_59 rfl (lv_at hl 0 rfl) ?_
      refine gf_X12_13 X M hD dX12_restore_60 ?_
      refine lv_iconst (v := 2) hx hb dX12_restore_63 (by decide) ?_
      obtain ⟨g48, h⟩ := gd_e h
      obtain ⟨x49, e50, h⟩ := lt_e h
      refine u_ald X M (hD 2 (by decide)) (uAd_sh uSh_md2 (congrFun (va_up_s V 19 _) 2)) (inb_e g48) e50 dX12_restore_64 ?_
      exact u_iret X hret M (rt2 h).1 (congrArg (va_up V 19) ((rt2 h).2)) rfl dX12_restore_65
    · have h := it_f h c41
      refine lv_iconst (v := 0) hx hb dX12_restore_35 (by decide) ?_
      exact u_iret X hret M (rt2 h).1 (congrArg (va_up V 19) ((rt2 h).2)) rfl dX12_restore_36
