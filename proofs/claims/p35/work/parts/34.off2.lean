theorem dX11_issue_0 : decode cX11_issue 0 = .ok (.iload_n 1, 1) := by decide +kernel
theorem dX11_issue_1 : decode cX11_issue 1 = .ok (.iconst 0, 1) := by decide +kernel
theorem dX11_issue_2 : decode cX11_issue 2 = .ok (.bipush 99, 2) := by decide +kernel
theorem dX11_issue_4 : decode cX11_issue 4 = .ok (.invokestatic 40, 3) := by decide +kernel
theorem dX11_issue_7 : decode cX11_issue 7 = .ok (.aload_n 0, 1) := by decide +kernel
theorem dX11_issue_8 : decode cX11_issue 8 = .ok (.getfield 10, 3) := by decide +kernel
theorem dX11_issue_11 : decode cX11_issue 11 = .ok (.invokevirtual 137, 3) := by decide +kernel
theorem dX11_issue_14 : decode cX11_issue 14 = .ok (.invokestatic 48, 3) := by decide +kernel
theorem dX11_issue_17 : decode cX11_issue 17 = .ok (.aload_n 0, 1) := by decide +kernel
theorem dX11_issue_18 : decode cX11_issue 18 = .ok (.invokevirtual 141, 3) := by decide +kernel
theorem dX11_issue_21 : decode cX11_issue 21 = .ok (.aload_n 0, 1) := by decide +kernel
theorem dX11_issue_22 : decode cX11_issue 22 = .ok (.getfield 10, 3) := by decide +kernel
theorem dX11_issue_25 : decode cX11_issue 25 = .ok (.iload_n 1, 1) := by decide +kernel
theorem dX11_issue_26 : decode cX11_issue 26 = .ok (.invokevirtual 144, 3) := by decide +kernel
theorem dX11_issue_29 : decode cX11_issue 29 = .ok (.ireturn, 1) := by decide +kernel
theorem dX11_copy_0 : decode cX11_copy 0 = .ok (.aload_n 0, 1) := by decide +kernel
theorem dX11_copy_1 : decode cX11_copy 1 = .ok (.getfield 10, 3) := by decide +kernel
theorem dX11_copy_4 : decode cX11_copy 4 = .ok (.getfield 82, 3) := by decide +kernel
theorem dX11_copy_7 : decode cX11_copy 7 = .ok (.iload_n 1, 1) := by decide +kernel
theorem dX11_copy_8 : decode cX11_copy 8 = .ok (.invokevirtual 86, 3) := by decide +kernel
theorem dX11_copy_11 : decode cX11_copy 11 = .ok (.invokestatic 92, 3) := by decide +kernel
theorem dX11_copy_14 : decode cX11_copy 14 = .ok (.aload_n 0, 1) := by decide +kernel
theorem dX11_copy_15 : decode cX11_copy 15 = .ok (.getfield 10, 3) := by decide +kernel
theorem dX11_copy_18 : decode cX11_copy 18 = .ok (.getfield 82, 3) := by decide +kernel
theorem dX11_copy_21 : decode cX11_copy 21 = .ok (.invokevirtual 147, 3) := by decide +kernel
theorem dX11_copy_24 : decode cX11_copy 24 = .ok (.ifCond .ne 7, 3) := by decide +kernel
theorem dX11_copy_27 : decode cX11_copy 27 = .ok (.iconst 1, 1) := by decide +kernel
theorem dX11_copy_28 : decode cX11_copy 28 = .ok (.goto 4, 3) := by decide +kernel
theorem dX11_copy_31 : decode cX11_copy 31 = .ok (.iconst 0, 1) := by decide +kernel
theorem dX11_copy_32 : decode cX11_copy 32 = .ok (.invokestatic 48, 3) := by decide +kernel
theorem dX11_copy_35 : decode cX11_copy 35 = .ok (.aload_n 0, 1) := by decide +kernel
theorem dX11_copy_36 : decode cX11_copy 36 = .ok (.invokevirtual 141, 3) := by decide +kernel
theorem dX11_copy_39 : decode cX11_copy 39 = .ok (.aload_n 0, 1) := by decide +kernel
theorem dX11_copy_40 : decode cX11_copy 40 = .ok (.getfield 10, 3) := by decide +kernel
theorem dX11_copy_43 : decode cX11_copy 43 = .ok (.getfield 82, 3) := by decide +kernel
theorem dX11_copy_46 : decode cX11_copy 46 = .ok (.iload_n 1, 1) := by decide +kernel
theorem dX11_copy_47 : decode cX11_copy 47 = .ok (.invokevirtual 150, 3) := by decide +kernel
theorem dX11_copy_50 : decode cX11_copy 50 = .ok (.ireturn, 1) := by decide +kernel
theorem dX11_ride_0 : decode cX11_ride 0 = .ok (.aload_n 0, 1) := by decide +kernel
theorem dX11_ride_1 : decode cX11_ride 1 = .ok (.getfield 10, 3) := by decide +kernel
theorem dX11_ride_4 : decode cX11_ride 4 = .ok (.getfield 82, 3) := by decide +kernel
theorem dX11_ride_7 : decode cX11_ride 7 = .ok (.iload_n 1, 1) := by decide +kernel
theorem dX11_ride_8 : decode cX11_ride 8 = .ok (.invokevirtual 86, 3) := by decide +kernel
theorem dX11_ride_11 : decode cX11_ride 11 = .ok (.ifCond .eq 21, 3) := by decide +kernel
theorem dX11_ride_14 : decode cX11_ride 14 = .ok (.aload_n 0, 1) := by decide +kernel
theorem dX11_ride_15 : decode cX11_ride 15 = .ok (.getfield 10, 3) := by decide +kernel
theorem dX11_ride_18 : decode cX11_ride 18 = .ok (.getfield 109, 3) := by decide +kernel
theorem dX11_ride_21 : decode cX11_ride 21 = .ok (.iload_n 2, 1) := by decide +kernel
theorem dX11_ride_22 : decode cX11_ride 22 = .ok (.invokevirtual 113, 3) := by decide +kernel
theorem dX11_ride_25 : decode cX11_ride 25 = .ok (.ifCond .eq 7, 3) := by decide +kernel
theorem dX11_ride_28 : decode cX11_ride 28 = .ok (.iconst 1, 1) := by decide +kernel
theorem dX11_ride_29 : decode cX11_ride 29 = .ok (.goto 4, 3) := by decide +kernel
theorem dX11_ride_32 : decode cX11_ride 32 = .ok (.iconst 0, 1) := by decide +kernel
theorem dX11_ride_33 : decode cX11_ride 33 = .ok (.invokestatic 92, 3) := by decide +kernel
theorem dX11_ride_36 : decode cX11_ride 36 = .ok (.aload_n 0, 1) := by decide +kernel
theorem dX11_ride_37 : decode cX11_ride 37 = .ok (.invokevirtual 141, 3) := by decide +kernel
theorem dX11_ride_40 : decode cX11_ride 40 = .ok (.aload_n 0, 1) := by decide +kernel
theorem dX11_ride_41 : decode cX11_ride 41 = .ok (.getfield 10, 3) := by decide +kernel
theorem dX11_ride_44 : decode cX11_ride 44 = .ok (.iload_n 1, 1) := by decide +kernel
theorem dX11_ride_45 : decode cX11_ride 45 = .ok (.iload_n 2, 1) := by decide +kernel
theorem dX11_ride_46 : decode cX11_ride 46 = .ok (.invokevirtual 153, 3) := by decide +kernel
theorem dX11_ride_49 : decode cX11_ride 49 = .ok (.ireturn, 1) := by decide +kernel
theorem dX11_pay_0 : decode cX11_pay 0 = .ok (.aload_n 0, 1) := by decide +kernel
theorem dX11_pay_1 : decode cX11_pay 1 = .ok (.getfield 10, 3) := by decide +kernel
theorem dX11_pay_4 : decode cX11_pay 4 = .ok (.getfield 99, 3) := by decide +kernel
theorem dX11_pay_7 : decode cX11_pay 7 = .ok (.iload_n 1, 1) := by decide +kernel
theorem dX11_pay_8 : decode cX11_pay 8 = .ok (.invokevirtual 103, 3) := by decide +kernel
theorem dX11_pay_11 : decode cX11_pay 11 = .ok (.invokestatic 92, 3) := by decide +kernel
theorem dX11_pay_14 : decode cX11_pay 14 = .ok (.iload_n 2, 1) := by decide +kernel
theorem dX11_pay_15 : decode cX11_pay 15 = .ok (.iconst 1, 1) := by decide +kernel
theorem dX11_pay_16 : decode cX11_pay 16 = .ok (.bipush 99, 2) := by decide +kernel
theorem dX11_pay_18 : decode cX11_pay 18 = .ok (.invokestatic 40, 3) := by decide +kernel
theorem dX11_pay_21 : decode cX11_pay 21 = .ok (.aload_n 0, 1) := by decide +kernel
theorem dX11_pay_22 : decode cX11_pay 22 = .ok (.invokevirtual 141, 3) := by decide +kernel
theorem dX11_pay_25 : decode cX11_pay 25 = .ok (.aload_n 0, 1) := by decide +kernel
theorem dX11_pay_26 : decode cX11_pay 26 = .ok (.getfield 10, 3) := by decide +kernel
theorem dX11_pay_29 : decode cX11_pay 29 = .ok (.getfield 99, 3) := by decide +kernel
theorem dX11_pay_32 : decode cX11_pay 32 = .ok (.iload_n 1, 1) := by decide +kernel
theorem dX11_pay_33 : decode cX11_pay 33 = .ok (.iload_n 2, 1) := by decide +kernel
theorem dX11_pay_34 : decode cX11_pay 34 = .ok (.invokevirtual 156, 3) := by decide +kernel
theorem dX11_pay_37 : decode cX11_pay 37 = .ok (.ireturn, 1) := by decide +kernel
theorem dX11_pardon_0 : decode cX11_pardon 0 = .ok (.aload_n 0, 1) := by decide +kernel
theorem dX11_pardon_1 : decode cX11_pardon 1 = .ok (.getfield 10, 3) := by decide +kernel
theorem dX11_pardon_4 : decode cX11_pardon 4 = .ok (.getfield 99, 3) := by decide +kernel
theorem dX11_pardon_7 : decode cX11_pardon 7 = .ok (.iload_n 1, 1) := by decide +kernel
theorem dX11_pardon_8 : decode cX11_pardon 8 = .ok (.invokevirtual 103, 3) := by decide +kernel
theorem dX11_pardon_11 : decode cX11_pardon 11 = .ok (.invokestatic 92, 3) := by decide +kernel
theorem dX11_pardon_14 : decode cX11_pardon 14 = .ok (.aload_n 0, 1) := by decide +kernel
theorem dX11_pardon_15 : decode cX11_pardon 15 = .ok (.getfield 10, 3) := by decide +kernel
theorem dX11_pardon_18 : decode cX11_pardon 18 = .ok (.getfield 99, 3) := by decide +kernel
theorem dX11_pardon_21 : decode cX11_pardon 21 = .ok (.iload_n 1, 1) := by decide +kernel
theorem dX11_pardon_22 : decode cX11_pardon 22 = .ok (.invokevirtual 159, 3) := by decide +kernel
theorem dX11_pardon_25 : decode cX11_pardon 25 = .ok (.invokestatic 48, 3) := by decide +kernel
theorem dX11_pardon_28 : decode cX11_pardon 28 = .ok (.aload_n 0, 1) := by decide +kernel
theorem dX11_pardon_29 : decode cX11_pardon 29 = .ok (.invokevirtual 141, 3) := by decide +kernel
theorem dX11_pardon_32 : decode cX11_pardon 32 = .ok (.aload_n 0, 1) := by decide +kernel
theorem dX11_pardon_33 : decode cX11_pardon 33 = .ok (.getfield 10, 3) := by decide +kernel
theorem dX11_pardon_36 : decode cX11_pardon 36 = .ok (.getfield 99, 3) := by decide +kernel
theorem dX11_pardon_39 : decode cX11_pardon 39 = .ok (.iload_n 1, 1) := by decide +kernel
theorem dX11_pardon_40 : decode cX11_pardon 40 = .ok (.invokevirtual 162, 3) := by decide +kernel
theorem dX11_pardon_43 : decode cX11_pardon 43 = .ok (.ireturn, 1) := by decide +kernel
theorem dX11_down_0 : decode cX11_down 0 = .ok (.aload_n 0, 1) := by decide +kernel
theorem dX11_down_1 : decode cX11_down 1 = .ok (.getfield 10, 3) := by decide +kernel
theorem dX11_down_4 : decode cX11_down 4 = .ok (.getfield 109, 3) := by decide +kernel
theorem dX11_down_7 : decode cX11_down 7 = .ok (.iload_n 1, 1) := by decide +kernel
theorem dX11_down_8 : decode cX11_down 8 = .ok (.invokevirtual 113, 3) := by decide +kernel
theorem dX11_down_11 : decode cX11_down 11 = .ok (.invokestatic 92, 3) := by decide +kernel
theorem dX11_down_14 : decode cX11_down 14 = .ok (.aload_n 0, 1) := by decide +kernel
theorem dX11_down_15 : decode cX11_down 15 = .ok (.getfield 10, 3) := by decide +kernel
theorem dX11_down_18 : decode cX11_down 18 = .ok (.getfield 109, 3) := by decide +kernel
theorem dX11_down_21 : decode cX11_down 21 = .ok (.iload_n 1, 1) := by decide +kernel
theorem dX11_down_22 : decode cX11_down 22 = .ok (.invokevirtual 165, 3) := by decide +kernel
theorem dX11_down_25 : decode cX11_down 25 = .ok (.invokestatic 48, 3) := by decide +kernel
theorem dX11_down_28 : decode cX11_down 28 = .ok (.aload_n 0, 1) := by decide +kernel
theorem dX11_down_29 : decode cX11_down 29 = .ok (.invokevirtual 141, 3) := by decide +kernel
theorem dX11_down_32 : decode cX11_down 32 = .ok (.aload_n 0, 1) := by decide +kernel
theorem dX11_down_33 : decode cX11_down 33 = .ok (.getfield 10, 3) := by decide +kernel
theorem dX11_down_36 : decode cX11_down 36 = .ok (.iload_n 1, 1) := by decide +kernel
theorem dX11_down_37 : decode cX11_down 37 = .ok (.invokevirtual 168, 3) := by decide +kernel
theorem dX11_down_40 : decode cX11_down 40 = .ok (.ireturn, 1) := by decide +kernel
theorem dX11_up_0 : decode cX11_up 0 = .ok (.aload_n 0, 1) := by decide +kernel
theorem dX11_up_1 : decode cX11_up 1 = .ok (.getfield 10, 3) := by decide +kernel
theorem dX11_up_4 : decode cX11_up 4 = .ok (.getfield 109, 3) := by decide +kernel
theorem dX11_up_7 : decode cX11_up 7 = .ok (.iload_n 1, 1) := by decide +kernel
theorem dX11_up_8 : decode cX11_up 8 = .ok (.invokevirtual 113, 3) := by decide +kernel
theorem dX11_up_11 : decode cX11_up 11 = .ok (.invokestatic 92, 3) := by decide +kernel
theorem dX11_up_14 : decode cX11_up 14 = .ok (.aload_n 0, 1) := by decide +kernel
theorem dX11_up_15 : decode cX11_up 15 = .ok (.getfield 10, 3) := by decide +kernel
theorem dX11_up_18 : decode cX11_up 18 = .ok (.getfield 109, 3) := by decide +kernel
theorem dX11_up_21 : decode cX11_up 21 = .ok (.iload_n 1, 1) := by decide +kernel
theorem dX11_up_22 : decode cX11_up 22 = .ok (.invokevirtual 165, 3) := by decide +kernel
theorem dX11_up_25 : decode cX11_up 25 = .ok (.ifCond .ne 7, 3) := by decide +kernel
theorem dX11_up_28 : decode cX11_up 28 = .ok (.iconst 1, 1) := by decide +kernel
theorem dX11_up_29 : decode cX11_up 29 = .ok (.goto 4, 3) := by decide +kernel
theorem dX11_up_32 : decode cX11_up 32 = .ok (.iconst 0, 1) := by decide +kernel
theorem dX11_up_33 : decode cX11_up 33 = .ok (.invokestatic 48, 3) := by decide +kernel
theorem dX11_up_36 : decode cX11_up 36 = .ok (.aload_n 0, 1) := by decide +kernel
theorem dX11_up_37 : decode cX11_up 37 = .ok (.invokevirtual 141, 3) := by decide +kernel
theorem dX11_up_40 : decode cX11_up 40 = .ok (.aload_n 0, 1) := by decide +kernel
theorem dX11_up_41 : decode cX11_up 41 = .ok (.getfield 10, 3) := by decide +kernel
theorem dX11_up_44 : decode cX11_up 44 = .ok (.iload_n 1, 1) := by decide +kernel
theorem dX11_up_45 : decode cX11_up 45 = .ok (.invokevirtual 171, 3) := by decide +kernel
theorem dX11_up_48 : decode cX11_up 48 = .ok (.ireturn, 1) := by decide +kernel
theorem dX11_open_0 : decode cX11_open 0 = .ok (.aload_n 0, 1) := by decide +kernel
theorem dX11_open_1 : decode cX11_open 1 = .ok (.getfield 10, 3) := by decide +kernel
theorem dX11_open_4 : decode cX11_open 4 = .ok (.getfield 109, 3) := by decide +kernel
theorem dX11_open_7 : decode cX11_open 7 = .ok (.iload_n 1, 1) := by decide +kernel
theorem dX11_open_8 : decode cX11_open 8 = .ok (.invokevirtual 113, 3) := by decide +kernel
theorem dX11_open_11 : decode cX11_open 11 = .ok (.invokestatic 92, 3) := by decide +kernel
theorem dX11_open_14 : decode cX11_open 14 = .ok (.aload_n 0, 1) := by decide +kernel
theorem dX11_open_15 : decode cX11_open 15 = .ok (.invokevirtual 141, 3) := by decide +kernel
theorem dX11_open_18 : decode cX11_open 18 = .ok (.aload_n 0, 1) := by decide +kernel
theorem dX11_open_19 : decode cX11_open 19 = .ok (.getfield 10, 3) := by decide +kernel
theorem dX11_open_22 : decode cX11_open 22 = .ok (.getfield 109, 3) := by decide +kernel
theorem dX11_open_25 : decode cX11_open 25 = .ok (.iload_n 1, 1) := by decide +kernel
theorem dX11_open_26 : decode cX11_open 26 = .ok (.invokevirtual 174, 3) := by decide +kernel
theorem dX11_open_29 : decode cX11_open 29 = .ok (.ireturn, 1) := by decide +kernel
theorem dX11_fare_0 : decode cX11_fare 0 = .ok (.aload_n 0, 1) := by decide +kernel
theorem dX11_fare_1 : decode cX11_fare 1 = .ok (.getfield 10, 3) := by decide +kernel
theorem dX11_fare_4 : decode cX11_fare 4 = .ok (.getfield 109, 3) := by decide +kernel
theorem dX11_fare_7 : decode cX11_fare 7 = .ok (.iload_n 1, 1) := by decide +kernel
theorem dX11_fare_8 : decode cX11_fare 8 = .ok (.invokevirtual 113, 3) := by decide +kernel
theorem dX11_fare_11 : decode cX11_fare 11 = .ok (.invokestatic 92, 3) := by decide +kernel
theorem dX11_fare_14 : decode cX11_fare 14 = .ok (.iload_n 2, 1) := by decide +kernel
theorem dX11_fare_15 : decode cX11_fare 15 = .ok (.iconst 1, 1) := by decide +kernel
theorem dX11_fare_16 : decode cX11_fare 16 = .ok (.bipush 9, 2) := by decide +kernel
theorem dX11_fare_18 : decode cX11_fare 18 = .ok (.invokestatic 40, 3) := by decide +kernel
theorem dX11_fare_21 : decode cX11_fare 21 = .ok (.aload_n 0, 1) := by decide +kernel
theorem dX11_fare_22 : decode cX11_fare 22 = .ok (.invokevirtual 141, 3) := by decide +kernel
theorem dX11_fare_25 : decode cX11_fare 25 = .ok (.aload_n 0, 1) := by decide +kernel
theorem dX11_fare_26 : decode cX11_fare 26 = .ok (.getfield 10, 3) := by decide +kernel
theorem dX11_fare_29 : decode cX11_fare 29 = .ok (.getfield 109, 3) := by decide +kernel
theorem dX11_fare_32 : decode cX11_fare 32 = .ok (.getfield 177, 3) := by decide +kernel
theorem dX11_fare_35 : decode cX11_fare 35 = .ok (.iload_n 1, 1) := by decide +kernel
theorem dX11_fare_36 : decode cX11_fare 36 = .ok (.iload_n 2, 1) := by decide +kernel
theorem dX11_fare_37 : decode cX11_fare 37 = .ok (.invokevirtual 180, 3) := by decide +kernel
theorem dX11_fare_40 : decode cX11_fare 40 = .ok (.ireturn, 1) := by decide +kernel
theorem dX11_run_0 : decode cX11_run 0 = .ok (.iload_n 1, 1) := by decide +kernel
theorem dX11_run_1 : decode cX11_run 1 = .ok (.iconst 1, 1) := by decide +kernel
theorem dX11_run_2 : decode cX11_run 2 = .ok (.bipush 60, 2) := by decide +kernel
theorem dX11_run_4 : decode cX11_run 4 = .ok (.invokestatic 40, 3) := by decide +kernel
theorem dX11_run_7 : decode cX11_run 7 = .ok (.aload_n 0, 1) := by decide +kernel
theorem dX11_run_8 : decode cX11_run 8 = .ok (.invokevirtual 141, 3) := by decide +kernel
theorem dX11_run_11 : decode cX11_run 11 = .ok (.aload_n 0, 1) := by decide +kernel
theorem dX11_run_12 : decode cX11_run 12 = .ok (.getfield 10, 3) := by decide +kernel
theorem dX11_run_15 : decode cX11_run 15 = .ok (.dup, 1) := by decide +kernel
theorem dX11_run_16 : decode cX11_run 16 = .ok (.getfield 183, 3) := by decide +kernel
theorem dX11_run_19 : decode cX11_run 19 = .ok (.iload_n 1, 1) := by decide +kernel
theorem dX11_run_20 : decode cX11_run 20 = .ok (.iadd, 1) := by decide +kernel
theorem dX11_run_21 : decode cX11_run 21 = .ok (.putfield 183, 3) := by decide +kernel
theorem dX11_run_24 : decode cX11_run 24 = .ok (.aload_n 0, 1) := by decide +kernel
theorem dX11_run_25 : decode cX11_run 25 = .ok (.getfield 10, 3) := by decide +kernel
theorem dX11_run_28 : decode cX11_run 28 = .ok (.getfield 183, 3) := by decide +kernel
theorem dX11_run_31 : decode cX11_run 31 = .ok (.ireturn, 1) := by decide +kernel
theorem dX11_set_0 : decode cX11_set 0 = .ok (.iload_n 1, 1) := by decide +kernel
theorem dX11_set_1 : decode cX11_set 1 = .ok (.iconst 0, 1) := by decide +kernel
theorem dX11_set_2 : decode cX11_set 2 = .ok (.iconst 3, 1) := by decide +kernel
theorem dX11_set_3 : decode cX11_set 3 = .ok (.invokestatic 40, 3) := by decide +kernel
theorem dX11_set_6 : decode cX11_set 6 = .ok (.iload_n 2, 1) := by decide +kernel
theorem dX11_set_7 : decode cX11_set 7 = .ok (.iconst 0, 1) := by decide +kernel
theorem dX11_set_8 : decode cX11_set 8 = .ok (.iload_n 1, 1) := by decide +kernel
theorem dX11_set_9 : decode cX11_set 9 = .ok (.invokestatic 187, 3) := by decide +kernel
theorem dX11_set_12 : decode cX11_set 12 = .ok (.invokestatic 40, 3) := by decide +kernel
theorem dX11_set_15 : decode cX11_set 15 = .ok (.aload_n 0, 1) := by decide +kernel
theorem dX11_set_16 : decode cX11_set 16 = .ok (.invokevirtual 141, 3) := by decide +kernel
theorem dX11_set_19 : decode cX11_set 19 = .ok (.aload_n 0, 1) := by decide +kernel
theorem dX11_set_20 : decode cX11_set 20 = .ok (.getfield 10, 3) := by decide +kernel
theorem dX11_set_23 : decode cX11_set 23 = .ok (.getfield 128, 3) := by decide +kernel
theorem dX11_set_26 : decode cX11_set 26 = .ok (.iload_n 1, 1) := by decide +kernel
theorem dX11_set_27 : decode cX11_set 27 = .ok (.iload_n 2, 1) := by decide +kernel
theorem dX11_set_28 : decode cX11_set 28 = .ok (.invokevirtual 180, 3) := by decide +kernel
theorem dX11_set_31 : decode cX11_set 31 = .ok (.ireturn, 1) := by decide +kernel
theorem dX11_undo_0 : decode cX11_undo 0 = .ok (.aload_n 0, 1) := by decide +kernel
theorem dX11_undo_1 : decode cX11_undo 1 = .ok (.getfield 29, 3) := by decide +kernel
theorem dX11_undo_4 : decode cX11_undo 4 = .ok (.invokevirtual 190, 3) := by decide +kernel
theorem dX11_undo_7 : decode cX11_undo 7 = .ok (.ifCond .ne 7, 3) := by decide +kernel
theorem dX11_undo_10 : decode cX11_undo 10 = .ok (.iconst 1, 1) := by decide +kernel
theorem dX11_undo_11 : decode cX11_undo 11 = .ok (.goto 4, 3) := by decide +kernel
theorem dX11_undo_14 : decode cX11_undo 14 = .ok (.iconst 0, 1) := by decide +kernel
theorem dX11_undo_15 : decode cX11_undo 15 = .ok (.invokestatic 48, 3) := by decide +kernel
theorem dX11_undo_18 : decode cX11_undo 18 = .ok (.aload_n 0, 1) := by decide +kernel
theorem dX11_undo_19 : decode cX11_undo 19 = .ok (.getfield 29, 3) := by decide +kernel
theorem dX11_undo_22 : decode cX11_undo 22 = .ok (.aload_n 0, 1) := by decide +kernel
theorem dX11_undo_23 : decode cX11_undo 23 = .ok (.getfield 10, 3) := by decide +kernel
theorem dX11_undo_26 : decode cX11_undo 26 = .ok (.invokevirtual 193, 3) := by decide +kernel
theorem dX11_undo_29 : decode cX11_undo 29 = .ok (.ireturn, 1) := by decide +kernel
theorem cw_X11_137 : uCW RX11 RX10 137 yX10_hasRoomForAccount cX10_hasRoomForAccount 1 (some .boolean) 0 := ⟨gt_in 758 (by decide +kernel) (by decide +kernel), yf_X10_hasRoomForAccount⟩
theorem yf_X11_remember : (Cond.instanceMethod yX11_remember) ∈ gtbl ∧ (Cond.selects RX11 yX11_remember yX11_remember) ∈ gtbl ∧ (Cond.initialized RX11) ∈ gtbl ∧ (Cond.code yX11_remember cX11_remember 1 none) ∈ gtbl ∧ (yX11_remember.cls = RX11 ∧ yX11_remember.cls ≠ "java/lang/invoke/MethodHandle" ∧ yX11_remember.cls ≠ "java/lang/invoke/VarHandle" ∧ (parseMethodDescriptor yX11_remember.desc).map (fun d => d.parameters.length) = some 0) := ⟨gt_in 761 (by decide +kernel) (by decide +kernel), gt_in 7 (by decide +kernel) (by decide +kernel), gt_in 10 (by decide +kernel) (by decide +kernel), gt_in 762 (by decide +kernel) (by decide +kernel), by decide +kernel⟩
theorem cw_X11_141 : uCW RX11 RX11 141 yX11_remember cX11_remember 1 none 0 := ⟨gt_in 759 (by decide +kernel) (by decide +kernel), yf_X11_remember⟩
theorem cw_X11_144 : uCW RX11 RX10 144 yX10_makeAccount cX10_makeAccount 2 (some .int) 1 := ⟨gt_in 796 (by decide +kernel) (by decide +kernel), yf_X10_makeAccount⟩
theorem cw_X11_147 : uCW RX11 RX0 147 yX0_isFull cX0_isFull 1 (some .boolean) 0 := ⟨gt_in 804 (by decide +kernel) (by decide +kernel), yf_X0_isFull⟩
theorem cw_X11_150 : uCW RX11 RX0 150 yX0_makeTwin cX0_makeTwin 2 (some .int) 1 := ⟨gt_in 805 (by decide +kernel) (by decide +kernel), yf_X0_makeTwin⟩
theorem cw_X11_153 : uCW RX11 RX10 153 yX10_showCard cX10_showCard 4 (some .int) 2 := ⟨gt_in 813 (by decide +kernel) (by decide +kernel), yf_X10_showCard⟩
theorem cw_X11_156 : uCW RX11 RX5 156 yX5_payIn cX5_payIn 3 (some .int) 2 := ⟨gt_in 821 (by decide +kernel) (by decide +kernel), yf_X5_payIn⟩
theorem cw_X11_159 : uCW RX11 RX5 159 yX5_isMarked cX5_isMarked 2 (some .boolean) 1 := ⟨gt_in 829 (by decide +kernel) (by decide +kernel), yf_X5_isMarked⟩
theorem cw_X11_162 : uCW RX11 RX5 162 yX5_unmark cX5_unmark 2 (some .int) 1 := ⟨gt_in 833 (by decide +kernel) (by decide +kernel), yf_X5_unmark⟩
theorem cw_X11_168 : uCW RX11 RX10 168 yX10_takeDown cX10_takeDown 2 (some .int) 1 := ⟨gt_in 845 (by decide +kernel) (by decide +kernel), yf_X10_takeDown⟩
theorem cw_X11_171 : uCW RX11 RX10 171 yX10_bringUp cX10_bringUp 5 (some .int) 1 := ⟨gt_in 853 (by decide +kernel) (by decide +kernel), yf_X10_bringUp⟩
theorem cw_X11_174 : uCW RX11 RX3 174 yX3_turnOpen cX3_turnOpen 2 (some .int) 1 := ⟨gt_in 861 (by decide +kernel) (by decide +kernel), yf_X3_turnOpen⟩
theorem cw_X11_180 : uCW RX11 RX6 180 yX6_replace cX6_replace 4 (some .int) 2 := ⟨gt_in 869 (by decide +kernel) (by decide +kernel), yf_X6_replace⟩
theorem yf_X10_mostOfSetting : (Cond.static yX10_mostOfSetting) ∈ gtbl ∧ (Cond.initialized yX10_mostOfSetting.cls) ∈ gtbl ∧ (Cond.code yX10_mostOfSetting cX10_mostOfSetting 1 (some .int)) ∈ gtbl ∧ (yX10_mostOfSetting.cls ≠ "java/lang/invoke/MethodHandle" ∧ yX10_mostOfSetting.cls ≠ "java/lang/invoke/VarHandle" ∧ (parseMethodDescriptor yX10_mostOfSetting.desc).map (fun d => d.parameters.length) = some 1) := ⟨gt_in 885 (by decide +kernel) (by decide +kernel), gt_in 11 (by decide +kernel) (by decide +kernel), gt_in 886 (by decide +kernel) (by decide +kernel), by decide +kernel⟩
theorem cw_X11_187 : uCS RX11 187 yX10_mostOfSetting cX10_mostOfSetting 1 (some .int) 1 := ⟨gt_in 884 (by decide +kernel) (by decide +kernel), yf_X10_mostOfSetting⟩
theorem yf_X4_isEmpty : (Cond.instanceMethod yX4_isEmpty) ∈ gtbl ∧ (Cond.selects RX4 yX4_isEmpty yX4_isEmpty) ∈ gtbl ∧ (Cond.initialized RX4) ∈ gtbl ∧ (Cond.code yX4_isEmpty cX4_isEmpty 1 (some .boolean)) ∈ gtbl ∧ (yX4_isEmpty.cls = RX4 ∧ yX4_isEmpty.cls ≠ "java/lang/invoke/MethodHandle" ∧ yX4_isEmpty.cls ≠ "java/lang/invoke/VarHandle" ∧ (parseMethodDescriptor yX4_isEmpty.desc).map (fun d => d.parameters.length) = some 0) := ⟨gt_in 895 (by decide +kernel) (by decide +kernel), gt_in 896 (by decide +kernel) (by decide +kernel), gt_in 18 (by decide +kernel) (by decide +kernel), gt_in 897 (by decide +kernel) (by decide +kernel), by decide +kernel⟩
theorem cw_X11_190 : uCW RX11 RX4 190 yX4_isEmpty cX4_isEmpty 1 (some .boolean) 0 := ⟨gt_in 894 (by decide +kernel) (by decide +kernel), yf_X4_isEmpty⟩
theorem yf_X4_pop : (Cond.instanceMethod yX4_pop) ∈ gtbl ∧ (Cond.selects RX4 yX4_pop yX4_pop) ∈ gtbl ∧ (Cond.initialized RX4) ∈ gtbl ∧ (Cond.code yX4_pop cX4_pop 3 (some .int)) ∈ gtbl ∧ (yX4_pop.cls = RX4 ∧ yX4_pop.cls ≠ "java/lang/invoke/MethodHandle" ∧ yX4_pop.cls ≠ "java/lang/invoke/VarHandle" ∧ (parseMethodDescriptor yX4_pop.desc).map (fun d => d.parameters.length) = some 1) := ⟨gt_in 899 (by decide +kernel) (by decide +kernel), gt_in 900 (by decide +kernel) (by decide +kernel), gt_in 18 (by decide +kernel) (by decide +kernel), gt_in 901 (by decide +kernel) (by decide +kernel), by decide +kernel⟩
theorem cw_X11_193 : uCW RX11 RX4 193 yX4_pop cX4_pop 3 (some .int) 1 := ⟨gt_in 898 (by decide +kernel) (by decide +kernel), yf_X4_pop⟩
def fX11_issue (V : uV) (a1 : Int32) : Option (Int32 × Int32 × uV) :=
  th_ (decide (0 ≤ a1 ∧ a1 ≤ 99)) (some (1, 0, V)) <|
  lt_ (fX10_hasRoomForAccount (V 0)) fun x3 =>
  th_ (decide (¬ (x3 : Int32) = 0)) (some (2, 0, V)) <|
  bd (fX11_remember V) fun S7 =>
  bd2 (fX10_makeAccount (S7 0) a1) fun x10 S11 =>
  lt_ (va_up S7 0 S11) fun V13 =>
  some (0, x10, V13)
set_option maxHeartbeats 4000000 in
set_option maxRecDepth 20000 in
theorem kX11_issue {l : Launch} {G : UG} (hG : uAll G) {V V' : uV} {a1 : Int32} {r : Int32} {E : Int32} (hlt : l.stackTraces = false) (h : fX11_issue V a1 = some (E, r, V')) : uXi l G yX11_issue cX11_issue 2 .int (uRx 8 145) [.ref (ga G 18 0), .int a1] V E r V' := by
  refine uXi_of rfl (Nat.le_of_ble_eq_true rfl) (fun p e s m args below meth c ls X hret htb hl M => ?_)
  have hl : lv_has ls 2 [(0, .ref (ga G 18 0)), (1, .int a1)] := hl
  have hx := X.hx
  have hb := X.hb
  unfold fX11_issue at h
  refine lv_iload_n hx hb dX11_issue_0 rfl (lv_at hl 1 rfl) ?_
  refine lv_iconst (v := 0) hx hb dX11_issue_1 (by decide) ?_
  refine lv_bipush (v := 99) hx hb dX11_issue_2 (by decide) ?_
  by_cases c1 : 0 ≤ a1 ∧ a1 ≤ 99
  rotate_left
  · have h := th_f h (decide_eq_false c1)
    exact x_outS X M htb hl.1 (by decide) (kX11_needRange_x hlt c1) cw_X11_40 ⟨by decide, by decide⟩ rfl rfl (Nat.le_of_ble_eq_true rfl) dX11_issue_4 (rt3 h).1 (rt3 h).2.2
  have h := th_t h (decide_eq_true c1)
  refine u_cSv X M hl.1 (kX11_needRange_ok c1) cw_X11_40 ⟨by decide, by decide⟩ rfl rfl (Nat.le_of_ble_eq_true rfl) ⟨Nat.zero_le _, Nat.zero_le _⟩ dX11_issue_4 (fun H locs M => ?_)
  refine lv_aload_n hx hb dX11_issue_7 rfl (lv_at hl 0 rfl) ?_
  refine gf_X11_10 X M hG.2.1 dX11_issue_8 ?_
  obtain ⟨x3, e2, h⟩ := lt_e h
  refine u_cVi X M hl.1 (kX10_hasRoomForAccount (hG.1 0 (by decide)) rfl e2.symm) cw_X11_137 ⟨by decide, by decide⟩ (rc_X10 X M (hG.1 0 (by decide))) rfl rfl (Nat.le_of_ble_eq_true rfl) ⟨Nat.zero_le _, Nat.zero_le _⟩ dX11_issue_11 (fun H locs M n4 => ?_)
  by_cases c5 : ¬ (x3 : Int32) = 0
  rotate_left
  · have h := th_f h (decide_eq_false c5)
    exact x_outS X M htb hl.1 (by decide) (kX11_needState_x hlt c5) cw_X11_48 ⟨by decide, by decide⟩ rfl rfl (Nat.le_of_ble_eq_true rfl) dX11_issue_14 (rt3 h).1 (rt3 h).2.2
  have h := th_t h (decide_eq_true c5)
  refine u_cSv X M hl.1 (kX11_needState_ok c5) cw_X11_48 ⟨by decide, by decide⟩ rfl rfl (Nat.le_of_ble_eq_true rfl) ⟨Nat.zero_le _, Nat.zero_le _⟩ dX11_issue_14 (fun H locs M => ?_)
  refine lv_aload_n hx hb dX11_issue_17 rfl (lv_at hl 0 rfl) ?_
  obtain ⟨S7, e6, h⟩ := bd_e h
  refine u_cVv X M hl.1 (kX11_remember hG e6) cw_X11_141 ⟨by decide, by decide⟩ (rc_X11 X M hG.2.1) rfl rfl (Nat.le_of_ble_eq_true rfl) ⟨Nat.zero_le _, Nat.zero_le _⟩ dX11_issue_18 (fun H locs M => ?_)
  refine lv_aload_n hx hb dX11_issue_21 rfl (lv_at hl 0 rfl) ?_
  refine gf_X11_10 X M hG.2.1 dX11_issue_22 ?_
  refine lv_iload_n hx hb dX11_issue_25 rfl (lv_at hl 1 rfl) ?_
  obtain ⟨x10, S11, e9, h⟩ := bd2_e h
  have M := um_in 0 M
  refine u_cVi X M hl.1 (kX10_makeAccount (hG.1 0 (by decide)) e9) cw_X11_144 ⟨by decide, by decide⟩ (rc_X10 X M (hG.1 0 (by decide))) rfl rfl (Nat.le_of_ble_eq_true rfl) ⟨Nat.zero_le _, Nat.zero_le _⟩ dX11_issue_26 (fun H locs M n12 => ?_)
  obtain ⟨V13, e14, h⟩ := lt_e h
  rw [← e14] at M
  exact x_iret X hret M (rt3 h).1 (rt3 h).2.1 (rt3 h).2.2 rfl dX11_issue_29
def fX11_copy (V : uV) (a1 : Int32) : Option (Int32 × Int32 × uV) :=
  lt_ (fX0_has (V 0) a1) fun x2 =>
  th_ (decide (¬ (x2 : Int32) = 0)) (some (3, 0, V)) <|
  lt_ (fX0_isFull (V 0)) fun x6 =>
  if x6 = 0 then
    th_ (decide (¬ (1 : Int32) = 0)) (some (2, 0, V)) <|
    bd (fX11_remember V) fun S21 =>
    bd2 (fX0_makeTwin (S21 0) a1) fun x24 S25 =>
    lt_ (va_up S21 0 S25) fun V27 =>
    some (0, x24, V27)
  else
    th_ (decide (¬ (0 : Int32) = 0)) (some (2, 0, V)) <|
    bd (fX11_remember V) fun S11 =>
    bd2 (fX0_makeTwin (S11 0) a1) fun x14 S15 =>
    lt_ (va_up S11 0 S15) fun V17 =>
    some (0, x14, V17)
set_option maxHeartbeats 4000000 in
set_option maxRecDepth 20000 in
theorem kX11_copy {l : Launch} {G : UG} (hG : uAll G) {V V' : uV} {a1 : Int32} {r : Int32} {E : Int32} (hlt : l.stackTraces = false) (h : fX11_copy V a1 = some (E, r, V')) : uXi l G yX11_copy cX11_copy 2 .int (uRx 7 145) [.ref (ga G 18 0), .int a1] V E r V' := by
  refine uXi_of rfl (Nat.le_of_ble_eq_true rfl) (fun p e s m args below meth c ls X hret htb hl M => ?_)
  have hl : lv_has ls 2 [(0, .ref (ga G 18 0)), (1, .int a1)] := hl
  have hx := X.hx
  have hb := X.hb
  unfold fX11_copy at h
  refine lv_aload_n hx hb dX11_copy_0 rfl (lv_at hl 0 rfl) ?_
  refine gf_X11_10 X M hG.2.1 dX11_copy_1 ?_
  refine gf_X11_82 X M (hG.1 0 (by decide)) dX11_copy_4 ?_
  refine lv_iload_n hx hb dX11_copy_7 rfl (lv_at hl 1 rfl) ?_
  obtain ⟨x2, e1, h⟩ := lt_e h
  refine u_cVi X M hl.1 (kX0_has (hG.1 0 (by decide)) rfl e1.symm) cw_X11_86 ⟨by decide, by decide⟩ (rc_X0 X M (hG.1 0 (by decide))) rfl rfl (Nat.le_of_ble_eq_true rfl) ⟨Nat.zero_le _, Nat.zero_le _⟩ dX11_copy_8 (fun H locs M n3 => ?_)
  by_cases c4 : ¬ (x2 : Int32) = 0
  rotate_left
  · have h := th_f h (decide_eq_false c4)
    exact x_outS X M htb hl.1 (by decide) (kX11_needThere_x hlt c4) cw_X11_92 ⟨by decide, by decide⟩ rfl rfl (Nat.le_of_ble_eq_true rfl) dX11_copy_11 (rt3 h).1 (rt3 h).2.2
  have h := th_t h (decide_eq_true c4)
  refine u_cSv X M hl.1 (kX11_needThere_ok c4) cw_X11_92 ⟨by decide, by decide⟩ rfl rfl (Nat.le_of_ble_eq_true rfl) ⟨Nat.zero_le _, Nat.zero_le _⟩ dX11_copy_11 (fun H locs M => ?_)
  refine lv_aload_n hx hb dX11_copy_14 rfl (lv_at hl 0 rfl) ?_
  refine gf_X11_10 X M hG.2.1 dX11_copy_15 ?_
  refine gf_X11_82 X M (hG.1 0 (by decide)) dX11_copy_18 ?_
  obtain ⟨x6, e5, h⟩ := lt_e h
  refine u_cVi X M hl.1 (kX0_isFull (hG.1 0 (by decide)) rfl e5.symm) cw_X11_147 ⟨by decide, by decide⟩ (rc_X0 X M (hG.1 0 (by decide))) rfl rfl (Nat.le_of_ble_eq_true rfl) ⟨Nat.zero_le _, Nat.zero_le _⟩ dX11_copy_21 (fun H locs M n7 => ?_)
  refine lv_if_ne (tgt := 31) hx hb dX11_copy_24 (by decide) (fun c8 => ?_) (fun c8 => ?_)
  · have h := it_f h c8
    refine lv_iconst (v := 0) hx hb dX11_copy_31 (by decide) ?_
    by_cases c9 : ¬ (0 : Int32) = 0
    rotate_left
    · have h := th_f h (decide_eq_false c9)
      exact x_outS X M htb hl.1 (by decide) (kX11_needState_x hlt c9) cw_X11_48 ⟨by decide, by decide⟩ rfl rfl (Nat.le_of_ble_eq_true rfl) dX11_copy_32 (rt3 h).1 (rt3 h).2.2
    have h := th_t h (decide_eq_true c9)
    refine u_cSv X M hl.1 (kX11_needState_ok c9) cw_X11_48 ⟨by decide, by decide⟩ rfl rfl (Nat.le_of_ble_eq_true rfl) ⟨Nat.zero_le _, Nat.zero_le _⟩ dX11_copy_32 (fun H locs M => ?_)
    refine lv_aload_n hx hb dX11_copy_35 rfl (lv_at hl 0 rfl) ?_
    obtain ⟨S11, e10, h⟩ := bd_e h
    refine u_cVv X M hl.1 (kX11_remember hG e10) cw_X11_141 ⟨by decide, by decide⟩ (rc_X11 X M hG.2.1) rfl rfl (Nat.le_of_ble_eq_true rfl) ⟨Nat.zero_le _, Nat.zero_le _⟩ dX11_copy_36 (fun H locs M => ?_)
    refine lv_aload_n hx hb dX11_copy_39 rfl (lv_at hl 0 rfl) ?_
    refine gf_X11_10 X M hG.2.1 dX11_copy_40 ?_
    refine gf_X11_82 X M (hG.1 0 (by decide)) dX11_copy_43 ?_
    refine lv_iload_n hx hb dX11_copy_46 rfl (lv_at hl 1 rfl) ?_
    obtain ⟨x14, S15, e13, h⟩ := bd2_e h
    have M := um_in 0 M
    refine u_cVi X M hl.1 (kX0_makeTwin (hG.1 0 (by decide)) e13) cw_X11_150 ⟨by decide, by decide⟩ (rc_X0 X M (hG.1 0 (by decide))) rfl rfl (Nat.le_of_ble_eq_true rfl) ⟨Nat.zero_le _, Nat.zero_le _⟩ dX11_copy_47 (fun H locs M n16 => ?_)
    obtain ⟨V17, e18, h⟩ := lt_e h
    rw [← e18] at M
    exact x_iret X hret M (rt3 h).1 (rt3 h).2.1 (rt3 h).2.2 rfl dX11_copy_50
  · have h := it_t h c8
    refine lv_iconst (v := 1) hx hb dX11_copy_27 (by decide) ?_
    refine lv_goto (tgt := 32) hx hb dX11_copy_28 (by decide) ?_
    by_cases c19 : ¬ (1 : Int32) = 0
    rotate_left
    · have h := th_f h (decide_eq_false c19)
      exact x_outS X M htb hl.1 (by decide) (kX11_needState_x hlt c19) cw_X11_48 ⟨by decide, by decide⟩ rfl rfl (Nat.le_of_ble_eq_true rfl) dX11_copy_32 (rt3 h).1 (rt3 h).2.2
    have h := th_t h (decide_eq_true c19)
    refine u_cSv X M hl.1 (kX11_needState_ok c19) cw_X11_48 ⟨by decide, by decide⟩ rfl rfl (Nat.le_of_ble_eq_true rfl) ⟨Nat.zero_le _, Nat.zero_le _⟩ dX11_copy_32 (fun H locs M => ?_)
    refine lv_aload_n hx hb dX11_copy_35 rfl (lv_at hl 0 rfl) ?_
    obtain ⟨S21, e20, h⟩ := bd_e h
    refine u_cVv X M hl.1 (kX11_remember hG e20) cw_X11_141 ⟨by decide, by decide⟩ (rc_X11 X M hG.2.1) rfl rfl (Nat.le_of_ble_eq_true rfl) ⟨Nat.zero_le _, Nat.zero_le _⟩ dX11_copy_36 (fun H locs M => ?_)
    refine lv_aload_n hx hb dX11_copy_39 rfl (lv_at hl 0 rfl) ?_
    refine gf_X11_10 X M hG.2.1 dX11_copy_40 ?_
    refine gf_X11_82 X M (hG.1 0 (by decide)) dX11_copy_43 ?_
    refine lv_iload_n hx hb dX11_copy_46 rfl (lv_at hl 1 rfl) ?_
    obtain ⟨x24, S25, e23, h⟩ := bd2_e h
    have M := um_in 0 M
    refine u_cVi X M hl.1 (kX0_makeTwin (hG.1 0 (by decide)) e23) cw_X11_150 ⟨by decide, by decide⟩ (rc_X0 X M (hG.1 0 (by decide))) rfl rfl (Nat.le_of_ble_eq_true rfl) ⟨Nat.zero_le _, Nat.zero_le _⟩ dX11_copy_47 (fun H locs M n26 => ?_)
    obtain ⟨V27, e28, h⟩ := lt_e h
    rw [← e28] at M
    exact x_iret X hret M (rt3 h).1 (rt3 h).2.1 (rt3 h).2.2 rfl dX11_copy_50
def fX11_ride (V : uV) (a1 : Int32) (a2 : Int32) : Option (Int32 × Int32 × uV) :=
  lt_ (fX0_has (V 0) a1) fun x2 =>
  if x2 = 0 then
    th_ (decide (¬ (0 : Int32) = 0)) (some (3, 0, V)) <|
    bd (fX11_remember V) fun S7 =>
    bd2 (fX10_showCard (S7 0) a1 a2) fun x10 S11 =>
    lt_ (va_up S7 0 S11) fun V13 =>
    some (0, x10, V13)
  else
    lt_ (fX3_has (V 0) a2) fun x16 =>
    if x16 = 0 then
      th_ (decide (¬ (0 : Int32) = 0)) (some (3, 0, V)) <|
      bd (fX11_remember V) fun S21 =>
      bd2 (fX10_showCard (S21 0) a1 a2) fun x24 S25 =>
      lt_ (va_up S21 0 S25) fun V27 =>
      some (0, x24, V27)
    else
      th_ (decide (¬ (1 : Int32) = 0)) (some (3, 0, V)) <|
      bd (fX11_remember V) fun S31 =>
      bd2 (fX10_showCard (S31 0) a1 a2) fun x34 S35 =>
      lt_ (va_up S31 0 S35) fun V37 =>
      some (0, x34, V37)
set_option maxHeartbeats 4000000 in
set_option maxRecDepth 20000 in
theorem kX11_ride {l : Launch} {G : UG} (hG : uAll G) {V V' : uV} {a1 : Int32} {a2 : Int32} {r : Int32} {E : Int32} (hlt : l.stackTraces = false) (h : fX11_ride V a1 a2 = some (E, r, V')) : uXi l G yX11_ride cX11_ride 3 .int (uRx 7 145) [.ref (ga G 18 0), .int a1, .int a2] V E r V' := by
  refine uXi_of rfl (Nat.le_of_ble_eq_true rfl) (fun p e s m args below meth c ls X hret htb hl M => ?_)
  have hl : lv_has ls 3 [(0, .ref (ga G 18 0)), (1, .int a1), (2, .int a2)] := hl
  have hx := X.hx
  have hb := X.hb
  unfold fX11_ride at h
  refine lv_aload_n hx hb dX11_ride_0 rfl (lv_at hl 0 rfl) ?_
  refine gf_X11_10 X M hG.2.1 dX11_ride_1 ?_
  refine gf_X11_82 X M (hG.1 0 (by decide)) dX11_ride_4 ?_
  refine lv_iload_n hx hb dX11_ride_7 rfl (lv_at hl 1 rfl) ?_
  obtain ⟨x2, e1, h⟩ := lt_e h
  refine u_cVi X M hl.1 (kX0_has (hG.1 0 (by decide)) rfl e1.symm) cw_X11_86 ⟨by decide, by decide⟩ (rc_X0 X M (hG.1 0 (by decide))) rfl rfl (Nat.le_of_ble_eq_true rfl) ⟨Nat.zero_le _, Nat.zero_le _⟩ dX11_ride_8 (fun H locs M n3 => ?_)
  refine lv_if_eq (tgt := 32) hx hb dX11_ride_11 (by decide) (fun c4 => ?_) (fun c4 => ?_)
  · have h := it_t h c4
    refine lv_iconst (v := 0) hx hb dX11_ride_32 (by decide) ?_
    by_cases c5 : ¬ (0 : Int32) = 0
    rotate_left
    · have h := th_f h (decide_eq_false c5)
      exact x_outS X M htb hl.1 (by decide) (kX11_needThere_x hlt c5) cw_X11_92 ⟨by decide, by decide⟩ rfl rfl (Nat.le_of_ble_eq_true rfl) dX11_ride_33 (rt3 h).1 (rt3 h).2.2
    have h := th_t h (decide_eq_true c5)
    refine u_cSv X M hl.1 (kX11_needThere_ok c5) cw_X11_92 ⟨by decide, by decide⟩ rfl rfl (Nat.le_of_ble_eq_true rfl) ⟨Nat.zero_le _, Nat.zero_le _⟩ dX11_ride_33 (fun H locs M => ?_)
    refine lv_aload_n hx hb dX11_ride_36 rfl (lv_at hl 0 rfl) ?_
    obtain ⟨S7, e6, h⟩ := bd_e h
    refine u_cVv X M hl.1 (kX11_remember hG e6) cw_X11_141 ⟨by decide, by decide⟩ (rc_X11 X M hG.2.1) rfl rfl (Nat.le_of_ble_eq_true rfl) ⟨Nat.zero_le _, Nat.zero_le _⟩ dX11_ride_37 (fun H locs M => ?_)
    refine lv_aload_n hx hb dX11_ride_40 rfl (lv_at hl 0 rfl) ?_
    refine gf_X11_10 X M hG.2.1 dX11_ride_41 ?_
    refine lv_iload_n hx hb dX11_ride_44 rfl (lv_at hl 1 rfl) ?_
    refine lv_iload_n hx hb dX11_ride_45 rfl (lv_at hl 2 rfl) ?_
    obtain ⟨x10, S11, e9, h⟩ := bd2_e h
    have M := um_in 0 M
    refine u_cVi X M hl.1 (kX10_showCard (hG.1 0 (by decide)) e9) cw_X11_153 ⟨by decide, by decide⟩ (rc_X10 X M (hG.1 0 (by decide))) rfl rfl (Nat.le_of_ble_eq_true rfl) ⟨Nat.zero_le _, Nat.zero_le _⟩ dX11_ride_46 (fun H locs M n12 => ?_)
    obtain ⟨V13, e14, h⟩ := lt_e h
    rw [← e14] at M
    exact x_iret X hret M (rt3 h).1 (rt3 h).2.1 (rt3 h).2.2 rfl dX11_ride_49
  · have h := it_f h c4
    refine lv_aload_n hx hb dX11_ride_14 rfl (lv_at hl 0 rfl) ?_
    refine gf_X11_10 X M hG.2.1 dX11_ride_15 ?_
    refine gf_X11_109 X M (hG.1 0 (by decide)) dX11_ride_18 ?_
    refine lv_iload_n hx hb dX11_ride_21 rfl (lv_at hl 2 rfl) ?_
    obtain ⟨x16, e15, h⟩ := lt_e h
    refine u_cVi X M hl.1 (kX3_has (hG.1 0 (by decide)) rfl e15.symm) cw_X11_113 ⟨by decide, by decide⟩ (rc_X3 X M (hG.1 0 (by decide))) rfl rfl (Nat.le_of_ble_eq_true rfl) ⟨Nat.zero_le _, Nat.zero_le _⟩ dX11_ride_22 (fun H locs M n17 => ?_)
    refine lv_if_eq (tgt := 32) hx hb dX11_ride_25 (by decide) (fun c18 => ?_) (fun c18 => ?_)
    · have h := it_t h c18
      refine lv_iconst (v := 0) hx hb dX11_ride_32 (by decide) ?_
      by_cases c19 : ¬ (0 : Int32) = 0
      rotate_left
      · have h := th_f h (decide_eq_false c19)
        exact x_outS X M htb hl.1 (by decide) (kX11_needThere_x hlt c19) cw_X11_92 ⟨by decide, by decide⟩ rfl rfl (Nat.le_of_ble_eq_true rfl) dX11_ride_33 (rt3 h).1 (rt3 h).2.2
      have h := th_t h (decide_eq_true c19)
      refine u_cSv X M hl.1 (kX11_needThere_ok c19) cw_X11_92 ⟨by decide, by decide⟩ rfl rfl (Nat.le_of_ble_eq_true rfl) ⟨Nat.zero_le _, Nat.zero_le _⟩ dX11_ride_33 (fun H locs M => ?_)
      refine lv_aload_n hx hb dX11_ride_36 rfl (lv_at hl 0 rfl) ?_
      obtain ⟨S21, e20, h⟩ := bd_e h
      refine u_cVv X M hl.1 (kX11_remember hG e20) cw_X11_141 ⟨by decide, by decide⟩ (rc_X11 X M hG.2.1) rfl rfl (Nat.le_of_ble_eq_true rfl) ⟨Nat.zero_le _, Nat.zero_le _⟩ dX11_ride_37 (fun H locs M => ?_)
      refine lv_aload_n hx hb dX11_ride_40 rfl (lv_at hl 0 rfl) ?_
      refine gf_X11_10 X M hG.2.1 dX11_ride_41 ?_
      refine lv_iload_n hx hb dX11_ride_44 rfl (lv_at hl 1 rfl) ?_
      refine lv_iload_n hx hb dX11_ride_45 rfl (lv_at hl 2 rfl) ?_
      obtain ⟨x24, S25, e23, h⟩ := bd2_e h
      have M := um_in 0 M
      refine u_cVi X M hl.1 (kX10_showCard (hG.1 0 (by decide)) e23) cw_X11_153 ⟨by decide, by decide⟩ (rc_X10 X M (hG.1 0 (by decide))) rfl rfl (Nat.le_of_ble_eq_true rfl) ⟨Nat.zero_le _, Nat.zero_le _⟩ dX11_ride_46 (fun H locs M n26 => ?_)
      obtain ⟨V27, e28, h⟩ := lt_e h
      rw [← e28] at M
      exact x_iret X hret M (rt3 h).1 (rt3 h).2.1 (rt3 h).2.2 rfl dX11_ride_49
    · have h := it_f h c18
      refine lv_iconst (v := 1) hx hb dX11_ride_28 (by decide) ?_
      refine lv_goto (tgt := 33) hx hb dX11_ride_29 (by decide) ?_
      by_cases c29 : ¬ (1 : Int32) = 0
      rotate_left
      · have h := th_f h (decide_eq_false c29)
        exact x_outS X M htb hl.1 (by decide) (kX11_needThere_x hlt c29) cw_X11_92 ⟨by decide, by decide⟩ rfl rfl (Nat.le_of_ble_eq_true rfl) dX11_ride_33 (rt3 h).1 (rt3 h).2.2
      have h := th_t h (decide_eq_true c29)
      refine u_cSv X M hl.1 (kX11_needThere_ok c29) cw_X11_92 ⟨by decide, by decide⟩ rfl rfl (Nat.le_of_ble_eq_true rfl) ⟨Nat.zero_le _, Nat.zero_le _⟩ dX11_ride_33 (fun H locs M => ?_)
      refine lv_aload_n hx hb dX11_ride_36 rfl (lv_at hl 0 rfl) ?_
      obtain ⟨S31, e30, h⟩ := bd_e h
      refine u_cVv X M hl.1 (kX11_remember hG e30) cw_X11_141 ⟨by decide, by decide⟩ (rc_X11 X M hG.2.1) rfl rfl (Nat.le_of_ble_eq_true rfl) ⟨Nat.zero_le _, Nat.zero_le _⟩ dX11_ride_37 (fun H locs M => ?_)
      refine lv_aload_n hx hb dX11_ride_40 rfl (lv_at hl 0 rfl) ?_
      refine gf_X11_10 X M hG.2.1 dX11_ride_41 ?_
      refine lv_iload_n hx hb dX11_ride_44 rfl (lv_at hl 1 rfl) ?_
      refine lv_iload_n hx hb dX11_ride_45 rfl (lv_at hl 2 rfl) ?_
      obtain ⟨x34, S35, e33, h⟩ := bd2_e h
      have M := um_in 0 M
      refine u_cVi X M hl.1 (kX10_showCard (hG.1 0 (by decide)) e33) cw_X11_153 ⟨by decide, by decide⟩ (rc_X10 X M (hG.1 0 (by decide))) rfl rfl (Nat.le_of_ble_eq_true rfl) ⟨Nat.zero_le _, Nat.zero_le _⟩ dX11_ride_46 (fun H locs M n36 => ?_)
      obtain ⟨V37, e38, h⟩ := lt_e h
      rw [← e38] at M
      exact x_iret X hret M (rt3 h).1 (rt3 h).2.1 (rt3 h).2.2 rfl dX11_ride_49
def fX11_pay (V : uV) (a1 : Int32) (a2 : Int32) : Option (Int32 × Int32 × uV) :=
  lt_ (fX5_has (V 0) a1) fun x2 =>
  th_ (decide (¬ (x2 : Int32) = 0)) (some (3, 0, V)) <|
  th_ (decide (1 ≤ a2 ∧ a2 ≤ 99)) (some (1, 0, V)) <|
  bd (fX11_remember V) fun S7 =>
  bd2 (fX5_payIn (S7 0) a1 a2) fun x10 S11 =>
  lt_ (va_up S7 0 S11) fun V13 =>
  some (0, x10, V13)
set_option maxHeartbeats 4000000 in
set_option maxRecDepth 20000 in
theorem kX11_pay {l : Launch} {G : UG} (hG : uAll G) {V V' : uV} {a1 : Int32} {a2 : Int32} {r : Int32} {E : Int32} (hlt : l.stackTraces = false) (h : fX11_pay V a1 a2 = some (E, r, V')) : uXi l G yX11_pay cX11_pay 3 .int (uRx 8 145) [.ref (ga G 18 0), .int a1, .int a2] V E r V' := by
  refine uXi_of rfl (Nat.le_of_ble_eq_true rfl) (fun p e s m args below meth c ls X hret htb hl M => ?_)
  have hl : lv_has ls 3 [(0, .ref (ga G 18 0)), (1, .int a1), (2, .int a2)] := hl
  have hx := X.hx
  have hb := X.hb
  unfold fX11_pay at h
  refine lv_aload_n hx hb dX11_pay_0 rfl (lv_at hl 0 rfl) ?_
  refine gf_X11_10 X M hG.2.1 dX11_pay_1 ?_
  refine gf_X11_99 X M (hG.1 0 (by decide)) dX11_pay_4 ?_
  refine lv_iload_n hx hb dX11_pay_7 rfl (lv_at hl 1 rfl) ?_
  obtain ⟨x2, e1, h⟩ := lt_e h
  refine u_cVi X M hl.1 (kX5_has (hG.1 0 (by decide)) rfl e1.symm) cw_X11_103 ⟨by decide, by decide⟩ (rc_X5 X M (hG.1 0 (by decide))) rfl rfl (Nat.le_of_ble_eq_true rfl) ⟨Nat.zero_le _, Nat.zero_le _⟩ dX11_pay_8 (fun H locs M n3 => ?_)
  by_cases c4 : ¬ (x2 : Int32) = 0
  rotate_left
  · have h := th_f h (decide_eq_false c4)
    exact x_outS X M htb hl.1 (by decide) (kX11_needThere_x hlt c4) cw_X11_92 ⟨by decide, by decide⟩ rfl rfl (Nat.le_of_ble_eq_true rfl) dX11_pay_11 (rt3 h).1 (rt3 h).2.2
  have h := th_t h (decide_eq_true c4)
  refine u_cSv X M hl.1 (kX11_needThere_ok c4) cw_X11_92 ⟨by decide, by decide⟩ rfl rfl (Nat.le_of_ble_eq_true rfl) ⟨Nat.zero_le _, Nat.zero_le _⟩ dX11_pay_11 (fun H locs M => ?_)
  refine lv_iload_n hx hb dX11_pay_14 rfl (lv_at hl 2 rfl) ?_
  refine lv_iconst (v := 1) hx hb dX11_pay_15 (by decide) ?_
  refine lv_bipush (v := 99) hx hb dX11_pay_16 (by decide) ?_
  by_cases c5 : 1 ≤ a2 ∧ a2 ≤ 99
  rotate_left
  · have h := th_f h (decide_eq_false c5)
    exact x_outS X M htb hl.1 (by decide) (kX11_needRange_x hlt c5) cw_X11_40 ⟨by decide, by decide⟩ rfl rfl (Nat.le_of_ble_eq_true rfl) dX11_pay_18 (rt3 h).1 (rt3 h).2.2
  have h := th_t h (decide_eq_true c5)
  refine u_cSv X M hl.1 (kX11_needRange_ok c5) cw_X11_40 ⟨by decide, by decide⟩ rfl rfl (Nat.le_of_ble_eq_true rfl) ⟨Nat.zero_le _, Nat.zero_le _⟩ dX11_pay_18 (fun H locs M => ?_)
  refine lv_aload_n hx hb dX11_pay_21 rfl (lv_at hl 0 rfl) ?_
  obtain ⟨S7, e6, h⟩ := bd_e h
  refine u_cVv X M hl.1 (kX11_remember hG e6) cw_X11_141 ⟨by decide, by decide⟩ (rc_X11 X M hG.2.1) rfl rfl (Nat.le_of_ble_eq_true rfl) ⟨Nat.zero_le _, Nat.zero_le _⟩ dX11_pay_22 (fun H locs M => ?_)
  refine lv_aload_n hx hb dX11_pay_25 rfl (lv_at hl 0 rfl) ?_
  refine gf_X11_10 X M hG.2.1 dX11_pay_26 ?_
  refine gf_X11_99 X M (hG.1 0 (by decide)) dX11_pay_29 ?_
  refine lv_iload_n hx hb dX11_pay_32 rfl (lv_at hl 1 rfl) ?_
  refine lv_iload_n hx hb dX11_pay_33 rfl (lv_at hl 2 rfl) ?_
  obtain ⟨x10, S11, e9, h⟩ := bd2_e h
  have M := um_in 0 M
  refine u_cVi X M hl.1 (kX5_payIn (hG.1 0 (by decide)) e9) cw_X11_156 ⟨by decide, by decide⟩ (rc_X5 X M (hG.1 0 (by decide))) rfl rfl (Nat.le_of_ble_eq_true rfl) ⟨Nat.zero_le _, Nat.zero_le _⟩ dX11_pay_34 (fun H locs M n12 => ?_)
  obtain ⟨V13, e14, h⟩ := lt_e h
  rw [← e14] at M
  exact x_iret X hret M (rt3 h).1 (rt3 h).2.1 (rt3 h).2.2 rfl dX11_pay_37
def fX11_pardon (V : uV) (a1 : Int32) : Option (Int32 × Int32 × uV) :=
  lt_ (fX5_has (V 0) a1) fun x2 =>
  th_ (decide (¬ (x2 : Int32) = 0)) (some (3, 0, V)) <|
  lt_ (fX5_isMarked (V 0) a1) fun x6 =>
  th_ (decide (¬ (x6 : Int32) = 0)) (some (2, 0, V)) <|
  bd (fX11_remember V) fun S10 =>
  bd2 (fX5_unmark (S10 0) a1) fun x13 S14 =>
  lt_ (va_up S10 0 S14) fun V16 =>
  some (0, x13, V16)
set_option maxHeartbeats 4000000 in
set_option maxRecDepth 20000 in
theorem kX11_pardon {l : Launch} {G : UG} (hG : uAll G) {V V' : uV} {a1 : Int32} {r : Int32} {E : Int32} (hlt : l.stackTraces = false) (h : fX11_pardon V a1 = some (E, r, V')) : uXi l G yX11_pardon cX11_pardon 2 .int (uRx 7 145) [.ref (ga G 18 0), .int a1] V E r V' := by
  refine uXi_of rfl (Nat.le_of_ble_eq_true rfl) (fun p e s m args below meth c ls X hret htb hl M => ?_)
  have hl : lv_has ls 2 [(0, .ref (ga G 18 0)), (1, .int a1)] := hl
  have hx := X.hx
  have hb := X.hb
  unfold fX11_pardon at h
  refine lv_aload_n hx hb dX11_pardon_0 rfl (lv_at hl 0 rfl) ?_
  refine gf_X11_10 X M hG.2.1 dX11_pardon_1 ?_
  refine gf_X11_99 X M (hG.1 0 (by decide)) dX11_pardon_4 ?_
  refine lv_iload_n hx hb dX11_pardon_7 rfl (lv_at hl 1 rfl) ?_
  obtain ⟨x2, e1, h⟩ := lt_e h
  refine u_cVi X M hl.1 (kX5_has (hG.1 0 (by decide)) rfl e1.symm) cw_X11_103 ⟨by decide, by decide⟩ (rc_X5 X M (hG.1 0 (by decide))) rfl rfl (Nat.le_of_ble_eq_true rfl) ⟨Nat.zero_le _, Nat.zero_le _⟩ dX11_pardon_8 (fun H locs M n3 => ?_)
  by_cases c4 : ¬ (x2 : Int32) = 0
  rotate_left
  · have h := th_f h (decide_eq_false c4)
    exact x_outS X M htb hl.1 (by decide) (kX11_needThere_x hlt c4) cw_X11_92 ⟨by decide, by decide⟩ rfl rfl (Nat.le_of_ble_eq_true rfl) dX11_pardon_11 (rt3 h).1 (rt3 h).2.2
  have h := th_t h (decide_eq_true c4)
  refine u_cSv X M hl.1 (kX11_needThere_ok c4) cw_X11_92 ⟨by decide, by decide⟩ rfl rfl (Nat.le_of_ble_eq_true rfl) ⟨Nat.zero_le _, Nat.zero_le _⟩ dX11_pardon_11 (fun H locs M => ?_)
  refine lv_aload_n hx hb dX11_pardon_14 rfl (lv_at hl 0 rfl) ?_
  refine gf_X11_10 X M hG.2.1 dX11_pardon_15 ?_
  refine gf_X11_99 X M (hG.1 0 (by decide)) dX11_pardon_18 ?_
  refine lv_iload_n hx hb dX11_pardon_21 rfl (lv_at hl 1 rfl) ?_
  obtain ⟨x6, e5, h⟩ := lt_e h
  refine u_cVi X M hl.1 (kX5_isMarked (hG.1 0 (by decide)) rfl e5.symm) cw_X11_159 ⟨by decide, by decide⟩ (rc_X5 X M (hG.1 0 (by decide))) rfl rfl (Nat.le_of_ble_eq_true rfl) ⟨Nat.zero_le _, Nat.zero_le _⟩ dX11_pardon_22 (fun H locs M n7 => ?_)
  by_cases c8 : ¬ (x6 : Int32) = 0
  rotate_left
  · have h := th_f h (decide_eq_false c8)
    exact x_outS X M htb hl.1 (by decide) (kX11_needState_x hlt c8) cw_X11_48 ⟨by decide, by decide⟩ rfl rfl (Nat.le_of_ble_eq_true rfl) dX11_pardon_25 (rt3 h).1 (rt3 h).2.2
  have h := th_t h (decide_eq_true c8)
  refine u_cSv X M hl.1 (kX11_needState_ok c8) cw_X11_48 ⟨by decide, by decide⟩ rfl rfl (Nat.le_of_ble_eq_true rfl) ⟨Nat.zero_le _, Nat.zero_le _⟩ dX11_pardon_25 (fun H locs M => ?_)
  refine lv_aload_n hx hb dX11_pardon_28 rfl (lv_at hl 0 rfl) ?_
  obtain ⟨S10, e9, h⟩ := bd_e h
  refine u_cVv X M hl.1 (kX11_remember hG e9) cw_X11_141 ⟨by decide, by decide⟩ (rc_X11 X M hG.2.1) rfl rfl (Nat.le_of_ble_eq_true rfl) ⟨Nat.zero_le _, Nat.zero_le _⟩ dX11_pardon_29 (fun H locs M => ?_)
  refine lv_aload_n hx hb dX11_pardon_32 rfl (lv_at hl 0 rfl) ?_
  refine gf_X11_10 X M hG.2.1 dX11_pardon_33 ?_
  refine gf_X11_99 X M (hG.1 0 (by decide)) dX11_pardon_36 ?_
  refine lv_iload_n hx hb dX11_pardon_39 rfl (lv_at hl 1 rfl) ?_
  obtain ⟨x13, S14, e12, h⟩ := bd2_e h
  have M := um_in 0 M
  refine u_cVi X M hl.1 (kX5_unmark (hG.1 0 (by decide)) e12) cw_X11_162 ⟨by decide, by decide⟩ (rc_X5 X M (hG.1 0 (by decide))) rfl rfl (Nat.le_of_ble_eq_true rfl) ⟨Nat.zero_le _, Nat.zero_le _⟩ dX11_pardon_40 (fun H locs M n15 => ?_)
  obtain ⟨V16, e17, h⟩ := lt_e h
  rw [← e17] at M
  exact x_iret X hret M (rt3 h).1 (rt3 h).2.1 (rt3 h).2.2 rfl dX11_pardon_43
def fX11_down (V : uV) (a1 : Int32) : Option (Int32 × Int32 × uV) :=
  lt_ (fX3_has (V 0) a1) fun x2 =>
  th_ (decide (¬ (x2 : Int32) = 0)) (some (3, 0, V)) <|
  lt_ (fX3_isUp (V 0) a1) fun x6 =>
  th_ (decide (¬ (x6 : Int32) = 0)) (some (2, 0, V)) <|
  bd (fX11_remember V) fun S10 =>
  bd2 (fX10_takeDown (S10 0) a1) fun x13 S14 =>
  lt_ (va_up S10 0 S14) fun V16 =>
  some (0, x13, V16)
set_option maxHeartbeats 4000000 in
set_option maxRecDepth 20000 in
theorem kX11_down {l : Launch} {G : UG} (hG : uAll G) {V V' : uV} {a1 : Int32} {r : Int32} {E : Int32} (hlt : l.stackTraces = false) (h : fX11_down V a1 = some (E, r, V')) : uXi l G yX11_down cX11_down 2 .int (uRx 7 145) [.ref (ga G 18 0), .int a1] V E r V' := by
  refine uXi_of rfl (Nat.le_of_ble_eq_true rfl) (fun p e s m args below meth c ls X hret htb hl M => ?_)
  have hl : lv_has ls 2 [(0, .ref (ga G 18 0)), (1, .int a1)] := hl
  have hx := X.hx
  have hb := X.hb
  unfold fX11_down at h
  refine lv_aload_n hx hb dX11_down_0 rfl (lv_at hl 0 rfl) ?_
  refine gf_X11_10 X M hG.2.1 dX11_down_1 ?_
  refine gf_X11_109 X M (hG.1 0 (by decide)) dX11_down_4 ?_
  refine lv_iload_n hx hb dX11_down_7 rfl (lv_at hl 1 rfl) ?_
  obtain ⟨x2, e1, h⟩ := lt_e h
  refine u_cVi X M hl.1 (kX3_has (hG.1 0 (by decide)) rfl e1.symm) cw_X11_113 ⟨by decide, by decide⟩ (rc_X3 X M (hG.1 0 (by decide))) rfl rfl (Nat.le_of_ble_eq_true rfl) ⟨Nat.zero_le _, Nat.zero_le _⟩ dX11_down_8 (fun H locs M n3 => ?_)
  by_cases c4 : ¬ (x2 : Int32) = 0
  rotate_left
  · have h := th_f h (decide_eq_false c4)
    exact x_outS X M htb hl.1 (by decide) (kX11_needThere_x hlt c4) cw_X11_92 ⟨by decide, by decide⟩ rfl rfl (Nat.le_of_ble_eq_true rfl) dX11_down_11 (rt3 h).1 (rt3 h).2.2
  have h := th_t h (decide_eq_true c4)
  refine u_cSv X M hl.1 (kX11_needThere_ok c4) cw_X11_92 ⟨by decide, by decide⟩ rfl rfl (Nat.le_of_ble_eq_true rfl) ⟨Nat.zero_le _, Nat.zero_le _⟩ dX11_down_11 (fun H locs M => ?_)
  refine lv_aload_n hx hb dX11_down_14 rfl (lv_at hl 0 rfl) ?_
  refine gf_X11_10 X M hG.2.1 dX11_down_15 ?_
  refine gf_X11_109 X M (hG.1 0 (by decide)) dX11_down_18 ?_
  refine lv_iload_n hx hb dX11_down_21 rfl (lv_at hl 1 rfl) ?_
  obtain ⟨x6, e5, h⟩ := lt_e h
  refine u_cVi X M hl.1 (kX3_isUp (hG.1 0 (by decide)) rfl e5.symm) cw_X11_165 ⟨by decide, by decide⟩ (rc_X3 X M (hG.1 0 (by decide))) rfl rfl (Nat.le_of_ble_eq_true rfl) ⟨Nat.zero_le _, Nat.zero_le _⟩ dX11_down_22 (fun H locs M n7 => ?_)
  by_cases c8 : ¬ (x6 : Int32) = 0
  rotate_left
  · have h := th_f h (decide_eq_false c8)
    exact x_outS X M htb hl.1 (by decide) (kX11_needState_x hlt c8) cw_X11_48 ⟨by decide, by decide⟩ rfl rfl (Nat.le_of_ble_eq_true rfl) dX11_down_25 (rt3 h).1 (rt3 h).2.2
  have h := th_t h (decide_eq_true c8)
  refine u_cSv X M hl.1 (kX11_needState_ok c8) cw_X11_48 ⟨by decide, by decide⟩ rfl rfl (Nat.le_of_ble_eq_true rfl) ⟨Nat.zero_le _, Nat.zero_le _⟩ dX11_down_25 (fun H locs M => ?_)
  refine lv_aload_n hx hb dX11_down_28 rfl (lv_at hl 0 rfl) ?_
  obtain ⟨S10, e9, h⟩ := bd_e h
  refine u_cVv X M hl.1 (kX11_remember hG e9) cw_X11_141 ⟨by decide, by decide⟩ (rc_X11 X M hG.2.1) rfl rfl (Nat.le_of_ble_eq_true rfl) ⟨Nat.zero_le _, Nat.zero_le _⟩ dX11_down_29 (fun H locs M => ?_)
  refine lv_aload_n hx hb dX11_down_32 rfl (lv_at hl 0 rfl) ?_
  refine gf_X11_10 X M hG.2.1 dX11_down_33 ?_
  refine lv_iload_n hx hb dX11_down_36 rfl (lv_at hl 1 rfl) ?_
  obtain ⟨x13, S14, e12, h⟩ := bd2_e h
  have M := um_in 0 M
  refine u_cVi X M hl.1 (kX10_takeDown (hG.1 0 (by decide)) e12) cw_X11_168 ⟨by decide, by decide⟩ (rc_X10 X M (hG.1 0 (by decide))) rfl rfl (Nat.le_of_ble_eq_true rfl) ⟨Nat.zero_le _, Nat.zero_le _⟩ dX11_down_37 (fun H locs M n15 => ?_)
  obtain ⟨V16, e17, h⟩ := lt_e h
  rw [← e17] at M
  exact x_iret X hret M (rt3 h).1 (rt3 h).2.1 (rt3 h).2.2 rfl dX11_down_40
def fX11_up (V : uV) (a1 : Int32) : Option (Int32 × Int32 × uV) :=
  lt_ (fX3_has (V 0) a1) fun x2 =>
  th_ (decide (¬ (x2 : Int32) = 0)) (some (3, 0, V)) <|
  lt_ (fX3_isUp (V 0) a1) fun x6 =>
  if x6 = 0 then
    th_ (decide (¬ (1 : Int32) = 0)) (some (2, 0, V)) <|
    bd (fX11_remember V) fun S21 =>
    bd2 (fX10_bringUp (S21 0) a1) fun x24 S25 =>
    lt_ (va_up S21 0 S25) fun V27 =>
    some (0, x24, V27)
  else
    th_ (decide (¬ (0 : Int32) = 0)) (some (2, 0, V)) <|
    bd (fX11_remember V) fun S11 =>
    bd2 (fX10_bringUp (S11 0) a1) fun x14 S15 =>
    lt_ (va_up S11 0 S15) fun V17 =>
    some (0, x14, V17)
set_option maxHeartbeats 4000000 in
set_option maxRecDepth 20000 in
theorem kX11_up {l : Launch} {G : UG} (hG : uAll G) {V V' : uV} {a1 : Int32} {r : Int32} {E : Int32} (hlt : l.stackTraces = false) (h : fX11_up V a1 = some (E, r, V')) : uXi l G yX11_up cX11_up 2 .int (uRx 7 145) [.ref (ga G 18 0), .int a1] V E r V' := by
  refine uXi_of rfl (Nat.le_of_ble_eq_true rfl) (fun p e s m args below meth c ls X hret htb hl M => ?_)
  have hl : lv_has ls 2 [(0, .ref (ga G 18 0)), (1, .int a1)] := hl
  have hx := X.hx
  have hb := X.hb
  unfold fX11_up at h
  refine lv_aload_n hx hb dX11_up_0 rfl (lv_at hl 0 rfl) ?_
  refine gf_X11_10 X M hG.2.1 dX11_up_1 ?_
  refine gf_X11_109 X M (hG.1 0 (by decide)) dX11_up_4 ?_
  refine lv_iload_n hx hb dX11_up_7 rfl (lv_at hl 1 rfl) ?_
  obtain ⟨x2, e1, h⟩ := lt_e h
  refine u_cVi X M hl.1 (kX3_has (hG.1 0 (by decide)) rfl e1.symm) cw_X11_113 ⟨by decide, by decide⟩ (rc_X3 X M (hG.1 0 (by decide))) rfl rfl (Nat.le_of_ble_eq_true rfl) ⟨Nat.zero_le _, Nat.zero_le _⟩ dX11_up_8 (fun H locs M n3 => ?_)
  by_cases c4 : ¬ (x2 : Int32) = 0
  rotate_left
  · have h := th_f h (decide_eq_false c4)
    exact x_outS X M htb hl.1 (by decide) (kX11_needThere_x hlt c4) cw_X11_92 ⟨by decide, by decide⟩ rfl rfl (Nat.le_of_ble_eq_true rfl) dX11_up_11 (rt3 h).1 (rt3 h).2.2
  have h := th_t h (decide_eq_true c4)
  refine u_cSv X M hl.1 (kX11_needThere_ok c4) cw_X11_92 ⟨by decide, by decide⟩ rfl rfl (Nat.le_of_ble_eq_true rfl) ⟨Nat.zero_le _, Nat.zero_le _⟩ dX11_up_11 (fun H locs M => ?_)
  refine lv_aload_n hx hb dX11_up_14 rfl (lv_at hl 0 rfl) ?_
  refine gf_X11_10 X M hG.2.1 dX11_up_15 ?_
  refine gf_X11_109 X M (hG.1 0 (by decide)) dX11_up_18 ?_
  refine lv_iload_n hx hb dX11_up_21 rfl (lv_at hl 1 rfl) ?_
  obtain ⟨x6, e5, h⟩ := lt_e h
  refine u_cVi X M hl.1 (kX3_isUp (hG.1 0 (by decide)) rfl e5.symm) cw_X11_165 ⟨by decide, by decide⟩ (rc_X3 X M (hG.1 0 (by decide))) rfl rfl (Nat.le_of_ble_eq_true rfl) ⟨Nat.zero_le _, Nat.zero_le _⟩ dX11_up_22 (fun H locs M n7 => ?_)
  refine lv_if_ne (tgt := 32) hx hb dX11_up_25 (by decide) (fun c8 => ?_) (fun c8 => ?_)
  · have h := it_f h c8
    refine lv_iconst (v := 0) hx hb dX11_up_32 (by decide) ?_
    by_cases c9 : ¬ (0 : Int32) = 0
    rotate_left
    · have h := th_f h (decide_eq_false c9)
      exact x_outS X M htb hl.1 (by decide) (kX11_needState_x hlt c9) cw_X11_48 ⟨by decide, by decide⟩ rfl rfl (Nat.le_of_ble_eq_true rfl) dX11_up_33 (rt3 h).1 (rt3 h).2.2
    have h := th_t h (decide_eq_true c9)
    refine u_cSv X M hl.1 (kX11_needState_ok c9) cw_X11_48 ⟨by decide, by decide⟩ rfl rfl (Nat.le_of_ble_eq_true rfl) ⟨Nat.zero_le _, Nat.zero_le _⟩ dX11_up_33 (fun H locs M => ?_)
    refine lv_aload_n hx hb dX11_up_36 rfl (lv_at hl 0 rfl) ?_
    obtain ⟨S11, e10, h⟩ := bd_e h
    refine u_cVv X M hl.1 (kX11_remember hG e10) cw_X11_141 ⟨by decide, by decide⟩ (rc_X11 X M hG.2.1) rfl rfl (Nat.le_of_ble_eq_true rfl) ⟨Nat.zero_le _, Nat.zero_le _⟩ dX11_up_37 (fun H locs M => ?_)
    refine lv_aload_n hx hb dX11_up_40 rfl (lv_at hl 0 rfl) ?_
    refine gf_X11_10 X M hG.2.1 dX11_up_41 ?_
    refine lv_iload_n hx hb dX11_up_44 rfl (lv_at hl 1 rfl) ?_
    obtain ⟨x14, S15, e13, h⟩ := bd2_e h
    have M := um_in 0 M
    refine u_cVi X M hl.1 (kX10_bringUp (hG.1 0 (by decide)) e13) cw_X11_171 ⟨by decide, by decide⟩ (rc_X10 X M (hG.1 0 (by decide))) rfl rfl (Nat.le_of_ble_eq_true rfl) ⟨Nat.zero_le _, Nat.zero_le _⟩ dX11_up_45 (fun H locs M n16 => ?_)
    obtain ⟨V17, e18, h⟩ := lt_e h
    rw [← e18] at M
    exact x_iret X hret M (rt3 h).1 (rt3 h).2.1 (rt3 h).2.2 rfl dX11_up_48
  · have h := it_t h c8
    refine lv_iconst (v := 1) hx hb dX11_up_28 (by decide) ?_
    refine lv_goto (tgt := 33) hx hb dX11_up_29 (by decide) ?_
    by_cases c19 : ¬ (1 : Int32) = 0
    rotate_left
    · have h := th_f h (decide_eq_false c19)
      exact x_outS X M htb hl.1 (by decide) (kX11_needState_x hlt c19) cw_X11_48 ⟨by decide, by decide⟩ rfl rfl (Nat.le_of_ble_eq_true rfl) dX11_up_33 (rt3 h).1 (rt3 h).2.2
    have h := th_t h (decide_eq_true c19)
    refine u_cSv X M hl.1 (kX11_needState_ok c19) cw_X11_48 ⟨by decide, by decide⟩ rfl rfl (Nat.le_of_ble_eq_true rfl) ⟨Nat.zero_le _, Nat.zero_le _⟩ dX11_up_33 (fun H locs M => ?_)
    refine lv_aload_n hx hb dX11_up_36 rfl (lv_at hl 0 rfl) ?_
    obtain ⟨S21, e20, h⟩ := bd_e h
    refine u_cVv X M hl.1 (kX11_remember hG e20) cw_X11_141 ⟨by decide, by decide⟩ (rc_X11 X M hG.2.1) rfl rfl (Nat.le_of_ble_eq_true rfl) ⟨Nat.zero_le _, Nat.zero_le _⟩ dX11_up_37 (fun H locs M => ?_)
    refine lv_aload_n hx hb dX11_up_40 rfl (lv_at hl 0 rfl) ?_
    refine gf_X11_10 X M hG.2.1 dX11_up_41 ?_
    refine lv_iload_n hx hb dX11_up_44 rfl (lv_at hl 1 rfl) ?_
    obtain ⟨x24, S25, e23, h⟩ := bd2_e h
    have M := um_in 0 M
    refine u_cVi X M hl.1 (kX10_bringUp (hG.1 0 (by decide)) e23) cw_X11_171 ⟨by decide, by decide⟩ (rc_X10 X M (hG.1 0 (by decide))) rfl rfl (Nat.le_of_ble_eq_true rfl) ⟨Nat.zero_le _, Nat.zero_le _⟩ dX11_up_45 (fun H locs M n26 => ?_)
    obtain ⟨V27, e28, h⟩ := lt_e h
    rw [← e28] at M
    exact x_iret X hret M (rt3 h).1 (rt3 h).2.1 (rt3 h).2.2 rfl dX11_up_48
def fX11_open (V : uV) (a1 : Int32) : Option (Int32 × Int32 × uV) :=
  lt_ (fX3_has (V 0) a1) fun x2 =>
  th_ (decide (¬ (x2 : Int32) = 0)) (some (3, 0, V)) <|
  bd (fX11_remember V) fun S6 =>
  bd2 (fX3_turnOpen (S6 0) a1) fun x9 S10 =>
  lt_ (va_up S6 0 S10) fun V12 =>
  some (0, x9, V12)
set_option maxHeartbeats 4000000 in
set_option maxRecDepth 20000 in
theorem kX11_open {l : Launch} {G : UG} (hG : uAll G) {V V' : uV} {a1 : Int32} {r : Int32} {E : Int32} (hlt : l.stackTraces = false) (h : fX11_open V a1 = some (E, r, V')) : uXi l G yX11_open cX11_open 2 .int (uRx 7 145) [.ref (ga G 18 0), .int a1] V E r V' := by
  refine uXi_of rfl (Nat.le_of_ble_eq_true rfl) (fun p e s m args below meth c ls X hret htb hl M => ?_)
  have hl : lv_has ls 2 [(0, .ref (ga G 18 0)), (1, .int a1)] := hl
  have hx := X.hx
  have hb := X.hb
  unfold fX11_open at h
  refine lv_aload_n hx hb dX11_open_0 rfl (lv_at hl 0 rfl) ?_
  refine gf_X11_10 X M hG.2.1 dX11_open_1 ?_
  refine gf_X11_109 X M (hG.1 0 (by decide)) dX11_open_4 ?_
  refine lv_iload_n hx hb dX11_open_7 rfl (lv_at hl 1 rfl) ?_
  obtain ⟨x2, e1, h⟩ := lt_e h
  refine u_cVi X M hl.1 (kX3_has (hG.1 0 (by decide)) rfl e1.symm) cw_X11_113 ⟨by decide, by decide⟩ (rc_X3 X M (hG.1 0 (by decide))) rfl rfl (Nat.le_of_ble_eq_true rfl) ⟨Nat.zero_le _, Nat.zero_le _⟩ dX11_open_8 (fun H locs M n3 => ?_)
  by_cases c4 : ¬ (x2 : Int32) = 0
  rotate_left
  · have h := th_f h (decide_eq_false c4)
    exact x_outS X M htb hl.1 (by decide) (kX11_needThere_x hlt c4) cw_X11_92 ⟨by decide, by decide⟩ rfl rfl (Nat.le_of_ble_eq_true rfl) dX11_open_11 (rt3 h).1 (rt3 h).2.2
  have h := th_t h (decide_eq_true c4)
  refine u_cSv X M hl.1 (kX11_needThere_ok c4) cw_X11_92 ⟨by decide, by decide⟩ rfl rfl (Nat.le_of_ble_eq_true rfl) ⟨Nat.zero_le _, Nat.zero_le _⟩ dX11_open_11 (fun H locs M => ?_)
  refine lv_aload_n hx hb dX11_open_14 rfl (lv_at hl 0 rfl) ?_
  obtain ⟨S6, e5, h⟩ := bd_e h
  refine u_cVv X M hl.1 (kX11_remember hG e5) cw_X11_141 ⟨by decide, by decide⟩ (rc_X11 X M hG.2.1) rfl rfl (Nat.le_of_ble_eq_true rfl) ⟨Nat.zero_le _, Nat.zero_le _⟩ dX11_open_15 (fun H locs M => ?_)
  refine lv_aload_n hx hb dX11_open_18 rfl (lv_at hl 0 rfl) ?_
  refine gf_X11_10 X M hG.2.1 dX11_open_19 ?_
  refine gf_X11_109 X M (hG.1 0 (by decide)) dX11_open_22 ?_
  refine lv_iload_n hx hb dX11_open_25 rfl (lv_at hl 1 rfl) ?_
  obtain ⟨x9, S10, e8, h⟩ := bd2_e h
  have M := um_in 0 M
  refine u_cVi X M hl.1 (kX3_turnOpen (hG.1 0 (by decide)) e8) cw_X11_174 ⟨by decide, by decide⟩ (rc_X3 X M (hG.1 0 (by decide))) rfl rfl (Nat.le_of_ble_eq_true rfl) ⟨Nat.zero_le _, Nat.zero_le _⟩ dX11_open_26 (fun H locs M n11 => ?_)
  obtain ⟨V12, e13, h⟩ := lt_e h
  rw [← e13] at M
  exact x_iret X hret M (rt3 h).1 (rt3 h).2.1 (rt3 h).2.2 rfl dX11_open_29
def fX11_fare (V : uV) (a1 : Int32) (a2 : Int32) : Option (Int32 × Int32 × uV) :=
  lt_ (fX3_has (V 0) a1) fun x2 =>
  th_ (decide (¬ (x2 : Int32) = 0)) (some (3, 0, V)) <|
  th_ (decide (1 ≤ a2 ∧ a2 ≤ 9)) (some (1, 0, V)) <|
  bd (fX11_remember V) fun S7 =>
  lt_ (fget 4 ((S7 0) 23) a1) fun x10 =>
  lt_ (va_up (S7 0) 23 (fput 4 ((S7 0) 23) a1 a2)) fun S12 =>
  lt_ (va_up S7 0 S12) fun V14 =>
  some (0, x10, V14)
set_option maxHeartbeats 4000000 in
set_option maxRecDepth 20000 in
theorem kX11_fare {l : Launch} {G : UG} (hG : uAll G) {V V' : uV} {a1 : Int32} {a2 : Int32} {r : Int32} {E : Int32} (hlt : l.stackTraces = false) (h : fX11_fare V a1 a2 = some (E, r, V')) : uXi l G yX11_fare cX11_fare 3 .int (uRx 8 145) [.ref (ga G 18 0), .int a1, .int a2] V E r V' := by
  refine uXi_of rfl (Nat.le_of_ble_eq_true rfl) (fun p e s m args below meth c ls X hret htb hl M => ?_)
  have hl : lv_has ls 3 [(0, .ref (ga G 18 0)), (1, .int a1), (2, .int a2)] := hl
  have hx := X.hx
  have hb := X.hb
  unfold fX11_fare at h
  refine lv_aload_n hx hb dX11_fare_0 rfl (lv_at hl 0 rfl) ?_
  refine gf_X11_10 X M hG.2.1 dX11_fare_1 ?_
  refine gf_X11_109 X M (hG.1 0 (by decide)) dX11_fare_4 ?_
  refine lv_iload_n hx hb dX11_fare_7 rfl (lv_at hl 1 rfl) ?_
  obtain ⟨x2, e1, h⟩ := lt_e h
  refine u_cVi X M hl.1 (kX3_has (hG.1 0 (by decide)) rfl e1.symm) cw_X11_113 ⟨by decide, by decide⟩ (rc_X3 X M (hG.1 0 (by decide))) rfl rfl (Nat.le_of_ble_eq_true rfl) ⟨Nat.zero_le _, Nat.zero_le _⟩ dX11_fare_8 (fun H locs M n3 => ?_)
  by_cases c4 : ¬ (x2 : Int32) = 0
  rotate_left
  · have h := th_f h (decide_eq_false c4)
    exact x_outS X M htb hl.1 (by decide) (kX11_needThere_x hlt c4) cw_X11_92 ⟨by decide, by decide⟩ rfl rfl (Nat.le_of_ble_eq_true rfl) dX11_fare_11 (rt3 h).1 (rt3 h).2.2
  have h := th_t h (decide_eq_true c4)
  refine u_cSv X M hl.1 (kX11_needThere_ok c4) cw_X11_92 ⟨by decide, by decide⟩ rfl rfl (Nat.le_of_ble_eq_true rfl) ⟨Nat.zero_le _, Nat.zero_le _⟩ dX11_fare_11 (fun H locs M => ?_)
  refine lv_iload_n hx hb dX11_fare_14 rfl (lv_at hl 2 rfl) ?_
  refine lv_iconst (v := 1) hx hb dX11_fare_15 (by decide) ?_
  refine lv_bipush (v := 9) hx hb dX11_fare_16 (by decide) ?_
  by_cases c5 : 1 ≤ a2 ∧ a2 ≤ 9
  rotate_left
  · have h := th_f h (decide_eq_false c5)
    exact x_outS X M htb hl.1 (by decide) (kX11_needRange_x hlt c5) cw_X11_40 ⟨by decide, by decide⟩ rfl rfl (Nat.le_of_ble_eq_true rfl) dX11_fare_18 (rt3 h).1 (rt3 h).2.2
  have h := th_t h (decide_eq_true c5)
  refine u_cSv X M hl.1 (kX11_needRange_ok c5) cw_X11_40 ⟨by decide, by decide⟩ rfl rfl (Nat.le_of_ble_eq_true rfl) ⟨Nat.zero_le _, Nat.zero_le _⟩ dX11_fare_18 (fun H locs M => ?_)
  refine lv_aload_n hx hb dX11_fare_21 rfl (lv_at hl 0 rfl) ?_
  obtain ⟨S7, e6, h⟩ := bd_e h
  refine u_cVv X M hl.1 (kX11_remember hG e6) cw_X11_141 ⟨by decide, by decide⟩ (rc_X11 X M hG.2.1) rfl rfl (Nat.le_of_ble_eq_true rfl) ⟨Nat.zero_le _, Nat.zero_le _⟩ dX11_fare_22 (fun H locs M => ?_)
  refine lv_aload_n hx hb dX11_fare_25 rfl (lv_at hl 0 rfl) ?_
  refine gf_X11_10 X M hG.2.1 dX11_fare_26 ?_
  refine gf_X11_109 X M (hG.1 0 (by decide)) dX11_fare_29 ?_
  refine gf_X11_177 X M (hG.1 0 (by decide)) dX11_fare_32 ?_
  refine lv_iload_n hx hb dX11_fare_35 rfl (lv_at hl 1 rfl) ?_
  refine lv_iload_n hx hb dX11_fare_36 rfl (lv_at hl 2 rfl) ?_
  obtain ⟨x10, e11, h⟩ := lt_e h
  obtain ⟨S12, e9, h⟩ := lt_e h
  have M := um_in 0 M
  refine u_cVi X M hl.1 (kX6_replaceS (uRw22 (hG.1 0 (by decide))) e11.symm e9) cw_X11_180 ⟨by decide, by decide⟩ (uR_recv X M (uRw22 (hG.1 0 (by decide)))) rfl rfl (Nat.le_of_ble_eq_true rfl) ⟨Nat.zero_le _, Nat.zero_le _⟩ dX11_fare_37 (fun H locs M n13 => ?_)
  obtain ⟨V14, e15, h⟩ := lt_e h
  rw [← e15] at M
  exact x_iret X hret M (rt3 h).1 (rt3 h).2.1 (rt3 h).2.2 rfl dX11_fare_40
def fX11_run (V : uV) (a1 : Int32) : Option (Int32 × Int32 × uV) :=
  th_ (decide (1 ≤ a1 ∧ a1 ≤ 60)) (some (1, 0, V)) <|
  bd (fX11_remember V) fun S3 =>
  lt_ ((S3 0) 0 4) fun x5 =>
  lt_ (va_up (S3 0) 0 (upd ((S3 0) 0) 4 (x5 + a1))) fun S7 =>
  lt_ (va_up S3 0 S7) fun V9 =>
  lt_ ((V9 0) 0 4) fun x11 =>
  some (0, x11, V9)
set_option maxHeartbeats 4000000 in
set_option maxRecDepth 20000 in
theorem kX11_run {l : Launch} {G : UG} (hG : uAll G) {V V' : uV} {a1 : Int32} {r : Int32} {E : Int32} (hlt : l.stackTraces = false) (h : fX11_run V a1 = some (E, r, V')) : uXi l G yX11_run cX11_run 2 .int (uRx 8 145) [.ref (ga G 18 0), .int a1] V E r V' := by
  refine uXi_of rfl (Nat.le_of_ble_eq_true rfl) (fun p e s m args below meth c ls X hret htb hl M => ?_)
  have hl : lv_has ls 2 [(0, .ref (ga G 18 0)), (1, .int a1)] := hl
  have hx := X.hx
  have hb := X.hb
  unfold fX11_run at h
  refine lv_iload_n hx hb dX11_run_0 rfl (lv_at hl 1 rfl) ?_
  refine lv_iconst (v := 1) hx hb dX11_run_1 (by decide) ?_
  refine lv_bipush (v := 60) hx hb dX11_run_2 (by decide) ?_
  by_cases c1 : 1 ≤ a1 ∧ a1 ≤ 60
  rotate_left
  · have h := th_f h (decide_eq_false c1)
    exact x_outS X M htb hl.1 (by decide) (kX11_needRange_x hlt c1) cw_X11_40 ⟨by decide, by decide⟩ rfl rfl (Nat.le_of_ble_eq_true rfl) dX11_run_4 (rt3 h).1 (rt3 h).2.2
  have h := th_t h (decide_eq_true c1)
  refine u_cSv X M hl.1 (kX11_needRange_ok c1) cw_X11_40 ⟨by decide, by decide⟩ rfl rfl (Nat.le_of_ble_eq_true rfl) ⟨Nat.zero_le _, Nat.zero_le _⟩ dX11_run_4 (fun H locs M => ?_)
  refine lv_aload_n hx hb dX11_run_7 rfl (lv_at hl 0 rfl) ?_
  obtain ⟨S3, e2, h⟩ := bd_e h
  refine u_cVv X M hl.1 (kX11_remember hG e2) cw_X11_141 ⟨by decide, by decide⟩ (rc_X11 X M hG.2.1) rfl rfl (Nat.le_of_ble_eq_true rfl) ⟨Nat.zero_le _, Nat.zero_le _⟩ dX11_run_8 (fun H locs M => ?_)
  refine lv_aload_n hx hb dX11_run_11 rfl (lv_at hl 0 rfl) ?_
  refine gf_X11_10 X M hG.2.1 dX11_run_12 ?_
  refine lv_dup hx hb dX11_run_15 rfl ?_
  obtain ⟨x5, e6, h⟩ := lt_e h
  refine gf_X11_183 X M (hG.1 0 (by decide)) rfl e6 dX11_run_16 ?_
  refine lv_iload_n hx hb dX11_run_19 rfl (lv_at hl 1 rfl) ?_
  refine lv_iadd hx hb dX11_run_20 ?_
  obtain ⟨S7, e8, h⟩ := lt_e h
  have M := um_in 0 M
  refine pf_X11_183 X M (hG.1 0 (by decide)) e8 dX11_run_21 (fun H locs M => ?_)
  obtain ⟨V9, e10, h⟩ := lt_e h
  rw [← e10] at M
  refine lv_aload_n hx hb dX11_run_24 rfl (lv_at hl 0 rfl) ?_
  refine gf_X11_10 X M hG.2.1 dX11_run_25 ?_
  obtain ⟨x11, e12, h⟩ := lt_e h
  refine gf_X11_183 X M (hG.1 0 (by decide)) rfl e12 dX11_run_28 ?_
  exact x_iret X hret M (rt3 h).1 (rt3 h).2.1 (rt3 h).2.2 rfl dX11_run_31
def fX11_set (V : uV) (a1 : Int32) (a2 : Int32) : Option (Int32 × Int32 × uV) :=
  th_ (decide (0 ≤ a1 ∧ a1 ≤ 3)) (some (1, 0, V)) <|
  lt_ (fX10_mostOfSetting  a1) fun x3 =>
  th_ (decide (0 ≤ a2 ∧ a2 ≤ x3)) (some (1, 0, V)) <|
  bd (fX11_remember V) fun S7 =>
  lt_ (fget 4 ((S7 0) 39) a1) fun x10 =>
  lt_ (va_up (S7 0) 39 (fput 4 ((S7 0) 39) a1 a2)) fun S12 =>
  lt_ (va_up S7 0 S12) fun V14 =>
  some (0, x10, V14)
set_option maxHeartbeats 4000000 in
set_option maxRecDepth 20000 in
theorem kX11_set {l : Launch} {G : UG} (hG : uAll G) {V V' : uV} {a1 : Int32} {a2 : Int32} {r : Int32} {E : Int32} (hlt : l.stackTraces = false) (h : fX11_set V a1 a2 = some (E, r, V')) : uXi l G yX11_set cX11_set 3 .int (uRx 8 145) [.ref (ga G 18 0), .int a1, .int a2] V E r V' := by
  refine uXi_of rfl (Nat.le_of_ble_eq_true rfl) (fun p e s m args below meth c ls X hret htb hl M => ?_)
  have hl : lv_has ls 3 [(0, .ref (ga G 18 0)), (1, .int a1), (2, .int a2)] := hl
  have hx := X.hx
  have hb := X.hb
  unfold fX11_set at h
  refine lv_iload_n hx hb dX11_set_0 rfl (lv_at hl 1 rfl) ?_
  refine lv_iconst (v := 0) hx hb dX11_set_1 (by decide) ?_
  refine lv_iconst (v := 3) hx hb dX11_set_2 (by decide) ?_
  by_cases c1 : 0 ≤ a1 ∧ a1 ≤ 3
  rotate_left
  · have h := th_f h (decide_eq_false c1)
    exact x_outS X M htb hl.1 (by decide) (kX11_needRange_x hlt c1) cw_X11_40 ⟨by decide, by decide⟩ rfl rfl (Nat.le_of_ble_eq_true rfl) dX11_set_3 (rt3 h).1 (rt3 h).2.2
  have h := th_t h (decide_eq_true c1)
  refine u_cSv X M hl.1 (kX11_needRange_ok c1) cw_X11_40 ⟨by decide, by decide⟩ rfl rfl (Nat.le_of_ble_eq_true rfl) ⟨Nat.zero_le _, Nat.zero_le _⟩ dX11_set_3 (fun H locs M => ?_)
  refine lv_iload_n hx hb dX11_set_6 rfl (lv_at hl 2 rfl) ?_
  refine lv_iconst (v := 0) hx hb dX11_set_7 (by decide) ?_
  refine lv_iload_n hx hb dX11_set_8 rfl (lv_at hl 1 rfl) ?_
  obtain ⟨x3, e2, h⟩ := lt_e h
  refine u_cSi X M hl.1 (kX10_mostOfSetting  e2.symm) cw_X11_187 ⟨by decide, by decide⟩ rfl rfl (Nat.le_of_ble_eq_true rfl) ⟨Nat.zero_le _, Nat.zero_le _⟩ dX11_set_9 (fun H locs M n4 => ?_)
  by_cases c5 : 0 ≤ a2 ∧ a2 ≤ x3
  rotate_left
  · have h := th_f h (decide_eq_false c5)
    exact x_outS X M htb hl.1 (by decide) (kX11_needRange_x hlt c5) cw_X11_40 ⟨by decide, by decide⟩ rfl rfl (Nat.le_of_ble_eq_true rfl) dX11_set_12 (rt3 h).1 (rt3 h).2.2
  have h := th_t h (decide_eq_true c5)
  refine u_cSv X M hl.1 (kX11_needRange_ok c5) cw_X11_40 ⟨by decide, by decide⟩ rfl rfl (Nat.le_of_ble_eq_true rfl) ⟨Nat.zero_le _, Nat.zero_le _⟩ dX11_set_12 (fun H locs M => ?_)
  refine lv_aload_n hx hb dX11_set_15 rfl (lv_at hl 0 rfl) ?_
  obtain ⟨S7, e6, h⟩ := bd_e h
  refine u_cVv X M hl.1 (kX11_remember hG e6) cw_X11_141 ⟨by decide, by decide⟩ (rc_X11 X M hG.2.1) rfl rfl (Nat.le_of_ble_eq_true rfl) ⟨Nat.zero_le _, Nat.zero_le _⟩ dX11_set_16 (fun H locs M => ?_)
  refine lv_aload_n hx hb dX11_set_19 rfl (lv_at hl 0 rfl) ?_
  refine gf_X11_10 X M hG.2.1 dX11_set_20 ?_
  refine gf_X11_128 X M (hG.1 0 (by decide)) dX11_set_23 ?_
  refine lv_iload_n hx hb dX11_set_26 rfl (lv_at hl 1 rfl) ?_
  refine lv_iload_n hx hb dX11_set_27 rfl (lv_at hl 2 rfl) ?_
  obtain ⟨x10, e11, h⟩ := lt_e h
  obtain ⟨S12, e9, h⟩ := lt_e h
  have M := um_in 0 M
  refine u_cVi X M hl.1 (kX6_replaceS (uRw38 (hG.1 0 (by decide))) e11.symm e9) cw_X11_180 ⟨by decide, by decide⟩ (uR_recv X M (uRw38 (hG.1 0 (by decide)))) rfl rfl (Nat.le_of_ble_eq_true rfl) ⟨Nat.zero_le _, Nat.zero_le _⟩ dX11_set_28 (fun H locs M n13 => ?_)
  obtain ⟨V14, e15, h⟩ := lt_e h
  rw [← e15] at M
  exact x_iret X hret M (rt3 h).1 (rt3 h).2.1 (rt3 h).2.2 rfl dX11_set_31
def fX11_undo (V : uV) : Option (Int32 × Int32 × uV) :=
  lt_ (fX4_isEmpty (V 18)) fun x2 =>
  if x2 = 0 then
    th_ (decide (¬ (1 : Int32) = 0)) (some (2, 0, V)) <|
    bd2 (fX4_pop V) fun x12 S13 =>
    some (0, x12, S13)
  else
    th_ (decide (¬ (0 : Int32) = 0)) (some (2, 0, V)) <|
    bd2 (fX4_pop V) fun x7 S8 =>
    some (0, x7, S8)
set_option maxHeartbeats 4000000 in
set_option maxRecDepth 20000 in
theorem kX11_undo {l : Launch} {G : UG} (hG : uAll G) {V V' : uV}  {r : Int32} {E : Int32} (hlt : l.stackTraces = false) (h : fX11_undo V = some (E, r, V')) : uXi l G yX11_undo cX11_undo 1 .int (uRx 7 125) [.ref (ga G 18 0)] V E r V' := by
  refine uXi_of rfl (Nat.le_of_ble_eq_true rfl) (fun p e s m args below meth c ls X hret htb hl M => ?_)
  have hl : lv_has ls 1 [(0, .ref (ga G 18 0))] := hl
  have hx := X.hx
  have hb := X.hb
  unfold fX11_undo at h
  refine lv_aload_n hx hb dX11_undo_0 rfl (lv_at hl 0 rfl) ?_
  refine gf_X11_29 X M hG.2.1 dX11_undo_1 ?_
  obtain ⟨x2, e1, h⟩ := lt_e h
  refine u_cVi X M hl.1 (kX4_isEmpty hG.2.1 rfl e1.symm) cw_X11_190 ⟨by decide, by decide⟩ (rc_X4 X M hG.2.1) rfl rfl (Nat.le_of_ble_eq_true rfl) ⟨Nat.zero_le _, Nat.zero_le _⟩ dX11_undo_4 (fun H locs M n3 => ?_)
  refine lv_if_ne (tgt := 14) hx hb dX11_undo_7 (by decide) (fun c4 => ?_) (fun c4 => ?_)
  · have h := it_f h c4
    refine lv_iconst (v := 0) hx hb dX11_undo_14 (by decide) ?_
    by_cases c5 : ¬ (0 : Int32) = 0
    rotate_left
    · have h := th_f h (decide_eq_false c5)
      exact x_outS X M htb hl.1 (by decide) (kX11_needState_x hlt c5) cw_X11_48 ⟨by decide, by decide⟩ rfl rfl (Nat.le_of_ble_eq_true rfl) dX11_undo_15 (rt3 h).1 (rt3 h).2.2
    have h := th_t h (decide_eq_true c5)
    refine u_cSv X M hl.1 (kX11_needState_ok c5) cw_X11_48 ⟨by decide, by decide⟩ rfl rfl (Nat.le_of_ble_eq_true rfl) ⟨Nat.zero_le _, Nat.zero_le _⟩ dX11_undo_15 (fun H locs M => ?_)
    refine lv_aload_n hx hb dX11_undo_18 rfl (lv_at hl 0 rfl) ?_
    refine gf_X11_29 X M hG.2.1 dX11_undo_19 ?_
    refine lv_aload_n hx hb dX11_undo_22 rfl (lv_at hl 0 rfl) ?_
    refine gf_X11_10 X M hG.2.1 dX11_undo_23 ?_
    obtain ⟨x7, S8, e6, h⟩ := bd2_e h
    refine u_cVi X M hl.1 (kX4_pop hG e6) cw_X11_193 ⟨by decide, by decide⟩ (rc_X4 X M hG.2.1) rfl rfl (Nat.le_of_ble_eq_true rfl) ⟨Nat.zero_le _, Nat.zero_le _⟩ dX11_undo_26 (fun H locs M n9 => ?_)
    exact x_iret X hret M (rt3 h).1 (rt3 h).2.1 (rt3 h).2.2 rfl dX11_undo_29
  · have h := it_t h c4
    refine lv_iconst (v := 1) hx hb dX11_undo_10 (by decide) ?_
    refine lv_goto (tgt := 15) hx hb dX11_undo_11 (by decide) ?_
    by_cases c10 : ¬ (1 : Int32) = 0
    rotate_left
    · have h := th_f h (decide_eq_false c10)
      exact x_outS X M htb hl.1 (by decide) (kX11_needState_x hlt c10) cw_X11_48 ⟨by decide, by decide⟩ rfl rfl (Nat.le_of_ble_eq_true rfl) dX11_undo_15 (rt3 h).1 (rt3 h).2.2
    have h := th_t h (decide_eq_true c10)
    refine u_cSv X M hl.1 (kX11_needState_ok c10) cw_X11_48 ⟨by decide, by decide⟩ rfl rfl (Nat.le_of_ble_eq_true rfl) ⟨Nat.zero_le _, Nat.zero_le _⟩ dX11_undo_15 (fun H locs M => ?_)
    refine lv_aload_n hx hb dX11_undo_18 rfl (lv_at hl 0 rfl) ?_
    refine gf_X11_29 X M hG.2.1 dX11_undo_19 ?_
    refine lv_aload_n hx hb dX11_undo_22 rfl (lv_at hl 0 rfl) ?_
    refine gf_X11_10 X M hG.2.1 dX11_undo_23 ?_
    obtain ⟨x12, S13, e11, h⟩ := bd2_e h
    refine u_cVi X M hl.1 (kX4_pop hG e11) cw_X11_193 ⟨by decide, by decide⟩ (rc_X4 X M hG.2.1) rfl rfl (Nat.le_of_ble_eq_true rfl) ⟨Nat.zero_le _, Nat.zero_le _⟩ dX11_undo_26 (fun H locs M n14 => ?_)
    exact x_iret X hret M (rt3 h).1 (rt3 h).2.1 (rt3 h).2.2 rfl dX11_undo_29
