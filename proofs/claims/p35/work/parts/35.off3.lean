theorem dX11_would_0 : decode cX11_would 0 = .ok (.aload_n 0, 1) := by decide +kernel
theorem dX11_would_1 : decode cX11_would 1 = .ok (.getfield 10, 3) := by decide +kernel
theorem dX11_would_4 : decode cX11_would 4 = .ok (.getfield 82, 3) := by decide +kernel
theorem dX11_would_7 : decode cX11_would 7 = .ok (.iload_n 1, 1) := by decide +kernel
theorem dX11_would_8 : decode cX11_would 8 = .ok (.invokevirtual 86, 3) := by decide +kernel
theorem dX11_would_11 : decode cX11_would 11 = .ok (.ifCond .eq 21, 3) := by decide +kernel
theorem dX11_would_14 : decode cX11_would 14 = .ok (.aload_n 0, 1) := by decide +kernel
theorem dX11_would_15 : decode cX11_would 15 = .ok (.getfield 10, 3) := by decide +kernel
theorem dX11_would_18 : decode cX11_would 18 = .ok (.getfield 109, 3) := by decide +kernel
theorem dX11_would_21 : decode cX11_would 21 = .ok (.iload_n 2, 1) := by decide +kernel
theorem dX11_would_22 : decode cX11_would 22 = .ok (.invokevirtual 113, 3) := by decide +kernel
theorem dX11_would_25 : decode cX11_would 25 = .ok (.ifCond .eq 7, 3) := by decide +kernel
theorem dX11_would_28 : decode cX11_would 28 = .ok (.iconst 1, 1) := by decide +kernel
theorem dX11_would_29 : decode cX11_would 29 = .ok (.goto 4, 3) := by decide +kernel
theorem dX11_would_32 : decode cX11_would 32 = .ok (.iconst 0, 1) := by decide +kernel
theorem dX11_would_33 : decode cX11_would 33 = .ok (.invokestatic 92, 3) := by decide +kernel
theorem dX11_would_36 : decode cX11_would 36 = .ok (.aload_n 0, 1) := by decide +kernel
theorem dX11_would_37 : decode cX11_would 37 = .ok (.getfield 16, 3) := by decide +kernel
theorem dX11_would_40 : decode cX11_would 40 = .ok (.aload_n 0, 1) := by decide +kernel
theorem dX11_would_41 : decode cX11_would 41 = .ok (.getfield 10, 3) := by decide +kernel
theorem dX11_would_44 : decode cX11_would 44 = .ok (.invokevirtual 197, 3) := by decide +kernel
theorem dX11_would_47 : decode cX11_would 47 = .ok (.aload_n 0, 1) := by decide +kernel
theorem dX11_would_48 : decode cX11_would 48 = .ok (.getfield 16, 3) := by decide +kernel
theorem dX11_would_51 : decode cX11_would 51 = .ok (.iload_n 1, 1) := by decide +kernel
theorem dX11_would_52 : decode cX11_would 52 = .ok (.iload_n 2, 1) := by decide +kernel
theorem dX11_would_53 : decode cX11_would 53 = .ok (.invokevirtual 153, 3) := by decide +kernel
theorem dX11_would_56 : decode cX11_would 56 = .ok (.ireturn, 1) := by decide +kernel
theorem dX11_rides_0 : decode cX11_rides 0 = .ok (.aload_n 0, 1) := by decide +kernel
theorem dX11_rides_1 : decode cX11_rides 1 = .ok (.getfield 10, 3) := by decide +kernel
theorem dX11_rides_4 : decode cX11_rides 4 = .ok (.getfield 82, 3) := by decide +kernel
theorem dX11_rides_7 : decode cX11_rides 7 = .ok (.iload_n 1, 1) := by decide +kernel
theorem dX11_rides_8 : decode cX11_rides 8 = .ok (.invokevirtual 86, 3) := by decide +kernel
theorem dX11_rides_11 : decode cX11_rides 11 = .ok (.ifCond .eq 21, 3) := by decide +kernel
theorem dX11_rides_14 : decode cX11_rides 14 = .ok (.aload_n 0, 1) := by decide +kernel
theorem dX11_rides_15 : decode cX11_rides 15 = .ok (.getfield 10, 3) := by decide +kernel
theorem dX11_rides_18 : decode cX11_rides 18 = .ok (.getfield 109, 3) := by decide +kernel
theorem dX11_rides_21 : decode cX11_rides 21 = .ok (.iload_n 2, 1) := by decide +kernel
theorem dX11_rides_22 : decode cX11_rides 22 = .ok (.invokevirtual 113, 3) := by decide +kernel
theorem dX11_rides_25 : decode cX11_rides 25 = .ok (.ifCond .eq 7, 3) := by decide +kernel
theorem dX11_rides_28 : decode cX11_rides 28 = .ok (.iconst 1, 1) := by decide +kernel
theorem dX11_rides_29 : decode cX11_rides 29 = .ok (.goto 4, 3) := by decide +kernel
theorem dX11_rides_32 : decode cX11_rides 32 = .ok (.iconst 0, 1) := by decide +kernel
theorem dX11_rides_33 : decode cX11_rides 33 = .ok (.invokestatic 92, 3) := by decide +kernel
theorem dX11_rides_36 : decode cX11_rides 36 = .ok (.aload_n 0, 1) := by decide +kernel
theorem dX11_rides_37 : decode cX11_rides 37 = .ok (.getfield 16, 3) := by decide +kernel
theorem dX11_rides_40 : decode cX11_rides 40 = .ok (.aload_n 0, 1) := by decide +kernel
theorem dX11_rides_41 : decode cX11_rides 41 = .ok (.getfield 10, 3) := by decide +kernel
theorem dX11_rides_44 : decode cX11_rides 44 = .ok (.invokevirtual 197, 3) := by decide +kernel
theorem dX11_rides_47 : decode cX11_rides 47 = .ok (.iconst 0, 1) := by decide +kernel
theorem dX11_rides_48 : decode cX11_rides 48 = .ok (.istore_n 3, 1) := by decide +kernel
theorem dX11_rides_49 : decode cX11_rides 49 = .ok (.iload_n 3, 1) := by decide +kernel
theorem dX11_rides_50 : decode cX11_rides 50 = .ok (.bipush 100, 2) := by decide +kernel
theorem dX11_rides_52 : decode cX11_rides 52 = .ok (.if_icmp .ge 49, 3) := by decide +kernel
theorem dX11_rides_55 : decode cX11_rides 55 = .ok (.aload_n 0, 1) := by decide +kernel
theorem dX11_rides_56 : decode cX11_rides 56 = .ok (.getfield 16, 3) := by decide +kernel
theorem dX11_rides_59 : decode cX11_rides 59 = .ok (.dup, 1) := by decide +kernel
theorem dX11_rides_60 : decode cX11_rides 60 = .ok (.getfield 183, 3) := by decide +kernel
theorem dX11_rides_63 : decode cX11_rides 63 = .ok (.aload_n 0, 1) := by decide +kernel
theorem dX11_rides_64 : decode cX11_rides 64 = .ok (.getfield 16, 3) := by decide +kernel
theorem dX11_rides_67 : decode cX11_rides 67 = .ok (.getfield 128, 3) := by decide +kernel
theorem dX11_rides_70 : decode cX11_rides 70 = .ok (.iconst 1, 1) := by decide +kernel
theorem dX11_rides_71 : decode cX11_rides 71 = .ok (.invokevirtual 132, 3) := by decide +kernel
theorem dX11_rides_74 : decode cX11_rides 74 = .ok (.iadd, 1) := by decide +kernel
theorem dX11_rides_75 : decode cX11_rides 75 = .ok (.putfield 183, 3) := by decide +kernel
theorem dX11_rides_78 : decode cX11_rides 78 = .ok (.aload_n 0, 1) := by decide +kernel
theorem dX11_rides_79 : decode cX11_rides 79 = .ok (.getfield 16, 3) := by decide +kernel
theorem dX11_rides_82 : decode cX11_rides 82 = .ok (.iload_n 1, 1) := by decide +kernel
theorem dX11_rides_83 : decode cX11_rides 83 = .ok (.iload_n 2, 1) := by decide +kernel
theorem dX11_rides_84 : decode cX11_rides 84 = .ok (.invokevirtual 153, 3) := by decide +kernel
theorem dX11_rides_87 : decode cX11_rides 87 = .ok (.invokestatic 201, 3) := by decide +kernel
theorem dX11_rides_90 : decode cX11_rides 90 = .ok (.ifCond .ne 5, 3) := by decide +kernel
theorem dX11_rides_93 : decode cX11_rides 93 = .ok (.iload_n 3, 1) := by decide +kernel
theorem dX11_rides_94 : decode cX11_rides 94 = .ok (.ireturn, 1) := by decide +kernel
theorem dX11_rides_95 : decode cX11_rides 95 = .ok (.iinc 3 1, 3) := by decide +kernel
theorem dX11_rides_98 : decode cX11_rides 98 = .ok (.goto (-49), 3) := by decide +kernel
theorem dX11_rides_101 : decode cX11_rides 101 = .ok (.iload_n 3, 1) := by decide +kernel
theorem dX11_rides_102 : decode cX11_rides 102 = .ok (.ireturn, 1) := by decide +kernel
theorem dX11_ifUp_0 : decode cX11_ifUp 0 = .ok (.aload_n 0, 1) := by decide +kernel
theorem dX11_ifUp_1 : decode cX11_ifUp 1 = .ok (.getfield 10, 3) := by decide +kernel
theorem dX11_ifUp_4 : decode cX11_ifUp 4 = .ok (.getfield 109, 3) := by decide +kernel
theorem dX11_ifUp_7 : decode cX11_ifUp 7 = .ok (.iload_n 1, 1) := by decide +kernel
theorem dX11_ifUp_8 : decode cX11_ifUp 8 = .ok (.invokevirtual 113, 3) := by decide +kernel
theorem dX11_ifUp_11 : decode cX11_ifUp 11 = .ok (.invokestatic 92, 3) := by decide +kernel
theorem dX11_ifUp_14 : decode cX11_ifUp 14 = .ok (.iload_n 2, 1) := by decide +kernel
theorem dX11_ifUp_15 : decode cX11_ifUp 15 = .ok (.iconst 0, 1) := by decide +kernel
theorem dX11_ifUp_16 : decode cX11_ifUp 16 = .ok (.iconst 3, 1) := by decide +kernel
theorem dX11_ifUp_17 : decode cX11_ifUp 17 = .ok (.invokestatic 40, 3) := by decide +kernel
theorem dX11_ifUp_20 : decode cX11_ifUp 20 = .ok (.aload_n 0, 1) := by decide +kernel
theorem dX11_ifUp_21 : decode cX11_ifUp 21 = .ok (.iload_n 1, 1) := by decide +kernel
theorem dX11_ifUp_22 : decode cX11_ifUp 22 = .ok (.iload_n 2, 1) := by decide +kernel
theorem dX11_ifUp_23 : decode cX11_ifUp 23 = .ok (.invokevirtual 204, 3) := by decide +kernel
theorem dX11_ifUp_26 : decode cX11_ifUp 26 = .ok (.ireturn, 1) := by decide +kernel
theorem dX11_owes_0 : decode cX11_owes 0 = .ok (.aload_n 0, 1) := by decide +kernel
theorem dX11_owes_1 : decode cX11_owes 1 = .ok (.getfield 10, 3) := by decide +kernel
theorem dX11_owes_4 : decode cX11_owes 4 = .ok (.getfield 99, 3) := by decide +kernel
theorem dX11_owes_7 : decode cX11_owes 7 = .ok (.iload_n 1, 1) := by decide +kernel
theorem dX11_owes_8 : decode cX11_owes 8 = .ok (.invokevirtual 103, 3) := by decide +kernel
theorem dX11_owes_11 : decode cX11_owes 11 = .ok (.invokestatic 92, 3) := by decide +kernel
theorem dX11_owes_14 : decode cX11_owes 14 = .ok (.aload_n 0, 1) := by decide +kernel
theorem dX11_owes_15 : decode cX11_owes 15 = .ok (.getfield 16, 3) := by decide +kernel
theorem dX11_owes_18 : decode cX11_owes 18 = .ok (.aload_n 0, 1) := by decide +kernel
theorem dX11_owes_19 : decode cX11_owes 19 = .ok (.getfield 10, 3) := by decide +kernel
theorem dX11_owes_22 : decode cX11_owes 22 = .ok (.invokevirtual 197, 3) := by decide +kernel
theorem dX11_owes_25 : decode cX11_owes 25 = .ok (.iconst 0, 1) := by decide +kernel
theorem dX11_owes_26 : decode cX11_owes 26 = .ok (.istore_n 2, 1) := by decide +kernel
theorem dX11_owes_27 : decode cX11_owes 27 = .ok (.iload_n 2, 1) := by decide +kernel
theorem dX11_owes_28 : decode cX11_owes 28 = .ok (.iconst 4, 1) := by decide +kernel
theorem dX11_owes_29 : decode cX11_owes 29 = .ok (.if_icmp .ge 18, 3) := by decide +kernel
theorem dX11_owes_32 : decode cX11_owes 32 = .ok (.aload_n 0, 1) := by decide +kernel
theorem dX11_owes_33 : decode cX11_owes 33 = .ok (.getfield 16, 3) := by decide +kernel
theorem dX11_owes_36 : decode cX11_owes 36 = .ok (.iload_n 2, 1) := by decide +kernel
theorem dX11_owes_37 : decode cX11_owes 37 = .ok (.invokevirtual 216, 3) := by decide +kernel
theorem dX11_owes_40 : decode cX11_owes 40 = .ok (.pop, 1) := by decide +kernel
theorem dX11_owes_41 : decode cX11_owes 41 = .ok (.iinc 2 1, 3) := by decide +kernel
theorem dX11_owes_44 : decode cX11_owes 44 = .ok (.goto (-17), 3) := by decide +kernel
theorem dX11_owes_47 : decode cX11_owes 47 = .ok (.iconst 0, 1) := by decide +kernel
theorem dX11_owes_48 : decode cX11_owes 48 = .ok (.aload_n 0, 1) := by decide +kernel
theorem dX11_owes_49 : decode cX11_owes 49 = .ok (.getfield 16, 3) := by decide +kernel
theorem dX11_owes_52 : decode cX11_owes 52 = .ok (.getfield 99, 3) := by decide +kernel
theorem dX11_owes_55 : decode cX11_owes 55 = .ok (.getfield 210, 3) := by decide +kernel
theorem dX11_owes_58 : decode cX11_owes 58 = .ok (.iload_n 1, 1) := by decide +kernel
theorem dX11_owes_59 : decode cX11_owes 59 = .ok (.invokevirtual 132, 3) := by decide +kernel
theorem dX11_owes_62 : decode cX11_owes 62 = .ok (.ineg, 1) := by decide +kernel
theorem dX11_owes_63 : decode cX11_owes 63 = .ok (.invokestatic 219, 3) := by decide +kernel
theorem dX11_owes_66 : decode cX11_owes 66 = .ok (.ireturn, 1) := by decide +kernel
theorem dX11_runScript_0 : decode cX11_runScript 0 = .ok (.iload_n 1, 1) := by decide +kernel
theorem dX11_runScript_1 : decode cX11_runScript 1 = .ok (.iconst 1, 1) := by decide +kernel
theorem dX11_runScript_2 : decode cX11_runScript 2 = .ok (.iconst 3, 1) := by decide +kernel
theorem dX11_runScript_3 : decode cX11_runScript 3 = .ok (.invokestatic 40, 3) := by decide +kernel
theorem dX11_runScript_6 : decode cX11_runScript 6 = .ok (.iload_n 1, 1) := by decide +kernel
theorem dX11_runScript_7 : decode cX11_runScript 7 = .ok (.lload_n 2, 1) := by decide +kernel
theorem dX11_runScript_8 : decode cX11_runScript 8 = .ok (.invokestatic 224, 3) := by decide +kernel
theorem dX11_runScript_11 : decode cX11_runScript 11 = .ok (.invokestatic 230, 3) := by decide +kernel
theorem dX11_runScript_14 : decode cX11_runScript 14 = .ok (.aload_n 0, 1) := by decide +kernel
theorem dX11_runScript_15 : decode cX11_runScript 15 = .ok (.getfield 16, 3) := by decide +kernel
theorem dX11_runScript_18 : decode cX11_runScript 18 = .ok (.aload_n 0, 1) := by decide +kernel
theorem dX11_runScript_19 : decode cX11_runScript 19 = .ok (.getfield 10, 3) := by decide +kernel
theorem dX11_runScript_22 : decode cX11_runScript 22 = .ok (.invokevirtual 197, 3) := by decide +kernel
theorem dX11_runScript_25 : decode cX11_runScript 25 = .ok (.iconst 0, 1) := by decide +kernel
theorem dX11_runScript_26 : decode cX11_runScript 26 = .ok (.istore 4, 2) := by decide +kernel
theorem dX11_runScript_28 : decode cX11_runScript 28 = .ok (.iload 4, 2) := by decide +kernel
theorem dX11_runScript_30 : decode cX11_runScript 30 = .ok (.iload_n 1, 1) := by decide +kernel
theorem dX11_runScript_31 : decode cX11_runScript 31 = .ok (.if_icmp .ge 29, 3) := by decide +kernel
theorem dX11_runScript_34 : decode cX11_runScript 34 = .ok (.aload_n 0, 1) := by decide +kernel
theorem dX11_runScript_35 : decode cX11_runScript 35 = .ok (.getfield 16, 3) := by decide +kernel
theorem dX11_runScript_38 : decode cX11_runScript 38 = .ok (.iload_n 1, 1) := by decide +kernel
theorem dX11_runScript_39 : decode cX11_runScript 39 = .ok (.lload_n 2, 1) := by decide +kernel
theorem dX11_runScript_40 : decode cX11_runScript 40 = .ok (.iload 4, 2) := by decide +kernel
theorem dX11_runScript_42 : decode cX11_runScript 42 = .ok (.invokestatic 233, 3) := by decide +kernel
theorem dX11_runScript_45 : decode cX11_runScript 45 = .ok (.invokestatic 237, 3) := by decide +kernel
theorem dX11_runScript_48 : decode cX11_runScript 48 = .ok (.ifCond .ne 6, 3) := by decide +kernel
theorem dX11_runScript_51 : decode cX11_runScript 51 = .ok (.iload 4, 2) := by decide +kernel
theorem dX11_runScript_53 : decode cX11_runScript 53 = .ok (.ireturn, 1) := by decide +kernel
theorem dX11_runScript_54 : decode cX11_runScript 54 = .ok (.iinc 4 1, 3) := by decide +kernel
theorem dX11_runScript_57 : decode cX11_runScript 57 = .ok (.goto (-29), 3) := by decide +kernel
theorem dX11_runScript_60 : decode cX11_runScript 60 = .ok (.iconst (-1), 1) := by decide +kernel
theorem dX11_runScript_61 : decode cX11_runScript 61 = .ok (.ireturn, 1) := by decide +kernel
theorem dX11_simulate_0 : decode cX11_simulate 0 = .ok (.iload_n 3, 1) := by decide +kernel
theorem dX11_simulate_1 : decode cX11_simulate 1 = .ok (.iconst 1, 1) := by decide +kernel
theorem dX11_simulate_2 : decode cX11_simulate 2 = .ok (.bipush 80, 2) := by decide +kernel
theorem dX11_simulate_4 : decode cX11_simulate 4 = .ok (.invokestatic 40, 3) := by decide +kernel
theorem dX11_simulate_7 : decode cX11_simulate 7 = .ok (.aload_n 0, 1) := by decide +kernel
theorem dX11_simulate_8 : decode cX11_simulate 8 = .ok (.getfield 16, 3) := by decide +kernel
theorem dX11_simulate_11 : decode cX11_simulate 11 = .ok (.aload_n 0, 1) := by decide +kernel
theorem dX11_simulate_12 : decode cX11_simulate 12 = .ok (.getfield 10, 3) := by decide +kernel
theorem dX11_simulate_15 : decode cX11_simulate 15 = .ok (.invokevirtual 197, 3) := by decide +kernel
theorem dX11_simulate_18 : decode cX11_simulate 18 = .ok (.lload_n 1, 1) := by decide +kernel
theorem dX11_simulate_19 : decode cX11_simulate 19 = .ok (.lstore 4, 2) := by decide +kernel
theorem dX11_simulate_21 : decode cX11_simulate 21 = .ok (.iconst 0, 1) := by decide +kernel
theorem dX11_simulate_22 : decode cX11_simulate 22 = .ok (.istore 6, 2) := by decide +kernel
theorem dX11_simulate_24 : decode cX11_simulate 24 = .ok (.iload 6, 2) := by decide +kernel
theorem dX11_simulate_26 : decode cX11_simulate 26 = .ok (.iload_n 3, 1) := by decide +kernel
theorem dX11_simulate_27 : decode cX11_simulate 27 = .ok (.if_icmp .ge 34, 3) := by decide +kernel
theorem dX11_simulate_30 : decode cX11_simulate 30 = .ok (.lload 4, 2) := by decide +kernel
theorem dX11_simulate_32 : decode cX11_simulate 32 = .ok (.ldc2_w 241, 3) := by decide +kernel
theorem dX11_simulate_35 : decode cX11_simulate 35 = .ok (.lmul, 1) := by decide +kernel
theorem dX11_simulate_36 : decode cX11_simulate 36 = .ok (.ldc2_w 243, 3) := by decide +kernel
theorem dX11_simulate_39 : decode cX11_simulate 39 = .ok (.ladd, 1) := by decide +kernel
theorem dX11_simulate_40 : decode cX11_simulate 40 = .ok (.lstore 4, 2) := by decide +kernel
theorem dX11_simulate_42 : decode cX11_simulate 42 = .ok (.aload_n 0, 1) := by decide +kernel
theorem dX11_simulate_43 : decode cX11_simulate 43 = .ok (.getfield 16, 3) := by decide +kernel
theorem dX11_simulate_46 : decode cX11_simulate 46 = .ok (.lload 4, 2) := by decide +kernel
theorem dX11_simulate_48 : decode cX11_simulate 48 = .ok (.bipush 33, 2) := by decide +kernel
theorem dX11_simulate_50 : decode cX11_simulate 50 = .ok (.lushr, 1) := by decide +kernel
theorem dX11_simulate_51 : decode cX11_simulate 51 = .ok (.l2i, 1) := by decide +kernel
theorem dX11_simulate_52 : decode cX11_simulate 52 = .ok (.invokestatic 245, 3) := by decide +kernel
theorem dX11_simulate_55 : decode cX11_simulate 55 = .ok (.iinc 6 1, 3) := by decide +kernel
theorem dX11_simulate_58 : decode cX11_simulate 58 = .ok (.goto (-34), 3) := by decide +kernel
theorem dX11_simulate_61 : decode cX11_simulate 61 = .ok (.sipush 1000, 3) := by decide +kernel
theorem dX11_simulate_64 : decode cX11_simulate 64 = .ok (.aload_n 0, 1) := by decide +kernel
theorem dX11_simulate_65 : decode cX11_simulate 65 = .ok (.getfield 16, 3) := by decide +kernel
theorem dX11_simulate_68 : decode cX11_simulate 68 = .ok (.getfield 251, 3) := by decide +kernel
theorem dX11_simulate_71 : decode cX11_simulate 71 = .ok (.aload_n 0, 1) := by decide +kernel
theorem dX11_simulate_72 : decode cX11_simulate 72 = .ok (.getfield 10, 3) := by decide +kernel
theorem dX11_simulate_75 : decode cX11_simulate 75 = .ok (.getfield 251, 3) := by decide +kernel
theorem dX11_simulate_78 : decode cX11_simulate 78 = .ok (.isub, 1) := by decide +kernel
theorem dX11_simulate_79 : decode cX11_simulate 79 = .ok (.imul, 1) := by decide +kernel
theorem dX11_simulate_80 : decode cX11_simulate 80 = .ok (.aload_n 0, 1) := by decide +kernel
theorem dX11_simulate_81 : decode cX11_simulate 81 = .ok (.getfield 16, 3) := by decide +kernel
theorem dX11_simulate_84 : decode cX11_simulate 84 = .ok (.getfield 254, 3) := by decide +kernel
theorem dX11_simulate_87 : decode cX11_simulate 87 = .ok (.aload_n 0, 1) := by decide +kernel
theorem dX11_simulate_88 : decode cX11_simulate 88 = .ok (.getfield 10, 3) := by decide +kernel
theorem dX11_simulate_91 : decode cX11_simulate 91 = .ok (.getfield 254, 3) := by decide +kernel
theorem dX11_simulate_94 : decode cX11_simulate 94 = .ok (.isub, 1) := by decide +kernel
theorem dX11_simulate_95 : decode cX11_simulate 95 = .ok (.iadd, 1) := by decide +kernel
theorem dX11_simulate_96 : decode cX11_simulate 96 = .ok (.ireturn, 1) := by decide +kernel
theorem dX11_save_0 : decode cX11_save 0 = .ok (.aload_n 0, 1) := by decide +kernel
theorem dX11_save_1 : decode cX11_save 1 = .ok (.getfield 36, 3) := by decide +kernel
theorem dX11_save_4 : decode cX11_save 4 = .ok (.iload_n 1, 1) := by decide +kernel
theorem dX11_save_5 : decode cX11_save 5 = .ok (.invokevirtual 257, 3) := by decide +kernel
theorem dX11_save_8 : decode cX11_save 8 = .ok (.invokestatic 92, 3) := by decide +kernel
theorem dX11_save_11 : decode cX11_save 11 = .ok (.aload_n 0, 1) := by decide +kernel
theorem dX11_save_12 : decode cX11_save 12 = .ok (.getfield 36, 3) := by decide +kernel
theorem dX11_save_15 : decode cX11_save 15 = .ok (.iload_n 1, 1) := by decide +kernel
theorem dX11_save_16 : decode cX11_save 16 = .ok (.aload_n 0, 1) := by decide +kernel
theorem dX11_save_17 : decode cX11_save 17 = .ok (.getfield 10, 3) := by decide +kernel
theorem dX11_save_20 : decode cX11_save 20 = .ok (.invokevirtual 258, 3) := by decide +kernel
theorem dX11_save_23 : decode cX11_save 23 = .ok (.aload_n 0, 1) := by decide +kernel
theorem dX11_save_24 : decode cX11_save 24 = .ok (.getfield 10, 3) := by decide +kernel
theorem dX11_save_27 : decode cX11_save 27 = .ok (.getfield 183, 3) := by decide +kernel
theorem dX11_save_30 : decode cX11_save 30 = .ok (.ireturn, 1) := by decide +kernel
theorem dX11_restore_0 : decode cX11_restore 0 = .ok (.aload_n 0, 1) := by decide +kernel
theorem dX11_restore_1 : decode cX11_restore 1 = .ok (.getfield 36, 3) := by decide +kernel
theorem dX11_restore_4 : decode cX11_restore 4 = .ok (.iload_n 1, 1) := by decide +kernel
theorem dX11_restore_5 : decode cX11_restore 5 = .ok (.invokevirtual 257, 3) := by decide +kernel
theorem dX11_restore_8 : decode cX11_restore 8 = .ok (.invokestatic 92, 3) := by decide +kernel
theorem dX11_restore_11 : decode cX11_restore 11 = .ok (.aload_n 0, 1) := by decide +kernel
theorem dX11_restore_12 : decode cX11_restore 12 = .ok (.getfield 36, 3) := by decide +kernel
theorem dX11_restore_15 : decode cX11_restore 15 = .ok (.iload_n 1, 1) := by decide +kernel
theorem dX11_restore_16 : decode cX11_restore 16 = .ok (.invokevirtual 262, 3) := by decide +kernel
theorem dX11_restore_19 : decode cX11_restore 19 = .ok (.invokestatic 48, 3) := by decide +kernel
theorem dX11_restore_22 : decode cX11_restore 22 = .ok (.aload_n 0, 1) := by decide +kernel
theorem dX11_restore_23 : decode cX11_restore 23 = .ok (.getfield 36, 3) := by decide +kernel
theorem dX11_restore_26 : decode cX11_restore 26 = .ok (.iload_n 1, 1) := by decide +kernel
theorem dX11_restore_27 : decode cX11_restore 27 = .ok (.aload_n 0, 1) := by decide +kernel
theorem dX11_restore_28 : decode cX11_restore 28 = .ok (.getfield 10, 3) := by decide +kernel
theorem dX11_restore_31 : decode cX11_restore 31 = .ok (.invokevirtual 265, 3) := by decide +kernel
theorem dX11_restore_34 : decode cX11_restore 34 = .ok (.aload_n 0, 1) := by decide +kernel
theorem dX11_restore_35 : decode cX11_restore 35 = .ok (.getfield 29, 3) := by decide +kernel
theorem dX11_restore_38 : decode cX11_restore 38 = .ok (.invokevirtual 65, 3) := by decide +kernel
theorem dX11_restore_41 : decode cX11_restore 41 = .ok (.aload_n 0, 1) := by decide +kernel
theorem dX11_restore_42 : decode cX11_restore 42 = .ok (.getfield 10, 3) := by decide +kernel
theorem dX11_restore_45 : decode cX11_restore 45 = .ok (.getfield 183, 3) := by decide +kernel
theorem dX11_restore_48 : decode cX11_restore 48 = .ok (.ireturn, 1) := by decide +kernel
theorem yf_X4_clear : (Cond.instanceMethod yX4_clear) ∈ gtbl ∧ (Cond.selects RX4 yX4_clear yX4_clear) ∈ gtbl ∧ (Cond.initialized RX4) ∈ gtbl ∧ (Cond.code yX4_clear cX4_clear 1 none) ∈ gtbl ∧ (yX4_clear.cls = RX4 ∧ yX4_clear.cls ≠ "java/lang/invoke/MethodHandle" ∧ yX4_clear.cls ≠ "java/lang/invoke/VarHandle" ∧ (parseMethodDescriptor yX4_clear.desc).map (fun d => d.parameters.length) = some 0) := ⟨gt_in 445 (by decide +kernel) (by decide +kernel), gt_in 446 (by decide +kernel) (by decide +kernel), gt_in 18 (by decide +kernel) (by decide +kernel), gt_in 447 (by decide +kernel) (by decide +kernel), by decide +kernel⟩
theorem cw_X11_65 : uCW RX11 RX4 65 yX4_clear cX4_clear 1 none 0 := ⟨gt_in 444 (by decide +kernel) (by decide +kernel), yf_X4_clear⟩
theorem cw_X11_201 : uCS RX11 201 yX10_letsThrough cX10_letsThrough 1 (some .boolean) 1 := ⟨gt_in 917 (by decide +kernel) (by decide +kernel), yf_X10_letsThrough⟩
theorem yf_X7_fits : (Cond.static yX7_fits) ∈ gtbl ∧ (Cond.initialized yX7_fits.cls) ∈ gtbl ∧ (Cond.code yX7_fits cX7_fits 6 (some .boolean)) ∈ gtbl ∧ (yX7_fits.cls ≠ "java/lang/invoke/MethodHandle" ∧ yX7_fits.cls ≠ "java/lang/invoke/VarHandle" ∧ (parseMethodDescriptor yX7_fits.desc).map (fun d => d.parameters.length) = some 2) := ⟨gt_in 989 (by decide +kernel) (by decide +kernel), gt_in 28 (by decide +kernel) (by decide +kernel), gt_in 990 (by decide +kernel) (by decide +kernel), by decide +kernel⟩
theorem cw_X11_224 : uCS RX11 224 yX7_fits cX7_fits 6 (some .boolean) 2 := ⟨gt_in 988 (by decide +kernel) (by decide +kernel), yf_X7_fits⟩
theorem yf_X7_group : (Cond.static yX7_group) ∈ gtbl ∧ (Cond.initialized yX7_group.cls) ∈ gtbl ∧ (Cond.code yX7_group cX7_group 7 (some .int)) ∈ gtbl ∧ (yX7_group.cls ≠ "java/lang/invoke/MethodHandle" ∧ yX7_group.cls ≠ "java/lang/invoke/VarHandle" ∧ (parseMethodDescriptor yX7_group.desc).map (fun d => d.parameters.length) = some 3) := ⟨gt_in 993 (by decide +kernel) (by decide +kernel), gt_in 28 (by decide +kernel) (by decide +kernel), gt_in 994 (by decide +kernel) (by decide +kernel), by decide +kernel⟩
theorem cw_X11_233 : uCS RX11 233 yX7_group cX7_group 7 (some .int) 3 := ⟨gt_in 992 (by decide +kernel) (by decide +kernel), yf_X7_group⟩
theorem yf_X7_succeeds : (Cond.static yX7_succeeds) ∈ gtbl ∧ (Cond.initialized yX7_succeeds.cls) ∈ gtbl ∧ (Cond.code yX7_succeeds cX7_succeeds 6 (some .boolean)) ∈ gtbl ∧ (yX7_succeeds.cls ≠ "java/lang/invoke/MethodHandle" ∧ yX7_succeeds.cls ≠ "java/lang/invoke/VarHandle" ∧ (parseMethodDescriptor yX7_succeeds.desc).map (fun d => d.parameters.length) = some 2) := ⟨gt_in 996 (by decide +kernel) (by decide +kernel), gt_in 28 (by decide +kernel) (by decide +kernel), gt_in 997 (by decide +kernel) (by decide +kernel), by decide +kernel⟩
theorem cw_X11_237 : uCS RX11 237 yX7_succeeds cX7_succeeds 6 (some .boolean) 2 := ⟨gt_in 995 (by decide +kernel) (by decide +kernel), yf_X7_succeeds⟩
theorem yf_X8_turn : (Cond.static yX8_turn) ∈ gtbl ∧ (Cond.initialized yX8_turn.cls) ∈ gtbl ∧ (Cond.code yX8_turn cX8_turn 3 none) ∈ gtbl ∧ (yX8_turn.cls ≠ "java/lang/invoke/MethodHandle" ∧ yX8_turn.cls ≠ "java/lang/invoke/VarHandle" ∧ (parseMethodDescriptor yX8_turn.desc).map (fun d => d.parameters.length) = some 2) := ⟨gt_in 1022 (by decide +kernel) (by decide +kernel), gt_in 29 (by decide +kernel) (by decide +kernel), gt_in 1023 (by decide +kernel) (by decide +kernel), by decide +kernel⟩
theorem cw_X11_245 : uCS RX11 245 yX8_turn cX8_turn 3 none 2 := ⟨gt_in 1021 (by decide +kernel) (by decide +kernel), yf_X8_turn⟩
theorem yf_X9_has : (Cond.instanceMethod yX9_has) ∈ gtbl ∧ (Cond.selects RX9 yX9_has yX9_has) ∈ gtbl ∧ (Cond.initialized RX9) ∈ gtbl ∧ (Cond.code yX9_has cX9_has 2 (some .boolean)) ∈ gtbl ∧ (yX9_has.cls = RX9 ∧ yX9_has.cls ≠ "java/lang/invoke/MethodHandle" ∧ yX9_has.cls ≠ "java/lang/invoke/VarHandle" ∧ (parseMethodDescriptor yX9_has.desc).map (fun d => d.parameters.length) = some 1) := ⟨gt_in 947 (by decide +kernel) (by decide +kernel), gt_in 948 (by decide +kernel) (by decide +kernel), gt_in 19 (by decide +kernel) (by decide +kernel), gt_in 949 (by decide +kernel) (by decide +kernel), by decide +kernel⟩
theorem cw_X11_257 : uCW RX11 RX9 257 yX9_has cX9_has 2 (some .boolean) 1 := ⟨gt_in 946 (by decide +kernel) (by decide +kernel), yf_X9_has⟩
theorem yf_X9_store : (Cond.instanceMethod yX9_store) ∈ gtbl ∧ (Cond.selects RX9 yX9_store yX9_store) ∈ gtbl ∧ (Cond.initialized RX9) ∈ gtbl ∧ (Cond.code yX9_store cX9_store 3 none) ∈ gtbl ∧ (yX9_store.cls = RX9 ∧ yX9_store.cls ≠ "java/lang/invoke/MethodHandle" ∧ yX9_store.cls ≠ "java/lang/invoke/VarHandle" ∧ (parseMethodDescriptor yX9_store.desc).map (fun d => d.parameters.length) = some 2) := ⟨gt_in 951 (by decide +kernel) (by decide +kernel), gt_in 952 (by decide +kernel) (by decide +kernel), gt_in 19 (by decide +kernel) (by decide +kernel), gt_in 953 (by decide +kernel) (by decide +kernel), by decide +kernel⟩
theorem cw_X11_258 : uCW RX11 RX9 258 yX9_store cX9_store 3 none 2 := ⟨gt_in 950 (by decide +kernel) (by decide +kernel), yf_X9_store⟩
theorem yf_X9_isFilled : (Cond.instanceMethod yX9_isFilled) ∈ gtbl ∧ (Cond.selects RX9 yX9_isFilled yX9_isFilled) ∈ gtbl ∧ (Cond.initialized RX9) ∈ gtbl ∧ (Cond.code yX9_isFilled cX9_isFilled 2 (some .boolean)) ∈ gtbl ∧ (yX9_isFilled.cls = RX9 ∧ yX9_isFilled.cls ≠ "java/lang/invoke/MethodHandle" ∧ yX9_isFilled.cls ≠ "java/lang/invoke/VarHandle" ∧ (parseMethodDescriptor yX9_isFilled.desc).map (fun d => d.parameters.length) = some 1) := ⟨gt_in 963 (by decide +kernel) (by decide +kernel), gt_in 964 (by decide +kernel) (by decide +kernel), gt_in 19 (by decide +kernel) (by decide +kernel), gt_in 965 (by decide +kernel) (by decide +kernel), by decide +kernel⟩
theorem cw_X11_262 : uCW RX11 RX9 262 yX9_isFilled cX9_isFilled 2 (some .boolean) 1 := ⟨gt_in 962 (by decide +kernel) (by decide +kernel), yf_X9_isFilled⟩
theorem yf_X9_fetch : (Cond.instanceMethod yX9_fetch) ∈ gtbl ∧ (Cond.selects RX9 yX9_fetch yX9_fetch) ∈ gtbl ∧ (Cond.initialized RX9) ∈ gtbl ∧ (Cond.code yX9_fetch cX9_fetch 3 none) ∈ gtbl ∧ (yX9_fetch.cls = RX9 ∧ yX9_fetch.cls ≠ "java/lang/invoke/MethodHandle" ∧ yX9_fetch.cls ≠ "java/lang/invoke/VarHandle" ∧ (parseMethodDescriptor yX9_fetch.desc).map (fun d => d.parameters.length) = some 2) := ⟨gt_in 967 (by decide +kernel) (by decide +kernel), gt_in 968 (by decide +kernel) (by decide +kernel), gt_in 19 (by decide +kernel) (by decide +kernel), gt_in 969 (by decide +kernel) (by decide +kernel), by decide +kernel⟩
theorem cw_X11_265 : uCW RX11 RX9 265 yX9_fetch cX9_fetch 3 none 2 := ⟨gt_in 966 (by decide +kernel) (by decide +kernel), yf_X9_fetch⟩
def fX11_would (V : uV) (a1 : Int32) (a2 : Int32) : Option (Int32 × Int32 × uV) :=
  lt_ (fX0_has (V 0) a1) fun x2 =>
  if x2 = 0 then
    th_ (decide (¬ (0 : Int32) = 0)) (some (3, 0, V)) <|
    lt_ (va_up V 1 (V 0)) fun V6 =>
    bd2 (fX10_showCard (V6 1) a1 a2) fun x9 S10 =>
    lt_ (va_up V6 1 S10) fun V12 =>
    some (0, x9, V12)
  else
    lt_ (fX3_has (V 0) a2) fun x15 =>
    if x15 = 0 then
      th_ (decide (¬ (0 : Int32) = 0)) (some (3, 0, V)) <|
      lt_ (va_up V 1 (V 0)) fun V19 =>
      bd2 (fX10_showCard (V19 1) a1 a2) fun x22 S23 =>
      lt_ (va_up V19 1 S23) fun V25 =>
      some (0, x22, V25)
    else
      th_ (decide (¬ (1 : Int32) = 0)) (some (3, 0, V)) <|
      lt_ (va_up V 1 (V 0)) fun V28 =>
      bd2 (fX10_showCard (V28 1) a1 a2) fun x31 S32 =>
      lt_ (va_up V28 1 S32) fun V34 =>
      some (0, x31, V34)
set_option maxHeartbeats 4000000 in
set_option maxRecDepth 20000 in
theorem kX11_would {l : Launch} {G : UG} (hG : uAll G) {V V' : uV} {a1 : Int32} {a2 : Int32} {r : Int32} {E : Int32} (hlt : l.stackTraces = false) (h : fX11_would V a1 a2 = some (E, r, V')) : uXi l G yX11_would cX11_would 3 .int (uRx 7 119) [.ref (ga G 18 0), .int a1, .int a2] V E r V' := by
  refine uXi_of rfl (Nat.le_of_ble_eq_true rfl) (fun p e s m args below meth c ls X hret htb hl M => ?_)
  have hl : lv_has ls 3 [(0, .ref (ga G 18 0)), (1, .int a1), (2, .int a2)] := hl
  have hx := X.hx
  have hb := X.hb
  unfold fX11_would at h
  refine lv_aload_n hx hb dX11_would_0 rfl (lv_at hl 0 rfl) ?_
  refine gf_X11_10 X M hG.2.1 dX11_would_1 ?_
  refine gf_X11_82 X M (hG.1 0 (by decide)) dX11_would_4 ?_
  refine lv_iload_n hx hb dX11_would_7 rfl (lv_at hl 1 rfl) ?_
  obtain ⟨x2, e1, h⟩ := lt_e h
  refine u_cVi X M hl.1 (kX0_has (hG.1 0 (by decide)) rfl e1.symm) cw_X11_86 ⟨by decide, by decide⟩ (rc_X0 X M (hG.1 0 (by decide))) rfl rfl (Nat.le_of_ble_eq_true rfl) ⟨Nat.zero_le _, Nat.zero_le _⟩ dX11_would_8 (fun H locs M n3 => ?_)
  refine lv_if_eq (tgt := 32) hx hb dX11_would_11 (by decide) (fun c4 => ?_) (fun c4 => ?_)
  · have h := it_t h c4
    refine lv_iconst (v := 0) hx hb dX11_would_32 (by decide) ?_
    by_cases c5 : ¬ (0 : Int32) = 0
    rotate_left
    · have h := th_f h (decide_eq_false c5)
      exact x_outS X M htb hl.1 (by decide) (kX11_needThere_x hlt c5) cw_X11_92 ⟨by decide, by decide⟩ rfl rfl (Nat.le_of_ble_eq_true rfl) dX11_would_33 (rt3 h).1 (rt3 h).2.2
    have h := th_t h (decide_eq_true c5)
    refine u_cSv X M hl.1 (kX11_needThere_ok c5) cw_X11_92 ⟨by decide, by decide⟩ rfl rfl (Nat.le_of_ble_eq_true rfl) ⟨Nat.zero_le _, Nat.zero_le _⟩ dX11_would_33 (fun H locs M => ?_)
    refine lv_aload_n hx hb dX11_would_36 rfl (lv_at hl 0 rfl) ?_
    refine gf_X11_16 X M hG.2.1 dX11_would_37 ?_
    refine lv_aload_n hx hb dX11_would_40 rfl (lv_at hl 0 rfl) ?_
    refine gf_X11_10 X M hG.2.1 dX11_would_41 ?_
    obtain ⟨V6, e7, h⟩ := lt_e h
    refine u_cVv X M hl.1 (kX10_copyFromV (hG.1 1 (by decide)) (hG.1 0 (by decide)) (by decide) hG.2.2 e7) cw_X11_197 ⟨by decide, by decide⟩ (rc_X10 X M (hG.1 1 (by decide))) rfl rfl (Nat.le_of_ble_eq_true rfl) ⟨Nat.zero_le _, Nat.zero_le _⟩ dX11_would_44 (fun H locs M => ?_)
    refine lv_aload_n hx hb dX11_would_47 rfl (lv_at hl 0 rfl) ?_
    refine gf_X11_16 X M hG.2.1 dX11_would_48 ?_
    refine lv_iload_n hx hb dX11_would_51 rfl (lv_at hl 1 rfl) ?_
    refine lv_iload_n hx hb dX11_would_52 rfl (lv_at hl 2 rfl) ?_
    obtain ⟨x9, S10, e8, h⟩ := bd2_e h
    have M := um_in 1 M
    refine u_cVi X M hl.1 (kX10_showCard (hG.1 1 (by decide)) e8) cw_X11_153 ⟨by decide, by decide⟩ (rc_X10 X M (hG.1 1 (by decide))) rfl rfl (Nat.le_of_ble_eq_true rfl) ⟨Nat.zero_le _, Nat.zero_le _⟩ dX11_would_53 (fun H locs M n11 => ?_)
    obtain ⟨V12, e13, h⟩ := lt_e h
    rw [← e13] at M
    exact x_iret X hret M (rt3 h).1 (rt3 h).2.1 (rt3 h).2.2 rfl dX11_would_56
  · have h := it_f h c4
    refine lv_aload_n hx hb dX11_would_14 rfl (lv_at hl 0 rfl) ?_
    refine gf_X11_10 X M hG.2.1 dX11_would_15 ?_
    refine gf_X11_109 X M (hG.1 0 (by decide)) dX11_would_18 ?_
    refine lv_iload_n hx hb dX11_would_21 rfl (lv_at hl 2 rfl) ?_
    obtain ⟨x15, e14, h⟩ := lt_e h
    refine u_cVi X M hl.1 (kX3_has (hG.1 0 (by decide)) rfl e14.symm) cw_X11_113 ⟨by decide, by decide⟩ (rc_X3 X M (hG.1 0 (by decide))) rfl rfl (Nat.le_of_ble_eq_true rfl) ⟨Nat.zero_le _, Nat.zero_le _⟩ dX11_would_22 (fun H locs M n16 => ?_)
    refine lv_if_eq (tgt := 32) hx hb dX11_would_25 (by decide) (fun c17 => ?_) (fun c17 => ?_)
    · have h := it_t h c17
      refine lv_iconst (v := 0) hx hb dX11_would_32 (by decide) ?_
      by_cases c18 : ¬ (0 : Int32) = 0
      rotate_left
      · have h := th_f h (decide_eq_false c18)
        exact x_outS X M htb hl.1 (by decide) (kX11_needThere_x hlt c18) cw_X11_92 ⟨by decide, by decide⟩ rfl rfl (Nat.le_of_ble_eq_true rfl) dX11_would_33 (rt3 h).1 (rt3 h).2.2
      have h := th_t h (decide_eq_true c18)
      refine u_cSv X M hl.1 (kX11_needThere_ok c18) cw_X11_92 ⟨by decide, by decide⟩ rfl rfl (Nat.le_of_ble_eq_true rfl) ⟨Nat.zero_le _, Nat.zero_le _⟩ dX11_would_33 (fun H locs M => ?_)
      refine lv_aload_n hx hb dX11_would_36 rfl (lv_at hl 0 rfl) ?_
      refine gf_X11_16 X M hG.2.1 dX11_would_37 ?_
      refine lv_aload_n hx hb dX11_would_40 rfl (lv_at hl 0 rfl) ?_
      refine gf_X11_10 X M hG.2.1 dX11_would_41 ?_
      obtain ⟨V19, e20, h⟩ := lt_e h
      refine u_cVv X M hl.1 (kX10_copyFromV (hG.1 1 (by decide)) (hG.1 0 (by decide)) (by decide) hG.2.2 e20) cw_X11_197 ⟨by decide, by decide⟩ (rc_X10 X M (hG.1 1 (by decide))) rfl rfl (Nat.le_of_ble_eq_true rfl) ⟨Nat.zero_le _, Nat.zero_le _⟩ dX11_would_44 (fun H locs M => ?_)
      refine lv_aload_n hx hb dX11_would_47 rfl (lv_at hl 0 rfl) ?_
      refine gf_X11_16 X M hG.2.1 dX11_would_48 ?_
      refine lv_iload_n hx hb dX11_would_51 rfl (lv_at hl 1 rfl) ?_
      refine lv_iload_n hx hb dX11_would_52 rfl (lv_at hl 2 rfl) ?_
      obtain ⟨x22, S23, e21, h⟩ := bd2_e h
      have M := um_in 1 M
      refine u_cVi X M hl.1 (kX10_showCard (hG.1 1 (by decide)) e21) cw_X11_153 ⟨by decide, by decide⟩ (rc_X10 X M (hG.1 1 (by decide))) rfl rfl (Nat.le_of_ble_eq_true rfl) ⟨Nat.zero_le _, Nat.zero_le _⟩ dX11_would_53 (fun H locs M n24 => ?_)
      obtain ⟨V25, e26, h⟩ := lt_e h
      rw [← e26] at M
      exact x_iret X hret M (rt3 h).1 (rt3 h).2.1 (rt3 h).2.2 rfl dX11_would_56
    · have h := it_f h c17
      refine lv_iconst (v := 1) hx hb dX11_would_28 (by decide) ?_
      refine lv_goto (tgt := 33) hx hb dX11_would_29 (by decide) ?_
      by_cases c27 : ¬ (1 : Int32) = 0
      rotate_left
      · have h := th_f h (decide_eq_false c27)
        exact x_outS X M htb hl.1 (by decide) (kX11_needThere_x hlt c27) cw_X11_92 ⟨by decide, by decide⟩ rfl rfl (Nat.le_of_ble_eq_true rfl) dX11_would_33 (rt3 h).1 (rt3 h).2.2
      have h := th_t h (decide_eq_true c27)
      refine u_cSv X M hl.1 (kX11_needThere_ok c27) cw_X11_92 ⟨by decide, by decide⟩ rfl rfl (Nat.le_of_ble_eq_true rfl) ⟨Nat.zero_le _, Nat.zero_le _⟩ dX11_would_33 (fun H locs M => ?_)
      refine lv_aload_n hx hb dX11_would_36 rfl (lv_at hl 0 rfl) ?_
      refine gf_X11_16 X M hG.2.1 dX11_would_37 ?_
      refine lv_aload_n hx hb dX11_would_40 rfl (lv_at hl 0 rfl) ?_
      refine gf_X11_10 X M hG.2.1 dX11_would_41 ?_
      obtain ⟨V28, e29, h⟩ := lt_e h
      refine u_cVv X M hl.1 (kX10_copyFromV (hG.1 1 (by decide)) (hG.1 0 (by decide)) (by decide) hG.2.2 e29) cw_X11_197 ⟨by decide, by decide⟩ (rc_X10 X M (hG.1 1 (by decide))) rfl rfl (Nat.le_of_ble_eq_true rfl) ⟨Nat.zero_le _, Nat.zero_le _⟩ dX11_would_44 (fun H locs M => ?_)
      refine lv_aload_n hx hb dX11_would_47 rfl (lv_at hl 0 rfl) ?_
      refine gf_X11_16 X M hG.2.1 dX11_would_48 ?_
      refine lv_iload_n hx hb dX11_would_51 rfl (lv_at hl 1 rfl) ?_
      refine lv_iload_n hx hb dX11_would_52 rfl (lv_at hl 2 rfl) ?_
      obtain ⟨x31, S32, e30, h⟩ := bd2_e h
      have M := um_in 1 M
      refine u_cVi X M hl.1 (kX10_showCard (hG.1 1 (by decide)) e30) cw_X11_153 ⟨by decide, by decide⟩ (rc_X10 X M (hG.1 1 (by decide))) rfl rfl (Nat.le_of_ble_eq_true rfl) ⟨Nat.zero_le _, Nat.zero_le _⟩ dX11_would_53 (fun H locs M n33 => ?_)
      obtain ⟨V34, e35, h⟩ := lt_e h
      rw [← e35] at M
      exact x_iret X hret M (rt3 h).1 (rt3 h).2.1 (rt3 h).2.2 rfl dX11_would_56
def fX11_rides_L49 (n : Nat) (V : uV) (y1 : Int32) (y2 : Int32) (y3 : Int32) : Option (Int32 × Int32 × uV) :=
  match n with
  | 0 => none
  | n + 1 =>
    if 100 ≤ y3 then
      some (0, y3, V)
    else
      lt_ ((V 1) 0 4) fun x9 =>
      lt_ (fget 4 ((V 1) 39) 1) fun x12 =>
      lt_ (va_up (V 1) 0 (upd ((V 1) 0) 4 (x9 + x12))) fun S14 =>
      lt_ (va_up V 1 S14) fun V16 =>
      bd2 (fX10_showCard (V16 1) y1 y2) fun x19 S20 =>
      lt_ (va_up V16 1 S20) fun V22 =>
      lt_ (fX10_letsThrough  x19) fun x25 =>
      if x25 = 0 then
        some (0, y3, V22)
      else
        lt_ (y3 + 1) fun x28 =>
        fX11_rides_L49 n V22 y1 y2 x28
set_option maxHeartbeats 4000000 in
set_option maxRecDepth 20000 in
theorem lpX11_rides_49 {l : Launch} {G : UG} (hG : uAll G) {V' : uV} {r : Int32} {E : Int32} (hlt : l.stackTraces = false) {p : Program} {e : Env} {s : State} {m : MethodId} {args : Array Value} {below : List Frame} {meth : Method} {c : Code} (X : UC p s m args meth c cX11_rides 4 RX11 G) (hret : meth.sig.returnType = some .int) (htb : ∀ x ∈ c.exceptionTable.toList, False) : ∀ (n : Nat) (V : uV) (y1 : Int32) (y2 : Int32) (y3 : Int32) (H : Heap) (locs : List Loc) (ls : Array Slot), fX11_rides_L49  n V y1 y2 y3 = some (E, r, V') → UM G (V) s H locs → lv_has ls 4 [(0, .ref (ga G 18 0)), (1, .int y1), (2, .int y2), (3, .int y3)] → W p l e (uRx 7 119) s m args below meth c H locs 0 0 (vx_MQ below (xQi G E .int r V') (xX G E V') args s 1 6 (uA G)) (F0 m 49 ls []) := by
  intro n
  have hx := X.hx
  have hb := X.hb
  induction n with
  | zero => intro V y1 y2 y3 H locs ls h M hl; rw [fX11_rides_L49] at h; cases h
  | succ n ih =>
    intro V y1 y2 y3 H locs ls h M hl
    rw [fX11_rides_L49] at h
    refine lv_iload_n hx hb dX11_rides_49 rfl (lv_at hl 3 rfl) ?_
    refine lv_bipush (v := 100) hx hb dX11_rides_50 (by decide) ?_
    refine lv_icmp_ge (tgt := 101) hx hb dX11_rides_52 (by decide) (fun c8 => ?_) (fun c8 => ?_)
    · have h := it_t h c8
      refine lv_iload_n hx hb dX11_rides_101 rfl (lv_at hl 3 rfl) ?_
      exact x_iret X hret M (rt3 h).1 (rt3 h).2.1 (rt3 h).2.2 rfl dX11_rides_102
    · have h := it_f h c8
      refine lv_aload_n hx hb dX11_rides_55 rfl (lv_at hl 0 rfl) ?_
      refine gf_X11_16 X M hG.2.1 dX11_rides_56 ?_
      refine lv_dup hx hb dX11_rides_59 rfl ?_
      obtain ⟨x9, e10, h⟩ := lt_e h
      refine gf_X11_183 X M (hG.1 1 (by decide)) rfl e10 dX11_rides_60 ?_
      refine lv_aload_n hx hb dX11_rides_63 rfl (lv_at hl 0 rfl) ?_
      refine gf_X11_16 X M hG.2.1 dX11_rides_64 ?_
      refine gf_X11_128 X M (hG.1 1 (by decide)) dX11_rides_67 ?_
      refine lv_iconst (v := 1) hx hb dX11_rides_70 (by decide) ?_
      obtain ⟨x12, e11, h⟩ := lt_e h
      refine u_cVi X M hl.1 (kX6_get (uRw38 (hG.1 1 (by decide))) rfl e11.symm) cw_X11_132 ⟨by decide, by decide⟩ (uR_recv X M (uRw38 (hG.1 1 (by decide)))) rfl rfl (Nat.le_of_ble_eq_true rfl) ⟨Nat.zero_le _, Nat.zero_le _⟩ dX11_rides_71 (fun H locs M n13 => ?_)
      refine lv_iadd hx hb dX11_rides_74 ?_
      obtain ⟨S14, e15, h⟩ := lt_e h
      have M := um_in 1 M
      refine pf_X11_183 X M (hG.1 1 (by decide)) e15 dX11_rides_75 (fun H locs M => ?_)
      obtain ⟨V16, e17, h⟩ := lt_e h
      rw [← e17] at M
      refine lv_aload_n hx hb dX11_rides_78 rfl (lv_at hl 0 rfl) ?_
      refine gf_X11_16 X M hG.2.1 dX11_rides_79 ?_
      refine lv_iload_n hx hb dX11_rides_82 rfl (lv_at hl 1 rfl) ?_
      refine lv_iload_n hx hb dX11_rides_83 rfl (lv_at hl 2 rfl) ?_
      obtain ⟨x19, S20, e18, h⟩ := bd2_e h
      have M := um_in 1 M
      refine u_cVi X M hl.1 (kX10_showCard (hG.1 1 (by decide)) e18) cw_X11_153 ⟨by decide, by decide⟩ (rc_X10 X M (hG.1 1 (by decide))) rfl rfl (Nat.le_of_ble_eq_true rfl) ⟨Nat.zero_le _, Nat.zero_le _⟩ dX11_rides_84 (fun H locs M n21 => ?_)
      obtain ⟨V22, e23, h⟩ := lt_e h
      rw [← e23] at M
      obtain ⟨x25, e24, h⟩ := lt_e h
      refine u_cSi X M hl.1 (kX10_letsThrough  e24.symm) cw_X11_201 ⟨by decide, by decide⟩ rfl rfl (Nat.le_of_ble_eq_true rfl) ⟨Nat.zero_le _, Nat.zero_le _⟩ dX11_rides_87 (fun H locs M n26 => ?_)
      refine lv_if_ne (tgt := 95) hx hb dX11_rides_90 (by decide) (fun c27 => ?_) (fun c27 => ?_)
      · have h := it_f h c27
        obtain ⟨x28, e29, h⟩ := lt_e h
        refine lv_iinc (v := x28) (lv' := [(3, .int x28), (0, .ref (ga G 18 0)), (1, .int y1), (2, .int y2)]) hx hb dX11_rides_95 hl (k := 3) rfl (by rw [e29]; rfl) (by decide) rfl (fun ls hl => ?_)
        refine lv_goto (tgt := 49) hx hb dX11_rides_98 (by decide) ?_
        exact ih _ _ _ _ _ _ _ h M (lv_sub hl [1, 2, 3, 0] rfl)
      · have h := it_t h c27
        refine lv_iload_n hx hb dX11_rides_93 rfl (lv_at hl 3 rfl) ?_
        exact x_iret X hret M (rt3 h).1 (rt3 h).2.1 (rt3 h).2.2 rfl dX11_rides_94
def fX11_rides (V : uV) (a1 : Int32) (a2 : Int32) : Option (Int32 × Int32 × uV) :=
  lt_ (fX0_has (V 0) a1) fun x2 =>
  if x2 = 0 then
    th_ (decide (¬ (0 : Int32) = 0)) (some (3, 0, V)) <|
    lt_ (va_up V 1 (V 0)) fun V6 =>
    fX11_rides_L49 3000 V6 a1 a2 0
  else
    lt_ (fX3_has (V 0) a2) fun x31 =>
    if x31 = 0 then
      th_ (decide (¬ (0 : Int32) = 0)) (some (3, 0, V)) <|
      lt_ (va_up V 1 (V 0)) fun V35 =>
      fX11_rides_L49 3000 V35 a1 a2 0
    else
      th_ (decide (¬ (1 : Int32) = 0)) (some (3, 0, V)) <|
      lt_ (va_up V 1 (V 0)) fun V38 =>
      fX11_rides_L49 3000 V38 a1 a2 0
set_option maxHeartbeats 4000000 in
set_option maxRecDepth 20000 in
theorem kX11_rides {l : Launch} {G : UG} (hG : uAll G) {V V' : uV} {a1 : Int32} {a2 : Int32} {r : Int32} {E : Int32} (hlt : l.stackTraces = false) (h : fX11_rides V a1 a2 = some (E, r, V')) : uXi l G yX11_rides cX11_rides 4 .int (uRx 7 119) [.ref (ga G 18 0), .int a1, .int a2] V E r V' := by
  refine uXi_of rfl (Nat.le_of_ble_eq_true rfl) (fun p e s m args below meth c ls X hret htb hl M => ?_)
  have hl : lv_has ls 4 [(0, .ref (ga G 18 0)), (1, .int a1), (2, .int a2)] := hl
  have hx := X.hx
  have hb := X.hb
  unfold fX11_rides at h
  refine lv_aload_n hx hb dX11_rides_0 rfl (lv_at hl 0 rfl) ?_
  refine gf_X11_10 X M hG.2.1 dX11_rides_1 ?_
  refine gf_X11_82 X M (hG.1 0 (by decide)) dX11_rides_4 ?_
  refine lv_iload_n hx hb dX11_rides_7 rfl (lv_at hl 1 rfl) ?_
  obtain ⟨x2, e1, h⟩ := lt_e h
  refine u_cVi X M hl.1 (kX0_has (hG.1 0 (by decide)) rfl e1.symm) cw_X11_86 ⟨by decide, by decide⟩ (rc_X0 X M (hG.1 0 (by decide))) rfl rfl (Nat.le_of_ble_eq_true rfl) ⟨Nat.zero_le _, Nat.zero_le _⟩ dX11_rides_8 (fun H locs M n3 => ?_)
  refine lv_if_eq (tgt := 32) hx hb dX11_rides_11 (by decide) (fun c4 => ?_) (fun c4 => ?_)
  · have h := it_t h c4
    refine lv_iconst (v := 0) hx hb dX11_rides_32 (by decide) ?_
    by_cases c5 : ¬ (0 : Int32) = 0
    rotate_left
    · have h := th_f h (decide_eq_false c5)
      exact x_outS X M htb hl.1 (by decide) (kX11_needThere_x hlt c5) cw_X11_92 ⟨by decide, by decide⟩ rfl rfl (Nat.le_of_ble_eq_true rfl) dX11_rides_33 (rt3 h).1 (rt3 h).2.2
    have h := th_t h (decide_eq_true c5)
    refine u_cSv X M hl.1 (kX11_needThere_ok c5) cw_X11_92 ⟨by decide, by decide⟩ rfl rfl (Nat.le_of_ble_eq_true rfl) ⟨Nat.zero_le _, Nat.zero_le _⟩ dX11_rides_33 (fun H locs M => ?_)
    refine lv_aload_n hx hb dX11_rides_36 rfl (lv_at hl 0 rfl) ?_
    refine gf_X11_16 X M hG.2.1 dX11_rides_37 ?_
    refine lv_aload_n hx hb dX11_rides_40 rfl (lv_at hl 0 rfl) ?_
    refine gf_X11_10 X M hG.2.1 dX11_rides_41 ?_
    obtain ⟨V6, e7, h⟩ := lt_e h
    refine u_cVv X M hl.1 (kX10_copyFromV (hG.1 1 (by decide)) (hG.1 0 (by decide)) (by decide) hG.2.2 e7) cw_X11_197 ⟨by decide, by decide⟩ (rc_X10 X M (hG.1 1 (by decide))) rfl rfl (Nat.le_of_ble_eq_true rfl) ⟨Nat.zero_le _, Nat.zero_le _⟩ dX11_rides_44 (fun H locs M => ?_)
    refine lv_iconst (v := 0) hx hb dX11_rides_47 (by decide) ?_
    refine lv_istore_n (lv' := [(3, .int 0), (0, .ref (ga G 18 0)), (1, .int a1), (2, .int a2)]) hx hb dX11_rides_48 rfl hl (by decide) rfl (fun ls hl => ?_)
    exact lpX11_rides_49 hG hlt X hret htb 3000 _ _ _ _ _ _ _ h M (lv_sub hl [1, 2, 3, 0] rfl)
  · have h := it_f h c4
    refine lv_aload_n hx hb dX11_rides_14 rfl (lv_at hl 0 rfl) ?_
    refine gf_X11_10 X M hG.2.1 dX11_rides_15 ?_
    refine gf_X11_109 X M (hG.1 0 (by decide)) dX11_rides_18 ?_
    refine lv_iload_n hx hb dX11_rides_21 rfl (lv_at hl 2 rfl) ?_
    obtain ⟨x31, e30, h⟩ := lt_e h
    refine u_cVi X M hl.1 (kX3_has (hG.1 0 (by decide)) rfl e30.symm) cw_X11_113 ⟨by decide, by decide⟩ (rc_X3 X M (hG.1 0 (by decide))) rfl rfl (Nat.le_of_ble_eq_true rfl) ⟨Nat.zero_le _, Nat.zero_le _⟩ dX11_rides_22 (fun H locs M n32 => ?_)
    refine lv_if_eq (tgt := 32) hx hb dX11_rides_25 (by decide) (fun c33 => ?_) (fun c33 => ?_)
    · have h := it_t h c33
      refine lv_iconst (v := 0) hx hb dX11_rides_32 (by decide) ?_
      by_cases c34 : ¬ (0 : Int32) = 0
      rotate_left
      · have h := th_f h (decide_eq_false c34)
        exact x_outS X M htb hl.1 (by decide) (kX11_needThere_x hlt c34) cw_X11_92 ⟨by decide, by decide⟩ rfl rfl (Nat.le_of_ble_eq_true rfl) dX11_rides_33 (rt3 h).1 (rt3 h).2.2
      have h := th_t h (decide_eq_true c34)
      refine u_cSv X M hl.1 (kX11_needThere_ok c34) cw_X11_92 ⟨by decide, by decide⟩ rfl rfl (Nat.le_of_ble_eq_true rfl) ⟨Nat.zero_le _, Nat.zero_le _⟩ dX11_rides_33 (fun H locs M => ?_)
      refine lv_aload_n hx hb dX11_rides_36 rfl (lv_at hl 0 rfl) ?_
      refine gf_X11_16 X M hG.2.1 dX11_rides_37 ?_
      refine lv_aload_n hx hb dX11_rides_40 rfl (lv_at hl 0 rfl) ?_
      refine gf_X11_10 X M hG.2.1 dX11_rides_41 ?_
      obtain ⟨V35, e36, h⟩ := lt_e h
      refine u_cVv X M hl.1 (kX10_copyFromV (hG.1 1 (by decide)) (hG.1 0 (by decide)) (by decide) hG.2.2 e36) cw_X11_197 ⟨by decide, by decide⟩ (rc_X10 X M (hG.1 1 (by decide))) rfl rfl (Nat.le_of_ble_eq_true rfl) ⟨Nat.zero_le _, Nat.zero_le _⟩ dX11_rides_44 (fun H locs M => ?_)
      refine lv_iconst (v := 0) hx hb dX11_rides_47 (by decide) ?_
      refine lv_istore_n (lv' := [(3, .int 0), (0, .ref (ga G 18 0)), (1, .int a1), (2, .int a2)]) hx hb dX11_rides_48 rfl hl (by decide) rfl (fun ls hl => ?_)
      exact lpX11_rides_49 hG hlt X hret htb 3000 _ _ _ _ _ _ _ h M (lv_sub hl [1, 2, 3, 0] rfl)
    · have h := it_f h c33
      refine lv_iconst (v := 1) hx hb dX11_rides_28 (by decide) ?_
      refine lv_goto (tgt := 33) hx hb dX11_rides_29 (by decide) ?_
      by_cases c37 : ¬ (1 : Int32) = 0
      rotate_left
      · have h := th_f h (decide_eq_false c37)
        exact x_outS X M htb hl.1 (by decide) (kX11_needThere_x hlt c37) cw_X11_92 ⟨by decide, by decide⟩ rfl rfl (Nat.le_of_ble_eq_true rfl) dX11_rides_33 (rt3 h).1 (rt3 h).2.2
      have h := th_t h (decide_eq_true c37)
      refine u_cSv X M hl.1 (kX11_needThere_ok c37) cw_X11_92 ⟨by decide, by decide⟩ rfl rfl (Nat.le_of_ble_eq_true rfl) ⟨Nat.zero_le _, Nat.zero_le _⟩ dX11_rides_33 (fun H locs M => ?_)
      refine lv_aload_n hx hb dX11_rides_36 rfl (lv_at hl 0 rfl) ?_
      refine gf_X11_16 X M hG.2.1 dX11_rides_37 ?_
      refine lv_aload_n hx hb dX11_rides_40 rfl (lv_at hl 0 rfl) ?_
      refine gf_X11_10 X M hG.2.1 dX11_rides_41 ?_
      obtain ⟨V38, e39, h⟩ := lt_e h
      refine u_cVv X M hl.1 (kX10_copyFromV (hG.1 1 (by decide)) (hG.1 0 (by decide)) (by decide) hG.2.2 e39) cw_X11_197 ⟨by decide, by decide⟩ (rc_X10 X M (hG.1 1 (by decide))) rfl rfl (Nat.le_of_ble_eq_true rfl) ⟨Nat.zero_le _, Nat.zero_le _⟩ dX11_rides_44 (fun H locs M => ?_)
      refine lv_iconst (v := 0) hx hb dX11_rides_47 (by decide) ?_
      refine lv_istore_n (lv' := [(3, .int 0), (0, .ref (ga G 18 0)), (1, .int a1), (2, .int a2)]) hx hb dX11_rides_48 rfl hl (by decide) rfl (fun ls hl => ?_)
      exact lpX11_rides_49 hG hlt X hret htb 3000 _ _ _ _ _ _ _ h M (lv_sub hl [1, 2, 3, 0] rfl)
def fX11_ifUp (V : uV) (a1 : Int32) (a2 : Int32) : Option (Int32 × Int32 × uV) :=
  lt_ (fX3_has (V 0) a1) fun x2 =>
  th_ (decide (¬ (x2 : Int32) = 0)) (some (3, 0, V)) <|
  th_ (decide (0 ≤ a2 ∧ a2 ≤ 3)) (some (1, 0, V)) <|
  bd2 (fX11_numberIfUp V a1 a2) fun x7 S8 =>
  some (0, x7, S8)
set_option maxHeartbeats 4000000 in
set_option maxRecDepth 20000 in
theorem kX11_ifUp {l : Launch} {G : UG} (hG : uAll G) {V V' : uV} {a1 : Int32} {a2 : Int32} {r : Int32} {E : Int32} (hlt : l.stackTraces = false) (h : fX11_ifUp V a1 a2 = some (E, r, V')) : uXi l G yX11_ifUp cX11_ifUp 3 .int (uRx 8 139) [.ref (ga G 18 0), .int a1, .int a2] V E r V' := by
  refine uXi_of rfl (Nat.le_of_ble_eq_true rfl) (fun p e s m args below meth c ls X hret htb hl M => ?_)
  have hl : lv_has ls 3 [(0, .ref (ga G 18 0)), (1, .int a1), (2, .int a2)] := hl
  have hx := X.hx
  have hb := X.hb
  unfold fX11_ifUp at h
  refine lv_aload_n hx hb dX11_ifUp_0 rfl (lv_at hl 0 rfl) ?_
  refine gf_X11_10 X M hG.2.1 dX11_ifUp_1 ?_
  refine gf_X11_109 X M (hG.1 0 (by decide)) dX11_ifUp_4 ?_
  refine lv_iload_n hx hb dX11_ifUp_7 rfl (lv_at hl 1 rfl) ?_
  obtain ⟨x2, e1, h⟩ := lt_e h
  refine u_cVi X M hl.1 (kX3_has (hG.1 0 (by decide)) rfl e1.symm) cw_X11_113 ⟨by decide, by decide⟩ (rc_X3 X M (hG.1 0 (by decide))) rfl rfl (Nat.le_of_ble_eq_true rfl) ⟨Nat.zero_le _, Nat.zero_le _⟩ dX11_ifUp_8 (fun H locs M n3 => ?_)
  by_cases c4 : ¬ (x2 : Int32) = 0
  rotate_left
  · have h := th_f h (decide_eq_false c4)
    exact x_outS X M htb hl.1 (by decide) (kX11_needThere_x hlt c4) cw_X11_92 ⟨by decide, by decide⟩ rfl rfl (Nat.le_of_ble_eq_true rfl) dX11_ifUp_11 (rt3 h).1 (rt3 h).2.2
  have h := th_t h (decide_eq_true c4)
  refine u_cSv X M hl.1 (kX11_needThere_ok c4) cw_X11_92 ⟨by decide, by decide⟩ rfl rfl (Nat.le_of_ble_eq_true rfl) ⟨Nat.zero_le _, Nat.zero_le _⟩ dX11_ifUp_11 (fun H locs M => ?_)
  refine lv_iload_n hx hb dX11_ifUp_14 rfl (lv_at hl 2 rfl) ?_
  refine lv_iconst (v := 0) hx hb dX11_ifUp_15 (by decide) ?_
  refine lv_iconst (v := 3) hx hb dX11_ifUp_16 (by decide) ?_
  by_cases c5 : 0 ≤ a2 ∧ a2 ≤ 3
  rotate_left
  · have h := th_f h (decide_eq_false c5)
    exact x_outS X M htb hl.1 (by decide) (kX11_needRange_x hlt c5) cw_X11_40 ⟨by decide, by decide⟩ rfl rfl (Nat.le_of_ble_eq_true rfl) dX11_ifUp_17 (rt3 h).1 (rt3 h).2.2
  have h := th_t h (decide_eq_true c5)
  refine u_cSv X M hl.1 (kX11_needRange_ok c5) cw_X11_40 ⟨by decide, by decide⟩ rfl rfl (Nat.le_of_ble_eq_true rfl) ⟨Nat.zero_le _, Nat.zero_le _⟩ dX11_ifUp_17 (fun H locs M => ?_)
  refine lv_aload_n hx hb dX11_ifUp_20 rfl (lv_at hl 0 rfl) ?_
  refine lv_iload_n hx hb dX11_ifUp_21 rfl (lv_at hl 1 rfl) ?_
  refine lv_iload_n hx hb dX11_ifUp_22 rfl (lv_at hl 2 rfl) ?_
  obtain ⟨x7, S8, e6, h⟩ := bd2_e h
  refine u_cVi X M hl.1 (kX11_numberIfUp hG e6) cw_X11_204 ⟨by decide, by decide⟩ (rc_X11 X M hG.2.1) rfl rfl (Nat.le_of_ble_eq_true rfl) ⟨Nat.zero_le _, Nat.zero_le _⟩ dX11_ifUp_23 (fun H locs M n9 => ?_)
  exact x_iret X hret M (rt3 h).1 (rt3 h).2.1 (rt3 h).2.2 rfl dX11_ifUp_26
def fX11_owes_L27 (n : Nat) (V : uV) (y1 : Int32) (y2 : Int32) : Option (Int32 × Int32 × uV) :=
  match n with
  | 0 => none
  | n + 1 =>
    if 4 ≤ y2 then
      lt_ (fget 8 ((V 1) 12) y1) fun x9 =>
      some (0, (if 0 < (-x9) then (-x9) else 0), V)
    else
      bd2 (fX10_tryUp (V 1) y2) fun x12 S13 =>
      lt_ (va_up V 1 S13) fun V15 =>
      lt_ (y2 + 1) fun x17 =>
      fX11_owes_L27 n V15 y1 x17
set_option maxHeartbeats 4000000 in
set_option maxRecDepth 20000 in
theorem lpX11_owes_27 {l : Launch} {G : UG} (hG : uAll G) {V' : uV} {r : Int32} {E : Int32} (hlt : l.stackTraces = false) {p : Program} {e : Env} {s : State} {m : MethodId} {args : Array Value} {below : List Frame} {meth : Method} {c : Code} (X : UC p s m args meth c cX11_owes 3 RX11 G) (hret : meth.sig.returnType = some .int) (htb : ∀ x ∈ c.exceptionTable.toList, False) : ∀ (n : Nat) (V : uV) (y1 : Int32) (y2 : Int32) (H : Heap) (locs : List Loc) (ls : Array Slot), fX11_owes_L27  n V y1 y2 = some (E, r, V') → UM G (V) s H locs → lv_has ls 3 [(0, .ref (ga G 18 0)), (1, .int y1), (2, .int y2)] → W p l e (uRx 7 117) s m args below meth c H locs 0 0 (vx_MQ below (xQi G E .int r V') (xX G E V') args s 1 6 (uA G)) (F0 m 27 ls []) := by
  intro n
  have hx := X.hx
  have hb := X.hb
  induction n with
  | zero => intro V y1 y2 H locs ls h M hl; rw [fX11_owes_L27] at h; cases h
  | succ n ih =>
    intro V y1 y2 H locs ls h M hl
    rw [fX11_owes_L27] at h
    refine lv_iload_n hx hb dX11_owes_27 rfl (lv_at hl 2 rfl) ?_
    refine lv_iconst (v := 4) hx hb dX11_owes_28 (by decide) ?_
    refine lv_icmp_ge (tgt := 47) hx hb dX11_owes_29 (by decide) (fun c7 => ?_) (fun c7 => ?_)
    · have h := it_t h c7
      refine lv_iconst (v := 0) hx hb dX11_owes_47 (by decide) ?_
      refine lv_aload_n hx hb dX11_owes_48 rfl (lv_at hl 0 rfl) ?_
      refine gf_X11_16 X M hG.2.1 dX11_owes_49 ?_
      refine gf_X11_99 X M (hG.1 1 (by decide)) dX11_owes_52 ?_
      refine gf_X11_210 X M (hG.1 1 (by decide)) dX11_owes_55 ?_
      refine lv_iload_n hx hb dX11_owes_58 rfl (lv_at hl 1 rfl) ?_
      obtain ⟨x9, e8, h⟩ := lt_e h
      refine u_cVi X M hl.1 (kX6_get (uRw11 (hG.1 1 (by decide))) rfl e8.symm) cw_X11_132 ⟨by decide, by decide⟩ (uR_recv X M (uRw11 (hG.1 1 (by decide)))) rfl rfl (Nat.le_of_ble_eq_true rfl) ⟨Nat.zero_le _, Nat.zero_le _⟩ dX11_owes_59 (fun H locs M n10 => ?_)
      refine lv_ineg hx hb dX11_owes_62 ?_
      refine va_mmax hx hb (X.1.2.2.1.trans hl.1.symm) X.1.2.2.2.1 (X.hts (gt_in 938 (by decide +kernel) (by decide +kernel))) (X.hts (gt_in 57 (by decide +kernel) (by decide +kernel))) (X.hts (gt_in 14 (by decide +kernel) (by decide +kernel))) (X.hts (gt_in 58 (by decide +kernel) (by decide +kernel))) (by decide) (Nat.le_of_ble_eq_true rfl) (Nat.zero_le _) (Nat.zero_le _) dX11_owes_63 ?_
      exact x_iret X hret M (rt3 h).1 (rt3 h).2.1 (rt3 h).2.2 rfl dX11_owes_66
    · have h := it_f h c7
      refine lv_aload_n hx hb dX11_owes_32 rfl (lv_at hl 0 rfl) ?_
      refine gf_X11_16 X M hG.2.1 dX11_owes_33 ?_
      refine lv_iload_n hx hb dX11_owes_36 rfl (lv_at hl 2 rfl) ?_
      obtain ⟨x12, S13, e11, h⟩ := bd2_e h
      have M := um_in 1 M
      refine u_cVi X M hl.1 (kX10_tryUp (hG.1 1 (by decide)) e11) cw_X11_216 ⟨by decide, by decide⟩ (rc_X10 X M (hG.1 1 (by decide))) rfl rfl (Nat.le_of_ble_eq_true rfl) ⟨Nat.zero_le _, Nat.zero_le _⟩ dX11_owes_37 (fun H locs M n14 => ?_)
      obtain ⟨V15, e16, h⟩ := lt_e h
      rw [← e16] at M
      refine lv_pop hx hb dX11_owes_40 rfl ?_
      obtain ⟨x17, e18, h⟩ := lt_e h
      refine lv_iinc (v := x17) (lv' := [(2, .int x17), (0, .ref (ga G 18 0)), (1, .int y1)]) hx hb dX11_owes_41 hl (k := 2) rfl (by rw [e18]; rfl) (by decide) rfl (fun ls hl => ?_)
      refine lv_goto (tgt := 27) hx hb dX11_owes_44 (by decide) ?_
      exact ih _ _ _ _ _ _ h M (lv_sub hl [1, 2, 0] rfl)
def fX11_owes (V : uV) (a1 : Int32) : Option (Int32 × Int32 × uV) :=
  lt_ (fX5_has (V 0) a1) fun x2 =>
  th_ (decide (¬ (x2 : Int32) = 0)) (some (3, 0, V)) <|
  lt_ (va_up V 1 (V 0)) fun V5 =>
  fX11_owes_L27 3000 V5 a1 0
set_option maxHeartbeats 4000000 in
set_option maxRecDepth 20000 in
theorem kX11_owes {l : Launch} {G : UG} (hG : uAll G) {V V' : uV} {a1 : Int32} {r : Int32} {E : Int32} (hlt : l.stackTraces = false) (h : fX11_owes V a1 = some (E, r, V')) : uXi l G yX11_owes cX11_owes 3 .int (uRx 7 117) [.ref (ga G 18 0), .int a1] V E r V' := by
  refine uXi_of rfl (Nat.le_of_ble_eq_true rfl) (fun p e s m args below meth c ls X hret htb hl M => ?_)
  have hl : lv_has ls 3 [(0, .ref (ga G 18 0)), (1, .int a1)] := hl
  have hx := X.hx
  have hb := X.hb
  unfold fX11_owes at h
  refine lv_aload_n hx hb dX11_owes_0 rfl (lv_at hl 0 rfl) ?_
  refine gf_X11_10 X M hG.2.1 dX11_owes_1 ?_
  refine gf_X11_99 X M (hG.1 0 (by decide)) dX11_owes_4 ?_
  refine lv_iload_n hx hb dX11_owes_7 rfl (lv_at hl 1 rfl) ?_
  obtain ⟨x2, e1, h⟩ := lt_e h
  refine u_cVi X M hl.1 (kX5_has (hG.1 0 (by decide)) rfl e1.symm) cw_X11_103 ⟨by decide, by decide⟩ (rc_X5 X M (hG.1 0 (by decide))) rfl rfl (Nat.le_of_ble_eq_true rfl) ⟨Nat.zero_le _, Nat.zero_le _⟩ dX11_owes_8 (fun H locs M n3 => ?_)
  by_cases c4 : ¬ (x2 : Int32) = 0
  rotate_left
  · have h := th_f h (decide_eq_false c4)
    exact x_outS X M htb hl.1 (by decide) (kX11_needThere_x hlt c4) cw_X11_92 ⟨by decide, by decide⟩ rfl rfl (Nat.le_of_ble_eq_true rfl) dX11_owes_11 (rt3 h).1 (rt3 h).2.2
  have h := th_t h (decide_eq_true c4)
  refine u_cSv X M hl.1 (kX11_needThere_ok c4) cw_X11_92 ⟨by decide, by decide⟩ rfl rfl (Nat.le_of_ble_eq_true rfl) ⟨Nat.zero_le _, Nat.zero_le _⟩ dX11_owes_11 (fun H locs M => ?_)
  refine lv_aload_n hx hb dX11_owes_14 rfl (lv_at hl 0 rfl) ?_
  refine gf_X11_16 X M hG.2.1 dX11_owes_15 ?_
  refine lv_aload_n hx hb dX11_owes_18 rfl (lv_at hl 0 rfl) ?_
  refine gf_X11_10 X M hG.2.1 dX11_owes_19 ?_
  obtain ⟨V5, e6, h⟩ := lt_e h
  refine u_cVv X M hl.1 (kX10_copyFromV (hG.1 1 (by decide)) (hG.1 0 (by decide)) (by decide) hG.2.2 e6) cw_X11_197 ⟨by decide, by decide⟩ (rc_X10 X M (hG.1 1 (by decide))) rfl rfl (Nat.le_of_ble_eq_true rfl) ⟨Nat.zero_le _, Nat.zero_le _⟩ dX11_owes_22 (fun H locs M => ?_)
  refine lv_iconst (v := 0) hx hb dX11_owes_25 (by decide) ?_
  refine lv_istore_n (lv' := [(2, .int 0), (0, .ref (ga G 18 0)), (1, .int a1)]) hx hb dX11_owes_26 rfl hl (by decide) rfl (fun ls hl => ?_)
  exact lpX11_owes_27 hG hlt X hret htb 3000 _ _ _ _ _ _ h M (lv_sub hl [1, 2, 0] rfl)
def fX11_runScript_L28 (n : Nat) (V : uV) (y1 : Int32) (y2 : Int64) (y4 : Int32) : Option (Int32 × Int32 × uV) :=
  match n with
  | 0 => none
  | n + 1 =>
    if y1 ≤ y4 then
      some (0, (-1), V)
    else
      bd (fX7_group  y1 y2 y4) fun x10 =>
      bd2 (fX7_succeeds (V 1) x10) fun x13 S14 =>
      lt_ (va_up V 1 S14) fun V16 =>
      if x13 = 0 then
        some (0, y4, V16)
      else
        lt_ (y4 + 1) fun x19 =>
        fX11_runScript_L28 n V16 y1 y2 x19
set_option maxHeartbeats 4000000 in
set_option maxRecDepth 20000 in
theorem lpX11_runScript_28 {l : Launch} {G : UG} (hG : uAll G) {V' : uV} {r : Int32} {E : Int32} (hlt : l.stackTraces = false) {p : Program} {e : Env} {s : State} {m : MethodId} {args : Array Value} {below : List Frame} {meth : Method} {c : Code} (X : UC p s m args meth c cX11_runScript 5 RX11 G) (hret : meth.sig.returnType = some .int) (htb : ∀ x ∈ c.exceptionTable.toList, False) : ∀ (n : Nat) (V : uV) (y1 : Int32) (y2 : Int64) (y4 : Int32) (H : Heap) (locs : List Loc) (ls : Array Slot), fX11_runScript_L28  n V y1 y2 y4 = some (E, r, V') → UM G (V) s H locs → lv_has ls 5 [(0, .ref (ga G 18 0)), (1, .int y1), (2, .long y2), (4, .int y4)] → W p l e (uRx 8 144) s m args below meth c H locs 0 0 (vx_MQ below (xQi G E .int r V') (xX G E V') args s 1 6 (uA G)) (F0 m 28 ls []) := by
  intro n
  have hx := X.hx
  have hb := X.hb
  induction n with
  | zero => intro V y1 y2 y4 H locs ls h M hl; rw [fX11_runScript_L28] at h; cases h
  | succ n ih =>
    intro V y1 y2 y4 H locs ls h M hl
    rw [fX11_runScript_L28] at h
    refine lv_iload hx hb dX11_runScript_28 (lv_at hl 3 rfl) ?_
    refine lv_iload_n hx hb dX11_runScript_30 rfl (lv_at hl 1 rfl) ?_
    refine lv_icmp_ge (tgt := 60) hx hb dX11_runScript_31 (by decide) (fun c8 => ?_) (fun c8 => ?_)
    · have h := it_t h c8
      refine lv_iconst (v := (-1)) hx hb dX11_runScript_60 (by decide) ?_
      exact x_iret X hret M (rt3 h).1 (rt3 h).2.1 (rt3 h).2.2 rfl dX11_runScript_61
    · have h := it_f h c8
      refine lv_aload_n hx hb dX11_runScript_34 rfl (lv_at hl 0 rfl) ?_
      refine gf_X11_16 X M hG.2.1 dX11_runScript_35 ?_
      refine lv_iload_n hx hb dX11_runScript_38 rfl (lv_at hl 1 rfl) ?_
      refine lv_lload_n hx hb dX11_runScript_39 rfl (lv_at hl 2 rfl) ?_
      refine lv_iload hx hb dX11_runScript_40 (lv_at hl 3 rfl) ?_
      obtain ⟨x10, e9, h⟩ := bd_e h
      refine u_cSi X M hl.1 (kX7_group  e9) cw_X11_233 ⟨by decide, by decide⟩ rfl rfl (Nat.le_of_ble_eq_true rfl) ⟨Nat.zero_le _, Nat.zero_le _⟩ dX11_runScript_42 (fun H locs M n11 => ?_)
      obtain ⟨x13, S14, e12, h⟩ := bd2_e h
      have M := um_in 1 M
      refine u_cSi X M hl.1 (kX7_succeeds (hG.1 1 (by decide)) e12) cw_X11_237 ⟨by decide, by decide⟩ rfl rfl (Nat.le_of_ble_eq_true rfl) ⟨Nat.zero_le _, Nat.zero_le _⟩ dX11_runScript_45 (fun H locs M n15 => ?_)
      obtain ⟨V16, e17, h⟩ := lt_e h
      rw [← e17] at M
      refine lv_if_ne (tgt := 54) hx hb dX11_runScript_48 (by decide) (fun c18 => ?_) (fun c18 => ?_)
      · have h := it_f h c18
        obtain ⟨x19, e20, h⟩ := lt_e h
        refine lv_iinc (v := x19) (lv' := [(4, .int x19), (0, .ref (ga G 18 0)), (1, .int y1), (2, .long y2)]) hx hb dX11_runScript_54 hl (k := 3) rfl (by rw [e20]; rfl) (by decide) rfl (fun ls hl => ?_)
        refine lv_goto (tgt := 28) hx hb dX11_runScript_57 (by decide) ?_
        exact ih _ _ _ _ _ _ _ h M (lv_sub hl [1, 2, 3, 0] rfl)
      · have h := it_t h c18
        refine lv_iload hx hb dX11_runScript_51 (lv_at hl 3 rfl) ?_
        exact x_iret X hret M (rt3 h).1 (rt3 h).2.1 (rt3 h).2.2 rfl dX11_runScript_53
def fX11_runScript (V : uV) (a1 : Int32) (a2 : Int64) : Option (Int32 × Int32 × uV) :=
  th_ (decide (1 ≤ a1 ∧ a1 ≤ 3)) (some (1, 0, V)) <|
  bd (fX7_fits  a1 a2) fun x3 =>
  th_ (decide (¬ (x3 : Int32) = 0)) (some (1, 0, V)) <|
  lt_ (va_up V 1 (V 0)) fun V6 =>
  fX11_runScript_L28 3000 V6 a1 a2 0
set_option maxHeartbeats 4000000 in
set_option maxRecDepth 20000 in
theorem kX11_runScript {l : Launch} {G : UG} (hG : uAll G) {V V' : uV} {a1 : Int32} {a2 : Int64} {r : Int32} {E : Int32} (hlt : l.stackTraces = false) (h : fX11_runScript V a1 a2 = some (E, r, V')) : uXi l G yX11_runScript cX11_runScript 5 .int (uRx 8 144) [.ref (ga G 18 0), .int a1, .long a2] V E r V' := by
  refine uXi_of rfl (Nat.le_of_ble_eq_true rfl) (fun p e s m args below meth c ls X hret htb hl M => ?_)
  have hl : lv_has ls 5 [(0, .ref (ga G 18 0)), (1, .int a1), (2, .long a2)] := hl
  have hx := X.hx
  have hb := X.hb
  unfold fX11_runScript at h
  refine lv_iload_n hx hb dX11_runScript_0 rfl (lv_at hl 1 rfl) ?_
  refine lv_iconst (v := 1) hx hb dX11_runScript_1 (by decide) ?_
  refine lv_iconst (v := 3) hx hb dX11_runScript_2 (by decide) ?_
  by_cases c1 : 1 ≤ a1 ∧ a1 ≤ 3
  rotate_left
  · have h := th_f h (decide_eq_false c1)
    exact x_outS X M htb hl.1 (by decide) (kX11_needRange_x hlt c1) cw_X11_40 ⟨by decide, by decide⟩ rfl rfl (Nat.le_of_ble_eq_true rfl) dX11_runScript_3 (rt3 h).1 (rt3 h).2.2
  have h := th_t h (decide_eq_true c1)
  refine u_cSv X M hl.1 (kX11_needRange_ok c1) cw_X11_40 ⟨by decide, by decide⟩ rfl rfl (Nat.le_of_ble_eq_true rfl) ⟨Nat.zero_le _, Nat.zero_le _⟩ dX11_runScript_3 (fun H locs M => ?_)
  refine lv_iload_n hx hb dX11_runScript_6 rfl (lv_at hl 1 rfl) ?_
  refine lv_lload_n hx hb dX11_runScript_7 rfl (lv_at hl 2 rfl) ?_
  obtain ⟨x3, e2, h⟩ := bd_e h
  refine u_cSi X M hl.1 (kX7_fits  e2) cw_X11_224 ⟨by decide, by decide⟩ rfl rfl (Nat.le_of_ble_eq_true rfl) ⟨Nat.zero_le _, Nat.zero_le _⟩ dX11_runScript_8 (fun H locs M n4 => ?_)
  by_cases c5 : ¬ (x3 : Int32) = 0
  rotate_left
  · have h := th_f h (decide_eq_false c5)
    exact x_outS X M htb hl.1 (by decide) (kX11_needArgument_x hlt c5) cw_X11_230 ⟨by decide, by decide⟩ rfl rfl (Nat.le_of_ble_eq_true rfl) dX11_runScript_11 (rt3 h).1 (rt3 h).2.2
  have h := th_t h (decide_eq_true c5)
  refine u_cSv X M hl.1 (kX11_needArgument_ok c5) cw_X11_230 ⟨by decide, by decide⟩ rfl rfl (Nat.le_of_ble_eq_true rfl) ⟨Nat.zero_le _, Nat.zero_le _⟩ dX11_runScript_11 (fun H locs M => ?_)
  refine lv_aload_n hx hb dX11_runScript_14 rfl (lv_at hl 0 rfl) ?_
  refine gf_X11_16 X M hG.2.1 dX11_runScript_15 ?_
  refine lv_aload_n hx hb dX11_runScript_18 rfl (lv_at hl 0 rfl) ?_
  refine gf_X11_10 X M hG.2.1 dX11_runScript_19 ?_
  obtain ⟨V6, e7, h⟩ := lt_e h
  refine u_cVv X M hl.1 (kX10_copyFromV (hG.1 1 (by decide)) (hG.1 0 (by decide)) (by decide) hG.2.2 e7) cw_X11_197 ⟨by decide, by decide⟩ (rc_X10 X M (hG.1 1 (by decide))) rfl rfl (Nat.le_of_ble_eq_true rfl) ⟨Nat.zero_le _, Nat.zero_le _⟩ dX11_runScript_22 (fun H locs M => ?_)
  refine lv_iconst (v := 0) hx hb dX11_runScript_25 (by decide) ?_
  refine lv_istore (lv' := [(4, .int 0), (0, .ref (ga G 18 0)), (1, .int a1), (2, .long a2)]) hx hb dX11_runScript_26 hl (by decide) rfl (fun ls hl => ?_)
  exact lpX11_runScript_28 hG hlt X hret htb 3000 _ _ _ _ _ _ _ h M (lv_sub hl [1, 2, 3, 0] rfl)
def fX11_simulate_L24 (n : Nat) (V : uV) (y1 : Int64) (y3 : Int32) (y4 : Int64) (y6 : Int32) : Option (Int32 × Int32 × uV) :=
  match n with
  | 0 => none
  | n + 1 =>
    if y3 ≤ y6 then
      lt_ ((V 1) 0 5) fun x5 =>
      lt_ ((V 0) 0 5) fun x7 =>
      lt_ ((V 1) 0 7) fun x9 =>
      lt_ ((V 0) 0 7) fun x11 =>
      some (0, ((1000 * (x5 - x7)) + (x9 - x11)), V)
    else
      lt_ (((y4 * 6364136223846793005) + 1442695040888963407)) fun x13 =>
      bd (fX8_turn (V 1) (((((x13 : Int64).toUInt64 >>> ((33 : Int32).toInt64.toUInt64 &&& Int64.toUInt64 63)).toInt64) : Int64).toInt32)) fun S16 =>
      lt_ (va_up V 1 S16) fun V18 =>
      lt_ (y6 + 1) fun x20 =>
      fX11_simulate_L24 n V18 y1 y3 x13 x20
set_option maxHeartbeats 4000000 in
set_option maxRecDepth 20000 in
theorem lpX11_simulate_24 {l : Launch} {G : UG} (hG : uAll G) {V' : uV} {r : Int32} {E : Int32} (hlt : l.stackTraces = false) {p : Program} {e : Env} {s : State} {m : MethodId} {args : Array Value} {below : List Frame} {meth : Method} {c : Code} (X : UC p s m args meth c cX11_simulate 7 RX11 G) (hret : meth.sig.returnType = some .int) (htb : ∀ x ∈ c.exceptionTable.toList, False) : ∀ (n : Nat) (V : uV) (y1 : Int64) (y3 : Int32) (y4 : Int64) (y6 : Int32) (H : Heap) (locs : List Loc) (ls : Array Slot), fX11_simulate_L24  n V y1 y3 y4 y6 = some (E, r, V') → UM G (V) s H locs → lv_has ls 7 [(0, .ref (ga G 18 0)), (1, .long y1), (3, .int y3), (4, .long y4), (6, .int y6)] → W p l e (uRx 8 141) s m args below meth c H locs 0 0 (vx_MQ below (xQi G E .int r V') (xX G E V') args s 1 6 (uA G)) (F0 m 24 ls []) := by
  intro n
  have hx := X.hx
  have hb := X.hb
  induction n with
  | zero => intro V y1 y3 y4 y6 H locs ls h M hl; rw [fX11_simulate_L24] at h; cases h
  | succ n ih =>
    intro V y1 y3 y4 y6 H locs ls h M hl
    rw [fX11_simulate_L24] at h
    refine lv_iload hx hb dX11_simulate_24 (lv_at hl 4 rfl) ?_
    refine lv_iload_n hx hb dX11_simulate_26 rfl (lv_at hl 2 rfl) ?_
    refine lv_icmp_ge (tgt := 61) hx hb dX11_simulate_27 (by decide) (fun c4 => ?_) (fun c4 => ?_)
    · have h := it_t h c4
      refine lv_sipush (v := 1000) hx hb dX11_simulate_61 (by decide) ?_
      refine lv_aload_n hx hb dX11_simulate_64 rfl (lv_at hl 0 rfl) ?_
      refine gf_X11_16 X M hG.2.1 dX11_simulate_65 ?_
      obtain ⟨x5, e6, h⟩ := lt_e h
      refine gf_X11_251 X M (hG.1 1 (by decide)) rfl e6 dX11_simulate_68 ?_
      refine lv_aload_n hx hb dX11_simulate_71 rfl (lv_at hl 0 rfl) ?_
      refine gf_X11_10 X M hG.2.1 dX11_simulate_72 ?_
      obtain ⟨x7, e8, h⟩ := lt_e h
      refine gf_X11_251 X M (hG.1 0 (by decide)) rfl e8 dX11_simulate_75 ?_
      refine lv_isub hx hb dX11_simulate_78 ?_
      refine lv_imul hx hb dX11_simulate_79 ?_
      refine lv_aload_n hx hb dX11_simulate_80 rfl (lv_at hl 0 rfl) ?_
      refine gf_X11_16 X M hG.2.1 dX11_simulate_81 ?_
      obtain ⟨x9, e10, h⟩ := lt_e h
      refine gf_X11_254 X M (hG.1 1 (by decide)) rfl e10 dX11_simulate_84 ?_
      refine lv_aload_n hx hb dX11_simulate_87 rfl (lv_at hl 0 rfl) ?_
      refine gf_X11_10 X M hG.2.1 dX11_simulate_88 ?_
      obtain ⟨x11, e12, h⟩ := lt_e h
      refine gf_X11_254 X M (hG.1 0 (by decide)) rfl e12 dX11_simulate_91 ?_
      refine lv_isub hx hb dX11_simulate_94 ?_
      refine lv_iadd hx hb dX11_simulate_95 ?_
      exact x_iret X hret M (rt3 h).1 (rt3 h).2.1 (rt3 h).2.2 rfl dX11_simulate_96
    · have h := it_f h c4
      refine lv_lload hx hb dX11_simulate_30 (lv_at hl 3 rfl) ?_
      refine lv_ldc2 (v := 6364136223846793005) hx hb X.1.2.2.2.1 (X.hts (gt_in 1019 (by decide +kernel) (by decide +kernel))) dX11_simulate_32 ?_
      refine lv_lmul hx hb dX11_simulate_35 ?_
      refine lv_ldc2 (v := 1442695040888963407) hx hb X.1.2.2.2.1 (X.hts (gt_in 1020 (by decide +kernel) (by decide +kernel))) dX11_simulate_36 ?_
      refine lv_ladd hx hb dX11_simulate_39 ?_
      obtain ⟨x13, e14, h⟩ := lt_e h
      refine u_topl e14 ?_
      refine lv_lstore (lv' := [(4, .long x13), (0, .ref (ga G 18 0)), (1, .long y1), (3, .int y3), (6, .int y6)]) hx hb dX11_simulate_40 hl (by decide) rfl (fun ls hl => ?_)
      refine lv_aload_n hx hb dX11_simulate_42 rfl (lv_at hl 1 rfl) ?_
      refine gf_X11_16 X M hG.2.1 dX11_simulate_43 ?_
      refine lv_lload hx hb dX11_simulate_46 (lv_at hl 0 rfl) ?_
      refine lv_bipush (v := 33) hx hb dX11_simulate_48 (by decide) ?_
      refine lv_lushr hx hb dX11_simulate_50 rfl ?_
      refine lv_l2i hx hb dX11_simulate_51 rfl ?_
      obtain ⟨S16, e15, h⟩ := bd_e h
      have M := um_in 1 M
      refine u_cSv X M hl.1 (kX8_turn (hG.1 1 (by decide)) e15) cw_X11_245 ⟨by decide, by decide⟩ rfl rfl (Nat.le_of_ble_eq_true rfl) ⟨Nat.zero_le _, Nat.zero_le _⟩ dX11_simulate_52 (fun H locs M => ?_)
      obtain ⟨V18, e19, h⟩ := lt_e h
      rw [← e19] at M
      obtain ⟨x20, e21, h⟩ := lt_e h
      refine lv_iinc (v := x20) (lv' := [(6, .int x20), (4, .long x13), (0, .ref (ga G 18 0)), (1, .long y1), (3, .int y3)]) hx hb dX11_simulate_55 hl (k := 4) rfl (by rw [e21]; rfl) (by decide) rfl (fun ls hl => ?_)
      refine lv_goto (tgt := 24) hx hb dX11_simulate_58 (by decide) ?_
      exact ih _ _ _ _ _ _ _ _ h M (lv_sub hl [2, 3, 4, 1, 0] rfl)
def fX11_simulate (V : uV) (a1 : Int64) (a2 : Int32) : Option (Int32 × Int32 × uV) :=
  th_ (decide (1 ≤ a2 ∧ a2 ≤ 80)) (some (1, 0, V)) <|
  lt_ (va_up V 1 (V 0)) fun V2 =>
  fX11_simulate_L24 3000 V2 a1 a2 a1 0
set_option maxHeartbeats 4000000 in
set_option maxRecDepth 20000 in
theorem kX11_simulate {l : Launch} {G : UG} (hG : uAll G) {V V' : uV} {a1 : Int64} {a2 : Int32} {r : Int32} {E : Int32} (hlt : l.stackTraces = false) (h : fX11_simulate V a1 a2 = some (E, r, V')) : uXi l G yX11_simulate cX11_simulate 7 .int (uRx 8 141) [.ref (ga G 18 0), .long a1, .int a2] V E r V' := by
  refine uXi_of rfl (Nat.le_of_ble_eq_true rfl) (fun p e s m args below meth c ls X hret htb hl M => ?_)
  have hl : lv_has ls 7 [(0, .ref (ga G 18 0)), (1, .long a1), (3, .int a2)] := hl
  have hx := X.hx
  have hb := X.hb
  unfold fX11_simulate at h
  refine lv_iload_n hx hb dX11_simulate_0 rfl (lv_at hl 2 rfl) ?_
  refine lv_iconst (v := 1) hx hb dX11_simulate_1 (by decide) ?_
  refine lv_bipush (v := 80) hx hb dX11_simulate_2 (by decide) ?_
  by_cases c1 : 1 ≤ a2 ∧ a2 ≤ 80
  rotate_left
  · have h := th_f h (decide_eq_false c1)
    exact x_outS X M htb hl.1 (by decide) (kX11_needRange_x hlt c1) cw_X11_40 ⟨by decide, by decide⟩ rfl rfl (Nat.le_of_ble_eq_true rfl) dX11_simulate_4 (rt3 h).1 (rt3 h).2.2
  have h := th_t h (decide_eq_true c1)
  refine u_cSv X M hl.1 (kX11_needRange_ok c1) cw_X11_40 ⟨by decide, by decide⟩ rfl rfl (Nat.le_of_ble_eq_true rfl) ⟨Nat.zero_le _, Nat.zero_le _⟩ dX11_simulate_4 (fun H locs M => ?_)
  refine lv_aload_n hx hb dX11_simulate_7 rfl (lv_at hl 0 rfl) ?_
  refine gf_X11_16 X M hG.2.1 dX11_simulate_8 ?_
  refine lv_aload_n hx hb dX11_simulate_11 rfl (lv_at hl 0 rfl) ?_
  refine gf_X11_10 X M hG.2.1 dX11_simulate_12 ?_
  obtain ⟨V2, e3, h⟩ := lt_e h
  refine u_cVv X M hl.1 (kX10_copyFromV (hG.1 1 (by decide)) (hG.1 0 (by decide)) (by decide) hG.2.2 e3) cw_X11_197 ⟨by decide, by decide⟩ (rc_X10 X M (hG.1 1 (by decide))) rfl rfl (Nat.le_of_ble_eq_true rfl) ⟨Nat.zero_le _, Nat.zero_le _⟩ dX11_simulate_15 (fun H locs M => ?_)
  refine lv_lload_n hx hb dX11_simulate_18 rfl (lv_at hl 1 rfl) ?_
  refine lv_lstore (lv' := [(4, .long a1), (0, .ref (ga G 18 0)), (1, .long a1), (3, .int a2)]) hx hb dX11_simulate_19 hl (by decide) rfl (fun ls hl => ?_)
  refine lv_iconst (v := 0) hx hb dX11_simulate_21 (by decide) ?_
  refine lv_istore (lv' := [(6, .int 0), (4, .long a1), (0, .ref (ga G 18 0)), (1, .long a1), (3, .int a2)]) hx hb dX11_simulate_22 hl (by decide) rfl (fun ls hl => ?_)
  exact lpX11_simulate_24 hG hlt X hret htb 3000 _ _ _ _ _ _ _ _ h M (lv_sub hl [2, 3, 4, 1, 0] rfl)
def fX11_save (V : uV) (a1 : Int32) : Option (Int32 × Int32 × uV) :=
  lt_ (fX9_has (V 18) a1) fun x2 =>
  th_ (decide (¬ (x2 : Int32) = 0)) (some (3, 0, V)) <|
  bd (fX9_store V a1) fun S6 =>
  lt_ ((S6 0) 0 4) fun x8 =>
  some (0, x8, S6)
set_option maxHeartbeats 4000000 in
set_option maxRecDepth 20000 in
theorem kX11_save {l : Launch} {G : UG} (hG : uAll G) {V V' : uV} {a1 : Int32} {r : Int32} {E : Int32} (hlt : l.stackTraces = false) (h : fX11_save V a1 = some (E, r, V')) : uXi l G yX11_save cX11_save 2 .int (uRx 7 125) [.ref (ga G 18 0), .int a1] V E r V' := by
  refine uXi_of rfl (Nat.le_of_ble_eq_true rfl) (fun p e s m args below meth c ls X hret htb hl M => ?_)
  have hl : lv_has ls 2 [(0, .ref (ga G 18 0)), (1, .int a1)] := hl
  have hx := X.hx
  have hb := X.hb
  unfold fX11_save at h
  refine lv_aload_n hx hb dX11_save_0 rfl (lv_at hl 0 rfl) ?_
  refine gf_X11_36 X M hG.2.1 dX11_save_1 ?_
  refine lv_iload_n hx hb dX11_save_4 rfl (lv_at hl 1 rfl) ?_
  obtain ⟨x2, e1, h⟩ := lt_e h
  refine u_cVi X M hl.1 (kX9_has hG.2.1 rfl e1.symm) cw_X11_257 ⟨by decide, by decide⟩ (rc_X9 X M hG.2.1) rfl rfl (Nat.le_of_ble_eq_true rfl) ⟨Nat.zero_le _, Nat.zero_le _⟩ dX11_save_5 (fun H locs M n3 => ?_)
  by_cases c4 : ¬ (x2 : Int32) = 0
  rotate_left
  · have h := th_f h (decide_eq_false c4)
    exact x_outS X M htb hl.1 (by decide) (kX11_needThere_x hlt c4) cw_X11_92 ⟨by decide, by decide⟩ rfl rfl (Nat.le_of_ble_eq_true rfl) dX11_save_8 (rt3 h).1 (rt3 h).2.2
  have h := th_t h (decide_eq_true c4)
  refine u_cSv X M hl.1 (kX11_needThere_ok c4) cw_X11_92 ⟨by decide, by decide⟩ rfl rfl (Nat.le_of_ble_eq_true rfl) ⟨Nat.zero_le _, Nat.zero_le _⟩ dX11_save_8 (fun H locs M => ?_)
  refine lv_aload_n hx hb dX11_save_11 rfl (lv_at hl 0 rfl) ?_
  refine gf_X11_36 X M hG.2.1 dX11_save_12 ?_
  refine lv_iload_n hx hb dX11_save_15 rfl (lv_at hl 1 rfl) ?_
  refine lv_aload_n hx hb dX11_save_16 rfl (lv_at hl 0 rfl) ?_
  refine gf_X11_10 X M hG.2.1 dX11_save_17 ?_
  obtain ⟨S6, e5, h⟩ := bd_e h
  refine u_cVv X M hl.1 (kX9_store hG e5) cw_X11_258 ⟨by decide, by decide⟩ (rc_X9 X M hG.2.1) rfl rfl (Nat.le_of_ble_eq_true rfl) ⟨Nat.zero_le _, Nat.zero_le _⟩ dX11_save_20 (fun H locs M => ?_)
  refine lv_aload_n hx hb dX11_save_23 rfl (lv_at hl 0 rfl) ?_
  refine gf_X11_10 X M hG.2.1 dX11_save_24 ?_
  obtain ⟨x8, e9, h⟩ := lt_e h
  refine gf_X11_183 X M (hG.1 0 (by decide)) rfl e9 dX11_save_27 ?_
  exact x_iret X hret M (rt3 h).1 (rt3 h).2.1 (rt3 h).2.2 rfl dX11_save_30
def fX11_restore (V : uV) (a1 : Int32) : Option (Int32 × Int32 × uV) :=
  lt_ (fX9_has (V 18) a1) fun x2 =>
  th_ (decide (¬ (x2 : Int32) = 0)) (some (3, 0, V)) <|
  bd (fX9_isFilled (V 18) a1) fun x6 =>
  th_ (decide (¬ (x6 : Int32) = 0)) (some (2, 0, V)) <|
  bd (fX9_fetch V a1) fun S10 =>
  bd (fX4_clear (S10 18)) fun S13 =>
  lt_ (va_up S10 18 S13) fun V15 =>
  lt_ ((V15 0) 0 4) fun x17 =>
  some (0, x17, V15)
set_option maxHeartbeats 4000000 in
set_option maxRecDepth 20000 in
theorem kX11_restore {l : Launch} {G : UG} (hG : uAll G) {V V' : uV} {a1 : Int32} {r : Int32} {E : Int32} (hlt : l.stackTraces = false) (h : fX11_restore V a1 = some (E, r, V')) : uXi l G yX11_restore cX11_restore 2 .int (uRx 7 125) [.ref (ga G 18 0), .int a1] V E r V' := by
  refine uXi_of rfl (Nat.le_of_ble_eq_true rfl) (fun p e s m args below meth c ls X hret htb hl M => ?_)
  have hl : lv_has ls 2 [(0, .ref (ga G 18 0)), (1, .int a1)] := hl
  have hx := X.hx
  have hb := X.hb
  unfold fX11_restore at h
  refine lv_aload_n hx hb dX11_restore_0 rfl (lv_at hl 0 rfl) ?_
  refine gf_X11_36 X M hG.2.1 dX11_restore_1 ?_
  refine lv_iload_n hx hb dX11_restore_4 rfl (lv_at hl 1 rfl) ?_
  obtain ⟨x2, e1, h⟩ := lt_e h
  refine u_cVi X M hl.1 (kX9_has hG.2.1 rfl e1.symm) cw_X11_257 ⟨by decide, by decide⟩ (rc_X9 X M hG.2.1) rfl rfl (Nat.le_of_ble_eq_true rfl) ⟨Nat.zero_le _, Nat.zero_le _⟩ dX11_restore_5 (fun H locs M n3 => ?_)
  by_cases c4 : ¬ (x2 : Int32) = 0
  rotate_left
  · have h := th_f h (decide_eq_false c4)
    exact x_outS X M htb hl.1 (by decide) (kX11_needThere_x hlt c4) cw_X11_92 ⟨by decide, by decide⟩ rfl rfl (Nat.le_of_ble_eq_true rfl) dX11_restore_8 (rt3 h).1 (rt3 h).2.2
  have h := th_t h (decide_eq_true c4)
  refine u_cSv X M hl.1 (kX11_needThere_ok c4) cw_X11_92 ⟨by decide, by decide⟩ rfl rfl (Nat.le_of_ble_eq_true rfl) ⟨Nat.zero_le _, Nat.zero_le _⟩ dX11_restore_8 (fun H locs M => ?_)
  refine lv_aload_n hx hb dX11_restore_11 rfl (lv_at hl 0 rfl) ?_
  refine gf_X11_36 X M hG.2.1 dX11_restore_12 ?_
  refine lv_iload_n hx hb dX11_restore_15 rfl (lv_at hl 1 rfl) ?_
  obtain ⟨x6, e5, h⟩ := bd_e h
  refine u_cVi X M hl.1 (kX9_isFilled hG.2.1 rfl e5) cw_X11_262 ⟨by decide, by decide⟩ (rc_X9 X M hG.2.1) rfl rfl (Nat.le_of_ble_eq_true rfl) ⟨Nat.zero_le _, Nat.zero_le _⟩ dX11_restore_16 (fun H locs M n7 => ?_)
  by_cases c8 : ¬ (x6 : Int32) = 0
  rotate_left
  · have h := th_f h (decide_eq_false c8)
    exact x_outS X M htb hl.1 (by decide) (kX11_needState_x hlt c8) cw_X11_48 ⟨by decide, by decide⟩ rfl rfl (Nat.le_of_ble_eq_true rfl) dX11_restore_19 (rt3 h).1 (rt3 h).2.2
  have h := th_t h (decide_eq_true c8)
  refine u_cSv X M hl.1 (kX11_needState_ok c8) cw_X11_48 ⟨by decide, by decide⟩ rfl rfl (Nat.le_of_ble_eq_true rfl) ⟨Nat.zero_le _, Nat.zero_le _⟩ dX11_restore_19 (fun H locs M => ?_)
  refine lv_aload_n hx hb dX11_restore_22 rfl (lv_at hl 0 rfl) ?_
  refine gf_X11_36 X M hG.2.1 dX11_restore_23 ?_
  refine lv_iload_n hx hb dX11_restore_26 rfl (lv_at hl 1 rfl) ?_
  refine lv_aload_n hx hb dX11_restore_27 rfl (lv_at hl 0 rfl) ?_
  refine gf_X11_10 X M hG.2.1 dX11_restore_28 ?_
  obtain ⟨S10, e9, h⟩ := bd_e h
  refine u_cVv X M hl.1 (kX9_fetch hG e9) cw_X11_265 ⟨by decide, by decide⟩ (rc_X9 X M hG.2.1) rfl rfl (Nat.le_of_ble_eq_true rfl) ⟨Nat.zero_le _, Nat.zero_le _⟩ dX11_restore_31 (fun H locs M => ?_)
  refine lv_aload_n hx hb dX11_restore_34 rfl (lv_at hl 0 rfl) ?_
  refine gf_X11_29 X M hG.2.1 dX11_restore_35 ?_
  obtain ⟨S13, e12, h⟩ := bd_e h
  have M := um_in 18 M
  refine u_cVv X M hl.1 (kX4_clear hG.2.1 e12) cw_X11_65 ⟨by decide, by decide⟩ (rc_X4 X M hG.2.1) rfl rfl (Nat.le_of_ble_eq_true rfl) ⟨Nat.zero_le _, Nat.zero_le _⟩ dX11_restore_38 (fun H locs M => ?_)
  obtain ⟨V15, e16, h⟩ := lt_e h
  rw [← e16] at M
  refine lv_aload_n hx hb dX11_restore_41 rfl (lv_at hl 0 rfl) ?_
  refine gf_X11_10 X M hG.2.1 dX11_restore_42 ?_
  obtain ⟨x17, e18, h⟩ := lt_e h
  refine gf_X11_183 X M (hG.1 0 (by decide)) rfl e18 dX11_restore_45 ?_
  exact x_iret X hret M (rt3 h).1 (rt3 h).2.1 (rt3 h).2.2 rfl dX11_restore_48
