theorem dX4_init_0 : decode cX4_init 0 = .ok (.aload_n 0, 1) := by decide +kernel
theorem dX4_init_1 : decode cX4_init 1 = .ok (.invokespecial 3, 3) := by decide +kernel
theorem dX4_init_4 : decode cX4_init 4 = .ok (.aload_n 0, 1) := by decide +kernel
theorem dX4_init_5 : decode cX4_init 5 = .ok (.new 9, 3) := by decide +kernel
theorem dX4_init_8 : decode cX4_init 8 = .ok (.dup, 1) := by decide +kernel
theorem dX4_init_9 : decode cX4_init 9 = .ok (.invokespecial 11, 3) := by decide +kernel
theorem dX4_init_12 : decode cX4_init 12 = .ok (.putfield 12, 3) := by decide +kernel
theorem dX4_init_15 : decode cX4_init 15 = .ok (.aload_n 0, 1) := by decide +kernel
theorem dX4_init_16 : decode cX4_init 16 = .ok (.new 16, 3) := by decide +kernel
theorem dX4_init_19 : decode cX4_init 19 = .ok (.dup, 1) := by decide +kernel
theorem dX4_init_20 : decode cX4_init 20 = .ok (.invokespecial 18, 3) := by decide +kernel
theorem dX4_init_23 : decode cX4_init 23 = .ok (.putfield 19, 3) := by decide +kernel
theorem dX4_init_26 : decode cX4_init 26 = .ok (.aload_n 0, 1) := by decide +kernel
theorem dX4_init_27 : decode cX4_init 27 = .ok (.new 23, 3) := by decide +kernel
theorem dX4_init_30 : decode cX4_init 30 = .ok (.dup, 1) := by decide +kernel
theorem dX4_init_31 : decode cX4_init 31 = .ok (.invokespecial 25, 3) := by decide +kernel
theorem dX4_init_34 : decode cX4_init 34 = .ok (.putfield 26, 3) := by decide +kernel
theorem dX4_init_37 : decode cX4_init 37 = .ok (.aload_n 0, 1) := by decide +kernel
theorem dX4_init_38 : decode cX4_init 38 = .ok (.new 30, 3) := by decide +kernel
theorem dX4_init_41 : decode cX4_init 41 = .ok (.dup, 1) := by decide +kernel
theorem dX4_init_42 : decode cX4_init 42 = .ok (.invokespecial 32, 3) := by decide +kernel
theorem dX4_init_45 : decode cX4_init 45 = .ok (.putfield 33, 3) := by decide +kernel
theorem dX4_init_48 : decode cX4_init 48 = .ok (.return_, 1) := by decide +kernel
theorem dX4_arrival_0 : decode cX4_arrival 0 = .ok (.iload_n 1, 1) := by decide +kernel
theorem dX4_arrival_1 : decode cX4_arrival 1 = .ok (.invokestatic 37, 3) := by decide +kernel
theorem dX4_arrival_4 : decode cX4_arrival 4 = .ok (.iload_n 2, 1) := by decide +kernel
theorem dX4_arrival_5 : decode cX4_arrival 5 = .ok (.invokestatic 41, 3) := by decide +kernel
theorem dX4_arrival_8 : decode cX4_arrival 8 = .ok (.iload_n 3, 1) := by decide +kernel
theorem dX4_arrival_9 : decode cX4_arrival 9 = .ok (.iconst 0, 1) := by decide +kernel
theorem dX4_arrival_10 : decode cX4_arrival 10 = .ok (.ldc 44, 2) := by decide +kernel
theorem dX4_arrival_12 : decode cX4_arrival 12 = .ok (.invokestatic 45, 3) := by decide +kernel
theorem dX4_arrival_15 : decode cX4_arrival 15 = .ok (.aload_n 0, 1) := by decide +kernel
theorem dX4_arrival_16 : decode cX4_arrival 16 = .ok (.iload_n 2, 1) := by decide +kernel
theorem dX4_arrival_17 : decode cX4_arrival 17 = .ok (.invokevirtual 49, 3) := by decide +kernel
theorem dX4_arrival_20 : decode cX4_arrival 20 = .ok (.aload_n 0, 1) := by decide +kernel
theorem dX4_arrival_21 : decode cX4_arrival 21 = .ok (.getfield 19, 3) := by decide +kernel
theorem dX4_arrival_24 : decode cX4_arrival 24 = .ok (.getfield 52, 3) := by decide +kernel
theorem dX4_arrival_27 : decode cX4_arrival 27 = .ok (.bipush 10, 2) := by decide +kernel
theorem dX4_arrival_29 : decode cX4_arrival 29 = .ok (.if_icmp .lt 13, 3) := by decide +kernel
theorem dX4_arrival_32 : decode cX4_arrival 32 = .ok (.new 56, 3) := by decide +kernel
theorem dX4_arrival_35 : decode cX4_arrival 35 = .ok (.dup, 1) := by decide +kernel
theorem dX4_arrival_36 : decode cX4_arrival 36 = .ok (.ldc 58, 2) := by decide +kernel
theorem dX4_arrival_38 : decode cX4_arrival 38 = .ok (.invokespecial 60, 3) := by decide +kernel
theorem dX4_arrival_41 : decode cX4_arrival 41 = .ok (.athrow, 1) := by decide +kernel
theorem dX4_arrival_42 : decode cX4_arrival 42 = .ok (.aload_n 0, 1) := by decide +kernel
theorem dX4_arrival_43 : decode cX4_arrival 43 = .ok (.getfield 19, 3) := by decide +kernel
theorem dX4_arrival_46 : decode cX4_arrival 46 = .ok (.iload_n 1, 1) := by decide +kernel
theorem dX4_arrival_47 : decode cX4_arrival 47 = .ok (.iload_n 2, 1) := by decide +kernel
theorem dX4_arrival_48 : decode cX4_arrival 48 = .ok (.iload_n 3, 1) := by decide +kernel
theorem dX4_arrival_49 : decode cX4_arrival 49 = .ok (.invokevirtual 63, 3) := by decide +kernel
theorem dX4_arrival_52 : decode cX4_arrival 52 = .ok (.istore 4, 2) := by decide +kernel
theorem dX4_arrival_54 : decode cX4_arrival 54 = .ok (.aload_n 0, 1) := by decide +kernel
theorem dX4_arrival_55 : decode cX4_arrival 55 = .ok (.invokevirtual 67, 3) := by decide +kernel
theorem dX4_arrival_58 : decode cX4_arrival 58 = .ok (.pop, 1) := by decide +kernel
theorem dX4_arrival_59 : decode cX4_arrival 59 = .ok (.iload 4, 2) := by decide +kernel
theorem dX4_arrival_61 : decode cX4_arrival 61 = .ok (.ireturn, 1) := by decide +kernel
theorem dX4_change_0 : decode cX4_change 0 = .ok (.aload_n 0, 1) := by decide +kernel
theorem dX4_change_1 : decode cX4_change 1 = .ok (.iload_n 1, 1) := by decide +kernel
theorem dX4_change_2 : decode cX4_change 2 = .ok (.invokevirtual 71, 3) := by decide +kernel
theorem dX4_change_5 : decode cX4_change 5 = .ok (.iload_n 2, 1) := by decide +kernel
theorem dX4_change_6 : decode cX4_change 6 = .ok (.invokestatic 37, 3) := by decide +kernel
theorem dX4_change_9 : decode cX4_change 9 = .ok (.iload_n 3, 1) := by decide +kernel
theorem dX4_change_10 : decode cX4_change 10 = .ok (.iconst 0, 1) := by decide +kernel
theorem dX4_change_11 : decode cX4_change 11 = .ok (.ldc 44, 2) := by decide +kernel
theorem dX4_change_13 : decode cX4_change 13 = .ok (.invokestatic 45, 3) := by decide +kernel
theorem dX4_change_16 : decode cX4_change 16 = .ok (.iload_n 3, 1) := by decide +kernel
theorem dX4_change_17 : decode cX4_change 17 = .ok (.aload_n 0, 1) := by decide +kernel
theorem dX4_change_18 : decode cX4_change 18 = .ok (.getfield 19, 3) := by decide +kernel
theorem dX4_change_21 : decode cX4_change 21 = .ok (.getfield 74, 3) := by decide +kernel
theorem dX4_change_24 : decode cX4_change 24 = .ok (.iload_n 1, 1) := by decide +kernel
theorem dX4_change_25 : decode cX4_change 25 = .ok (.iaload, 1) := by decide +kernel
theorem dX4_change_26 : decode cX4_change 26 = .ok (.if_icmp .ge 13, 3) := by decide +kernel
theorem dX4_change_29 : decode cX4_change 29 = .ok (.new 78, 3) := by decide +kernel
theorem dX4_change_32 : decode cX4_change 32 = .ok (.dup, 1) := by decide +kernel
theorem dX4_change_33 : decode cX4_change 33 = .ok (.ldc 80, 2) := by decide +kernel
theorem dX4_change_35 : decode cX4_change 35 = .ok (.invokespecial 82, 3) := by decide +kernel
theorem dX4_change_38 : decode cX4_change 38 = .ok (.athrow, 1) := by decide +kernel
theorem dX4_change_39 : decode cX4_change 39 = .ok (.aload_n 0, 1) := by decide +kernel
theorem dX4_change_40 : decode cX4_change 40 = .ok (.getfield 19, 3) := by decide +kernel
theorem dX4_change_43 : decode cX4_change 43 = .ok (.getfield 83, 3) := by decide +kernel
theorem dX4_change_46 : decode cX4_change 46 = .ok (.iload_n 1, 1) := by decide +kernel
theorem dX4_change_47 : decode cX4_change 47 = .ok (.iload_n 2, 1) := by decide +kernel
theorem dX4_change_48 : decode cX4_change 48 = .ok (.iastore, 1) := by decide +kernel
theorem dX4_change_49 : decode cX4_change 49 = .ok (.aload_n 0, 1) := by decide +kernel
theorem dX4_change_50 : decode cX4_change 50 = .ok (.getfield 19, 3) := by decide +kernel
theorem dX4_change_53 : decode cX4_change 53 = .ok (.getfield 86, 3) := by decide +kernel
theorem dX4_change_56 : decode cX4_change 56 = .ok (.iload_n 1, 1) := by decide +kernel
theorem dX4_change_57 : decode cX4_change 57 = .ok (.iload_n 3, 1) := by decide +kernel
theorem dX4_change_58 : decode cX4_change 58 = .ok (.iastore, 1) := by decide +kernel
theorem dX4_change_59 : decode cX4_change 59 = .ok (.aload_n 0, 1) := by decide +kernel
theorem dX4_change_60 : decode cX4_change 60 = .ok (.invokevirtual 67, 3) := by decide +kernel
theorem dX4_change_63 : decode cX4_change 63 = .ok (.ireturn, 1) := by decide +kernel
theorem dX4_aside_0 : decode cX4_aside 0 = .ok (.aload_n 0, 1) := by decide +kernel
theorem dX4_aside_1 : decode cX4_aside 1 = .ok (.iload_n 1, 1) := by decide +kernel
theorem dX4_aside_2 : decode cX4_aside 2 = .ok (.invokevirtual 71, 3) := by decide +kernel
theorem dX4_aside_5 : decode cX4_aside 5 = .ok (.iload_n 2, 1) := by decide +kernel
theorem dX4_aside_6 : decode cX4_aside 6 = .ok (.iconst 0, 1) := by decide +kernel
theorem dX4_aside_7 : decode cX4_aside 7 = .ok (.aload_n 0, 1) := by decide +kernel
theorem dX4_aside_8 : decode cX4_aside 8 = .ok (.getfield 19, 3) := by decide +kernel
theorem dX4_aside_11 : decode cX4_aside 11 = .ok (.getfield 86, 3) := by decide +kernel
theorem dX4_aside_14 : decode cX4_aside 14 = .ok (.iload_n 1, 1) := by decide +kernel
theorem dX4_aside_15 : decode cX4_aside 15 = .ok (.iaload, 1) := by decide +kernel
theorem dX4_aside_16 : decode cX4_aside 16 = .ok (.invokestatic 45, 3) := by decide +kernel
theorem dX4_aside_19 : decode cX4_aside 19 = .ok (.aload_n 0, 1) := by decide +kernel
theorem dX4_aside_20 : decode cX4_aside 20 = .ok (.getfield 19, 3) := by decide +kernel
theorem dX4_aside_23 : decode cX4_aside 23 = .ok (.getfield 74, 3) := by decide +kernel
theorem dX4_aside_26 : decode cX4_aside 26 = .ok (.iload_n 1, 1) := by decide +kernel
theorem dX4_aside_27 : decode cX4_aside 27 = .ok (.iload_n 2, 1) := by decide +kernel
theorem dX4_aside_28 : decode cX4_aside 28 = .ok (.iastore, 1) := by decide +kernel
theorem dX4_aside_29 : decode cX4_aside 29 = .ok (.aload_n 0, 1) := by decide +kernel
theorem dX4_aside_30 : decode cX4_aside 30 = .ok (.invokevirtual 67, 3) := by decide +kernel
theorem dX4_aside_33 : decode cX4_aside 33 = .ok (.ireturn, 1) := by decide +kernel
theorem dX4_life_0 : decode cX4_life 0 = .ok (.iload_n 1, 1) := by decide +kernel
theorem dX4_life_1 : decode cX4_life 1 = .ok (.invokestatic 41, 3) := by decide +kernel
theorem dX4_life_4 : decode cX4_life 4 = .ok (.iload_n 2, 1) := by decide +kernel
theorem dX4_life_5 : decode cX4_life 5 = .ok (.iconst 0, 1) := by decide +kernel
theorem dX4_life_6 : decode cX4_life 6 = .ok (.bipush 100, 2) := by decide +kernel
theorem dX4_life_8 : decode cX4_life 8 = .ok (.invokestatic 45, 3) := by decide +kernel
theorem dX4_life_11 : decode cX4_life 11 = .ok (.aload_n 0, 1) := by decide +kernel
theorem dX4_life_12 : decode cX4_life 12 = .ok (.getfield 12, 3) := by decide +kernel
theorem dX4_life_15 : decode cX4_life 15 = .ok (.getfield 89, 3) := by decide +kernel
theorem dX4_life_18 : decode cX4_life 18 = .ok (.iload_n 1, 1) := by decide +kernel
theorem dX4_life_19 : decode cX4_life 19 = .ok (.iload_n 2, 1) := by decide +kernel
theorem dX4_life_20 : decode cX4_life 20 = .ok (.iastore, 1) := by decide +kernel
theorem dX4_life_21 : decode cX4_life 21 = .ok (.aload_n 0, 1) := by decide +kernel
theorem dX4_life_22 : decode cX4_life 22 = .ok (.invokevirtual 67, 3) := by decide +kernel
theorem dX4_life_25 : decode cX4_life 25 = .ok (.ireturn, 1) := by decide +kernel
theorem dX4_standIn_0 : decode cX4_standIn 0 = .ok (.iload_n 1, 1) := by decide +kernel
theorem dX4_standIn_1 : decode cX4_standIn 1 = .ok (.invokestatic 41, 3) := by decide +kernel
theorem dX4_standIn_4 : decode cX4_standIn 4 = .ok (.iload_n 2, 1) := by decide +kernel
theorem dX4_standIn_5 : decode cX4_standIn 5 = .ok (.invokestatic 41, 3) := by decide +kernel
theorem dX4_standIn_8 : decode cX4_standIn 8 = .ok (.iload_n 1, 1) := by decide +kernel
theorem dX4_standIn_9 : decode cX4_standIn 9 = .ok (.iload_n 2, 1) := by decide +kernel
theorem dX4_standIn_10 : decode cX4_standIn 10 = .ok (.if_icmp .ne 13, 3) := by decide +kernel
theorem dX4_standIn_13 : decode cX4_standIn 13 = .ok (.new 92, 3) := by decide +kernel
theorem dX4_standIn_16 : decode cX4_standIn 16 = .ok (.dup, 1) := by decide +kernel
theorem dX4_standIn_17 : decode cX4_standIn 17 = .ok (.ldc 94, 2) := by decide +kernel
theorem dX4_standIn_19 : decode cX4_standIn 19 = .ok (.invokespecial 96, 3) := by decide +kernel
theorem dX4_standIn_22 : decode cX4_standIn 22 = .ok (.athrow, 1) := by decide +kernel
theorem dX4_standIn_23 : decode cX4_standIn 23 = .ok (.aload_n 0, 1) := by decide +kernel
theorem dX4_standIn_24 : decode cX4_standIn 24 = .ok (.iload_n 1, 1) := by decide +kernel
theorem dX4_standIn_25 : decode cX4_standIn 25 = .ok (.invokevirtual 49, 3) := by decide +kernel
theorem dX4_standIn_28 : decode cX4_standIn 28 = .ok (.aload_n 0, 1) := by decide +kernel
theorem dX4_standIn_29 : decode cX4_standIn 29 = .ok (.iload_n 2, 1) := by decide +kernel
theorem dX4_standIn_30 : decode cX4_standIn 30 = .ok (.invokevirtual 49, 3) := by decide +kernel
theorem dX4_standIn_33 : decode cX4_standIn 33 = .ok (.aload_n 0, 1) := by decide +kernel
theorem dX4_standIn_34 : decode cX4_standIn 34 = .ok (.getfield 12, 3) := by decide +kernel
theorem dX4_standIn_37 : decode cX4_standIn 37 = .ok (.iload_n 1, 1) := by decide +kernel
theorem dX4_standIn_38 : decode cX4_standIn 38 = .ok (.iload_n 2, 1) := by decide +kernel
theorem dX4_standIn_39 : decode cX4_standIn 39 = .ok (.invokevirtual 97, 3) := by decide +kernel
theorem dX4_standIn_42 : decode cX4_standIn 42 = .ok (.iload_n 3, 1) := by decide +kernel
theorem dX4_standIn_43 : decode cX4_standIn 43 = .ok (.if_icmp .ne 13, 3) := by decide +kernel
theorem dX4_standIn_46 : decode cX4_standIn 46 = .ok (.new 78, 3) := by decide +kernel
theorem dX4_standIn_49 : decode cX4_standIn 49 = .ok (.dup, 1) := by decide +kernel
theorem dX4_standIn_50 : decode cX4_standIn 50 = .ok (.ldc 101, 2) := by decide +kernel
theorem dX4_standIn_52 : decode cX4_standIn 52 = .ok (.invokespecial 82, 3) := by decide +kernel
theorem dX4_standIn_55 : decode cX4_standIn 55 = .ok (.athrow, 1) := by decide +kernel
theorem dX4_standIn_56 : decode cX4_standIn 56 = .ok (.aload_n 0, 1) := by decide +kernel
theorem dX4_standIn_57 : decode cX4_standIn 57 = .ok (.getfield 12, 3) := by decide +kernel
theorem dX4_standIn_60 : decode cX4_standIn 60 = .ok (.iload_n 1, 1) := by decide +kernel
theorem dX4_standIn_61 : decode cX4_standIn 61 = .ok (.iload_n 2, 1) := by decide +kernel
theorem dX4_standIn_62 : decode cX4_standIn 62 = .ok (.iload_n 3, 1) := by decide +kernel
theorem dX4_standIn_63 : decode cX4_standIn 63 = .ok (.invokevirtual 103, 3) := by decide +kernel
theorem dX4_standIn_66 : decode cX4_standIn 66 = .ok (.aload_n 0, 1) := by decide +kernel
theorem dX4_standIn_67 : decode cX4_standIn 67 = .ok (.invokevirtual 67, 3) := by decide +kernel
theorem dX4_standIn_70 : decode cX4_standIn 70 = .ok (.ireturn, 1) := by decide +kernel
theorem dX4_kit_0 : decode cX4_kit 0 = .ok (.iload_n 1, 1) := by decide +kernel
theorem dX4_kit_1 : decode cX4_kit 1 = .ok (.invokestatic 41, 3) := by decide +kernel
theorem dX4_kit_4 : decode cX4_kit 4 = .ok (.iload_n 2, 1) := by decide +kernel
theorem dX4_kit_5 : decode cX4_kit 5 = .ok (.invokestatic 41, 3) := by decide +kernel
theorem dX4_kit_8 : decode cX4_kit 8 = .ok (.iload_n 3, 1) := by decide +kernel
theorem dX4_kit_9 : decode cX4_kit 9 = .ok (.iconst 1, 1) := by decide +kernel
theorem dX4_kit_10 : decode cX4_kit 10 = .ok (.bipush 100, 2) := by decide +kernel
theorem dX4_kit_12 : decode cX4_kit 12 = .ok (.invokestatic 45, 3) := by decide +kernel
theorem dX4_kit_15 : decode cX4_kit 15 = .ok (.aload_n 0, 1) := by decide +kernel
theorem dX4_kit_16 : decode cX4_kit 16 = .ok (.iload_n 2, 1) := by decide +kernel
theorem dX4_kit_17 : decode cX4_kit 17 = .ok (.invokevirtual 49, 3) := by decide +kernel
theorem dX4_kit_20 : decode cX4_kit 20 = .ok (.iload_n 2, 1) := by decide +kernel
theorem dX4_kit_21 : decode cX4_kit 21 = .ok (.iload_n 1, 1) := by decide +kernel
theorem dX4_kit_22 : decode cX4_kit 22 = .ok (.if_icmp .eq 15, 3) := by decide +kernel
theorem dX4_kit_25 : decode cX4_kit 25 = .ok (.aload_n 0, 1) := by decide +kernel
theorem dX4_kit_26 : decode cX4_kit 26 = .ok (.getfield 12, 3) := by decide +kernel
theorem dX4_kit_29 : decode cX4_kit 29 = .ok (.iload_n 1, 1) := by decide +kernel
theorem dX4_kit_30 : decode cX4_kit 30 = .ok (.iload_n 2, 1) := by decide +kernel
theorem dX4_kit_31 : decode cX4_kit 31 = .ok (.invokevirtual 107, 3) := by decide +kernel
theorem dX4_kit_34 : decode cX4_kit 34 = .ok (.ifCond .eq 13, 3) := by decide +kernel
theorem dX4_kit_37 : decode cX4_kit 37 = .ok (.new 78, 3) := by decide +kernel
theorem dX4_kit_40 : decode cX4_kit 40 = .ok (.dup, 1) := by decide +kernel
theorem dX4_kit_41 : decode cX4_kit 41 = .ok (.ldc 110, 2) := by decide +kernel
theorem dX4_kit_43 : decode cX4_kit 43 = .ok (.invokespecial 82, 3) := by decide +kernel
theorem dX4_kit_46 : decode cX4_kit 46 = .ok (.athrow, 1) := by decide +kernel
theorem dX4_kit_47 : decode cX4_kit 47 = .ok (.aload_n 0, 1) := by decide +kernel
theorem dX4_kit_48 : decode cX4_kit 48 = .ok (.getfield 12, 3) := by decide +kernel
theorem dX4_kit_51 : decode cX4_kit 51 = .ok (.iload_n 1, 1) := by decide +kernel
theorem dX4_kit_52 : decode cX4_kit 52 = .ok (.invokevirtual 112, 3) := by decide +kernel
theorem dX4_kit_55 : decode cX4_kit 55 = .ok (.ifCond .ne 36, 3) := by decide +kernel
theorem dX4_kit_58 : decode cX4_kit 58 = .ok (.aload_n 0, 1) := by decide +kernel
theorem dX4_kit_59 : decode cX4_kit 59 = .ok (.getfield 12, 3) := by decide +kernel
theorem dX4_kit_62 : decode cX4_kit 62 = .ok (.iload_n 1, 1) := by decide +kernel
theorem dX4_kit_63 : decode cX4_kit 63 = .ok (.invokevirtual 116, 3) := by decide +kernel
theorem dX4_kit_66 : decode cX4_kit 66 = .ok (.ifCond .ne 25, 3) := by decide +kernel
theorem dX4_kit_69 : decode cX4_kit 69 = .ok (.aload_n 0, 1) := by decide +kernel
theorem dX4_kit_70 : decode cX4_kit 70 = .ok (.getfield 19, 3) := by decide +kernel
theorem dX4_kit_73 : decode cX4_kit 73 = .ok (.iload_n 1, 1) := by decide +kernel
theorem dX4_kit_74 : decode cX4_kit 74 = .ok (.invokevirtual 119, 3) := by decide +kernel
theorem dX4_kit_77 : decode cX4_kit 77 = .ok (.ifCond .ne 14, 3) := by decide +kernel
theorem dX4_kit_80 : decode cX4_kit 80 = .ok (.aload_n 0, 1) := by decide +kernel
theorem dX4_kit_81 : decode cX4_kit 81 = .ok (.getfield 26, 3) := by decide +kernel
theorem dX4_kit_84 : decode cX4_kit 84 = .ok (.iload_n 1, 1) := by decide +kernel
theorem dX4_kit_85 : decode cX4_kit 85 = .ok (.invokevirtual 122, 3) := by decide +kernel
theorem dX4_kit_88 : decode cX4_kit 88 = .ok (.ifCond .eq 13, 3) := by decide +kernel
theorem dX4_kit_91 : decode cX4_kit 91 = .ok (.new 78, 3) := by decide +kernel
theorem dX4_kit_94 : decode cX4_kit 94 = .ok (.dup, 1) := by decide +kernel
theorem dX4_kit_95 : decode cX4_kit 95 = .ok (.ldc 123, 2) := by decide +kernel
theorem dX4_kit_97 : decode cX4_kit 97 = .ok (.invokespecial 82, 3) := by decide +kernel
theorem dX4_kit_100 : decode cX4_kit 100 = .ok (.athrow, 1) := by decide +kernel
theorem dX4_kit_101 : decode cX4_kit 101 = .ok (.aload_n 0, 1) := by decide +kernel
theorem dX4_kit_102 : decode cX4_kit 102 = .ok (.getfield 12, 3) := by decide +kernel
theorem dX4_kit_105 : decode cX4_kit 105 = .ok (.getfield 125, 3) := by decide +kernel
theorem dX4_kit_108 : decode cX4_kit 108 = .ok (.iload_n 1, 1) := by decide +kernel
theorem dX4_kit_109 : decode cX4_kit 109 = .ok (.iaload, 1) := by decide +kernel
theorem dX4_kit_110 : decode cX4_kit 110 = .ok (.iconst 3, 1) := by decide +kernel
theorem dX4_kit_111 : decode cX4_kit 111 = .ok (.if_icmp .lt 13, 3) := by decide +kernel
theorem dX4_kit_114 : decode cX4_kit 114 = .ok (.new 56, 3) := by decide +kernel
theorem dX4_kit_117 : decode cX4_kit 117 = .ok (.dup, 1) := by decide +kernel
theorem dX4_kit_118 : decode cX4_kit 118 = .ok (.ldc 128, 2) := by decide +kernel
theorem dX4_kit_120 : decode cX4_kit 120 = .ok (.invokespecial 60, 3) := by decide +kernel
theorem dX4_kit_123 : decode cX4_kit 123 = .ok (.athrow, 1) := by decide +kernel
theorem dX4_kit_124 : decode cX4_kit 124 = .ok (.aload_n 0, 1) := by decide +kernel
theorem dX4_kit_125 : decode cX4_kit 125 = .ok (.getfield 12, 3) := by decide +kernel
theorem dX4_kit_128 : decode cX4_kit 128 = .ok (.iload_n 1, 1) := by decide +kernel
theorem dX4_kit_129 : decode cX4_kit 129 = .ok (.iload_n 2, 1) := by decide +kernel
theorem dX4_kit_130 : decode cX4_kit 130 = .ok (.iload_n 3, 1) := by decide +kernel
theorem dX4_kit_131 : decode cX4_kit 131 = .ok (.invokevirtual 130, 3) := by decide +kernel
theorem dX4_kit_134 : decode cX4_kit 134 = .ok (.ireturn, 1) := by decide +kernel
theorem dX4_order_0 : decode cX4_order 0 = .ok (.iload_n 1, 1) := by decide +kernel
theorem dX4_order_1 : decode cX4_order 1 = .ok (.invokestatic 37, 3) := by decide +kernel
theorem dX4_order_4 : decode cX4_order 4 = .ok (.iload_n 2, 1) := by decide +kernel
theorem dX4_order_5 : decode cX4_order 5 = .ok (.invokestatic 41, 3) := by decide +kernel
theorem dX4_order_8 : decode cX4_order 8 = .ok (.iload_n 3, 1) := by decide +kernel
theorem dX4_order_9 : decode cX4_order 9 = .ok (.iconst 1, 1) := by decide +kernel
theorem dX4_order_10 : decode cX4_order 10 = .ok (.sipush 10000, 3) := by decide +kernel
theorem dX4_order_13 : decode cX4_order 13 = .ok (.invokestatic 45, 3) := by decide +kernel
theorem dX4_order_16 : decode cX4_order 16 = .ok (.iload 4, 2) := by decide +kernel
theorem dX4_order_18 : decode cX4_order 18 = .ok (.iconst 1, 1) := by decide +kernel
theorem dX4_order_19 : decode cX4_order 19 = .ok (.bipush 9, 2) := by decide +kernel
theorem dX4_order_21 : decode cX4_order 21 = .ok (.invokestatic 45, 3) := by decide +kernel
theorem dX4_order_24 : decode cX4_order 24 = .ok (.aload_n 0, 1) := by decide +kernel
theorem dX4_order_25 : decode cX4_order 25 = .ok (.getfield 26, 3) := by decide +kernel
theorem dX4_order_28 : decode cX4_order 28 = .ok (.getfield 133, 3) := by decide +kernel
theorem dX4_order_31 : decode cX4_order 31 = .ok (.bipush 10, 2) := by decide +kernel
theorem dX4_order_33 : decode cX4_order 33 = .ok (.if_icmp .lt 13, 3) := by decide +kernel
theorem dX4_order_36 : decode cX4_order 36 = .ok (.new 56, 3) := by decide +kernel
theorem dX4_order_39 : decode cX4_order 39 = .ok (.dup, 1) := by decide +kernel
theorem dX4_order_40 : decode cX4_order 40 = .ok (.ldc 134, 2) := by decide +kernel
theorem dX4_order_42 : decode cX4_order 42 = .ok (.invokespecial 60, 3) := by decide +kernel
theorem dX4_order_45 : decode cX4_order 45 = .ok (.athrow, 1) := by decide +kernel
theorem dX4_order_46 : decode cX4_order 46 = .ok (.aload_n 0, 1) := by decide +kernel
theorem dX4_order_47 : decode cX4_order 47 = .ok (.getfield 26, 3) := by decide +kernel
theorem dX4_order_50 : decode cX4_order 50 = .ok (.iload_n 1, 1) := by decide +kernel
theorem dX4_order_51 : decode cX4_order 51 = .ok (.iload_n 2, 1) := by decide +kernel
theorem dX4_order_52 : decode cX4_order 52 = .ok (.iload_n 3, 1) := by decide +kernel
theorem dX4_order_53 : decode cX4_order 53 = .ok (.iload 4, 2) := by decide +kernel
theorem dX4_order_55 : decode cX4_order 55 = .ok (.invokevirtual 136, 3) := by decide +kernel
theorem dX4_order_58 : decode cX4_order 58 = .ok (.istore 5, 2) := by decide +kernel
theorem dX4_order_60 : decode cX4_order 60 = .ok (.aload_n 0, 1) := by decide +kernel
theorem dX4_order_61 : decode cX4_order 61 = .ok (.iload 5, 2) := by decide +kernel
theorem dX4_order_63 : decode cX4_order 63 = .ok (.invokevirtual 140, 3) := by decide +kernel
theorem dX4_order_66 : decode cX4_order 66 = .ok (.ifCond .ne 5, 3) := by decide +kernel
theorem dX4_order_69 : decode cX4_order 69 = .ok (.iconst (-1), 1) := by decide +kernel
theorem dX4_order_70 : decode cX4_order 70 = .ok (.ireturn, 1) := by decide +kernel
theorem dX4_order_71 : decode cX4_order 71 = .ok (.aload_n 0, 1) := by decide +kernel
theorem dX4_order_72 : decode cX4_order 72 = .ok (.getfield 26, 3) := by decide +kernel
theorem dX4_order_75 : decode cX4_order 75 = .ok (.invokevirtual 143, 3) := by decide +kernel
theorem dX4_order_78 : decode cX4_order 78 = .ok (.aload_n 0, 1) := by decide +kernel
theorem dX4_order_79 : decode cX4_order 79 = .ok (.invokevirtual 146, 3) := by decide +kernel
theorem dX4_order_82 : decode cX4_order 82 = .ok (.iload 5, 2) := by decide +kernel
theorem dX4_order_84 : decode cX4_order 84 = .ok (.ireturn, 1) := by decide +kernel
theorem dX4_close_0 : decode cX4_close 0 = .ok (.aload_n 0, 1) := by decide +kernel
theorem dX4_close_1 : decode cX4_close 1 = .ok (.iload_n 1, 1) := by decide +kernel
theorem dX4_close_2 : decode cX4_close 2 = .ok (.invokevirtual 149, 3) := by decide +kernel
theorem dX4_close_5 : decode cX4_close 5 = .ok (.aload_n 0, 1) := by decide +kernel
theorem dX4_close_6 : decode cX4_close 6 = .ok (.getfield 26, 3) := by decide +kernel
theorem dX4_close_9 : decode cX4_close 9 = .ok (.getfield 152, 3) := by decide +kernel
theorem dX4_close_12 : decode cX4_close 12 = .ok (.iload_n 1, 1) := by decide +kernel
theorem dX4_close_13 : decode cX4_close 13 = .ok (.iaload, 1) := by decide +kernel
theorem dX4_close_14 : decode cX4_close 14 = .ok (.iconst 2, 1) := by decide +kernel
theorem dX4_close_15 : decode cX4_close 15 = .ok (.if_icmp .ne 13, 3) := by decide +kernel
theorem dX4_close_18 : decode cX4_close 18 = .ok (.new 78, 3) := by decide +kernel
theorem dX4_close_21 : decode cX4_close 21 = .ok (.dup, 1) := by decide +kernel
theorem dX4_close_22 : decode cX4_close 22 = .ok (.ldc 155, 2) := by decide +kernel
theorem dX4_close_24 : decode cX4_close 24 = .ok (.invokespecial 82, 3) := by decide +kernel
theorem dX4_close_27 : decode cX4_close 27 = .ok (.athrow, 1) := by decide +kernel
theorem dX4_close_28 : decode cX4_close 28 = .ok (.aload_n 0, 1) := by decide +kernel
theorem dX4_close_29 : decode cX4_close 29 = .ok (.getfield 26, 3) := by decide +kernel
theorem dX4_close_32 : decode cX4_close 32 = .ok (.getfield 152, 3) := by decide +kernel
theorem dX4_close_35 : decode cX4_close 35 = .ok (.iload_n 1, 1) := by decide +kernel
theorem dX4_close_36 : decode cX4_close 36 = .ok (.iconst 2, 1) := by decide +kernel
theorem dX4_close_37 : decode cX4_close 37 = .ok (.iastore, 1) := by decide +kernel
theorem dX4_close_38 : decode cX4_close 38 = .ok (.aload_n 0, 1) := by decide +kernel
theorem dX4_close_39 : decode cX4_close 39 = .ok (.invokevirtual 67, 3) := by decide +kernel
theorem dX4_close_42 : decode cX4_close 42 = .ok (.ireturn, 1) := by decide +kernel
theorem dX4_promise_0 : decode cX4_promise 0 = .ok (.iload_n 1, 1) := by decide +kernel
theorem dX4_promise_1 : decode cX4_promise 1 = .ok (.invokestatic 41, 3) := by decide +kernel
theorem dX4_promise_4 : decode cX4_promise 4 = .ok (.iload_n 2, 1) := by decide +kernel
theorem dX4_promise_5 : decode cX4_promise 5 = .ok (.invokestatic 37, 3) := by decide +kernel
theorem dX4_promise_8 : decode cX4_promise 8 = .ok (.aload_n 0, 1) := by decide +kernel
theorem dX4_promise_9 : decode cX4_promise 9 = .ok (.iload_n 1, 1) := by decide +kernel
theorem dX4_promise_10 : decode cX4_promise 10 = .ok (.iload_n 2, 1) := by decide +kernel
theorem dX4_promise_11 : decode cX4_promise 11 = .ok (.invokevirtual 157, 3) := by decide +kernel
theorem dX4_promise_14 : decode cX4_promise 14 = .ok (.ireturn, 1) := by decide +kernel
theorem dX4_share_0 : decode cX4_share 0 = .ok (.iload_n 1, 1) := by decide +kernel
theorem dX4_share_1 : decode cX4_share 1 = .ok (.invokestatic 41, 3) := by decide +kernel
theorem dX4_share_4 : decode cX4_share 4 = .ok (.iload_n 2, 1) := by decide +kernel
theorem dX4_share_5 : decode cX4_share 5 = .ok (.invokestatic 37, 3) := by decide +kernel
theorem dX4_share_8 : decode cX4_share 8 = .ok (.aload_n 0, 1) := by decide +kernel
theorem dX4_share_9 : decode cX4_share 9 = .ok (.getfield 19, 3) := by decide +kernel
theorem dX4_share_12 : decode cX4_share 12 = .ok (.aload_n 0, 1) := by decide +kernel
theorem dX4_share_13 : decode cX4_share 13 = .ok (.iload_n 1, 1) := by decide +kernel
theorem dX4_share_14 : decode cX4_share 14 = .ok (.iload_n 2, 1) := by decide +kernel
theorem dX4_share_15 : decode cX4_share 15 = .ok (.invokevirtual 161, 3) := by decide +kernel
theorem dX4_share_18 : decode cX4_share 18 = .ok (.invokevirtual 164, 3) := by decide +kernel
theorem dX4_share_21 : decode cX4_share 21 = .ok (.istore_n 3, 1) := by decide +kernel
theorem dX4_share_22 : decode cX4_share 22 = .ok (.iload_n 3, 1) := by decide +kernel
theorem dX4_share_23 : decode cX4_share 23 = .ok (.ifCond .ne 13, 3) := by decide +kernel
theorem dX4_share_26 : decode cX4_share 26 = .ok (.new 168, 3) := by decide +kernel
theorem dX4_share_29 : decode cX4_share 29 = .ok (.dup, 1) := by decide +kernel
theorem dX4_share_30 : decode cX4_share 30 = .ok (.ldc 170, 2) := by decide +kernel
theorem dX4_share_32 : decode cX4_share 32 = .ok (.invokespecial 172, 3) := by decide +kernel
theorem dX4_share_35 : decode cX4_share 35 = .ok (.athrow, 1) := by decide +kernel
theorem dX4_share_36 : decode cX4_share 36 = .ok (.ldc2_w 173, 3) := by decide +kernel
theorem dX4_share_39 : decode cX4_share 39 = .ok (.aload_n 0, 1) := by decide +kernel
theorem dX4_share_40 : decode cX4_share 40 = .ok (.iload_n 1, 1) := by decide +kernel
theorem dX4_share_41 : decode cX4_share 41 = .ok (.iload_n 2, 1) := by decide +kernel
theorem dX4_share_42 : decode cX4_share 42 = .ok (.invokevirtual 157, 3) := by decide +kernel
theorem dX4_share_45 : decode cX4_share 45 = .ok (.i2l, 1) := by decide +kernel
theorem dX4_share_46 : decode cX4_share 46 = .ok (.lmul, 1) := by decide +kernel
theorem dX4_share_47 : decode cX4_share 47 = .ok (.iload_n 3, 1) := by decide +kernel
theorem dX4_share_48 : decode cX4_share 48 = .ok (.i2l, 1) := by decide +kernel
theorem dX4_share_49 : decode cX4_share 49 = .ok (.ldiv, 1) := by decide +kernel
theorem dX4_share_50 : decode cX4_share 50 = .ok (.l2i, 1) := by decide +kernel
theorem dX4_share_51 : decode cX4_share 51 = .ok (.ireturn, 1) := by decide +kernel
theorem dX4_bars_0 : decode cX4_bars 0 = .ok (.iload_n 1, 1) := by decide +kernel
theorem dX4_bars_1 : decode cX4_bars 1 = .ok (.invokestatic 41, 3) := by decide +kernel
theorem dX4_bars_4 : decode cX4_bars 4 = .ok (.iload_n 2, 1) := by decide +kernel
theorem dX4_bars_5 : decode cX4_bars 5 = .ok (.invokestatic 37, 3) := by decide +kernel
theorem dX4_bars_8 : decode cX4_bars 8 = .ok (.iload_n 3, 1) := by decide +kernel
theorem dX4_bars_9 : decode cX4_bars 9 = .ok (.invokestatic 175, 3) := by decide +kernel
theorem dX4_bars_12 : decode cX4_bars 12 = .ok (.aload_n 0, 1) := by decide +kernel
theorem dX4_bars_13 : decode cX4_bars 13 = .ok (.iload_n 1, 1) := by decide +kernel
theorem dX4_bars_14 : decode cX4_bars 14 = .ok (.invokevirtual 49, 3) := by decide +kernel
theorem dX4_bars_17 : decode cX4_bars 17 = .ok (.aload_n 0, 1) := by decide +kernel
theorem dX4_bars_18 : decode cX4_bars 18 = .ok (.getfield 33, 3) := by decide +kernel
theorem dX4_bars_21 : decode cX4_bars 21 = .ok (.aload_n 0, 1) := by decide +kernel
theorem dX4_bars_22 : decode cX4_bars 22 = .ok (.iload_n 1, 1) := by decide +kernel
theorem dX4_bars_23 : decode cX4_bars 23 = .ok (.iload_n 2, 1) := by decide +kernel
theorem dX4_bars_24 : decode cX4_bars 24 = .ok (.invokevirtual 161, 3) := by decide +kernel
theorem dX4_bars_27 : decode cX4_bars 27 = .ok (.iconst (-1), 1) := by decide +kernel
theorem dX4_bars_28 : decode cX4_bars 28 = .ok (.invokevirtual 178, 3) := by decide +kernel
theorem dX4_bars_31 : decode cX4_bars 31 = .ok (.istore 4, 2) := by decide +kernel
theorem dX4_bars_33 : decode cX4_bars 33 = .ok (.iconst 0, 1) := by decide +kernel
theorem dX4_bars_34 : decode cX4_bars 34 = .ok (.istore 5, 2) := by decide +kernel
theorem dX4_bars_36 : decode cX4_bars 36 = .ok (.iconst 0, 1) := by decide +kernel
theorem dX4_bars_37 : decode cX4_bars 37 = .ok (.istore 6, 2) := by decide +kernel
theorem dX4_bars_39 : decode cX4_bars 39 = .ok (.iload 6, 2) := by decide +kernel
theorem dX4_bars_41 : decode cX4_bars 41 = .ok (.aload_n 0, 1) := by decide +kernel
theorem dX4_bars_42 : decode cX4_bars 42 = .ok (.getfield 26, 3) := by decide +kernel
theorem dX4_bars_45 : decode cX4_bars 45 = .ok (.getfield 133, 3) := by decide +kernel
theorem dX4_bars_48 : decode cX4_bars 48 = .ok (.if_icmp .ge 32, 3) := by decide +kernel
theorem dX4_bars_51 : decode cX4_bars 51 = .ok (.aload_n 0, 1) := by decide +kernel
theorem dX4_bars_52 : decode cX4_bars 52 = .ok (.iload 6, 2) := by decide +kernel
theorem dX4_bars_54 : decode cX4_bars 54 = .ok (.iload 4, 2) := by decide +kernel
theorem dX4_bars_56 : decode cX4_bars 56 = .ok (.invokevirtual 181, 3) := by decide +kernel
theorem dX4_bars_59 : decode cX4_bars 59 = .ok (.ifCond .eq 15, 3) := by decide +kernel
theorem dX4_bars_62 : decode cX4_bars 62 = .ok (.iload 5, 2) := by decide +kernel
theorem dX4_bars_64 : decode cX4_bars 64 = .ok (.iload_n 3, 1) := by decide +kernel
theorem dX4_bars_65 : decode cX4_bars 65 = .ok (.if_icmp .ne 6, 3) := by decide +kernel
theorem dX4_bars_68 : decode cX4_bars 68 = .ok (.iload 6, 2) := by decide +kernel
theorem dX4_bars_70 : decode cX4_bars 70 = .ok (.ireturn, 1) := by decide +kernel
theorem dX4_bars_71 : decode cX4_bars 71 = .ok (.iinc 5 1, 3) := by decide +kernel
theorem dX4_bars_74 : decode cX4_bars 74 = .ok (.iinc 6 1, 3) := by decide +kernel
theorem dX4_bars_77 : decode cX4_bars 77 = .ok (.goto (-38), 3) := by decide +kernel
theorem dX4_bars_80 : decode cX4_bars 80 = .ok (.iconst (-1), 1) := by decide +kernel
theorem dX4_bars_81 : decode cX4_bars 81 = .ok (.ireturn, 1) := by decide +kernel
theorem dX4_flow_0 : decode cX4_flow 0 = .ok (.aload_n 0, 1) := by decide +kernel
theorem dX4_flow_1 : decode cX4_flow 1 = .ok (.iload_n 1, 1) := by decide +kernel
theorem dX4_flow_2 : decode cX4_flow 2 = .ok (.invokevirtual 149, 3) := by decide +kernel
theorem dX4_flow_5 : decode cX4_flow 5 = .ok (.iload_n 2, 1) := by decide +kernel
theorem dX4_flow_6 : decode cX4_flow 6 = .ok (.invokestatic 175, 3) := by decide +kernel
theorem dX4_flow_9 : decode cX4_flow 9 = .ok (.iload_n 3, 1) := by decide +kernel
theorem dX4_flow_10 : decode cX4_flow 10 = .ok (.iconst 0, 1) := by decide +kernel
theorem dX4_flow_11 : decode cX4_flow 11 = .ok (.iconst 2, 1) := by decide +kernel
theorem dX4_flow_12 : decode cX4_flow 12 = .ok (.invokestatic 45, 3) := by decide +kernel
theorem dX4_flow_15 : decode cX4_flow 15 = .ok (.aload_n 0, 1) := by decide +kernel
theorem dX4_flow_16 : decode cX4_flow 16 = .ok (.getfield 26, 3) := by decide +kernel
theorem dX4_flow_19 : decode cX4_flow 19 = .ok (.getfield 152, 3) := by decide +kernel
theorem dX4_flow_22 : decode cX4_flow 22 = .ok (.iload_n 1, 1) := by decide +kernel
theorem dX4_flow_23 : decode cX4_flow 23 = .ok (.iaload, 1) := by decide +kernel
theorem dX4_flow_24 : decode cX4_flow 24 = .ok (.ifCond .eq 13, 3) := by decide +kernel
theorem dX4_flow_27 : decode cX4_flow 27 = .ok (.new 78, 3) := by decide +kernel
theorem dX4_flow_30 : decode cX4_flow 30 = .ok (.dup, 1) := by decide +kernel
theorem dX4_flow_31 : decode cX4_flow 31 = .ok (.ldc 184, 2) := by decide +kernel
theorem dX4_flow_33 : decode cX4_flow 33 = .ok (.invokespecial 82, 3) := by decide +kernel
theorem dX4_flow_36 : decode cX4_flow 36 = .ok (.athrow, 1) := by decide +kernel
theorem dX4_flow_37 : decode cX4_flow 37 = .ok (.iconst 0, 1) := by decide +kernel
theorem dX4_flow_38 : decode cX4_flow 38 = .ok (.istore 4, 2) := by decide +kernel
theorem dX4_flow_40 : decode cX4_flow 40 = .ok (.iconst 0, 1) := by decide +kernel
theorem dX4_flow_41 : decode cX4_flow 41 = .ok (.istore 5, 2) := by decide +kernel
theorem dX4_flow_43 : decode cX4_flow 43 = .ok (.iload 5, 2) := by decide +kernel
theorem dX4_flow_45 : decode cX4_flow 45 = .ok (.aload_n 0, 1) := by decide +kernel
theorem dX4_flow_46 : decode cX4_flow 46 = .ok (.iload_n 1, 1) := by decide +kernel
theorem dX4_flow_47 : decode cX4_flow 47 = .ok (.invokevirtual 186, 3) := by decide +kernel
theorem dX4_flow_50 : decode cX4_flow 50 = .ok (.if_icmp .ge 93, 3) := by decide +kernel
theorem dX4_flow_53 : decode cX4_flow 53 = .ok (.iload_n 1, 1) := by decide +kernel
theorem dX4_flow_54 : decode cX4_flow 54 = .ok (.iload 5, 2) := by decide +kernel
theorem dX4_flow_56 : decode cX4_flow 56 = .ok (.invokestatic 189, 3) := by decide +kernel
theorem dX4_flow_59 : decode cX4_flow 59 = .ok (.istore 6, 2) := by decide +kernel
theorem dX4_flow_61 : decode cX4_flow 61 = .ok (.aload_n 0, 1) := by decide +kernel
theorem dX4_flow_62 : decode cX4_flow 62 = .ok (.getfield 33, 3) := by decide +kernel
theorem dX4_flow_65 : decode cX4_flow 65 = .ok (.iload 6, 2) := by decide +kernel
theorem dX4_flow_67 : decode cX4_flow 67 = .ok (.invokevirtual 192, 3) := by decide +kernel
theorem dX4_flow_70 : decode cX4_flow 70 = .ok (.istore 7, 2) := by decide +kernel
theorem dX4_flow_72 : decode cX4_flow 72 = .ok (.iload_n 2, 1) := by decide +kernel
theorem dX4_flow_73 : decode cX4_flow 73 = .ok (.iload 4, 2) := by decide +kernel
theorem dX4_flow_75 : decode cX4_flow 75 = .ok (.isub, 1) := by decide +kernel
theorem dX4_flow_76 : decode cX4_flow 76 = .ok (.iload 7, 2) := by decide +kernel
theorem dX4_flow_78 : decode cX4_flow 78 = .ok (.if_icmp .ge 52, 3) := by decide +kernel
theorem dX4_flow_81 : decode cX4_flow 81 = .ok (.iload_n 3, 1) := by decide +kernel
theorem dX4_flow_82 : decode cX4_flow 82 = .ok (.iconst 1, 1) := by decide +kernel
theorem dX4_flow_83 : decode cX4_flow 83 = .ok (.if_icmp .ne 24, 3) := by decide +kernel
theorem dX4_flow_86 : decode cX4_flow 86 = .ok (.aload_n 0, 1) := by decide +kernel
theorem dX4_flow_87 : decode cX4_flow 87 = .ok (.getfield 12, 3) := by decide +kernel
theorem dX4_flow_90 : decode cX4_flow 90 = .ok (.aload_n 0, 1) := by decide +kernel
theorem dX4_flow_91 : decode cX4_flow 91 = .ok (.getfield 26, 3) := by decide +kernel
theorem dX4_flow_94 : decode cX4_flow 94 = .ok (.getfield 195, 3) := by decide +kernel
theorem dX4_flow_97 : decode cX4_flow 97 = .ok (.iload_n 1, 1) := by decide +kernel
theorem dX4_flow_98 : decode cX4_flow 98 = .ok (.iaload, 1) := by decide +kernel
theorem dX4_flow_99 : decode cX4_flow 99 = .ok (.iload 5, 2) := by decide +kernel
theorem dX4_flow_101 : decode cX4_flow 101 = .ok (.invokevirtual 197, 3) := by decide +kernel
theorem dX4_flow_104 : decode cX4_flow 104 = .ok (.goto 25, 3) := by decide +kernel
theorem dX4_flow_107 : decode cX4_flow 107 = .ok (.aload_n 0, 1) := by decide +kernel
theorem dX4_flow_108 : decode cX4_flow 108 = .ok (.getfield 33, 3) := by decide +kernel
theorem dX4_flow_111 : decode cX4_flow 111 = .ok (.iload 6, 2) := by decide +kernel
theorem dX4_flow_113 : decode cX4_flow 113 = .ok (.iload_n 2, 1) := by decide +kernel
theorem dX4_flow_114 : decode cX4_flow 114 = .ok (.iload 4, 2) := by decide +kernel
theorem dX4_flow_116 : decode cX4_flow 116 = .ok (.isub, 1) := by decide +kernel
theorem dX4_flow_117 : decode cX4_flow 117 = .ok (.iload_n 3, 1) := by decide +kernel
theorem dX4_flow_118 : decode cX4_flow 118 = .ok (.ifCond .ne 7, 3) := by decide +kernel
theorem dX4_flow_121 : decode cX4_flow 121 = .ok (.iconst 1, 1) := by decide +kernel
theorem dX4_flow_122 : decode cX4_flow 122 = .ok (.goto 4, 3) := by decide +kernel
theorem dX4_flow_125 : decode cX4_flow 125 = .ok (.iconst 0, 1) := by decide +kernel
theorem dX4_flow_126 : decode cX4_flow 126 = .ok (.invokevirtual 200, 3) := by decide +kernel
theorem dX4_flow_129 : decode cX4_flow 129 = .ok (.ireturn, 1) := by decide +kernel
theorem dX4_flow_130 : decode cX4_flow 130 = .ok (.iload 4, 2) := by decide +kernel
theorem dX4_flow_132 : decode cX4_flow 132 = .ok (.iload 7, 2) := by decide +kernel
theorem dX4_flow_134 : decode cX4_flow 134 = .ok (.iadd, 1) := by decide +kernel
theorem dX4_flow_135 : decode cX4_flow 135 = .ok (.istore 4, 2) := by decide +kernel
theorem dX4_flow_137 : decode cX4_flow 137 = .ok (.iinc 5 1, 3) := by decide +kernel
theorem dX4_flow_140 : decode cX4_flow 140 = .ok (.goto (-97), 3) := by decide +kernel
theorem dX4_flow_143 : decode cX4_flow 143 = .ok (.iconst (-1), 1) := by decide +kernel
theorem dX4_flow_144 : decode cX4_flow 144 = .ok (.ireturn, 1) := by decide +kernel
theorem dX4_state_0 : decode cX4_state 0 = .ok (.aload_n 0, 1) := by decide +kernel
theorem dX4_state_1 : decode cX4_state 1 = .ok (.iload_n 1, 1) := by decide +kernel
theorem dX4_state_2 : decode cX4_state 2 = .ok (.invokevirtual 149, 3) := by decide +kernel
theorem dX4_state_5 : decode cX4_state 5 = .ok (.aload_n 0, 1) := by decide +kernel
theorem dX4_state_6 : decode cX4_state 6 = .ok (.getfield 26, 3) := by decide +kernel
theorem dX4_state_9 : decode cX4_state 9 = .ok (.getfield 152, 3) := by decide +kernel
theorem dX4_state_12 : decode cX4_state 12 = .ok (.iload_n 1, 1) := by decide +kernel
theorem dX4_state_13 : decode cX4_state 13 = .ok (.iaload, 1) := by decide +kernel
theorem dX4_state_14 : decode cX4_state 14 = .ok (.ireturn, 1) := by decide +kernel
theorem dX4_left_0 : decode cX4_left 0 = .ok (.aload_n 0, 1) := by decide +kernel
theorem dX4_left_1 : decode cX4_left 1 = .ok (.iload_n 1, 1) := by decide +kernel
theorem dX4_left_2 : decode cX4_left 2 = .ok (.invokevirtual 71, 3) := by decide +kernel
theorem dX4_left_5 : decode cX4_left 5 = .ok (.aload_n 0, 1) := by decide +kernel
theorem dX4_left_6 : decode cX4_left 6 = .ok (.getfield 33, 3) := by decide +kernel
theorem dX4_left_9 : decode cX4_left 9 = .ok (.getfield 204, 3) := by decide +kernel
theorem dX4_left_12 : decode cX4_left 12 = .ok (.iload_n 1, 1) := by decide +kernel
theorem dX4_left_13 : decode cX4_left 13 = .ok (.iaload, 1) := by decide +kernel
theorem dX4_left_14 : decode cX4_left 14 = .ok (.ireturn, 1) := by decide +kernel
theorem dX4_count_0 : decode cX4_count 0 = .ok (.iload_n 1, 1) := by decide +kernel
theorem dX4_count_1 : decode cX4_count 1 = .ok (.tableswitch 86 0 5 #[39, 47, 55, 64, 73, 81], 39) := by decide +kernel
theorem dX4_count_40 : decode cX4_count 40 = .ok (.aload_n 0, 1) := by decide +kernel
theorem dX4_count_41 : decode cX4_count 41 = .ok (.getfield 19, 3) := by decide +kernel
theorem dX4_count_44 : decode cX4_count 44 = .ok (.getfield 52, 3) := by decide +kernel
theorem dX4_count_47 : decode cX4_count 47 = .ok (.ireturn, 1) := by decide +kernel
theorem dX4_count_48 : decode cX4_count 48 = .ok (.aload_n 0, 1) := by decide +kernel
theorem dX4_count_49 : decode cX4_count 49 = .ok (.getfield 26, 3) := by decide +kernel
theorem dX4_count_52 : decode cX4_count 52 = .ok (.getfield 133, 3) := by decide +kernel
theorem dX4_count_55 : decode cX4_count 55 = .ok (.ireturn, 1) := by decide +kernel
theorem dX4_count_56 : decode cX4_count 56 = .ok (.aload_n 0, 1) := by decide +kernel
theorem dX4_count_57 : decode cX4_count 57 = .ok (.getfield 26, 3) := by decide +kernel
theorem dX4_count_60 : decode cX4_count 60 = .ok (.iconst 0, 1) := by decide +kernel
theorem dX4_count_61 : decode cX4_count 61 = .ok (.invokevirtual 207, 3) := by decide +kernel
theorem dX4_count_64 : decode cX4_count 64 = .ok (.ireturn, 1) := by decide +kernel
theorem dX4_count_65 : decode cX4_count 65 = .ok (.aload_n 0, 1) := by decide +kernel
theorem dX4_count_66 : decode cX4_count 66 = .ok (.getfield 26, 3) := by decide +kernel
theorem dX4_count_69 : decode cX4_count 69 = .ok (.iconst 1, 1) := by decide +kernel
theorem dX4_count_70 : decode cX4_count 70 = .ok (.invokevirtual 207, 3) := by decide +kernel
theorem dX4_count_73 : decode cX4_count 73 = .ok (.ireturn, 1) := by decide +kernel
theorem dX4_count_74 : decode cX4_count 74 = .ok (.aload_n 0, 1) := by decide +kernel
theorem dX4_count_75 : decode cX4_count 75 = .ok (.getfield 19, 3) := by decide +kernel
theorem dX4_count_78 : decode cX4_count 78 = .ok (.invokevirtual 210, 3) := by decide +kernel
theorem dX4_count_81 : decode cX4_count 81 = .ok (.ireturn, 1) := by decide +kernel
theorem dX4_count_82 : decode cX4_count 82 = .ok (.aload_n 0, 1) := by decide +kernel
theorem dX4_count_83 : decode cX4_count 83 = .ok (.invokevirtual 213, 3) := by decide +kernel
theorem dX4_count_86 : decode cX4_count 86 = .ok (.ireturn, 1) := by decide +kernel
theorem dX4_count_87 : decode cX4_count 87 = .ok (.iconst (-1), 1) := by decide +kernel
theorem dX4_count_88 : decode cX4_count 88 = .ok (.ireturn, 1) := by decide +kernel
theorem dX4_needWithin_0 : decode cX4_needWithin 0 = .ok (.iload_n 0, 1) := by decide +kernel
theorem dX4_needWithin_1 : decode cX4_needWithin 1 = .ok (.iload_n 1, 1) := by decide +kernel
theorem dX4_needWithin_2 : decode cX4_needWithin 2 = .ok (.if_icmp .lt 8, 3) := by decide +kernel
theorem dX4_needWithin_5 : decode cX4_needWithin 5 = .ok (.iload_n 0, 1) := by decide +kernel
theorem dX4_needWithin_6 : decode cX4_needWithin 6 = .ok (.iload_n 2, 1) := by decide +kernel
theorem dX4_needWithin_7 : decode cX4_needWithin 7 = .ok (.if_icmp .le 13, 3) := by decide +kernel
theorem dX4_needWithin_10 : decode cX4_needWithin 10 = .ok (.new 92, 3) := by decide +kernel
theorem dX4_needWithin_13 : decode cX4_needWithin 13 = .ok (.dup, 1) := by decide +kernel
theorem dX4_needWithin_14 : decode cX4_needWithin 14 = .ok (.ldc 216, 2) := by decide +kernel
theorem dX4_needWithin_16 : decode cX4_needWithin 16 = .ok (.invokespecial 96, 3) := by decide +kernel
theorem dX4_needWithin_19 : decode cX4_needWithin 19 = .ok (.athrow, 1) := by decide +kernel
theorem dX4_needWithin_20 : decode cX4_needWithin 20 = .ok (.return_, 1) := by decide +kernel
theorem dX4_needGood_0 : decode cX4_needGood 0 = .ok (.iload_n 0, 1) := by decide +kernel
theorem dX4_needGood_1 : decode cX4_needGood 1 = .ok (.iconst 0, 1) := by decide +kernel
theorem dX4_needGood_2 : decode cX4_needGood 2 = .ok (.iconst 5, 1) := by decide +kernel
theorem dX4_needGood_3 : decode cX4_needGood 3 = .ok (.invokestatic 45, 3) := by decide +kernel
theorem dX4_needGood_6 : decode cX4_needGood 6 = .ok (.return_, 1) := by decide +kernel
theorem dX4_needTime_0 : decode cX4_needTime 0 = .ok (.iload_n 0, 1) := by decide +kernel
theorem dX4_needTime_1 : decode cX4_needTime 1 = .ok (.iconst 0, 1) := by decide +kernel
theorem dX4_needTime_2 : decode cX4_needTime 2 = .ok (.bipush 99, 2) := by decide +kernel
theorem dX4_needTime_4 : decode cX4_needTime 4 = .ok (.invokestatic 45, 3) := by decide +kernel
theorem dX4_needTime_7 : decode cX4_needTime 7 = .ok (.return_, 1) := by decide +kernel
theorem dX4_needNotBelowZero_0 : decode cX4_needNotBelowZero 0 = .ok (.iload_n 0, 1) := by decide +kernel
theorem dX4_needNotBelowZero_1 : decode cX4_needNotBelowZero 1 = .ok (.ifCond .ge 13, 3) := by decide +kernel
theorem dX4_needNotBelowZero_4 : decode cX4_needNotBelowZero 4 = .ok (.new 92, 3) := by decide +kernel
theorem dX4_needNotBelowZero_7 : decode cX4_needNotBelowZero 7 = .ok (.dup, 1) := by decide +kernel
theorem dX4_needNotBelowZero_8 : decode cX4_needNotBelowZero 8 = .ok (.ldc 218, 2) := by decide +kernel
theorem dX4_needNotBelowZero_10 : decode cX4_needNotBelowZero 10 = .ok (.invokespecial 96, 3) := by decide +kernel
theorem dX4_needNotBelowZero_13 : decode cX4_needNotBelowZero 13 = .ok (.athrow, 1) := by decide +kernel
theorem dX4_needNotBelowZero_14 : decode cX4_needNotBelowZero 14 = .ok (.return_, 1) := by decide +kernel
theorem dX4_needArrival_0 : decode cX4_needArrival 0 = .ok (.iload_n 1, 1) := by decide +kernel
theorem dX4_needArrival_1 : decode cX4_needArrival 1 = .ok (.ifCond .lt 14, 3) := by decide +kernel
theorem dX4_needArrival_4 : decode cX4_needArrival 4 = .ok (.iload_n 1, 1) := by decide +kernel
theorem dX4_needArrival_5 : decode cX4_needArrival 5 = .ok (.aload_n 0, 1) := by decide +kernel
theorem dX4_needArrival_6 : decode cX4_needArrival 6 = .ok (.getfield 19, 3) := by decide +kernel
theorem dX4_needArrival_9 : decode cX4_needArrival 9 = .ok (.getfield 52, 3) := by decide +kernel
theorem dX4_needArrival_12 : decode cX4_needArrival 12 = .ok (.if_icmp .lt 13, 3) := by decide +kernel
theorem dX4_needArrival_15 : decode cX4_needArrival 15 = .ok (.new 220, 3) := by decide +kernel
theorem dX4_needArrival_18 : decode cX4_needArrival 18 = .ok (.dup, 1) := by decide +kernel
theorem dX4_needArrival_19 : decode cX4_needArrival 19 = .ok (.ldc 222, 2) := by decide +kernel
theorem dX4_needArrival_21 : decode cX4_needArrival 21 = .ok (.invokespecial 224, 3) := by decide +kernel
theorem dX4_needArrival_24 : decode cX4_needArrival 24 = .ok (.athrow, 1) := by decide +kernel
theorem dX4_needArrival_25 : decode cX4_needArrival 25 = .ok (.return_, 1) := by decide +kernel
theorem dX4_needOrder_0 : decode cX4_needOrder 0 = .ok (.iload_n 1, 1) := by decide +kernel
theorem dX4_needOrder_1 : decode cX4_needOrder 1 = .ok (.ifCond .lt 14, 3) := by decide +kernel
theorem dX4_needOrder_4 : decode cX4_needOrder 4 = .ok (.iload_n 1, 1) := by decide +kernel
theorem dX4_needOrder_5 : decode cX4_needOrder 5 = .ok (.aload_n 0, 1) := by decide +kernel
theorem dX4_needOrder_6 : decode cX4_needOrder 6 = .ok (.getfield 26, 3) := by decide +kernel
theorem dX4_needOrder_9 : decode cX4_needOrder 9 = .ok (.getfield 133, 3) := by decide +kernel
theorem dX4_needOrder_12 : decode cX4_needOrder 12 = .ok (.if_icmp .lt 13, 3) := by decide +kernel
theorem dX4_needOrder_15 : decode cX4_needOrder 15 = .ok (.new 220, 3) := by decide +kernel
theorem dX4_needOrder_18 : decode cX4_needOrder 18 = .ok (.dup, 1) := by decide +kernel
theorem dX4_needOrder_19 : decode cX4_needOrder 19 = .ok (.ldc 225, 2) := by decide +kernel
theorem dX4_needOrder_21 : decode cX4_needOrder 21 = .ok (.invokespecial 224, 3) := by decide +kernel
theorem dX4_needOrder_24 : decode cX4_needOrder 24 = .ok (.athrow, 1) := by decide +kernel
theorem dX4_needOrder_25 : decode cX4_needOrder 25 = .ok (.return_, 1) := by decide +kernel
theorem dX4_needNoKit_0 : decode cX4_needNoKit 0 = .ok (.aload_n 0, 1) := by decide +kernel
theorem dX4_needNoKit_1 : decode cX4_needNoKit 1 = .ok (.getfield 12, 3) := by decide +kernel
theorem dX4_needNoKit_4 : decode cX4_needNoKit 4 = .ok (.iload_n 1, 1) := by decide +kernel
theorem dX4_needNoKit_5 : decode cX4_needNoKit 5 = .ok (.invokevirtual 227, 3) := by decide +kernel
theorem dX4_needNoKit_8 : decode cX4_needNoKit 8 = .ok (.ifCond .eq 13, 3) := by decide +kernel
theorem dX4_needNoKit_11 : decode cX4_needNoKit 11 = .ok (.new 78, 3) := by decide +kernel
theorem dX4_needNoKit_14 : decode cX4_needNoKit 14 = .ok (.dup, 1) := by decide +kernel
theorem dX4_needNoKit_15 : decode cX4_needNoKit 15 = .ok (.ldc 230, 2) := by decide +kernel
theorem dX4_needNoKit_17 : decode cX4_needNoKit 17 = .ok (.invokespecial 82, 3) := by decide +kernel
theorem dX4_needNoKit_20 : decode cX4_needNoKit 20 = .ok (.athrow, 1) := by decide +kernel
theorem dX4_needNoKit_21 : decode cX4_needNoKit 21 = .ok (.return_, 1) := by decide +kernel
theorem dX4_settle_0 : decode cX4_settle 0 = .ok (.aload_n 0, 1) := by decide +kernel
theorem dX4_settle_1 : decode cX4_settle 1 = .ok (.getfield 33, 3) := by decide +kernel
theorem dX4_settle_4 : decode cX4_settle 4 = .ok (.aload_n 0, 1) := by decide +kernel
theorem dX4_settle_5 : decode cX4_settle 5 = .ok (.getfield 19, 3) := by decide +kernel
theorem dX4_settle_8 : decode cX4_settle 8 = .ok (.invokevirtual 232, 3) := by decide +kernel
theorem dX4_settle_11 : decode cX4_settle 11 = .ok (.iconst 0, 1) := by decide +kernel
theorem dX4_settle_12 : decode cX4_settle 12 = .ok (.istore_n 1, 1) := by decide +kernel
theorem dX4_settle_13 : decode cX4_settle 13 = .ok (.iload_n 1, 1) := by decide +kernel
theorem dX4_settle_14 : decode cX4_settle 14 = .ok (.aload_n 0, 1) := by decide +kernel
theorem dX4_settle_15 : decode cX4_settle 15 = .ok (.getfield 26, 3) := by decide +kernel
theorem dX4_settle_18 : decode cX4_settle 18 = .ok (.getfield 133, 3) := by decide +kernel
theorem dX4_settle_21 : decode cX4_settle 21 = .ok (.if_icmp .ge 54, 3) := by decide +kernel
theorem dX4_settle_24 : decode cX4_settle 24 = .ok (.aload_n 0, 1) := by decide +kernel
theorem dX4_settle_25 : decode cX4_settle 25 = .ok (.getfield 26, 3) := by decide +kernel
theorem dX4_settle_28 : decode cX4_settle 28 = .ok (.getfield 236, 3) := by decide +kernel
theorem dX4_settle_31 : decode cX4_settle 31 = .ok (.iload_n 1, 1) := by decide +kernel
theorem dX4_settle_32 : decode cX4_settle 32 = .ok (.iaload, 1) := by decide +kernel
theorem dX4_settle_33 : decode cX4_settle 33 = .ok (.istore_n 2, 1) := by decide +kernel
theorem dX4_settle_34 : decode cX4_settle 34 = .ok (.aload_n 0, 1) := by decide +kernel
theorem dX4_settle_35 : decode cX4_settle 35 = .ok (.getfield 26, 3) := by decide +kernel
theorem dX4_settle_38 : decode cX4_settle 38 = .ok (.getfield 152, 3) := by decide +kernel
theorem dX4_settle_41 : decode cX4_settle 41 = .ok (.iload_n 2, 1) := by decide +kernel
theorem dX4_settle_42 : decode cX4_settle 42 = .ok (.iaload, 1) := by decide +kernel
theorem dX4_settle_43 : decode cX4_settle 43 = .ok (.iconst 2, 1) := by decide +kernel
theorem dX4_settle_44 : decode cX4_settle 44 = .ok (.if_icmp .eq 25, 3) := by decide +kernel
theorem dX4_settle_47 : decode cX4_settle 47 = .ok (.aload_n 0, 1) := by decide +kernel
theorem dX4_settle_48 : decode cX4_settle 48 = .ok (.getfield 26, 3) := by decide +kernel
theorem dX4_settle_51 : decode cX4_settle 51 = .ok (.getfield 152, 3) := by decide +kernel
theorem dX4_settle_54 : decode cX4_settle 54 = .ok (.iload_n 2, 1) := by decide +kernel
theorem dX4_settle_55 : decode cX4_settle 55 = .ok (.aload_n 0, 1) := by decide +kernel
theorem dX4_settle_56 : decode cX4_settle 56 = .ok (.iload_n 2, 1) := by decide +kernel
theorem dX4_settle_57 : decode cX4_settle 57 = .ok (.invokevirtual 140, 3) := by decide +kernel
theorem dX4_settle_60 : decode cX4_settle 60 = .ok (.ifCond .eq 7, 3) := by decide +kernel
theorem dX4_settle_63 : decode cX4_settle 63 = .ok (.iconst 0, 1) := by decide +kernel
theorem dX4_settle_64 : decode cX4_settle 64 = .ok (.goto 4, 3) := by decide +kernel
theorem dX4_settle_67 : decode cX4_settle 67 = .ok (.iconst 1, 1) := by decide +kernel
theorem dX4_settle_68 : decode cX4_settle 68 = .ok (.iastore, 1) := by decide +kernel
theorem dX4_settle_69 : decode cX4_settle 69 = .ok (.iinc 1 1, 3) := by decide +kernel
theorem dX4_settle_72 : decode cX4_settle 72 = .ok (.goto (-59), 3) := by decide +kernel
theorem dX4_settle_75 : decode cX4_settle 75 = .ok (.aload_n 0, 1) := by decide +kernel
theorem dX4_settle_76 : decode cX4_settle 76 = .ok (.invokevirtual 146, 3) := by decide +kernel
theorem dX4_settle_79 : decode cX4_settle 79 = .ok (.aload_n 0, 1) := by decide +kernel
theorem dX4_settle_80 : decode cX4_settle 80 = .ok (.getfield 26, 3) := by decide +kernel
theorem dX4_settle_83 : decode cX4_settle 83 = .ok (.iconst 1, 1) := by decide +kernel
theorem dX4_settle_84 : decode cX4_settle 84 = .ok (.invokevirtual 207, 3) := by decide +kernel
theorem dX4_settle_87 : decode cX4_settle 87 = .ok (.ireturn, 1) := by decide +kernel
theorem dX4_joinsCovered_0 : decode cX4_joinsCovered 0 = .ok (.aload_n 0, 1) := by decide +kernel
theorem dX4_joinsCovered_1 : decode cX4_joinsCovered 1 = .ok (.getfield 33, 3) := by decide +kernel
theorem dX4_joinsCovered_4 : decode cX4_joinsCovered 4 = .ok (.invokevirtual 239, 3) := by decide +kernel
theorem dX4_joinsCovered_7 : decode cX4_joinsCovered 7 = .ok (.iconst 0, 1) := by decide +kernel
theorem dX4_joinsCovered_8 : decode cX4_joinsCovered 8 = .ok (.istore_n 2, 1) := by decide +kernel
theorem dX4_joinsCovered_9 : decode cX4_joinsCovered 9 = .ok (.iload_n 2, 1) := by decide +kernel
theorem dX4_joinsCovered_10 : decode cX4_joinsCovered 10 = .ok (.aload_n 0, 1) := by decide +kernel
theorem dX4_joinsCovered_11 : decode cX4_joinsCovered 11 = .ok (.iload_n 1, 1) := by decide +kernel
theorem dX4_joinsCovered_12 : decode cX4_joinsCovered 12 = .ok (.invokevirtual 186, 3) := by decide +kernel
theorem dX4_joinsCovered_15 : decode cX4_joinsCovered 15 = .ok (.if_icmp .ge 81, 3) := by decide +kernel
theorem dX4_joinsCovered_18 : decode cX4_joinsCovered 18 = .ok (.iload_n 1, 1) := by decide +kernel
theorem dX4_joinsCovered_19 : decode cX4_joinsCovered 19 = .ok (.iload_n 2, 1) := by decide +kernel
theorem dX4_joinsCovered_20 : decode cX4_joinsCovered 20 = .ok (.invokestatic 189, 3) := by decide +kernel
theorem dX4_joinsCovered_23 : decode cX4_joinsCovered 23 = .ok (.istore_n 3, 1) := by decide +kernel
theorem dX4_joinsCovered_24 : decode cX4_joinsCovered 24 = .ok (.aload_n 0, 1) := by decide +kernel
theorem dX4_joinsCovered_25 : decode cX4_joinsCovered 25 = .ok (.getfield 33, 3) := by decide +kernel
theorem dX4_joinsCovered_28 : decode cX4_joinsCovered 28 = .ok (.getfield 242, 3) := by decide +kernel
theorem dX4_joinsCovered_31 : decode cX4_joinsCovered 31 = .ok (.iload_n 3, 1) := by decide +kernel
theorem dX4_joinsCovered_32 : decode cX4_joinsCovered 32 = .ok (.aload_n 0, 1) := by decide +kernel
theorem dX4_joinsCovered_33 : decode cX4_joinsCovered 33 = .ok (.aload_n 0, 1) := by decide +kernel
theorem dX4_joinsCovered_34 : decode cX4_joinsCovered 34 = .ok (.getfield 12, 3) := by decide +kernel
theorem dX4_joinsCovered_37 : decode cX4_joinsCovered 37 = .ok (.aload_n 0, 1) := by decide +kernel
theorem dX4_joinsCovered_38 : decode cX4_joinsCovered 38 = .ok (.getfield 26, 3) := by decide +kernel
theorem dX4_joinsCovered_41 : decode cX4_joinsCovered 41 = .ok (.getfield 195, 3) := by decide +kernel
theorem dX4_joinsCovered_44 : decode cX4_joinsCovered 44 = .ok (.iload_n 1, 1) := by decide +kernel
theorem dX4_joinsCovered_45 : decode cX4_joinsCovered 45 = .ok (.iaload, 1) := by decide +kernel
theorem dX4_joinsCovered_46 : decode cX4_joinsCovered 46 = .ok (.iload_n 2, 1) := by decide +kernel
theorem dX4_joinsCovered_47 : decode cX4_joinsCovered 47 = .ok (.invokevirtual 197, 3) := by decide +kernel
theorem dX4_joinsCovered_50 : decode cX4_joinsCovered 50 = .ok (.aload_n 0, 1) := by decide +kernel
theorem dX4_joinsCovered_51 : decode cX4_joinsCovered 51 = .ok (.getfield 26, 3) := by decide +kernel
theorem dX4_joinsCovered_54 : decode cX4_joinsCovered 54 = .ok (.getfield 245, 3) := by decide +kernel
theorem dX4_joinsCovered_57 : decode cX4_joinsCovered 57 = .ok (.iload_n 1, 1) := by decide +kernel
theorem dX4_joinsCovered_58 : decode cX4_joinsCovered 58 = .ok (.iaload, 1) := by decide +kernel
theorem dX4_joinsCovered_59 : decode cX4_joinsCovered 59 = .ok (.invokevirtual 161, 3) := by decide +kernel
theorem dX4_joinsCovered_62 : decode cX4_joinsCovered 62 = .ok (.iastore, 1) := by decide +kernel
theorem dX4_joinsCovered_63 : decode cX4_joinsCovered 63 = .ok (.aload_n 0, 1) := by decide +kernel
theorem dX4_joinsCovered_64 : decode cX4_joinsCovered 64 = .ok (.getfield 33, 3) := by decide +kernel
theorem dX4_joinsCovered_67 : decode cX4_joinsCovered 67 = .ok (.iload_n 3, 1) := by decide +kernel
theorem dX4_joinsCovered_68 : decode cX4_joinsCovered 68 = .ok (.aload_n 0, 1) := by decide +kernel
theorem dX4_joinsCovered_69 : decode cX4_joinsCovered 69 = .ok (.iload_n 1, 1) := by decide +kernel
theorem dX4_joinsCovered_70 : decode cX4_joinsCovered 70 = .ok (.iload_n 2, 1) := by decide +kernel
theorem dX4_joinsCovered_71 : decode cX4_joinsCovered 71 = .ok (.invokevirtual 248, 3) := by decide +kernel
theorem dX4_joinsCovered_74 : decode cX4_joinsCovered 74 = .ok (.iconst (-1), 1) := by decide +kernel
theorem dX4_joinsCovered_75 : decode cX4_joinsCovered 75 = .ok (.invokevirtual 251, 3) := by decide +kernel
theorem dX4_joinsCovered_78 : decode cX4_joinsCovered 78 = .ok (.ifCond .le 12, 3) := by decide +kernel
theorem dX4_joinsCovered_81 : decode cX4_joinsCovered 81 = .ok (.aload_n 0, 1) := by decide +kernel
theorem dX4_joinsCovered_82 : decode cX4_joinsCovered 82 = .ok (.getfield 33, 3) := by decide +kernel
theorem dX4_joinsCovered_85 : decode cX4_joinsCovered 85 = .ok (.invokevirtual 254, 3) := by decide +kernel
theorem dX4_joinsCovered_88 : decode cX4_joinsCovered 88 = .ok (.iconst 0, 1) := by decide +kernel
theorem dX4_joinsCovered_89 : decode cX4_joinsCovered 89 = .ok (.ireturn, 1) := by decide +kernel
theorem dX4_joinsCovered_90 : decode cX4_joinsCovered 90 = .ok (.iinc 2 1, 3) := by decide +kernel
theorem dX4_joinsCovered_93 : decode cX4_joinsCovered 93 = .ok (.goto (-84), 3) := by decide +kernel
theorem dX4_joinsCovered_96 : decode cX4_joinsCovered 96 = .ok (.iconst 1, 1) := by decide +kernel
theorem dX4_joinsCovered_97 : decode cX4_joinsCovered 97 = .ok (.ireturn, 1) := by decide +kernel
theorem dX4_makePlan_0 : decode cX4_makePlan 0 = .ok (.iconst (-1), 1) := by decide +kernel
theorem dX4_makePlan_1 : decode cX4_makePlan 1 = .ok (.istore_n 1, 1) := by decide +kernel
theorem dX4_makePlan_2 : decode cX4_makePlan 2 = .ok (.iconst 0, 1) := by decide +kernel
theorem dX4_makePlan_3 : decode cX4_makePlan 3 = .ok (.istore_n 2, 1) := by decide +kernel
theorem dX4_makePlan_4 : decode cX4_makePlan 4 = .ok (.iload_n 2, 1) := by decide +kernel
theorem dX4_makePlan_5 : decode cX4_makePlan 5 = .ok (.aload_n 0, 1) := by decide +kernel
theorem dX4_makePlan_6 : decode cX4_makePlan 6 = .ok (.getfield 26, 3) := by decide +kernel
theorem dX4_makePlan_9 : decode cX4_makePlan 9 = .ok (.getfield 133, 3) := by decide +kernel
theorem dX4_makePlan_12 : decode cX4_makePlan 12 = .ok (.if_icmp .ge 94, 3) := by decide +kernel
theorem dX4_makePlan_15 : decode cX4_makePlan 15 = .ok (.aload_n 0, 1) := by decide +kernel
theorem dX4_makePlan_16 : decode cX4_makePlan 16 = .ok (.getfield 26, 3) := by decide +kernel
theorem dX4_makePlan_19 : decode cX4_makePlan 19 = .ok (.getfield 236, 3) := by decide +kernel
theorem dX4_makePlan_22 : decode cX4_makePlan 22 = .ok (.iload_n 2, 1) := by decide +kernel
theorem dX4_makePlan_23 : decode cX4_makePlan 23 = .ok (.iaload, 1) := by decide +kernel
theorem dX4_makePlan_24 : decode cX4_makePlan 24 = .ok (.istore_n 3, 1) := by decide +kernel
theorem dX4_makePlan_25 : decode cX4_makePlan 25 = .ok (.aload_n 0, 1) := by decide +kernel
theorem dX4_makePlan_26 : decode cX4_makePlan 26 = .ok (.getfield 26, 3) := by decide +kernel
theorem dX4_makePlan_29 : decode cX4_makePlan 29 = .ok (.getfield 152, 3) := by decide +kernel
theorem dX4_makePlan_32 : decode cX4_makePlan 32 = .ok (.iload_n 3, 1) := by decide +kernel
theorem dX4_makePlan_33 : decode cX4_makePlan 33 = .ok (.iaload, 1) := by decide +kernel
theorem dX4_makePlan_34 : decode cX4_makePlan 34 = .ok (.ifCond .ne 66, 3) := by decide +kernel
theorem dX4_makePlan_37 : decode cX4_makePlan 37 = .ok (.iconst 0, 1) := by decide +kernel
theorem dX4_makePlan_38 : decode cX4_makePlan 38 = .ok (.istore 4, 2) := by decide +kernel
theorem dX4_makePlan_40 : decode cX4_makePlan 40 = .ok (.iload 4, 2) := by decide +kernel
theorem dX4_makePlan_42 : decode cX4_makePlan 42 = .ok (.aload_n 0, 1) := by decide +kernel
