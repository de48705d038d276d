theorem dX3_restore_12 : decode cX3_restore 12 = .ok (.invokestatic 56, 3) := by decide +kernel
theorem dX3_restore_15 : decode cX3_restore 15 = .ok (.aload_n 0, 1) := by decide +kernel
theorem dX3_restore_16 : decode cX3_restore 16 = .ok (.getfield 31, 3) := by decide +kernel
theorem dX3_restore_19 : decode cX3_restore 19 = .ok (.iconst 0, 1) := by decide +kernel
theorem dX3_restore_20 : decode cX3_restore 20 = .ok (.aload_n 0, 1) := by decide +kernel
theorem dX3_restore_21 : decode cX3_restore 21 = .ok (.getfield 22, 3) := by decide +kernel
theorem dX3_restore_24 : decode cX3_restore 24 = .ok (.iconst 0, 1) := by decide +kernel
theorem dX3_restore_25 : decode cX3_restore 25 = .ok (.sipush 310, 3) := by decide +kernel
theorem dX3_restore_28 : decode cX3_restore 28 = .ok (.invokestatic 56, 3) := by decide +kernel
theorem dX3_restore_31 : decode cX3_restore 31 = .ok (.return_, 1) := by decide +kernel
theorem dX3_giveBack_0 : decode cX3_giveBack 0 = .ok (.iconst 0, 1) := by decide +kernel
theorem dX3_giveBack_1 : decode cX3_giveBack 1 = .ok (.istore_n 2, 1) := by decide +kernel
theorem dX3_giveBack_2 : decode cX3_giveBack 2 = .ok (.iload_n 2, 1) := by decide +kernel
theorem dX3_giveBack_3 : decode cX3_giveBack 3 = .ok (.aload_n 0, 1) := by decide +kernel
theorem dX3_giveBack_4 : decode cX3_giveBack 4 = .ok (.getfield 9, 3) := by decide +kernel
theorem dX3_giveBack_7 : decode cX3_giveBack 7 = .ok (.if_icmp .ge 41, 3) := by decide +kernel
theorem dX3_giveBack_10 : decode cX3_giveBack 10 = .ok (.aload_n 0, 1) := by decide +kernel
theorem dX3_giveBack_11 : decode cX3_giveBack 11 = .ok (.getfield 19, 3) := by decide +kernel
theorem dX3_giveBack_14 : decode cX3_giveBack 14 = .ok (.iload_n 2, 1) := by decide +kernel
theorem dX3_giveBack_15 : decode cX3_giveBack 15 = .ok (.dup2, 1) := by decide +kernel
theorem dX3_giveBack_16 : decode cX3_giveBack 16 = .ok (.iaload, 1) := by decide +kernel
theorem dX3_giveBack_17 : decode cX3_giveBack 17 = .ok (.aload_n 0, 1) := by decide +kernel
theorem dX3_giveBack_18 : decode cX3_giveBack 18 = .ok (.getfield 22, 3) := by decide +kernel
theorem dX3_giveBack_21 : decode cX3_giveBack 21 = .ok (.iload_n 1, 1) := by decide +kernel
theorem dX3_giveBack_22 : decode cX3_giveBack 22 = .ok (.bipush 10, 2) := by decide +kernel
theorem dX3_giveBack_24 : decode cX3_giveBack 24 = .ok (.imul, 1) := by decide +kernel
theorem dX3_giveBack_25 : decode cX3_giveBack 25 = .ok (.iload_n 2, 1) := by decide +kernel
theorem dX3_giveBack_26 : decode cX3_giveBack 26 = .ok (.iadd, 1) := by decide +kernel
theorem dX3_giveBack_27 : decode cX3_giveBack 27 = .ok (.iaload, 1) := by decide +kernel
theorem dX3_giveBack_28 : decode cX3_giveBack 28 = .ok (.iadd, 1) := by decide +kernel
theorem dX3_giveBack_29 : decode cX3_giveBack 29 = .ok (.iastore, 1) := by decide +kernel
theorem dX3_giveBack_30 : decode cX3_giveBack 30 = .ok (.aload_n 0, 1) := by decide +kernel
theorem dX3_giveBack_31 : decode cX3_giveBack 31 = .ok (.getfield 22, 3) := by decide +kernel
theorem dX3_giveBack_34 : decode cX3_giveBack 34 = .ok (.iload_n 1, 1) := by decide +kernel
theorem dX3_giveBack_35 : decode cX3_giveBack 35 = .ok (.bipush 10, 2) := by decide +kernel
theorem dX3_giveBack_37 : decode cX3_giveBack 37 = .ok (.imul, 1) := by decide +kernel
theorem dX3_giveBack_38 : decode cX3_giveBack 38 = .ok (.iload_n 2, 1) := by decide +kernel
theorem dX3_giveBack_39 : decode cX3_giveBack 39 = .ok (.iadd, 1) := by decide +kernel
theorem dX3_giveBack_40 : decode cX3_giveBack 40 = .ok (.iconst 0, 1) := by decide +kernel
theorem dX3_giveBack_41 : decode cX3_giveBack 41 = .ok (.iastore, 1) := by decide +kernel
theorem dX3_giveBack_42 : decode cX3_giveBack 42 = .ok (.iinc 2 1, 3) := by decide +kernel
theorem dX3_giveBack_45 : decode cX3_giveBack 45 = .ok (.goto (-43), 3) := by decide +kernel
theorem dX3_giveBack_48 : decode cX3_giveBack 48 = .ok (.return_, 1) := by decide +kernel
theorem dX3_mostFrom_0 : decode cX3_mostFrom 0 = .ok (.aload_n 0, 1) := by decide +kernel
theorem dX3_mostFrom_1 : decode cX3_mostFrom 1 = .ok (.invokevirtual 62, 3) := by decide +kernel
theorem dX3_mostFrom_4 : decode cX3_mostFrom 4 = .ok (.aload_n 0, 1) := by decide +kernel
theorem dX3_mostFrom_5 : decode cX3_mostFrom 5 = .ok (.getfield 25, 3) := by decide +kernel
theorem dX3_mostFrom_8 : decode cX3_mostFrom 8 = .ok (.bipush 30, 2) := by decide +kernel
theorem dX3_mostFrom_10 : decode cX3_mostFrom 10 = .ok (.iload_n 1, 1) := by decide +kernel
theorem dX3_mostFrom_11 : decode cX3_mostFrom 11 = .ok (.iastore, 1) := by decide +kernel
theorem dX3_mostFrom_12 : decode cX3_mostFrom 12 = .ok (.ldc 65, 2) := by decide +kernel
theorem dX3_mostFrom_14 : decode cX3_mostFrom 14 = .ok (.aload_n 0, 1) := by decide +kernel
theorem dX3_mostFrom_15 : decode cX3_mostFrom 15 = .ok (.bipush 30, 2) := by decide +kernel
theorem dX3_mostFrom_17 : decode cX3_mostFrom 17 = .ok (.ldc 65, 2) := by decide +kernel
theorem dX3_mostFrom_19 : decode cX3_mostFrom 19 = .ok (.iconst (-1), 1) := by decide +kernel
theorem dX3_mostFrom_20 : decode cX3_mostFrom 20 = .ok (.invokevirtual 66, 3) := by decide +kernel
theorem dX3_mostFrom_23 : decode cX3_mostFrom 23 = .ok (.isub, 1) := by decide +kernel
theorem dX3_mostFrom_24 : decode cX3_mostFrom 24 = .ok (.istore_n 2, 1) := by decide +kernel
theorem dX3_mostFrom_25 : decode cX3_mostFrom 25 = .ok (.aload_n 0, 1) := by decide +kernel
theorem dX3_mostFrom_26 : decode cX3_mostFrom 26 = .ok (.invokevirtual 70, 3) := by decide +kernel
theorem dX3_mostFrom_29 : decode cX3_mostFrom 29 = .ok (.iload_n 2, 1) := by decide +kernel
theorem dX3_mostFrom_30 : decode cX3_mostFrom 30 = .ok (.ireturn, 1) := by decide +kernel
theorem dX3_take_0 : decode cX3_take 0 = .ok (.iload_n 3, 1) := by decide +kernel
theorem dX3_take_1 : decode cX3_take 1 = .ok (.iconst 1, 1) := by decide +kernel
theorem dX3_take_2 : decode cX3_take 2 = .ok (.iload_n 1, 1) := by decide +kernel
theorem dX3_take_3 : decode cX3_take 3 = .ok (.ishl, 1) := by decide +kernel
theorem dX3_take_4 : decode cX3_take 4 = .ok (.iconst (-1), 1) := by decide +kernel
theorem dX3_take_5 : decode cX3_take 5 = .ok (.ixor, 1) := by decide +kernel
theorem dX3_take_6 : decode cX3_take 6 = .ok (.iand, 1) := by decide +kernel
theorem dX3_take_7 : decode cX3_take 7 = .ok (.istore 4, 2) := by decide +kernel
theorem dX3_take_9 : decode cX3_take 9 = .ok (.iload_n 2, 1) := by decide +kernel
theorem dX3_take_10 : decode cX3_take 10 = .ok (.istore 5, 2) := by decide +kernel
theorem dX3_take_12 : decode cX3_take 12 = .ok (.iconst 0, 1) := by decide +kernel
theorem dX3_take_13 : decode cX3_take 13 = .ok (.istore 6, 2) := by decide +kernel
theorem dX3_take_15 : decode cX3_take 15 = .ok (.iload 6, 2) := by decide +kernel
theorem dX3_take_17 : decode cX3_take 17 = .ok (.aload_n 0, 1) := by decide +kernel
theorem dX3_take_18 : decode cX3_take 18 = .ok (.getfield 9, 3) := by decide +kernel
theorem dX3_take_21 : decode cX3_take 21 = .ok (.if_icmp .ge 50, 3) := by decide +kernel
theorem dX3_take_24 : decode cX3_take 24 = .ok (.iload 5, 2) := by decide +kernel
theorem dX3_take_26 : decode cX3_take 26 = .ok (.ifCond .le 45, 3) := by decide +kernel
theorem dX3_take_29 : decode cX3_take 29 = .ok (.aload_n 0, 1) := by decide +kernel
theorem dX3_take_30 : decode cX3_take 30 = .ok (.getfield 15, 3) := by decide +kernel
theorem dX3_take_33 : decode cX3_take 33 = .ok (.iload 6, 2) := by decide +kernel
theorem dX3_take_35 : decode cX3_take 35 = .ok (.iaload, 1) := by decide +kernel
theorem dX3_take_36 : decode cX3_take 36 = .ok (.istore 7, 2) := by decide +kernel
theorem dX3_take_38 : decode cX3_take 38 = .ok (.aload_n 0, 1) := by decide +kernel
theorem dX3_take_39 : decode cX3_take 39 = .ok (.getfield 25, 3) := by decide +kernel
theorem dX3_take_42 : decode cX3_take 42 = .ok (.iload_n 1, 1) := by decide +kernel
theorem dX3_take_43 : decode cX3_take 43 = .ok (.iaload, 1) := by decide +kernel
theorem dX3_take_44 : decode cX3_take 44 = .ok (.iload 7, 2) := by decide +kernel
theorem dX3_take_46 : decode cX3_take 46 = .ok (.invokestatic 73, 3) := by decide +kernel
theorem dX3_take_49 : decode cX3_take 49 = .ok (.ifCond .eq 16, 3) := by decide +kernel
theorem dX3_take_52 : decode cX3_take 52 = .ok (.aload_n 0, 1) := by decide +kernel
theorem dX3_take_53 : decode cX3_take 53 = .ok (.iload_n 1, 1) := by decide +kernel
theorem dX3_take_54 : decode cX3_take 54 = .ok (.iload 7, 2) := by decide +kernel
theorem dX3_take_56 : decode cX3_take 56 = .ok (.iload 5, 2) := by decide +kernel
theorem dX3_take_58 : decode cX3_take 58 = .ok (.iload 4, 2) := by decide +kernel
theorem dX3_take_60 : decode cX3_take 60 = .ok (.invokevirtual 77, 3) := by decide +kernel
theorem dX3_take_63 : decode cX3_take 63 = .ok (.istore 5, 2) := by decide +kernel
theorem dX3_take_65 : decode cX3_take 65 = .ok (.iinc 6 1, 3) := by decide +kernel
theorem dX3_take_68 : decode cX3_take 68 = .ok (.goto (-53), 3) := by decide +kernel
theorem dX3_take_71 : decode cX3_take 71 = .ok (.iload 5, 2) := by decide +kernel
theorem dX3_take_73 : decode cX3_take 73 = .ok (.ireturn, 1) := by decide +kernel
theorem dX3_takeFrom_0 : decode cX3_takeFrom 0 = .ok (.iload_n 3, 1) := by decide +kernel
theorem dX3_takeFrom_1 : decode cX3_takeFrom 1 = .ok (.istore 5, 2) := by decide +kernel
theorem dX3_takeFrom_3 : decode cX3_takeFrom 3 = .ok (.iconst 0, 1) := by decide +kernel
theorem dX3_takeFrom_4 : decode cX3_takeFrom 4 = .ok (.istore 6, 2) := by decide +kernel
theorem dX3_takeFrom_6 : decode cX3_takeFrom 6 = .ok (.iload 6, 2) := by decide +kernel
theorem dX3_takeFrom_8 : decode cX3_takeFrom 8 = .ok (.ldc 81, 2) := by decide +kernel
theorem dX3_takeFrom_10 : decode cX3_takeFrom 10 = .ok (.if_icmp .ge 84, 3) := by decide +kernel
theorem dX3_takeFrom_13 : decode cX3_takeFrom 13 = .ok (.iload 5, 2) := by decide +kernel
theorem dX3_takeFrom_15 : decode cX3_takeFrom 15 = .ok (.ifCond .le 79, 3) := by decide +kernel
theorem dX3_takeFrom_18 : decode cX3_takeFrom 18 = .ok (.aload_n 0, 1) := by decide +kernel
theorem dX3_takeFrom_19 : decode cX3_takeFrom 19 = .ok (.getfield 19, 3) := by decide +kernel
theorem dX3_takeFrom_22 : decode cX3_takeFrom 22 = .ok (.iload_n 2, 1) := by decide +kernel
theorem dX3_takeFrom_23 : decode cX3_takeFrom 23 = .ok (.iaload, 1) := by decide +kernel
theorem dX3_takeFrom_24 : decode cX3_takeFrom 24 = .ok (.ifCond .le 7, 3) := by decide +kernel
theorem dX3_takeFrom_27 : decode cX3_takeFrom 27 = .ok (.iload_n 2, 1) := by decide +kernel
theorem dX3_takeFrom_28 : decode cX3_takeFrom 28 = .ok (.goto 16, 3) := by decide +kernel
theorem dX3_takeFrom_31 : decode cX3_takeFrom 31 = .ok (.aload_n 0, 1) := by decide +kernel
theorem dX3_takeFrom_32 : decode cX3_takeFrom 32 = .ok (.aload_n 0, 1) := by decide +kernel
theorem dX3_takeFrom_33 : decode cX3_takeFrom 33 = .ok (.iconst 1, 1) := by decide +kernel
theorem dX3_takeFrom_34 : decode cX3_takeFrom 34 = .ok (.iload_n 2, 1) := by decide +kernel
theorem dX3_takeFrom_35 : decode cX3_takeFrom 35 = .ok (.ishl, 1) := by decide +kernel
theorem dX3_takeFrom_36 : decode cX3_takeFrom 36 = .ok (.iload 4, 2) := by decide +kernel
theorem dX3_takeFrom_38 : decode cX3_takeFrom 38 = .ok (.invokevirtual 82, 3) := by decide +kernel
theorem dX3_takeFrom_41 : decode cX3_takeFrom 41 = .ok (.invokevirtual 86, 3) := by decide +kernel
theorem dX3_takeFrom_44 : decode cX3_takeFrom 44 = .ok (.istore 7, 2) := by decide +kernel
theorem dX3_takeFrom_46 : decode cX3_takeFrom 46 = .ok (.iload 7, 2) := by decide +kernel
theorem dX3_takeFrom_48 : decode cX3_takeFrom 48 = .ok (.ifCond .ge 6, 3) := by decide +kernel
theorem dX3_takeFrom_51 : decode cX3_takeFrom 51 = .ok (.iload 5, 2) := by decide +kernel
theorem dX3_takeFrom_53 : decode cX3_takeFrom 53 = .ok (.ireturn, 1) := by decide +kernel
theorem dX3_takeFrom_54 : decode cX3_takeFrom 54 = .ok (.aload_n 0, 1) := by decide +kernel
theorem dX3_takeFrom_55 : decode cX3_takeFrom 55 = .ok (.iload_n 2, 1) := by decide +kernel
theorem dX3_takeFrom_56 : decode cX3_takeFrom 56 = .ok (.iload 7, 2) := by decide +kernel
theorem dX3_takeFrom_58 : decode cX3_takeFrom 58 = .ok (.iload 5, 2) := by decide +kernel
theorem dX3_takeFrom_60 : decode cX3_takeFrom 60 = .ok (.invokevirtual 89, 3) := by decide +kernel
theorem dX3_takeFrom_63 : decode cX3_takeFrom 63 = .ok (.istore 8, 2) := by decide +kernel
theorem dX3_takeFrom_65 : decode cX3_takeFrom 65 = .ok (.aload_n 0, 1) := by decide +kernel
theorem dX3_takeFrom_66 : decode cX3_takeFrom 66 = .ok (.getfield 22, 3) := by decide +kernel
theorem dX3_takeFrom_69 : decode cX3_takeFrom 69 = .ok (.iload_n 1, 1) := by decide +kernel
theorem dX3_takeFrom_70 : decode cX3_takeFrom 70 = .ok (.bipush 10, 2) := by decide +kernel
theorem dX3_takeFrom_72 : decode cX3_takeFrom 72 = .ok (.imul, 1) := by decide +kernel
theorem dX3_takeFrom_73 : decode cX3_takeFrom 73 = .ok (.iload_n 2, 1) := by decide +kernel
theorem dX3_takeFrom_74 : decode cX3_takeFrom 74 = .ok (.iadd, 1) := by decide +kernel
theorem dX3_takeFrom_75 : decode cX3_takeFrom 75 = .ok (.dup2, 1) := by decide +kernel
theorem dX3_takeFrom_76 : decode cX3_takeFrom 76 = .ok (.iaload, 1) := by decide +kernel
theorem dX3_takeFrom_77 : decode cX3_takeFrom 77 = .ok (.iload 8, 2) := by decide +kernel
theorem dX3_takeFrom_79 : decode cX3_takeFrom 79 = .ok (.iadd, 1) := by decide +kernel
theorem dX3_takeFrom_80 : decode cX3_takeFrom 80 = .ok (.iastore, 1) := by decide +kernel
theorem dX3_takeFrom_81 : decode cX3_takeFrom 81 = .ok (.iload 5, 2) := by decide +kernel
theorem dX3_takeFrom_83 : decode cX3_takeFrom 83 = .ok (.iload 8, 2) := by decide +kernel
theorem dX3_takeFrom_85 : decode cX3_takeFrom 85 = .ok (.isub, 1) := by decide +kernel
theorem dX3_takeFrom_86 : decode cX3_takeFrom 86 = .ok (.istore 5, 2) := by decide +kernel
theorem dX3_takeFrom_88 : decode cX3_takeFrom 88 = .ok (.iinc 6 1, 3) := by decide +kernel
theorem dX3_takeFrom_91 : decode cX3_takeFrom 91 = .ok (.goto (-85), 3) := by decide +kernel
theorem dX3_takeFrom_94 : decode cX3_takeFrom 94 = .ok (.iload 5, 2) := by decide +kernel
theorem dX3_takeFrom_96 : decode cX3_takeFrom 96 = .ok (.ireturn, 1) := by decide +kernel
theorem dX3_nearestRoom_0 : decode cX3_nearestRoom 0 = .ok (.iload_n 1, 1) := by decide +kernel
theorem dX3_nearestRoom_1 : decode cX3_nearestRoom 1 = .ok (.invokestatic 92, 3) := by decide +kernel
theorem dX3_nearestRoom_4 : decode cX3_nearestRoom 4 = .ok (.istore_n 2, 1) := by decide +kernel
theorem dX3_nearestRoom_5 : decode cX3_nearestRoom 5 = .ok (.iconst 0, 1) := by decide +kernel
theorem dX3_nearestRoom_6 : decode cX3_nearestRoom 6 = .ok (.istore_n 3, 1) := by decide +kernel
theorem dX3_nearestRoom_7 : decode cX3_nearestRoom 7 = .ok (.iload_n 3, 1) := by decide +kernel
theorem dX3_nearestRoom_8 : decode cX3_nearestRoom 8 = .ok (.iload_n 2, 1) := by decide +kernel
theorem dX3_nearestRoom_9 : decode cX3_nearestRoom 9 = .ok (.if_icmp .ge 36, 3) := by decide +kernel
theorem dX3_nearestRoom_12 : decode cX3_nearestRoom 12 = .ok (.iload_n 3, 1) := by decide +kernel
theorem dX3_nearestRoom_13 : decode cX3_nearestRoom 13 = .ok (.bipush 10, 2) := by decide +kernel
theorem dX3_nearestRoom_15 : decode cX3_nearestRoom 15 = .ok (.if_icmp .ge 30, 3) := by decide +kernel
theorem dX3_nearestRoom_18 : decode cX3_nearestRoom 18 = .ok (.aload_n 0, 1) := by decide +kernel
theorem dX3_nearestRoom_19 : decode cX3_nearestRoom 19 = .ok (.getfield 19, 3) := by decide +kernel
theorem dX3_nearestRoom_22 : decode cX3_nearestRoom 22 = .ok (.aload_n 0, 1) := by decide +kernel
theorem dX3_nearestRoom_23 : decode cX3_nearestRoom 23 = .ok (.getfield 34, 3) := by decide +kernel
theorem dX3_nearestRoom_26 : decode cX3_nearestRoom 26 = .ok (.iload_n 3, 1) := by decide +kernel
theorem dX3_nearestRoom_27 : decode cX3_nearestRoom 27 = .ok (.iaload, 1) := by decide +kernel
theorem dX3_nearestRoom_28 : decode cX3_nearestRoom 28 = .ok (.iaload, 1) := by decide +kernel
theorem dX3_nearestRoom_29 : decode cX3_nearestRoom 29 = .ok (.ifCond .le 10, 3) := by decide +kernel
theorem dX3_nearestRoom_32 : decode cX3_nearestRoom 32 = .ok (.aload_n 0, 1) := by decide +kernel
theorem dX3_nearestRoom_33 : decode cX3_nearestRoom 33 = .ok (.getfield 34, 3) := by decide +kernel
theorem dX3_nearestRoom_36 : decode cX3_nearestRoom 36 = .ok (.iload_n 3, 1) := by decide +kernel
theorem dX3_nearestRoom_37 : decode cX3_nearestRoom 37 = .ok (.iaload, 1) := by decide +kernel
theorem dX3_nearestRoom_38 : decode cX3_nearestRoom 38 = .ok (.ireturn, 1) := by decide +kernel
theorem dX3_nearestRoom_39 : decode cX3_nearestRoom 39 = .ok (.iinc 3 1, 3) := by decide +kernel
theorem dX3_nearestRoom_42 : decode cX3_nearestRoom 42 = .ok (.goto (-35), 3) := by decide +kernel
theorem dX3_nearestRoom_45 : decode cX3_nearestRoom 45 = .ok (.iconst (-1), 1) := by decide +kernel
theorem dX3_nearestRoom_46 : decode cX3_nearestRoom 46 = .ok (.ireturn, 1) := by decide +kernel
theorem dX3_spread_0 : decode cX3_spread 0 = .ok (.iload_n 1, 1) := by decide +kernel
theorem dX3_spread_1 : decode cX3_spread 1 = .ok (.istore_n 3, 1) := by decide +kernel
theorem dX3_spread_2 : decode cX3_spread 2 = .ok (.aload_n 0, 1) := by decide +kernel
theorem dX3_spread_3 : decode cX3_spread 3 = .ok (.iload_n 1, 1) := by decide +kernel
theorem dX3_spread_4 : decode cX3_spread 4 = .ok (.iconst 0, 1) := by decide +kernel
theorem dX3_spread_5 : decode cX3_spread 5 = .ok (.iconst (-1), 1) := by decide +kernel
theorem dX3_spread_6 : decode cX3_spread 6 = .ok (.iconst (-1), 1) := by decide +kernel
theorem dX3_spread_7 : decode cX3_spread 7 = .ok (.invokevirtual 97, 3) := by decide +kernel
theorem dX3_spread_10 : decode cX3_spread 10 = .ok (.istore 4, 2) := by decide +kernel
theorem dX3_spread_12 : decode cX3_spread 12 = .ok (.iconst 0, 1) := by decide +kernel
theorem dX3_spread_13 : decode cX3_spread 13 = .ok (.istore 5, 2) := by decide +kernel
theorem dX3_spread_15 : decode cX3_spread 15 = .ok (.iload 5, 2) := by decide +kernel
theorem dX3_spread_17 : decode cX3_spread 17 = .ok (.iload 4, 2) := by decide +kernel
theorem dX3_spread_19 : decode cX3_spread 19 = .ok (.if_icmp .ge 103, 3) := by decide +kernel
theorem dX3_spread_22 : decode cX3_spread 22 = .ok (.iload 5, 2) := by decide +kernel
theorem dX3_spread_24 : decode cX3_spread 24 = .ok (.bipush 10, 2) := by decide +kernel
theorem dX3_spread_26 : decode cX3_spread 26 = .ok (.if_icmp .ge 96, 3) := by decide +kernel
theorem dX3_spread_29 : decode cX3_spread 29 = .ok (.aload_n 0, 1) := by decide +kernel
theorem dX3_spread_30 : decode cX3_spread 30 = .ok (.getfield 34, 3) := by decide +kernel
theorem dX3_spread_33 : decode cX3_spread 33 = .ok (.iload 5, 2) := by decide +kernel
theorem dX3_spread_35 : decode cX3_spread 35 = .ok (.iaload, 1) := by decide +kernel
theorem dX3_spread_36 : decode cX3_spread 36 = .ok (.istore 6, 2) := by decide +kernel
theorem dX3_spread_38 : decode cX3_spread 38 = .ok (.iconst 0, 1) := by decide +kernel
theorem dX3_spread_39 : decode cX3_spread 39 = .ok (.istore 7, 2) := by decide +kernel
theorem dX3_spread_41 : decode cX3_spread 41 = .ok (.iload 7, 2) := by decide +kernel
theorem dX3_spread_43 : decode cX3_spread 43 = .ok (.bipush 31, 2) := by decide +kernel
theorem dX3_spread_45 : decode cX3_spread 45 = .ok (.if_icmp .ge 71, 3) := by decide +kernel
theorem dX3_spread_48 : decode cX3_spread 48 = .ok (.aload_n 0, 1) := by decide +kernel
theorem dX3_spread_49 : decode cX3_spread 49 = .ok (.getfield 25, 3) := by decide +kernel
theorem dX3_spread_52 : decode cX3_spread 52 = .ok (.iload 7, 2) := by decide +kernel
theorem dX3_spread_54 : decode cX3_spread 54 = .ok (.iaload, 1) := by decide +kernel
theorem dX3_spread_55 : decode cX3_spread 55 = .ok (.iload_n 3, 1) := by decide +kernel
theorem dX3_spread_56 : decode cX3_spread 56 = .ok (.iconst (-1), 1) := by decide +kernel
theorem dX3_spread_57 : decode cX3_spread 57 = .ok (.ixor, 1) := by decide +kernel
theorem dX3_spread_58 : decode cX3_spread 58 = .ok (.iand, 1) := by decide +kernel
theorem dX3_spread_59 : decode cX3_spread 59 = .ok (.istore 8, 2) := by decide +kernel
theorem dX3_spread_61 : decode cX3_spread 61 = .ok (.iload 8, 2) := by decide +kernel
theorem dX3_spread_63 : decode cX3_spread 63 = .ok (.ifCond .eq 47, 3) := by decide +kernel
theorem dX3_spread_66 : decode cX3_spread 66 = .ok (.iload_n 2, 1) := by decide +kernel
theorem dX3_spread_67 : decode cX3_spread 67 = .ok (.iload 7, 2) := by decide +kernel
theorem dX3_spread_69 : decode cX3_spread 69 = .ok (.invokestatic 73, 3) := by decide +kernel
theorem dX3_spread_72 : decode cX3_spread 72 = .ok (.ifCond .eq 38, 3) := by decide +kernel
theorem dX3_spread_75 : decode cX3_spread 75 = .ok (.aload_n 0, 1) := by decide +kernel
theorem dX3_spread_76 : decode cX3_spread 76 = .ok (.getfield 22, 3) := by decide +kernel
theorem dX3_spread_79 : decode cX3_spread 79 = .ok (.iload 7, 2) := by decide +kernel
theorem dX3_spread_81 : decode cX3_spread 81 = .ok (.bipush 10, 2) := by decide +kernel
theorem dX3_spread_83 : decode cX3_spread 83 = .ok (.imul, 1) := by decide +kernel
theorem dX3_spread_84 : decode cX3_spread 84 = .ok (.iload 6, 2) := by decide +kernel
theorem dX3_spread_86 : decode cX3_spread 86 = .ok (.iadd, 1) := by decide +kernel
theorem dX3_spread_87 : decode cX3_spread 87 = .ok (.iaload, 1) := by decide +kernel
theorem dX3_spread_88 : decode cX3_spread 88 = .ok (.ifCond .le 22, 3) := by decide +kernel
theorem dX3_spread_91 : decode cX3_spread 91 = .ok (.aload_n 0, 1) := by decide +kernel
theorem dX3_spread_92 : decode cX3_spread 92 = .ok (.iload 8, 2) := by decide +kernel
theorem dX3_spread_94 : decode cX3_spread 94 = .ok (.iload 4, 2) := by decide +kernel
theorem dX3_spread_96 : decode cX3_spread 96 = .ok (.iload 6, 2) := by decide +kernel
theorem dX3_spread_98 : decode cX3_spread 98 = .ok (.iload 7, 2) := by decide +kernel
theorem dX3_spread_100 : decode cX3_spread 100 = .ok (.invokevirtual 97, 3) := by decide +kernel
theorem dX3_spread_103 : decode cX3_spread 103 = .ok (.istore 4, 2) := by decide +kernel
theorem dX3_spread_105 : decode cX3_spread 105 = .ok (.iload_n 3, 1) := by decide +kernel
theorem dX3_spread_106 : decode cX3_spread 106 = .ok (.iload 8, 2) := by decide +kernel
theorem dX3_spread_108 : decode cX3_spread 108 = .ok (.ior, 1) := by decide +kernel
theorem dX3_spread_109 : decode cX3_spread 109 = .ok (.istore_n 3, 1) := by decide +kernel
theorem dX3_spread_110 : decode cX3_spread 110 = .ok (.iinc 7 1, 3) := by decide +kernel
theorem dX3_spread_113 : decode cX3_spread 113 = .ok (.goto (-72), 3) := by decide +kernel
theorem dX3_spread_116 : decode cX3_spread 116 = .ok (.iinc 5 1, 3) := by decide +kernel
theorem dX3_spread_119 : decode cX3_spread 119 = .ok (.goto (-104), 3) := by decide +kernel
theorem dX3_spread_122 : decode cX3_spread 122 = .ok (.iload_n 3, 1) := by decide +kernel
theorem dX3_spread_123 : decode cX3_spread 123 = .ok (.ireturn, 1) := by decide +kernel
theorem dX3_reach_0 : decode cX3_reach 0 = .ok (.iload_n 2, 1) := by decide +kernel
theorem dX3_reach_1 : decode cX3_reach 1 = .ok (.istore 5, 2) := by decide +kernel
theorem dX3_reach_3 : decode cX3_reach 3 = .ok (.iconst 0, 1) := by decide +kernel
theorem dX3_reach_4 : decode cX3_reach 4 = .ok (.istore 6, 2) := by decide +kernel
theorem dX3_reach_6 : decode cX3_reach 6 = .ok (.iload 6, 2) := by decide +kernel
theorem dX3_reach_8 : decode cX3_reach 8 = .ok (.aload_n 0, 1) := by decide +kernel
theorem dX3_reach_9 : decode cX3_reach 9 = .ok (.getfield 9, 3) := by decide +kernel
theorem dX3_reach_12 : decode cX3_reach 12 = .ok (.if_icmp .ge 54, 3) := by decide +kernel
theorem dX3_reach_15 : decode cX3_reach 15 = .ok (.iload_n 1, 1) := by decide +kernel
theorem dX3_reach_16 : decode cX3_reach 16 = .ok (.iload 6, 2) := by decide +kernel
theorem dX3_reach_18 : decode cX3_reach 18 = .ok (.ishr, 1) := by decide +kernel
theorem dX3_reach_19 : decode cX3_reach 19 = .ok (.iconst 1, 1) := by decide +kernel
theorem dX3_reach_20 : decode cX3_reach 20 = .ok (.iand, 1) := by decide +kernel
theorem dX3_reach_21 : decode cX3_reach 21 = .ok (.ifCond .eq 39, 3) := by decide +kernel
theorem dX3_reach_24 : decode cX3_reach 24 = .ok (.iload 5, 2) := by decide +kernel
theorem dX3_reach_26 : decode cX3_reach 26 = .ok (.bipush 10, 2) := by decide +kernel
theorem dX3_reach_28 : decode cX3_reach 28 = .ok (.if_icmp .ge 32, 3) := by decide +kernel
theorem dX3_reach_31 : decode cX3_reach 31 = .ok (.aload_n 0, 1) := by decide +kernel
theorem dX3_reach_32 : decode cX3_reach 32 = .ok (.getfield 34, 3) := by decide +kernel
theorem dX3_reach_35 : decode cX3_reach 35 = .ok (.iload 5, 2) := by decide +kernel
theorem dX3_reach_37 : decode cX3_reach 37 = .ok (.iload 6, 2) := by decide +kernel
theorem dX3_reach_39 : decode cX3_reach 39 = .ok (.iastore, 1) := by decide +kernel
theorem dX3_reach_40 : decode cX3_reach 40 = .ok (.aload_n 0, 1) := by decide +kernel
theorem dX3_reach_41 : decode cX3_reach 41 = .ok (.getfield 37, 3) := by decide +kernel
theorem dX3_reach_44 : decode cX3_reach 44 = .ok (.iload 6, 2) := by decide +kernel
theorem dX3_reach_46 : decode cX3_reach 46 = .ok (.iload_n 3, 1) := by decide +kernel
theorem dX3_reach_47 : decode cX3_reach 47 = .ok (.iastore, 1) := by decide +kernel
theorem dX3_reach_48 : decode cX3_reach 48 = .ok (.aload_n 0, 1) := by decide +kernel
theorem dX3_reach_49 : decode cX3_reach 49 = .ok (.getfield 40, 3) := by decide +kernel
theorem dX3_reach_52 : decode cX3_reach 52 = .ok (.iload 6, 2) := by decide +kernel
theorem dX3_reach_54 : decode cX3_reach 54 = .ok (.iload 4, 2) := by decide +kernel
theorem dX3_reach_56 : decode cX3_reach 56 = .ok (.iastore, 1) := by decide +kernel
theorem dX3_reach_57 : decode cX3_reach 57 = .ok (.iinc 5 1, 3) := by decide +kernel
theorem dX3_reach_60 : decode cX3_reach 60 = .ok (.iinc 6 1, 3) := by decide +kernel
theorem dX3_reach_63 : decode cX3_reach 63 = .ok (.goto (-57), 3) := by decide +kernel
theorem dX3_reach_66 : decode cX3_reach 66 = .ok (.iload 5, 2) := by decide +kernel
theorem dX3_reach_68 : decode cX3_reach 68 = .ok (.ireturn, 1) := by decide +kernel
theorem dX3_shift_0 : decode cX3_shift 0 = .ok (.iload_n 3, 1) := by decide +kernel
theorem dX3_shift_1 : decode cX3_shift 1 = .ok (.aload_n 0, 1) := by decide +kernel
theorem dX3_shift_2 : decode cX3_shift 2 = .ok (.getfield 19, 3) := by decide +kernel
theorem dX3_shift_5 : decode cX3_shift 5 = .ok (.iload_n 2, 1) := by decide +kernel
theorem dX3_shift_6 : decode cX3_shift 6 = .ok (.iaload, 1) := by decide +kernel
theorem dX3_shift_7 : decode cX3_shift 7 = .ok (.invokestatic 100, 3) := by decide +kernel
theorem dX3_shift_10 : decode cX3_shift 10 = .ok (.istore 4, 2) := by decide +kernel
theorem dX3_shift_12 : decode cX3_shift 12 = .ok (.iload_n 2, 1) := by decide +kernel
theorem dX3_shift_13 : decode cX3_shift 13 = .ok (.istore 5, 2) := by decide +kernel
theorem dX3_shift_15 : decode cX3_shift 15 = .ok (.iconst 0, 1) := by decide +kernel
theorem dX3_shift_16 : decode cX3_shift 16 = .ok (.istore 6, 2) := by decide +kernel
theorem dX3_shift_18 : decode cX3_shift 18 = .ok (.iload 6, 2) := by decide +kernel
theorem dX3_shift_20 : decode cX3_shift 20 = .ok (.bipush 10, 2) := by decide +kernel
theorem dX3_shift_22 : decode cX3_shift 22 = .ok (.if_icmp .ge 54, 3) := by decide +kernel
theorem dX3_shift_25 : decode cX3_shift 25 = .ok (.iload 5, 2) := by decide +kernel
theorem dX3_shift_27 : decode cX3_shift 27 = .ok (.iload_n 1, 1) := by decide +kernel
theorem dX3_shift_28 : decode cX3_shift 28 = .ok (.if_icmp .eq 48, 3) := by decide +kernel
theorem dX3_shift_31 : decode cX3_shift 31 = .ok (.iload 4, 2) := by decide +kernel
theorem dX3_shift_33 : decode cX3_shift 33 = .ok (.aload_n 0, 1) := by decide +kernel
theorem dX3_shift_34 : decode cX3_shift 34 = .ok (.getfield 22, 3) := by decide +kernel
theorem dX3_shift_37 : decode cX3_shift 37 = .ok (.aload_n 0, 1) := by decide +kernel
theorem dX3_shift_38 : decode cX3_shift 38 = .ok (.getfield 40, 3) := by decide +kernel
theorem dX3_shift_41 : decode cX3_shift 41 = .ok (.iload 5, 2) := by decide +kernel
theorem dX3_shift_43 : decode cX3_shift 43 = .ok (.iaload, 1) := by decide +kernel
theorem dX3_shift_44 : decode cX3_shift 44 = .ok (.bipush 10, 2) := by decide +kernel
theorem dX3_shift_46 : decode cX3_shift 46 = .ok (.imul, 1) := by decide +kernel
theorem dX3_shift_47 : decode cX3_shift 47 = .ok (.aload_n 0, 1) := by decide +kernel
theorem dX3_shift_48 : decode cX3_shift 48 = .ok (.getfield 37, 3) := by decide +kernel
theorem dX3_shift_51 : decode cX3_shift 51 = .ok (.iload 5, 2) := by decide +kernel
theorem dX3_shift_53 : decode cX3_shift 53 = .ok (.iaload, 1) := by decide +kernel
theorem dX3_shift_54 : decode cX3_shift 54 = .ok (.iadd, 1) := by decide +kernel
theorem dX3_shift_55 : decode cX3_shift 55 = .ok (.iaload, 1) := by decide +kernel
theorem dX3_shift_56 : decode cX3_shift 56 = .ok (.invokestatic 100, 3) := by decide +kernel
theorem dX3_shift_59 : decode cX3_shift 59 = .ok (.istore 4, 2) := by decide +kernel
theorem dX3_shift_61 : decode cX3_shift 61 = .ok (.aload_n 0, 1) := by decide +kernel
theorem dX3_shift_62 : decode cX3_shift 62 = .ok (.getfield 37, 3) := by decide +kernel
theorem dX3_shift_65 : decode cX3_shift 65 = .ok (.iload 5, 2) := by decide +kernel
theorem dX3_shift_67 : decode cX3_shift 67 = .ok (.iaload, 1) := by decide +kernel
theorem dX3_shift_68 : decode cX3_shift 68 = .ok (.istore 5, 2) := by decide +kernel
theorem dX3_shift_70 : decode cX3_shift 70 = .ok (.iinc 6 1, 3) := by decide +kernel
theorem dX3_shift_73 : decode cX3_shift 73 = .ok (.goto (-55), 3) := by decide +kernel
theorem dX3_shift_76 : decode cX3_shift 76 = .ok (.aload_n 0, 1) := by decide +kernel
theorem dX3_shift_77 : decode cX3_shift 77 = .ok (.getfield 19, 3) := by decide +kernel
theorem dX3_shift_80 : decode cX3_shift 80 = .ok (.iload_n 2, 1) := by decide +kernel
theorem dX3_shift_81 : decode cX3_shift 81 = .ok (.dup2, 1) := by decide +kernel
theorem dX3_shift_82 : decode cX3_shift 82 = .ok (.iaload, 1) := by decide +kernel
theorem dX3_shift_83 : decode cX3_shift 83 = .ok (.iload 4, 2) := by decide +kernel
theorem dX3_shift_85 : decode cX3_shift 85 = .ok (.isub, 1) := by decide +kernel
theorem dX3_shift_86 : decode cX3_shift 86 = .ok (.iastore, 1) := by decide +kernel
theorem dX3_shift_87 : decode cX3_shift 87 = .ok (.iload_n 2, 1) := by decide +kernel
theorem dX3_shift_88 : decode cX3_shift 88 = .ok (.istore 5, 2) := by decide +kernel
theorem dX3_shift_90 : decode cX3_shift 90 = .ok (.iconst 0, 1) := by decide +kernel
theorem dX3_shift_91 : decode cX3_shift 91 = .ok (.istore 6, 2) := by decide +kernel
theorem dX3_shift_93 : decode cX3_shift 93 = .ok (.iload 6, 2) := by decide +kernel
theorem dX3_shift_95 : decode cX3_shift 95 = .ok (.bipush 10, 2) := by decide +kernel
theorem dX3_shift_97 : decode cX3_shift 97 = .ok (.if_icmp .ge 75, 3) := by decide +kernel
theorem dX3_shift_100 : decode cX3_shift 100 = .ok (.iload 5, 2) := by decide +kernel
theorem dX3_shift_102 : decode cX3_shift 102 = .ok (.iload_n 1, 1) := by decide +kernel
theorem dX3_shift_103 : decode cX3_shift 103 = .ok (.if_icmp .eq 69, 3) := by decide +kernel
theorem dX3_shift_106 : decode cX3_shift 106 = .ok (.aload_n 0, 1) := by decide +kernel
theorem dX3_shift_107 : decode cX3_shift 107 = .ok (.getfield 22, 3) := by decide +kernel
theorem dX3_shift_110 : decode cX3_shift 110 = .ok (.aload_n 0, 1) := by decide +kernel
theorem dX3_shift_111 : decode cX3_shift 111 = .ok (.getfield 40, 3) := by decide +kernel
theorem dX3_shift_114 : decode cX3_shift 114 = .ok (.iload 5, 2) := by decide +kernel
theorem dX3_shift_116 : decode cX3_shift 116 = .ok (.iaload, 1) := by decide +kernel
theorem dX3_shift_117 : decode cX3_shift 117 = .ok (.bipush 10, 2) := by decide +kernel
theorem dX3_shift_119 : decode cX3_shift 119 = .ok (.imul, 1) := by decide +kernel
theorem dX3_shift_120 : decode cX3_shift 120 = .ok (.iload 5, 2) := by decide +kernel
theorem dX3_shift_122 : decode cX3_shift 122 = .ok (.iadd, 1) := by decide +kernel
theorem dX3_shift_123 : decode cX3_shift 123 = .ok (.dup2, 1) := by decide +kernel
theorem dX3_shift_124 : decode cX3_shift 124 = .ok (.iaload, 1) := by decide +kernel
theorem dX3_shift_125 : decode cX3_shift 125 = .ok (.iload 4, 2) := by decide +kernel
theorem dX3_shift_127 : decode cX3_shift 127 = .ok (.iadd, 1) := by decide +kernel
theorem dX3_shift_128 : decode cX3_shift 128 = .ok (.iastore, 1) := by decide +kernel
theorem dX3_shift_129 : decode cX3_shift 129 = .ok (.aload_n 0, 1) := by decide +kernel
theorem dX3_shift_130 : decode cX3_shift 130 = .ok (.getfield 22, 3) := by decide +kernel
theorem dX3_shift_133 : decode cX3_shift 133 = .ok (.aload_n 0, 1) := by decide +kernel
theorem dX3_shift_134 : decode cX3_shift 134 = .ok (.getfield 40, 3) := by decide +kernel
theorem dX3_shift_137 : decode cX3_shift 137 = .ok (.iload 5, 2) := by decide +kernel
theorem dX3_shift_139 : decode cX3_shift 139 = .ok (.iaload, 1) := by decide +kernel
theorem dX3_shift_140 : decode cX3_shift 140 = .ok (.bipush 10, 2) := by decide +kernel
theorem dX3_shift_142 : decode cX3_shift 142 = .ok (.imul, 1) := by decide +kernel
theorem dX3_shift_143 : decode cX3_shift 143 = .ok (.aload_n 0, 1) := by decide +kernel
theorem dX3_shift_144 : decode cX3_shift 144 = .ok (.getfield 37, 3) := by decide +kernel
theorem dX3_shift_147 : decode cX3_shift 147 = .ok (.iload 5, 2) := by decide +kernel
theorem dX3_shift_149 : decode cX3_shift 149 = .ok (.iaload, 1) := by decide +kernel
theorem dX3_shift_150 : decode cX3_shift 150 = .ok (.iadd, 1) := by decide +kernel
theorem dX3_shift_151 : decode cX3_shift 151 = .ok (.dup2, 1) := by decide +kernel
theorem dX3_shift_152 : decode cX3_shift 152 = .ok (.iaload, 1) := by decide +kernel
theorem dX3_shift_153 : decode cX3_shift 153 = .ok (.iload 4, 2) := by decide +kernel
theorem dX3_shift_155 : decode cX3_shift 155 = .ok (.isub, 1) := by decide +kernel
theorem dX3_shift_156 : decode cX3_shift 156 = .ok (.iastore, 1) := by decide +kernel
theorem dX3_shift_157 : decode cX3_shift 157 = .ok (.aload_n 0, 1) := by decide +kernel
theorem dX3_shift_158 : decode cX3_shift 158 = .ok (.getfield 37, 3) := by decide +kernel
theorem dX3_shift_161 : decode cX3_shift 161 = .ok (.iload 5, 2) := by decide +kernel
theorem dX3_shift_163 : decode cX3_shift 163 = .ok (.iaload, 1) := by decide +kernel
theorem dX3_shift_164 : decode cX3_shift 164 = .ok (.istore 5, 2) := by decide +kernel
theorem dX3_shift_166 : decode cX3_shift 166 = .ok (.iinc 6 1, 3) := by decide +kernel
theorem dX3_shift_169 : decode cX3_shift 169 = .ok (.goto (-76), 3) := by decide +kernel
theorem dX3_shift_172 : decode cX3_shift 172 = .ok (.iload 4, 2) := by decide +kernel
theorem dX3_shift_174 : decode cX3_shift 174 = .ok (.ireturn, 1) := by decide +kernel
theorem dX3_takesFrom_0 : decode cX3_takesFrom 0 = .ok (.iconst 0, 1) := by decide +kernel
theorem dX3_takesFrom_1 : decode cX3_takesFrom 1 = .ok (.istore_n 3, 1) := by decide +kernel
theorem dX3_takesFrom_2 : decode cX3_takesFrom 2 = .ok (.iload_n 3, 1) := by decide +kernel
theorem dX3_takesFrom_3 : decode cX3_takesFrom 3 = .ok (.aload_n 0, 1) := by decide +kernel
theorem dX3_takesFrom_4 : decode cX3_takesFrom 4 = .ok (.getfield 9, 3) := by decide +kernel
theorem dX3_takesFrom_7 : decode cX3_takesFrom 7 = .ok (.if_icmp .ge 33, 3) := by decide +kernel
theorem dX3_takesFrom_10 : decode cX3_takesFrom 10 = .ok (.iload_n 2, 1) := by decide +kernel
theorem dX3_takesFrom_11 : decode cX3_takesFrom 11 = .ok (.iload_n 3, 1) := by decide +kernel
theorem dX3_takesFrom_12 : decode cX3_takesFrom 12 = .ok (.invokestatic 73, 3) := by decide +kernel
theorem dX3_takesFrom_15 : decode cX3_takesFrom 15 = .ok (.ifCond .eq 19, 3) := by decide +kernel
theorem dX3_takesFrom_18 : decode cX3_takesFrom 18 = .ok (.aload_n 0, 1) := by decide +kernel
theorem dX3_takesFrom_19 : decode cX3_takesFrom 19 = .ok (.getfield 22, 3) := by decide +kernel
theorem dX3_takesFrom_22 : decode cX3_takesFrom 22 = .ok (.iload_n 1, 1) := by decide +kernel
theorem dX3_takesFrom_23 : decode cX3_takesFrom 23 = .ok (.bipush 10, 2) := by decide +kernel
theorem dX3_takesFrom_25 : decode cX3_takesFrom 25 = .ok (.imul, 1) := by decide +kernel
theorem dX3_takesFrom_26 : decode cX3_takesFrom 26 = .ok (.iload_n 3, 1) := by decide +kernel
theorem dX3_takesFrom_27 : decode cX3_takesFrom 27 = .ok (.iadd, 1) := by decide +kernel
theorem dX3_takesFrom_28 : decode cX3_takesFrom 28 = .ok (.iaload, 1) := by decide +kernel
theorem dX3_takesFrom_29 : decode cX3_takesFrom 29 = .ok (.ifCond .le 5, 3) := by decide +kernel
theorem dX3_takesFrom_32 : decode cX3_takesFrom 32 = .ok (.iconst 1, 1) := by decide +kernel
theorem dX3_takesFrom_33 : decode cX3_takesFrom 33 = .ok (.ireturn, 1) := by decide +kernel
theorem dX3_takesFrom_34 : decode cX3_takesFrom 34 = .ok (.iinc 3 1, 3) := by decide +kernel
theorem dX3_takesFrom_37 : decode cX3_takesFrom 37 = .ok (.goto (-35), 3) := by decide +kernel
theorem dX3_takesFrom_40 : decode cX3_takesFrom 40 = .ok (.iconst 0, 1) := by decide +kernel
theorem dX3_takesFrom_41 : decode cX3_takesFrom 41 = .ok (.ireturn, 1) := by decide +kernel
theorem dX3_partsOf_0 : decode cX3_partsOf 0 = .ok (.iconst 0, 1) := by decide +kernel
theorem dX3_partsOf_1 : decode cX3_partsOf 1 = .ok (.istore_n 2, 1) := by decide +kernel
theorem dX3_partsOf_2 : decode cX3_partsOf 2 = .ok (.iconst 0, 1) := by decide +kernel
theorem dX3_partsOf_3 : decode cX3_partsOf 3 = .ok (.istore_n 3, 1) := by decide +kernel
theorem dX3_partsOf_4 : decode cX3_partsOf 4 = .ok (.iload_n 3, 1) := by decide +kernel
theorem dX3_partsOf_5 : decode cX3_partsOf 5 = .ok (.aload_n 0, 1) := by decide +kernel
theorem dX3_partsOf_6 : decode cX3_partsOf 6 = .ok (.getfield 9, 3) := by decide +kernel
theorem dX3_partsOf_9 : decode cX3_partsOf 9 = .ok (.if_icmp .ge 26, 3) := by decide +kernel
theorem dX3_partsOf_12 : decode cX3_partsOf 12 = .ok (.aload_n 0, 1) := by decide +kernel
theorem dX3_partsOf_13 : decode cX3_partsOf 13 = .ok (.getfield 22, 3) := by decide +kernel
theorem dX3_partsOf_16 : decode cX3_partsOf 16 = .ok (.iload_n 1, 1) := by decide +kernel
theorem dX3_partsOf_17 : decode cX3_partsOf 17 = .ok (.bipush 10, 2) := by decide +kernel
theorem dX3_partsOf_19 : decode cX3_partsOf 19 = .ok (.imul, 1) := by decide +kernel
theorem dX3_partsOf_20 : decode cX3_partsOf 20 = .ok (.iload_n 3, 1) := by decide +kernel
theorem dX3_partsOf_21 : decode cX3_partsOf 21 = .ok (.iadd, 1) := by decide +kernel
theorem dX3_partsOf_22 : decode cX3_partsOf 22 = .ok (.iaload, 1) := by decide +kernel
theorem dX3_partsOf_23 : decode cX3_partsOf 23 = .ok (.ifCond .le 6, 3) := by decide +kernel
theorem dX3_partsOf_26 : decode cX3_partsOf 26 = .ok (.iinc 2 1, 3) := by decide +kernel
theorem dX3_partsOf_29 : decode cX3_partsOf 29 = .ok (.iinc 3 1, 3) := by decide +kernel
theorem dX3_partsOf_32 : decode cX3_partsOf 32 = .ok (.goto (-28), 3) := by decide +kernel
theorem dX3_partsOf_35 : decode cX3_partsOf 35 = .ok (.iload_n 2, 1) := by decide +kernel
theorem dX3_partsOf_36 : decode cX3_partsOf 36 = .ok (.ireturn, 1) := by decide +kernel
theorem dX3_partOf_0 : decode cX3_partOf 0 = .ok (.iconst 0, 1) := by decide +kernel
theorem dX3_partOf_1 : decode cX3_partOf 1 = .ok (.istore 4, 2) := by decide +kernel
theorem dX3_partOf_3 : decode cX3_partOf 3 = .ok (.iconst 0, 1) := by decide +kernel
theorem dX3_partOf_4 : decode cX3_partOf 4 = .ok (.istore 5, 2) := by decide +kernel
theorem dX3_partOf_6 : decode cX3_partOf 6 = .ok (.iload 5, 2) := by decide +kernel
theorem dX3_partOf_8 : decode cX3_partOf 8 = .ok (.aload_n 0, 1) := by decide +kernel
theorem dX3_partOf_9 : decode cX3_partOf 9 = .ok (.getfield 9, 3) := by decide +kernel
theorem dX3_partOf_12 : decode cX3_partOf 12 = .ok (.if_icmp .ge 58, 3) := by decide +kernel
theorem dX3_partOf_15 : decode cX3_partOf 15 = .ok (.aload_n 0, 1) := by decide +kernel
theorem dX3_partOf_16 : decode cX3_partOf 16 = .ok (.getfield 15, 3) := by decide +kernel
theorem dX3_partOf_19 : decode cX3_partOf 19 = .ok (.iload 5, 2) := by decide +kernel
theorem dX3_partOf_21 : decode cX3_partOf 21 = .ok (.iaload, 1) := by decide +kernel
theorem dX3_partOf_22 : decode cX3_partOf 22 = .ok (.istore 6, 2) := by decide +kernel
theorem dX3_partOf_24 : decode cX3_partOf 24 = .ok (.aload_n 0, 1) := by decide +kernel
theorem dX3_partOf_25 : decode cX3_partOf 25 = .ok (.getfield 22, 3) := by decide +kernel
theorem dX3_partOf_28 : decode cX3_partOf 28 = .ok (.iload_n 1, 1) := by decide +kernel
theorem dX3_partOf_29 : decode cX3_partOf 29 = .ok (.bipush 10, 2) := by decide +kernel
theorem dX3_partOf_31 : decode cX3_partOf 31 = .ok (.imul, 1) := by decide +kernel
theorem dX3_partOf_32 : decode cX3_partOf 32 = .ok (.iload 6, 2) := by decide +kernel
theorem dX3_partOf_34 : decode cX3_partOf 34 = .ok (.iadd, 1) := by decide +kernel
theorem dX3_partOf_35 : decode cX3_partOf 35 = .ok (.iaload, 1) := by decide +kernel
theorem dX3_partOf_36 : decode cX3_partOf 36 = .ok (.istore 7, 2) := by decide +kernel
theorem dX3_partOf_38 : decode cX3_partOf 38 = .ok (.iload 7, 2) := by decide +kernel
theorem dX3_partOf_40 : decode cX3_partOf 40 = .ok (.ifCond .le 24, 3) := by decide +kernel
theorem dX3_partOf_43 : decode cX3_partOf 43 = .ok (.iload 4, 2) := by decide +kernel
theorem dX3_partOf_45 : decode cX3_partOf 45 = .ok (.iload_n 2, 1) := by decide +kernel
theorem dX3_partOf_46 : decode cX3_partOf 46 = .ok (.if_icmp .ne 15, 3) := by decide +kernel
theorem dX3_partOf_49 : decode cX3_partOf 49 = .ok (.iload_n 3, 1) := by decide +kernel
theorem dX3_partOf_50 : decode cX3_partOf 50 = .ok (.ifCond .eq 8, 3) := by decide +kernel
theorem dX3_partOf_53 : decode cX3_partOf 53 = .ok (.iload 6, 2) := by decide +kernel
theorem dX3_partOf_55 : decode cX3_partOf 55 = .ok (.goto 5, 3) := by decide +kernel
theorem dX3_partOf_58 : decode cX3_partOf 58 = .ok (.iload 7, 2) := by decide +kernel
theorem dX3_partOf_60 : decode cX3_partOf 60 = .ok (.ireturn, 1) := by decide +kernel
theorem dX3_partOf_61 : decode cX3_partOf 61 = .ok (.iinc 4 1, 3) := by decide +kernel
theorem dX3_partOf_64 : decode cX3_partOf 64 = .ok (.iinc 5 1, 3) := by decide +kernel
theorem dX3_partOf_67 : decode cX3_partOf 67 = .ok (.goto (-61), 3) := by decide +kernel
theorem dX3_partOf_70 : decode cX3_partOf 70 = .ok (.iconst (-1), 1) := by decide +kernel
theorem dX3_partOf_71 : decode cX3_partOf 71 = .ok (.ireturn, 1) := by decide +kernel
theorem dL_arrival_0 : decode cL_arrival 0 = .ok (.aload 4, 2) := by decide +kernel
theorem dL_arrival_2 : decode cL_arrival 2 = .ok (.iconst 0, 1) := by decide +kernel
theorem dL_arrival_3 : decode cL_arrival 3 = .ok (.aload_n 0, 1) := by decide +kernel
theorem dL_arrival_4 : decode cL_arrival 4 = .ok (.iload_n 1, 1) := by decide +kernel
theorem dL_arrival_5 : decode cL_arrival 5 = .ok (.iload_n 2, 1) := by decide +kernel
theorem dL_arrival_6 : decode cL_arrival 6 = .ok (.iload_n 3, 1) := by decide +kernel
theorem dL_arrival_7 : decode cL_arrival 7 = .ok (.invokevirtual 7, 3) := by decide +kernel
theorem dL_arrival_10 : decode cL_arrival 10 = .ok (.i2l, 1) := by decide +kernel
theorem dL_arrival_11 : decode cL_arrival 11 = .ok (.lastore, 1) := by decide +kernel
theorem dL_arrival_12 : decode cL_arrival 12 = .ok (.goto 15, 3) := by decide +kernel
theorem dL_arrival_15 : decode cL_arrival 15 = .ok (.astore 5, 2) := by decide +kernel
theorem dL_arrival_17 : decode cL_arrival 17 = .ok (.iconst 1, 1) := by decide +kernel
theorem dL_arrival_18 : decode cL_arrival 18 = .ok (.ireturn, 1) := by decide +kernel
theorem dL_arrival_19 : decode cL_arrival 19 = .ok (.astore 5, 2) := by decide +kernel
theorem dL_arrival_21 : decode cL_arrival 21 = .ok (.iconst 2, 1) := by decide +kernel
theorem dL_arrival_22 : decode cL_arrival 22 = .ok (.ireturn, 1) := by decide +kernel
theorem dL_arrival_23 : decode cL_arrival 23 = .ok (.astore 5, 2) := by decide +kernel
theorem dL_arrival_25 : decode cL_arrival 25 = .ok (.iconst 3, 1) := by decide +kernel
theorem dL_arrival_26 : decode cL_arrival 26 = .ok (.ireturn, 1) := by decide +kernel
theorem dL_arrival_27 : decode cL_arrival 27 = .ok (.iconst 0, 1) := by decide +kernel
theorem dL_arrival_28 : decode cL_arrival 28 = .ok (.ireturn, 1) := by decide +kernel
theorem dL_change_0 : decode cL_change 0 = .ok (.aload 4, 2) := by decide +kernel
theorem dL_change_2 : decode cL_change 2 = .ok (.iconst 0, 1) := by decide +kernel
theorem dL_change_3 : decode cL_change 3 = .ok (.aload_n 0, 1) := by decide +kernel
theorem dL_change_4 : decode cL_change 4 = .ok (.iload_n 1, 1) := by decide +kernel
theorem dL_change_5 : decode cL_change 5 = .ok (.iload_n 2, 1) := by decide +kernel
theorem dL_change_6 : decode cL_change 6 = .ok (.iload_n 3, 1) := by decide +kernel
theorem dL_change_7 : decode cL_change 7 = .ok (.invokevirtual 19, 3) := by decide +kernel
theorem dL_change_10 : decode cL_change 10 = .ok (.i2l, 1) := by decide +kernel
theorem dL_change_11 : decode cL_change 11 = .ok (.lastore, 1) := by decide +kernel
theorem dL_change_12 : decode cL_change 12 = .ok (.goto 15, 3) := by decide +kernel
theorem dL_change_15 : decode cL_change 15 = .ok (.astore 5, 2) := by decide +kernel
theorem dL_change_17 : decode cL_change 17 = .ok (.iconst 1, 1) := by decide +kernel
theorem dL_change_18 : decode cL_change 18 = .ok (.ireturn, 1) := by decide +kernel
theorem dL_change_19 : decode cL_change 19 = .ok (.astore 5, 2) := by decide +kernel
theorem dL_change_21 : decode cL_change 21 = .ok (.iconst 2, 1) := by decide +kernel
theorem dL_change_22 : decode cL_change 22 = .ok (.ireturn, 1) := by decide +kernel
theorem dL_change_23 : decode cL_change 23 = .ok (.astore 5, 2) := by decide +kernel
theorem dL_change_25 : decode cL_change 25 = .ok (.iconst 3, 1) := by decide +kernel
theorem dL_change_26 : decode cL_change 26 = .ok (.ireturn, 1) := by decide +kernel
theorem dL_change_27 : decode cL_change 27 = .ok (.iconst 0, 1) := by decide +kernel
theorem dL_change_28 : decode cL_change 28 = .ok (.ireturn, 1) := by decide +kernel
theorem dL_aside_0 : decode cL_aside 0 = .ok (.aload_n 3, 1) := by decide +kernel
theorem dL_aside_1 : decode cL_aside 1 = .ok (.iconst 0, 1) := by decide +kernel
theorem dL_aside_2 : decode cL_aside 2 = .ok (.aload_n 0, 1) := by decide +kernel
theorem dL_aside_3 : decode cL_aside 3 = .ok (.iload_n 1, 1) := by decide +kernel
theorem dL_aside_4 : decode cL_aside 4 = .ok (.iload_n 2, 1) := by decide +kernel
theorem dL_aside_5 : decode cL_aside 5 = .ok (.invokevirtual 24, 3) := by decide +kernel
theorem dL_aside_8 : decode cL_aside 8 = .ok (.i2l, 1) := by decide +kernel
theorem dL_aside_9 : decode cL_aside 9 = .ok (.lastore, 1) := by decide +kernel
theorem dL_aside_10 : decode cL_aside 10 = .ok (.goto 11, 3) := by decide +kernel
theorem dL_aside_13 : decode cL_aside 13 = .ok (.astore 4, 2) := by decide +kernel
theorem dL_aside_15 : decode cL_aside 15 = .ok (.iconst 1, 1) := by decide +kernel
theorem dL_aside_16 : decode cL_aside 16 = .ok (.ireturn, 1) := by decide +kernel
theorem dL_aside_17 : decode cL_aside 17 = .ok (.astore 4, 2) := by decide +kernel
theorem dL_aside_19 : decode cL_aside 19 = .ok (.iconst 2, 1) := by decide +kernel
theorem dL_aside_20 : decode cL_aside 20 = .ok (.ireturn, 1) := by decide +kernel
theorem dL_aside_21 : decode cL_aside 21 = .ok (.iconst 0, 1) := by decide +kernel
theorem dL_aside_22 : decode cL_aside 22 = .ok (.ireturn, 1) := by decide +kernel
theorem dL_life_0 : decode cL_life 0 = .ok (.aload_n 3, 1) := by decide +kernel
theorem dL_life_1 : decode cL_life 1 = .ok (.iconst 0, 1) := by decide +kernel
theorem dL_life_2 : decode cL_life 2 = .ok (.aload_n 0, 1) := by decide +kernel
theorem dL_life_3 : decode cL_life 3 = .ok (.iload_n 1, 1) := by decide +kernel
theorem dL_life_4 : decode cL_life 4 = .ok (.iload_n 2, 1) := by decide +kernel
theorem dL_life_5 : decode cL_life 5 = .ok (.invokevirtual 28, 3) := by decide +kernel
theorem dL_life_8 : decode cL_life 8 = .ok (.i2l, 1) := by decide +kernel
theorem dL_life_9 : decode cL_life 9 = .ok (.lastore, 1) := by decide +kernel
theorem dL_life_10 : decode cL_life 10 = .ok (.goto 7, 3) := by decide +kernel
theorem dL_life_13 : decode cL_life 13 = .ok (.astore 4, 2) := by decide +kernel
theorem dL_life_15 : decode cL_life 15 = .ok (.iconst 1, 1) := by decide +kernel
theorem dL_life_16 : decode cL_life 16 = .ok (.ireturn, 1) := by decide +kernel
theorem dL_life_17 : decode cL_life 17 = .ok (.iconst 0, 1) := by decide +kernel
theorem dL_life_18 : decode cL_life 18 = .ok (.ireturn, 1) := by decide +kernel
theorem dL_standIn_0 : decode cL_standIn 0 = .ok (.aload 4, 2) := by decide +kernel
theorem dL_standIn_2 : decode cL_standIn 2 = .ok (.iconst 0, 1) := by decide +kernel
theorem dL_standIn_3 : decode cL_standIn 3 = .ok (.aload_n 0, 1) := by decide +kernel
theorem dL_standIn_4 : decode cL_standIn 4 = .ok (.iload_n 1, 1) := by decide +kernel
theorem dL_standIn_5 : decode cL_standIn 5 = .ok (.iload_n 2, 1) := by decide +kernel
theorem dL_standIn_6 : decode cL_standIn 6 = .ok (.iload_n 3, 1) := by decide +kernel
theorem dL_standIn_7 : decode cL_standIn 7 = .ok (.invokevirtual 31, 3) := by decide +kernel
theorem dL_standIn_10 : decode cL_standIn 10 = .ok (.i2l, 1) := by decide +kernel
theorem dL_standIn_11 : decode cL_standIn 11 = .ok (.lastore, 1) := by decide +kernel
theorem dL_standIn_12 : decode cL_standIn 12 = .ok (.goto 11, 3) := by decide +kernel
theorem dL_standIn_15 : decode cL_standIn 15 = .ok (.astore 5, 2) := by decide +kernel
theorem dL_standIn_17 : decode cL_standIn 17 = .ok (.iconst 1, 1) := by decide +kernel
theorem dL_standIn_18 : decode cL_standIn 18 = .ok (.ireturn, 1) := by decide +kernel
theorem dL_standIn_19 : decode cL_standIn 19 = .ok (.astore 5, 2) := by decide +kernel
theorem dL_standIn_21 : decode cL_standIn 21 = .ok (.iconst 2, 1) := by decide +kernel
theorem dL_standIn_22 : decode cL_standIn 22 = .ok (.ireturn, 1) := by decide +kernel
theorem dL_standIn_23 : decode cL_standIn 23 = .ok (.iconst 0, 1) := by decide +kernel
theorem dL_standIn_24 : decode cL_standIn 24 = .ok (.ireturn, 1) := by decide +kernel
theorem dL_kit_0 : decode cL_kit 0 = .ok (.aload 4, 2) := by decide +kernel
theorem dL_kit_2 : decode cL_kit 2 = .ok (.iconst 0, 1) := by decide +kernel
theorem dL_kit_3 : decode cL_kit 3 = .ok (.aload_n 0, 1) := by decide +kernel
theorem dL_kit_4 : decode cL_kit 4 = .ok (.iload_n 1, 1) := by decide +kernel
theorem dL_kit_5 : decode cL_kit 5 = .ok (.iload_n 2, 1) := by decide +kernel
theorem dL_kit_6 : decode cL_kit 6 = .ok (.iload_n 3, 1) := by decide +kernel
theorem dL_kit_7 : decode cL_kit 7 = .ok (.invokevirtual 35, 3) := by decide +kernel
theorem dL_kit_10 : decode cL_kit 10 = .ok (.i2l, 1) := by decide +kernel
theorem dL_kit_11 : decode cL_kit 11 = .ok (.lastore, 1) := by decide +kernel
theorem dL_kit_12 : decode cL_kit 12 = .ok (.goto 15, 3) := by decide +kernel
theorem dL_kit_15 : decode cL_kit 15 = .ok (.astore 5, 2) := by decide +kernel
theorem dL_kit_17 : decode cL_kit 17 = .ok (.iconst 1, 1) := by decide +kernel
theorem dL_kit_18 : decode cL_kit 18 = .ok (.ireturn, 1) := by decide +kernel
theorem dL_kit_19 : decode cL_kit 19 = .ok (.astore 5, 2) := by decide +kernel
theorem dL_kit_21 : decode cL_kit 21 = .ok (.iconst 2, 1) := by decide +kernel
theorem dL_kit_22 : decode cL_kit 22 = .ok (.ireturn, 1) := by decide +kernel
theorem dL_kit_23 : decode cL_kit 23 = .ok (.astore 5, 2) := by decide +kernel
theorem dL_kit_25 : decode cL_kit 25 = .ok (.iconst 3, 1) := by decide +kernel
theorem dL_kit_26 : decode cL_kit 26 = .ok (.ireturn, 1) := by decide +kernel
theorem dL_kit_27 : decode cL_kit 27 = .ok (.iconst 0, 1) := by decide +kernel
theorem dL_kit_28 : decode cL_kit 28 = .ok (.ireturn, 1) := by decide +kernel
theorem dL_order_0 : decode cL_order 0 = .ok (.aload 5, 2) := by decide +kernel
theorem dL_order_2 : decode cL_order 2 = .ok (.iconst 0, 1) := by decide +kernel
theorem dL_order_3 : decode cL_order 3 = .ok (.aload_n 0, 1) := by decide +kernel
theorem dL_order_4 : decode cL_order 4 = .ok (.iload_n 1, 1) := by decide +kernel
theorem dL_order_5 : decode cL_order 5 = .ok (.iload_n 2, 1) := by decide +kernel
theorem dL_order_6 : decode cL_order 6 = .ok (.iload_n 3, 1) := by decide +kernel
theorem dL_order_7 : decode cL_order 7 = .ok (.iload 4, 2) := by decide +kernel
theorem dL_order_9 : decode cL_order 9 = .ok (.invokevirtual 38, 3) := by decide +kernel
theorem dL_order_12 : decode cL_order 12 = .ok (.i2l, 1) := by decide +kernel
theorem dL_order_13 : decode cL_order 13 = .ok (.lastore, 1) := by decide +kernel
theorem dL_order_14 : decode cL_order 14 = .ok (.goto 11, 3) := by decide +kernel
theorem dL_order_17 : decode cL_order 17 = .ok (.astore 6, 2) := by decide +kernel
theorem dL_order_19 : decode cL_order 19 = .ok (.iconst 1, 1) := by decide +kernel
theorem dL_order_20 : decode cL_order 20 = .ok (.ireturn, 1) := by decide +kernel
theorem dL_order_21 : decode cL_order 21 = .ok (.astore 6, 2) := by decide +kernel
theorem dL_order_23 : decode cL_order 23 = .ok (.iconst 2, 1) := by decide +kernel
theorem dL_order_24 : decode cL_order 24 = .ok (.ireturn, 1) := by decide +kernel
theorem dL_order_25 : decode cL_order 25 = .ok (.iconst 0, 1) := by decide +kernel
theorem dL_order_26 : decode cL_order 26 = .ok (.ireturn, 1) := by decide +kernel
theorem dL_close_0 : decode cL_close 0 = .ok (.aload_n 2, 1) := by decide +kernel
theorem dL_close_1 : decode cL_close 1 = .ok (.iconst 0, 1) := by decide +kernel
theorem dL_close_2 : decode cL_close 2 = .ok (.aload_n 0, 1) := by decide +kernel
theorem dL_close_3 : decode cL_close 3 = .ok (.iload_n 1, 1) := by decide +kernel
theorem dL_close_4 : decode cL_close 4 = .ok (.invokevirtual 42, 3) := by decide +kernel
theorem dL_close_7 : decode cL_close 7 = .ok (.i2l, 1) := by decide +kernel
theorem dL_close_8 : decode cL_close 8 = .ok (.lastore, 1) := by decide +kernel
theorem dL_close_9 : decode cL_close 9 = .ok (.goto 9, 3) := by decide +kernel
theorem dL_close_12 : decode cL_close 12 = .ok (.astore_n 3, 1) := by decide +kernel
theorem dL_close_13 : decode cL_close 13 = .ok (.iconst 1, 1) := by decide +kernel
theorem dL_close_14 : decode cL_close 14 = .ok (.ireturn, 1) := by decide +kernel
theorem dL_close_15 : decode cL_close 15 = .ok (.astore_n 3, 1) := by decide +kernel
theorem dL_close_16 : decode cL_close 16 = .ok (.iconst 2, 1) := by decide +kernel
theorem dL_close_17 : decode cL_close 17 = .ok (.ireturn, 1) := by decide +kernel
theorem dL_close_18 : decode cL_close 18 = .ok (.iconst 0, 1) := by decide +kernel
theorem dL_close_19 : decode cL_close 19 = .ok (.ireturn, 1) := by decide +kernel
theorem dL_promise_0 : decode cL_promise 0 = .ok (.aload_n 3, 1) := by decide +kernel
theorem dL_promise_1 : decode cL_promise 1 = .ok (.iconst 0, 1) := by decide +kernel
theorem dL_promise_2 : decode cL_promise 2 = .ok (.aload_n 0, 1) := by decide +kernel
theorem dL_promise_3 : decode cL_promise 3 = .ok (.iload_n 1, 1) := by decide +kernel
theorem dL_promise_4 : decode cL_promise 4 = .ok (.iload_n 2, 1) := by decide +kernel
theorem dL_promise_5 : decode cL_promise 5 = .ok (.invokevirtual 46, 3) := by decide +kernel
theorem dL_promise_8 : decode cL_promise 8 = .ok (.i2l, 1) := by decide +kernel
theorem dL_promise_9 : decode cL_promise 9 = .ok (.lastore, 1) := by decide +kernel
theorem dL_promise_10 : decode cL_promise 10 = .ok (.goto 7, 3) := by decide +kernel
theorem dL_promise_13 : decode cL_promise 13 = .ok (.astore 4, 2) := by decide +kernel
theorem dL_promise_15 : decode cL_promise 15 = .ok (.iconst 1, 1) := by decide +kernel
theorem dL_promise_16 : decode cL_promise 16 = .ok (.ireturn, 1) := by decide +kernel
theorem dL_promise_17 : decode cL_promise 17 = .ok (.iconst 0, 1) := by decide +kernel
theorem dL_promise_18 : decode cL_promise 18 = .ok (.ireturn, 1) := by decide +kernel
theorem dL_share_0 : decode cL_share 0 = .ok (.aload_n 3, 1) := by decide +kernel
theorem dL_share_1 : decode cL_share 1 = .ok (.iconst 0, 1) := by decide +kernel
theorem dL_share_2 : decode cL_share 2 = .ok (.aload_n 0, 1) := by decide +kernel
theorem dL_share_3 : decode cL_share 3 = .ok (.iload_n 1, 1) := by decide +kernel
theorem dL_share_4 : decode cL_share 4 = .ok (.iload_n 2, 1) := by decide +kernel
theorem dL_share_5 : decode cL_share 5 = .ok (.invokevirtual 49, 3) := by decide +kernel
theorem dL_share_8 : decode cL_share 8 = .ok (.i2l, 1) := by decide +kernel
theorem dL_share_9 : decode cL_share 9 = .ok (.lastore, 1) := by decide +kernel
theorem dL_share_10 : decode cL_share 10 = .ok (.goto 11, 3) := by decide +kernel
theorem dL_share_13 : decode cL_share 13 = .ok (.astore 4, 2) := by decide +kernel
theorem dL_share_15 : decode cL_share 15 = .ok (.iconst 1, 1) := by decide +kernel
theorem dL_share_16 : decode cL_share 16 = .ok (.ireturn, 1) := by decide +kernel
theorem dL_share_17 : decode cL_share 17 = .ok (.astore 4, 2) := by decide +kernel
theorem dL_share_19 : decode cL_share 19 = .ok (.iconst 2, 1) := by decide +kernel
theorem dL_share_20 : decode cL_share 20 = .ok (.ireturn, 1) := by decide +kernel
theorem dL_share_21 : decode cL_share 21 = .ok (.iconst 0, 1) := by decide +kernel
theorem dL_share_22 : decode cL_share 22 = .ok (.ireturn, 1) := by decide +kernel
theorem dL_bars_0 : decode cL_bars 0 = .ok (.aload 4, 2) := by decide +kernel
theorem dL_bars_2 : decode cL_bars 2 = .ok (.iconst 0, 1) := by decide +kernel
theorem dL_bars_3 : decode cL_bars 3 = .ok (.aload_n 0, 1) := by decide +kernel
theorem dL_bars_4 : decode cL_bars 4 = .ok (.iload_n 1, 1) := by decide +kernel
theorem dL_bars_5 : decode cL_bars 5 = .ok (.iload_n 2, 1) := by decide +kernel
theorem dL_bars_6 : decode cL_bars 6 = .ok (.iload_n 3, 1) := by decide +kernel
theorem dL_bars_7 : decode cL_bars 7 = .ok (.invokevirtual 54, 3) := by decide +kernel
theorem dL_bars_10 : decode cL_bars 10 = .ok (.i2l, 1) := by decide +kernel
theorem dL_bars_11 : decode cL_bars 11 = .ok (.lastore, 1) := by decide +kernel
theorem dL_bars_12 : decode cL_bars 12 = .ok (.goto 11, 3) := by decide +kernel
theorem dL_bars_15 : decode cL_bars 15 = .ok (.astore 5, 2) := by decide +kernel
theorem dL_bars_17 : decode cL_bars 17 = .ok (.iconst 1, 1) := by decide +kernel
theorem dL_bars_18 : decode cL_bars 18 = .ok (.ireturn, 1) := by decide +kernel
theorem dL_bars_19 : decode cL_bars 19 = .ok (.astore 5, 2) := by decide +kernel
theorem dL_bars_21 : decode cL_bars 21 = .ok (.iconst 2, 1) := by decide +kernel
theorem dL_bars_22 : decode cL_bars 22 = .ok (.ireturn, 1) := by decide +kernel
theorem dL_bars_23 : decode cL_bars 23 = .ok (.iconst 0, 1) := by decide +kernel
theorem dL_bars_24 : decode cL_bars 24 = .ok (.ireturn, 1) := by decide +kernel
theorem dL_flow_0 : decode cL_flow 0 = .ok (.aload 4, 2) := by decide +kernel
theorem dL_flow_2 : decode cL_flow 2 = .ok (.iconst 0, 1) := by decide +kernel
theorem dL_flow_3 : decode cL_flow 3 = .ok (.aload_n 0, 1) := by decide +kernel
theorem dL_flow_4 : decode cL_flow 4 = .ok (.iload_n 1, 1) := by decide +kernel
theorem dL_flow_5 : decode cL_flow 5 = .ok (.iload_n 2, 1) := by decide +kernel
theorem dL_flow_6 : decode cL_flow 6 = .ok (.iload_n 3, 1) := by decide +kernel
theorem dL_flow_7 : decode cL_flow 7 = .ok (.invokevirtual 57, 3) := by decide +kernel
theorem dL_flow_10 : decode cL_flow 10 = .ok (.i2l, 1) := by decide +kernel
theorem dL_flow_11 : decode cL_flow 11 = .ok (.lastore, 1) := by decide +kernel
theorem dL_flow_12 : decode cL_flow 12 = .ok (.goto 15, 3) := by decide +kernel
theorem dL_flow_15 : decode cL_flow 15 = .ok (.astore 5, 2) := by decide +kernel
theorem dL_flow_17 : decode cL_flow 17 = .ok (.iconst 1, 1) := by decide +kernel
theorem dL_flow_18 : decode cL_flow 18 = .ok (.ireturn, 1) := by decide +kernel
theorem dL_flow_19 : decode cL_flow 19 = .ok (.astore 5, 2) := by decide +kernel
theorem dL_flow_21 : decode cL_flow 21 = .ok (.iconst 2, 1) := by decide +kernel
theorem dL_flow_22 : decode cL_flow 22 = .ok (.ireturn, 1) := by decide +kernel
theorem dL_flow_23 : decode cL_flow 23 = .ok (.astore 5, 2) := by decide +kernel
theorem dL_flow_25 : decode cL_flow 25 = .ok (.iconst 3, 1) := by decide +kernel
theorem dL_flow_26 : decode cL_flow 26 = .ok (.ireturn, 1) := by decide +kernel
theorem dL_flow_27 : decode cL_flow 27 = .ok (.iconst 0, 1) := by decide +kernel
theorem dL_flow_28 : decode cL_flow 28 = .ok (.ireturn, 1) := by decide +kernel
theorem dL_state_0 : decode cL_state 0 = .ok (.aload_n 2, 1) := by decide +kernel
theorem dL_state_1 : decode cL_state 1 = .ok (.iconst 0, 1) := by decide +kernel
theorem dL_state_2 : decode cL_state 2 = .ok (.aload_n 0, 1) := by decide +kernel
theorem dL_state_3 : decode cL_state 3 = .ok (.iload_n 1, 1) := by decide +kernel
theorem dL_state_4 : decode cL_state 4 = .ok (.invokevirtual 60, 3) := by decide +kernel
theorem dL_state_7 : decode cL_state 7 = .ok (.i2l, 1) := by decide +kernel
