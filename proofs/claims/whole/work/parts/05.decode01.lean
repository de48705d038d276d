theorem dX4_makePlan_43 : decode cX4_makePlan 43 = .ok (.iload_n 3, 1) := by decide +kernel
theorem dX4_makePlan_44 : decode cX4_makePlan 44 = .ok (.invokevirtual 186, 3) := by decide +kernel
theorem dX4_makePlan_47 : decode cX4_makePlan 47 = .ok (.if_icmp .ge 53, 3) := by decide +kernel
theorem dX4_makePlan_50 : decode cX4_makePlan 50 = .ok (.iload_n 3, 1) := by decide +kernel
theorem dX4_makePlan_51 : decode cX4_makePlan 51 = .ok (.iload 4, 2) := by decide +kernel
theorem dX4_makePlan_53 : decode cX4_makePlan 53 = .ok (.invokestatic 189, 3) := by decide +kernel
theorem dX4_makePlan_56 : decode cX4_makePlan 56 = .ok (.istore 5, 2) := by decide +kernel
theorem dX4_makePlan_58 : decode cX4_makePlan 58 = .ok (.iload_n 1, 1) := by decide +kernel
theorem dX4_makePlan_59 : decode cX4_makePlan 59 = .ok (.iconst 1, 1) := by decide +kernel
theorem dX4_makePlan_60 : decode cX4_makePlan 60 = .ok (.iload 5, 2) := by decide +kernel
theorem dX4_makePlan_62 : decode cX4_makePlan 62 = .ok (.ishl, 1) := by decide +kernel
theorem dX4_makePlan_63 : decode cX4_makePlan 63 = .ok (.iconst (-1), 1) := by decide +kernel
theorem dX4_makePlan_64 : decode cX4_makePlan 64 = .ok (.ixor, 1) := by decide +kernel
theorem dX4_makePlan_65 : decode cX4_makePlan 65 = .ok (.iand, 1) := by decide +kernel
theorem dX4_makePlan_66 : decode cX4_makePlan 66 = .ok (.istore_n 1, 1) := by decide +kernel
theorem dX4_makePlan_67 : decode cX4_makePlan 67 = .ok (.aload_n 0, 1) := by decide +kernel
theorem dX4_makePlan_68 : decode cX4_makePlan 68 = .ok (.getfield 33, 3) := by decide +kernel
theorem dX4_makePlan_71 : decode cX4_makePlan 71 = .ok (.iload 5, 2) := by decide +kernel
theorem dX4_makePlan_73 : decode cX4_makePlan 73 = .ok (.invokevirtual 257, 3) := by decide +kernel
theorem dX4_makePlan_76 : decode cX4_makePlan 76 = .ok (.aload_n 0, 1) := by decide +kernel
theorem dX4_makePlan_77 : decode cX4_makePlan 77 = .ok (.getfield 33, 3) := by decide +kernel
theorem dX4_makePlan_80 : decode cX4_makePlan 80 = .ok (.iload 5, 2) := by decide +kernel
theorem dX4_makePlan_82 : decode cX4_makePlan 82 = .ok (.aload_n 0, 1) := by decide +kernel
theorem dX4_makePlan_83 : decode cX4_makePlan 83 = .ok (.iload_n 3, 1) := by decide +kernel
theorem dX4_makePlan_84 : decode cX4_makePlan 84 = .ok (.iload 4, 2) := by decide +kernel
theorem dX4_makePlan_86 : decode cX4_makePlan 86 = .ok (.invokevirtual 248, 3) := by decide +kernel
theorem dX4_makePlan_89 : decode cX4_makePlan 89 = .ok (.iload_n 1, 1) := by decide +kernel
theorem dX4_makePlan_90 : decode cX4_makePlan 90 = .ok (.invokevirtual 251, 3) := by decide +kernel
theorem dX4_makePlan_93 : decode cX4_makePlan 93 = .ok (.pop, 1) := by decide +kernel
theorem dX4_makePlan_94 : decode cX4_makePlan 94 = .ok (.iinc 4 1, 3) := by decide +kernel
theorem dX4_makePlan_97 : decode cX4_makePlan 97 = .ok (.goto (-57), 3) := by decide +kernel
theorem dX4_makePlan_100 : decode cX4_makePlan 100 = .ok (.iinc 2 1, 3) := by decide +kernel
theorem dX4_makePlan_103 : decode cX4_makePlan 103 = .ok (.goto (-99), 3) := by decide +kernel
theorem dX4_makePlan_106 : decode cX4_makePlan 106 = .ok (.return_, 1) := by decide +kernel
theorem dX4_greatestFurther_0 : decode cX4_greatestFurther 0 = .ok (.iconst 1, 1) := by decide +kernel
theorem dX4_greatestFurther_1 : decode cX4_greatestFurther 1 = .ok (.aload_n 0, 1) := by decide +kernel
theorem dX4_greatestFurther_2 : decode cX4_greatestFurther 2 = .ok (.getfield 12, 3) := by decide +kernel
theorem dX4_greatestFurther_5 : decode cX4_greatestFurther 5 = .ok (.iload_n 1, 1) := by decide +kernel
theorem dX4_greatestFurther_6 : decode cX4_greatestFurther 6 = .ok (.invokevirtual 260, 3) := by decide +kernel
theorem dX4_greatestFurther_9 : decode cX4_greatestFurther 9 = .ok (.ishl, 1) := by decide +kernel
theorem dX4_greatestFurther_10 : decode cX4_greatestFurther 10 = .ok (.istore_n 3, 1) := by decide +kernel
theorem dX4_greatestFurther_11 : decode cX4_greatestFurther 11 = .ok (.ldc_w 261, 3) := by decide +kernel
theorem dX4_greatestFurther_14 : decode cX4_greatestFurther 14 = .ok (.istore 4, 2) := by decide +kernel
theorem dX4_greatestFurther_16 : decode cX4_greatestFurther 16 = .ok (.iconst 1, 1) := by decide +kernel
theorem dX4_greatestFurther_17 : decode cX4_greatestFurther 17 = .ok (.istore 5, 2) := by decide +kernel
theorem dX4_greatestFurther_19 : decode cX4_greatestFurther 19 = .ok (.iload 5, 2) := by decide +kernel
theorem dX4_greatestFurther_21 : decode cX4_greatestFurther 21 = .ok (.iload_n 3, 1) := by decide +kernel
theorem dX4_greatestFurther_22 : decode cX4_greatestFurther 22 = .ok (.if_icmp .ge 106, 3) := by decide +kernel
theorem dX4_greatestFurther_25 : decode cX4_greatestFurther 25 = .ok (.iconst 0, 1) := by decide +kernel
theorem dX4_greatestFurther_26 : decode cX4_greatestFurther 26 = .ok (.istore 6, 2) := by decide +kernel
theorem dX4_greatestFurther_28 : decode cX4_greatestFurther 28 = .ok (.iconst 0, 1) := by decide +kernel
theorem dX4_greatestFurther_29 : decode cX4_greatestFurther 29 = .ok (.istore 7, 2) := by decide +kernel
theorem dX4_greatestFurther_31 : decode cX4_greatestFurther 31 = .ok (.iconst 0, 1) := by decide +kernel
theorem dX4_greatestFurther_32 : decode cX4_greatestFurther 32 = .ok (.istore 8, 2) := by decide +kernel
theorem dX4_greatestFurther_34 : decode cX4_greatestFurther 34 = .ok (.iload 8, 2) := by decide +kernel
theorem dX4_greatestFurther_36 : decode cX4_greatestFurther 36 = .ok (.aload_n 0, 1) := by decide +kernel
theorem dX4_greatestFurther_37 : decode cX4_greatestFurther 37 = .ok (.getfield 12, 3) := by decide +kernel
theorem dX4_greatestFurther_40 : decode cX4_greatestFurther 40 = .ok (.iload_n 1, 1) := by decide +kernel
theorem dX4_greatestFurther_41 : decode cX4_greatestFurther 41 = .ok (.invokevirtual 260, 3) := by decide +kernel
theorem dX4_greatestFurther_44 : decode cX4_greatestFurther 44 = .ok (.if_icmp .ge 54, 3) := by decide +kernel
theorem dX4_greatestFurther_47 : decode cX4_greatestFurther 47 = .ok (.iload 5, 2) := by decide +kernel
theorem dX4_greatestFurther_49 : decode cX4_greatestFurther 49 = .ok (.iload 8, 2) := by decide +kernel
theorem dX4_greatestFurther_51 : decode cX4_greatestFurther 51 = .ok (.invokestatic 262, 3) := by decide +kernel
theorem dX4_greatestFurther_54 : decode cX4_greatestFurther 54 = .ok (.ifCond .eq 38, 3) := by decide +kernel
theorem dX4_greatestFurther_57 : decode cX4_greatestFurther 57 = .ok (.iload 6, 2) := by decide +kernel
theorem dX4_greatestFurther_59 : decode cX4_greatestFurther 59 = .ok (.aload_n 0, 1) := by decide +kernel
theorem dX4_greatestFurther_60 : decode cX4_greatestFurther 60 = .ok (.aload_n 0, 1) := by decide +kernel
theorem dX4_greatestFurther_61 : decode cX4_greatestFurther 61 = .ok (.getfield 12, 3) := by decide +kernel
theorem dX4_greatestFurther_64 : decode cX4_greatestFurther 64 = .ok (.iload_n 1, 1) := by decide +kernel
theorem dX4_greatestFurther_65 : decode cX4_greatestFurther 65 = .ok (.iload 8, 2) := by decide +kernel
theorem dX4_greatestFurther_67 : decode cX4_greatestFurther 67 = .ok (.invokevirtual 197, 3) := by decide +kernel
theorem dX4_greatestFurther_70 : decode cX4_greatestFurther 70 = .ok (.iload_n 2, 1) := by decide +kernel
theorem dX4_greatestFurther_71 : decode cX4_greatestFurther 71 = .ok (.invokevirtual 161, 3) := by decide +kernel
theorem dX4_greatestFurther_74 : decode cX4_greatestFurther 74 = .ok (.ior, 1) := by decide +kernel
theorem dX4_greatestFurther_75 : decode cX4_greatestFurther 75 = .ok (.istore 6, 2) := by decide +kernel
theorem dX4_greatestFurther_77 : decode cX4_greatestFurther 77 = .ok (.iload 7, 2) := by decide +kernel
theorem dX4_greatestFurther_79 : decode cX4_greatestFurther 79 = .ok (.aload_n 0, 1) := by decide +kernel
theorem dX4_greatestFurther_80 : decode cX4_greatestFurther 80 = .ok (.getfield 12, 3) := by decide +kernel
theorem dX4_greatestFurther_83 : decode cX4_greatestFurther 83 = .ok (.iload_n 1, 1) := by decide +kernel
theorem dX4_greatestFurther_84 : decode cX4_greatestFurther 84 = .ok (.iload 8, 2) := by decide +kernel
theorem dX4_greatestFurther_86 : decode cX4_greatestFurther 86 = .ok (.invokevirtual 265, 3) := by decide +kernel
theorem dX4_greatestFurther_89 : decode cX4_greatestFurther 89 = .ok (.iadd, 1) := by decide +kernel
theorem dX4_greatestFurther_90 : decode cX4_greatestFurther 90 = .ok (.istore 7, 2) := by decide +kernel
theorem dX4_greatestFurther_92 : decode cX4_greatestFurther 92 = .ok (.iinc 8 1, 3) := by decide +kernel
theorem dX4_greatestFurther_95 : decode cX4_greatestFurther 95 = .ok (.goto (-61), 3) := by decide +kernel
theorem dX4_greatestFurther_98 : decode cX4_greatestFurther 98 = .ok (.iload 7, 2) := by decide +kernel
theorem dX4_greatestFurther_100 : decode cX4_greatestFurther 100 = .ok (.ifCond .le 22, 3) := by decide +kernel
theorem dX4_greatestFurther_103 : decode cX4_greatestFurther 103 = .ok (.iload 4, 2) := by decide +kernel
theorem dX4_greatestFurther_105 : decode cX4_greatestFurther 105 = .ok (.aload_n 0, 1) := by decide +kernel
theorem dX4_greatestFurther_106 : decode cX4_greatestFurther 106 = .ok (.getfield 33, 3) := by decide +kernel
theorem dX4_greatestFurther_109 : decode cX4_greatestFurther 109 = .ok (.iload 6, 2) := by decide +kernel
theorem dX4_greatestFurther_111 : decode cX4_greatestFurther 111 = .ok (.invokevirtual 268, 3) := by decide +kernel
theorem dX4_greatestFurther_114 : decode cX4_greatestFurther 114 = .ok (.iload 7, 2) := by decide +kernel
theorem dX4_greatestFurther_116 : decode cX4_greatestFurther 116 = .ok (.idiv, 1) := by decide +kernel
theorem dX4_greatestFurther_117 : decode cX4_greatestFurther 117 = .ok (.invokestatic 271, 3) := by decide +kernel
theorem dX4_greatestFurther_120 : decode cX4_greatestFurther 120 = .ok (.istore 4, 2) := by decide +kernel
theorem dX4_greatestFurther_122 : decode cX4_greatestFurther 122 = .ok (.iinc 5 1, 3) := by decide +kernel
theorem dX4_greatestFurther_125 : decode cX4_greatestFurther 125 = .ok (.goto (-106), 3) := by decide +kernel
theorem dX4_greatestFurther_128 : decode cX4_greatestFurther 128 = .ok (.iload 4, 2) := by decide +kernel
theorem dX4_greatestFurther_130 : decode cX4_greatestFurther 130 = .ok (.ireturn, 1) := by decide +kernel
theorem dX4_usableFor_0 : decode cX4_usableFor 0 = .ok (.iconst 0, 1) := by decide +kernel
theorem dX4_usableFor_1 : decode cX4_usableFor 1 = .ok (.istore_n 3, 1) := by decide +kernel
theorem dX4_usableFor_2 : decode cX4_usableFor 2 = .ok (.iconst 0, 1) := by decide +kernel
theorem dX4_usableFor_3 : decode cX4_usableFor 3 = .ok (.istore 4, 2) := by decide +kernel
theorem dX4_usableFor_5 : decode cX4_usableFor 5 = .ok (.iload 4, 2) := by decide +kernel
theorem dX4_usableFor_7 : decode cX4_usableFor 7 = .ok (.aload_n 0, 1) := by decide +kernel
theorem dX4_usableFor_8 : decode cX4_usableFor 8 = .ok (.getfield 19, 3) := by decide +kernel
theorem dX4_usableFor_11 : decode cX4_usableFor 11 = .ok (.getfield 52, 3) := by decide +kernel
theorem dX4_usableFor_14 : decode cX4_usableFor 14 = .ok (.if_icmp .ge 75, 3) := by decide +kernel
theorem dX4_usableFor_17 : decode cX4_usableFor 17 = .ok (.aload_n 0, 1) := by decide +kernel
theorem dX4_usableFor_18 : decode cX4_usableFor 18 = .ok (.getfield 19, 3) := by decide +kernel
theorem dX4_usableFor_21 : decode cX4_usableFor 21 = .ok (.getfield 276, 3) := by decide +kernel
theorem dX4_usableFor_24 : decode cX4_usableFor 24 = .ok (.iload 4, 2) := by decide +kernel
theorem dX4_usableFor_26 : decode cX4_usableFor 26 = .ok (.iaload, 1) := by decide +kernel
theorem dX4_usableFor_27 : decode cX4_usableFor 27 = .ok (.istore 5, 2) := by decide +kernel
theorem dX4_usableFor_29 : decode cX4_usableFor 29 = .ok (.iload_n 2, 1) := by decide +kernel
theorem dX4_usableFor_30 : decode cX4_usableFor 30 = .ok (.aload_n 0, 1) := by decide +kernel
theorem dX4_usableFor_31 : decode cX4_usableFor 31 = .ok (.getfield 19, 3) := by decide +kernel
theorem dX4_usableFor_34 : decode cX4_usableFor 34 = .ok (.getfield 83, 3) := by decide +kernel
theorem dX4_usableFor_37 : decode cX4_usableFor 37 = .ok (.iload 4, 2) := by decide +kernel
theorem dX4_usableFor_39 : decode cX4_usableFor 39 = .ok (.iaload, 1) := by decide +kernel
theorem dX4_usableFor_40 : decode cX4_usableFor 40 = .ok (.isub, 1) := by decide +kernel
theorem dX4_usableFor_41 : decode cX4_usableFor 41 = .ok (.istore 6, 2) := by decide +kernel
theorem dX4_usableFor_43 : decode cX4_usableFor 43 = .ok (.aload_n 0, 1) := by decide +kernel
theorem dX4_usableFor_44 : decode cX4_usableFor 44 = .ok (.getfield 12, 3) := by decide +kernel
theorem dX4_usableFor_47 : decode cX4_usableFor 47 = .ok (.iload 5, 2) := by decide +kernel
theorem dX4_usableFor_49 : decode cX4_usableFor 49 = .ok (.iload_n 1, 1) := by decide +kernel
theorem dX4_usableFor_50 : decode cX4_usableFor 50 = .ok (.invokevirtual 277, 3) := by decide +kernel
theorem dX4_usableFor_53 : decode cX4_usableFor 53 = .ok (.ifCond .eq 30, 3) := by decide +kernel
theorem dX4_usableFor_56 : decode cX4_usableFor 56 = .ok (.iload 6, 2) := by decide +kernel
theorem dX4_usableFor_58 : decode cX4_usableFor 58 = .ok (.ifCond .lt 25, 3) := by decide +kernel
theorem dX4_usableFor_61 : decode cX4_usableFor 61 = .ok (.iload 6, 2) := by decide +kernel
theorem dX4_usableFor_63 : decode cX4_usableFor 63 = .ok (.aload_n 0, 1) := by decide +kernel
theorem dX4_usableFor_64 : decode cX4_usableFor 64 = .ok (.getfield 12, 3) := by decide +kernel
theorem dX4_usableFor_67 : decode cX4_usableFor 67 = .ok (.getfield 89, 3) := by decide +kernel
theorem dX4_usableFor_70 : decode cX4_usableFor 70 = .ok (.iload 5, 2) := by decide +kernel
theorem dX4_usableFor_72 : decode cX4_usableFor 72 = .ok (.iaload, 1) := by decide +kernel
theorem dX4_usableFor_73 : decode cX4_usableFor 73 = .ok (.if_icmp .gt 10, 3) := by decide +kernel
theorem dX4_usableFor_76 : decode cX4_usableFor 76 = .ok (.iload_n 3, 1) := by decide +kernel
theorem dX4_usableFor_77 : decode cX4_usableFor 77 = .ok (.iconst 1, 1) := by decide +kernel
theorem dX4_usableFor_78 : decode cX4_usableFor 78 = .ok (.iload 4, 2) := by decide +kernel
theorem dX4_usableFor_80 : decode cX4_usableFor 80 = .ok (.ishl, 1) := by decide +kernel
theorem dX4_usableFor_81 : decode cX4_usableFor 81 = .ok (.ior, 1) := by decide +kernel
theorem dX4_usableFor_82 : decode cX4_usableFor 82 = .ok (.istore_n 3, 1) := by decide +kernel
theorem dX4_usableFor_83 : decode cX4_usableFor 83 = .ok (.iinc 4 1, 3) := by decide +kernel
theorem dX4_usableFor_86 : decode cX4_usableFor 86 = .ok (.goto (-81), 3) := by decide +kernel
theorem dX4_usableFor_89 : decode cX4_usableFor 89 = .ok (.iload_n 3, 1) := by decide +kernel
theorem dX4_usableFor_90 : decode cX4_usableFor 90 = .ok (.ireturn, 1) := by decide +kernel
theorem dX4_takesFrom_0 : decode cX4_takesFrom 0 = .ok (.iconst 0, 1) := by decide +kernel
theorem dX4_takesFrom_1 : decode cX4_takesFrom 1 = .ok (.istore_n 3, 1) := by decide +kernel
theorem dX4_takesFrom_2 : decode cX4_takesFrom 2 = .ok (.iload_n 3, 1) := by decide +kernel
theorem dX4_takesFrom_3 : decode cX4_takesFrom 3 = .ok (.aload_n 0, 1) := by decide +kernel
theorem dX4_takesFrom_4 : decode cX4_takesFrom 4 = .ok (.iload_n 1, 1) := by decide +kernel
theorem dX4_takesFrom_5 : decode cX4_takesFrom 5 = .ok (.invokevirtual 186, 3) := by decide +kernel
theorem dX4_takesFrom_8 : decode cX4_takesFrom 8 = .ok (.if_icmp .ge 27, 3) := by decide +kernel
theorem dX4_takesFrom_11 : decode cX4_takesFrom 11 = .ok (.aload_n 0, 1) := by decide +kernel
theorem dX4_takesFrom_12 : decode cX4_takesFrom 12 = .ok (.getfield 33, 3) := by decide +kernel
theorem dX4_takesFrom_15 : decode cX4_takesFrom 15 = .ok (.iload_n 1, 1) := by decide +kernel
theorem dX4_takesFrom_16 : decode cX4_takesFrom 16 = .ok (.iload_n 3, 1) := by decide +kernel
theorem dX4_takesFrom_17 : decode cX4_takesFrom 17 = .ok (.invokestatic 189, 3) := by decide +kernel
theorem dX4_takesFrom_20 : decode cX4_takesFrom 20 = .ok (.iload_n 2, 1) := by decide +kernel
theorem dX4_takesFrom_21 : decode cX4_takesFrom 21 = .ok (.invokevirtual 280, 3) := by decide +kernel
theorem dX4_takesFrom_24 : decode cX4_takesFrom 24 = .ok (.ifCond .eq 5, 3) := by decide +kernel
theorem dX4_takesFrom_27 : decode cX4_takesFrom 27 = .ok (.iconst 1, 1) := by decide +kernel
theorem dX4_takesFrom_28 : decode cX4_takesFrom 28 = .ok (.ireturn, 1) := by decide +kernel
theorem dX4_takesFrom_29 : decode cX4_takesFrom 29 = .ok (.iinc 3 1, 3) := by decide +kernel
theorem dX4_takesFrom_32 : decode cX4_takesFrom 32 = .ok (.goto (-30), 3) := by decide +kernel
theorem dX4_takesFrom_35 : decode cX4_takesFrom 35 = .ok (.iconst 0, 1) := by decide +kernel
theorem dX4_takesFrom_36 : decode cX4_takesFrom 36 = .ok (.ireturn, 1) := by decide +kernel
theorem dX4_demandsOf_0 : decode cX4_demandsOf 0 = .ok (.aload_n 0, 1) := by decide +kernel
theorem dX4_demandsOf_1 : decode cX4_demandsOf 1 = .ok (.getfield 12, 3) := by decide +kernel
theorem dX4_demandsOf_4 : decode cX4_demandsOf 4 = .ok (.aload_n 0, 1) := by decide +kernel
theorem dX4_demandsOf_5 : decode cX4_demandsOf 5 = .ok (.getfield 26, 3) := by decide +kernel
theorem dX4_demandsOf_8 : decode cX4_demandsOf 8 = .ok (.getfield 195, 3) := by decide +kernel
theorem dX4_demandsOf_11 : decode cX4_demandsOf 11 = .ok (.iload_n 1, 1) := by decide +kernel
theorem dX4_demandsOf_12 : decode cX4_demandsOf 12 = .ok (.iaload, 1) := by decide +kernel
theorem dX4_demandsOf_13 : decode cX4_demandsOf 13 = .ok (.invokevirtual 260, 3) := by decide +kernel
theorem dX4_demandsOf_16 : decode cX4_demandsOf 16 = .ok (.ireturn, 1) := by decide +kernel
theorem dX4_wantedBy_0 : decode cX4_wantedBy 0 = .ok (.aload_n 0, 1) := by decide +kernel
theorem dX4_wantedBy_1 : decode cX4_wantedBy 1 = .ok (.getfield 26, 3) := by decide +kernel
theorem dX4_wantedBy_4 : decode cX4_wantedBy 4 = .ok (.getfield 281, 3) := by decide +kernel
theorem dX4_wantedBy_7 : decode cX4_wantedBy 7 = .ok (.iload_n 1, 1) := by decide +kernel
theorem dX4_wantedBy_8 : decode cX4_wantedBy 8 = .ok (.iaload, 1) := by decide +kernel
theorem dX4_wantedBy_9 : decode cX4_wantedBy 9 = .ok (.aload_n 0, 1) := by decide +kernel
theorem dX4_wantedBy_10 : decode cX4_wantedBy 10 = .ok (.getfield 12, 3) := by decide +kernel
theorem dX4_wantedBy_13 : decode cX4_wantedBy 13 = .ok (.aload_n 0, 1) := by decide +kernel
theorem dX4_wantedBy_14 : decode cX4_wantedBy 14 = .ok (.getfield 26, 3) := by decide +kernel
theorem dX4_wantedBy_17 : decode cX4_wantedBy 17 = .ok (.getfield 195, 3) := by decide +kernel
theorem dX4_wantedBy_20 : decode cX4_wantedBy 20 = .ok (.iload_n 1, 1) := by decide +kernel
theorem dX4_wantedBy_21 : decode cX4_wantedBy 21 = .ok (.iaload, 1) := by decide +kernel
theorem dX4_wantedBy_22 : decode cX4_wantedBy 22 = .ok (.iload_n 2, 1) := by decide +kernel
theorem dX4_wantedBy_23 : decode cX4_wantedBy 23 = .ok (.invokevirtual 265, 3) := by decide +kernel
theorem dX4_wantedBy_26 : decode cX4_wantedBy 26 = .ok (.imul, 1) := by decide +kernel
theorem dX4_wantedBy_27 : decode cX4_wantedBy 27 = .ok (.ireturn, 1) := by decide +kernel
theorem dX4_allCoveredDemands_0 : decode cX4_allCoveredDemands 0 = .ok (.iconst 0, 1) := by decide +kernel
theorem dX4_allCoveredDemands_1 : decode cX4_allCoveredDemands 1 = .ok (.istore_n 1, 1) := by decide +kernel
theorem dX4_allCoveredDemands_2 : decode cX4_allCoveredDemands 2 = .ok (.iconst 0, 1) := by decide +kernel
theorem dX4_allCoveredDemands_3 : decode cX4_allCoveredDemands 3 = .ok (.istore_n 2, 1) := by decide +kernel
theorem dX4_allCoveredDemands_4 : decode cX4_allCoveredDemands 4 = .ok (.iload_n 2, 1) := by decide +kernel
theorem dX4_allCoveredDemands_5 : decode cX4_allCoveredDemands 5 = .ok (.aload_n 0, 1) := by decide +kernel
theorem dX4_allCoveredDemands_6 : decode cX4_allCoveredDemands 6 = .ok (.getfield 26, 3) := by decide +kernel
theorem dX4_allCoveredDemands_9 : decode cX4_allCoveredDemands 9 = .ok (.getfield 133, 3) := by decide +kernel
theorem dX4_allCoveredDemands_12 : decode cX4_allCoveredDemands 12 = .ok (.if_icmp .ge 47, 3) := by decide +kernel
theorem dX4_allCoveredDemands_15 : decode cX4_allCoveredDemands 15 = .ok (.aload_n 0, 1) := by decide +kernel
theorem dX4_allCoveredDemands_16 : decode cX4_allCoveredDemands 16 = .ok (.getfield 26, 3) := by decide +kernel
theorem dX4_allCoveredDemands_19 : decode cX4_allCoveredDemands 19 = .ok (.getfield 152, 3) := by decide +kernel
theorem dX4_allCoveredDemands_22 : decode cX4_allCoveredDemands 22 = .ok (.iload_n 2, 1) := by decide +kernel
theorem dX4_allCoveredDemands_23 : decode cX4_allCoveredDemands 23 = .ok (.iaload, 1) := by decide +kernel
theorem dX4_allCoveredDemands_24 : decode cX4_allCoveredDemands 24 = .ok (.ifCond .ne 29, 3) := by decide +kernel
theorem dX4_allCoveredDemands_27 : decode cX4_allCoveredDemands 27 = .ok (.iconst 0, 1) := by decide +kernel
theorem dX4_allCoveredDemands_28 : decode cX4_allCoveredDemands 28 = .ok (.istore_n 3, 1) := by decide +kernel
theorem dX4_allCoveredDemands_29 : decode cX4_allCoveredDemands 29 = .ok (.iload_n 3, 1) := by decide +kernel
theorem dX4_allCoveredDemands_30 : decode cX4_allCoveredDemands 30 = .ok (.aload_n 0, 1) := by decide +kernel
theorem dX4_allCoveredDemands_31 : decode cX4_allCoveredDemands 31 = .ok (.iload_n 2, 1) := by decide +kernel
theorem dX4_allCoveredDemands_32 : decode cX4_allCoveredDemands 32 = .ok (.invokevirtual 186, 3) := by decide +kernel
theorem dX4_allCoveredDemands_35 : decode cX4_allCoveredDemands 35 = .ok (.if_icmp .ge 18, 3) := by decide +kernel
theorem dX4_allCoveredDemands_38 : decode cX4_allCoveredDemands 38 = .ok (.iload_n 1, 1) := by decide +kernel
theorem dX4_allCoveredDemands_39 : decode cX4_allCoveredDemands 39 = .ok (.aload_n 0, 1) := by decide +kernel
theorem dX4_allCoveredDemands_40 : decode cX4_allCoveredDemands 40 = .ok (.iload_n 2, 1) := by decide +kernel
theorem dX4_allCoveredDemands_41 : decode cX4_allCoveredDemands 41 = .ok (.iload_n 3, 1) := by decide +kernel
theorem dX4_allCoveredDemands_42 : decode cX4_allCoveredDemands 42 = .ok (.invokevirtual 248, 3) := by decide +kernel
theorem dX4_allCoveredDemands_45 : decode cX4_allCoveredDemands 45 = .ok (.iadd, 1) := by decide +kernel
theorem dX4_allCoveredDemands_46 : decode cX4_allCoveredDemands 46 = .ok (.istore_n 1, 1) := by decide +kernel
theorem dX4_allCoveredDemands_47 : decode cX4_allCoveredDemands 47 = .ok (.iinc 3 1, 3) := by decide +kernel
theorem dX4_allCoveredDemands_50 : decode cX4_allCoveredDemands 50 = .ok (.goto (-21), 3) := by decide +kernel
theorem dX4_allCoveredDemands_53 : decode cX4_allCoveredDemands 53 = .ok (.iinc 2 1, 3) := by decide +kernel
theorem dX4_allCoveredDemands_56 : decode cX4_allCoveredDemands 56 = .ok (.goto (-52), 3) := by decide +kernel
theorem dX4_allCoveredDemands_59 : decode cX4_allCoveredDemands 59 = .ok (.iload_n 1, 1) := by decide +kernel
theorem dX4_allCoveredDemands_60 : decode cX4_allCoveredDemands 60 = .ok (.ireturn, 1) := by decide +kernel
theorem dX4_demandAt_0 : decode cX4_demandAt 0 = .ok (.iload_n 0, 1) := by decide +kernel
theorem dX4_demandAt_1 : decode cX4_demandAt 1 = .ok (.iconst 3, 1) := by decide +kernel
theorem dX4_demandAt_2 : decode cX4_demandAt 2 = .ok (.imul, 1) := by decide +kernel
theorem dX4_demandAt_3 : decode cX4_demandAt 3 = .ok (.iload_n 1, 1) := by decide +kernel
theorem dX4_demandAt_4 : decode cX4_demandAt 4 = .ok (.iadd, 1) := by decide +kernel
theorem dX4_demandAt_5 : decode cX4_demandAt 5 = .ok (.ireturn, 1) := by decide +kernel
theorem dX4_hasBit_0 : decode cX4_hasBit 0 = .ok (.iload_n 0, 1) := by decide +kernel
theorem dX4_hasBit_1 : decode cX4_hasBit 1 = .ok (.iload_n 1, 1) := by decide +kernel
theorem dX4_hasBit_2 : decode cX4_hasBit 2 = .ok (.ishr, 1) := by decide +kernel
theorem dX4_hasBit_3 : decode cX4_hasBit 3 = .ok (.iconst 1, 1) := by decide +kernel
theorem dX4_hasBit_4 : decode cX4_hasBit 4 = .ok (.iand, 1) := by decide +kernel
theorem dX4_hasBit_5 : decode cX4_hasBit 5 = .ok (.ifCond .eq 7, 3) := by decide +kernel
theorem dX4_hasBit_8 : decode cX4_hasBit 8 = .ok (.iconst 1, 1) := by decide +kernel
theorem dX4_hasBit_9 : decode cX4_hasBit 9 = .ok (.goto 4, 3) := by decide +kernel
theorem dX4_hasBit_12 : decode cX4_hasBit 12 = .ok (.iconst 0, 1) := by decide +kernel
theorem dX4_hasBit_13 : decode cX4_hasBit 13 = .ok (.ireturn, 1) := by decide +kernel
theorem dX5_init_0 : decode cX5_init 0 = .ok (.aload_n 0, 1) := by decide +kernel
theorem dX5_init_1 : decode cX5_init 1 = .ok (.invokespecial 1, 3) := by decide +kernel
theorem dX5_init_4 : decode cX5_init 4 = .ok (.aload_n 0, 1) := by decide +kernel
theorem dX5_init_5 : decode cX5_init 5 = .ok (.bipush 6, 2) := by decide +kernel
theorem dX5_init_7 : decode cX5_init 7 = .ok (.newarray .int, 2) := by decide +kernel
theorem dX5_init_9 : decode cX5_init 9 = .ok (.dup, 1) := by decide +kernel
theorem dX5_init_10 : decode cX5_init 10 = .ok (.iconst 0, 1) := by decide +kernel
theorem dX5_init_11 : decode cX5_init 11 = .ok (.bipush 100, 2) := by decide +kernel
theorem dX5_init_13 : decode cX5_init 13 = .ok (.iastore, 1) := by decide +kernel
theorem dX5_init_14 : decode cX5_init 14 = .ok (.dup, 1) := by decide +kernel
theorem dX5_init_15 : decode cX5_init 15 = .ok (.iconst 1, 1) := by decide +kernel
theorem dX5_init_16 : decode cX5_init 16 = .ok (.bipush 100, 2) := by decide +kernel
theorem dX5_init_18 : decode cX5_init 18 = .ok (.iastore, 1) := by decide +kernel
theorem dX5_init_19 : decode cX5_init 19 = .ok (.dup, 1) := by decide +kernel
theorem dX5_init_20 : decode cX5_init 20 = .ok (.iconst 2, 1) := by decide +kernel
theorem dX5_init_21 : decode cX5_init 21 = .ok (.bipush 100, 2) := by decide +kernel
theorem dX5_init_23 : decode cX5_init 23 = .ok (.iastore, 1) := by decide +kernel
theorem dX5_init_24 : decode cX5_init 24 = .ok (.dup, 1) := by decide +kernel
theorem dX5_init_25 : decode cX5_init 25 = .ok (.iconst 3, 1) := by decide +kernel
theorem dX5_init_26 : decode cX5_init 26 = .ok (.bipush 100, 2) := by decide +kernel
theorem dX5_init_28 : decode cX5_init 28 = .ok (.iastore, 1) := by decide +kernel
theorem dX5_init_29 : decode cX5_init 29 = .ok (.dup, 1) := by decide +kernel
theorem dX5_init_30 : decode cX5_init 30 = .ok (.iconst 4, 1) := by decide +kernel
theorem dX5_init_31 : decode cX5_init 31 = .ok (.bipush 100, 2) := by decide +kernel
theorem dX5_init_33 : decode cX5_init 33 = .ok (.iastore, 1) := by decide +kernel
theorem dX5_init_34 : decode cX5_init 34 = .ok (.dup, 1) := by decide +kernel
theorem dX5_init_35 : decode cX5_init 35 = .ok (.iconst 5, 1) := by decide +kernel
theorem dX5_init_36 : decode cX5_init 36 = .ok (.bipush 100, 2) := by decide +kernel
theorem dX5_init_38 : decode cX5_init 38 = .ok (.iastore, 1) := by decide +kernel
theorem dX5_init_39 : decode cX5_init 39 = .ok (.putfield 9, 3) := by decide +kernel
theorem dX5_init_42 : decode cX5_init 42 = .ok (.aload_n 0, 1) := by decide +kernel
theorem dX5_init_43 : decode cX5_init 43 = .ok (.bipush 6, 2) := by decide +kernel
theorem dX5_init_45 : decode cX5_init 45 = .ok (.newarray .int, 2) := by decide +kernel
theorem dX5_init_47 : decode cX5_init 47 = .ok (.putfield 13, 3) := by decide +kernel
theorem dX5_init_50 : decode cX5_init 50 = .ok (.aload_n 0, 1) := by decide +kernel
theorem dX5_init_51 : decode cX5_init 51 = .ok (.bipush 6, 2) := by decide +kernel
theorem dX5_init_53 : decode cX5_init 53 = .ok (.newarray .int, 2) := by decide +kernel
theorem dX5_init_55 : decode cX5_init 55 = .ok (.putfield 16, 3) := by decide +kernel
theorem dX5_init_58 : decode cX5_init 58 = .ok (.aload_n 0, 1) := by decide +kernel
theorem dX5_init_59 : decode cX5_init 59 = .ok (.bipush 18, 2) := by decide +kernel
theorem dX5_init_61 : decode cX5_init 61 = .ok (.newarray .int, 2) := by decide +kernel
theorem dX5_init_63 : decode cX5_init 63 = .ok (.putfield 19, 3) := by decide +kernel
theorem dX5_init_66 : decode cX5_init 66 = .ok (.aload_n 0, 1) := by decide +kernel
theorem dX5_init_67 : decode cX5_init 67 = .ok (.bipush 18, 2) := by decide +kernel
theorem dX5_init_69 : decode cX5_init 69 = .ok (.newarray .int, 2) := by decide +kernel
theorem dX5_init_71 : decode cX5_init 71 = .ok (.putfield 22, 3) := by decide +kernel
theorem dX5_init_74 : decode cX5_init 74 = .ok (.aload_n 0, 1) := by decide +kernel
theorem dX5_init_75 : decode cX5_init 75 = .ok (.bipush 10, 2) := by decide +kernel
theorem dX5_init_77 : decode cX5_init 77 = .ok (.newarray .int, 2) := by decide +kernel
theorem dX5_init_79 : decode cX5_init 79 = .ok (.putfield 25, 3) := by decide +kernel
theorem dX5_init_82 : decode cX5_init 82 = .ok (.aload_n 0, 1) := by decide +kernel
theorem dX5_init_83 : decode cX5_init 83 = .ok (.bipush 10, 2) := by decide +kernel
theorem dX5_init_85 : decode cX5_init 85 = .ok (.newarray .int, 2) := by decide +kernel
theorem dX5_init_87 : decode cX5_init 87 = .ok (.putfield 28, 3) := by decide +kernel
theorem dX5_init_90 : decode cX5_init 90 = .ok (.aload_n 0, 1) := by decide +kernel
theorem dX5_init_91 : decode cX5_init 91 = .ok (.bipush 10, 2) := by decide +kernel
theorem dX5_init_93 : decode cX5_init 93 = .ok (.newarray .int, 2) := by decide +kernel
theorem dX5_init_95 : decode cX5_init 95 = .ok (.putfield 31, 3) := by decide +kernel
theorem dX5_init_98 : decode cX5_init 98 = .ok (.aload_n 0, 1) := by decide +kernel
theorem dX5_init_99 : decode cX5_init 99 = .ok (.bipush 10, 2) := by decide +kernel
theorem dX5_init_101 : decode cX5_init 101 = .ok (.newarray .int, 2) := by decide +kernel
theorem dX5_init_103 : decode cX5_init 103 = .ok (.putfield 34, 3) := by decide +kernel
theorem dX5_init_106 : decode cX5_init 106 = .ok (.aload_n 0, 1) := by decide +kernel
theorem dX5_init_107 : decode cX5_init 107 = .ok (.bipush 10, 2) := by decide +kernel
theorem dX5_init_109 : decode cX5_init 109 = .ok (.newarray .int, 2) := by decide +kernel
theorem dX5_init_111 : decode cX5_init 111 = .ok (.putfield 37, 3) := by decide +kernel
theorem dX5_init_114 : decode cX5_init 114 = .ok (.aload_n 0, 1) := by decide +kernel
theorem dX5_init_115 : decode cX5_init 115 = .ok (.bipush 10, 2) := by decide +kernel
theorem dX5_init_117 : decode cX5_init 117 = .ok (.newarray .int, 2) := by decide +kernel
theorem dX5_init_119 : decode cX5_init 119 = .ok (.putfield 40, 3) := by decide +kernel
theorem dX5_init_122 : decode cX5_init 122 = .ok (.aload_n 0, 1) := by decide +kernel
theorem dX5_init_123 : decode cX5_init 123 = .ok (.bipush 10, 2) := by decide +kernel
theorem dX5_init_125 : decode cX5_init 125 = .ok (.newarray .int, 2) := by decide +kernel
theorem dX5_init_127 : decode cX5_init 127 = .ok (.putfield 43, 3) := by decide +kernel
theorem dX5_init_130 : decode cX5_init 130 = .ok (.aload_n 0, 1) := by decide +kernel
theorem dX5_init_131 : decode cX5_init 131 = .ok (.bipush 10, 2) := by decide +kernel
theorem dX5_init_133 : decode cX5_init 133 = .ok (.newarray .int, 2) := by decide +kernel
theorem dX5_init_135 : decode cX5_init 135 = .ok (.putfield 46, 3) := by decide +kernel
theorem dX5_init_138 : decode cX5_init 138 = .ok (.aload_n 0, 1) := by decide +kernel
theorem dX5_init_139 : decode cX5_init 139 = .ok (.bipush 10, 2) := by decide +kernel
theorem dX5_init_141 : decode cX5_init 141 = .ok (.newarray .int, 2) := by decide +kernel
theorem dX5_init_143 : decode cX5_init 143 = .ok (.putfield 49, 3) := by decide +kernel
theorem dX5_init_146 : decode cX5_init 146 = .ok (.aload_n 0, 1) := by decide +kernel
theorem dX5_init_147 : decode cX5_init 147 = .ok (.bipush 40, 2) := by decide +kernel
theorem dX5_init_149 : decode cX5_init 149 = .ok (.newarray .int, 2) := by decide +kernel
theorem dX5_init_151 : decode cX5_init 151 = .ok (.putfield 52, 3) := by decide +kernel
theorem dX5_init_154 : decode cX5_init 154 = .ok (.aload_n 0, 1) := by decide +kernel
theorem dX5_init_155 : decode cX5_init 155 = .ok (.bipush 40, 2) := by decide +kernel
theorem dX5_init_157 : decode cX5_init 157 = .ok (.newarray .int, 2) := by decide +kernel
theorem dX5_init_159 : decode cX5_init 159 = .ok (.putfield 55, 3) := by decide +kernel
theorem dX5_init_162 : decode cX5_init 162 = .ok (.aload_n 0, 1) := by decide +kernel
theorem dX5_init_163 : decode cX5_init 163 = .ok (.bipush 40, 2) := by decide +kernel
theorem dX5_init_165 : decode cX5_init 165 = .ok (.newarray .long, 2) := by decide +kernel
theorem dX5_init_167 : decode cX5_init 167 = .ok (.putfield 58, 3) := by decide +kernel
theorem dX5_init_170 : decode cX5_init 170 = .ok (.aload_n 0, 1) := by decide +kernel
theorem dX5_init_171 : decode cX5_init 171 = .ok (.bipush 40, 2) := by decide +kernel
theorem dX5_init_173 : decode cX5_init 173 = .ok (.newarray .int, 2) := by decide +kernel
theorem dX5_init_175 : decode cX5_init 175 = .ok (.putfield 62, 3) := by decide +kernel
theorem dX5_init_178 : decode cX5_init 178 = .ok (.aload_n 0, 1) := by decide +kernel
theorem dX5_init_179 : decode cX5_init 179 = .ok (.bipush 10, 2) := by decide +kernel
theorem dX5_init_181 : decode cX5_init 181 = .ok (.newarray .long, 2) := by decide +kernel
theorem dX5_init_183 : decode cX5_init 183 = .ok (.putfield 65, 3) := by decide +kernel
theorem dX5_init_186 : decode cX5_init 186 = .ok (.aload_n 0, 1) := by decide +kernel
theorem dX5_init_187 : decode cX5_init 187 = .ok (.sipush 400, 3) := by decide +kernel
theorem dX5_init_190 : decode cX5_init 190 = .ok (.newarray .int, 2) := by decide +kernel
theorem dX5_init_192 : decode cX5_init 192 = .ok (.putfield 68, 3) := by decide +kernel
theorem dX5_init_195 : decode cX5_init 195 = .ok (.aload_n 0, 1) := by decide +kernel
theorem dX5_init_196 : decode cX5_init 196 = .ok (.sipush 400, 3) := by decide +kernel
theorem dX5_init_199 : decode cX5_init 199 = .ok (.newarray .int, 2) := by decide +kernel
theorem dX5_init_201 : decode cX5_init 201 = .ok (.putfield 71, 3) := by decide +kernel
theorem dX5_init_204 : decode cX5_init 204 = .ok (.aload_n 0, 1) := by decide +kernel
theorem dX5_init_205 : decode cX5_init 205 = .ok (.sipush 400, 3) := by decide +kernel
theorem dX5_init_208 : decode cX5_init 208 = .ok (.newarray .int, 2) := by decide +kernel
theorem dX5_init_210 : decode cX5_init 210 = .ok (.putfield 74, 3) := by decide +kernel
theorem dX5_init_213 : decode cX5_init 213 = .ok (.aload_n 0, 1) := by decide +kernel
theorem dX5_init_214 : decode cX5_init 214 = .ok (.sipush 400, 3) := by decide +kernel
theorem dX5_init_217 : decode cX5_init 217 = .ok (.newarray .int, 2) := by decide +kernel
theorem dX5_init_219 : decode cX5_init 219 = .ok (.putfield 77, 3) := by decide +kernel
theorem dX5_init_222 : decode cX5_init 222 = .ok (.aload_n 0, 1) := by decide +kernel
theorem dX5_init_223 : decode cX5_init 223 = .ok (.sipush 400, 3) := by decide +kernel
theorem dX5_init_226 : decode cX5_init 226 = .ok (.newarray .int, 2) := by decide +kernel
theorem dX5_init_228 : decode cX5_init 228 = .ok (.putfield 80, 3) := by decide +kernel
theorem dX5_init_231 : decode cX5_init 231 = .ok (.return_, 1) := by decide +kernel
theorem dX5_thrown_0 : decode cX5_thrown 0 = .ok (.aload_n 0, 1) := by decide +kernel
theorem dX5_thrown_1 : decode cX5_thrown 1 = .ok (.getfield 83, 3) := by decide +kernel
theorem dX5_thrown_4 : decode cX5_thrown 4 = .ok (.ireturn, 1) := by decide +kernel
theorem dX5_in_0 : decode cX5_in 0 = .ok (.iload_n 0, 1) := by decide +kernel
theorem dX5_in_1 : decode cX5_in 1 = .ok (.iload_n 1, 1) := by decide +kernel
theorem dX5_in_2 : decode cX5_in 2 = .ok (.if_icmp .lt 12, 3) := by decide +kernel
theorem dX5_in_5 : decode cX5_in 5 = .ok (.iload_n 0, 1) := by decide +kernel
theorem dX5_in_6 : decode cX5_in 6 = .ok (.iload_n 2, 1) := by decide +kernel
theorem dX5_in_7 : decode cX5_in 7 = .ok (.if_icmp .gt 7, 3) := by decide +kernel
theorem dX5_in_10 : decode cX5_in 10 = .ok (.iconst 1, 1) := by decide +kernel
theorem dX5_in_11 : decode cX5_in 11 = .ok (.goto 4, 3) := by decide +kernel
theorem dX5_in_14 : decode cX5_in 14 = .ok (.iconst 0, 1) := by decide +kernel
theorem dX5_in_15 : decode cX5_in 15 = .ok (.ireturn, 1) := by decide +kernel
theorem dX5_isGood_0 : decode cX5_isGood 0 = .ok (.iload_n 0, 1) := by decide +kernel
theorem dX5_isGood_1 : decode cX5_isGood 1 = .ok (.iconst 0, 1) := by decide +kernel
theorem dX5_isGood_2 : decode cX5_isGood 2 = .ok (.iconst 5, 1) := by decide +kernel
theorem dX5_isGood_3 : decode cX5_isGood 3 = .ok (.invokestatic 87, 3) := by decide +kernel
theorem dX5_isGood_6 : decode cX5_isGood 6 = .ok (.ireturn, 1) := by decide +kernel
theorem dX5_isKit_0 : decode cX5_isKit 0 = .ok (.aload_n 0, 1) := by decide +kernel
theorem dX5_isKit_1 : decode cX5_isKit 1 = .ok (.getfield 16, 3) := by decide +kernel
theorem dX5_isKit_4 : decode cX5_isKit 4 = .ok (.iload_n 1, 1) := by decide +kernel
theorem dX5_isKit_5 : decode cX5_isKit 5 = .ok (.iaload, 1) := by decide +kernel
theorem dX5_isKit_6 : decode cX5_isKit 6 = .ok (.ifCond .le 7, 3) := by decide +kernel
theorem dX5_isKit_9 : decode cX5_isKit 9 = .ok (.iconst 1, 1) := by decide +kernel
theorem dX5_isKit_10 : decode cX5_isKit 10 = .ok (.goto 4, 3) := by decide +kernel
theorem dX5_isKit_13 : decode cX5_isKit 13 = .ok (.iconst 0, 1) := by decide +kernel
theorem dX5_isKit_14 : decode cX5_isKit 14 = .ok (.ireturn, 1) := by decide +kernel
theorem dX5_isPart_0 : decode cX5_isPart 0 = .ok (.iconst 0, 1) := by decide +kernel
theorem dX5_isPart_1 : decode cX5_isPart 1 = .ok (.istore_n 2, 1) := by decide +kernel
theorem dX5_isPart_2 : decode cX5_isPart 2 = .ok (.iconst 0, 1) := by decide +kernel
theorem dX5_isPart_3 : decode cX5_isPart 3 = .ok (.istore_n 3, 1) := by decide +kernel
theorem dX5_isPart_4 : decode cX5_isPart 4 = .ok (.iload_n 3, 1) := by decide +kernel
theorem dX5_isPart_5 : decode cX5_isPart 5 = .ok (.bipush 6, 2) := by decide +kernel
theorem dX5_isPart_7 : decode cX5_isPart 7 = .ok (.if_icmp .ge 54, 3) := by decide +kernel
theorem dX5_isPart_10 : decode cX5_isPart 10 = .ok (.iconst 0, 1) := by decide +kernel
theorem dX5_isPart_11 : decode cX5_isPart 11 = .ok (.istore 4, 2) := by decide +kernel
theorem dX5_isPart_13 : decode cX5_isPart 13 = .ok (.iload 4, 2) := by decide +kernel
theorem dX5_isPart_15 : decode cX5_isPart 15 = .ok (.aload_n 0, 1) := by decide +kernel
theorem dX5_isPart_16 : decode cX5_isPart 16 = .ok (.getfield 16, 3) := by decide +kernel
theorem dX5_isPart_19 : decode cX5_isPart 19 = .ok (.iload_n 3, 1) := by decide +kernel
theorem dX5_isPart_20 : decode cX5_isPart 20 = .ok (.iaload, 1) := by decide +kernel
theorem dX5_isPart_21 : decode cX5_isPart 21 = .ok (.if_icmp .ge 34, 3) := by decide +kernel
theorem dX5_isPart_24 : decode cX5_isPart 24 = .ok (.iload_n 2, 1) := by decide +kernel
theorem dX5_isPart_25 : decode cX5_isPart 25 = .ok (.ifCond .ne 18, 3) := by decide +kernel
theorem dX5_isPart_28 : decode cX5_isPart 28 = .ok (.aload_n 0, 1) := by decide +kernel
theorem dX5_isPart_29 : decode cX5_isPart 29 = .ok (.getfield 19, 3) := by decide +kernel
theorem dX5_isPart_32 : decode cX5_isPart 32 = .ok (.iconst 3, 1) := by decide +kernel
theorem dX5_isPart_33 : decode cX5_isPart 33 = .ok (.iload_n 3, 1) := by decide +kernel
theorem dX5_isPart_34 : decode cX5_isPart 34 = .ok (.imul, 1) := by decide +kernel
theorem dX5_isPart_35 : decode cX5_isPart 35 = .ok (.iload 4, 2) := by decide +kernel
theorem dX5_isPart_37 : decode cX5_isPart 37 = .ok (.iadd, 1) := by decide +kernel
theorem dX5_isPart_38 : decode cX5_isPart 38 = .ok (.iaload, 1) := by decide +kernel
theorem dX5_isPart_39 : decode cX5_isPart 39 = .ok (.iload_n 1, 1) := by decide +kernel
theorem dX5_isPart_40 : decode cX5_isPart 40 = .ok (.if_icmp .ne 7, 3) := by decide +kernel
theorem dX5_isPart_43 : decode cX5_isPart 43 = .ok (.iconst 1, 1) := by decide +kernel
theorem dX5_isPart_44 : decode cX5_isPart 44 = .ok (.goto 4, 3) := by decide +kernel
theorem dX5_isPart_47 : decode cX5_isPart 47 = .ok (.iconst 0, 1) := by decide +kernel
theorem dX5_isPart_48 : decode cX5_isPart 48 = .ok (.istore_n 2, 1) := by decide +kernel
theorem dX5_isPart_49 : decode cX5_isPart 49 = .ok (.iinc 4 1, 3) := by decide +kernel
theorem dX5_isPart_52 : decode cX5_isPart 52 = .ok (.goto (-39), 3) := by decide +kernel
theorem dX5_isPart_55 : decode cX5_isPart 55 = .ok (.iinc 3 1, 3) := by decide +kernel
theorem dX5_isPart_58 : decode cX5_isPart 58 = .ok (.goto (-54), 3) := by decide +kernel
theorem dX5_isPart_61 : decode cX5_isPart 61 = .ok (.iload_n 2, 1) := by decide +kernel
theorem dX5_isPart_62 : decode cX5_isPart 62 = .ok (.ireturn, 1) := by decide +kernel
theorem dX5_usable_0 : decode cX5_usable 0 = .ok (.iconst 0, 1) := by decide +kernel
theorem dX5_usable_1 : decode cX5_usable 1 = .ok (.istore_n 3, 1) := by decide +kernel
theorem dX5_usable_2 : decode cX5_usable 2 = .ok (.iconst 0, 1) := by decide +kernel
theorem dX5_usable_3 : decode cX5_usable 3 = .ok (.istore 4, 2) := by decide +kernel
theorem dX5_usable_5 : decode cX5_usable 5 = .ok (.iload 4, 2) := by decide +kernel
theorem dX5_usable_7 : decode cX5_usable 7 = .ok (.aload_n 0, 1) := by decide +kernel
theorem dX5_usable_8 : decode cX5_usable 8 = .ok (.getfield 91, 3) := by decide +kernel
theorem dX5_usable_11 : decode cX5_usable 11 = .ok (.if_icmp .ge 94, 3) := by decide +kernel
theorem dX5_usable_14 : decode cX5_usable 14 = .ok (.aload_n 0, 1) := by decide +kernel
theorem dX5_usable_15 : decode cX5_usable 15 = .ok (.getfield 28, 3) := by decide +kernel
theorem dX5_usable_18 : decode cX5_usable 18 = .ok (.iload 4, 2) := by decide +kernel
theorem dX5_usable_20 : decode cX5_usable 20 = .ok (.iaload, 1) := by decide +kernel
theorem dX5_usable_21 : decode cX5_usable 21 = .ok (.iload_n 1, 1) := by decide +kernel
theorem dX5_usable_22 : decode cX5_usable 22 = .ok (.if_icmp .eq 23, 3) := by decide +kernel
theorem dX5_usable_25 : decode cX5_usable 25 = .ok (.aload_n 0, 1) := by decide +kernel
theorem dX5_usable_26 : decode cX5_usable 26 = .ok (.getfield 13, 3) := by decide +kernel
theorem dX5_usable_29 : decode cX5_usable 29 = .ok (.iload_n 1, 1) := by decide +kernel
theorem dX5_usable_30 : decode cX5_usable 30 = .ok (.iaload, 1) := by decide +kernel
theorem dX5_usable_31 : decode cX5_usable 31 = .ok (.aload_n 0, 1) := by decide +kernel
theorem dX5_usable_32 : decode cX5_usable 32 = .ok (.getfield 28, 3) := by decide +kernel
theorem dX5_usable_35 : decode cX5_usable 35 = .ok (.iload 4, 2) := by decide +kernel
theorem dX5_usable_37 : decode cX5_usable 37 = .ok (.iaload, 1) := by decide +kernel
theorem dX5_usable_38 : decode cX5_usable 38 = .ok (.ishr, 1) := by decide +kernel
theorem dX5_usable_39 : decode cX5_usable 39 = .ok (.iconst 1, 1) := by decide +kernel
theorem dX5_usable_40 : decode cX5_usable 40 = .ok (.iand, 1) := by decide +kernel
theorem dX5_usable_41 : decode cX5_usable 41 = .ok (.iconst 1, 1) := by decide +kernel
theorem dX5_usable_42 : decode cX5_usable 42 = .ok (.if_icmp .ne 7, 3) := by decide +kernel
theorem dX5_usable_45 : decode cX5_usable 45 = .ok (.iconst 1, 1) := by decide +kernel
theorem dX5_usable_46 : decode cX5_usable 46 = .ok (.goto 4, 3) := by decide +kernel
theorem dX5_usable_49 : decode cX5_usable 49 = .ok (.iconst 0, 1) := by decide +kernel
theorem dX5_usable_50 : decode cX5_usable 50 = .ok (.istore 5, 2) := by decide +kernel
theorem dX5_usable_52 : decode cX5_usable 52 = .ok (.iload 5, 2) := by decide +kernel
theorem dX5_usable_54 : decode cX5_usable 54 = .ok (.ifCond .eq 45, 3) := by decide +kernel
theorem dX5_usable_57 : decode cX5_usable 57 = .ok (.aload_n 0, 1) := by decide +kernel
theorem dX5_usable_58 : decode cX5_usable 58 = .ok (.getfield 25, 3) := by decide +kernel
theorem dX5_usable_61 : decode cX5_usable 61 = .ok (.iload 4, 2) := by decide +kernel
theorem dX5_usable_63 : decode cX5_usable 63 = .ok (.iaload, 1) := by decide +kernel
theorem dX5_usable_64 : decode cX5_usable 64 = .ok (.iload_n 2, 1) := by decide +kernel
theorem dX5_usable_65 : decode cX5_usable 65 = .ok (.if_icmp .gt 34, 3) := by decide +kernel
theorem dX5_usable_68 : decode cX5_usable 68 = .ok (.iload_n 2, 1) := by decide +kernel
theorem dX5_usable_69 : decode cX5_usable 69 = .ok (.aload_n 0, 1) := by decide +kernel
theorem dX5_usable_70 : decode cX5_usable 70 = .ok (.getfield 25, 3) := by decide +kernel
theorem dX5_usable_73 : decode cX5_usable 73 = .ok (.iload 4, 2) := by decide +kernel
theorem dX5_usable_75 : decode cX5_usable 75 = .ok (.iaload, 1) := by decide +kernel
theorem dX5_usable_76 : decode cX5_usable 76 = .ok (.aload_n 0, 1) := by decide +kernel
theorem dX5_usable_77 : decode cX5_usable 77 = .ok (.getfield 9, 3) := by decide +kernel
theorem dX5_usable_80 : decode cX5_usable 80 = .ok (.aload_n 0, 1) := by decide +kernel
theorem dX5_usable_81 : decode cX5_usable 81 = .ok (.getfield 28, 3) := by decide +kernel
theorem dX5_usable_84 : decode cX5_usable 84 = .ok (.iload 4, 2) := by decide +kernel
theorem dX5_usable_86 : decode cX5_usable 86 = .ok (.iaload, 1) := by decide +kernel
theorem dX5_usable_87 : decode cX5_usable 87 = .ok (.iaload, 1) := by decide +kernel
theorem dX5_usable_88 : decode cX5_usable 88 = .ok (.iadd, 1) := by decide +kernel
theorem dX5_usable_89 : decode cX5_usable 89 = .ok (.if_icmp .gt 10, 3) := by decide +kernel
theorem dX5_usable_92 : decode cX5_usable 92 = .ok (.iload_n 3, 1) := by decide +kernel
theorem dX5_usable_93 : decode cX5_usable 93 = .ok (.iconst 1, 1) := by decide +kernel
theorem dX5_usable_94 : decode cX5_usable 94 = .ok (.iload 4, 2) := by decide +kernel
theorem dX5_usable_96 : decode cX5_usable 96 = .ok (.ishl, 1) := by decide +kernel
theorem dX5_usable_97 : decode cX5_usable 97 = .ok (.ior, 1) := by decide +kernel
theorem dX5_usable_98 : decode cX5_usable 98 = .ok (.istore_n 3, 1) := by decide +kernel
theorem dX5_usable_99 : decode cX5_usable 99 = .ok (.iinc 4 1, 3) := by decide +kernel
theorem dX5_usable_102 : decode cX5_usable 102 = .ok (.goto (-97), 3) := by decide +kernel
theorem dX5_usable_105 : decode cX5_usable 105 = .ok (.iload_n 3, 1) := by decide +kernel
theorem dX5_usable_106 : decode cX5_usable 106 = .ok (.ireturn, 1) := by decide +kernel
theorem dX5_addDemand_0 : decode cX5_addDemand 0 = .ok (.aload_n 0, 1) := by decide +kernel
theorem dX5_addDemand_1 : decode cX5_addDemand 1 = .ok (.getfield 52, 3) := by decide +kernel
theorem dX5_addDemand_4 : decode cX5_addDemand 4 = .ok (.aload_n 0, 1) := by decide +kernel
theorem dX5_addDemand_5 : decode cX5_addDemand 5 = .ok (.getfield 94, 3) := by decide +kernel
theorem dX5_addDemand_8 : decode cX5_addDemand 8 = .ok (.iload_n 1, 1) := by decide +kernel
theorem dX5_addDemand_9 : decode cX5_addDemand 9 = .ok (.iastore, 1) := by decide +kernel
theorem dX5_addDemand_10 : decode cX5_addDemand 10 = .ok (.aload_n 0, 1) := by decide +kernel
theorem dX5_addDemand_11 : decode cX5_addDemand 11 = .ok (.getfield 55, 3) := by decide +kernel
theorem dX5_addDemand_14 : decode cX5_addDemand 14 = .ok (.aload_n 0, 1) := by decide +kernel
theorem dX5_addDemand_15 : decode cX5_addDemand 15 = .ok (.getfield 94, 3) := by decide +kernel
theorem dX5_addDemand_18 : decode cX5_addDemand 18 = .ok (.iload_n 2, 1) := by decide +kernel
theorem dX5_addDemand_19 : decode cX5_addDemand 19 = .ok (.iastore, 1) := by decide +kernel
theorem dX5_addDemand_20 : decode cX5_addDemand 20 = .ok (.aload_n 0, 1) := by decide +kernel
theorem dX5_addDemand_21 : decode cX5_addDemand 21 = .ok (.getfield 58, 3) := by decide +kernel
theorem dX5_addDemand_24 : decode cX5_addDemand 24 = .ok (.aload_n 0, 1) := by decide +kernel
theorem dX5_addDemand_25 : decode cX5_addDemand 25 = .ok (.getfield 94, 3) := by decide +kernel
theorem dX5_addDemand_28 : decode cX5_addDemand 28 = .ok (.lload_n 3, 1) := by decide +kernel
theorem dX5_addDemand_29 : decode cX5_addDemand 29 = .ok (.lastore, 1) := by decide +kernel
theorem dX5_addDemand_30 : decode cX5_addDemand 30 = .ok (.aload_n 0, 1) := by decide +kernel
theorem dX5_addDemand_31 : decode cX5_addDemand 31 = .ok (.getfield 62, 3) := by decide +kernel
theorem dX5_addDemand_34 : decode cX5_addDemand 34 = .ok (.aload_n 0, 1) := by decide +kernel
theorem dX5_addDemand_35 : decode cX5_addDemand 35 = .ok (.getfield 94, 3) := by decide +kernel
theorem dX5_addDemand_38 : decode cX5_addDemand 38 = .ok (.aload_n 0, 1) := by decide +kernel
theorem dX5_addDemand_39 : decode cX5_addDemand 39 = .ok (.iload_n 2, 1) := by decide +kernel
theorem dX5_addDemand_40 : decode cX5_addDemand 40 = .ok (.iload 5, 2) := by decide +kernel
theorem dX5_addDemand_42 : decode cX5_addDemand 42 = .ok (.invokevirtual 97, 3) := by decide +kernel
theorem dX5_addDemand_45 : decode cX5_addDemand 45 = .ok (.iastore, 1) := by decide +kernel
theorem dX5_addDemand_46 : decode cX5_addDemand 46 = .ok (.aload_n 0, 1) := by decide +kernel
theorem dX5_addDemand_47 : decode cX5_addDemand 47 = .ok (.dup, 1) := by decide +kernel
theorem dX5_addDemand_48 : decode cX5_addDemand 48 = .ok (.getfield 94, 3) := by decide +kernel
theorem dX5_addDemand_51 : decode cX5_addDemand 51 = .ok (.iconst 1, 1) := by decide +kernel
theorem dX5_addDemand_52 : decode cX5_addDemand 52 = .ok (.iadd, 1) := by decide +kernel
theorem dX5_addDemand_53 : decode cX5_addDemand 53 = .ok (.putfield 94, 3) := by decide +kernel
theorem dX5_addDemand_56 : decode cX5_addDemand 56 = .ok (.return_, 1) := by decide +kernel
theorem dX5_addOrder_0 : decode cX5_addOrder 0 = .ok (.aload_n 0, 1) := by decide +kernel
theorem dX5_addOrder_1 : decode cX5_addOrder 1 = .ok (.iload_n 2, 1) := by decide +kernel
theorem dX5_addOrder_2 : decode cX5_addOrder 2 = .ok (.invokevirtual 101, 3) := by decide +kernel
theorem dX5_addOrder_5 : decode cX5_addOrder 5 = .ok (.ifCond .ne 14, 3) := by decide +kernel
theorem dX5_addOrder_8 : decode cX5_addOrder 8 = .ok (.aload_n 0, 1) := by decide +kernel
theorem dX5_addOrder_9 : decode cX5_addOrder 9 = .ok (.iload_n 1, 1) := by decide +kernel
theorem dX5_addOrder_10 : decode cX5_addOrder 10 = .ok (.iload_n 2, 1) := by decide +kernel
theorem dX5_addOrder_11 : decode cX5_addOrder 11 = .ok (.iload_n 3, 1) := by decide +kernel
theorem dX5_addOrder_12 : decode cX5_addOrder 12 = .ok (.i2l, 1) := by decide +kernel
theorem dX5_addOrder_13 : decode cX5_addOrder 13 = .ok (.iload 4, 2) := by decide +kernel
theorem dX5_addOrder_15 : decode cX5_addOrder 15 = .ok (.invokevirtual 105, 3) := by decide +kernel
theorem dX5_addOrder_18 : decode cX5_addOrder 18 = .ok (.return_, 1) := by decide +kernel
theorem dX5_addOrder_19 : decode cX5_addOrder 19 = .ok (.iconst 0, 1) := by decide +kernel
theorem dX5_addOrder_20 : decode cX5_addOrder 20 = .ok (.istore 5, 2) := by decide +kernel
theorem dX5_addOrder_22 : decode cX5_addOrder 22 = .ok (.iload 5, 2) := by decide +kernel
theorem dX5_addOrder_24 : decode cX5_addOrder 24 = .ok (.aload_n 0, 1) := by decide +kernel
theorem dX5_addOrder_25 : decode cX5_addOrder 25 = .ok (.getfield 16, 3) := by decide +kernel
theorem dX5_addOrder_28 : decode cX5_addOrder 28 = .ok (.iload_n 2, 1) := by decide +kernel
theorem dX5_addOrder_29 : decode cX5_addOrder 29 = .ok (.iaload, 1) := by decide +kernel
theorem dX5_addOrder_30 : decode cX5_addOrder 30 = .ok (.if_icmp .ge 42, 3) := by decide +kernel
theorem dX5_addOrder_33 : decode cX5_addOrder 33 = .ok (.aload_n 0, 1) := by decide +kernel
theorem dX5_addOrder_34 : decode cX5_addOrder 34 = .ok (.iload_n 1, 1) := by decide +kernel
theorem dX5_addOrder_35 : decode cX5_addOrder 35 = .ok (.aload_n 0, 1) := by decide +kernel
theorem dX5_addOrder_36 : decode cX5_addOrder 36 = .ok (.getfield 19, 3) := by decide +kernel
theorem dX5_addOrder_39 : decode cX5_addOrder 39 = .ok (.iconst 3, 1) := by decide +kernel
theorem dX5_addOrder_40 : decode cX5_addOrder 40 = .ok (.iload_n 2, 1) := by decide +kernel
theorem dX5_addOrder_41 : decode cX5_addOrder 41 = .ok (.imul, 1) := by decide +kernel
theorem dX5_addOrder_42 : decode cX5_addOrder 42 = .ok (.iload 5, 2) := by decide +kernel
theorem dX5_addOrder_44 : decode cX5_addOrder 44 = .ok (.iadd, 1) := by decide +kernel
theorem dX5_addOrder_45 : decode cX5_addOrder 45 = .ok (.iaload, 1) := by decide +kernel
theorem dX5_addOrder_46 : decode cX5_addOrder 46 = .ok (.iload_n 3, 1) := by decide +kernel
theorem dX5_addOrder_47 : decode cX5_addOrder 47 = .ok (.i2l, 1) := by decide +kernel
theorem dX5_addOrder_48 : decode cX5_addOrder 48 = .ok (.aload_n 0, 1) := by decide +kernel
theorem dX5_addOrder_49 : decode cX5_addOrder 49 = .ok (.getfield 22, 3) := by decide +kernel
theorem dX5_addOrder_52 : decode cX5_addOrder 52 = .ok (.iconst 3, 1) := by decide +kernel
theorem dX5_addOrder_53 : decode cX5_addOrder 53 = .ok (.iload_n 2, 1) := by decide +kernel
theorem dX5_addOrder_54 : decode cX5_addOrder 54 = .ok (.imul, 1) := by decide +kernel
theorem dX5_addOrder_55 : decode cX5_addOrder 55 = .ok (.iload 5, 2) := by decide +kernel
theorem dX5_addOrder_57 : decode cX5_addOrder 57 = .ok (.iadd, 1) := by decide +kernel
theorem dX5_addOrder_58 : decode cX5_addOrder 58 = .ok (.iaload, 1) := by decide +kernel
theorem dX5_addOrder_59 : decode cX5_addOrder 59 = .ok (.i2l, 1) := by decide +kernel
theorem dX5_addOrder_60 : decode cX5_addOrder 60 = .ok (.lmul, 1) := by decide +kernel
theorem dX5_addOrder_61 : decode cX5_addOrder 61 = .ok (.iload 4, 2) := by decide +kernel
theorem dX5_addOrder_63 : decode cX5_addOrder 63 = .ok (.invokevirtual 105, 3) := by decide +kernel
theorem dX5_addOrder_66 : decode cX5_addOrder 66 = .ok (.iinc 5 1, 3) := by decide +kernel
theorem dX5_addOrder_69 : decode cX5_addOrder 69 = .ok (.goto (-47), 3) := by decide +kernel
theorem dX5_addOrder_72 : decode cX5_addOrder 72 = .ok (.return_, 1) := by decide +kernel
theorem dX5_next_0 : decode cX5_next 0 = .ok (.iconst (-1), 1) := by decide +kernel
theorem dX5_next_1 : decode cX5_next 1 = .ok (.istore_n 3, 1) := by decide +kernel
theorem dX5_next_2 : decode cX5_next 2 = .ok (.iconst 0, 1) := by decide +kernel
theorem dX5_next_3 : decode cX5_next 3 = .ok (.istore 4, 2) := by decide +kernel
theorem dX5_next_5 : decode cX5_next 5 = .ok (.iload 4, 2) := by decide +kernel
theorem dX5_next_7 : decode cX5_next 7 = .ok (.aload_n 0, 1) := by decide +kernel
theorem dX5_next_8 : decode cX5_next 8 = .ok (.getfield 109, 3) := by decide +kernel
theorem dX5_next_11 : decode cX5_next 11 = .ok (.if_icmp .ge 116, 3) := by decide +kernel
theorem dX5_next_14 : decode cX5_next 14 = .ok (.aload_n 0, 1) := by decide +kernel
theorem dX5_next_15 : decode cX5_next 15 = .ok (.getfield 49, 3) := by decide +kernel
theorem dX5_next_18 : decode cX5_next 18 = .ok (.iload 4, 2) := by decide +kernel
theorem dX5_next_20 : decode cX5_next 20 = .ok (.iaload, 1) := by decide +kernel
theorem dX5_next_21 : decode cX5_next 21 = .ok (.iconst 2, 1) := by decide +kernel
theorem dX5_next_22 : decode cX5_next 22 = .ok (.if_icmp .eq 99, 3) := by decide +kernel
theorem dX5_next_25 : decode cX5_next 25 = .ok (.iload_n 2, 1) := by decide +kernel
theorem dX5_next_26 : decode cX5_next 26 = .ok (.ifCond .eq 16, 3) := by decide +kernel
theorem dX5_next_29 : decode cX5_next 29 = .ok (.aload_n 0, 1) := by decide +kernel
theorem dX5_next_30 : decode cX5_next 30 = .ok (.getfield 49, 3) := by decide +kernel
theorem dX5_next_33 : decode cX5_next 33 = .ok (.iload 4, 2) := by decide +kernel
theorem dX5_next_35 : decode cX5_next 35 = .ok (.iaload, 1) := by decide +kernel
theorem dX5_next_36 : decode cX5_next 36 = .ok (.ifCond .eq 6, 3) := by decide +kernel
theorem dX5_next_39 : decode cX5_next 39 = .ok (.goto 82, 3) := by decide +kernel
theorem dX5_next_42 : decode cX5_next 42 = .ok (.iload_n 1, 1) := by decide +kernel
theorem dX5_next_43 : decode cX5_next 43 = .ok (.iconst (-1), 1) := by decide +kernel
theorem dX5_next_44 : decode cX5_next 44 = .ok (.if_icmp .eq 41, 3) := by decide +kernel
theorem dX5_next_47 : decode cX5_next 47 = .ok (.aload_n 0, 1) := by decide +kernel
theorem dX5_next_48 : decode cX5_next 48 = .ok (.getfield 46, 3) := by decide +kernel
theorem dX5_next_51 : decode cX5_next 51 = .ok (.iload 4, 2) := by decide +kernel
theorem dX5_next_53 : decode cX5_next 53 = .ok (.iaload, 1) := by decide +kernel
theorem dX5_next_54 : decode cX5_next 54 = .ok (.aload_n 0, 1) := by decide +kernel
theorem dX5_next_55 : decode cX5_next 55 = .ok (.getfield 46, 3) := by decide +kernel
theorem dX5_next_58 : decode cX5_next 58 = .ok (.iload_n 1, 1) := by decide +kernel
theorem dX5_next_59 : decode cX5_next 59 = .ok (.iaload, 1) := by decide +kernel
theorem dX5_next_60 : decode cX5_next 60 = .ok (.if_icmp .gt 25, 3) := by decide +kernel
theorem dX5_next_63 : decode cX5_next 63 = .ok (.aload_n 0, 1) := by decide +kernel
theorem dX5_next_64 : decode cX5_next 64 = .ok (.getfield 46, 3) := by decide +kernel
theorem dX5_next_67 : decode cX5_next 67 = .ok (.iload 4, 2) := by decide +kernel
theorem dX5_next_69 : decode cX5_next 69 = .ok (.iaload, 1) := by decide +kernel
theorem dX5_next_70 : decode cX5_next 70 = .ok (.aload_n 0, 1) := by decide +kernel
theorem dX5_next_71 : decode cX5_next 71 = .ok (.getfield 46, 3) := by decide +kernel
theorem dX5_next_74 : decode cX5_next 74 = .ok (.iload_n 1, 1) := by decide +kernel
theorem dX5_next_75 : decode cX5_next 75 = .ok (.iaload, 1) := by decide +kernel
theorem dX5_next_76 : decode cX5_next 76 = .ok (.if_icmp .ne 13, 3) := by decide +kernel
theorem dX5_next_79 : decode cX5_next 79 = .ok (.iload 4, 2) := by decide +kernel
theorem dX5_next_81 : decode cX5_next 81 = .ok (.iload_n 1, 1) := by decide +kernel
theorem dX5_next_82 : decode cX5_next 82 = .ok (.if_icmp .le 7, 3) := by decide +kernel
theorem dX5_next_85 : decode cX5_next 85 = .ok (.iconst 1, 1) := by decide +kernel
theorem dX5_next_86 : decode cX5_next 86 = .ok (.goto 4, 3) := by decide +kernel
theorem dX5_next_89 : decode cX5_next 89 = .ok (.iconst 0, 1) := by decide +kernel
theorem dX5_next_90 : decode cX5_next 90 = .ok (.istore 5, 2) := by decide +kernel
theorem dX5_next_92 : decode cX5_next 92 = .ok (.iload 5, 2) := by decide +kernel
theorem dX5_next_94 : decode cX5_next 94 = .ok (.ifCond .eq 27, 3) := by decide +kernel
theorem dX5_next_97 : decode cX5_next 97 = .ok (.iload_n 3, 1) := by decide +kernel
theorem dX5_next_98 : decode cX5_next 98 = .ok (.iconst (-1), 1) := by decide +kernel
theorem dX5_next_99 : decode cX5_next 99 = .ok (.if_icmp .eq 19, 3) := by decide +kernel
theorem dX5_next_102 : decode cX5_next 102 = .ok (.aload_n 0, 1) := by decide +kernel
theorem dX5_next_103 : decode cX5_next 103 = .ok (.getfield 46, 3) := by decide +kernel
theorem dX5_next_106 : decode cX5_next 106 = .ok (.iload 4, 2) := by decide +kernel
theorem dX5_next_108 : decode cX5_next 108 = .ok (.iaload, 1) := by decide +kernel
theorem dX5_next_109 : decode cX5_next 109 = .ok (.aload_n 0, 1) := by decide +kernel
theorem dX5_next_110 : decode cX5_next 110 = .ok (.getfield 46, 3) := by decide +kernel
theorem dX5_next_113 : decode cX5_next 113 = .ok (.iload_n 3, 1) := by decide +kernel
theorem dX5_next_114 : decode cX5_next 114 = .ok (.iaload, 1) := by decide +kernel
theorem dX5_next_115 : decode cX5_next 115 = .ok (.if_icmp .ge 6, 3) := by decide +kernel
theorem dX5_next_118 : decode cX5_next 118 = .ok (.iload 4, 2) := by decide +kernel
theorem dX5_next_120 : decode cX5_next 120 = .ok (.istore_n 3, 1) := by decide +kernel
theorem dX5_next_121 : decode cX5_next 121 = .ok (.iinc 4 1, 3) := by decide +kernel
theorem dX5_next_124 : decode cX5_next 124 = .ok (.goto (-119), 3) := by decide +kernel
theorem dX5_next_127 : decode cX5_next 127 = .ok (.iload_n 3, 1) := by decide +kernel
theorem dX5_next_128 : decode cX5_next 128 = .ok (.ireturn, 1) := by decide +kernel
theorem dX5_collect_0 : decode cX5_collect 0 = .ok (.aload_n 0, 1) := by decide +kernel
theorem dX5_collect_1 : decode cX5_collect 1 = .ok (.iconst 0, 1) := by decide +kernel
theorem dX5_collect_2 : decode cX5_collect 2 = .ok (.putfield 94, 3) := by decide +kernel
theorem dX5_collect_5 : decode cX5_collect 5 = .ok (.aload_n 0, 1) := by decide +kernel
theorem dX5_collect_6 : decode cX5_collect 6 = .ok (.iconst (-1), 1) := by decide +kernel
theorem dX5_collect_7 : decode cX5_collect 7 = .ok (.iconst 1, 1) := by decide +kernel
theorem dX5_collect_8 : decode cX5_collect 8 = .ok (.invokevirtual 112, 3) := by decide +kernel
theorem dX5_collect_11 : decode cX5_collect 11 = .ok (.istore_n 1, 1) := by decide +kernel
theorem dX5_collect_12 : decode cX5_collect 12 = .ok (.iload_n 1, 1) := by decide +kernel
theorem dX5_collect_13 : decode cX5_collect 13 = .ok (.iconst (-1), 1) := by decide +kernel
theorem dX5_collect_14 : decode cX5_collect 14 = .ok (.if_icmp .eq 36, 3) := by decide +kernel
theorem dX5_collect_17 : decode cX5_collect 17 = .ok (.aload_n 0, 1) := by decide +kernel
theorem dX5_collect_18 : decode cX5_collect 18 = .ok (.iload_n 1, 1) := by decide +kernel
theorem dX5_collect_19 : decode cX5_collect 19 = .ok (.aload_n 0, 1) := by decide +kernel
theorem dX5_collect_20 : decode cX5_collect 20 = .ok (.getfield 40, 3) := by decide +kernel
theorem dX5_collect_23 : decode cX5_collect 23 = .ok (.iload_n 1, 1) := by decide +kernel
theorem dX5_collect_24 : decode cX5_collect 24 = .ok (.iaload, 1) := by decide +kernel
theorem dX5_collect_25 : decode cX5_collect 25 = .ok (.aload_n 0, 1) := by decide +kernel
theorem dX5_collect_26 : decode cX5_collect 26 = .ok (.getfield 43, 3) := by decide +kernel
theorem dX5_collect_29 : decode cX5_collect 29 = .ok (.iload_n 1, 1) := by decide +kernel
theorem dX5_collect_30 : decode cX5_collect 30 = .ok (.iaload, 1) := by decide +kernel
theorem dX5_collect_31 : decode cX5_collect 31 = .ok (.aload_n 0, 1) := by decide +kernel
theorem dX5_collect_32 : decode cX5_collect 32 = .ok (.getfield 37, 3) := by decide +kernel
theorem dX5_collect_35 : decode cX5_collect 35 = .ok (.iload_n 1, 1) := by decide +kernel
theorem dX5_collect_36 : decode cX5_collect 36 = .ok (.iaload, 1) := by decide +kernel
theorem dX5_collect_37 : decode cX5_collect 37 = .ok (.invokevirtual 116, 3) := by decide +kernel
theorem dX5_collect_40 : decode cX5_collect 40 = .ok (.aload_n 0, 1) := by decide +kernel
theorem dX5_collect_41 : decode cX5_collect 41 = .ok (.iload_n 1, 1) := by decide +kernel
theorem dX5_collect_42 : decode cX5_collect 42 = .ok (.iconst 1, 1) := by decide +kernel
theorem dX5_collect_43 : decode cX5_collect 43 = .ok (.invokevirtual 112, 3) := by decide +kernel
theorem dX5_collect_46 : decode cX5_collect 46 = .ok (.istore_n 1, 1) := by decide +kernel
theorem dX5_collect_47 : decode cX5_collect 47 = .ok (.goto (-35), 3) := by decide +kernel
theorem dX5_collect_50 : decode cX5_collect 50 = .ok (.iconst 0, 1) := by decide +kernel
theorem dX5_collect_51 : decode cX5_collect 51 = .ok (.istore_n 1, 1) := by decide +kernel
theorem dX5_collect_52 : decode cX5_collect 52 = .ok (.iload_n 1, 1) := by decide +kernel
theorem dX5_collect_53 : decode cX5_collect 53 = .ok (.aload_n 0, 1) := by decide +kernel
theorem dX5_collect_54 : decode cX5_collect 54 = .ok (.getfield 91, 3) := by decide +kernel
theorem dX5_collect_57 : decode cX5_collect 57 = .ok (.if_icmp .ge 29, 3) := by decide +kernel
theorem dX5_collect_60 : decode cX5_collect 60 = .ok (.aload_n 0, 1) := by decide +kernel
theorem dX5_collect_61 : decode cX5_collect 61 = .ok (.getfield 65, 3) := by decide +kernel
theorem dX5_collect_64 : decode cX5_collect 64 = .ok (.iload_n 1, 1) := by decide +kernel
theorem dX5_collect_65 : decode cX5_collect 65 = .ok (.aload_n 0, 1) := by decide +kernel
theorem dX5_collect_66 : decode cX5_collect 66 = .ok (.getfield 31, 3) := by decide +kernel
theorem dX5_collect_69 : decode cX5_collect 69 = .ok (.iload_n 1, 1) := by decide +kernel
theorem dX5_collect_70 : decode cX5_collect 70 = .ok (.iaload, 1) := by decide +kernel
theorem dX5_collect_71 : decode cX5_collect 71 = .ok (.aload_n 0, 1) := by decide +kernel
theorem dX5_collect_72 : decode cX5_collect 72 = .ok (.getfield 34, 3) := by decide +kernel
theorem dX5_collect_75 : decode cX5_collect 75 = .ok (.iload_n 1, 1) := by decide +kernel
theorem dX5_collect_76 : decode cX5_collect 76 = .ok (.iaload, 1) := by decide +kernel
theorem dX5_collect_77 : decode cX5_collect 77 = .ok (.isub, 1) := by decide +kernel
theorem dX5_collect_78 : decode cX5_collect 78 = .ok (.i2l, 1) := by decide +kernel
theorem dX5_collect_79 : decode cX5_collect 79 = .ok (.lastore, 1) := by decide +kernel
theorem dX5_collect_80 : decode cX5_collect 80 = .ok (.iinc 1 1, 3) := by decide +kernel
theorem dX5_collect_83 : decode cX5_collect 83 = .ok (.goto (-31), 3) := by decide +kernel
