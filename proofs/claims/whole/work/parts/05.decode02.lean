theorem dX5_collect_86 : decode cX5_collect 86 = .ok (.return_, 1) := by decide +kernel
theorem dX5_slack_0 : decode cX5_slack 0 = .ok (.lconst 0, 1) := by decide +kernel
theorem dX5_slack_1 : decode cX5_slack 1 = .ok (.lstore_n 2, 1) := by decide +kernel
theorem dX5_slack_2 : decode cX5_slack 2 = .ok (.iconst 0, 1) := by decide +kernel
theorem dX5_slack_3 : decode cX5_slack 3 = .ok (.istore 4, 2) := by decide +kernel
theorem dX5_slack_5 : decode cX5_slack 5 = .ok (.iload 4, 2) := by decide +kernel
theorem dX5_slack_7 : decode cX5_slack 7 = .ok (.aload_n 0, 1) := by decide +kernel
theorem dX5_slack_8 : decode cX5_slack 8 = .ok (.getfield 91, 3) := by decide +kernel
theorem dX5_slack_11 : decode cX5_slack 11 = .ok (.if_icmp .ge 33, 3) := by decide +kernel
theorem dX5_slack_14 : decode cX5_slack 14 = .ok (.lload_n 2, 1) := by decide +kernel
theorem dX5_slack_15 : decode cX5_slack 15 = .ok (.iload_n 1, 1) := by decide +kernel
theorem dX5_slack_16 : decode cX5_slack 16 = .ok (.iload 4, 2) := by decide +kernel
theorem dX5_slack_18 : decode cX5_slack 18 = .ok (.ishr, 1) := by decide +kernel
theorem dX5_slack_19 : decode cX5_slack 19 = .ok (.iconst 1, 1) := by decide +kernel
theorem dX5_slack_20 : decode cX5_slack 20 = .ok (.iand, 1) := by decide +kernel
theorem dX5_slack_21 : decode cX5_slack 21 = .ok (.iconst 1, 1) := by decide +kernel
theorem dX5_slack_22 : decode cX5_slack 22 = .ok (.if_icmp .ne 13, 3) := by decide +kernel
theorem dX5_slack_25 : decode cX5_slack 25 = .ok (.aload_n 0, 1) := by decide +kernel
theorem dX5_slack_26 : decode cX5_slack 26 = .ok (.getfield 65, 3) := by decide +kernel
theorem dX5_slack_29 : decode cX5_slack 29 = .ok (.iload 4, 2) := by decide +kernel
theorem dX5_slack_31 : decode cX5_slack 31 = .ok (.laload, 1) := by decide +kernel
theorem dX5_slack_32 : decode cX5_slack 32 = .ok (.goto 4, 3) := by decide +kernel
theorem dX5_slack_35 : decode cX5_slack 35 = .ok (.lconst 0, 1) := by decide +kernel
theorem dX5_slack_36 : decode cX5_slack 36 = .ok (.ladd, 1) := by decide +kernel
theorem dX5_slack_37 : decode cX5_slack 37 = .ok (.lstore_n 2, 1) := by decide +kernel
theorem dX5_slack_38 : decode cX5_slack 38 = .ok (.iinc 4 1, 3) := by decide +kernel
theorem dX5_slack_41 : decode cX5_slack 41 = .ok (.goto (-36), 3) := by decide +kernel
theorem dX5_slack_44 : decode cX5_slack 44 = .ok (.iconst 0, 1) := by decide +kernel
theorem dX5_slack_45 : decode cX5_slack 45 = .ok (.istore 4, 2) := by decide +kernel
theorem dX5_slack_47 : decode cX5_slack 47 = .ok (.iload 4, 2) := by decide +kernel
theorem dX5_slack_49 : decode cX5_slack 49 = .ok (.aload_n 0, 1) := by decide +kernel
theorem dX5_slack_50 : decode cX5_slack 50 = .ok (.getfield 94, 3) := by decide +kernel
theorem dX5_slack_53 : decode cX5_slack 53 = .ok (.if_icmp .ge 37, 3) := by decide +kernel
theorem dX5_slack_56 : decode cX5_slack 56 = .ok (.lload_n 2, 1) := by decide +kernel
theorem dX5_slack_57 : decode cX5_slack 57 = .ok (.aload_n 0, 1) := by decide +kernel
theorem dX5_slack_58 : decode cX5_slack 58 = .ok (.getfield 62, 3) := by decide +kernel
theorem dX5_slack_61 : decode cX5_slack 61 = .ok (.iload 4, 2) := by decide +kernel
theorem dX5_slack_63 : decode cX5_slack 63 = .ok (.iaload, 1) := by decide +kernel
theorem dX5_slack_64 : decode cX5_slack 64 = .ok (.iload_n 1, 1) := by decide +kernel
theorem dX5_slack_65 : decode cX5_slack 65 = .ok (.iconst (-1), 1) := by decide +kernel
theorem dX5_slack_66 : decode cX5_slack 66 = .ok (.ixor, 1) := by decide +kernel
theorem dX5_slack_67 : decode cX5_slack 67 = .ok (.iand, 1) := by decide +kernel
theorem dX5_slack_68 : decode cX5_slack 68 = .ok (.ifCond .ne 13, 3) := by decide +kernel
theorem dX5_slack_71 : decode cX5_slack 71 = .ok (.aload_n 0, 1) := by decide +kernel
theorem dX5_slack_72 : decode cX5_slack 72 = .ok (.getfield 58, 3) := by decide +kernel
theorem dX5_slack_75 : decode cX5_slack 75 = .ok (.iload 4, 2) := by decide +kernel
theorem dX5_slack_77 : decode cX5_slack 77 = .ok (.laload, 1) := by decide +kernel
theorem dX5_slack_78 : decode cX5_slack 78 = .ok (.goto 4, 3) := by decide +kernel
theorem dX5_slack_81 : decode cX5_slack 81 = .ok (.lconst 0, 1) := by decide +kernel
theorem dX5_slack_82 : decode cX5_slack 82 = .ok (.lsub, 1) := by decide +kernel
theorem dX5_slack_83 : decode cX5_slack 83 = .ok (.lstore_n 2, 1) := by decide +kernel
theorem dX5_slack_84 : decode cX5_slack 84 = .ok (.iinc 4 1, 3) := by decide +kernel
theorem dX5_slack_87 : decode cX5_slack 87 = .ok (.goto (-40), 3) := by decide +kernel
theorem dX5_slack_90 : decode cX5_slack 90 = .ok (.lload_n 2, 1) := by decide +kernel
theorem dX5_slack_91 : decode cX5_slack 91 = .ok (.lreturn, 1) := by decide +kernel
theorem dX5_canBeMet_0 : decode cX5_canBeMet 0 = .ok (.iconst 0, 1) := by decide +kernel
theorem dX5_canBeMet_1 : decode cX5_canBeMet 1 = .ok (.istore_n 1, 1) := by decide +kernel
theorem dX5_canBeMet_2 : decode cX5_canBeMet 2 = .ok (.iload_n 1, 1) := by decide +kernel
theorem dX5_canBeMet_3 : decode cX5_canBeMet 3 = .ok (.iconst 1, 1) := by decide +kernel
theorem dX5_canBeMet_4 : decode cX5_canBeMet 4 = .ok (.aload_n 0, 1) := by decide +kernel
theorem dX5_canBeMet_5 : decode cX5_canBeMet 5 = .ok (.getfield 91, 3) := by decide +kernel
theorem dX5_canBeMet_8 : decode cX5_canBeMet 8 = .ok (.ishl, 1) := by decide +kernel
theorem dX5_canBeMet_9 : decode cX5_canBeMet 9 = .ok (.if_icmp .ge 21, 3) := by decide +kernel
theorem dX5_canBeMet_12 : decode cX5_canBeMet 12 = .ok (.aload_n 0, 1) := by decide +kernel
theorem dX5_canBeMet_13 : decode cX5_canBeMet 13 = .ok (.iload_n 1, 1) := by decide +kernel
theorem dX5_canBeMet_14 : decode cX5_canBeMet 14 = .ok (.invokevirtual 120, 3) := by decide +kernel
theorem dX5_canBeMet_17 : decode cX5_canBeMet 17 = .ok (.lconst 0, 1) := by decide +kernel
theorem dX5_canBeMet_18 : decode cX5_canBeMet 18 = .ok (.lcmp, 1) := by decide +kernel
theorem dX5_canBeMet_19 : decode cX5_canBeMet 19 = .ok (.ifCond .ge 5, 3) := by decide +kernel
theorem dX5_canBeMet_22 : decode cX5_canBeMet 22 = .ok (.iconst 0, 1) := by decide +kernel
theorem dX5_canBeMet_23 : decode cX5_canBeMet 23 = .ok (.ireturn, 1) := by decide +kernel
theorem dX5_canBeMet_24 : decode cX5_canBeMet 24 = .ok (.iinc 1 1, 3) := by decide +kernel
theorem dX5_canBeMet_27 : decode cX5_canBeMet 27 = .ok (.goto (-25), 3) := by decide +kernel
theorem dX5_canBeMet_30 : decode cX5_canBeMet 30 = .ok (.iconst 1, 1) := by decide +kernel
theorem dX5_canBeMet_31 : decode cX5_canBeMet 31 = .ok (.ireturn, 1) := by decide +kernel
theorem dX5_cover_0 : decode cX5_cover 0 = .ok (.aload_n 0, 1) := by decide +kernel
theorem dX5_cover_1 : decode cX5_cover 1 = .ok (.iconst 0, 1) := by decide +kernel
theorem dX5_cover_2 : decode cX5_cover 2 = .ok (.putfield 94, 3) := by decide +kernel
theorem dX5_cover_5 : decode cX5_cover 5 = .ok (.iconst 0, 1) := by decide +kernel
theorem dX5_cover_6 : decode cX5_cover 6 = .ok (.istore_n 1, 1) := by decide +kernel
theorem dX5_cover_7 : decode cX5_cover 7 = .ok (.iload_n 1, 1) := by decide +kernel
theorem dX5_cover_8 : decode cX5_cover 8 = .ok (.aload_n 0, 1) := by decide +kernel
theorem dX5_cover_9 : decode cX5_cover 9 = .ok (.getfield 91, 3) := by decide +kernel
theorem dX5_cover_12 : decode cX5_cover 12 = .ok (.if_icmp .ge 29, 3) := by decide +kernel
theorem dX5_cover_15 : decode cX5_cover 15 = .ok (.aload_n 0, 1) := by decide +kernel
theorem dX5_cover_16 : decode cX5_cover 16 = .ok (.getfield 65, 3) := by decide +kernel
theorem dX5_cover_19 : decode cX5_cover 19 = .ok (.iload_n 1, 1) := by decide +kernel
theorem dX5_cover_20 : decode cX5_cover 20 = .ok (.aload_n 0, 1) := by decide +kernel
theorem dX5_cover_21 : decode cX5_cover 21 = .ok (.getfield 31, 3) := by decide +kernel
theorem dX5_cover_24 : decode cX5_cover 24 = .ok (.iload_n 1, 1) := by decide +kernel
theorem dX5_cover_25 : decode cX5_cover 25 = .ok (.iaload, 1) := by decide +kernel
theorem dX5_cover_26 : decode cX5_cover 26 = .ok (.aload_n 0, 1) := by decide +kernel
theorem dX5_cover_27 : decode cX5_cover 27 = .ok (.getfield 34, 3) := by decide +kernel
theorem dX5_cover_30 : decode cX5_cover 30 = .ok (.iload_n 1, 1) := by decide +kernel
theorem dX5_cover_31 : decode cX5_cover 31 = .ok (.iaload, 1) := by decide +kernel
theorem dX5_cover_32 : decode cX5_cover 32 = .ok (.isub, 1) := by decide +kernel
theorem dX5_cover_33 : decode cX5_cover 33 = .ok (.i2l, 1) := by decide +kernel
theorem dX5_cover_34 : decode cX5_cover 34 = .ok (.lastore, 1) := by decide +kernel
theorem dX5_cover_35 : decode cX5_cover 35 = .ok (.iinc 1 1, 3) := by decide +kernel
theorem dX5_cover_38 : decode cX5_cover 38 = .ok (.goto (-31), 3) := by decide +kernel
theorem dX5_cover_41 : decode cX5_cover 41 = .ok (.iconst 0, 1) := by decide +kernel
theorem dX5_cover_42 : decode cX5_cover 42 = .ok (.istore_n 1, 1) := by decide +kernel
theorem dX5_cover_43 : decode cX5_cover 43 = .ok (.aload_n 0, 1) := by decide +kernel
theorem dX5_cover_44 : decode cX5_cover 44 = .ok (.iconst (-1), 1) := by decide +kernel
theorem dX5_cover_45 : decode cX5_cover 45 = .ok (.iconst 0, 1) := by decide +kernel
theorem dX5_cover_46 : decode cX5_cover 46 = .ok (.invokevirtual 112, 3) := by decide +kernel
theorem dX5_cover_49 : decode cX5_cover 49 = .ok (.istore_n 2, 1) := by decide +kernel
theorem dX5_cover_50 : decode cX5_cover 50 = .ok (.iload_n 2, 1) := by decide +kernel
theorem dX5_cover_51 : decode cX5_cover 51 = .ok (.iconst (-1), 1) := by decide +kernel
theorem dX5_cover_52 : decode cX5_cover 52 = .ok (.if_icmp .eq 93, 3) := by decide +kernel
theorem dX5_cover_55 : decode cX5_cover 55 = .ok (.aload_n 0, 1) := by decide +kernel
theorem dX5_cover_56 : decode cX5_cover 56 = .ok (.getfield 94, 3) := by decide +kernel
theorem dX5_cover_59 : decode cX5_cover 59 = .ok (.istore_n 3, 1) := by decide +kernel
theorem dX5_cover_60 : decode cX5_cover 60 = .ok (.aload_n 0, 1) := by decide +kernel
theorem dX5_cover_61 : decode cX5_cover 61 = .ok (.iload_n 2, 1) := by decide +kernel
theorem dX5_cover_62 : decode cX5_cover 62 = .ok (.aload_n 0, 1) := by decide +kernel
theorem dX5_cover_63 : decode cX5_cover 63 = .ok (.getfield 40, 3) := by decide +kernel
theorem dX5_cover_66 : decode cX5_cover 66 = .ok (.iload_n 2, 1) := by decide +kernel
theorem dX5_cover_67 : decode cX5_cover 67 = .ok (.iaload, 1) := by decide +kernel
theorem dX5_cover_68 : decode cX5_cover 68 = .ok (.aload_n 0, 1) := by decide +kernel
theorem dX5_cover_69 : decode cX5_cover 69 = .ok (.getfield 43, 3) := by decide +kernel
theorem dX5_cover_72 : decode cX5_cover 72 = .ok (.iload_n 2, 1) := by decide +kernel
theorem dX5_cover_73 : decode cX5_cover 73 = .ok (.iaload, 1) := by decide +kernel
theorem dX5_cover_74 : decode cX5_cover 74 = .ok (.aload_n 0, 1) := by decide +kernel
theorem dX5_cover_75 : decode cX5_cover 75 = .ok (.getfield 37, 3) := by decide +kernel
theorem dX5_cover_78 : decode cX5_cover 78 = .ok (.iload_n 2, 1) := by decide +kernel
theorem dX5_cover_79 : decode cX5_cover 79 = .ok (.iaload, 1) := by decide +kernel
theorem dX5_cover_80 : decode cX5_cover 80 = .ok (.invokevirtual 116, 3) := by decide +kernel
theorem dX5_cover_83 : decode cX5_cover 83 = .ok (.aload_n 0, 1) := by decide +kernel
theorem dX5_cover_84 : decode cX5_cover 84 = .ok (.invokevirtual 124, 3) := by decide +kernel
theorem dX5_cover_87 : decode cX5_cover 87 = .ok (.istore 4, 2) := by decide +kernel
theorem dX5_cover_89 : decode cX5_cover 89 = .ok (.aload_n 0, 1) := by decide +kernel
theorem dX5_cover_90 : decode cX5_cover 90 = .ok (.getfield 49, 3) := by decide +kernel
theorem dX5_cover_93 : decode cX5_cover 93 = .ok (.iload_n 2, 1) := by decide +kernel
theorem dX5_cover_94 : decode cX5_cover 94 = .ok (.iload 4, 2) := by decide +kernel
theorem dX5_cover_96 : decode cX5_cover 96 = .ok (.ifCond .eq 7, 3) := by decide +kernel
theorem dX5_cover_99 : decode cX5_cover 99 = .ok (.iconst 0, 1) := by decide +kernel
theorem dX5_cover_100 : decode cX5_cover 100 = .ok (.goto 4, 3) := by decide +kernel
theorem dX5_cover_103 : decode cX5_cover 103 = .ok (.iconst 1, 1) := by decide +kernel
theorem dX5_cover_104 : decode cX5_cover 104 = .ok (.iastore, 1) := by decide +kernel
theorem dX5_cover_105 : decode cX5_cover 105 = .ok (.aload_n 0, 1) := by decide +kernel
theorem dX5_cover_106 : decode cX5_cover 106 = .ok (.iload 4, 2) := by decide +kernel
theorem dX5_cover_108 : decode cX5_cover 108 = .ok (.ifCond .eq 10, 3) := by decide +kernel
theorem dX5_cover_111 : decode cX5_cover 111 = .ok (.aload_n 0, 1) := by decide +kernel
theorem dX5_cover_112 : decode cX5_cover 112 = .ok (.getfield 94, 3) := by decide +kernel
theorem dX5_cover_115 : decode cX5_cover 115 = .ok (.goto 4, 3) := by decide +kernel
theorem dX5_cover_118 : decode cX5_cover 118 = .ok (.iload_n 3, 1) := by decide +kernel
theorem dX5_cover_119 : decode cX5_cover 119 = .ok (.putfield 94, 3) := by decide +kernel
theorem dX5_cover_122 : decode cX5_cover 122 = .ok (.iload_n 1, 1) := by decide +kernel
theorem dX5_cover_123 : decode cX5_cover 123 = .ok (.iload 4, 2) := by decide +kernel
theorem dX5_cover_125 : decode cX5_cover 125 = .ok (.ifCond .eq 7, 3) := by decide +kernel
theorem dX5_cover_128 : decode cX5_cover 128 = .ok (.iconst 0, 1) := by decide +kernel
theorem dX5_cover_129 : decode cX5_cover 129 = .ok (.goto 4, 3) := by decide +kernel
theorem dX5_cover_132 : decode cX5_cover 132 = .ok (.iconst 1, 1) := by decide +kernel
theorem dX5_cover_133 : decode cX5_cover 133 = .ok (.iadd, 1) := by decide +kernel
theorem dX5_cover_134 : decode cX5_cover 134 = .ok (.istore_n 1, 1) := by decide +kernel
theorem dX5_cover_135 : decode cX5_cover 135 = .ok (.aload_n 0, 1) := by decide +kernel
theorem dX5_cover_136 : decode cX5_cover 136 = .ok (.iload_n 2, 1) := by decide +kernel
theorem dX5_cover_137 : decode cX5_cover 137 = .ok (.iconst 0, 1) := by decide +kernel
theorem dX5_cover_138 : decode cX5_cover 138 = .ok (.invokevirtual 112, 3) := by decide +kernel
theorem dX5_cover_141 : decode cX5_cover 141 = .ok (.istore_n 2, 1) := by decide +kernel
theorem dX5_cover_142 : decode cX5_cover 142 = .ok (.goto (-92), 3) := by decide +kernel
theorem dX5_cover_145 : decode cX5_cover 145 = .ok (.iload_n 1, 1) := by decide +kernel
theorem dX5_cover_146 : decode cX5_cover 146 = .ok (.ireturn, 1) := by decide +kernel
theorem dX5_isArrival_0 : decode cX5_isArrival 0 = .ok (.iload_n 1, 1) := by decide +kernel
theorem dX5_isArrival_1 : decode cX5_isArrival 1 = .ok (.iconst 0, 1) := by decide +kernel
theorem dX5_isArrival_2 : decode cX5_isArrival 2 = .ok (.aload_n 0, 1) := by decide +kernel
theorem dX5_isArrival_3 : decode cX5_isArrival 3 = .ok (.getfield 91, 3) := by decide +kernel
theorem dX5_isArrival_6 : decode cX5_isArrival 6 = .ok (.iconst 1, 1) := by decide +kernel
theorem dX5_isArrival_7 : decode cX5_isArrival 7 = .ok (.isub, 1) := by decide +kernel
theorem dX5_isArrival_8 : decode cX5_isArrival 8 = .ok (.invokestatic 87, 3) := by decide +kernel
theorem dX5_isArrival_11 : decode cX5_isArrival 11 = .ok (.ireturn, 1) := by decide +kernel
theorem dX5_arrival_0 : decode cX5_arrival 0 = .ok (.aload_n 0, 1) := by decide +kernel
theorem dX5_arrival_1 : decode cX5_arrival 1 = .ok (.iload_n 1, 1) := by decide +kernel
theorem dX5_arrival_2 : decode cX5_arrival 2 = .ok (.iconst 0, 1) := by decide +kernel
theorem dX5_arrival_3 : decode cX5_arrival 3 = .ok (.bipush 99, 2) := by decide +kernel
theorem dX5_arrival_5 : decode cX5_arrival 5 = .ok (.invokestatic 87, 3) := by decide +kernel
theorem dX5_arrival_8 : decode cX5_arrival 8 = .ok (.ifCond .eq 20, 3) := by decide +kernel
theorem dX5_arrival_11 : decode cX5_arrival 11 = .ok (.iload_n 2, 1) := by decide +kernel
theorem dX5_arrival_12 : decode cX5_arrival 12 = .ok (.invokestatic 128, 3) := by decide +kernel
theorem dX5_arrival_15 : decode cX5_arrival 15 = .ok (.ifCond .eq 13, 3) := by decide +kernel
theorem dX5_arrival_18 : decode cX5_arrival 18 = .ok (.iload_n 3, 1) := by decide +kernel
theorem dX5_arrival_19 : decode cX5_arrival 19 = .ok (.iconst 0, 1) := by decide +kernel
theorem dX5_arrival_20 : decode cX5_arrival 20 = .ok (.ldc 131, 2) := by decide +kernel
theorem dX5_arrival_22 : decode cX5_arrival 22 = .ok (.invokestatic 87, 3) := by decide +kernel
theorem dX5_arrival_25 : decode cX5_arrival 25 = .ok (.ifCond .ne 7, 3) := by decide +kernel
theorem dX5_arrival_28 : decode cX5_arrival 28 = .ok (.iconst 1, 1) := by decide +kernel
theorem dX5_arrival_29 : decode cX5_arrival 29 = .ok (.goto 29, 3) := by decide +kernel
theorem dX5_arrival_32 : decode cX5_arrival 32 = .ok (.aload_n 0, 1) := by decide +kernel
theorem dX5_arrival_33 : decode cX5_arrival 33 = .ok (.iload_n 2, 1) := by decide +kernel
theorem dX5_arrival_34 : decode cX5_arrival 34 = .ok (.invokevirtual 101, 3) := by decide +kernel
theorem dX5_arrival_37 : decode cX5_arrival 37 = .ok (.ifCond .eq 7, 3) := by decide +kernel
theorem dX5_arrival_40 : decode cX5_arrival 40 = .ok (.iconst 2, 1) := by decide +kernel
theorem dX5_arrival_41 : decode cX5_arrival 41 = .ok (.goto 17, 3) := by decide +kernel
theorem dX5_arrival_44 : decode cX5_arrival 44 = .ok (.aload_n 0, 1) := by decide +kernel
theorem dX5_arrival_45 : decode cX5_arrival 45 = .ok (.getfield 91, 3) := by decide +kernel
theorem dX5_arrival_48 : decode cX5_arrival 48 = .ok (.bipush 10, 2) := by decide +kernel
theorem dX5_arrival_50 : decode cX5_arrival 50 = .ok (.if_icmp .ne 7, 3) := by decide +kernel
theorem dX5_arrival_53 : decode cX5_arrival 53 = .ok (.iconst 3, 1) := by decide +kernel
theorem dX5_arrival_54 : decode cX5_arrival 54 = .ok (.goto 4, 3) := by decide +kernel
theorem dX5_arrival_57 : decode cX5_arrival 57 = .ok (.iconst 0, 1) := by decide +kernel
theorem dX5_arrival_58 : decode cX5_arrival 58 = .ok (.putfield 83, 3) := by decide +kernel
theorem dX5_arrival_61 : decode cX5_arrival 61 = .ok (.aload_n 0, 1) := by decide +kernel
theorem dX5_arrival_62 : decode cX5_arrival 62 = .ok (.getfield 83, 3) := by decide +kernel
theorem dX5_arrival_65 : decode cX5_arrival 65 = .ok (.ifCond .le 5, 3) := by decide +kernel
theorem dX5_arrival_68 : decode cX5_arrival 68 = .ok (.iconst 0, 1) := by decide +kernel
theorem dX5_arrival_69 : decode cX5_arrival 69 = .ok (.ireturn, 1) := by decide +kernel
theorem dX5_arrival_70 : decode cX5_arrival 70 = .ok (.aload_n 0, 1) := by decide +kernel
theorem dX5_arrival_71 : decode cX5_arrival 71 = .ok (.getfield 25, 3) := by decide +kernel
theorem dX5_arrival_74 : decode cX5_arrival 74 = .ok (.aload_n 0, 1) := by decide +kernel
theorem dX5_arrival_75 : decode cX5_arrival 75 = .ok (.getfield 91, 3) := by decide +kernel
theorem dX5_arrival_78 : decode cX5_arrival 78 = .ok (.iload_n 1, 1) := by decide +kernel
theorem dX5_arrival_79 : decode cX5_arrival 79 = .ok (.iastore, 1) := by decide +kernel
theorem dX5_arrival_80 : decode cX5_arrival 80 = .ok (.aload_n 0, 1) := by decide +kernel
theorem dX5_arrival_81 : decode cX5_arrival 81 = .ok (.getfield 28, 3) := by decide +kernel
theorem dX5_arrival_84 : decode cX5_arrival 84 = .ok (.aload_n 0, 1) := by decide +kernel
theorem dX5_arrival_85 : decode cX5_arrival 85 = .ok (.getfield 91, 3) := by decide +kernel
theorem dX5_arrival_88 : decode cX5_arrival 88 = .ok (.iload_n 2, 1) := by decide +kernel
theorem dX5_arrival_89 : decode cX5_arrival 89 = .ok (.iastore, 1) := by decide +kernel
theorem dX5_arrival_90 : decode cX5_arrival 90 = .ok (.aload_n 0, 1) := by decide +kernel
theorem dX5_arrival_91 : decode cX5_arrival 91 = .ok (.getfield 31, 3) := by decide +kernel
theorem dX5_arrival_94 : decode cX5_arrival 94 = .ok (.aload_n 0, 1) := by decide +kernel
theorem dX5_arrival_95 : decode cX5_arrival 95 = .ok (.getfield 91, 3) := by decide +kernel
theorem dX5_arrival_98 : decode cX5_arrival 98 = .ok (.iload_n 3, 1) := by decide +kernel
theorem dX5_arrival_99 : decode cX5_arrival 99 = .ok (.iastore, 1) := by decide +kernel
theorem dX5_arrival_100 : decode cX5_arrival 100 = .ok (.aload_n 0, 1) := by decide +kernel
theorem dX5_arrival_101 : decode cX5_arrival 101 = .ok (.getfield 34, 3) := by decide +kernel
theorem dX5_arrival_104 : decode cX5_arrival 104 = .ok (.aload_n 0, 1) := by decide +kernel
theorem dX5_arrival_105 : decode cX5_arrival 105 = .ok (.getfield 91, 3) := by decide +kernel
theorem dX5_arrival_108 : decode cX5_arrival 108 = .ok (.iconst 0, 1) := by decide +kernel
theorem dX5_arrival_109 : decode cX5_arrival 109 = .ok (.iastore, 1) := by decide +kernel
theorem dX5_arrival_110 : decode cX5_arrival 110 = .ok (.aload_n 0, 1) := by decide +kernel
theorem dX5_arrival_111 : decode cX5_arrival 111 = .ok (.dup, 1) := by decide +kernel
theorem dX5_arrival_112 : decode cX5_arrival 112 = .ok (.getfield 91, 3) := by decide +kernel
theorem dX5_arrival_115 : decode cX5_arrival 115 = .ok (.iconst 1, 1) := by decide +kernel
theorem dX5_arrival_116 : decode cX5_arrival 116 = .ok (.iadd, 1) := by decide +kernel
theorem dX5_arrival_117 : decode cX5_arrival 117 = .ok (.putfield 91, 3) := by decide +kernel
theorem dX5_arrival_120 : decode cX5_arrival 120 = .ok (.aload_n 0, 1) := by decide +kernel
theorem dX5_arrival_121 : decode cX5_arrival 121 = .ok (.invokevirtual 132, 3) := by decide +kernel
theorem dX5_arrival_124 : decode cX5_arrival 124 = .ok (.pop, 1) := by decide +kernel
theorem dX5_arrival_125 : decode cX5_arrival 125 = .ok (.aload_n 0, 1) := by decide +kernel
theorem dX5_arrival_126 : decode cX5_arrival 126 = .ok (.getfield 91, 3) := by decide +kernel
theorem dX5_arrival_129 : decode cX5_arrival 129 = .ok (.iconst 1, 1) := by decide +kernel
theorem dX5_arrival_130 : decode cX5_arrival 130 = .ok (.isub, 1) := by decide +kernel
theorem dX5_arrival_131 : decode cX5_arrival 131 = .ok (.ireturn, 1) := by decide +kernel
theorem dX5_change_0 : decode cX5_change 0 = .ok (.aload_n 0, 1) := by decide +kernel
theorem dX5_change_1 : decode cX5_change 1 = .ok (.aload_n 0, 1) := by decide +kernel
theorem dX5_change_2 : decode cX5_change 2 = .ok (.iload_n 1, 1) := by decide +kernel
theorem dX5_change_3 : decode cX5_change 3 = .ok (.invokevirtual 136, 3) := by decide +kernel
theorem dX5_change_6 : decode cX5_change 6 = .ok (.ifCond .ne 7, 3) := by decide +kernel
theorem dX5_change_9 : decode cX5_change 9 = .ok (.iconst 1, 1) := by decide +kernel
theorem dX5_change_10 : decode cX5_change 10 = .ok (.goto 42, 3) := by decide +kernel
theorem dX5_change_13 : decode cX5_change 13 = .ok (.iload_n 2, 1) := by decide +kernel
theorem dX5_change_14 : decode cX5_change 14 = .ok (.iconst 0, 1) := by decide +kernel
theorem dX5_change_15 : decode cX5_change 15 = .ok (.bipush 99, 2) := by decide +kernel
theorem dX5_change_17 : decode cX5_change 17 = .ok (.invokestatic 87, 3) := by decide +kernel
theorem dX5_change_20 : decode cX5_change 20 = .ok (.ifCond .eq 13, 3) := by decide +kernel
theorem dX5_change_23 : decode cX5_change 23 = .ok (.iload_n 3, 1) := by decide +kernel
theorem dX5_change_24 : decode cX5_change 24 = .ok (.iconst 0, 1) := by decide +kernel
theorem dX5_change_25 : decode cX5_change 25 = .ok (.ldc 131, 2) := by decide +kernel
theorem dX5_change_27 : decode cX5_change 27 = .ok (.invokestatic 87, 3) := by decide +kernel
theorem dX5_change_30 : decode cX5_change 30 = .ok (.ifCond .ne 7, 3) := by decide +kernel
theorem dX5_change_33 : decode cX5_change 33 = .ok (.iconst 2, 1) := by decide +kernel
theorem dX5_change_34 : decode cX5_change 34 = .ok (.goto 18, 3) := by decide +kernel
theorem dX5_change_37 : decode cX5_change 37 = .ok (.iload_n 3, 1) := by decide +kernel
theorem dX5_change_38 : decode cX5_change 38 = .ok (.aload_n 0, 1) := by decide +kernel
theorem dX5_change_39 : decode cX5_change 39 = .ok (.getfield 34, 3) := by decide +kernel
theorem dX5_change_42 : decode cX5_change 42 = .ok (.iload_n 1, 1) := by decide +kernel
theorem dX5_change_43 : decode cX5_change 43 = .ok (.iaload, 1) := by decide +kernel
theorem dX5_change_44 : decode cX5_change 44 = .ok (.if_icmp .ge 7, 3) := by decide +kernel
theorem dX5_change_47 : decode cX5_change 47 = .ok (.iconst 3, 1) := by decide +kernel
theorem dX5_change_48 : decode cX5_change 48 = .ok (.goto 4, 3) := by decide +kernel
theorem dX5_change_51 : decode cX5_change 51 = .ok (.iconst 0, 1) := by decide +kernel
theorem dX5_change_52 : decode cX5_change 52 = .ok (.putfield 83, 3) := by decide +kernel
theorem dX5_change_55 : decode cX5_change 55 = .ok (.aload_n 0, 1) := by decide +kernel
theorem dX5_change_56 : decode cX5_change 56 = .ok (.getfield 83, 3) := by decide +kernel
theorem dX5_change_59 : decode cX5_change 59 = .ok (.ifCond .le 5, 3) := by decide +kernel
theorem dX5_change_62 : decode cX5_change 62 = .ok (.iconst 0, 1) := by decide +kernel
theorem dX5_change_63 : decode cX5_change 63 = .ok (.ireturn, 1) := by decide +kernel
theorem dX5_change_64 : decode cX5_change 64 = .ok (.aload_n 0, 1) := by decide +kernel
theorem dX5_change_65 : decode cX5_change 65 = .ok (.getfield 25, 3) := by decide +kernel
theorem dX5_change_68 : decode cX5_change 68 = .ok (.iload_n 1, 1) := by decide +kernel
theorem dX5_change_69 : decode cX5_change 69 = .ok (.iload_n 2, 1) := by decide +kernel
theorem dX5_change_70 : decode cX5_change 70 = .ok (.iastore, 1) := by decide +kernel
theorem dX5_change_71 : decode cX5_change 71 = .ok (.aload_n 0, 1) := by decide +kernel
theorem dX5_change_72 : decode cX5_change 72 = .ok (.getfield 31, 3) := by decide +kernel
theorem dX5_change_75 : decode cX5_change 75 = .ok (.iload_n 1, 1) := by decide +kernel
theorem dX5_change_76 : decode cX5_change 76 = .ok (.iload_n 3, 1) := by decide +kernel
theorem dX5_change_77 : decode cX5_change 77 = .ok (.iastore, 1) := by decide +kernel
theorem dX5_change_78 : decode cX5_change 78 = .ok (.aload_n 0, 1) := by decide +kernel
theorem dX5_change_79 : decode cX5_change 79 = .ok (.invokevirtual 132, 3) := by decide +kernel
theorem dX5_change_82 : decode cX5_change 82 = .ok (.ireturn, 1) := by decide +kernel
theorem dX5_aside_0 : decode cX5_aside 0 = .ok (.aload_n 0, 1) := by decide +kernel
theorem dX5_aside_1 : decode cX5_aside 1 = .ok (.aload_n 0, 1) := by decide +kernel
theorem dX5_aside_2 : decode cX5_aside 2 = .ok (.iload_n 1, 1) := by decide +kernel
theorem dX5_aside_3 : decode cX5_aside 3 = .ok (.invokevirtual 136, 3) := by decide +kernel
theorem dX5_aside_6 : decode cX5_aside 6 = .ok (.ifCond .ne 7, 3) := by decide +kernel
theorem dX5_aside_9 : decode cX5_aside 9 = .ok (.iconst 1, 1) := by decide +kernel
theorem dX5_aside_10 : decode cX5_aside 10 = .ok (.goto 22, 3) := by decide +kernel
theorem dX5_aside_13 : decode cX5_aside 13 = .ok (.iload_n 2, 1) := by decide +kernel
theorem dX5_aside_14 : decode cX5_aside 14 = .ok (.iconst 0, 1) := by decide +kernel
theorem dX5_aside_15 : decode cX5_aside 15 = .ok (.aload_n 0, 1) := by decide +kernel
theorem dX5_aside_16 : decode cX5_aside 16 = .ok (.getfield 31, 3) := by decide +kernel
theorem dX5_aside_19 : decode cX5_aside 19 = .ok (.iload_n 1, 1) := by decide +kernel
theorem dX5_aside_20 : decode cX5_aside 20 = .ok (.iaload, 1) := by decide +kernel
theorem dX5_aside_21 : decode cX5_aside 21 = .ok (.invokestatic 87, 3) := by decide +kernel
theorem dX5_aside_24 : decode cX5_aside 24 = .ok (.ifCond .ne 7, 3) := by decide +kernel
theorem dX5_aside_27 : decode cX5_aside 27 = .ok (.iconst 2, 1) := by decide +kernel
theorem dX5_aside_28 : decode cX5_aside 28 = .ok (.goto 4, 3) := by decide +kernel
theorem dX5_aside_31 : decode cX5_aside 31 = .ok (.iconst 0, 1) := by decide +kernel
theorem dX5_aside_32 : decode cX5_aside 32 = .ok (.putfield 83, 3) := by decide +kernel
theorem dX5_aside_35 : decode cX5_aside 35 = .ok (.aload_n 0, 1) := by decide +kernel
theorem dX5_aside_36 : decode cX5_aside 36 = .ok (.getfield 83, 3) := by decide +kernel
theorem dX5_aside_39 : decode cX5_aside 39 = .ok (.ifCond .le 5, 3) := by decide +kernel
theorem dX5_aside_42 : decode cX5_aside 42 = .ok (.iconst 0, 1) := by decide +kernel
theorem dX5_aside_43 : decode cX5_aside 43 = .ok (.ireturn, 1) := by decide +kernel
theorem dX5_aside_44 : decode cX5_aside 44 = .ok (.aload_n 0, 1) := by decide +kernel
theorem dX5_aside_45 : decode cX5_aside 45 = .ok (.getfield 34, 3) := by decide +kernel
theorem dX5_aside_48 : decode cX5_aside 48 = .ok (.iload_n 1, 1) := by decide +kernel
theorem dX5_aside_49 : decode cX5_aside 49 = .ok (.iload_n 2, 1) := by decide +kernel
theorem dX5_aside_50 : decode cX5_aside 50 = .ok (.iastore, 1) := by decide +kernel
theorem dX5_aside_51 : decode cX5_aside 51 = .ok (.aload_n 0, 1) := by decide +kernel
theorem dX5_aside_52 : decode cX5_aside 52 = .ok (.invokevirtual 132, 3) := by decide +kernel
theorem dX5_aside_55 : decode cX5_aside 55 = .ok (.ireturn, 1) := by decide +kernel
theorem dX5_life_0 : decode cX5_life 0 = .ok (.aload_n 0, 1) := by decide +kernel
theorem dX5_life_1 : decode cX5_life 1 = .ok (.iload_n 1, 1) := by decide +kernel
theorem dX5_life_2 : decode cX5_life 2 = .ok (.invokestatic 128, 3) := by decide +kernel
theorem dX5_life_5 : decode cX5_life 5 = .ok (.ifCond .eq 17, 3) := by decide +kernel
theorem dX5_life_8 : decode cX5_life 8 = .ok (.iload_n 2, 1) := by decide +kernel
theorem dX5_life_9 : decode cX5_life 9 = .ok (.iconst 0, 1) := by decide +kernel
theorem dX5_life_10 : decode cX5_life 10 = .ok (.bipush 100, 2) := by decide +kernel
theorem dX5_life_12 : decode cX5_life 12 = .ok (.invokestatic 87, 3) := by decide +kernel
theorem dX5_life_15 : decode cX5_life 15 = .ok (.ifCond .eq 7, 3) := by decide +kernel
theorem dX5_life_18 : decode cX5_life 18 = .ok (.iconst 0, 1) := by decide +kernel
theorem dX5_life_19 : decode cX5_life 19 = .ok (.goto 4, 3) := by decide +kernel
theorem dX5_life_22 : decode cX5_life 22 = .ok (.iconst 1, 1) := by decide +kernel
theorem dX5_life_23 : decode cX5_life 23 = .ok (.putfield 83, 3) := by decide +kernel
theorem dX5_life_26 : decode cX5_life 26 = .ok (.aload_n 0, 1) := by decide +kernel
theorem dX5_life_27 : decode cX5_life 27 = .ok (.getfield 83, 3) := by decide +kernel
theorem dX5_life_30 : decode cX5_life 30 = .ok (.ifCond .le 5, 3) := by decide +kernel
theorem dX5_life_33 : decode cX5_life 33 = .ok (.iconst 0, 1) := by decide +kernel
theorem dX5_life_34 : decode cX5_life 34 = .ok (.ireturn, 1) := by decide +kernel
theorem dX5_life_35 : decode cX5_life 35 = .ok (.aload_n 0, 1) := by decide +kernel
theorem dX5_life_36 : decode cX5_life 36 = .ok (.getfield 9, 3) := by decide +kernel
theorem dX5_life_39 : decode cX5_life 39 = .ok (.iload_n 1, 1) := by decide +kernel
theorem dX5_life_40 : decode cX5_life 40 = .ok (.iload_n 2, 1) := by decide +kernel
theorem dX5_life_41 : decode cX5_life 41 = .ok (.iastore, 1) := by decide +kernel
theorem dX5_life_42 : decode cX5_life 42 = .ok (.aload_n 0, 1) := by decide +kernel
theorem dX5_life_43 : decode cX5_life 43 = .ok (.invokevirtual 132, 3) := by decide +kernel
theorem dX5_life_46 : decode cX5_life 46 = .ok (.ireturn, 1) := by decide +kernel
theorem dX5_standIn_0 : decode cX5_standIn 0 = .ok (.aload_n 0, 1) := by decide +kernel
theorem dX5_standIn_1 : decode cX5_standIn 1 = .ok (.iload_n 1, 1) := by decide +kernel
theorem dX5_standIn_2 : decode cX5_standIn 2 = .ok (.invokestatic 128, 3) := by decide +kernel
theorem dX5_standIn_5 : decode cX5_standIn 5 = .ok (.ifCond .eq 15, 3) := by decide +kernel
theorem dX5_standIn_8 : decode cX5_standIn 8 = .ok (.iload_n 2, 1) := by decide +kernel
theorem dX5_standIn_9 : decode cX5_standIn 9 = .ok (.invokestatic 128, 3) := by decide +kernel
theorem dX5_standIn_12 : decode cX5_standIn 12 = .ok (.ifCond .eq 8, 3) := by decide +kernel
theorem dX5_standIn_15 : decode cX5_standIn 15 = .ok (.iload_n 1, 1) := by decide +kernel
theorem dX5_standIn_16 : decode cX5_standIn 16 = .ok (.iload_n 2, 1) := by decide +kernel
theorem dX5_standIn_17 : decode cX5_standIn 17 = .ok (.if_icmp .ne 7, 3) := by decide +kernel
theorem dX5_standIn_20 : decode cX5_standIn 20 = .ok (.iconst 1, 1) := by decide +kernel
theorem dX5_standIn_21 : decode cX5_standIn 21 = .ok (.goto 46, 3) := by decide +kernel
theorem dX5_standIn_24 : decode cX5_standIn 24 = .ok (.aload_n 0, 1) := by decide +kernel
theorem dX5_standIn_25 : decode cX5_standIn 25 = .ok (.iload_n 1, 1) := by decide +kernel
theorem dX5_standIn_26 : decode cX5_standIn 26 = .ok (.invokevirtual 101, 3) := by decide +kernel
theorem dX5_standIn_29 : decode cX5_standIn 29 = .ok (.ifCond .ne 33, 3) := by decide +kernel
theorem dX5_standIn_32 : decode cX5_standIn 32 = .ok (.aload_n 0, 1) := by decide +kernel
theorem dX5_standIn_33 : decode cX5_standIn 33 = .ok (.iload_n 2, 1) := by decide +kernel
theorem dX5_standIn_34 : decode cX5_standIn 34 = .ok (.invokevirtual 101, 3) := by decide +kernel
theorem dX5_standIn_37 : decode cX5_standIn 37 = .ok (.ifCond .ne 25, 3) := by decide +kernel
theorem dX5_standIn_40 : decode cX5_standIn 40 = .ok (.aload_n 0, 1) := by decide +kernel
theorem dX5_standIn_41 : decode cX5_standIn 41 = .ok (.getfield 13, 3) := by decide +kernel
theorem dX5_standIn_44 : decode cX5_standIn 44 = .ok (.iload_n 2, 1) := by decide +kernel
theorem dX5_standIn_45 : decode cX5_standIn 45 = .ok (.iaload, 1) := by decide +kernel
theorem dX5_standIn_46 : decode cX5_standIn 46 = .ok (.iload_n 1, 1) := by decide +kernel
theorem dX5_standIn_47 : decode cX5_standIn 47 = .ok (.ishr, 1) := by decide +kernel
theorem dX5_standIn_48 : decode cX5_standIn 48 = .ok (.iconst 1, 1) := by decide +kernel
theorem dX5_standIn_49 : decode cX5_standIn 49 = .ok (.iand, 1) := by decide +kernel
theorem dX5_standIn_50 : decode cX5_standIn 50 = .ok (.iload_n 3, 1) := by decide +kernel
theorem dX5_standIn_51 : decode cX5_standIn 51 = .ok (.ifCond .eq 7, 3) := by decide +kernel
theorem dX5_standIn_54 : decode cX5_standIn 54 = .ok (.iconst 1, 1) := by decide +kernel
theorem dX5_standIn_55 : decode cX5_standIn 55 = .ok (.goto 4, 3) := by decide +kernel
theorem dX5_standIn_58 : decode cX5_standIn 58 = .ok (.iconst 0, 1) := by decide +kernel
theorem dX5_standIn_59 : decode cX5_standIn 59 = .ok (.if_icmp .ne 7, 3) := by decide +kernel
theorem dX5_standIn_62 : decode cX5_standIn 62 = .ok (.iconst 2, 1) := by decide +kernel
theorem dX5_standIn_63 : decode cX5_standIn 63 = .ok (.goto 4, 3) := by decide +kernel
theorem dX5_standIn_66 : decode cX5_standIn 66 = .ok (.iconst 0, 1) := by decide +kernel
theorem dX5_standIn_67 : decode cX5_standIn 67 = .ok (.putfield 83, 3) := by decide +kernel
theorem dX5_standIn_70 : decode cX5_standIn 70 = .ok (.aload_n 0, 1) := by decide +kernel
theorem dX5_standIn_71 : decode cX5_standIn 71 = .ok (.getfield 83, 3) := by decide +kernel
theorem dX5_standIn_74 : decode cX5_standIn 74 = .ok (.ifCond .le 5, 3) := by decide +kernel
theorem dX5_standIn_77 : decode cX5_standIn 77 = .ok (.iconst 0, 1) := by decide +kernel
theorem dX5_standIn_78 : decode cX5_standIn 78 = .ok (.ireturn, 1) := by decide +kernel
theorem dX5_standIn_79 : decode cX5_standIn 79 = .ok (.aload_n 0, 1) := by decide +kernel
theorem dX5_standIn_80 : decode cX5_standIn 80 = .ok (.getfield 13, 3) := by decide +kernel
theorem dX5_standIn_83 : decode cX5_standIn 83 = .ok (.iload_n 2, 1) := by decide +kernel
theorem dX5_standIn_84 : decode cX5_standIn 84 = .ok (.iload_n 3, 1) := by decide +kernel
theorem dX5_standIn_85 : decode cX5_standIn 85 = .ok (.ifCond .eq 16, 3) := by decide +kernel
theorem dX5_standIn_88 : decode cX5_standIn 88 = .ok (.aload_n 0, 1) := by decide +kernel
theorem dX5_standIn_89 : decode cX5_standIn 89 = .ok (.getfield 13, 3) := by decide +kernel
theorem dX5_standIn_92 : decode cX5_standIn 92 = .ok (.iload_n 2, 1) := by decide +kernel
theorem dX5_standIn_93 : decode cX5_standIn 93 = .ok (.iaload, 1) := by decide +kernel
theorem dX5_standIn_94 : decode cX5_standIn 94 = .ok (.iconst 1, 1) := by decide +kernel
theorem dX5_standIn_95 : decode cX5_standIn 95 = .ok (.iload_n 1, 1) := by decide +kernel
theorem dX5_standIn_96 : decode cX5_standIn 96 = .ok (.ishl, 1) := by decide +kernel
theorem dX5_standIn_97 : decode cX5_standIn 97 = .ok (.ior, 1) := by decide +kernel
theorem dX5_standIn_98 : decode cX5_standIn 98 = .ok (.goto 15, 3) := by decide +kernel
theorem dX5_standIn_101 : decode cX5_standIn 101 = .ok (.aload_n 0, 1) := by decide +kernel
theorem dX5_standIn_102 : decode cX5_standIn 102 = .ok (.getfield 13, 3) := by decide +kernel
theorem dX5_standIn_105 : decode cX5_standIn 105 = .ok (.iload_n 2, 1) := by decide +kernel
theorem dX5_standIn_106 : decode cX5_standIn 106 = .ok (.iaload, 1) := by decide +kernel
theorem dX5_standIn_107 : decode cX5_standIn 107 = .ok (.iconst 1, 1) := by decide +kernel
theorem dX5_standIn_108 : decode cX5_standIn 108 = .ok (.iload_n 1, 1) := by decide +kernel
theorem dX5_standIn_109 : decode cX5_standIn 109 = .ok (.ishl, 1) := by decide +kernel
theorem dX5_standIn_110 : decode cX5_standIn 110 = .ok (.iconst (-1), 1) := by decide +kernel
theorem dX5_standIn_111 : decode cX5_standIn 111 = .ok (.ixor, 1) := by decide +kernel
theorem dX5_standIn_112 : decode cX5_standIn 112 = .ok (.iand, 1) := by decide +kernel
theorem dX5_standIn_113 : decode cX5_standIn 113 = .ok (.iastore, 1) := by decide +kernel
theorem dX5_standIn_114 : decode cX5_standIn 114 = .ok (.aload_n 0, 1) := by decide +kernel
theorem dX5_standIn_115 : decode cX5_standIn 115 = .ok (.invokevirtual 132, 3) := by decide +kernel
theorem dX5_standIn_118 : decode cX5_standIn 118 = .ok (.ireturn, 1) := by decide +kernel
theorem dX5_isUsed_0 : decode cX5_isUsed 0 = .ok (.aload_n 0, 1) := by decide +kernel
theorem dX5_isUsed_1 : decode cX5_isUsed 1 = .ok (.getfield 13, 3) := by decide +kernel
theorem dX5_isUsed_4 : decode cX5_isUsed 4 = .ok (.iload_n 1, 1) := by decide +kernel
theorem dX5_isUsed_5 : decode cX5_isUsed 5 = .ok (.iaload, 1) := by decide +kernel
theorem dX5_isUsed_6 : decode cX5_isUsed 6 = .ok (.ifCond .eq 7, 3) := by decide +kernel
theorem dX5_isUsed_9 : decode cX5_isUsed 9 = .ok (.iconst 1, 1) := by decide +kernel
theorem dX5_isUsed_10 : decode cX5_isUsed 10 = .ok (.goto 4, 3) := by decide +kernel
theorem dX5_isUsed_13 : decode cX5_isUsed 13 = .ok (.iconst 0, 1) := by decide +kernel
theorem dX5_isUsed_14 : decode cX5_isUsed 14 = .ok (.istore_n 2, 1) := by decide +kernel
theorem dX5_isUsed_15 : decode cX5_isUsed 15 = .ok (.iconst 0, 1) := by decide +kernel
theorem dX5_isUsed_16 : decode cX5_isUsed 16 = .ok (.istore_n 3, 1) := by decide +kernel
theorem dX5_isUsed_17 : decode cX5_isUsed 17 = .ok (.iload_n 3, 1) := by decide +kernel
theorem dX5_isUsed_18 : decode cX5_isUsed 18 = .ok (.bipush 6, 2) := by decide +kernel
theorem dX5_isUsed_20 : decode cX5_isUsed 20 = .ok (.if_icmp .ge 33, 3) := by decide +kernel
theorem dX5_isUsed_23 : decode cX5_isUsed 23 = .ok (.iload_n 2, 1) := by decide +kernel
theorem dX5_isUsed_24 : decode cX5_isUsed 24 = .ok (.ifCond .ne 17, 3) := by decide +kernel
theorem dX5_isUsed_27 : decode cX5_isUsed 27 = .ok (.aload_n 0, 1) := by decide +kernel
theorem dX5_isUsed_28 : decode cX5_isUsed 28 = .ok (.getfield 13, 3) := by decide +kernel
theorem dX5_isUsed_31 : decode cX5_isUsed 31 = .ok (.iload_n 3, 1) := by decide +kernel
theorem dX5_isUsed_32 : decode cX5_isUsed 32 = .ok (.iaload, 1) := by decide +kernel
theorem dX5_isUsed_33 : decode cX5_isUsed 33 = .ok (.iload_n 1, 1) := by decide +kernel
theorem dX5_isUsed_34 : decode cX5_isUsed 34 = .ok (.ishr, 1) := by decide +kernel
theorem dX5_isUsed_35 : decode cX5_isUsed 35 = .ok (.iconst 1, 1) := by decide +kernel
theorem dX5_isUsed_36 : decode cX5_isUsed 36 = .ok (.iand, 1) := by decide +kernel
theorem dX5_isUsed_37 : decode cX5_isUsed 37 = .ok (.iconst 1, 1) := by decide +kernel
theorem dX5_isUsed_38 : decode cX5_isUsed 38 = .ok (.if_icmp .ne 7, 3) := by decide +kernel
theorem dX5_isUsed_41 : decode cX5_isUsed 41 = .ok (.iconst 1, 1) := by decide +kernel
theorem dX5_isUsed_42 : decode cX5_isUsed 42 = .ok (.goto 4, 3) := by decide +kernel
theorem dX5_isUsed_45 : decode cX5_isUsed 45 = .ok (.iconst 0, 1) := by decide +kernel
theorem dX5_isUsed_46 : decode cX5_isUsed 46 = .ok (.istore_n 2, 1) := by decide +kernel
theorem dX5_isUsed_47 : decode cX5_isUsed 47 = .ok (.iinc 3 1, 3) := by decide +kernel
theorem dX5_isUsed_50 : decode cX5_isUsed 50 = .ok (.goto (-33), 3) := by decide +kernel
theorem dX5_isUsed_53 : decode cX5_isUsed 53 = .ok (.iconst 0, 1) := by decide +kernel
theorem dX5_isUsed_54 : decode cX5_isUsed 54 = .ok (.istore_n 3, 1) := by decide +kernel
theorem dX5_isUsed_55 : decode cX5_isUsed 55 = .ok (.iload_n 3, 1) := by decide +kernel
theorem dX5_isUsed_56 : decode cX5_isUsed 56 = .ok (.aload_n 0, 1) := by decide +kernel
theorem dX5_isUsed_57 : decode cX5_isUsed 57 = .ok (.getfield 91, 3) := by decide +kernel
theorem dX5_isUsed_60 : decode cX5_isUsed 60 = .ok (.if_icmp .ge 29, 3) := by decide +kernel
theorem dX5_isUsed_63 : decode cX5_isUsed 63 = .ok (.iload_n 2, 1) := by decide +kernel
theorem dX5_isUsed_64 : decode cX5_isUsed 64 = .ok (.ifCond .ne 13, 3) := by decide +kernel
theorem dX5_isUsed_67 : decode cX5_isUsed 67 = .ok (.aload_n 0, 1) := by decide +kernel
theorem dX5_isUsed_68 : decode cX5_isUsed 68 = .ok (.getfield 28, 3) := by decide +kernel
theorem dX5_isUsed_71 : decode cX5_isUsed 71 = .ok (.iload_n 3, 1) := by decide +kernel
theorem dX5_isUsed_72 : decode cX5_isUsed 72 = .ok (.iaload, 1) := by decide +kernel
theorem dX5_isUsed_73 : decode cX5_isUsed 73 = .ok (.iload_n 1, 1) := by decide +kernel
theorem dX5_isUsed_74 : decode cX5_isUsed 74 = .ok (.if_icmp .ne 7, 3) := by decide +kernel
theorem dX5_isUsed_77 : decode cX5_isUsed 77 = .ok (.iconst 1, 1) := by decide +kernel
theorem dX5_isUsed_78 : decode cX5_isUsed 78 = .ok (.goto 4, 3) := by decide +kernel
theorem dX5_isUsed_81 : decode cX5_isUsed 81 = .ok (.iconst 0, 1) := by decide +kernel
theorem dX5_isUsed_82 : decode cX5_isUsed 82 = .ok (.istore_n 2, 1) := by decide +kernel
theorem dX5_isUsed_83 : decode cX5_isUsed 83 = .ok (.iinc 3 1, 3) := by decide +kernel
theorem dX5_isUsed_86 : decode cX5_isUsed 86 = .ok (.goto (-31), 3) := by decide +kernel
theorem dX5_isUsed_89 : decode cX5_isUsed 89 = .ok (.iconst 0, 1) := by decide +kernel
theorem dX5_isUsed_90 : decode cX5_isUsed 90 = .ok (.istore_n 3, 1) := by decide +kernel
theorem dX5_isUsed_91 : decode cX5_isUsed 91 = .ok (.iload_n 3, 1) := by decide +kernel
theorem dX5_isUsed_92 : decode cX5_isUsed 92 = .ok (.aload_n 0, 1) := by decide +kernel
theorem dX5_isUsed_93 : decode cX5_isUsed 93 = .ok (.getfield 109, 3) := by decide +kernel
theorem dX5_isUsed_96 : decode cX5_isUsed 96 = .ok (.if_icmp .ge 29, 3) := by decide +kernel
theorem dX5_isUsed_99 : decode cX5_isUsed 99 = .ok (.iload_n 2, 1) := by decide +kernel
theorem dX5_isUsed_100 : decode cX5_isUsed 100 = .ok (.ifCond .ne 13, 3) := by decide +kernel
theorem dX5_isUsed_103 : decode cX5_isUsed 103 = .ok (.aload_n 0, 1) := by decide +kernel
theorem dX5_isUsed_104 : decode cX5_isUsed 104 = .ok (.getfield 40, 3) := by decide +kernel
theorem dX5_isUsed_107 : decode cX5_isUsed 107 = .ok (.iload_n 3, 1) := by decide +kernel
theorem dX5_isUsed_108 : decode cX5_isUsed 108 = .ok (.iaload, 1) := by decide +kernel
theorem dX5_isUsed_109 : decode cX5_isUsed 109 = .ok (.iload_n 1, 1) := by decide +kernel
theorem dX5_isUsed_110 : decode cX5_isUsed 110 = .ok (.if_icmp .ne 7, 3) := by decide +kernel
theorem dX5_isUsed_113 : decode cX5_isUsed 113 = .ok (.iconst 1, 1) := by decide +kernel
theorem dX5_isUsed_114 : decode cX5_isUsed 114 = .ok (.goto 4, 3) := by decide +kernel
theorem dX5_isUsed_117 : decode cX5_isUsed 117 = .ok (.iconst 0, 1) := by decide +kernel
theorem dX5_isUsed_118 : decode cX5_isUsed 118 = .ok (.istore_n 2, 1) := by decide +kernel
theorem dX5_isUsed_119 : decode cX5_isUsed 119 = .ok (.iinc 3 1, 3) := by decide +kernel
theorem dX5_isUsed_122 : decode cX5_isUsed 122 = .ok (.goto (-31), 3) := by decide +kernel
theorem dX5_isUsed_125 : decode cX5_isUsed 125 = .ok (.iload_n 2, 1) := by decide +kernel
theorem dX5_isUsed_126 : decode cX5_isUsed 126 = .ok (.ireturn, 1) := by decide +kernel
theorem dX5_kit_0 : decode cX5_kit 0 = .ok (.aload_n 0, 1) := by decide +kernel
theorem dX5_kit_1 : decode cX5_kit 1 = .ok (.iload_n 1, 1) := by decide +kernel
theorem dX5_kit_2 : decode cX5_kit 2 = .ok (.invokestatic 128, 3) := by decide +kernel
theorem dX5_kit_5 : decode cX5_kit 5 = .ok (.ifCond .eq 20, 3) := by decide +kernel
theorem dX5_kit_8 : decode cX5_kit 8 = .ok (.iload_n 2, 1) := by decide +kernel
theorem dX5_kit_9 : decode cX5_kit 9 = .ok (.invokestatic 128, 3) := by decide +kernel
theorem dX5_kit_12 : decode cX5_kit 12 = .ok (.ifCond .eq 13, 3) := by decide +kernel
theorem dX5_kit_15 : decode cX5_kit 15 = .ok (.iload_n 3, 1) := by decide +kernel
theorem dX5_kit_16 : decode cX5_kit 16 = .ok (.iconst 1, 1) := by decide +kernel
theorem dX5_kit_17 : decode cX5_kit 17 = .ok (.bipush 100, 2) := by decide +kernel
theorem dX5_kit_19 : decode cX5_kit 19 = .ok (.invokestatic 87, 3) := by decide +kernel
theorem dX5_kit_22 : decode cX5_kit 22 = .ok (.ifCond .ne 7, 3) := by decide +kernel
theorem dX5_kit_25 : decode cX5_kit 25 = .ok (.iconst 1, 1) := by decide +kernel
theorem dX5_kit_26 : decode cX5_kit 26 = .ok (.goto 4, 3) := by decide +kernel
theorem dX5_kit_29 : decode cX5_kit 29 = .ok (.iconst 0, 1) := by decide +kernel
theorem dX5_kit_30 : decode cX5_kit 30 = .ok (.putfield 83, 3) := by decide +kernel
theorem dX5_kit_33 : decode cX5_kit 33 = .ok (.aload_n 0, 1) := by decide +kernel
theorem dX5_kit_34 : decode cX5_kit 34 = .ok (.getfield 83, 3) := by decide +kernel
theorem dX5_kit_37 : decode cX5_kit 37 = .ok (.ifCond .ne 37, 3) := by decide +kernel
theorem dX5_kit_40 : decode cX5_kit 40 = .ok (.aload_n 0, 1) := by decide +kernel
theorem dX5_kit_41 : decode cX5_kit 41 = .ok (.iload_n 2, 1) := by decide +kernel
theorem dX5_kit_42 : decode cX5_kit 42 = .ok (.invokevirtual 101, 3) := by decide +kernel
theorem dX5_kit_45 : decode cX5_kit 45 = .ok (.ifCond .ne 24, 3) := by decide +kernel
theorem dX5_kit_48 : decode cX5_kit 48 = .ok (.iload_n 2, 1) := by decide +kernel
theorem dX5_kit_49 : decode cX5_kit 49 = .ok (.iload_n 1, 1) := by decide +kernel
theorem dX5_kit_50 : decode cX5_kit 50 = .ok (.if_icmp .eq 19, 3) := by decide +kernel
theorem dX5_kit_53 : decode cX5_kit 53 = .ok (.aload_n 0, 1) := by decide +kernel
theorem dX5_kit_54 : decode cX5_kit 54 = .ok (.iload_n 1, 1) := by decide +kernel
theorem dX5_kit_55 : decode cX5_kit 55 = .ok (.invokevirtual 139, 3) := by decide +kernel
theorem dX5_kit_58 : decode cX5_kit 58 = .ok (.ifCond .ne 11, 3) := by decide +kernel
theorem dX5_kit_61 : decode cX5_kit 61 = .ok (.aload_n 0, 1) := by decide +kernel
theorem dX5_kit_62 : decode cX5_kit 62 = .ok (.iload_n 1, 1) := by decide +kernel
theorem dX5_kit_63 : decode cX5_kit 63 = .ok (.invokevirtual 142, 3) := by decide +kernel
theorem dX5_kit_66 : decode cX5_kit 66 = .ok (.ifCond .eq 8, 3) := by decide +kernel
theorem dX5_kit_69 : decode cX5_kit 69 = .ok (.aload_n 0, 1) := by decide +kernel
theorem dX5_kit_70 : decode cX5_kit 70 = .ok (.iconst 2, 1) := by decide +kernel
theorem dX5_kit_71 : decode cX5_kit 71 = .ok (.putfield 83, 3) := by decide +kernel
theorem dX5_kit_74 : decode cX5_kit 74 = .ok (.iconst 0, 1) := by decide +kernel
theorem dX5_kit_75 : decode cX5_kit 75 = .ok (.istore 4, 2) := by decide +kernel
theorem dX5_kit_77 : decode cX5_kit 77 = .ok (.aload_n 0, 1) := by decide +kernel
theorem dX5_kit_78 : decode cX5_kit 78 = .ok (.getfield 83, 3) := by decide +kernel
theorem dX5_kit_81 : decode cX5_kit 81 = .ok (.ifCond .ne 44, 3) := by decide +kernel
theorem dX5_kit_84 : decode cX5_kit 84 = .ok (.iload 4, 2) := by decide +kernel
theorem dX5_kit_86 : decode cX5_kit 86 = .ok (.aload_n 0, 1) := by decide +kernel
theorem dX5_kit_87 : decode cX5_kit 87 = .ok (.getfield 16, 3) := by decide +kernel
theorem dX5_kit_90 : decode cX5_kit 90 = .ok (.iload_n 1, 1) := by decide +kernel
theorem dX5_kit_91 : decode cX5_kit 91 = .ok (.iaload, 1) := by decide +kernel
theorem dX5_kit_92 : decode cX5_kit 92 = .ok (.if_icmp .ge 33, 3) := by decide +kernel
theorem dX5_kit_95 : decode cX5_kit 95 = .ok (.aload_n 0, 1) := by decide +kernel
theorem dX5_kit_96 : decode cX5_kit 96 = .ok (.aload_n 0, 1) := by decide +kernel
theorem dX5_kit_97 : decode cX5_kit 97 = .ok (.getfield 19, 3) := by decide +kernel
theorem dX5_kit_100 : decode cX5_kit 100 = .ok (.iconst 3, 1) := by decide +kernel
theorem dX5_kit_101 : decode cX5_kit 101 = .ok (.iload_n 1, 1) := by decide +kernel
theorem dX5_kit_102 : decode cX5_kit 102 = .ok (.imul, 1) := by decide +kernel
theorem dX5_kit_103 : decode cX5_kit 103 = .ok (.iload 4, 2) := by decide +kernel
theorem dX5_kit_105 : decode cX5_kit 105 = .ok (.iadd, 1) := by decide +kernel
theorem dX5_kit_106 : decode cX5_kit 106 = .ok (.iaload, 1) := by decide +kernel
theorem dX5_kit_107 : decode cX5_kit 107 = .ok (.iload_n 2, 1) := by decide +kernel
theorem dX5_kit_108 : decode cX5_kit 108 = .ok (.if_icmp .ne 7, 3) := by decide +kernel
theorem dX5_kit_111 : decode cX5_kit 111 = .ok (.iconst 2, 1) := by decide +kernel
theorem dX5_kit_112 : decode cX5_kit 112 = .ok (.goto 4, 3) := by decide +kernel
theorem dX5_kit_115 : decode cX5_kit 115 = .ok (.iconst 0, 1) := by decide +kernel
theorem dX5_kit_116 : decode cX5_kit 116 = .ok (.putfield 83, 3) := by decide +kernel
theorem dX5_kit_119 : decode cX5_kit 119 = .ok (.iinc 4 1, 3) := by decide +kernel
theorem dX5_kit_122 : decode cX5_kit 122 = .ok (.goto (-45), 3) := by decide +kernel
theorem dX5_kit_125 : decode cX5_kit 125 = .ok (.aload_n 0, 1) := by decide +kernel
theorem dX5_kit_126 : decode cX5_kit 126 = .ok (.getfield 83, 3) := by decide +kernel
theorem dX5_kit_129 : decode cX5_kit 129 = .ok (.ifCond .ne 18, 3) := by decide +kernel
theorem dX5_kit_132 : decode cX5_kit 132 = .ok (.aload_n 0, 1) := by decide +kernel
theorem dX5_kit_133 : decode cX5_kit 133 = .ok (.getfield 16, 3) := by decide +kernel
theorem dX5_kit_136 : decode cX5_kit 136 = .ok (.iload_n 1, 1) := by decide +kernel
theorem dX5_kit_137 : decode cX5_kit 137 = .ok (.iaload, 1) := by decide +kernel
theorem dX5_kit_138 : decode cX5_kit 138 = .ok (.iconst 3, 1) := by decide +kernel
theorem dX5_kit_139 : decode cX5_kit 139 = .ok (.if_icmp .ne 8, 3) := by decide +kernel
theorem dX5_kit_142 : decode cX5_kit 142 = .ok (.aload_n 0, 1) := by decide +kernel
theorem dX5_kit_143 : decode cX5_kit 143 = .ok (.iconst 3, 1) := by decide +kernel
theorem dX5_kit_144 : decode cX5_kit 144 = .ok (.putfield 83, 3) := by decide +kernel
theorem dX5_kit_147 : decode cX5_kit 147 = .ok (.aload_n 0, 1) := by decide +kernel
theorem dX5_kit_148 : decode cX5_kit 148 = .ok (.getfield 83, 3) := by decide +kernel
theorem dX5_kit_151 : decode cX5_kit 151 = .ok (.ifCond .le 5, 3) := by decide +kernel
theorem dX5_kit_154 : decode cX5_kit 154 = .ok (.iconst 0, 1) := by decide +kernel
theorem dX5_kit_155 : decode cX5_kit 155 = .ok (.ireturn, 1) := by decide +kernel
theorem dX5_kit_156 : decode cX5_kit 156 = .ok (.aload_n 0, 1) := by decide +kernel
theorem dX5_kit_157 : decode cX5_kit 157 = .ok (.getfield 19, 3) := by decide +kernel
theorem dX5_kit_160 : decode cX5_kit 160 = .ok (.iconst 3, 1) := by decide +kernel
theorem dX5_kit_161 : decode cX5_kit 161 = .ok (.iload_n 1, 1) := by decide +kernel
theorem dX5_kit_162 : decode cX5_kit 162 = .ok (.imul, 1) := by decide +kernel
theorem dX5_kit_163 : decode cX5_kit 163 = .ok (.aload_n 0, 1) := by decide +kernel
theorem dX5_kit_164 : decode cX5_kit 164 = .ok (.getfield 16, 3) := by decide +kernel
theorem dX5_kit_167 : decode cX5_kit 167 = .ok (.iload_n 1, 1) := by decide +kernel
theorem dX5_kit_168 : decode cX5_kit 168 = .ok (.iaload, 1) := by decide +kernel
theorem dX5_kit_169 : decode cX5_kit 169 = .ok (.iadd, 1) := by decide +kernel
theorem dX5_kit_170 : decode cX5_kit 170 = .ok (.iload_n 2, 1) := by decide +kernel
theorem dX5_kit_171 : decode cX5_kit 171 = .ok (.iastore, 1) := by decide +kernel
theorem dX5_kit_172 : decode cX5_kit 172 = .ok (.aload_n 0, 1) := by decide +kernel
theorem dX5_kit_173 : decode cX5_kit 173 = .ok (.getfield 22, 3) := by decide +kernel
theorem dX5_kit_176 : decode cX5_kit 176 = .ok (.iconst 3, 1) := by decide +kernel
theorem dX5_kit_177 : decode cX5_kit 177 = .ok (.iload_n 1, 1) := by decide +kernel
theorem dX5_kit_178 : decode cX5_kit 178 = .ok (.imul, 1) := by decide +kernel
theorem dX5_kit_179 : decode cX5_kit 179 = .ok (.aload_n 0, 1) := by decide +kernel
theorem dX5_kit_180 : decode cX5_kit 180 = .ok (.getfield 16, 3) := by decide +kernel
theorem dX5_kit_183 : decode cX5_kit 183 = .ok (.iload_n 1, 1) := by decide +kernel
theorem dX5_kit_184 : decode cX5_kit 184 = .ok (.iaload, 1) := by decide +kernel
theorem dX5_kit_185 : decode cX5_kit 185 = .ok (.iadd, 1) := by decide +kernel
theorem dX5_kit_186 : decode cX5_kit 186 = .ok (.iload_n 3, 1) := by decide +kernel
theorem dX5_kit_187 : decode cX5_kit 187 = .ok (.iastore, 1) := by decide +kernel
theorem dX5_kit_188 : decode cX5_kit 188 = .ok (.aload_n 0, 1) := by decide +kernel
theorem dX5_kit_189 : decode cX5_kit 189 = .ok (.getfield 16, 3) := by decide +kernel
theorem dX5_kit_192 : decode cX5_kit 192 = .ok (.iload_n 1, 1) := by decide +kernel
theorem dX5_kit_193 : decode cX5_kit 193 = .ok (.dup2, 1) := by decide +kernel
theorem dX5_kit_194 : decode cX5_kit 194 = .ok (.iaload, 1) := by decide +kernel
theorem dX5_kit_195 : decode cX5_kit 195 = .ok (.iconst 1, 1) := by decide +kernel
theorem dX5_kit_196 : decode cX5_kit 196 = .ok (.iadd, 1) := by decide +kernel
theorem dX5_kit_197 : decode cX5_kit 197 = .ok (.iastore, 1) := by decide +kernel
theorem dX5_kit_198 : decode cX5_kit 198 = .ok (.aload_n 0, 1) := by decide +kernel
theorem dX5_kit_199 : decode cX5_kit 199 = .ok (.getfield 16, 3) := by decide +kernel
theorem dX5_kit_202 : decode cX5_kit 202 = .ok (.iload_n 1, 1) := by decide +kernel
theorem dX5_kit_203 : decode cX5_kit 203 = .ok (.iaload, 1) := by decide +kernel
theorem dX5_kit_204 : decode cX5_kit 204 = .ok (.ireturn, 1) := by decide +kernel
theorem dX5_isOrder_0 : decode cX5_isOrder 0 = .ok (.iload_n 1, 1) := by decide +kernel
theorem dX5_isOrder_1 : decode cX5_isOrder 1 = .ok (.iconst 0, 1) := by decide +kernel
theorem dX5_isOrder_2 : decode cX5_isOrder 2 = .ok (.aload_n 0, 1) := by decide +kernel
theorem dX5_isOrder_3 : decode cX5_isOrder 3 = .ok (.getfield 109, 3) := by decide +kernel
theorem dX5_isOrder_6 : decode cX5_isOrder 6 = .ok (.iconst 1, 1) := by decide +kernel
theorem dX5_isOrder_7 : decode cX5_isOrder 7 = .ok (.isub, 1) := by decide +kernel
theorem dX5_isOrder_8 : decode cX5_isOrder 8 = .ok (.invokestatic 87, 3) := by decide +kernel
theorem dX5_isOrder_11 : decode cX5_isOrder 11 = .ok (.ireturn, 1) := by decide +kernel
theorem dX5_order_0 : decode cX5_order 0 = .ok (.aload_n 0, 1) := by decide +kernel
theorem dX5_order_1 : decode cX5_order 1 = .ok (.iload_n 1, 1) := by decide +kernel
theorem dX5_order_2 : decode cX5_order 2 = .ok (.iconst 0, 1) := by decide +kernel
theorem dX5_order_3 : decode cX5_order 3 = .ok (.bipush 99, 2) := by decide +kernel
theorem dX5_order_5 : decode cX5_order 5 = .ok (.invokestatic 87, 3) := by decide +kernel
theorem dX5_order_8 : decode cX5_order 8 = .ok (.ifCond .eq 32, 3) := by decide +kernel
theorem dX5_order_11 : decode cX5_order 11 = .ok (.iload_n 2, 1) := by decide +kernel
theorem dX5_order_12 : decode cX5_order 12 = .ok (.invokestatic 128, 3) := by decide +kernel
theorem dX5_order_15 : decode cX5_order 15 = .ok (.ifCond .eq 25, 3) := by decide +kernel
theorem dX5_order_18 : decode cX5_order 18 = .ok (.iload_n 3, 1) := by decide +kernel
theorem dX5_order_19 : decode cX5_order 19 = .ok (.iconst 1, 1) := by decide +kernel
theorem dX5_order_20 : decode cX5_order 20 = .ok (.sipush 10000, 3) := by decide +kernel
theorem dX5_order_23 : decode cX5_order 23 = .ok (.invokestatic 87, 3) := by decide +kernel
theorem dX5_order_26 : decode cX5_order 26 = .ok (.ifCond .eq 14, 3) := by decide +kernel
theorem dX5_order_29 : decode cX5_order 29 = .ok (.iload 4, 2) := by decide +kernel
theorem dX5_order_31 : decode cX5_order 31 = .ok (.iconst 1, 1) := by decide +kernel
theorem dX5_order_32 : decode cX5_order 32 = .ok (.bipush 9, 2) := by decide +kernel
theorem dX5_order_34 : decode cX5_order 34 = .ok (.invokestatic 87, 3) := by decide +kernel
theorem dX5_order_37 : decode cX5_order 37 = .ok (.ifCond .ne 7, 3) := by decide +kernel
theorem dX5_order_40 : decode cX5_order 40 = .ok (.iconst 1, 1) := by decide +kernel
theorem dX5_order_41 : decode cX5_order 41 = .ok (.goto 17, 3) := by decide +kernel
theorem dX5_order_44 : decode cX5_order 44 = .ok (.aload_n 0, 1) := by decide +kernel
theorem dX5_order_45 : decode cX5_order 45 = .ok (.getfield 109, 3) := by decide +kernel
theorem dX5_order_48 : decode cX5_order 48 = .ok (.bipush 10, 2) := by decide +kernel
theorem dX5_order_50 : decode cX5_order 50 = .ok (.if_icmp .ne 7, 3) := by decide +kernel
theorem dX5_order_53 : decode cX5_order 53 = .ok (.iconst 2, 1) := by decide +kernel
theorem dX5_order_54 : decode cX5_order 54 = .ok (.goto 4, 3) := by decide +kernel
theorem dX5_order_57 : decode cX5_order 57 = .ok (.iconst 0, 1) := by decide +kernel
theorem dX5_order_58 : decode cX5_order 58 = .ok (.putfield 83, 3) := by decide +kernel
theorem dX5_order_61 : decode cX5_order 61 = .ok (.aload_n 0, 1) := by decide +kernel
theorem dX5_order_62 : decode cX5_order 62 = .ok (.getfield 83, 3) := by decide +kernel
theorem dX5_order_65 : decode cX5_order 65 = .ok (.ifCond .le 5, 3) := by decide +kernel
theorem dX5_order_68 : decode cX5_order 68 = .ok (.iconst 0, 1) := by decide +kernel
theorem dX5_order_69 : decode cX5_order 69 = .ok (.ireturn, 1) := by decide +kernel
theorem dX5_order_70 : decode cX5_order 70 = .ok (.aload_n 0, 1) := by decide +kernel
theorem dX5_order_71 : decode cX5_order 71 = .ok (.invokevirtual 145, 3) := by decide +kernel
theorem dX5_order_74 : decode cX5_order 74 = .ok (.aload_n 0, 1) := by decide +kernel
theorem dX5_order_75 : decode cX5_order 75 = .ok (.aload_n 0, 1) := by decide +kernel
theorem dX5_order_76 : decode cX5_order 76 = .ok (.getfield 109, 3) := by decide +kernel
theorem dX5_order_79 : decode cX5_order 79 = .ok (.iload_n 2, 1) := by decide +kernel
theorem dX5_order_80 : decode cX5_order 80 = .ok (.iload_n 3, 1) := by decide +kernel
theorem dX5_order_81 : decode cX5_order 81 = .ok (.iload_n 1, 1) := by decide +kernel
theorem dX5_order_82 : decode cX5_order 82 = .ok (.invokevirtual 116, 3) := by decide +kernel
theorem dX5_order_85 : decode cX5_order 85 = .ok (.aload_n 0, 1) := by decide +kernel
theorem dX5_order_86 : decode cX5_order 86 = .ok (.invokevirtual 124, 3) := by decide +kernel
theorem dX5_order_89 : decode cX5_order 89 = .ok (.ifCond .ne 5, 3) := by decide +kernel
theorem dX5_order_92 : decode cX5_order 92 = .ok (.iconst (-1), 1) := by decide +kernel
theorem dX5_order_93 : decode cX5_order 93 = .ok (.ireturn, 1) := by decide +kernel
theorem dX5_order_94 : decode cX5_order 94 = .ok (.aload_n 0, 1) := by decide +kernel
theorem dX5_order_95 : decode cX5_order 95 = .ok (.getfield 37, 3) := by decide +kernel
theorem dX5_order_98 : decode cX5_order 98 = .ok (.aload_n 0, 1) := by decide +kernel
theorem dX5_order_99 : decode cX5_order 99 = .ok (.getfield 109, 3) := by decide +kernel
theorem dX5_order_102 : decode cX5_order 102 = .ok (.iload_n 1, 1) := by decide +kernel
theorem dX5_order_103 : decode cX5_order 103 = .ok (.iastore, 1) := by decide +kernel
theorem dX5_order_104 : decode cX5_order 104 = .ok (.aload_n 0, 1) := by decide +kernel
theorem dX5_order_105 : decode cX5_order 105 = .ok (.getfield 40, 3) := by decide +kernel
theorem dX5_order_108 : decode cX5_order 108 = .ok (.aload_n 0, 1) := by decide +kernel
theorem dX5_order_109 : decode cX5_order 109 = .ok (.getfield 109, 3) := by decide +kernel
theorem dX5_order_112 : decode cX5_order 112 = .ok (.iload_n 2, 1) := by decide +kernel
theorem dX5_order_113 : decode cX5_order 113 = .ok (.iastore, 1) := by decide +kernel
theorem dX5_order_114 : decode cX5_order 114 = .ok (.aload_n 0, 1) := by decide +kernel
theorem dX5_order_115 : decode cX5_order 115 = .ok (.getfield 43, 3) := by decide +kernel
theorem dX5_order_118 : decode cX5_order 118 = .ok (.aload_n 0, 1) := by decide +kernel
theorem dX5_order_119 : decode cX5_order 119 = .ok (.getfield 109, 3) := by decide +kernel
theorem dX5_order_122 : decode cX5_order 122 = .ok (.iload_n 3, 1) := by decide +kernel
theorem dX5_order_123 : decode cX5_order 123 = .ok (.iastore, 1) := by decide +kernel
theorem dX5_order_124 : decode cX5_order 124 = .ok (.aload_n 0, 1) := by decide +kernel
theorem dX5_order_125 : decode cX5_order 125 = .ok (.getfield 46, 3) := by decide +kernel
theorem dX5_order_128 : decode cX5_order 128 = .ok (.aload_n 0, 1) := by decide +kernel
theorem dX5_order_129 : decode cX5_order 129 = .ok (.getfield 109, 3) := by decide +kernel
theorem dX5_order_132 : decode cX5_order 132 = .ok (.iload 4, 2) := by decide +kernel
theorem dX5_order_134 : decode cX5_order 134 = .ok (.iastore, 1) := by decide +kernel
theorem dX5_order_135 : decode cX5_order 135 = .ok (.aload_n 0, 1) := by decide +kernel
theorem dX5_order_136 : decode cX5_order 136 = .ok (.getfield 49, 3) := by decide +kernel
theorem dX5_order_139 : decode cX5_order 139 = .ok (.aload_n 0, 1) := by decide +kernel
theorem dX5_order_140 : decode cX5_order 140 = .ok (.getfield 109, 3) := by decide +kernel
theorem dX5_order_143 : decode cX5_order 143 = .ok (.iconst 0, 1) := by decide +kernel
theorem dX5_order_144 : decode cX5_order 144 = .ok (.iastore, 1) := by decide +kernel
