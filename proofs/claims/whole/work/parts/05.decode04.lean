theorem dX5_count_23 : decode cX5_count 23 = .ok (.ireturn, 1) := by decide +kernel
theorem dX5_count_24 : decode cX5_count 24 = .ok (.iload_n 1, 1) := by decide +kernel
theorem dX5_count_25 : decode cX5_count 25 = .ok (.iconst 2, 1) := by decide +kernel
theorem dX5_count_26 : decode cX5_count 26 = .ok (.iconst 5, 1) := by decide +kernel
theorem dX5_count_27 : decode cX5_count 27 = .ok (.invokestatic 87, 3) := by decide +kernel
theorem dX5_count_30 : decode cX5_count 30 = .ok (.ifCond .ne 5, 3) := by decide +kernel
theorem dX5_count_33 : decode cX5_count 33 = .ok (.iconst (-1), 1) := by decide +kernel
theorem dX5_count_34 : decode cX5_count 34 = .ok (.ireturn, 1) := by decide +kernel
theorem dX5_count_35 : decode cX5_count 35 = .ok (.lconst 0, 1) := by decide +kernel
theorem dX5_count_36 : decode cX5_count 36 = .ok (.lstore_n 2, 1) := by decide +kernel
theorem dX5_count_37 : decode cX5_count 37 = .ok (.iconst 0, 1) := by decide +kernel
theorem dX5_count_38 : decode cX5_count 38 = .ok (.istore 4, 2) := by decide +kernel
theorem dX5_count_40 : decode cX5_count 40 = .ok (.iload 4, 2) := by decide +kernel
theorem dX5_count_42 : decode cX5_count 42 = .ok (.aload_n 0, 1) := by decide +kernel
theorem dX5_count_43 : decode cX5_count 43 = .ok (.getfield 109, 3) := by decide +kernel
theorem dX5_count_46 : decode cX5_count 46 = .ok (.if_icmp .ge 35, 3) := by decide +kernel
theorem dX5_count_49 : decode cX5_count 49 = .ok (.iload_n 1, 1) := by decide +kernel
theorem dX5_count_50 : decode cX5_count 50 = .ok (.iconst 4, 1) := by decide +kernel
theorem dX5_count_51 : decode cX5_count 51 = .ok (.if_icmp .ge 30, 3) := by decide +kernel
theorem dX5_count_54 : decode cX5_count 54 = .ok (.lload_n 2, 1) := by decide +kernel
theorem dX5_count_55 : decode cX5_count 55 = .ok (.aload_n 0, 1) := by decide +kernel
theorem dX5_count_56 : decode cX5_count 56 = .ok (.getfield 49, 3) := by decide +kernel
theorem dX5_count_59 : decode cX5_count 59 = .ok (.iload 4, 2) := by decide +kernel
theorem dX5_count_61 : decode cX5_count 61 = .ok (.iaload, 1) := by decide +kernel
theorem dX5_count_62 : decode cX5_count 62 = .ok (.iload_n 1, 1) := by decide +kernel
theorem dX5_count_63 : decode cX5_count 63 = .ok (.iconst 2, 1) := by decide +kernel
theorem dX5_count_64 : decode cX5_count 64 = .ok (.isub, 1) := by decide +kernel
theorem dX5_count_65 : decode cX5_count 65 = .ok (.if_icmp .ne 7, 3) := by decide +kernel
theorem dX5_count_68 : decode cX5_count 68 = .ok (.lconst 1, 1) := by decide +kernel
theorem dX5_count_69 : decode cX5_count 69 = .ok (.goto 4, 3) := by decide +kernel
theorem dX5_count_72 : decode cX5_count 72 = .ok (.lconst 0, 1) := by decide +kernel
theorem dX5_count_73 : decode cX5_count 73 = .ok (.ladd, 1) := by decide +kernel
theorem dX5_count_74 : decode cX5_count 74 = .ok (.lstore_n 2, 1) := by decide +kernel
theorem dX5_count_75 : decode cX5_count 75 = .ok (.iinc 4 1, 3) := by decide +kernel
theorem dX5_count_78 : decode cX5_count 78 = .ok (.goto (-38), 3) := by decide +kernel
theorem dX5_count_81 : decode cX5_count 81 = .ok (.iconst 0, 1) := by decide +kernel
theorem dX5_count_82 : decode cX5_count 82 = .ok (.istore 4, 2) := by decide +kernel
theorem dX5_count_84 : decode cX5_count 84 = .ok (.iload 4, 2) := by decide +kernel
theorem dX5_count_86 : decode cX5_count 86 = .ok (.aload_n 0, 1) := by decide +kernel
theorem dX5_count_87 : decode cX5_count 87 = .ok (.getfield 91, 3) := by decide +kernel
theorem dX5_count_90 : decode cX5_count 90 = .ok (.if_icmp .ge 33, 3) := by decide +kernel
theorem dX5_count_93 : decode cX5_count 93 = .ok (.iload_n 1, 1) := by decide +kernel
theorem dX5_count_94 : decode cX5_count 94 = .ok (.iconst 4, 1) := by decide +kernel
theorem dX5_count_95 : decode cX5_count 95 = .ok (.if_icmp .ne 28, 3) := by decide +kernel
theorem dX5_count_98 : decode cX5_count 98 = .ok (.lload_n 2, 1) := by decide +kernel
theorem dX5_count_99 : decode cX5_count 99 = .ok (.aload_n 0, 1) := by decide +kernel
theorem dX5_count_100 : decode cX5_count 100 = .ok (.getfield 31, 3) := by decide +kernel
theorem dX5_count_103 : decode cX5_count 103 = .ok (.iload 4, 2) := by decide +kernel
theorem dX5_count_105 : decode cX5_count 105 = .ok (.iaload, 1) := by decide +kernel
theorem dX5_count_106 : decode cX5_count 106 = .ok (.aload_n 0, 1) := by decide +kernel
theorem dX5_count_107 : decode cX5_count 107 = .ok (.getfield 34, 3) := by decide +kernel
theorem dX5_count_110 : decode cX5_count 110 = .ok (.iload 4, 2) := by decide +kernel
theorem dX5_count_112 : decode cX5_count 112 = .ok (.iaload, 1) := by decide +kernel
theorem dX5_count_113 : decode cX5_count 113 = .ok (.isub, 1) := by decide +kernel
theorem dX5_count_114 : decode cX5_count 114 = .ok (.i2l, 1) := by decide +kernel
theorem dX5_count_115 : decode cX5_count 115 = .ok (.ladd, 1) := by decide +kernel
theorem dX5_count_116 : decode cX5_count 116 = .ok (.lstore_n 2, 1) := by decide +kernel
theorem dX5_count_117 : decode cX5_count 117 = .ok (.iinc 4 1, 3) := by decide +kernel
theorem dX5_count_120 : decode cX5_count 120 = .ok (.goto (-36), 3) := by decide +kernel
theorem dX5_count_123 : decode cX5_count 123 = .ok (.iload_n 1, 1) := by decide +kernel
theorem dX5_count_124 : decode cX5_count 124 = .ok (.iconst 5, 1) := by decide +kernel
theorem dX5_count_125 : decode cX5_count 125 = .ok (.if_icmp .ne 35, 3) := by decide +kernel
theorem dX5_count_128 : decode cX5_count 128 = .ok (.aload_n 0, 1) := by decide +kernel
theorem dX5_count_129 : decode cX5_count 129 = .ok (.invokevirtual 145, 3) := by decide +kernel
theorem dX5_count_132 : decode cX5_count 132 = .ok (.iconst 0, 1) := by decide +kernel
theorem dX5_count_133 : decode cX5_count 133 = .ok (.istore 4, 2) := by decide +kernel
theorem dX5_count_135 : decode cX5_count 135 = .ok (.iload 4, 2) := by decide +kernel
theorem dX5_count_137 : decode cX5_count 137 = .ok (.aload_n 0, 1) := by decide +kernel
theorem dX5_count_138 : decode cX5_count 138 = .ok (.getfield 94, 3) := by decide +kernel
theorem dX5_count_141 : decode cX5_count 141 = .ok (.if_icmp .ge 19, 3) := by decide +kernel
theorem dX5_count_144 : decode cX5_count 144 = .ok (.lload_n 2, 1) := by decide +kernel
theorem dX5_count_145 : decode cX5_count 145 = .ok (.aload_n 0, 1) := by decide +kernel
theorem dX5_count_146 : decode cX5_count 146 = .ok (.getfield 58, 3) := by decide +kernel
theorem dX5_count_149 : decode cX5_count 149 = .ok (.iload 4, 2) := by decide +kernel
theorem dX5_count_151 : decode cX5_count 151 = .ok (.laload, 1) := by decide +kernel
theorem dX5_count_152 : decode cX5_count 152 = .ok (.ladd, 1) := by decide +kernel
theorem dX5_count_153 : decode cX5_count 153 = .ok (.lstore_n 2, 1) := by decide +kernel
theorem dX5_count_154 : decode cX5_count 154 = .ok (.iinc 4 1, 3) := by decide +kernel
theorem dX5_count_157 : decode cX5_count 157 = .ok (.goto (-22), 3) := by decide +kernel
theorem dX5_count_160 : decode cX5_count 160 = .ok (.lload_n 2, 1) := by decide +kernel
theorem dX5_count_161 : decode cX5_count 161 = .ok (.l2i, 1) := by decide +kernel
theorem dX5_count_162 : decode cX5_count 162 = .ok (.ireturn, 1) := by decide +kernel
theorem dX0_init_0 : decode cX0_init 0 = .ok (.aload_n 0, 1) := by decide +kernel
theorem dX0_init_1 : decode cX0_init 1 = .ok (.invokespecial 3, 3) := by decide +kernel
theorem dX0_init_4 : decode cX0_init 4 = .ok (.aload_n 0, 1) := by decide +kernel
theorem dX0_init_5 : decode cX0_init 5 = .ok (.iconst 0, 1) := by decide +kernel
theorem dX0_init_6 : decode cX0_init 6 = .ok (.putfield 9, 3) := by decide +kernel
theorem dX0_init_9 : decode cX0_init 9 = .ok (.aload_n 0, 1) := by decide +kernel
theorem dX0_init_10 : decode cX0_init 10 = .ok (.bipush 10, 2) := by decide +kernel
theorem dX0_init_12 : decode cX0_init 12 = .ok (.newarray .int, 2) := by decide +kernel
theorem dX0_init_14 : decode cX0_init 14 = .ok (.putfield 15, 3) := by decide +kernel
theorem dX0_init_17 : decode cX0_init 17 = .ok (.aload_n 0, 1) := by decide +kernel
theorem dX0_init_18 : decode cX0_init 18 = .ok (.bipush 10, 2) := by decide +kernel
theorem dX0_init_20 : decode cX0_init 20 = .ok (.newarray .int, 2) := by decide +kernel
theorem dX0_init_22 : decode cX0_init 22 = .ok (.putfield 19, 3) := by decide +kernel
theorem dX0_init_25 : decode cX0_init 25 = .ok (.aload_n 0, 1) := by decide +kernel
theorem dX0_init_26 : decode cX0_init 26 = .ok (.bipush 10, 2) := by decide +kernel
theorem dX0_init_28 : decode cX0_init 28 = .ok (.newarray .int, 2) := by decide +kernel
theorem dX0_init_30 : decode cX0_init 30 = .ok (.putfield 22, 3) := by decide +kernel
theorem dX0_init_33 : decode cX0_init 33 = .ok (.aload_n 0, 1) := by decide +kernel
theorem dX0_init_34 : decode cX0_init 34 = .ok (.bipush 10, 2) := by decide +kernel
theorem dX0_init_36 : decode cX0_init 36 = .ok (.newarray .int, 2) := by decide +kernel
theorem dX0_init_38 : decode cX0_init 38 = .ok (.putfield 25, 3) := by decide +kernel
theorem dX0_init_41 : decode cX0_init 41 = .ok (.return_, 1) := by decide +kernel
theorem dX0_add_0 : decode cX0_add 0 = .ok (.aload_n 0, 1) := by decide +kernel
theorem dX0_add_1 : decode cX0_add 1 = .ok (.getfield 15, 3) := by decide +kernel
theorem dX0_add_4 : decode cX0_add 4 = .ok (.aload_n 0, 1) := by decide +kernel
theorem dX0_add_5 : decode cX0_add 5 = .ok (.getfield 9, 3) := by decide +kernel
theorem dX0_add_8 : decode cX0_add 8 = .ok (.iload_n 1, 1) := by decide +kernel
theorem dX0_add_9 : decode cX0_add 9 = .ok (.iastore, 1) := by decide +kernel
theorem dX0_add_10 : decode cX0_add 10 = .ok (.aload_n 0, 1) := by decide +kernel
theorem dX0_add_11 : decode cX0_add 11 = .ok (.getfield 19, 3) := by decide +kernel
theorem dX0_add_14 : decode cX0_add 14 = .ok (.aload_n 0, 1) := by decide +kernel
theorem dX0_add_15 : decode cX0_add 15 = .ok (.getfield 9, 3) := by decide +kernel
theorem dX0_add_18 : decode cX0_add 18 = .ok (.iload_n 2, 1) := by decide +kernel
theorem dX0_add_19 : decode cX0_add 19 = .ok (.iastore, 1) := by decide +kernel
theorem dX0_add_20 : decode cX0_add 20 = .ok (.aload_n 0, 1) := by decide +kernel
theorem dX0_add_21 : decode cX0_add 21 = .ok (.getfield 22, 3) := by decide +kernel
theorem dX0_add_24 : decode cX0_add 24 = .ok (.aload_n 0, 1) := by decide +kernel
theorem dX0_add_25 : decode cX0_add 25 = .ok (.getfield 9, 3) := by decide +kernel
theorem dX0_add_28 : decode cX0_add 28 = .ok (.iload_n 3, 1) := by decide +kernel
theorem dX0_add_29 : decode cX0_add 29 = .ok (.iastore, 1) := by decide +kernel
theorem dX0_add_30 : decode cX0_add 30 = .ok (.aload_n 0, 1) := by decide +kernel
theorem dX0_add_31 : decode cX0_add 31 = .ok (.dup, 1) := by decide +kernel
theorem dX0_add_32 : decode cX0_add 32 = .ok (.getfield 9, 3) := by decide +kernel
theorem dX0_add_35 : decode cX0_add 35 = .ok (.iconst 1, 1) := by decide +kernel
theorem dX0_add_36 : decode cX0_add 36 = .ok (.iadd, 1) := by decide +kernel
theorem dX0_add_37 : decode cX0_add 37 = .ok (.putfield 9, 3) := by decide +kernel
theorem dX0_add_40 : decode cX0_add 40 = .ok (.aload_n 0, 1) := by decide +kernel
theorem dX0_add_41 : decode cX0_add 41 = .ok (.getfield 9, 3) := by decide +kernel
theorem dX0_add_44 : decode cX0_add 44 = .ok (.iconst 1, 1) := by decide +kernel
theorem dX0_add_45 : decode cX0_add 45 = .ok (.isub, 1) := by decide +kernel
theorem dX0_add_46 : decode cX0_add 46 = .ok (.ireturn, 1) := by decide +kernel
theorem dX0_has_0 : decode cX0_has 0 = .ok (.iconst 0, 1) := by decide +kernel
theorem dX0_has_1 : decode cX0_has 1 = .ok (.istore_n 2, 1) := by decide +kernel
theorem dX0_has_2 : decode cX0_has 2 = .ok (.iload_n 2, 1) := by decide +kernel
theorem dX0_has_3 : decode cX0_has 3 = .ok (.aload_n 0, 1) := by decide +kernel
theorem dX0_has_4 : decode cX0_has 4 = .ok (.getfield 9, 3) := by decide +kernel
theorem dX0_has_7 : decode cX0_has 7 = .ok (.if_icmp .ge 21, 3) := by decide +kernel
theorem dX0_has_10 : decode cX0_has 10 = .ok (.aload_n 0, 1) := by decide +kernel
theorem dX0_has_11 : decode cX0_has 11 = .ok (.getfield 19, 3) := by decide +kernel
theorem dX0_has_14 : decode cX0_has 14 = .ok (.iload_n 2, 1) := by decide +kernel
theorem dX0_has_15 : decode cX0_has 15 = .ok (.iaload, 1) := by decide +kernel
theorem dX0_has_16 : decode cX0_has 16 = .ok (.iload_n 1, 1) := by decide +kernel
theorem dX0_has_17 : decode cX0_has 17 = .ok (.if_icmp .ne 5, 3) := by decide +kernel
theorem dX0_has_20 : decode cX0_has 20 = .ok (.iconst 1, 1) := by decide +kernel
theorem dX0_has_21 : decode cX0_has 21 = .ok (.ireturn, 1) := by decide +kernel
theorem dX0_has_22 : decode cX0_has 22 = .ok (.iinc 2 1, 3) := by decide +kernel
theorem dX0_has_25 : decode cX0_has 25 = .ok (.goto (-23), 3) := by decide +kernel
theorem dX0_has_28 : decode cX0_has 28 = .ok (.iconst 0, 1) := by decide +kernel
theorem dX0_has_29 : decode cX0_has 29 = .ok (.ireturn, 1) := by decide +kernel
theorem dX0_free_0 : decode cX0_free 0 = .ok (.aload_n 0, 1) := by decide +kernel
theorem dX0_free_1 : decode cX0_free 1 = .ok (.getfield 22, 3) := by decide +kernel
theorem dX0_free_4 : decode cX0_free 4 = .ok (.iload_n 1, 1) := by decide +kernel
theorem dX0_free_5 : decode cX0_free 5 = .ok (.iaload, 1) := by decide +kernel
theorem dX0_free_6 : decode cX0_free 6 = .ok (.aload_n 0, 1) := by decide +kernel
theorem dX0_free_7 : decode cX0_free 7 = .ok (.getfield 25, 3) := by decide +kernel
theorem dX0_free_10 : decode cX0_free 10 = .ok (.iload_n 1, 1) := by decide +kernel
theorem dX0_free_11 : decode cX0_free 11 = .ok (.iaload, 1) := by decide +kernel
theorem dX0_free_12 : decode cX0_free 12 = .ok (.isub, 1) := by decide +kernel
theorem dX0_free_13 : decode cX0_free 13 = .ok (.ireturn, 1) := by decide +kernel
theorem dX0_allFree_0 : decode cX0_allFree 0 = .ok (.iconst 0, 1) := by decide +kernel
theorem dX0_allFree_1 : decode cX0_allFree 1 = .ok (.istore_n 1, 1) := by decide +kernel
theorem dX0_allFree_2 : decode cX0_allFree 2 = .ok (.iconst 0, 1) := by decide +kernel
theorem dX0_allFree_3 : decode cX0_allFree 3 = .ok (.istore_n 2, 1) := by decide +kernel
theorem dX0_allFree_4 : decode cX0_allFree 4 = .ok (.iload_n 2, 1) := by decide +kernel
theorem dX0_allFree_5 : decode cX0_allFree 5 = .ok (.aload_n 0, 1) := by decide +kernel
theorem dX0_allFree_6 : decode cX0_allFree 6 = .ok (.getfield 9, 3) := by decide +kernel
theorem dX0_allFree_9 : decode cX0_allFree 9 = .ok (.if_icmp .ge 17, 3) := by decide +kernel
theorem dX0_allFree_12 : decode cX0_allFree 12 = .ok (.iload_n 1, 1) := by decide +kernel
theorem dX0_allFree_13 : decode cX0_allFree 13 = .ok (.aload_n 0, 1) := by decide +kernel
theorem dX0_allFree_14 : decode cX0_allFree 14 = .ok (.iload_n 2, 1) := by decide +kernel
theorem dX0_allFree_15 : decode cX0_allFree 15 = .ok (.invokevirtual 28, 3) := by decide +kernel
theorem dX0_allFree_18 : decode cX0_allFree 18 = .ok (.iadd, 1) := by decide +kernel
theorem dX0_allFree_19 : decode cX0_allFree 19 = .ok (.istore_n 1, 1) := by decide +kernel
theorem dX0_allFree_20 : decode cX0_allFree 20 = .ok (.iinc 2 1, 3) := by decide +kernel
theorem dX0_allFree_23 : decode cX0_allFree 23 = .ok (.goto (-19), 3) := by decide +kernel
theorem dX0_allFree_26 : decode cX0_allFree 26 = .ok (.iload_n 1, 1) := by decide +kernel
theorem dX0_allFree_27 : decode cX0_allFree 27 = .ok (.ireturn, 1) := by decide +kernel
theorem dX0_broughtBy_0 : decode cX0_broughtBy 0 = .ok (.iconst 0, 1) := by decide +kernel
theorem dX0_broughtBy_1 : decode cX0_broughtBy 1 = .ok (.istore_n 2, 1) := by decide +kernel
theorem dX0_broughtBy_2 : decode cX0_broughtBy 2 = .ok (.iconst 0, 1) := by decide +kernel
theorem dX0_broughtBy_3 : decode cX0_broughtBy 3 = .ok (.istore_n 3, 1) := by decide +kernel
theorem dX0_broughtBy_4 : decode cX0_broughtBy 4 = .ok (.iload_n 3, 1) := by decide +kernel
theorem dX0_broughtBy_5 : decode cX0_broughtBy 5 = .ok (.aload_n 0, 1) := by decide +kernel
theorem dX0_broughtBy_6 : decode cX0_broughtBy 6 = .ok (.getfield 9, 3) := by decide +kernel
theorem dX0_broughtBy_9 : decode cX0_broughtBy 9 = .ok (.if_icmp .ge 26, 3) := by decide +kernel
theorem dX0_broughtBy_12 : decode cX0_broughtBy 12 = .ok (.iload_n 1, 1) := by decide +kernel
theorem dX0_broughtBy_13 : decode cX0_broughtBy 13 = .ok (.iload_n 3, 1) := by decide +kernel
theorem dX0_broughtBy_14 : decode cX0_broughtBy 14 = .ok (.invokestatic 32, 3) := by decide +kernel
theorem dX0_broughtBy_17 : decode cX0_broughtBy 17 = .ok (.ifCond .eq 12, 3) := by decide +kernel
theorem dX0_broughtBy_20 : decode cX0_broughtBy 20 = .ok (.iload_n 2, 1) := by decide +kernel
theorem dX0_broughtBy_21 : decode cX0_broughtBy 21 = .ok (.aload_n 0, 1) := by decide +kernel
theorem dX0_broughtBy_22 : decode cX0_broughtBy 22 = .ok (.getfield 22, 3) := by decide +kernel
theorem dX0_broughtBy_25 : decode cX0_broughtBy 25 = .ok (.iload_n 3, 1) := by decide +kernel
theorem dX0_broughtBy_26 : decode cX0_broughtBy 26 = .ok (.iaload, 1) := by decide +kernel
theorem dX0_broughtBy_27 : decode cX0_broughtBy 27 = .ok (.iadd, 1) := by decide +kernel
theorem dX0_broughtBy_28 : decode cX0_broughtBy 28 = .ok (.istore_n 2, 1) := by decide +kernel
theorem dX0_broughtBy_29 : decode cX0_broughtBy 29 = .ok (.iinc 3 1, 3) := by decide +kernel
theorem dX0_broughtBy_32 : decode cX0_broughtBy 32 = .ok (.goto (-28), 3) := by decide +kernel
theorem dX0_broughtBy_35 : decode cX0_broughtBy 35 = .ok (.iload_n 2, 1) := by decide +kernel
theorem dX0_broughtBy_36 : decode cX0_broughtBy 36 = .ok (.ireturn, 1) := by decide +kernel
theorem dX0_sortByTime_0 : decode cX0_sortByTime 0 = .ok (.iconst 0, 1) := by decide +kernel
theorem dX0_sortByTime_1 : decode cX0_sortByTime 1 = .ok (.istore_n 2, 1) := by decide +kernel
theorem dX0_sortByTime_2 : decode cX0_sortByTime 2 = .ok (.iload_n 2, 1) := by decide +kernel
theorem dX0_sortByTime_3 : decode cX0_sortByTime 3 = .ok (.aload_n 0, 1) := by decide +kernel
theorem dX0_sortByTime_4 : decode cX0_sortByTime 4 = .ok (.getfield 9, 3) := by decide +kernel
theorem dX0_sortByTime_7 : decode cX0_sortByTime 7 = .ok (.if_icmp .ge 52, 3) := by decide +kernel
theorem dX0_sortByTime_10 : decode cX0_sortByTime 10 = .ok (.iload_n 2, 1) := by decide +kernel
theorem dX0_sortByTime_11 : decode cX0_sortByTime 11 = .ok (.istore_n 3, 1) := by decide +kernel
theorem dX0_sortByTime_12 : decode cX0_sortByTime 12 = .ok (.iload_n 3, 1) := by decide +kernel
theorem dX0_sortByTime_13 : decode cX0_sortByTime 13 = .ok (.ifCond .le 36, 3) := by decide +kernel
theorem dX0_sortByTime_16 : decode cX0_sortByTime 16 = .ok (.aload_n 0, 1) := by decide +kernel
theorem dX0_sortByTime_17 : decode cX0_sortByTime 17 = .ok (.getfield 15, 3) := by decide +kernel
theorem dX0_sortByTime_20 : decode cX0_sortByTime 20 = .ok (.aload_n 1, 1) := by decide +kernel
theorem dX0_sortByTime_21 : decode cX0_sortByTime 21 = .ok (.iload_n 3, 1) := by decide +kernel
theorem dX0_sortByTime_22 : decode cX0_sortByTime 22 = .ok (.iconst 1, 1) := by decide +kernel
theorem dX0_sortByTime_23 : decode cX0_sortByTime 23 = .ok (.isub, 1) := by decide +kernel
theorem dX0_sortByTime_24 : decode cX0_sortByTime 24 = .ok (.iaload, 1) := by decide +kernel
theorem dX0_sortByTime_25 : decode cX0_sortByTime 25 = .ok (.iaload, 1) := by decide +kernel
theorem dX0_sortByTime_26 : decode cX0_sortByTime 26 = .ok (.aload_n 0, 1) := by decide +kernel
theorem dX0_sortByTime_27 : decode cX0_sortByTime 27 = .ok (.getfield 15, 3) := by decide +kernel
theorem dX0_sortByTime_30 : decode cX0_sortByTime 30 = .ok (.iload_n 2, 1) := by decide +kernel
theorem dX0_sortByTime_31 : decode cX0_sortByTime 31 = .ok (.iaload, 1) := by decide +kernel
theorem dX0_sortByTime_32 : decode cX0_sortByTime 32 = .ok (.if_icmp .le 17, 3) := by decide +kernel
theorem dX0_sortByTime_35 : decode cX0_sortByTime 35 = .ok (.aload_n 1, 1) := by decide +kernel
theorem dX0_sortByTime_36 : decode cX0_sortByTime 36 = .ok (.iload_n 3, 1) := by decide +kernel
theorem dX0_sortByTime_37 : decode cX0_sortByTime 37 = .ok (.aload_n 1, 1) := by decide +kernel
theorem dX0_sortByTime_38 : decode cX0_sortByTime 38 = .ok (.iload_n 3, 1) := by decide +kernel
theorem dX0_sortByTime_39 : decode cX0_sortByTime 39 = .ok (.iconst 1, 1) := by decide +kernel
theorem dX0_sortByTime_40 : decode cX0_sortByTime 40 = .ok (.isub, 1) := by decide +kernel
theorem dX0_sortByTime_41 : decode cX0_sortByTime 41 = .ok (.iaload, 1) := by decide +kernel
theorem dX0_sortByTime_42 : decode cX0_sortByTime 42 = .ok (.iastore, 1) := by decide +kernel
theorem dX0_sortByTime_43 : decode cX0_sortByTime 43 = .ok (.iinc 3 (-1), 3) := by decide +kernel
theorem dX0_sortByTime_46 : decode cX0_sortByTime 46 = .ok (.goto (-34), 3) := by decide +kernel
theorem dX0_sortByTime_49 : decode cX0_sortByTime 49 = .ok (.aload_n 1, 1) := by decide +kernel
theorem dX0_sortByTime_50 : decode cX0_sortByTime 50 = .ok (.iload_n 3, 1) := by decide +kernel
theorem dX0_sortByTime_51 : decode cX0_sortByTime 51 = .ok (.iload_n 2, 1) := by decide +kernel
theorem dX0_sortByTime_52 : decode cX0_sortByTime 52 = .ok (.iastore, 1) := by decide +kernel
theorem dX0_sortByTime_53 : decode cX0_sortByTime 53 = .ok (.iinc 2 1, 3) := by decide +kernel
theorem dX0_sortByTime_56 : decode cX0_sortByTime 56 = .ok (.goto (-54), 3) := by decide +kernel
theorem dX0_sortByTime_59 : decode cX0_sortByTime 59 = .ok (.return_, 1) := by decide +kernel
theorem dX1_init_0 : decode cX1_init 0 = .ok (.aload_n 0, 1) := by decide +kernel
theorem dX1_init_1 : decode cX1_init 1 = .ok (.invokespecial 3, 3) := by decide +kernel
theorem dX1_init_4 : decode cX1_init 4 = .ok (.aload_n 0, 1) := by decide +kernel
theorem dX1_init_5 : decode cX1_init 5 = .ok (.bipush 6, 2) := by decide +kernel
theorem dX1_init_7 : decode cX1_init 7 = .ok (.newarray .int, 2) := by decide +kernel
theorem dX1_init_9 : decode cX1_init 9 = .ok (.putfield 9, 3) := by decide +kernel
theorem dX1_init_12 : decode cX1_init 12 = .ok (.aload_n 0, 1) := by decide +kernel
theorem dX1_init_13 : decode cX1_init 13 = .ok (.bipush 36, 2) := by decide +kernel
theorem dX1_init_15 : decode cX1_init 15 = .ok (.newarray .boolean, 2) := by decide +kernel
theorem dX1_init_17 : decode cX1_init 17 = .ok (.putfield 15, 3) := by decide +kernel
theorem dX1_init_20 : decode cX1_init 20 = .ok (.aload_n 0, 1) := by decide +kernel
theorem dX1_init_21 : decode cX1_init 21 = .ok (.bipush 6, 2) := by decide +kernel
theorem dX1_init_23 : decode cX1_init 23 = .ok (.newarray .int, 2) := by decide +kernel
theorem dX1_init_25 : decode cX1_init 25 = .ok (.putfield 19, 3) := by decide +kernel
theorem dX1_init_28 : decode cX1_init 28 = .ok (.aload_n 0, 1) := by decide +kernel
theorem dX1_init_29 : decode cX1_init 29 = .ok (.bipush 18, 2) := by decide +kernel
theorem dX1_init_31 : decode cX1_init 31 = .ok (.newarray .int, 2) := by decide +kernel
theorem dX1_init_33 : decode cX1_init 33 = .ok (.putfield 22, 3) := by decide +kernel
theorem dX1_init_36 : decode cX1_init 36 = .ok (.aload_n 0, 1) := by decide +kernel
theorem dX1_init_37 : decode cX1_init 37 = .ok (.bipush 18, 2) := by decide +kernel
theorem dX1_init_39 : decode cX1_init 39 = .ok (.newarray .int, 2) := by decide +kernel
theorem dX1_init_41 : decode cX1_init 41 = .ok (.putfield 25, 3) := by decide +kernel
theorem dX1_init_44 : decode cX1_init 44 = .ok (.iconst 0, 1) := by decide +kernel
theorem dX1_init_45 : decode cX1_init 45 = .ok (.istore_n 1, 1) := by decide +kernel
theorem dX1_init_46 : decode cX1_init 46 = .ok (.iload_n 1, 1) := by decide +kernel
theorem dX1_init_47 : decode cX1_init 47 = .ok (.bipush 6, 2) := by decide +kernel
theorem dX1_init_49 : decode cX1_init 49 = .ok (.if_icmp .ge 17, 3) := by decide +kernel
theorem dX1_init_52 : decode cX1_init 52 = .ok (.aload_n 0, 1) := by decide +kernel
theorem dX1_init_53 : decode cX1_init 53 = .ok (.getfield 9, 3) := by decide +kernel
theorem dX1_init_56 : decode cX1_init 56 = .ok (.iload_n 1, 1) := by decide +kernel
theorem dX1_init_57 : decode cX1_init 57 = .ok (.bipush 100, 2) := by decide +kernel
theorem dX1_init_59 : decode cX1_init 59 = .ok (.iastore, 1) := by decide +kernel
theorem dX1_init_60 : decode cX1_init 60 = .ok (.iinc 1 1, 3) := by decide +kernel
theorem dX1_init_63 : decode cX1_init 63 = .ok (.goto (-17), 3) := by decide +kernel
theorem dX1_init_66 : decode cX1_init 66 = .ok (.return_, 1) := by decide +kernel
theorem dX1_standsInFor_0 : decode cX1_standsInFor 0 = .ok (.aload_n 0, 1) := by decide +kernel
theorem dX1_standsInFor_1 : decode cX1_standsInFor 1 = .ok (.getfield 15, 3) := by decide +kernel
theorem dX1_standsInFor_4 : decode cX1_standsInFor 4 = .ok (.iload_n 1, 1) := by decide +kernel
theorem dX1_standsInFor_5 : decode cX1_standsInFor 5 = .ok (.bipush 6, 2) := by decide +kernel
theorem dX1_standsInFor_7 : decode cX1_standsInFor 7 = .ok (.imul, 1) := by decide +kernel
theorem dX1_standsInFor_8 : decode cX1_standsInFor 8 = .ok (.iload_n 2, 1) := by decide +kernel
theorem dX1_standsInFor_9 : decode cX1_standsInFor 9 = .ok (.iadd, 1) := by decide +kernel
theorem dX1_standsInFor_10 : decode cX1_standsInFor 10 = .ok (.baload, 1) := by decide +kernel
theorem dX1_standsInFor_11 : decode cX1_standsInFor 11 = .ok (.ireturn, 1) := by decide +kernel
theorem dX1_letStandIn_0 : decode cX1_letStandIn 0 = .ok (.aload_n 0, 1) := by decide +kernel
theorem dX1_letStandIn_1 : decode cX1_letStandIn 1 = .ok (.getfield 15, 3) := by decide +kernel
theorem dX1_letStandIn_4 : decode cX1_letStandIn 4 = .ok (.iload_n 1, 1) := by decide +kernel
theorem dX1_letStandIn_5 : decode cX1_letStandIn 5 = .ok (.bipush 6, 2) := by decide +kernel
theorem dX1_letStandIn_7 : decode cX1_letStandIn 7 = .ok (.imul, 1) := by decide +kernel
theorem dX1_letStandIn_8 : decode cX1_letStandIn 8 = .ok (.iload_n 2, 1) := by decide +kernel
theorem dX1_letStandIn_9 : decode cX1_letStandIn 9 = .ok (.iadd, 1) := by decide +kernel
theorem dX1_letStandIn_10 : decode cX1_letStandIn 10 = .ok (.iload_n 3, 1) := by decide +kernel
theorem dX1_letStandIn_11 : decode cX1_letStandIn 11 = .ok (.bastore, 1) := by decide +kernel
theorem dX1_letStandIn_12 : decode cX1_letStandIn 12 = .ok (.return_, 1) := by decide +kernel
theorem dX1_meets_0 : decode cX1_meets 0 = .ok (.iload_n 1, 1) := by decide +kernel
theorem dX1_meets_1 : decode cX1_meets 1 = .ok (.iload_n 2, 1) := by decide +kernel
theorem dX1_meets_2 : decode cX1_meets 2 = .ok (.if_icmp .eq 12, 3) := by decide +kernel
theorem dX1_meets_5 : decode cX1_meets 5 = .ok (.aload_n 0, 1) := by decide +kernel
theorem dX1_meets_6 : decode cX1_meets 6 = .ok (.iload_n 1, 1) := by decide +kernel
theorem dX1_meets_7 : decode cX1_meets 7 = .ok (.iload_n 2, 1) := by decide +kernel
theorem dX1_meets_8 : decode cX1_meets 8 = .ok (.invokevirtual 28, 3) := by decide +kernel
theorem dX1_meets_11 : decode cX1_meets 11 = .ok (.ifCond .eq 7, 3) := by decide +kernel
theorem dX1_meets_14 : decode cX1_meets 14 = .ok (.iconst 1, 1) := by decide +kernel
theorem dX1_meets_15 : decode cX1_meets 15 = .ok (.goto 4, 3) := by decide +kernel
theorem dX1_meets_18 : decode cX1_meets 18 = .ok (.iconst 0, 1) := by decide +kernel
theorem dX1_meets_19 : decode cX1_meets 19 = .ok (.ireturn, 1) := by decide +kernel
theorem dX1_isInStandIn_0 : decode cX1_isInStandIn 0 = .ok (.iconst 0, 1) := by decide +kernel
theorem dX1_isInStandIn_1 : decode cX1_isInStandIn 1 = .ok (.istore_n 2, 1) := by decide +kernel
theorem dX1_isInStandIn_2 : decode cX1_isInStandIn 2 = .ok (.iload_n 2, 1) := by decide +kernel
theorem dX1_isInStandIn_3 : decode cX1_isInStandIn 3 = .ok (.bipush 6, 2) := by decide +kernel
theorem dX1_isInStandIn_5 : decode cX1_isInStandIn 5 = .ok (.if_icmp .ge 29, 3) := by decide +kernel
theorem dX1_isInStandIn_8 : decode cX1_isInStandIn 8 = .ok (.aload_n 0, 1) := by decide +kernel
theorem dX1_isInStandIn_9 : decode cX1_isInStandIn 9 = .ok (.iload_n 1, 1) := by decide +kernel
theorem dX1_isInStandIn_10 : decode cX1_isInStandIn 10 = .ok (.iload_n 2, 1) := by decide +kernel
theorem dX1_isInStandIn_11 : decode cX1_isInStandIn 11 = .ok (.invokevirtual 28, 3) := by decide +kernel
theorem dX1_isInStandIn_14 : decode cX1_isInStandIn 14 = .ok (.ifCond .ne 12, 3) := by decide +kernel
theorem dX1_isInStandIn_17 : decode cX1_isInStandIn 17 = .ok (.aload_n 0, 1) := by decide +kernel
theorem dX1_isInStandIn_18 : decode cX1_isInStandIn 18 = .ok (.iload_n 2, 1) := by decide +kernel
theorem dX1_isInStandIn_19 : decode cX1_isInStandIn 19 = .ok (.iload_n 1, 1) := by decide +kernel
theorem dX1_isInStandIn_20 : decode cX1_isInStandIn 20 = .ok (.invokevirtual 28, 3) := by decide +kernel
theorem dX1_isInStandIn_23 : decode cX1_isInStandIn 23 = .ok (.ifCond .eq 5, 3) := by decide +kernel
theorem dX1_isInStandIn_26 : decode cX1_isInStandIn 26 = .ok (.iconst 1, 1) := by decide +kernel
theorem dX1_isInStandIn_27 : decode cX1_isInStandIn 27 = .ok (.ireturn, 1) := by decide +kernel
theorem dX1_isInStandIn_28 : decode cX1_isInStandIn 28 = .ok (.iinc 2 1, 3) := by decide +kernel
theorem dX1_isInStandIn_31 : decode cX1_isInStandIn 31 = .ok (.goto (-29), 3) := by decide +kernel
theorem dX1_isInStandIn_34 : decode cX1_isInStandIn 34 = .ok (.iconst 0, 1) := by decide +kernel
theorem dX1_isInStandIn_35 : decode cX1_isInStandIn 35 = .ok (.ireturn, 1) := by decide +kernel
theorem dX1_isKit_0 : decode cX1_isKit 0 = .ok (.aload_n 0, 1) := by decide +kernel
theorem dX1_isKit_1 : decode cX1_isKit 1 = .ok (.getfield 19, 3) := by decide +kernel
theorem dX1_isKit_4 : decode cX1_isKit 4 = .ok (.iload_n 1, 1) := by decide +kernel
theorem dX1_isKit_5 : decode cX1_isKit 5 = .ok (.iaload, 1) := by decide +kernel
theorem dX1_isKit_6 : decode cX1_isKit 6 = .ok (.ifCond .le 7, 3) := by decide +kernel
theorem dX1_isKit_9 : decode cX1_isKit 9 = .ok (.iconst 1, 1) := by decide +kernel
theorem dX1_isKit_10 : decode cX1_isKit 10 = .ok (.goto 4, 3) := by decide +kernel
theorem dX1_isKit_13 : decode cX1_isKit 13 = .ok (.iconst 0, 1) := by decide +kernel
theorem dX1_isKit_14 : decode cX1_isKit 14 = .ok (.ireturn, 1) := by decide +kernel
theorem dX1_hasPart_0 : decode cX1_hasPart 0 = .ok (.iconst 0, 1) := by decide +kernel
theorem dX1_hasPart_1 : decode cX1_hasPart 1 = .ok (.istore_n 3, 1) := by decide +kernel
theorem dX1_hasPart_2 : decode cX1_hasPart 2 = .ok (.iload_n 3, 1) := by decide +kernel
theorem dX1_hasPart_3 : decode cX1_hasPart 3 = .ok (.aload_n 0, 1) := by decide +kernel
theorem dX1_hasPart_4 : decode cX1_hasPart 4 = .ok (.getfield 19, 3) := by decide +kernel
theorem dX1_hasPart_7 : decode cX1_hasPart 7 = .ok (.iload_n 1, 1) := by decide +kernel
theorem dX1_hasPart_8 : decode cX1_hasPart 8 = .ok (.iaload, 1) := by decide +kernel
theorem dX1_hasPart_9 : decode cX1_hasPart 9 = .ok (.if_icmp .ge 25, 3) := by decide +kernel
theorem dX1_hasPart_12 : decode cX1_hasPart 12 = .ok (.aload_n 0, 1) := by decide +kernel
theorem dX1_hasPart_13 : decode cX1_hasPart 13 = .ok (.getfield 22, 3) := by decide +kernel
theorem dX1_hasPart_16 : decode cX1_hasPart 16 = .ok (.iload_n 1, 1) := by decide +kernel
theorem dX1_hasPart_17 : decode cX1_hasPart 17 = .ok (.iconst 3, 1) := by decide +kernel
theorem dX1_hasPart_18 : decode cX1_hasPart 18 = .ok (.imul, 1) := by decide +kernel
theorem dX1_hasPart_19 : decode cX1_hasPart 19 = .ok (.iload_n 3, 1) := by decide +kernel
theorem dX1_hasPart_20 : decode cX1_hasPart 20 = .ok (.iadd, 1) := by decide +kernel
theorem dX1_hasPart_21 : decode cX1_hasPart 21 = .ok (.iaload, 1) := by decide +kernel
theorem dX1_hasPart_22 : decode cX1_hasPart 22 = .ok (.iload_n 2, 1) := by decide +kernel
theorem dX1_hasPart_23 : decode cX1_hasPart 23 = .ok (.if_icmp .ne 5, 3) := by decide +kernel
theorem dX1_hasPart_26 : decode cX1_hasPart 26 = .ok (.iconst 1, 1) := by decide +kernel
theorem dX1_hasPart_27 : decode cX1_hasPart 27 = .ok (.ireturn, 1) := by decide +kernel
theorem dX1_hasPart_28 : decode cX1_hasPart 28 = .ok (.iinc 3 1, 3) := by decide +kernel
theorem dX1_hasPart_31 : decode cX1_hasPart 31 = .ok (.goto (-29), 3) := by decide +kernel
theorem dX1_hasPart_34 : decode cX1_hasPart 34 = .ok (.iconst 0, 1) := by decide +kernel
theorem dX1_hasPart_35 : decode cX1_hasPart 35 = .ok (.ireturn, 1) := by decide +kernel
theorem dX1_isPart_0 : decode cX1_isPart 0 = .ok (.iconst 0, 1) := by decide +kernel
theorem dX1_isPart_1 : decode cX1_isPart 1 = .ok (.istore_n 2, 1) := by decide +kernel
theorem dX1_isPart_2 : decode cX1_isPart 2 = .ok (.iload_n 2, 1) := by decide +kernel
theorem dX1_isPart_3 : decode cX1_isPart 3 = .ok (.bipush 6, 2) := by decide +kernel
theorem dX1_isPart_5 : decode cX1_isPart 5 = .ok (.if_icmp .ge 20, 3) := by decide +kernel
theorem dX1_isPart_8 : decode cX1_isPart 8 = .ok (.aload_n 0, 1) := by decide +kernel
theorem dX1_isPart_9 : decode cX1_isPart 9 = .ok (.iload_n 2, 1) := by decide +kernel
theorem dX1_isPart_10 : decode cX1_isPart 10 = .ok (.iload_n 1, 1) := by decide +kernel
theorem dX1_isPart_11 : decode cX1_isPart 11 = .ok (.invokevirtual 32, 3) := by decide +kernel
theorem dX1_isPart_14 : decode cX1_isPart 14 = .ok (.ifCond .eq 5, 3) := by decide +kernel
theorem dX1_isPart_17 : decode cX1_isPart 17 = .ok (.iconst 1, 1) := by decide +kernel
theorem dX1_isPart_18 : decode cX1_isPart 18 = .ok (.ireturn, 1) := by decide +kernel
theorem dX1_isPart_19 : decode cX1_isPart 19 = .ok (.iinc 2 1, 3) := by decide +kernel
theorem dX1_isPart_22 : decode cX1_isPart 22 = .ok (.goto (-20), 3) := by decide +kernel
theorem dX1_isPart_25 : decode cX1_isPart 25 = .ok (.iconst 0, 1) := by decide +kernel
theorem dX1_isPart_26 : decode cX1_isPart 26 = .ok (.ireturn, 1) := by decide +kernel
theorem dX1_addPart_0 : decode cX1_addPart 0 = .ok (.iload_n 1, 1) := by decide +kernel
theorem dX1_addPart_1 : decode cX1_addPart 1 = .ok (.iconst 3, 1) := by decide +kernel
theorem dX1_addPart_2 : decode cX1_addPart 2 = .ok (.imul, 1) := by decide +kernel
theorem dX1_addPart_3 : decode cX1_addPart 3 = .ok (.aload_n 0, 1) := by decide +kernel
theorem dX1_addPart_4 : decode cX1_addPart 4 = .ok (.getfield 19, 3) := by decide +kernel
theorem dX1_addPart_7 : decode cX1_addPart 7 = .ok (.iload_n 1, 1) := by decide +kernel
theorem dX1_addPart_8 : decode cX1_addPart 8 = .ok (.iaload, 1) := by decide +kernel
theorem dX1_addPart_9 : decode cX1_addPart 9 = .ok (.iadd, 1) := by decide +kernel
theorem dX1_addPart_10 : decode cX1_addPart 10 = .ok (.istore 4, 2) := by decide +kernel
theorem dX1_addPart_12 : decode cX1_addPart 12 = .ok (.aload_n 0, 1) := by decide +kernel
theorem dX1_addPart_13 : decode cX1_addPart 13 = .ok (.getfield 22, 3) := by decide +kernel
theorem dX1_addPart_16 : decode cX1_addPart 16 = .ok (.iload 4, 2) := by decide +kernel
theorem dX1_addPart_18 : decode cX1_addPart 18 = .ok (.iload_n 2, 1) := by decide +kernel
theorem dX1_addPart_19 : decode cX1_addPart 19 = .ok (.iastore, 1) := by decide +kernel
theorem dX1_addPart_20 : decode cX1_addPart 20 = .ok (.aload_n 0, 1) := by decide +kernel
theorem dX1_addPart_21 : decode cX1_addPart 21 = .ok (.getfield 25, 3) := by decide +kernel
theorem dX1_addPart_24 : decode cX1_addPart 24 = .ok (.iload 4, 2) := by decide +kernel
theorem dX1_addPart_26 : decode cX1_addPart 26 = .ok (.iload_n 3, 1) := by decide +kernel
theorem dX1_addPart_27 : decode cX1_addPart 27 = .ok (.iastore, 1) := by decide +kernel
theorem dX1_addPart_28 : decode cX1_addPart 28 = .ok (.aload_n 0, 1) := by decide +kernel
theorem dX1_addPart_29 : decode cX1_addPart 29 = .ok (.getfield 19, 3) := by decide +kernel
theorem dX1_addPart_32 : decode cX1_addPart 32 = .ok (.iload_n 1, 1) := by decide +kernel
theorem dX1_addPart_33 : decode cX1_addPart 33 = .ok (.dup2, 1) := by decide +kernel
theorem dX1_addPart_34 : decode cX1_addPart 34 = .ok (.iaload, 1) := by decide +kernel
theorem dX1_addPart_35 : decode cX1_addPart 35 = .ok (.iconst 1, 1) := by decide +kernel
theorem dX1_addPart_36 : decode cX1_addPart 36 = .ok (.iadd, 1) := by decide +kernel
theorem dX1_addPart_37 : decode cX1_addPart 37 = .ok (.iastore, 1) := by decide +kernel
theorem dX1_addPart_38 : decode cX1_addPart 38 = .ok (.aload_n 0, 1) := by decide +kernel
theorem dX1_addPart_39 : decode cX1_addPart 39 = .ok (.getfield 19, 3) := by decide +kernel
theorem dX1_addPart_42 : decode cX1_addPart 42 = .ok (.iload_n 1, 1) := by decide +kernel
theorem dX1_addPart_43 : decode cX1_addPart 43 = .ok (.iaload, 1) := by decide +kernel
theorem dX1_addPart_44 : decode cX1_addPart 44 = .ok (.ireturn, 1) := by decide +kernel
theorem dX1_demandsOf_0 : decode cX1_demandsOf 0 = .ok (.aload_n 0, 1) := by decide +kernel
theorem dX1_demandsOf_1 : decode cX1_demandsOf 1 = .ok (.iload_n 1, 1) := by decide +kernel
theorem dX1_demandsOf_2 : decode cX1_demandsOf 2 = .ok (.invokevirtual 35, 3) := by decide +kernel
theorem dX1_demandsOf_5 : decode cX1_demandsOf 5 = .ok (.ifCond .eq 12, 3) := by decide +kernel
theorem dX1_demandsOf_8 : decode cX1_demandsOf 8 = .ok (.aload_n 0, 1) := by decide +kernel
theorem dX1_demandsOf_9 : decode cX1_demandsOf 9 = .ok (.getfield 19, 3) := by decide +kernel
theorem dX1_demandsOf_12 : decode cX1_demandsOf 12 = .ok (.iload_n 1, 1) := by decide +kernel
theorem dX1_demandsOf_13 : decode cX1_demandsOf 13 = .ok (.iaload, 1) := by decide +kernel
theorem dX1_demandsOf_14 : decode cX1_demandsOf 14 = .ok (.goto 4, 3) := by decide +kernel
theorem dX1_demandsOf_17 : decode cX1_demandsOf 17 = .ok (.iconst 1, 1) := by decide +kernel
theorem dX1_demandsOf_18 : decode cX1_demandsOf 18 = .ok (.ireturn, 1) := by decide +kernel
theorem dX1_demandGood_0 : decode cX1_demandGood 0 = .ok (.aload_n 0, 1) := by decide +kernel
theorem dX1_demandGood_1 : decode cX1_demandGood 1 = .ok (.iload_n 1, 1) := by decide +kernel
theorem dX1_demandGood_2 : decode cX1_demandGood 2 = .ok (.invokevirtual 35, 3) := by decide +kernel
theorem dX1_demandGood_5 : decode cX1_demandGood 5 = .ok (.ifCond .eq 16, 3) := by decide +kernel
theorem dX1_demandGood_8 : decode cX1_demandGood 8 = .ok (.aload_n 0, 1) := by decide +kernel
theorem dX1_demandGood_9 : decode cX1_demandGood 9 = .ok (.getfield 22, 3) := by decide +kernel
theorem dX1_demandGood_12 : decode cX1_demandGood 12 = .ok (.iload_n 1, 1) := by decide +kernel
theorem dX1_demandGood_13 : decode cX1_demandGood 13 = .ok (.iconst 3, 1) := by decide +kernel
theorem dX1_demandGood_14 : decode cX1_demandGood 14 = .ok (.imul, 1) := by decide +kernel
theorem dX1_demandGood_15 : decode cX1_demandGood 15 = .ok (.iload_n 2, 1) := by decide +kernel
theorem dX1_demandGood_16 : decode cX1_demandGood 16 = .ok (.iadd, 1) := by decide +kernel
theorem dX1_demandGood_17 : decode cX1_demandGood 17 = .ok (.iaload, 1) := by decide +kernel
theorem dX1_demandGood_18 : decode cX1_demandGood 18 = .ok (.goto 4, 3) := by decide +kernel
theorem dX1_demandGood_21 : decode cX1_demandGood 21 = .ok (.iload_n 1, 1) := by decide +kernel
theorem dX1_demandGood_22 : decode cX1_demandGood 22 = .ok (.ireturn, 1) := by decide +kernel
theorem dX1_numberForOne_0 : decode cX1_numberForOne 0 = .ok (.aload_n 0, 1) := by decide +kernel
theorem dX1_numberForOne_1 : decode cX1_numberForOne 1 = .ok (.iload_n 1, 1) := by decide +kernel
theorem dX1_numberForOne_2 : decode cX1_numberForOne 2 = .ok (.invokevirtual 35, 3) := by decide +kernel
theorem dX1_numberForOne_5 : decode cX1_numberForOne 5 = .ok (.ifCond .eq 16, 3) := by decide +kernel
theorem dX1_numberForOne_8 : decode cX1_numberForOne 8 = .ok (.aload_n 0, 1) := by decide +kernel
theorem dX1_numberForOne_9 : decode cX1_numberForOne 9 = .ok (.getfield 25, 3) := by decide +kernel
theorem dX1_numberForOne_12 : decode cX1_numberForOne 12 = .ok (.iload_n 1, 1) := by decide +kernel
theorem dX1_numberForOne_13 : decode cX1_numberForOne 13 = .ok (.iconst 3, 1) := by decide +kernel
theorem dX1_numberForOne_14 : decode cX1_numberForOne 14 = .ok (.imul, 1) := by decide +kernel
theorem dX1_numberForOne_15 : decode cX1_numberForOne 15 = .ok (.iload_n 2, 1) := by decide +kernel
theorem dX1_numberForOne_16 : decode cX1_numberForOne 16 = .ok (.iadd, 1) := by decide +kernel
theorem dX1_numberForOne_17 : decode cX1_numberForOne 17 = .ok (.iaload, 1) := by decide +kernel
theorem dX1_numberForOne_18 : decode cX1_numberForOne 18 = .ok (.goto 4, 3) := by decide +kernel
theorem dX1_numberForOne_21 : decode cX1_numberForOne 21 = .ok (.iconst 1, 1) := by decide +kernel
theorem dX1_numberForOne_22 : decode cX1_numberForOne 22 = .ok (.ireturn, 1) := by decide +kernel
theorem dX2_init_0 : decode cX2_init 0 = .ok (.aload_n 0, 1) := by decide +kernel
theorem dX2_init_1 : decode cX2_init 1 = .ok (.invokespecial 3, 3) := by decide +kernel
theorem dX2_init_4 : decode cX2_init 4 = .ok (.aload_n 0, 1) := by decide +kernel
theorem dX2_init_5 : decode cX2_init 5 = .ok (.iconst 0, 1) := by decide +kernel
theorem dX2_init_6 : decode cX2_init 6 = .ok (.putfield 9, 3) := by decide +kernel
theorem dX2_init_9 : decode cX2_init 9 = .ok (.aload_n 0, 1) := by decide +kernel
theorem dX2_init_10 : decode cX2_init 10 = .ok (.bipush 10, 2) := by decide +kernel
theorem dX2_init_12 : decode cX2_init 12 = .ok (.newarray .int, 2) := by decide +kernel
theorem dX2_init_14 : decode cX2_init 14 = .ok (.putfield 15, 3) := by decide +kernel
theorem dX2_init_17 : decode cX2_init 17 = .ok (.aload_n 0, 1) := by decide +kernel
theorem dX2_init_18 : decode cX2_init 18 = .ok (.bipush 10, 2) := by decide +kernel
theorem dX2_init_20 : decode cX2_init 20 = .ok (.newarray .int, 2) := by decide +kernel
theorem dX2_init_22 : decode cX2_init 22 = .ok (.putfield 19, 3) := by decide +kernel
theorem dX2_init_25 : decode cX2_init 25 = .ok (.aload_n 0, 1) := by decide +kernel
theorem dX2_init_26 : decode cX2_init 26 = .ok (.bipush 10, 2) := by decide +kernel
theorem dX2_init_28 : decode cX2_init 28 = .ok (.newarray .int, 2) := by decide +kernel
theorem dX2_init_30 : decode cX2_init 30 = .ok (.putfield 22, 3) := by decide +kernel
theorem dX2_init_33 : decode cX2_init 33 = .ok (.aload_n 0, 1) := by decide +kernel
theorem dX2_init_34 : decode cX2_init 34 = .ok (.bipush 10, 2) := by decide +kernel
theorem dX2_init_36 : decode cX2_init 36 = .ok (.newarray .int, 2) := by decide +kernel
theorem dX2_init_38 : decode cX2_init 38 = .ok (.putfield 25, 3) := by decide +kernel
theorem dX2_init_41 : decode cX2_init 41 = .ok (.aload_n 0, 1) := by decide +kernel
theorem dX2_init_42 : decode cX2_init 42 = .ok (.bipush 10, 2) := by decide +kernel
theorem dX2_init_44 : decode cX2_init 44 = .ok (.newarray .int, 2) := by decide +kernel
theorem dX2_init_46 : decode cX2_init 46 = .ok (.putfield 28, 3) := by decide +kernel
theorem dX2_init_49 : decode cX2_init 49 = .ok (.aload_n 0, 1) := by decide +kernel
theorem dX2_init_50 : decode cX2_init 50 = .ok (.bipush 10, 2) := by decide +kernel
theorem dX2_init_52 : decode cX2_init 52 = .ok (.newarray .int, 2) := by decide +kernel
theorem dX2_init_54 : decode cX2_init 54 = .ok (.putfield 31, 3) := by decide +kernel
theorem dX2_init_57 : decode cX2_init 57 = .ok (.return_, 1) := by decide +kernel
theorem dX2_write_0 : decode cX2_write 0 = .ok (.aload_n 0, 1) := by decide +kernel
theorem dX2_write_1 : decode cX2_write 1 = .ok (.getfield 15, 3) := by decide +kernel
theorem dX2_write_4 : decode cX2_write 4 = .ok (.aload_n 0, 1) := by decide +kernel
theorem dX2_write_5 : decode cX2_write 5 = .ok (.getfield 9, 3) := by decide +kernel
theorem dX2_write_8 : decode cX2_write 8 = .ok (.iload_n 1, 1) := by decide +kernel
theorem dX2_write_9 : decode cX2_write 9 = .ok (.iastore, 1) := by decide +kernel
theorem dX2_write_10 : decode cX2_write 10 = .ok (.aload_n 0, 1) := by decide +kernel
theorem dX2_write_11 : decode cX2_write 11 = .ok (.getfield 19, 3) := by decide +kernel
theorem dX2_write_14 : decode cX2_write 14 = .ok (.aload_n 0, 1) := by decide +kernel
theorem dX2_write_15 : decode cX2_write 15 = .ok (.getfield 9, 3) := by decide +kernel
theorem dX2_write_18 : decode cX2_write 18 = .ok (.iload_n 2, 1) := by decide +kernel
theorem dX2_write_19 : decode cX2_write 19 = .ok (.iastore, 1) := by decide +kernel
theorem dX2_write_20 : decode cX2_write 20 = .ok (.aload_n 0, 1) := by decide +kernel
theorem dX2_write_21 : decode cX2_write 21 = .ok (.getfield 22, 3) := by decide +kernel
theorem dX2_write_24 : decode cX2_write 24 = .ok (.aload_n 0, 1) := by decide +kernel
theorem dX2_write_25 : decode cX2_write 25 = .ok (.getfield 9, 3) := by decide +kernel
theorem dX2_write_28 : decode cX2_write 28 = .ok (.iload_n 3, 1) := by decide +kernel
theorem dX2_write_29 : decode cX2_write 29 = .ok (.iastore, 1) := by decide +kernel
theorem dX2_write_30 : decode cX2_write 30 = .ok (.aload_n 0, 1) := by decide +kernel
theorem dX2_write_31 : decode cX2_write 31 = .ok (.getfield 25, 3) := by decide +kernel
theorem dX2_write_34 : decode cX2_write 34 = .ok (.aload_n 0, 1) := by decide +kernel
theorem dX2_write_35 : decode cX2_write 35 = .ok (.getfield 9, 3) := by decide +kernel
theorem dX2_write_38 : decode cX2_write 38 = .ok (.iload 4, 2) := by decide +kernel
theorem dX2_write_40 : decode cX2_write 40 = .ok (.iastore, 1) := by decide +kernel
theorem dX2_write_41 : decode cX2_write 41 = .ok (.aload_n 0, 1) := by decide +kernel
theorem dX2_write_42 : decode cX2_write 42 = .ok (.getfield 9, 3) := by decide +kernel
theorem dX2_write_45 : decode cX2_write 45 = .ok (.ireturn, 1) := by decide +kernel
theorem dX2_admit_0 : decode cX2_admit 0 = .ok (.aload_n 0, 1) := by decide +kernel
theorem dX2_admit_1 : decode cX2_admit 1 = .ok (.getfield 9, 3) := by decide +kernel
theorem dX2_admit_4 : decode cX2_admit 4 = .ok (.istore_n 1, 1) := by decide +kernel
theorem dX2_admit_5 : decode cX2_admit 5 = .ok (.iload_n 1, 1) := by decide +kernel
theorem dX2_admit_6 : decode cX2_admit 6 = .ok (.ifCond .le 48, 3) := by decide +kernel
theorem dX2_admit_9 : decode cX2_admit 9 = .ok (.aload_n 0, 1) := by decide +kernel
theorem dX2_admit_10 : decode cX2_admit 10 = .ok (.getfield 25, 3) := by decide +kernel
theorem dX2_admit_13 : decode cX2_admit 13 = .ok (.aload_n 0, 1) := by decide +kernel
theorem dX2_admit_14 : decode cX2_admit 14 = .ok (.getfield 31, 3) := by decide +kernel
theorem dX2_admit_17 : decode cX2_admit 17 = .ok (.iload_n 1, 1) := by decide +kernel
theorem dX2_admit_18 : decode cX2_admit 18 = .ok (.iconst 1, 1) := by decide +kernel
theorem dX2_admit_19 : decode cX2_admit 19 = .ok (.isub, 1) := by decide +kernel
theorem dX2_admit_20 : decode cX2_admit 20 = .ok (.iaload, 1) := by decide +kernel
theorem dX2_admit_21 : decode cX2_admit 21 = .ok (.iaload, 1) := by decide +kernel
theorem dX2_admit_22 : decode cX2_admit 22 = .ok (.aload_n 0, 1) := by decide +kernel
theorem dX2_admit_23 : decode cX2_admit 23 = .ok (.getfield 25, 3) := by decide +kernel
theorem dX2_admit_26 : decode cX2_admit 26 = .ok (.aload_n 0, 1) := by decide +kernel
theorem dX2_admit_27 : decode cX2_admit 27 = .ok (.getfield 9, 3) := by decide +kernel
theorem dX2_admit_30 : decode cX2_admit 30 = .ok (.iaload, 1) := by decide +kernel
theorem dX2_admit_31 : decode cX2_admit 31 = .ok (.if_icmp .le 23, 3) := by decide +kernel
theorem dX2_admit_34 : decode cX2_admit 34 = .ok (.aload_n 0, 1) := by decide +kernel
theorem dX2_admit_35 : decode cX2_admit 35 = .ok (.getfield 31, 3) := by decide +kernel
theorem dX2_admit_38 : decode cX2_admit 38 = .ok (.iload_n 1, 1) := by decide +kernel
theorem dX2_admit_39 : decode cX2_admit 39 = .ok (.aload_n 0, 1) := by decide +kernel
theorem dX2_admit_40 : decode cX2_admit 40 = .ok (.getfield 31, 3) := by decide +kernel
theorem dX2_admit_43 : decode cX2_admit 43 = .ok (.iload_n 1, 1) := by decide +kernel
theorem dX2_admit_44 : decode cX2_admit 44 = .ok (.iconst 1, 1) := by decide +kernel
theorem dX2_admit_45 : decode cX2_admit 45 = .ok (.isub, 1) := by decide +kernel
theorem dX2_admit_46 : decode cX2_admit 46 = .ok (.iaload, 1) := by decide +kernel
theorem dX2_admit_47 : decode cX2_admit 47 = .ok (.iastore, 1) := by decide +kernel
theorem dX2_admit_48 : decode cX2_admit 48 = .ok (.iinc 1 (-1), 3) := by decide +kernel
theorem dX2_admit_51 : decode cX2_admit 51 = .ok (.goto (-46), 3) := by decide +kernel
theorem dX2_admit_54 : decode cX2_admit 54 = .ok (.aload_n 0, 1) := by decide +kernel
theorem dX2_admit_55 : decode cX2_admit 55 = .ok (.getfield 31, 3) := by decide +kernel
theorem dX2_admit_58 : decode cX2_admit 58 = .ok (.iload_n 1, 1) := by decide +kernel
theorem dX2_admit_59 : decode cX2_admit 59 = .ok (.aload_n 0, 1) := by decide +kernel
theorem dX2_admit_60 : decode cX2_admit 60 = .ok (.getfield 9, 3) := by decide +kernel
theorem dX2_admit_63 : decode cX2_admit 63 = .ok (.iastore, 1) := by decide +kernel
theorem dX2_admit_64 : decode cX2_admit 64 = .ok (.aload_n 0, 1) := by decide +kernel
theorem dX2_admit_65 : decode cX2_admit 65 = .ok (.getfield 28, 3) := by decide +kernel
theorem dX2_admit_68 : decode cX2_admit 68 = .ok (.aload_n 0, 1) := by decide +kernel
theorem dX2_admit_69 : decode cX2_admit 69 = .ok (.getfield 9, 3) := by decide +kernel
theorem dX2_admit_72 : decode cX2_admit 72 = .ok (.iconst 0, 1) := by decide +kernel
theorem dX2_admit_73 : decode cX2_admit 73 = .ok (.iastore, 1) := by decide +kernel
theorem dX2_admit_74 : decode cX2_admit 74 = .ok (.aload_n 0, 1) := by decide +kernel
theorem dX2_admit_75 : decode cX2_admit 75 = .ok (.dup, 1) := by decide +kernel
theorem dX2_admit_76 : decode cX2_admit 76 = .ok (.getfield 9, 3) := by decide +kernel
theorem dX2_admit_79 : decode cX2_admit 79 = .ok (.iconst 1, 1) := by decide +kernel
theorem dX2_admit_80 : decode cX2_admit 80 = .ok (.iadd, 1) := by decide +kernel
theorem dX2_admit_81 : decode cX2_admit 81 = .ok (.putfield 9, 3) := by decide +kernel
theorem dX2_admit_84 : decode cX2_admit 84 = .ok (.return_, 1) := by decide +kernel
theorem dX2_has_0 : decode cX2_has 0 = .ok (.iconst 0, 1) := by decide +kernel
theorem dX2_has_1 : decode cX2_has 1 = .ok (.istore_n 2, 1) := by decide +kernel
theorem dX2_has_2 : decode cX2_has 2 = .ok (.iload_n 2, 1) := by decide +kernel
theorem dX2_has_3 : decode cX2_has 3 = .ok (.aload_n 0, 1) := by decide +kernel
theorem dX2_has_4 : decode cX2_has 4 = .ok (.getfield 9, 3) := by decide +kernel
theorem dX2_has_7 : decode cX2_has 7 = .ok (.if_icmp .ge 21, 3) := by decide +kernel
theorem dX2_has_10 : decode cX2_has 10 = .ok (.aload_n 0, 1) := by decide +kernel
theorem dX2_has_11 : decode cX2_has 11 = .ok (.getfield 19, 3) := by decide +kernel
theorem dX2_has_14 : decode cX2_has 14 = .ok (.iload_n 2, 1) := by decide +kernel
theorem dX2_has_15 : decode cX2_has 15 = .ok (.iaload, 1) := by decide +kernel
theorem dX2_has_16 : decode cX2_has 16 = .ok (.iload_n 1, 1) := by decide +kernel
theorem dX2_has_17 : decode cX2_has 17 = .ok (.if_icmp .ne 5, 3) := by decide +kernel
theorem dX2_has_20 : decode cX2_has 20 = .ok (.iconst 1, 1) := by decide +kernel
theorem dX2_has_21 : decode cX2_has 21 = .ok (.ireturn, 1) := by decide +kernel
theorem dX2_has_22 : decode cX2_has 22 = .ok (.iinc 2 1, 3) := by decide +kernel
theorem dX2_has_25 : decode cX2_has 25 = .ok (.goto (-23), 3) := by decide +kernel
theorem dX2_has_28 : decode cX2_has 28 = .ok (.iconst 0, 1) := by decide +kernel
theorem dX2_has_29 : decode cX2_has 29 = .ok (.ireturn, 1) := by decide +kernel
theorem dX2_numberIn_0 : decode cX2_numberIn 0 = .ok (.iconst 0, 1) := by decide +kernel
theorem dX2_numberIn_1 : decode cX2_numberIn 1 = .ok (.istore_n 2, 1) := by decide +kernel
theorem dX2_numberIn_2 : decode cX2_numberIn 2 = .ok (.iconst 0, 1) := by decide +kernel
theorem dX2_numberIn_3 : decode cX2_numberIn 3 = .ok (.istore_n 3, 1) := by decide +kernel
theorem dX2_numberIn_4 : decode cX2_numberIn 4 = .ok (.iload_n 3, 1) := by decide +kernel
theorem dX2_numberIn_5 : decode cX2_numberIn 5 = .ok (.aload_n 0, 1) := by decide +kernel
theorem dX2_numberIn_6 : decode cX2_numberIn 6 = .ok (.getfield 9, 3) := by decide +kernel
theorem dX2_numberIn_9 : decode cX2_numberIn 9 = .ok (.if_icmp .ge 22, 3) := by decide +kernel
theorem dX2_numberIn_12 : decode cX2_numberIn 12 = .ok (.aload_n 0, 1) := by decide +kernel
theorem dX2_numberIn_13 : decode cX2_numberIn 13 = .ok (.getfield 28, 3) := by decide +kernel
theorem dX2_numberIn_16 : decode cX2_numberIn 16 = .ok (.iload_n 3, 1) := by decide +kernel
theorem dX2_numberIn_17 : decode cX2_numberIn 17 = .ok (.iaload, 1) := by decide +kernel
theorem dX2_numberIn_18 : decode cX2_numberIn 18 = .ok (.iload_n 1, 1) := by decide +kernel
theorem dX2_numberIn_19 : decode cX2_numberIn 19 = .ok (.if_icmp .ne 6, 3) := by decide +kernel
theorem dX2_numberIn_22 : decode cX2_numberIn 22 = .ok (.iinc 2 1, 3) := by decide +kernel
theorem dX2_numberIn_25 : decode cX2_numberIn 25 = .ok (.iinc 3 1, 3) := by decide +kernel
theorem dX2_numberIn_28 : decode cX2_numberIn 28 = .ok (.goto (-24), 3) := by decide +kernel
theorem dX2_numberIn_31 : decode cX2_numberIn 31 = .ok (.iload_n 2, 1) := by decide +kernel
theorem dX2_numberIn_32 : decode cX2_numberIn 32 = .ok (.ireturn, 1) := by decide +kernel
theorem dX3_init_0 : decode cX3_init 0 = .ok (.aload_n 0, 1) := by decide +kernel
theorem dX3_init_1 : decode cX3_init 1 = .ok (.invokespecial 3, 3) := by decide +kernel
theorem dX3_init_4 : decode cX3_init 4 = .ok (.aload_n 0, 1) := by decide +kernel
theorem dX3_init_5 : decode cX3_init 5 = .ok (.iconst 0, 1) := by decide +kernel
theorem dX3_init_6 : decode cX3_init 6 = .ok (.putfield 9, 3) := by decide +kernel
theorem dX3_init_9 : decode cX3_init 9 = .ok (.aload_n 0, 1) := by decide +kernel
theorem dX3_init_10 : decode cX3_init 10 = .ok (.bipush 10, 2) := by decide +kernel
theorem dX3_init_12 : decode cX3_init 12 = .ok (.newarray .int, 2) := by decide +kernel
theorem dX3_init_14 : decode cX3_init 14 = .ok (.putfield 15, 3) := by decide +kernel
theorem dX3_init_17 : decode cX3_init 17 = .ok (.aload_n 0, 1) := by decide +kernel
theorem dX3_init_18 : decode cX3_init 18 = .ok (.bipush 10, 2) := by decide +kernel
theorem dX3_init_20 : decode cX3_init 20 = .ok (.newarray .int, 2) := by decide +kernel
theorem dX3_init_22 : decode cX3_init 22 = .ok (.putfield 19, 3) := by decide +kernel
theorem dX3_init_25 : decode cX3_init 25 = .ok (.aload_n 0, 1) := by decide +kernel
theorem dX3_init_26 : decode cX3_init 26 = .ok (.sipush 310, 3) := by decide +kernel
theorem dX3_init_29 : decode cX3_init 29 = .ok (.newarray .int, 2) := by decide +kernel
theorem dX3_init_31 : decode cX3_init 31 = .ok (.putfield 22, 3) := by decide +kernel
theorem dX3_init_34 : decode cX3_init 34 = .ok (.aload_n 0, 1) := by decide +kernel
theorem dX3_init_35 : decode cX3_init 35 = .ok (.bipush 31, 2) := by decide +kernel
theorem dX3_init_37 : decode cX3_init 37 = .ok (.newarray .int, 2) := by decide +kernel
theorem dX3_init_39 : decode cX3_init 39 = .ok (.putfield 25, 3) := by decide +kernel
theorem dX3_init_42 : decode cX3_init 42 = .ok (.aload_n 0, 1) := by decide +kernel
theorem dX3_init_43 : decode cX3_init 43 = .ok (.bipush 10, 2) := by decide +kernel
theorem dX3_init_45 : decode cX3_init 45 = .ok (.newarray .int, 2) := by decide +kernel
theorem dX3_init_47 : decode cX3_init 47 = .ok (.putfield 28, 3) := by decide +kernel
theorem dX3_init_50 : decode cX3_init 50 = .ok (.aload_n 0, 1) := by decide +kernel
theorem dX3_init_51 : decode cX3_init 51 = .ok (.sipush 310, 3) := by decide +kernel
theorem dX3_init_54 : decode cX3_init 54 = .ok (.newarray .int, 2) := by decide +kernel
theorem dX3_init_56 : decode cX3_init 56 = .ok (.putfield 31, 3) := by decide +kernel
theorem dX3_init_59 : decode cX3_init 59 = .ok (.aload_n 0, 1) := by decide +kernel
theorem dX3_init_60 : decode cX3_init 60 = .ok (.bipush 10, 2) := by decide +kernel
theorem dX3_init_62 : decode cX3_init 62 = .ok (.newarray .int, 2) := by decide +kernel
theorem dX3_init_64 : decode cX3_init 64 = .ok (.putfield 34, 3) := by decide +kernel
theorem dX3_init_67 : decode cX3_init 67 = .ok (.aload_n 0, 1) := by decide +kernel
theorem dX3_init_68 : decode cX3_init 68 = .ok (.bipush 10, 2) := by decide +kernel
theorem dX3_init_70 : decode cX3_init 70 = .ok (.newarray .int, 2) := by decide +kernel
theorem dX3_init_72 : decode cX3_init 72 = .ok (.putfield 37, 3) := by decide +kernel
theorem dX3_init_75 : decode cX3_init 75 = .ok (.aload_n 0, 1) := by decide +kernel
theorem dX3_init_76 : decode cX3_init 76 = .ok (.bipush 10, 2) := by decide +kernel
theorem dX3_init_78 : decode cX3_init 78 = .ok (.newarray .int, 2) := by decide +kernel
theorem dX3_init_80 : decode cX3_init 80 = .ok (.putfield 40, 3) := by decide +kernel
theorem dX3_init_83 : decode cX3_init 83 = .ok (.return_, 1) := by decide +kernel
theorem dX3_clear_0 : decode cX3_clear 0 = .ok (.aload_n 0, 1) := by decide +kernel
theorem dX3_clear_1 : decode cX3_clear 1 = .ok (.aload_n 1, 1) := by decide +kernel
theorem dX3_clear_2 : decode cX3_clear 2 = .ok (.getfield 43, 3) := by decide +kernel
theorem dX3_clear_5 : decode cX3_clear 5 = .ok (.putfield 9, 3) := by decide +kernel
theorem dX3_clear_8 : decode cX3_clear 8 = .ok (.aload_n 1, 1) := by decide +kernel
theorem dX3_clear_9 : decode cX3_clear 9 = .ok (.aload_n 0, 1) := by decide +kernel
theorem dX3_clear_10 : decode cX3_clear 10 = .ok (.getfield 15, 3) := by decide +kernel
theorem dX3_clear_13 : decode cX3_clear 13 = .ok (.invokevirtual 48, 3) := by decide +kernel
theorem dX3_clear_16 : decode cX3_clear 16 = .ok (.iconst 0, 1) := by decide +kernel
theorem dX3_clear_17 : decode cX3_clear 17 = .ok (.istore_n 2, 1) := by decide +kernel
theorem dX3_clear_18 : decode cX3_clear 18 = .ok (.iload_n 2, 1) := by decide +kernel
theorem dX3_clear_19 : decode cX3_clear 19 = .ok (.aload_n 0, 1) := by decide +kernel
theorem dX3_clear_20 : decode cX3_clear 20 = .ok (.getfield 9, 3) := by decide +kernel
theorem dX3_clear_23 : decode cX3_clear 23 = .ok (.if_icmp .ge 20, 3) := by decide +kernel
theorem dX3_clear_26 : decode cX3_clear 26 = .ok (.aload_n 0, 1) := by decide +kernel
theorem dX3_clear_27 : decode cX3_clear 27 = .ok (.getfield 19, 3) := by decide +kernel
theorem dX3_clear_30 : decode cX3_clear 30 = .ok (.iload_n 2, 1) := by decide +kernel
theorem dX3_clear_31 : decode cX3_clear 31 = .ok (.aload_n 1, 1) := by decide +kernel
theorem dX3_clear_32 : decode cX3_clear 32 = .ok (.iload_n 2, 1) := by decide +kernel
theorem dX3_clear_33 : decode cX3_clear 33 = .ok (.invokevirtual 52, 3) := by decide +kernel
theorem dX3_clear_36 : decode cX3_clear 36 = .ok (.iastore, 1) := by decide +kernel
theorem dX3_clear_37 : decode cX3_clear 37 = .ok (.iinc 2 1, 3) := by decide +kernel
theorem dX3_clear_40 : decode cX3_clear 40 = .ok (.goto (-22), 3) := by decide +kernel
theorem dX3_clear_43 : decode cX3_clear 43 = .ok (.iconst 0, 1) := by decide +kernel
theorem dX3_clear_44 : decode cX3_clear 44 = .ok (.istore_n 2, 1) := by decide +kernel
theorem dX3_clear_45 : decode cX3_clear 45 = .ok (.iload_n 2, 1) := by decide +kernel
theorem dX3_clear_46 : decode cX3_clear 46 = .ok (.aload_n 0, 1) := by decide +kernel
theorem dX3_clear_47 : decode cX3_clear 47 = .ok (.getfield 22, 3) := by decide +kernel
theorem dX3_clear_50 : decode cX3_clear 50 = .ok (.arraylength, 1) := by decide +kernel
theorem dX3_clear_51 : decode cX3_clear 51 = .ok (.if_icmp .ge 16, 3) := by decide +kernel
theorem dX3_clear_54 : decode cX3_clear 54 = .ok (.aload_n 0, 1) := by decide +kernel
theorem dX3_clear_55 : decode cX3_clear 55 = .ok (.getfield 22, 3) := by decide +kernel
theorem dX3_clear_58 : decode cX3_clear 58 = .ok (.iload_n 2, 1) := by decide +kernel
theorem dX3_clear_59 : decode cX3_clear 59 = .ok (.iconst 0, 1) := by decide +kernel
theorem dX3_clear_60 : decode cX3_clear 60 = .ok (.iastore, 1) := by decide +kernel
theorem dX3_clear_61 : decode cX3_clear 61 = .ok (.iinc 2 1, 3) := by decide +kernel
theorem dX3_clear_64 : decode cX3_clear 64 = .ok (.goto (-19), 3) := by decide +kernel
theorem dX3_clear_67 : decode cX3_clear 67 = .ok (.return_, 1) := by decide +kernel
theorem dX3_save_0 : decode cX3_save 0 = .ok (.aload_n 0, 1) := by decide +kernel
theorem dX3_save_1 : decode cX3_save 1 = .ok (.getfield 19, 3) := by decide +kernel
theorem dX3_save_4 : decode cX3_save 4 = .ok (.iconst 0, 1) := by decide +kernel
theorem dX3_save_5 : decode cX3_save 5 = .ok (.aload_n 0, 1) := by decide +kernel
theorem dX3_save_6 : decode cX3_save 6 = .ok (.getfield 28, 3) := by decide +kernel
theorem dX3_save_9 : decode cX3_save 9 = .ok (.iconst 0, 1) := by decide +kernel
theorem dX3_save_10 : decode cX3_save 10 = .ok (.bipush 10, 2) := by decide +kernel
theorem dX3_save_12 : decode cX3_save 12 = .ok (.invokestatic 56, 3) := by decide +kernel
theorem dX3_save_15 : decode cX3_save 15 = .ok (.aload_n 0, 1) := by decide +kernel
theorem dX3_save_16 : decode cX3_save 16 = .ok (.getfield 22, 3) := by decide +kernel
theorem dX3_save_19 : decode cX3_save 19 = .ok (.iconst 0, 1) := by decide +kernel
theorem dX3_save_20 : decode cX3_save 20 = .ok (.aload_n 0, 1) := by decide +kernel
theorem dX3_save_21 : decode cX3_save 21 = .ok (.getfield 31, 3) := by decide +kernel
theorem dX3_save_24 : decode cX3_save 24 = .ok (.iconst 0, 1) := by decide +kernel
theorem dX3_save_25 : decode cX3_save 25 = .ok (.sipush 310, 3) := by decide +kernel
theorem dX3_save_28 : decode cX3_save 28 = .ok (.invokestatic 56, 3) := by decide +kernel
theorem dX3_save_31 : decode cX3_save 31 = .ok (.return_, 1) := by decide +kernel
theorem dX3_restore_0 : decode cX3_restore 0 = .ok (.aload_n 0, 1) := by decide +kernel
theorem dX3_restore_1 : decode cX3_restore 1 = .ok (.getfield 28, 3) := by decide +kernel
theorem dX3_restore_4 : decode cX3_restore 4 = .ok (.iconst 0, 1) := by decide +kernel
theorem dX3_restore_5 : decode cX3_restore 5 = .ok (.aload_n 0, 1) := by decide +kernel
theorem dX3_restore_6 : decode cX3_restore 6 = .ok (.getfield 19, 3) := by decide +kernel
theorem dX3_restore_9 : decode cX3_restore 9 = .ok (.iconst 0, 1) := by decide +kernel
theorem dX3_restore_10 : decode cX3_restore 10 = .ok (.bipush 10, 2) := by decide +kernel
