theorem dX5_order_145 : decode cX5_order 145 = .ok (.aload_n 0, 1) := by decide +kernel
theorem dX5_order_146 : decode cX5_order 146 = .ok (.dup, 1) := by decide +kernel
theorem dX5_order_147 : decode cX5_order 147 = .ok (.getfield 109, 3) := by decide +kernel
theorem dX5_order_150 : decode cX5_order 150 = .ok (.iconst 1, 1) := by decide +kernel
theorem dX5_order_151 : decode cX5_order 151 = .ok (.iadd, 1) := by decide +kernel
theorem dX5_order_152 : decode cX5_order 152 = .ok (.putfield 109, 3) := by decide +kernel
theorem dX5_order_155 : decode cX5_order 155 = .ok (.aload_n 0, 1) := by decide +kernel
theorem dX5_order_156 : decode cX5_order 156 = .ok (.getfield 109, 3) := by decide +kernel
theorem dX5_order_159 : decode cX5_order 159 = .ok (.iconst 1, 1) := by decide +kernel
theorem dX5_order_160 : decode cX5_order 160 = .ok (.isub, 1) := by decide +kernel
theorem dX5_order_161 : decode cX5_order 161 = .ok (.ireturn, 1) := by decide +kernel
theorem dX5_close_0 : decode cX5_close 0 = .ok (.aload_n 0, 1) := by decide +kernel
theorem dX5_close_1 : decode cX5_close 1 = .ok (.aload_n 0, 1) := by decide +kernel
theorem dX5_close_2 : decode cX5_close 2 = .ok (.iload_n 1, 1) := by decide +kernel
theorem dX5_close_3 : decode cX5_close 3 = .ok (.invokevirtual 148, 3) := by decide +kernel
theorem dX5_close_6 : decode cX5_close 6 = .ok (.ifCond .ne 7, 3) := by decide +kernel
theorem dX5_close_9 : decode cX5_close 9 = .ok (.iconst 1, 1) := by decide +kernel
theorem dX5_close_10 : decode cX5_close 10 = .ok (.goto 4, 3) := by decide +kernel
theorem dX5_close_13 : decode cX5_close 13 = .ok (.iconst 0, 1) := by decide +kernel
theorem dX5_close_14 : decode cX5_close 14 = .ok (.putfield 83, 3) := by decide +kernel
theorem dX5_close_17 : decode cX5_close 17 = .ok (.aload_n 0, 1) := by decide +kernel
theorem dX5_close_18 : decode cX5_close 18 = .ok (.getfield 83, 3) := by decide +kernel
theorem dX5_close_21 : decode cX5_close 21 = .ok (.ifCond .ne 22, 3) := by decide +kernel
theorem dX5_close_24 : decode cX5_close 24 = .ok (.aload_n 0, 1) := by decide +kernel
theorem dX5_close_25 : decode cX5_close 25 = .ok (.aload_n 0, 1) := by decide +kernel
theorem dX5_close_26 : decode cX5_close 26 = .ok (.getfield 49, 3) := by decide +kernel
theorem dX5_close_29 : decode cX5_close 29 = .ok (.iload_n 1, 1) := by decide +kernel
theorem dX5_close_30 : decode cX5_close 30 = .ok (.iaload, 1) := by decide +kernel
theorem dX5_close_31 : decode cX5_close 31 = .ok (.iconst 2, 1) := by decide +kernel
theorem dX5_close_32 : decode cX5_close 32 = .ok (.if_icmp .ne 7, 3) := by decide +kernel
theorem dX5_close_35 : decode cX5_close 35 = .ok (.iconst 2, 1) := by decide +kernel
theorem dX5_close_36 : decode cX5_close 36 = .ok (.goto 4, 3) := by decide +kernel
theorem dX5_close_39 : decode cX5_close 39 = .ok (.iconst 0, 1) := by decide +kernel
theorem dX5_close_40 : decode cX5_close 40 = .ok (.putfield 83, 3) := by decide +kernel
theorem dX5_close_43 : decode cX5_close 43 = .ok (.aload_n 0, 1) := by decide +kernel
theorem dX5_close_44 : decode cX5_close 44 = .ok (.getfield 83, 3) := by decide +kernel
theorem dX5_close_47 : decode cX5_close 47 = .ok (.ifCond .le 5, 3) := by decide +kernel
theorem dX5_close_50 : decode cX5_close 50 = .ok (.iconst 0, 1) := by decide +kernel
theorem dX5_close_51 : decode cX5_close 51 = .ok (.ireturn, 1) := by decide +kernel
theorem dX5_close_52 : decode cX5_close 52 = .ok (.aload_n 0, 1) := by decide +kernel
theorem dX5_close_53 : decode cX5_close 53 = .ok (.getfield 49, 3) := by decide +kernel
theorem dX5_close_56 : decode cX5_close 56 = .ok (.iload_n 1, 1) := by decide +kernel
theorem dX5_close_57 : decode cX5_close 57 = .ok (.iconst 2, 1) := by decide +kernel
theorem dX5_close_58 : decode cX5_close 58 = .ok (.iastore, 1) := by decide +kernel
theorem dX5_close_59 : decode cX5_close 59 = .ok (.aload_n 0, 1) := by decide +kernel
theorem dX5_close_60 : decode cX5_close 60 = .ok (.invokevirtual 132, 3) := by decide +kernel
theorem dX5_close_63 : decode cX5_close 63 = .ok (.ireturn, 1) := by decide +kernel
theorem dX5_greatest_0 : decode cX5_greatest 0 = .ok (.aload_n 0, 1) := by decide +kernel
theorem dX5_greatest_1 : decode cX5_greatest 1 = .ok (.invokevirtual 145, 3) := by decide +kernel
theorem dX5_greatest_4 : decode cX5_greatest 4 = .ok (.aload_n 0, 1) := by decide +kernel
theorem dX5_greatest_5 : decode cX5_greatest 5 = .ok (.getfield 94, 3) := by decide +kernel
theorem dX5_greatest_8 : decode cX5_greatest 8 = .ok (.istore_n 3, 1) := by decide +kernel
theorem dX5_greatest_9 : decode cX5_greatest 9 = .ok (.aload_n 0, 1) := by decide +kernel
theorem dX5_greatest_10 : decode cX5_greatest 10 = .ok (.iconst (-1), 1) := by decide +kernel
theorem dX5_greatest_11 : decode cX5_greatest 11 = .ok (.iload_n 1, 1) := by decide +kernel
theorem dX5_greatest_12 : decode cX5_greatest 12 = .ok (.iconst 0, 1) := by decide +kernel
theorem dX5_greatest_13 : decode cX5_greatest 13 = .ok (.iload_n 2, 1) := by decide +kernel
theorem dX5_greatest_14 : decode cX5_greatest 14 = .ok (.invokevirtual 116, 3) := by decide +kernel
theorem dX5_greatest_17 : decode cX5_greatest 17 = .ok (.ldc2_w 151, 3) := by decide +kernel
theorem dX5_greatest_20 : decode cX5_greatest 20 = .ok (.lstore 4, 2) := by decide +kernel
theorem dX5_greatest_22 : decode cX5_greatest 22 = .ok (.iconst 0, 1) := by decide +kernel
theorem dX5_greatest_23 : decode cX5_greatest 23 = .ok (.istore 6, 2) := by decide +kernel
theorem dX5_greatest_25 : decode cX5_greatest 25 = .ok (.iload 6, 2) := by decide +kernel
theorem dX5_greatest_27 : decode cX5_greatest 27 = .ok (.iconst 1, 1) := by decide +kernel
theorem dX5_greatest_28 : decode cX5_greatest 28 = .ok (.aload_n 0, 1) := by decide +kernel
theorem dX5_greatest_29 : decode cX5_greatest 29 = .ok (.getfield 91, 3) := by decide +kernel
theorem dX5_greatest_32 : decode cX5_greatest 32 = .ok (.ishl, 1) := by decide +kernel
theorem dX5_greatest_33 : decode cX5_greatest 33 = .ok (.if_icmp .ge 109, 3) := by decide +kernel
theorem dX5_greatest_36 : decode cX5_greatest 36 = .ok (.lconst 0, 1) := by decide +kernel
theorem dX5_greatest_37 : decode cX5_greatest 37 = .ok (.lstore 7, 2) := by decide +kernel
theorem dX5_greatest_39 : decode cX5_greatest 39 = .ok (.iload_n 3, 1) := by decide +kernel
theorem dX5_greatest_40 : decode cX5_greatest 40 = .ok (.istore 9, 2) := by decide +kernel
theorem dX5_greatest_42 : decode cX5_greatest 42 = .ok (.iload 9, 2) := by decide +kernel
theorem dX5_greatest_44 : decode cX5_greatest 44 = .ok (.aload_n 0, 1) := by decide +kernel
theorem dX5_greatest_45 : decode cX5_greatest 45 = .ok (.getfield 94, 3) := by decide +kernel
theorem dX5_greatest_48 : decode cX5_greatest 48 = .ok (.if_icmp .ge 55, 3) := by decide +kernel
theorem dX5_greatest_51 : decode cX5_greatest 51 = .ok (.aload_n 0, 1) := by decide +kernel
theorem dX5_greatest_52 : decode cX5_greatest 52 = .ok (.getfield 62, 3) := by decide +kernel
theorem dX5_greatest_55 : decode cX5_greatest 55 = .ok (.iload 9, 2) := by decide +kernel
theorem dX5_greatest_57 : decode cX5_greatest 57 = .ok (.iaload, 1) := by decide +kernel
theorem dX5_greatest_58 : decode cX5_greatest 58 = .ok (.iload 6, 2) := by decide +kernel
theorem dX5_greatest_60 : decode cX5_greatest 60 = .ok (.iconst (-1), 1) := by decide +kernel
theorem dX5_greatest_61 : decode cX5_greatest 61 = .ok (.ixor, 1) := by decide +kernel
theorem dX5_greatest_62 : decode cX5_greatest 62 = .ok (.iand, 1) := by decide +kernel
theorem dX5_greatest_63 : decode cX5_greatest 63 = .ok (.ifCond .ne 34, 3) := by decide +kernel
theorem dX5_greatest_66 : decode cX5_greatest 66 = .ok (.lload 7, 2) := by decide +kernel
theorem dX5_greatest_68 : decode cX5_greatest 68 = .ok (.aload_n 0, 1) := by decide +kernel
theorem dX5_greatest_69 : decode cX5_greatest 69 = .ok (.iload_n 1, 1) := by decide +kernel
theorem dX5_greatest_70 : decode cX5_greatest 70 = .ok (.invokevirtual 101, 3) := by decide +kernel
theorem dX5_greatest_73 : decode cX5_greatest 73 = .ok (.ifCond .eq 20, 3) := by decide +kernel
theorem dX5_greatest_76 : decode cX5_greatest 76 = .ok (.aload_n 0, 1) := by decide +kernel
theorem dX5_greatest_77 : decode cX5_greatest 77 = .ok (.getfield 22, 3) := by decide +kernel
theorem dX5_greatest_80 : decode cX5_greatest 80 = .ok (.iconst 3, 1) := by decide +kernel
theorem dX5_greatest_81 : decode cX5_greatest 81 = .ok (.iload_n 1, 1) := by decide +kernel
theorem dX5_greatest_82 : decode cX5_greatest 82 = .ok (.imul, 1) := by decide +kernel
theorem dX5_greatest_83 : decode cX5_greatest 83 = .ok (.iload 9, 2) := by decide +kernel
theorem dX5_greatest_85 : decode cX5_greatest 85 = .ok (.iadd, 1) := by decide +kernel
theorem dX5_greatest_86 : decode cX5_greatest 86 = .ok (.iload_n 3, 1) := by decide +kernel
theorem dX5_greatest_87 : decode cX5_greatest 87 = .ok (.isub, 1) := by decide +kernel
theorem dX5_greatest_88 : decode cX5_greatest 88 = .ok (.iaload, 1) := by decide +kernel
theorem dX5_greatest_89 : decode cX5_greatest 89 = .ok (.i2l, 1) := by decide +kernel
theorem dX5_greatest_90 : decode cX5_greatest 90 = .ok (.goto 4, 3) := by decide +kernel
theorem dX5_greatest_93 : decode cX5_greatest 93 = .ok (.lconst 1, 1) := by decide +kernel
theorem dX5_greatest_94 : decode cX5_greatest 94 = .ok (.ladd, 1) := by decide +kernel
theorem dX5_greatest_95 : decode cX5_greatest 95 = .ok (.lstore 7, 2) := by decide +kernel
theorem dX5_greatest_97 : decode cX5_greatest 97 = .ok (.iinc 9 1, 3) := by decide +kernel
theorem dX5_greatest_100 : decode cX5_greatest 100 = .ok (.goto (-58), 3) := by decide +kernel
theorem dX5_greatest_103 : decode cX5_greatest 103 = .ok (.lload 7, 2) := by decide +kernel
theorem dX5_greatest_105 : decode cX5_greatest 105 = .ok (.lconst 0, 1) := by decide +kernel
theorem dX5_greatest_106 : decode cX5_greatest 106 = .ok (.lcmp, 1) := by decide +kernel
theorem dX5_greatest_107 : decode cX5_greatest 107 = .ok (.ifCond .le 29, 3) := by decide +kernel
theorem dX5_greatest_110 : decode cX5_greatest 110 = .ok (.aload_n 0, 1) := by decide +kernel
theorem dX5_greatest_111 : decode cX5_greatest 111 = .ok (.iload 6, 2) := by decide +kernel
theorem dX5_greatest_113 : decode cX5_greatest 113 = .ok (.invokevirtual 120, 3) := by decide +kernel
theorem dX5_greatest_116 : decode cX5_greatest 116 = .ok (.lload 7, 2) := by decide +kernel
theorem dX5_greatest_118 : decode cX5_greatest 118 = .ok (.ldiv, 1) := by decide +kernel
theorem dX5_greatest_119 : decode cX5_greatest 119 = .ok (.lload 4, 2) := by decide +kernel
theorem dX5_greatest_121 : decode cX5_greatest 121 = .ok (.lcmp, 1) := by decide +kernel
theorem dX5_greatest_122 : decode cX5_greatest 122 = .ok (.ifCond .ge 14, 3) := by decide +kernel
theorem dX5_greatest_125 : decode cX5_greatest 125 = .ok (.aload_n 0, 1) := by decide +kernel
theorem dX5_greatest_126 : decode cX5_greatest 126 = .ok (.iload 6, 2) := by decide +kernel
theorem dX5_greatest_128 : decode cX5_greatest 128 = .ok (.invokevirtual 120, 3) := by decide +kernel
theorem dX5_greatest_131 : decode cX5_greatest 131 = .ok (.lload 7, 2) := by decide +kernel
theorem dX5_greatest_133 : decode cX5_greatest 133 = .ok (.ldiv, 1) := by decide +kernel
theorem dX5_greatest_134 : decode cX5_greatest 134 = .ok (.lstore 4, 2) := by decide +kernel
theorem dX5_greatest_136 : decode cX5_greatest 136 = .ok (.iinc 6 1, 3) := by decide +kernel
theorem dX5_greatest_139 : decode cX5_greatest 139 = .ok (.goto (-114), 3) := by decide +kernel
theorem dX5_greatest_142 : decode cX5_greatest 142 = .ok (.aload_n 0, 1) := by decide +kernel
theorem dX5_greatest_143 : decode cX5_greatest 143 = .ok (.iload_n 3, 1) := by decide +kernel
theorem dX5_greatest_144 : decode cX5_greatest 144 = .ok (.putfield 94, 3) := by decide +kernel
theorem dX5_greatest_147 : decode cX5_greatest 147 = .ok (.lload 4, 2) := by decide +kernel
theorem dX5_greatest_149 : decode cX5_greatest 149 = .ok (.l2i, 1) := by decide +kernel
theorem dX5_greatest_150 : decode cX5_greatest 150 = .ok (.ireturn, 1) := by decide +kernel
theorem dX5_promise_0 : decode cX5_promise 0 = .ok (.aload_n 0, 1) := by decide +kernel
theorem dX5_promise_1 : decode cX5_promise 1 = .ok (.iload_n 1, 1) := by decide +kernel
theorem dX5_promise_2 : decode cX5_promise 2 = .ok (.invokestatic 128, 3) := by decide +kernel
theorem dX5_promise_5 : decode cX5_promise 5 = .ok (.ifCond .eq 17, 3) := by decide +kernel
theorem dX5_promise_8 : decode cX5_promise 8 = .ok (.iload_n 2, 1) := by decide +kernel
theorem dX5_promise_9 : decode cX5_promise 9 = .ok (.iconst 0, 1) := by decide +kernel
theorem dX5_promise_10 : decode cX5_promise 10 = .ok (.bipush 99, 2) := by decide +kernel
theorem dX5_promise_12 : decode cX5_promise 12 = .ok (.invokestatic 87, 3) := by decide +kernel
theorem dX5_promise_15 : decode cX5_promise 15 = .ok (.ifCond .eq 7, 3) := by decide +kernel
theorem dX5_promise_18 : decode cX5_promise 18 = .ok (.iconst 0, 1) := by decide +kernel
theorem dX5_promise_19 : decode cX5_promise 19 = .ok (.goto 4, 3) := by decide +kernel
theorem dX5_promise_22 : decode cX5_promise 22 = .ok (.iconst 1, 1) := by decide +kernel
theorem dX5_promise_23 : decode cX5_promise 23 = .ok (.putfield 83, 3) := by decide +kernel
theorem dX5_promise_26 : decode cX5_promise 26 = .ok (.aload_n 0, 1) := by decide +kernel
theorem dX5_promise_27 : decode cX5_promise 27 = .ok (.getfield 83, 3) := by decide +kernel
theorem dX5_promise_30 : decode cX5_promise 30 = .ok (.ifCond .le 7, 3) := by decide +kernel
theorem dX5_promise_33 : decode cX5_promise 33 = .ok (.iconst 0, 1) := by decide +kernel
theorem dX5_promise_34 : decode cX5_promise 34 = .ok (.goto 9, 3) := by decide +kernel
theorem dX5_promise_37 : decode cX5_promise 37 = .ok (.aload_n 0, 1) := by decide +kernel
theorem dX5_promise_38 : decode cX5_promise 38 = .ok (.iload_n 1, 1) := by decide +kernel
theorem dX5_promise_39 : decode cX5_promise 39 = .ok (.iload_n 2, 1) := by decide +kernel
theorem dX5_promise_40 : decode cX5_promise 40 = .ok (.invokevirtual 153, 3) := by decide +kernel
theorem dX5_promise_43 : decode cX5_promise 43 = .ok (.ireturn, 1) := by decide +kernel
theorem dX5_share_0 : decode cX5_share 0 = .ok (.aload_n 0, 1) := by decide +kernel
theorem dX5_share_1 : decode cX5_share 1 = .ok (.iload_n 1, 1) := by decide +kernel
theorem dX5_share_2 : decode cX5_share 2 = .ok (.invokestatic 128, 3) := by decide +kernel
theorem dX5_share_5 : decode cX5_share 5 = .ok (.ifCond .eq 17, 3) := by decide +kernel
theorem dX5_share_8 : decode cX5_share 8 = .ok (.iload_n 2, 1) := by decide +kernel
theorem dX5_share_9 : decode cX5_share 9 = .ok (.iconst 0, 1) := by decide +kernel
theorem dX5_share_10 : decode cX5_share 10 = .ok (.bipush 99, 2) := by decide +kernel
theorem dX5_share_12 : decode cX5_share 12 = .ok (.invokestatic 87, 3) := by decide +kernel
theorem dX5_share_15 : decode cX5_share 15 = .ok (.ifCond .eq 7, 3) := by decide +kernel
theorem dX5_share_18 : decode cX5_share 18 = .ok (.iconst 0, 1) := by decide +kernel
theorem dX5_share_19 : decode cX5_share 19 = .ok (.goto 4, 3) := by decide +kernel
theorem dX5_share_22 : decode cX5_share 22 = .ok (.iconst 1, 1) := by decide +kernel
theorem dX5_share_23 : decode cX5_share 23 = .ok (.putfield 83, 3) := by decide +kernel
theorem dX5_share_26 : decode cX5_share 26 = .ok (.aload_n 0, 1) := by decide +kernel
theorem dX5_share_27 : decode cX5_share 27 = .ok (.getfield 83, 3) := by decide +kernel
theorem dX5_share_30 : decode cX5_share 30 = .ok (.ifCond .le 5, 3) := by decide +kernel
theorem dX5_share_33 : decode cX5_share 33 = .ok (.iconst 0, 1) := by decide +kernel
theorem dX5_share_34 : decode cX5_share 34 = .ok (.ireturn, 1) := by decide +kernel
theorem dX5_share_35 : decode cX5_share 35 = .ok (.lconst 0, 1) := by decide +kernel
theorem dX5_share_36 : decode cX5_share 36 = .ok (.lstore_n 3, 1) := by decide +kernel
theorem dX5_share_37 : decode cX5_share 37 = .ok (.aload_n 0, 1) := by decide +kernel
theorem dX5_share_38 : decode cX5_share 38 = .ok (.iload_n 1, 1) := by decide +kernel
theorem dX5_share_39 : decode cX5_share 39 = .ok (.invokevirtual 101, 3) := by decide +kernel
theorem dX5_share_42 : decode cX5_share 42 = .ok (.ifCond .eq 7, 3) := by decide +kernel
theorem dX5_share_45 : decode cX5_share 45 = .ok (.iconst 0, 1) := by decide +kernel
theorem dX5_share_46 : decode cX5_share 46 = .ok (.goto 9, 3) := by decide +kernel
theorem dX5_share_49 : decode cX5_share 49 = .ok (.aload_n 0, 1) := by decide +kernel
theorem dX5_share_50 : decode cX5_share 50 = .ok (.iload_n 1, 1) := by decide +kernel
theorem dX5_share_51 : decode cX5_share 51 = .ok (.iload_n 2, 1) := by decide +kernel
theorem dX5_share_52 : decode cX5_share 52 = .ok (.invokevirtual 97, 3) := by decide +kernel
theorem dX5_share_55 : decode cX5_share 55 = .ok (.istore 5, 2) := by decide +kernel
theorem dX5_share_57 : decode cX5_share 57 = .ok (.iconst 0, 1) := by decide +kernel
theorem dX5_share_58 : decode cX5_share 58 = .ok (.istore 6, 2) := by decide +kernel
theorem dX5_share_60 : decode cX5_share 60 = .ok (.iload 6, 2) := by decide +kernel
theorem dX5_share_62 : decode cX5_share 62 = .ok (.aload_n 0, 1) := by decide +kernel
theorem dX5_share_63 : decode cX5_share 63 = .ok (.getfield 91, 3) := by decide +kernel
theorem dX5_share_66 : decode cX5_share 66 = .ok (.if_icmp .ge 35, 3) := by decide +kernel
theorem dX5_share_69 : decode cX5_share 69 = .ok (.lload_n 3, 1) := by decide +kernel
theorem dX5_share_70 : decode cX5_share 70 = .ok (.iload 5, 2) := by decide +kernel
theorem dX5_share_72 : decode cX5_share 72 = .ok (.iload 6, 2) := by decide +kernel
theorem dX5_share_74 : decode cX5_share 74 = .ok (.ishr, 1) := by decide +kernel
theorem dX5_share_75 : decode cX5_share 75 = .ok (.iconst 1, 1) := by decide +kernel
theorem dX5_share_76 : decode cX5_share 76 = .ok (.iand, 1) := by decide +kernel
theorem dX5_share_77 : decode cX5_share 77 = .ok (.iconst 1, 1) := by decide +kernel
theorem dX5_share_78 : decode cX5_share 78 = .ok (.if_icmp .ne 14, 3) := by decide +kernel
theorem dX5_share_81 : decode cX5_share 81 = .ok (.aload_n 0, 1) := by decide +kernel
theorem dX5_share_82 : decode cX5_share 82 = .ok (.getfield 31, 3) := by decide +kernel
theorem dX5_share_85 : decode cX5_share 85 = .ok (.iload 6, 2) := by decide +kernel
theorem dX5_share_87 : decode cX5_share 87 = .ok (.iaload, 1) := by decide +kernel
theorem dX5_share_88 : decode cX5_share 88 = .ok (.i2l, 1) := by decide +kernel
theorem dX5_share_89 : decode cX5_share 89 = .ok (.goto 4, 3) := by decide +kernel
theorem dX5_share_92 : decode cX5_share 92 = .ok (.lconst 0, 1) := by decide +kernel
theorem dX5_share_93 : decode cX5_share 93 = .ok (.ladd, 1) := by decide +kernel
theorem dX5_share_94 : decode cX5_share 94 = .ok (.lstore_n 3, 1) := by decide +kernel
theorem dX5_share_95 : decode cX5_share 95 = .ok (.iinc 6 1, 3) := by decide +kernel
theorem dX5_share_98 : decode cX5_share 98 = .ok (.goto (-38), 3) := by decide +kernel
theorem dX5_share_101 : decode cX5_share 101 = .ok (.aload_n 0, 1) := by decide +kernel
theorem dX5_share_102 : decode cX5_share 102 = .ok (.lload_n 3, 1) := by decide +kernel
theorem dX5_share_103 : decode cX5_share 103 = .ok (.lconst 0, 1) := by decide +kernel
theorem dX5_share_104 : decode cX5_share 104 = .ok (.lcmp, 1) := by decide +kernel
theorem dX5_share_105 : decode cX5_share 105 = .ok (.ifCond .ne 7, 3) := by decide +kernel
theorem dX5_share_108 : decode cX5_share 108 = .ok (.iconst 2, 1) := by decide +kernel
theorem dX5_share_109 : decode cX5_share 109 = .ok (.goto 4, 3) := by decide +kernel
theorem dX5_share_112 : decode cX5_share 112 = .ok (.iconst 0, 1) := by decide +kernel
theorem dX5_share_113 : decode cX5_share 113 = .ok (.putfield 83, 3) := by decide +kernel
theorem dX5_share_116 : decode cX5_share 116 = .ok (.aload_n 0, 1) := by decide +kernel
theorem dX5_share_117 : decode cX5_share 117 = .ok (.getfield 83, 3) := by decide +kernel
theorem dX5_share_120 : decode cX5_share 120 = .ok (.ifCond .le 7, 3) := by decide +kernel
theorem dX5_share_123 : decode cX5_share 123 = .ok (.iconst 0, 1) := by decide +kernel
theorem dX5_share_124 : decode cX5_share 124 = .ok (.goto 17, 3) := by decide +kernel
theorem dX5_share_127 : decode cX5_share 127 = .ok (.ldc2_w 156, 3) := by decide +kernel
theorem dX5_share_130 : decode cX5_share 130 = .ok (.aload_n 0, 1) := by decide +kernel
theorem dX5_share_131 : decode cX5_share 131 = .ok (.iload_n 1, 1) := by decide +kernel
theorem dX5_share_132 : decode cX5_share 132 = .ok (.iload_n 2, 1) := by decide +kernel
theorem dX5_share_133 : decode cX5_share 133 = .ok (.invokevirtual 153, 3) := by decide +kernel
theorem dX5_share_136 : decode cX5_share 136 = .ok (.i2l, 1) := by decide +kernel
theorem dX5_share_137 : decode cX5_share 137 = .ok (.lmul, 1) := by decide +kernel
theorem dX5_share_138 : decode cX5_share 138 = .ok (.lload_n 3, 1) := by decide +kernel
theorem dX5_share_139 : decode cX5_share 139 = .ok (.ldiv, 1) := by decide +kernel
theorem dX5_share_140 : decode cX5_share 140 = .ok (.l2i, 1) := by decide +kernel
theorem dX5_share_141 : decode cX5_share 141 = .ok (.ireturn, 1) := by decide +kernel
theorem dX5_nextArrival_0 : decode cX5_nextArrival 0 = .ok (.iconst (-1), 1) := by decide +kernel
theorem dX5_nextArrival_1 : decode cX5_nextArrival 1 = .ok (.istore_n 3, 1) := by decide +kernel
theorem dX5_nextArrival_2 : decode cX5_nextArrival 2 = .ok (.iconst 0, 1) := by decide +kernel
theorem dX5_nextArrival_3 : decode cX5_nextArrival 3 = .ok (.istore 4, 2) := by decide +kernel
theorem dX5_nextArrival_5 : decode cX5_nextArrival 5 = .ok (.iload 4, 2) := by decide +kernel
theorem dX5_nextArrival_7 : decode cX5_nextArrival 7 = .ok (.aload_n 0, 1) := by decide +kernel
theorem dX5_nextArrival_8 : decode cX5_nextArrival 8 = .ok (.getfield 91, 3) := by decide +kernel
theorem dX5_nextArrival_11 : decode cX5_nextArrival 11 = .ok (.if_icmp .ge 100, 3) := by decide +kernel
theorem dX5_nextArrival_14 : decode cX5_nextArrival 14 = .ok (.iload_n 2, 1) := by decide +kernel
theorem dX5_nextArrival_15 : decode cX5_nextArrival 15 = .ok (.iload 4, 2) := by decide +kernel
theorem dX5_nextArrival_17 : decode cX5_nextArrival 17 = .ok (.ishr, 1) := by decide +kernel
theorem dX5_nextArrival_18 : decode cX5_nextArrival 18 = .ok (.iconst 1, 1) := by decide +kernel
theorem dX5_nextArrival_19 : decode cX5_nextArrival 19 = .ok (.iand, 1) := by decide +kernel
theorem dX5_nextArrival_20 : decode cX5_nextArrival 20 = .ok (.ifCond .ne 6, 3) := by decide +kernel
theorem dX5_nextArrival_23 : decode cX5_nextArrival 23 = .ok (.goto 82, 3) := by decide +kernel
theorem dX5_nextArrival_26 : decode cX5_nextArrival 26 = .ok (.iload_n 1, 1) := by decide +kernel
theorem dX5_nextArrival_27 : decode cX5_nextArrival 27 = .ok (.iconst (-1), 1) := by decide +kernel
theorem dX5_nextArrival_28 : decode cX5_nextArrival 28 = .ok (.if_icmp .eq 41, 3) := by decide +kernel
theorem dX5_nextArrival_31 : decode cX5_nextArrival 31 = .ok (.aload_n 0, 1) := by decide +kernel
theorem dX5_nextArrival_32 : decode cX5_nextArrival 32 = .ok (.getfield 25, 3) := by decide +kernel
theorem dX5_nextArrival_35 : decode cX5_nextArrival 35 = .ok (.iload 4, 2) := by decide +kernel
theorem dX5_nextArrival_37 : decode cX5_nextArrival 37 = .ok (.iaload, 1) := by decide +kernel
theorem dX5_nextArrival_38 : decode cX5_nextArrival 38 = .ok (.aload_n 0, 1) := by decide +kernel
theorem dX5_nextArrival_39 : decode cX5_nextArrival 39 = .ok (.getfield 25, 3) := by decide +kernel
theorem dX5_nextArrival_42 : decode cX5_nextArrival 42 = .ok (.iload_n 1, 1) := by decide +kernel
theorem dX5_nextArrival_43 : decode cX5_nextArrival 43 = .ok (.iaload, 1) := by decide +kernel
theorem dX5_nextArrival_44 : decode cX5_nextArrival 44 = .ok (.if_icmp .gt 25, 3) := by decide +kernel
theorem dX5_nextArrival_47 : decode cX5_nextArrival 47 = .ok (.aload_n 0, 1) := by decide +kernel
theorem dX5_nextArrival_48 : decode cX5_nextArrival 48 = .ok (.getfield 25, 3) := by decide +kernel
theorem dX5_nextArrival_51 : decode cX5_nextArrival 51 = .ok (.iload 4, 2) := by decide +kernel
theorem dX5_nextArrival_53 : decode cX5_nextArrival 53 = .ok (.iaload, 1) := by decide +kernel
theorem dX5_nextArrival_54 : decode cX5_nextArrival 54 = .ok (.aload_n 0, 1) := by decide +kernel
theorem dX5_nextArrival_55 : decode cX5_nextArrival 55 = .ok (.getfield 25, 3) := by decide +kernel
theorem dX5_nextArrival_58 : decode cX5_nextArrival 58 = .ok (.iload_n 1, 1) := by decide +kernel
theorem dX5_nextArrival_59 : decode cX5_nextArrival 59 = .ok (.iaload, 1) := by decide +kernel
theorem dX5_nextArrival_60 : decode cX5_nextArrival 60 = .ok (.if_icmp .ne 13, 3) := by decide +kernel
theorem dX5_nextArrival_63 : decode cX5_nextArrival 63 = .ok (.iload 4, 2) := by decide +kernel
theorem dX5_nextArrival_65 : decode cX5_nextArrival 65 = .ok (.iload_n 1, 1) := by decide +kernel
theorem dX5_nextArrival_66 : decode cX5_nextArrival 66 = .ok (.if_icmp .le 7, 3) := by decide +kernel
theorem dX5_nextArrival_69 : decode cX5_nextArrival 69 = .ok (.iconst 1, 1) := by decide +kernel
theorem dX5_nextArrival_70 : decode cX5_nextArrival 70 = .ok (.goto 4, 3) := by decide +kernel
theorem dX5_nextArrival_73 : decode cX5_nextArrival 73 = .ok (.iconst 0, 1) := by decide +kernel
theorem dX5_nextArrival_74 : decode cX5_nextArrival 74 = .ok (.istore 5, 2) := by decide +kernel
theorem dX5_nextArrival_76 : decode cX5_nextArrival 76 = .ok (.iload 5, 2) := by decide +kernel
theorem dX5_nextArrival_78 : decode cX5_nextArrival 78 = .ok (.ifCond .eq 27, 3) := by decide +kernel
theorem dX5_nextArrival_81 : decode cX5_nextArrival 81 = .ok (.iload_n 3, 1) := by decide +kernel
theorem dX5_nextArrival_82 : decode cX5_nextArrival 82 = .ok (.iconst (-1), 1) := by decide +kernel
theorem dX5_nextArrival_83 : decode cX5_nextArrival 83 = .ok (.if_icmp .eq 19, 3) := by decide +kernel
theorem dX5_nextArrival_86 : decode cX5_nextArrival 86 = .ok (.aload_n 0, 1) := by decide +kernel
theorem dX5_nextArrival_87 : decode cX5_nextArrival 87 = .ok (.getfield 25, 3) := by decide +kernel
theorem dX5_nextArrival_90 : decode cX5_nextArrival 90 = .ok (.iload 4, 2) := by decide +kernel
theorem dX5_nextArrival_92 : decode cX5_nextArrival 92 = .ok (.iaload, 1) := by decide +kernel
theorem dX5_nextArrival_93 : decode cX5_nextArrival 93 = .ok (.aload_n 0, 1) := by decide +kernel
theorem dX5_nextArrival_94 : decode cX5_nextArrival 94 = .ok (.getfield 25, 3) := by decide +kernel
theorem dX5_nextArrival_97 : decode cX5_nextArrival 97 = .ok (.iload_n 3, 1) := by decide +kernel
theorem dX5_nextArrival_98 : decode cX5_nextArrival 98 = .ok (.iaload, 1) := by decide +kernel
theorem dX5_nextArrival_99 : decode cX5_nextArrival 99 = .ok (.if_icmp .ge 6, 3) := by decide +kernel
theorem dX5_nextArrival_102 : decode cX5_nextArrival 102 = .ok (.iload 4, 2) := by decide +kernel
theorem dX5_nextArrival_104 : decode cX5_nextArrival 104 = .ok (.istore_n 3, 1) := by decide +kernel
theorem dX5_nextArrival_105 : decode cX5_nextArrival 105 = .ok (.iinc 4 1, 3) := by decide +kernel
theorem dX5_nextArrival_108 : decode cX5_nextArrival 108 = .ok (.goto (-103), 3) := by decide +kernel
theorem dX5_nextArrival_111 : decode cX5_nextArrival 111 = .ok (.iload_n 3, 1) := by decide +kernel
theorem dX5_nextArrival_112 : decode cX5_nextArrival 112 = .ok (.ireturn, 1) := by decide +kernel
theorem dX5_atMost_0 : decode cX5_atMost 0 = .ok (.aload_n 0, 1) := by decide +kernel
theorem dX5_atMost_1 : decode cX5_atMost 1 = .ok (.getfield 58, 3) := by decide +kernel
theorem dX5_atMost_4 : decode cX5_atMost 4 = .ok (.iload_n 1, 1) := by decide +kernel
theorem dX5_atMost_5 : decode cX5_atMost 5 = .ok (.laload, 1) := by decide +kernel
theorem dX5_atMost_6 : decode cX5_atMost 6 = .ok (.aload_n 0, 1) := by decide +kernel
theorem dX5_atMost_7 : decode cX5_atMost 7 = .ok (.getfield 65, 3) := by decide +kernel
theorem dX5_atMost_10 : decode cX5_atMost 10 = .ok (.iload_n 2, 1) := by decide +kernel
theorem dX5_atMost_11 : decode cX5_atMost 11 = .ok (.laload, 1) := by decide +kernel
theorem dX5_atMost_12 : decode cX5_atMost 12 = .ok (.lcmp, 1) := by decide +kernel
theorem dX5_atMost_13 : decode cX5_atMost 13 = .ok (.ifCond .ge 12, 3) := by decide +kernel
theorem dX5_atMost_16 : decode cX5_atMost 16 = .ok (.aload_n 0, 1) := by decide +kernel
theorem dX5_atMost_17 : decode cX5_atMost 17 = .ok (.getfield 58, 3) := by decide +kernel
theorem dX5_atMost_20 : decode cX5_atMost 20 = .ok (.iload_n 1, 1) := by decide +kernel
theorem dX5_atMost_21 : decode cX5_atMost 21 = .ok (.laload, 1) := by decide +kernel
theorem dX5_atMost_22 : decode cX5_atMost 22 = .ok (.goto 9, 3) := by decide +kernel
theorem dX5_atMost_25 : decode cX5_atMost 25 = .ok (.aload_n 0, 1) := by decide +kernel
theorem dX5_atMost_26 : decode cX5_atMost 26 = .ok (.getfield 65, 3) := by decide +kernel
theorem dX5_atMost_29 : decode cX5_atMost 29 = .ok (.iload_n 2, 1) := by decide +kernel
theorem dX5_atMost_30 : decode cX5_atMost 30 = .ok (.laload, 1) := by decide +kernel
theorem dX5_atMost_31 : decode cX5_atMost 31 = .ok (.lstore_n 3, 1) := by decide +kernel
theorem dX5_atMost_32 : decode cX5_atMost 32 = .ok (.iconst 0, 1) := by decide +kernel
theorem dX5_atMost_33 : decode cX5_atMost 33 = .ok (.istore 5, 2) := by decide +kernel
theorem dX5_atMost_35 : decode cX5_atMost 35 = .ok (.iload 5, 2) := by decide +kernel
theorem dX5_atMost_37 : decode cX5_atMost 37 = .ok (.iconst 1, 1) := by decide +kernel
theorem dX5_atMost_38 : decode cX5_atMost 38 = .ok (.aload_n 0, 1) := by decide +kernel
theorem dX5_atMost_39 : decode cX5_atMost 39 = .ok (.getfield 91, 3) := by decide +kernel
theorem dX5_atMost_42 : decode cX5_atMost 42 = .ok (.ishl, 1) := by decide +kernel
theorem dX5_atMost_43 : decode cX5_atMost 43 = .ok (.if_icmp .ge 57, 3) := by decide +kernel
theorem dX5_atMost_46 : decode cX5_atMost 46 = .ok (.iload 5, 2) := by decide +kernel
theorem dX5_atMost_48 : decode cX5_atMost 48 = .ok (.iload_n 2, 1) := by decide +kernel
theorem dX5_atMost_49 : decode cX5_atMost 49 = .ok (.ishr, 1) := by decide +kernel
theorem dX5_atMost_50 : decode cX5_atMost 50 = .ok (.iconst 1, 1) := by decide +kernel
theorem dX5_atMost_51 : decode cX5_atMost 51 = .ok (.iand, 1) := by decide +kernel
theorem dX5_atMost_52 : decode cX5_atMost 52 = .ok (.ifCond .eq 42, 3) := by decide +kernel
theorem dX5_atMost_55 : decode cX5_atMost 55 = .ok (.aload_n 0, 1) := by decide +kernel
theorem dX5_atMost_56 : decode cX5_atMost 56 = .ok (.getfield 62, 3) := by decide +kernel
theorem dX5_atMost_59 : decode cX5_atMost 59 = .ok (.iload_n 1, 1) := by decide +kernel
theorem dX5_atMost_60 : decode cX5_atMost 60 = .ok (.iaload, 1) := by decide +kernel
theorem dX5_atMost_61 : decode cX5_atMost 61 = .ok (.iload 5, 2) := by decide +kernel
theorem dX5_atMost_63 : decode cX5_atMost 63 = .ok (.iconst (-1), 1) := by decide +kernel
theorem dX5_atMost_64 : decode cX5_atMost 64 = .ok (.ixor, 1) := by decide +kernel
theorem dX5_atMost_65 : decode cX5_atMost 65 = .ok (.iand, 1) := by decide +kernel
theorem dX5_atMost_66 : decode cX5_atMost 66 = .ok (.ifCond .ne 6, 3) := by decide +kernel
theorem dX5_atMost_69 : decode cX5_atMost 69 = .ok (.goto 25, 3) := by decide +kernel
theorem dX5_atMost_72 : decode cX5_atMost 72 = .ok (.aload_n 0, 1) := by decide +kernel
theorem dX5_atMost_73 : decode cX5_atMost 73 = .ok (.iload 5, 2) := by decide +kernel
theorem dX5_atMost_75 : decode cX5_atMost 75 = .ok (.invokevirtual 120, 3) := by decide +kernel
theorem dX5_atMost_78 : decode cX5_atMost 78 = .ok (.lstore 6, 2) := by decide +kernel
theorem dX5_atMost_80 : decode cX5_atMost 80 = .ok (.lload 6, 2) := by decide +kernel
theorem dX5_atMost_82 : decode cX5_atMost 82 = .ok (.lload_n 3, 1) := by decide +kernel
theorem dX5_atMost_83 : decode cX5_atMost 83 = .ok (.lcmp, 1) := by decide +kernel
theorem dX5_atMost_84 : decode cX5_atMost 84 = .ok (.ifCond .ge 8, 3) := by decide +kernel
theorem dX5_atMost_87 : decode cX5_atMost 87 = .ok (.lload 6, 2) := by decide +kernel
theorem dX5_atMost_89 : decode cX5_atMost 89 = .ok (.goto 4, 3) := by decide +kernel
theorem dX5_atMost_92 : decode cX5_atMost 92 = .ok (.lload_n 3, 1) := by decide +kernel
theorem dX5_atMost_93 : decode cX5_atMost 93 = .ok (.lstore_n 3, 1) := by decide +kernel
theorem dX5_atMost_94 : decode cX5_atMost 94 = .ok (.iinc 5 1, 3) := by decide +kernel
theorem dX5_atMost_97 : decode cX5_atMost 97 = .ok (.goto (-62), 3) := by decide +kernel
theorem dX5_atMost_100 : decode cX5_atMost 100 = .ok (.lload_n 3, 1) := by decide +kernel
theorem dX5_atMost_101 : decode cX5_atMost 101 = .ok (.lreturn, 1) := by decide +kernel
theorem dX5_plan_0 : decode cX5_plan 0 = .ok (.aload_n 0, 1) := by decide +kernel
theorem dX5_plan_1 : decode cX5_plan 1 = .ok (.invokevirtual 145, 3) := by decide +kernel
theorem dX5_plan_4 : decode cX5_plan 4 = .ok (.aload_n 0, 1) := by decide +kernel
theorem dX5_plan_5 : decode cX5_plan 5 = .ok (.iconst 0, 1) := by decide +kernel
theorem dX5_plan_6 : decode cX5_plan 6 = .ok (.putfield 158, 3) := by decide +kernel
theorem dX5_plan_9 : decode cX5_plan 9 = .ok (.iconst 0, 1) := by decide +kernel
theorem dX5_plan_10 : decode cX5_plan 10 = .ok (.istore_n 1, 1) := by decide +kernel
theorem dX5_plan_11 : decode cX5_plan 11 = .ok (.iload_n 1, 1) := by decide +kernel
theorem dX5_plan_12 : decode cX5_plan 12 = .ok (.aload_n 0, 1) := by decide +kernel
theorem dX5_plan_13 : decode cX5_plan 13 = .ok (.getfield 94, 3) := by decide +kernel
theorem dX5_plan_16 : decode cX5_plan 16 = .ok (.if_icmp .ge 148, 3) := by decide +kernel
theorem dX5_plan_19 : decode cX5_plan 19 = .ok (.aload_n 0, 1) := by decide +kernel
theorem dX5_plan_20 : decode cX5_plan 20 = .ok (.iconst (-1), 1) := by decide +kernel
theorem dX5_plan_21 : decode cX5_plan 21 = .ok (.aload_n 0, 1) := by decide +kernel
theorem dX5_plan_22 : decode cX5_plan 22 = .ok (.getfield 62, 3) := by decide +kernel
theorem dX5_plan_25 : decode cX5_plan 25 = .ok (.iload_n 1, 1) := by decide +kernel
theorem dX5_plan_26 : decode cX5_plan 26 = .ok (.iaload, 1) := by decide +kernel
theorem dX5_plan_27 : decode cX5_plan 27 = .ok (.invokevirtual 161, 3) := by decide +kernel
theorem dX5_plan_30 : decode cX5_plan 30 = .ok (.istore_n 2, 1) := by decide +kernel
theorem dX5_plan_31 : decode cX5_plan 31 = .ok (.iload_n 2, 1) := by decide +kernel
theorem dX5_plan_32 : decode cX5_plan 32 = .ok (.iconst (-1), 1) := by decide +kernel
theorem dX5_plan_33 : decode cX5_plan 33 = .ok (.if_icmp .eq 125, 3) := by decide +kernel
theorem dX5_plan_36 : decode cX5_plan 36 = .ok (.aload_n 0, 1) := by decide +kernel
theorem dX5_plan_37 : decode cX5_plan 37 = .ok (.iload_n 1, 1) := by decide +kernel
theorem dX5_plan_38 : decode cX5_plan 38 = .ok (.iload_n 2, 1) := by decide +kernel
theorem dX5_plan_39 : decode cX5_plan 39 = .ok (.invokevirtual 164, 3) := by decide +kernel
theorem dX5_plan_42 : decode cX5_plan 42 = .ok (.lstore_n 3, 1) := by decide +kernel
theorem dX5_plan_43 : decode cX5_plan 43 = .ok (.lload_n 3, 1) := by decide +kernel
theorem dX5_plan_44 : decode cX5_plan 44 = .ok (.lconst 0, 1) := by decide +kernel
theorem dX5_plan_45 : decode cX5_plan 45 = .ok (.lcmp, 1) := by decide +kernel
theorem dX5_plan_46 : decode cX5_plan 46 = .ok (.ifCond .ne 6, 3) := by decide +kernel
theorem dX5_plan_49 : decode cX5_plan 49 = .ok (.goto 94, 3) := by decide +kernel
theorem dX5_plan_52 : decode cX5_plan 52 = .ok (.aload_n 0, 1) := by decide +kernel
theorem dX5_plan_53 : decode cX5_plan 53 = .ok (.getfield 65, 3) := by decide +kernel
theorem dX5_plan_56 : decode cX5_plan 56 = .ok (.iload_n 2, 1) := by decide +kernel
theorem dX5_plan_57 : decode cX5_plan 57 = .ok (.dup2, 1) := by decide +kernel
theorem dX5_plan_58 : decode cX5_plan 58 = .ok (.laload, 1) := by decide +kernel
theorem dX5_plan_59 : decode cX5_plan 59 = .ok (.lload_n 3, 1) := by decide +kernel
theorem dX5_plan_60 : decode cX5_plan 60 = .ok (.lsub, 1) := by decide +kernel
theorem dX5_plan_61 : decode cX5_plan 61 = .ok (.lastore, 1) := by decide +kernel
theorem dX5_plan_62 : decode cX5_plan 62 = .ok (.aload_n 0, 1) := by decide +kernel
theorem dX5_plan_63 : decode cX5_plan 63 = .ok (.getfield 58, 3) := by decide +kernel
theorem dX5_plan_66 : decode cX5_plan 66 = .ok (.iload_n 1, 1) := by decide +kernel
theorem dX5_plan_67 : decode cX5_plan 67 = .ok (.dup2, 1) := by decide +kernel
theorem dX5_plan_68 : decode cX5_plan 68 = .ok (.laload, 1) := by decide +kernel
theorem dX5_plan_69 : decode cX5_plan 69 = .ok (.lload_n 3, 1) := by decide +kernel
theorem dX5_plan_70 : decode cX5_plan 70 = .ok (.lsub, 1) := by decide +kernel
theorem dX5_plan_71 : decode cX5_plan 71 = .ok (.lastore, 1) := by decide +kernel
theorem dX5_plan_72 : decode cX5_plan 72 = .ok (.aload_n 0, 1) := by decide +kernel
theorem dX5_plan_73 : decode cX5_plan 73 = .ok (.getfield 68, 3) := by decide +kernel
theorem dX5_plan_76 : decode cX5_plan 76 = .ok (.aload_n 0, 1) := by decide +kernel
theorem dX5_plan_77 : decode cX5_plan 77 = .ok (.getfield 158, 3) := by decide +kernel
theorem dX5_plan_80 : decode cX5_plan 80 = .ok (.aload_n 0, 1) := by decide +kernel
theorem dX5_plan_81 : decode cX5_plan 81 = .ok (.getfield 52, 3) := by decide +kernel
theorem dX5_plan_84 : decode cX5_plan 84 = .ok (.iload_n 1, 1) := by decide +kernel
theorem dX5_plan_85 : decode cX5_plan 85 = .ok (.iaload, 1) := by decide +kernel
theorem dX5_plan_86 : decode cX5_plan 86 = .ok (.iastore, 1) := by decide +kernel
theorem dX5_plan_87 : decode cX5_plan 87 = .ok (.aload_n 0, 1) := by decide +kernel
theorem dX5_plan_88 : decode cX5_plan 88 = .ok (.getfield 71, 3) := by decide +kernel
theorem dX5_plan_91 : decode cX5_plan 91 = .ok (.aload_n 0, 1) := by decide +kernel
theorem dX5_plan_92 : decode cX5_plan 92 = .ok (.getfield 158, 3) := by decide +kernel
theorem dX5_plan_95 : decode cX5_plan 95 = .ok (.iload_n 1, 1) := by decide +kernel
theorem dX5_plan_96 : decode cX5_plan 96 = .ok (.iastore, 1) := by decide +kernel
theorem dX5_plan_97 : decode cX5_plan 97 = .ok (.aload_n 0, 1) := by decide +kernel
theorem dX5_plan_98 : decode cX5_plan 98 = .ok (.getfield 74, 3) := by decide +kernel
theorem dX5_plan_101 : decode cX5_plan 101 = .ok (.aload_n 0, 1) := by decide +kernel
theorem dX5_plan_102 : decode cX5_plan 102 = .ok (.getfield 158, 3) := by decide +kernel
theorem dX5_plan_105 : decode cX5_plan 105 = .ok (.aload_n 0, 1) := by decide +kernel
theorem dX5_plan_106 : decode cX5_plan 106 = .ok (.getfield 55, 3) := by decide +kernel
theorem dX5_plan_109 : decode cX5_plan 109 = .ok (.iload_n 1, 1) := by decide +kernel
theorem dX5_plan_110 : decode cX5_plan 110 = .ok (.iaload, 1) := by decide +kernel
theorem dX5_plan_111 : decode cX5_plan 111 = .ok (.iastore, 1) := by decide +kernel
theorem dX5_plan_112 : decode cX5_plan 112 = .ok (.aload_n 0, 1) := by decide +kernel
theorem dX5_plan_113 : decode cX5_plan 113 = .ok (.getfield 77, 3) := by decide +kernel
theorem dX5_plan_116 : decode cX5_plan 116 = .ok (.aload_n 0, 1) := by decide +kernel
theorem dX5_plan_117 : decode cX5_plan 117 = .ok (.getfield 158, 3) := by decide +kernel
theorem dX5_plan_120 : decode cX5_plan 120 = .ok (.iload_n 2, 1) := by decide +kernel
theorem dX5_plan_121 : decode cX5_plan 121 = .ok (.iastore, 1) := by decide +kernel
theorem dX5_plan_122 : decode cX5_plan 122 = .ok (.aload_n 0, 1) := by decide +kernel
theorem dX5_plan_123 : decode cX5_plan 123 = .ok (.getfield 80, 3) := by decide +kernel
theorem dX5_plan_126 : decode cX5_plan 126 = .ok (.aload_n 0, 1) := by decide +kernel
theorem dX5_plan_127 : decode cX5_plan 127 = .ok (.getfield 158, 3) := by decide +kernel
theorem dX5_plan_130 : decode cX5_plan 130 = .ok (.lload_n 3, 1) := by decide +kernel
theorem dX5_plan_131 : decode cX5_plan 131 = .ok (.l2i, 1) := by decide +kernel
theorem dX5_plan_132 : decode cX5_plan 132 = .ok (.iastore, 1) := by decide +kernel
theorem dX5_plan_133 : decode cX5_plan 133 = .ok (.aload_n 0, 1) := by decide +kernel
theorem dX5_plan_134 : decode cX5_plan 134 = .ok (.dup, 1) := by decide +kernel
theorem dX5_plan_135 : decode cX5_plan 135 = .ok (.getfield 158, 3) := by decide +kernel
theorem dX5_plan_138 : decode cX5_plan 138 = .ok (.iconst 1, 1) := by decide +kernel
theorem dX5_plan_139 : decode cX5_plan 139 = .ok (.iadd, 1) := by decide +kernel
theorem dX5_plan_140 : decode cX5_plan 140 = .ok (.putfield 158, 3) := by decide +kernel
theorem dX5_plan_143 : decode cX5_plan 143 = .ok (.aload_n 0, 1) := by decide +kernel
theorem dX5_plan_144 : decode cX5_plan 144 = .ok (.iload_n 2, 1) := by decide +kernel
theorem dX5_plan_145 : decode cX5_plan 145 = .ok (.aload_n 0, 1) := by decide +kernel
theorem dX5_plan_146 : decode cX5_plan 146 = .ok (.getfield 62, 3) := by decide +kernel
theorem dX5_plan_149 : decode cX5_plan 149 = .ok (.iload_n 1, 1) := by decide +kernel
theorem dX5_plan_150 : decode cX5_plan 150 = .ok (.iaload, 1) := by decide +kernel
theorem dX5_plan_151 : decode cX5_plan 151 = .ok (.invokevirtual 161, 3) := by decide +kernel
theorem dX5_plan_154 : decode cX5_plan 154 = .ok (.istore_n 2, 1) := by decide +kernel
theorem dX5_plan_155 : decode cX5_plan 155 = .ok (.goto (-124), 3) := by decide +kernel
theorem dX5_plan_158 : decode cX5_plan 158 = .ok (.iinc 1 1, 3) := by decide +kernel
theorem dX5_plan_161 : decode cX5_plan 161 = .ok (.goto (-150), 3) := by decide +kernel
theorem dX5_plan_164 : decode cX5_plan 164 = .ok (.return_, 1) := by decide +kernel
theorem dX5_bars_0 : decode cX5_bars 0 = .ok (.aload_n 0, 1) := by decide +kernel
theorem dX5_bars_1 : decode cX5_bars 1 = .ok (.iload_n 1, 1) := by decide +kernel
theorem dX5_bars_2 : decode cX5_bars 2 = .ok (.invokestatic 128, 3) := by decide +kernel
theorem dX5_bars_5 : decode cX5_bars 5 = .ok (.ifCond .eq 17, 3) := by decide +kernel
theorem dX5_bars_8 : decode cX5_bars 8 = .ok (.iload_n 2, 1) := by decide +kernel
theorem dX5_bars_9 : decode cX5_bars 9 = .ok (.iconst 0, 1) := by decide +kernel
theorem dX5_bars_10 : decode cX5_bars 10 = .ok (.bipush 99, 2) := by decide +kernel
theorem dX5_bars_12 : decode cX5_bars 12 = .ok (.invokestatic 87, 3) := by decide +kernel
theorem dX5_bars_15 : decode cX5_bars 15 = .ok (.ifCond .eq 7, 3) := by decide +kernel
theorem dX5_bars_18 : decode cX5_bars 18 = .ok (.iload_n 3, 1) := by decide +kernel
theorem dX5_bars_19 : decode cX5_bars 19 = .ok (.ifCond .ge 7, 3) := by decide +kernel
theorem dX5_bars_22 : decode cX5_bars 22 = .ok (.iconst 1, 1) := by decide +kernel
theorem dX5_bars_23 : decode cX5_bars 23 = .ok (.goto 16, 3) := by decide +kernel
theorem dX5_bars_26 : decode cX5_bars 26 = .ok (.aload_n 0, 1) := by decide +kernel
theorem dX5_bars_27 : decode cX5_bars 27 = .ok (.iload_n 1, 1) := by decide +kernel
theorem dX5_bars_28 : decode cX5_bars 28 = .ok (.invokevirtual 101, 3) := by decide +kernel
theorem dX5_bars_31 : decode cX5_bars 31 = .ok (.ifCond .eq 7, 3) := by decide +kernel
theorem dX5_bars_34 : decode cX5_bars 34 = .ok (.iconst 2, 1) := by decide +kernel
theorem dX5_bars_35 : decode cX5_bars 35 = .ok (.goto 4, 3) := by decide +kernel
theorem dX5_bars_38 : decode cX5_bars 38 = .ok (.iconst 0, 1) := by decide +kernel
theorem dX5_bars_39 : decode cX5_bars 39 = .ok (.putfield 83, 3) := by decide +kernel
theorem dX5_bars_42 : decode cX5_bars 42 = .ok (.aload_n 0, 1) := by decide +kernel
theorem dX5_bars_43 : decode cX5_bars 43 = .ok (.getfield 83, 3) := by decide +kernel
theorem dX5_bars_46 : decode cX5_bars 46 = .ok (.ifCond .le 5, 3) := by decide +kernel
theorem dX5_bars_49 : decode cX5_bars 49 = .ok (.iconst 0, 1) := by decide +kernel
theorem dX5_bars_50 : decode cX5_bars 50 = .ok (.ireturn, 1) := by decide +kernel
theorem dX5_bars_51 : decode cX5_bars 51 = .ok (.aload_n 0, 1) := by decide +kernel
theorem dX5_bars_52 : decode cX5_bars 52 = .ok (.invokevirtual 168, 3) := by decide +kernel
theorem dX5_bars_55 : decode cX5_bars 55 = .ok (.aload_n 0, 1) := by decide +kernel
theorem dX5_bars_56 : decode cX5_bars 56 = .ok (.iload_n 1, 1) := by decide +kernel
theorem dX5_bars_57 : decode cX5_bars 57 = .ok (.iload_n 2, 1) := by decide +kernel
theorem dX5_bars_58 : decode cX5_bars 58 = .ok (.invokevirtual 97, 3) := by decide +kernel
theorem dX5_bars_61 : decode cX5_bars 61 = .ok (.istore 4, 2) := by decide +kernel
theorem dX5_bars_63 : decode cX5_bars 63 = .ok (.iconst 0, 1) := by decide +kernel
theorem dX5_bars_64 : decode cX5_bars 64 = .ok (.istore 5, 2) := by decide +kernel
theorem dX5_bars_66 : decode cX5_bars 66 = .ok (.iconst 0, 1) := by decide +kernel
theorem dX5_bars_67 : decode cX5_bars 67 = .ok (.istore 6, 2) := by decide +kernel
theorem dX5_bars_69 : decode cX5_bars 69 = .ok (.iload 6, 2) := by decide +kernel
theorem dX5_bars_71 : decode cX5_bars 71 = .ok (.bipush 10, 2) := by decide +kernel
theorem dX5_bars_73 : decode cX5_bars 73 = .ok (.if_icmp .gt 76, 3) := by decide +kernel
theorem dX5_bars_76 : decode cX5_bars 76 = .ok (.iconst 0, 1) := by decide +kernel
theorem dX5_bars_77 : decode cX5_bars 77 = .ok (.istore 7, 2) := by decide +kernel
theorem dX5_bars_79 : decode cX5_bars 79 = .ok (.iload 7, 2) := by decide +kernel
theorem dX5_bars_81 : decode cX5_bars 81 = .ok (.aload_n 0, 1) := by decide +kernel
theorem dX5_bars_82 : decode cX5_bars 82 = .ok (.getfield 158, 3) := by decide +kernel
theorem dX5_bars_85 : decode cX5_bars 85 = .ok (.if_icmp .ge 58, 3) := by decide +kernel
theorem dX5_bars_88 : decode cX5_bars 88 = .ok (.iload 4, 2) := by decide +kernel
theorem dX5_bars_90 : decode cX5_bars 90 = .ok (.aload_n 0, 1) := by decide +kernel
theorem dX5_bars_91 : decode cX5_bars 91 = .ok (.getfield 77, 3) := by decide +kernel
theorem dX5_bars_94 : decode cX5_bars 94 = .ok (.iload 7, 2) := by decide +kernel
theorem dX5_bars_96 : decode cX5_bars 96 = .ok (.iaload, 1) := by decide +kernel
theorem dX5_bars_97 : decode cX5_bars 97 = .ok (.ishr, 1) := by decide +kernel
theorem dX5_bars_98 : decode cX5_bars 98 = .ok (.iconst 1, 1) := by decide +kernel
theorem dX5_bars_99 : decode cX5_bars 99 = .ok (.iand, 1) := by decide +kernel
theorem dX5_bars_100 : decode cX5_bars 100 = .ok (.ifCond .ne 6, 3) := by decide +kernel
theorem dX5_bars_103 : decode cX5_bars 103 = .ok (.goto 34, 3) := by decide +kernel
theorem dX5_bars_106 : decode cX5_bars 106 = .ok (.iload 4, 2) := by decide +kernel
theorem dX5_bars_108 : decode cX5_bars 108 = .ok (.aload_n 0, 1) := by decide +kernel
theorem dX5_bars_109 : decode cX5_bars 109 = .ok (.getfield 62, 3) := by decide +kernel
theorem dX5_bars_112 : decode cX5_bars 112 = .ok (.aload_n 0, 1) := by decide +kernel
theorem dX5_bars_113 : decode cX5_bars 113 = .ok (.getfield 71, 3) := by decide +kernel
theorem dX5_bars_116 : decode cX5_bars 116 = .ok (.iload 7, 2) := by decide +kernel
theorem dX5_bars_118 : decode cX5_bars 118 = .ok (.iaload, 1) := by decide +kernel
theorem dX5_bars_119 : decode cX5_bars 119 = .ok (.iaload, 1) := by decide +kernel
theorem dX5_bars_120 : decode cX5_bars 120 = .ok (.ior, 1) := by decide +kernel
theorem dX5_bars_121 : decode cX5_bars 121 = .ok (.istore 4, 2) := by decide +kernel
theorem dX5_bars_123 : decode cX5_bars 123 = .ok (.iload 5, 2) := by decide +kernel
theorem dX5_bars_125 : decode cX5_bars 125 = .ok (.iconst 1, 1) := by decide +kernel
theorem dX5_bars_126 : decode cX5_bars 126 = .ok (.aload_n 0, 1) := by decide +kernel
theorem dX5_bars_127 : decode cX5_bars 127 = .ok (.getfield 68, 3) := by decide +kernel
theorem dX5_bars_130 : decode cX5_bars 130 = .ok (.iload 7, 2) := by decide +kernel
theorem dX5_bars_132 : decode cX5_bars 132 = .ok (.iaload, 1) := by decide +kernel
theorem dX5_bars_133 : decode cX5_bars 133 = .ok (.ishl, 1) := by decide +kernel
theorem dX5_bars_134 : decode cX5_bars 134 = .ok (.ior, 1) := by decide +kernel
theorem dX5_bars_135 : decode cX5_bars 135 = .ok (.istore 5, 2) := by decide +kernel
theorem dX5_bars_137 : decode cX5_bars 137 = .ok (.iinc 7 1, 3) := by decide +kernel
theorem dX5_bars_140 : decode cX5_bars 140 = .ok (.goto (-61), 3) := by decide +kernel
theorem dX5_bars_143 : decode cX5_bars 143 = .ok (.iinc 6 1, 3) := by decide +kernel
theorem dX5_bars_146 : decode cX5_bars 146 = .ok (.goto (-77), 3) := by decide +kernel
theorem dX5_bars_149 : decode cX5_bars 149 = .ok (.iload_n 3, 1) := by decide +kernel
theorem dX5_bars_150 : decode cX5_bars 150 = .ok (.istore 6, 2) := by decide +kernel
theorem dX5_bars_152 : decode cX5_bars 152 = .ok (.iconst 0, 1) := by decide +kernel
theorem dX5_bars_153 : decode cX5_bars 153 = .ok (.istore 7, 2) := by decide +kernel
theorem dX5_bars_155 : decode cX5_bars 155 = .ok (.iload 7, 2) := by decide +kernel
theorem dX5_bars_157 : decode cX5_bars 157 = .ok (.aload_n 0, 1) := by decide +kernel
theorem dX5_bars_158 : decode cX5_bars 158 = .ok (.getfield 109, 3) := by decide +kernel
theorem dX5_bars_161 : decode cX5_bars 161 = .ok (.if_icmp .ge 33, 3) := by decide +kernel
theorem dX5_bars_164 : decode cX5_bars 164 = .ok (.iload 5, 2) := by decide +kernel
theorem dX5_bars_166 : decode cX5_bars 166 = .ok (.iload 7, 2) := by decide +kernel
theorem dX5_bars_168 : decode cX5_bars 168 = .ok (.ishr, 1) := by decide +kernel
theorem dX5_bars_169 : decode cX5_bars 169 = .ok (.iconst 1, 1) := by decide +kernel
theorem dX5_bars_170 : decode cX5_bars 170 = .ok (.iand, 1) := by decide +kernel
theorem dX5_bars_171 : decode cX5_bars 171 = .ok (.ifCond .ne 6, 3) := by decide +kernel
theorem dX5_bars_174 : decode cX5_bars 174 = .ok (.goto 14, 3) := by decide +kernel
theorem dX5_bars_177 : decode cX5_bars 177 = .ok (.iload 6, 2) := by decide +kernel
theorem dX5_bars_179 : decode cX5_bars 179 = .ok (.ifCond .ne 6, 3) := by decide +kernel
theorem dX5_bars_182 : decode cX5_bars 182 = .ok (.iload 7, 2) := by decide +kernel
theorem dX5_bars_184 : decode cX5_bars 184 = .ok (.ireturn, 1) := by decide +kernel
theorem dX5_bars_185 : decode cX5_bars 185 = .ok (.iinc 6 (-1), 3) := by decide +kernel
theorem dX5_bars_188 : decode cX5_bars 188 = .ok (.iinc 7 1, 3) := by decide +kernel
theorem dX5_bars_191 : decode cX5_bars 191 = .ok (.goto (-36), 3) := by decide +kernel
theorem dX5_bars_194 : decode cX5_bars 194 = .ok (.iconst (-1), 1) := by decide +kernel
theorem dX5_bars_195 : decode cX5_bars 195 = .ok (.ireturn, 1) := by decide +kernel
theorem dX5_flow_0 : decode cX5_flow 0 = .ok (.aload_n 0, 1) := by decide +kernel
theorem dX5_flow_1 : decode cX5_flow 1 = .ok (.aload_n 0, 1) := by decide +kernel
theorem dX5_flow_2 : decode cX5_flow 2 = .ok (.iload_n 1, 1) := by decide +kernel
theorem dX5_flow_3 : decode cX5_flow 3 = .ok (.invokevirtual 148, 3) := by decide +kernel
theorem dX5_flow_6 : decode cX5_flow 6 = .ok (.ifCond .ne 7, 3) := by decide +kernel
theorem dX5_flow_9 : decode cX5_flow 9 = .ok (.iconst 1, 1) := by decide +kernel
theorem dX5_flow_10 : decode cX5_flow 10 = .ok (.goto 21, 3) := by decide +kernel
theorem dX5_flow_13 : decode cX5_flow 13 = .ok (.iload_n 2, 1) := by decide +kernel
theorem dX5_flow_14 : decode cX5_flow 14 = .ok (.ifCond .lt 12, 3) := by decide +kernel
theorem dX5_flow_17 : decode cX5_flow 17 = .ok (.iload_n 3, 1) := by decide +kernel
theorem dX5_flow_18 : decode cX5_flow 18 = .ok (.iconst 0, 1) := by decide +kernel
theorem dX5_flow_19 : decode cX5_flow 19 = .ok (.iconst 2, 1) := by decide +kernel
theorem dX5_flow_20 : decode cX5_flow 20 = .ok (.invokestatic 87, 3) := by decide +kernel
theorem dX5_flow_23 : decode cX5_flow 23 = .ok (.ifCond .ne 7, 3) := by decide +kernel
theorem dX5_flow_26 : decode cX5_flow 26 = .ok (.iconst 2, 1) := by decide +kernel
theorem dX5_flow_27 : decode cX5_flow 27 = .ok (.goto 4, 3) := by decide +kernel
theorem dX5_flow_30 : decode cX5_flow 30 = .ok (.iconst 0, 1) := by decide +kernel
theorem dX5_flow_31 : decode cX5_flow 31 = .ok (.putfield 83, 3) := by decide +kernel
theorem dX5_flow_34 : decode cX5_flow 34 = .ok (.aload_n 0, 1) := by decide +kernel
theorem dX5_flow_35 : decode cX5_flow 35 = .ok (.getfield 83, 3) := by decide +kernel
theorem dX5_flow_38 : decode cX5_flow 38 = .ok (.ifCond .ne 21, 3) := by decide +kernel
theorem dX5_flow_41 : decode cX5_flow 41 = .ok (.aload_n 0, 1) := by decide +kernel
theorem dX5_flow_42 : decode cX5_flow 42 = .ok (.aload_n 0, 1) := by decide +kernel
theorem dX5_flow_43 : decode cX5_flow 43 = .ok (.getfield 49, 3) := by decide +kernel
theorem dX5_flow_46 : decode cX5_flow 46 = .ok (.iload_n 1, 1) := by decide +kernel
theorem dX5_flow_47 : decode cX5_flow 47 = .ok (.iaload, 1) := by decide +kernel
theorem dX5_flow_48 : decode cX5_flow 48 = .ok (.ifCond .eq 7, 3) := by decide +kernel
theorem dX5_flow_51 : decode cX5_flow 51 = .ok (.iconst 3, 1) := by decide +kernel
theorem dX5_flow_52 : decode cX5_flow 52 = .ok (.goto 4, 3) := by decide +kernel
theorem dX5_flow_55 : decode cX5_flow 55 = .ok (.iconst 0, 1) := by decide +kernel
theorem dX5_flow_56 : decode cX5_flow 56 = .ok (.putfield 83, 3) := by decide +kernel
theorem dX5_flow_59 : decode cX5_flow 59 = .ok (.aload_n 0, 1) := by decide +kernel
theorem dX5_flow_60 : decode cX5_flow 60 = .ok (.getfield 83, 3) := by decide +kernel
theorem dX5_flow_63 : decode cX5_flow 63 = .ok (.ifCond .le 5, 3) := by decide +kernel
theorem dX5_flow_66 : decode cX5_flow 66 = .ok (.iconst 0, 1) := by decide +kernel
theorem dX5_flow_67 : decode cX5_flow 67 = .ok (.ireturn, 1) := by decide +kernel
theorem dX5_flow_68 : decode cX5_flow 68 = .ok (.aload_n 0, 1) := by decide +kernel
theorem dX5_flow_69 : decode cX5_flow 69 = .ok (.invokevirtual 168, 3) := by decide +kernel
theorem dX5_flow_72 : decode cX5_flow 72 = .ok (.iload_n 2, 1) := by decide +kernel
theorem dX5_flow_73 : decode cX5_flow 73 = .ok (.istore 4, 2) := by decide +kernel
theorem dX5_flow_75 : decode cX5_flow 75 = .ok (.iconst 0, 1) := by decide +kernel
theorem dX5_flow_76 : decode cX5_flow 76 = .ok (.istore 5, 2) := by decide +kernel
theorem dX5_flow_78 : decode cX5_flow 78 = .ok (.iload 5, 2) := by decide +kernel
theorem dX5_flow_80 : decode cX5_flow 80 = .ok (.aload_n 0, 1) := by decide +kernel
theorem dX5_flow_81 : decode cX5_flow 81 = .ok (.getfield 158, 3) := by decide +kernel
theorem dX5_flow_84 : decode cX5_flow 84 = .ok (.if_icmp .ge 68, 3) := by decide +kernel
theorem dX5_flow_87 : decode cX5_flow 87 = .ok (.aload_n 0, 1) := by decide +kernel
theorem dX5_flow_88 : decode cX5_flow 88 = .ok (.getfield 68, 3) := by decide +kernel
theorem dX5_flow_91 : decode cX5_flow 91 = .ok (.iload 5, 2) := by decide +kernel
theorem dX5_flow_93 : decode cX5_flow 93 = .ok (.iaload, 1) := by decide +kernel
theorem dX5_flow_94 : decode cX5_flow 94 = .ok (.iload_n 1, 1) := by decide +kernel
theorem dX5_flow_95 : decode cX5_flow 95 = .ok (.if_icmp .eq 6, 3) := by decide +kernel
theorem dX5_flow_98 : decode cX5_flow 98 = .ok (.goto 48, 3) := by decide +kernel
theorem dX5_flow_101 : decode cX5_flow 101 = .ok (.iload 4, 2) := by decide +kernel
theorem dX5_flow_103 : decode cX5_flow 103 = .ok (.ifCond .ne 40, 3) := by decide +kernel
theorem dX5_flow_106 : decode cX5_flow 106 = .ok (.iload_n 3, 1) := by decide +kernel
theorem dX5_flow_107 : decode cX5_flow 107 = .ok (.ifCond .ne 13, 3) := by decide +kernel
theorem dX5_flow_110 : decode cX5_flow 110 = .ok (.aload_n 0, 1) := by decide +kernel
theorem dX5_flow_111 : decode cX5_flow 111 = .ok (.getfield 77, 3) := by decide +kernel
theorem dX5_flow_114 : decode cX5_flow 114 = .ok (.iload 5, 2) := by decide +kernel
theorem dX5_flow_116 : decode cX5_flow 116 = .ok (.iaload, 1) := by decide +kernel
theorem dX5_flow_117 : decode cX5_flow 117 = .ok (.goto 25, 3) := by decide +kernel
theorem dX5_flow_120 : decode cX5_flow 120 = .ok (.iload_n 3, 1) := by decide +kernel
theorem dX5_flow_121 : decode cX5_flow 121 = .ok (.iconst 1, 1) := by decide +kernel
theorem dX5_flow_122 : decode cX5_flow 122 = .ok (.if_icmp .ne 13, 3) := by decide +kernel
theorem dX5_flow_125 : decode cX5_flow 125 = .ok (.aload_n 0, 1) := by decide +kernel
theorem dX5_flow_126 : decode cX5_flow 126 = .ok (.getfield 74, 3) := by decide +kernel
theorem dX5_flow_129 : decode cX5_flow 129 = .ok (.iload 5, 2) := by decide +kernel
theorem dX5_flow_131 : decode cX5_flow 131 = .ok (.iaload, 1) := by decide +kernel
theorem dX5_flow_132 : decode cX5_flow 132 = .ok (.goto 10, 3) := by decide +kernel
theorem dX5_flow_135 : decode cX5_flow 135 = .ok (.aload_n 0, 1) := by decide +kernel
theorem dX5_flow_136 : decode cX5_flow 136 = .ok (.getfield 80, 3) := by decide +kernel
theorem dX5_flow_139 : decode cX5_flow 139 = .ok (.iload 5, 2) := by decide +kernel
theorem dX5_flow_141 : decode cX5_flow 141 = .ok (.iaload, 1) := by decide +kernel
theorem dX5_flow_142 : decode cX5_flow 142 = .ok (.ireturn, 1) := by decide +kernel
theorem dX5_flow_143 : decode cX5_flow 143 = .ok (.iinc 4 (-1), 3) := by decide +kernel
theorem dX5_flow_146 : decode cX5_flow 146 = .ok (.iinc 5 1, 3) := by decide +kernel
theorem dX5_flow_149 : decode cX5_flow 149 = .ok (.goto (-71), 3) := by decide +kernel
theorem dX5_flow_152 : decode cX5_flow 152 = .ok (.iconst (-1), 1) := by decide +kernel
theorem dX5_flow_153 : decode cX5_flow 153 = .ok (.ireturn, 1) := by decide +kernel
theorem dX5_state_0 : decode cX5_state 0 = .ok (.aload_n 0, 1) := by decide +kernel
theorem dX5_state_1 : decode cX5_state 1 = .ok (.aload_n 0, 1) := by decide +kernel
theorem dX5_state_2 : decode cX5_state 2 = .ok (.iload_n 1, 1) := by decide +kernel
theorem dX5_state_3 : decode cX5_state 3 = .ok (.invokevirtual 148, 3) := by decide +kernel
theorem dX5_state_6 : decode cX5_state 6 = .ok (.ifCond .eq 7, 3) := by decide +kernel
theorem dX5_state_9 : decode cX5_state 9 = .ok (.iconst 0, 1) := by decide +kernel
theorem dX5_state_10 : decode cX5_state 10 = .ok (.goto 4, 3) := by decide +kernel
theorem dX5_state_13 : decode cX5_state 13 = .ok (.iconst 1, 1) := by decide +kernel
theorem dX5_state_14 : decode cX5_state 14 = .ok (.putfield 83, 3) := by decide +kernel
theorem dX5_state_17 : decode cX5_state 17 = .ok (.aload_n 0, 1) := by decide +kernel
theorem dX5_state_18 : decode cX5_state 18 = .ok (.getfield 83, 3) := by decide +kernel
theorem dX5_state_21 : decode cX5_state 21 = .ok (.ifCond .le 7, 3) := by decide +kernel
theorem dX5_state_24 : decode cX5_state 24 = .ok (.iconst 0, 1) := by decide +kernel
theorem dX5_state_25 : decode cX5_state 25 = .ok (.goto 9, 3) := by decide +kernel
theorem dX5_state_28 : decode cX5_state 28 = .ok (.aload_n 0, 1) := by decide +kernel
theorem dX5_state_29 : decode cX5_state 29 = .ok (.getfield 49, 3) := by decide +kernel
theorem dX5_state_32 : decode cX5_state 32 = .ok (.iload_n 1, 1) := by decide +kernel
theorem dX5_state_33 : decode cX5_state 33 = .ok (.iaload, 1) := by decide +kernel
theorem dX5_state_34 : decode cX5_state 34 = .ok (.ireturn, 1) := by decide +kernel
theorem dX5_left_0 : decode cX5_left 0 = .ok (.aload_n 0, 1) := by decide +kernel
theorem dX5_left_1 : decode cX5_left 1 = .ok (.aload_n 0, 1) := by decide +kernel
theorem dX5_left_2 : decode cX5_left 2 = .ok (.iload_n 1, 1) := by decide +kernel
theorem dX5_left_3 : decode cX5_left 3 = .ok (.invokevirtual 136, 3) := by decide +kernel
theorem dX5_left_6 : decode cX5_left 6 = .ok (.ifCond .eq 7, 3) := by decide +kernel
theorem dX5_left_9 : decode cX5_left 9 = .ok (.iconst 0, 1) := by decide +kernel
theorem dX5_left_10 : decode cX5_left 10 = .ok (.goto 4, 3) := by decide +kernel
theorem dX5_left_13 : decode cX5_left 13 = .ok (.iconst 1, 1) := by decide +kernel
theorem dX5_left_14 : decode cX5_left 14 = .ok (.putfield 83, 3) := by decide +kernel
theorem dX5_left_17 : decode cX5_left 17 = .ok (.aload_n 0, 1) := by decide +kernel
theorem dX5_left_18 : decode cX5_left 18 = .ok (.getfield 83, 3) := by decide +kernel
theorem dX5_left_21 : decode cX5_left 21 = .ok (.ifCond .le 5, 3) := by decide +kernel
theorem dX5_left_24 : decode cX5_left 24 = .ok (.iconst 0, 1) := by decide +kernel
theorem dX5_left_25 : decode cX5_left 25 = .ok (.ireturn, 1) := by decide +kernel
theorem dX5_left_26 : decode cX5_left 26 = .ok (.aload_n 0, 1) := by decide +kernel
theorem dX5_left_27 : decode cX5_left 27 = .ok (.invokevirtual 168, 3) := by decide +kernel
theorem dX5_left_30 : decode cX5_left 30 = .ok (.aload_n 0, 1) := by decide +kernel
theorem dX5_left_31 : decode cX5_left 31 = .ok (.getfield 65, 3) := by decide +kernel
theorem dX5_left_34 : decode cX5_left 34 = .ok (.iload_n 1, 1) := by decide +kernel
theorem dX5_left_35 : decode cX5_left 35 = .ok (.laload, 1) := by decide +kernel
theorem dX5_left_36 : decode cX5_left 36 = .ok (.l2i, 1) := by decide +kernel
theorem dX5_left_37 : decode cX5_left 37 = .ok (.ireturn, 1) := by decide +kernel
theorem dX5_count_0 : decode cX5_count 0 = .ok (.aload_n 0, 1) := by decide +kernel
theorem dX5_count_1 : decode cX5_count 1 = .ok (.iconst 0, 1) := by decide +kernel
theorem dX5_count_2 : decode cX5_count 2 = .ok (.putfield 83, 3) := by decide +kernel
theorem dX5_count_5 : decode cX5_count 5 = .ok (.iload_n 1, 1) := by decide +kernel
theorem dX5_count_6 : decode cX5_count 6 = .ok (.ifCond .ne 8, 3) := by decide +kernel
theorem dX5_count_9 : decode cX5_count 9 = .ok (.aload_n 0, 1) := by decide +kernel
theorem dX5_count_10 : decode cX5_count 10 = .ok (.getfield 91, 3) := by decide +kernel
theorem dX5_count_13 : decode cX5_count 13 = .ok (.ireturn, 1) := by decide +kernel
theorem dX5_count_14 : decode cX5_count 14 = .ok (.iload_n 1, 1) := by decide +kernel
theorem dX5_count_15 : decode cX5_count 15 = .ok (.iconst 1, 1) := by decide +kernel
theorem dX5_count_16 : decode cX5_count 16 = .ok (.if_icmp .ne 8, 3) := by decide +kernel
theorem dX5_count_19 : decode cX5_count 19 = .ok (.aload_n 0, 1) := by decide +kernel
theorem dX5_count_20 : decode cX5_count 20 = .ok (.getfield 109, 3) := by decide +kernel
