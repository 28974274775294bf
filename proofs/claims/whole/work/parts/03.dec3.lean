theorem dX10_bestColumn_137 : decode cX10_bestColumn 137 = .ok (.iload_n 3, 1) := by decide +kernel
theorem dX10_bestColumn_138 : decode cX10_bestColumn 138 = .ok (.ifCond .ne 8, 3) := by decide +kernel
theorem dX10_bestColumn_141 : decode cX10_bestColumn 141 = .ok (.iload 4, 2) := by decide +kernel
theorem dX10_bestColumn_143 : decode cX10_bestColumn 143 = .ok (.goto 5, 3) := by decide +kernel
theorem dX10_bestColumn_146 : decode cX10_bestColumn 146 = .ok (.iload 5, 2) := by decide +kernel
theorem dX10_bestColumn_148 : decode cX10_bestColumn 148 = .ok (.ireturn, 1) := by decide +kernel
theorem dX10_toWash_0 : decode cX10_toWash 0 = .ok (.bipush (-6), 2) := by decide +kernel
theorem dX10_toWash_2 : decode cX10_toWash 2 = .ok (.istore_n 1, 1) := by decide +kernel
theorem dX10_toWash_3 : decode cX10_toWash 3 = .ok (.bipush (-6), 2) := by decide +kernel
theorem dX10_toWash_5 : decode cX10_toWash 5 = .ok (.istore_n 2, 1) := by decide +kernel
theorem dX10_toWash_6 : decode cX10_toWash 6 = .ok (.iconst 0, 1) := by decide +kernel
theorem dX10_toWash_7 : decode cX10_toWash 7 = .ok (.istore_n 3, 1) := by decide +kernel
theorem dX10_toWash_8 : decode cX10_toWash 8 = .ok (.iload_n 3, 1) := by decide +kernel
theorem dX10_toWash_9 : decode cX10_toWash 9 = .ok (.aload_n 0, 1) := by decide +kernel
theorem dX10_toWash_10 : decode cX10_toWash 10 = .ok (.getfield 7, 3) := by decide +kernel
theorem dX10_toWash_13 : decode cX10_toWash 13 = .ok (.bipush 6, 2) := by decide +kernel
theorem dX10_toWash_15 : decode cX10_toWash 15 = .ok (.iaload, 1) := by decide +kernel
theorem dX10_toWash_16 : decode cX10_toWash 16 = .ok (.if_icmp .ge 63, 3) := by decide +kernel
theorem dX10_toWash_19 : decode cX10_toWash 19 = .ok (.aload_n 0, 1) := by decide +kernel
theorem dX10_toWash_20 : decode cX10_toWash 20 = .ok (.iload_n 3, 1) := by decide +kernel
theorem dX10_toWash_21 : decode cX10_toWash 21 = .ok (.iconst 3, 1) := by decide +kernel
theorem dX10_toWash_22 : decode cX10_toWash 22 = .ok (.invokevirtual 57, 3) := by decide +kernel
theorem dX10_toWash_25 : decode cX10_toWash 25 = .ok (.istore 4, 2) := by decide +kernel
theorem dX10_toWash_27 : decode cX10_toWash 27 = .ok (.aload_n 0, 1) := by decide +kernel
theorem dX10_toWash_28 : decode cX10_toWash 28 = .ok (.iload_n 3, 1) := by decide +kernel
theorem dX10_toWash_29 : decode cX10_toWash 29 = .ok (.iconst 3, 1) := by decide +kernel
theorem dX10_toWash_30 : decode cX10_toWash 30 = .ok (.iconst 0, 1) := by decide +kernel
theorem dX10_toWash_31 : decode cX10_toWash 31 = .ok (.invokevirtual 89, 3) := by decide +kernel
theorem dX10_toWash_34 : decode cX10_toWash 34 = .ok (.aload_n 0, 1) := by decide +kernel
theorem dX10_toWash_35 : decode cX10_toWash 35 = .ok (.invokevirtual 159, 3) := by decide +kernel
theorem dX10_toWash_38 : decode cX10_toWash 38 = .ok (.istore 5, 2) := by decide +kernel
theorem dX10_toWash_40 : decode cX10_toWash 40 = .ok (.aload_n 0, 1) := by decide +kernel
theorem dX10_toWash_41 : decode cX10_toWash 41 = .ok (.iload_n 3, 1) := by decide +kernel
theorem dX10_toWash_42 : decode cX10_toWash 42 = .ok (.iconst 3, 1) := by decide +kernel
theorem dX10_toWash_43 : decode cX10_toWash 43 = .ok (.iload 4, 2) := by decide +kernel
theorem dX10_toWash_45 : decode cX10_toWash 45 = .ok (.invokevirtual 89, 3) := by decide +kernel
theorem dX10_toWash_48 : decode cX10_toWash 48 = .ok (.iload 5, 2) := by decide +kernel
theorem dX10_toWash_50 : decode cX10_toWash 50 = .ok (.iload_n 2, 1) := by decide +kernel
theorem dX10_toWash_51 : decode cX10_toWash 51 = .ok (.if_icmp .le 7, 3) := by decide +kernel
theorem dX10_toWash_54 : decode cX10_toWash 54 = .ok (.iload_n 3, 1) := by decide +kernel
theorem dX10_toWash_55 : decode cX10_toWash 55 = .ok (.goto 4, 3) := by decide +kernel
theorem dX10_toWash_58 : decode cX10_toWash 58 = .ok (.iload_n 1, 1) := by decide +kernel
theorem dX10_toWash_59 : decode cX10_toWash 59 = .ok (.istore_n 1, 1) := by decide +kernel
theorem dX10_toWash_60 : decode cX10_toWash 60 = .ok (.iload 5, 2) := by decide +kernel
theorem dX10_toWash_62 : decode cX10_toWash 62 = .ok (.iload_n 2, 1) := by decide +kernel
theorem dX10_toWash_63 : decode cX10_toWash 63 = .ok (.if_icmp .le 8, 3) := by decide +kernel
theorem dX10_toWash_66 : decode cX10_toWash 66 = .ok (.iload 5, 2) := by decide +kernel
theorem dX10_toWash_68 : decode cX10_toWash 68 = .ok (.goto 4, 3) := by decide +kernel
theorem dX10_toWash_71 : decode cX10_toWash 71 = .ok (.iload_n 2, 1) := by decide +kernel
theorem dX10_toWash_72 : decode cX10_toWash 72 = .ok (.istore_n 2, 1) := by decide +kernel
theorem dX10_toWash_73 : decode cX10_toWash 73 = .ok (.iinc 3 1, 3) := by decide +kernel
theorem dX10_toWash_76 : decode cX10_toWash 76 = .ok (.goto (-68), 3) := by decide +kernel
theorem dX10_toWash_79 : decode cX10_toWash 79 = .ok (.iload_n 1, 1) := by decide +kernel
theorem dX10_toWash_80 : decode cX10_toWash 80 = .ok (.ireturn, 1) := by decide +kernel
theorem dX10_leastLimit_0 : decode cX10_leastLimit 0 = .ok (.aload_n 0, 1) := by decide +kernel
theorem dX10_leastLimit_1 : decode cX10_leastLimit 1 = .ok (.getfield 7, 3) := by decide +kernel
theorem dX10_leastLimit_4 : decode cX10_leastLimit 4 = .ok (.iconst 0, 1) := by decide +kernel
theorem dX10_leastLimit_5 : decode cX10_leastLimit 5 = .ok (.iaload, 1) := by decide +kernel
theorem dX10_leastLimit_6 : decode cX10_leastLimit 6 = .ok (.istore_n 1, 1) := by decide +kernel
theorem dX10_leastLimit_7 : decode cX10_leastLimit 7 = .ok (.iconst 1, 1) := by decide +kernel
theorem dX10_leastLimit_8 : decode cX10_leastLimit 8 = .ok (.istore_n 2, 1) := by decide +kernel
theorem dX10_leastLimit_9 : decode cX10_leastLimit 9 = .ok (.aload_n 0, 1) := by decide +kernel
theorem dX10_leastLimit_10 : decode cX10_leastLimit 10 = .ok (.getfield 7, 3) := by decide +kernel
theorem dX10_leastLimit_13 : decode cX10_leastLimit 13 = .ok (.iconst 0, 1) := by decide +kernel
theorem dX10_leastLimit_14 : decode cX10_leastLimit 14 = .ok (.sipush 9999, 3) := by decide +kernel
theorem dX10_leastLimit_17 : decode cX10_leastLimit 17 = .ok (.iastore, 1) := by decide +kernel
theorem dX10_leastLimit_18 : decode cX10_leastLimit 18 = .ok (.iconst 0, 1) := by decide +kernel
theorem dX10_leastLimit_19 : decode cX10_leastLimit 19 = .ok (.istore_n 3, 1) := by decide +kernel
theorem dX10_leastLimit_20 : decode cX10_leastLimit 20 = .ok (.iload_n 3, 1) := by decide +kernel
theorem dX10_leastLimit_21 : decode cX10_leastLimit 21 = .ok (.bipush 11, 2) := by decide +kernel
theorem dX10_leastLimit_23 : decode cX10_leastLimit 23 = .ok (.if_icmp .ge 54, 3) := by decide +kernel
theorem dX10_leastLimit_26 : decode cX10_leastLimit 26 = .ok (.aload_n 0, 1) := by decide +kernel
theorem dX10_leastLimit_27 : decode cX10_leastLimit 27 = .ok (.iload_n 3, 1) := by decide +kernel
theorem dX10_leastLimit_28 : decode cX10_leastLimit 28 = .ok (.invokevirtual 86, 3) := by decide +kernel
theorem dX10_leastLimit_31 : decode cX10_leastLimit 31 = .ok (.istore 4, 2) := by decide +kernel
theorem dX10_leastLimit_33 : decode cX10_leastLimit 33 = .ok (.iconst 0, 1) := by decide +kernel
theorem dX10_leastLimit_34 : decode cX10_leastLimit 34 = .ok (.istore 5, 2) := by decide +kernel
theorem dX10_leastLimit_36 : decode cX10_leastLimit 36 = .ok (.iload 5, 2) := by decide +kernel
theorem dX10_leastLimit_38 : decode cX10_leastLimit 38 = .ok (.iconst 4, 1) := by decide +kernel
theorem dX10_leastLimit_39 : decode cX10_leastLimit 39 = .ok (.if_icmp .ge 32, 3) := by decide +kernel
theorem dX10_leastLimit_42 : decode cX10_leastLimit 42 = .ok (.aload_n 0, 1) := by decide +kernel
theorem dX10_leastLimit_43 : decode cX10_leastLimit 43 = .ok (.getfield 34, 3) := by decide +kernel
theorem dX10_leastLimit_46 : decode cX10_leastLimit 46 = .ok (.iload 5, 2) := by decide +kernel
theorem dX10_leastLimit_48 : decode cX10_leastLimit 48 = .ok (.iaload, 1) := by decide +kernel
theorem dX10_leastLimit_49 : decode cX10_leastLimit 49 = .ok (.iload_n 2, 1) := by decide +kernel
theorem dX10_leastLimit_50 : decode cX10_leastLimit 50 = .ok (.if_icmp .le 13, 3) := by decide +kernel
theorem dX10_leastLimit_53 : decode cX10_leastLimit 53 = .ok (.aload_n 0, 1) := by decide +kernel
theorem dX10_leastLimit_54 : decode cX10_leastLimit 54 = .ok (.getfield 34, 3) := by decide +kernel
theorem dX10_leastLimit_57 : decode cX10_leastLimit 57 = .ok (.iload 5, 2) := by decide +kernel
theorem dX10_leastLimit_59 : decode cX10_leastLimit 59 = .ok (.iaload, 1) := by decide +kernel
theorem dX10_leastLimit_60 : decode cX10_leastLimit 60 = .ok (.goto 4, 3) := by decide +kernel
theorem dX10_leastLimit_63 : decode cX10_leastLimit 63 = .ok (.iload_n 2, 1) := by decide +kernel
theorem dX10_leastLimit_64 : decode cX10_leastLimit 64 = .ok (.istore_n 2, 1) := by decide +kernel
theorem dX10_leastLimit_65 : decode cX10_leastLimit 65 = .ok (.iinc 5 1, 3) := by decide +kernel
theorem dX10_leastLimit_68 : decode cX10_leastLimit 68 = .ok (.goto (-32), 3) := by decide +kernel
theorem dX10_leastLimit_71 : decode cX10_leastLimit 71 = .ok (.iinc 3 1, 3) := by decide +kernel
theorem dX10_leastLimit_74 : decode cX10_leastLimit 74 = .ok (.goto (-54), 3) := by decide +kernel
theorem dX10_leastLimit_77 : decode cX10_leastLimit 77 = .ok (.aload_n 0, 1) := by decide +kernel
theorem dX10_leastLimit_78 : decode cX10_leastLimit 78 = .ok (.getfield 7, 3) := by decide +kernel
theorem dX10_leastLimit_81 : decode cX10_leastLimit 81 = .ok (.iconst 0, 1) := by decide +kernel
theorem dX10_leastLimit_82 : decode cX10_leastLimit 82 = .ok (.iload_n 1, 1) := by decide +kernel
theorem dX10_leastLimit_83 : decode cX10_leastLimit 83 = .ok (.iastore, 1) := by decide +kernel
theorem dX10_leastLimit_84 : decode cX10_leastLimit 84 = .ok (.iload_n 2, 1) := by decide +kernel
theorem dX10_leastLimit_85 : decode cX10_leastLimit 85 = .ok (.ireturn, 1) := by decide +kernel
theorem dX10_put_0 : decode cX10_put 0 = .ok (.iconst 0, 1) := by decide +kernel
theorem dX10_put_1 : decode cX10_put 1 = .ok (.istore_n 3, 1) := by decide +kernel
theorem dX10_put_2 : decode cX10_put 2 = .ok (.iconst 1, 1) := by decide +kernel
theorem dX10_put_3 : decode cX10_put 3 = .ok (.istore 4, 2) := by decide +kernel
theorem dX10_put_5 : decode cX10_put 5 = .ok (.lload_n 1, 1) := by decide +kernel
theorem dX10_put_6 : decode cX10_put 6 = .ok (.lstore 5, 2) := by decide +kernel
theorem dX10_put_8 : decode cX10_put 8 = .ok (.iload_n 3, 1) := by decide +kernel
theorem dX10_put_9 : decode cX10_put 9 = .ok (.bipush 8, 2) := by decide +kernel
theorem dX10_put_11 : decode cX10_put 11 = .ok (.if_icmp .ge 57, 3) := by decide +kernel
theorem dX10_put_14 : decode cX10_put 14 = .ok (.lload 5, 2) := by decide +kernel
theorem dX10_put_16 : decode cX10_put 16 = .ok (.ldc2_w 172, 3) := by decide +kernel
theorem dX10_put_19 : decode cX10_put 19 = .ok (.land, 1) := by decide +kernel
theorem dX10_put_20 : decode cX10_put 20 = .ok (.lconst 0, 1) := by decide +kernel
theorem dX10_put_21 : decode cX10_put 21 = .ok (.lcmp, 1) := by decide +kernel
theorem dX10_put_22 : decode cX10_put 22 = .ok (.ifCond .eq 46, 3) := by decide +kernel
theorem dX10_put_25 : decode cX10_put 25 = .ok (.iload 4, 2) := by decide +kernel
theorem dX10_put_27 : decode cX10_put 27 = .ok (.ifCond .eq 25, 3) := by decide +kernel
theorem dX10_put_30 : decode cX10_put 30 = .ok (.lload 5, 2) := by decide +kernel
theorem dX10_put_32 : decode cX10_put 32 = .ok (.ldc2_w 172, 3) := by decide +kernel
theorem dX10_put_35 : decode cX10_put 35 = .ok (.land, 1) := by decide +kernel
theorem dX10_put_36 : decode cX10_put 36 = .ok (.ldc2_w 174, 3) := by decide +kernel
theorem dX10_put_39 : decode cX10_put 39 = .ok (.ldc2_w 176, 3) := by decide +kernel
theorem dX10_put_42 : decode cX10_put 42 = .ok (.invokestatic 51, 3) := by decide +kernel
theorem dX10_put_45 : decode cX10_put 45 = .ok (.ifCond .eq 7, 3) := by decide +kernel
theorem dX10_put_48 : decode cX10_put 48 = .ok (.iconst 1, 1) := by decide +kernel
theorem dX10_put_49 : decode cX10_put 49 = .ok (.goto 4, 3) := by decide +kernel
theorem dX10_put_52 : decode cX10_put 52 = .ok (.iconst 0, 1) := by decide +kernel
theorem dX10_put_53 : decode cX10_put 53 = .ok (.istore 4, 2) := by decide +kernel
theorem dX10_put_55 : decode cX10_put 55 = .ok (.lload 5, 2) := by decide +kernel
theorem dX10_put_57 : decode cX10_put 57 = .ok (.bipush 8, 2) := by decide +kernel
theorem dX10_put_59 : decode cX10_put 59 = .ok (.lushr, 1) := by decide +kernel
theorem dX10_put_60 : decode cX10_put 60 = .ok (.lstore 5, 2) := by decide +kernel
theorem dX10_put_62 : decode cX10_put 62 = .ok (.iinc 3 1, 3) := by decide +kernel
theorem dX10_put_65 : decode cX10_put 65 = .ok (.goto (-57), 3) := by decide +kernel
theorem dX10_put_68 : decode cX10_put 68 = .ok (.iload_n 3, 1) := by decide +kernel
theorem dX10_put_69 : decode cX10_put 69 = .ok (.ifCond .eq 15, 3) := by decide +kernel
theorem dX10_put_72 : decode cX10_put 72 = .ok (.lload 5, 2) := by decide +kernel
theorem dX10_put_74 : decode cX10_put 74 = .ok (.lconst 0, 1) := by decide +kernel
theorem dX10_put_75 : decode cX10_put 75 = .ok (.lcmp, 1) := by decide +kernel
theorem dX10_put_76 : decode cX10_put 76 = .ok (.ifCond .ne 8, 3) := by decide +kernel
theorem dX10_put_79 : decode cX10_put 79 = .ok (.iload 4, 2) := by decide +kernel
theorem dX10_put_81 : decode cX10_put 81 = .ok (.ifCond .ne 6, 3) := by decide +kernel
theorem dX10_put_84 : decode cX10_put 84 = .ok (.bipush (-2), 2) := by decide +kernel
theorem dX10_put_86 : decode cX10_put 86 = .ok (.ireturn, 1) := by decide +kernel
theorem dX10_put_87 : decode cX10_put 87 = .ok (.aload_n 0, 1) := by decide +kernel
theorem dX10_put_88 : decode cX10_put 88 = .ok (.getfield 169, 3) := by decide +kernel
theorem dX10_put_91 : decode cX10_put 91 = .ok (.iload_n 3, 1) := by decide +kernel
theorem dX10_put_92 : decode cX10_put 92 = .ok (.iadd, 1) := by decide +kernel
theorem dX10_put_93 : decode cX10_put 93 = .ok (.bipush 80, 2) := by decide +kernel
theorem dX10_put_95 : decode cX10_put 95 = .ok (.if_icmp .le 6, 3) := by decide +kernel
theorem dX10_put_98 : decode cX10_put 98 = .ok (.bipush (-4), 2) := by decide +kernel
theorem dX10_put_100 : decode cX10_put 100 = .ok (.ireturn, 1) := by decide +kernel
theorem dX10_put_101 : decode cX10_put 101 = .ok (.iload_n 3, 1) := by decide +kernel
theorem dX10_put_102 : decode cX10_put 102 = .ok (.iconst 1, 1) := by decide +kernel
theorem dX10_put_103 : decode cX10_put 103 = .ok (.isub, 1) := by decide +kernel
theorem dX10_put_104 : decode cX10_put 104 = .ok (.istore 7, 2) := by decide +kernel
theorem dX10_put_106 : decode cX10_put 106 = .ok (.iload 7, 2) := by decide +kernel
theorem dX10_put_108 : decode cX10_put 108 = .ok (.ifCond .lt 40, 3) := by decide +kernel
theorem dX10_put_111 : decode cX10_put 111 = .ok (.aload_n 0, 1) := by decide +kernel
theorem dX10_put_112 : decode cX10_put 112 = .ok (.getfield 40, 3) := by decide +kernel
theorem dX10_put_115 : decode cX10_put 115 = .ok (.aload_n 0, 1) := by decide +kernel
theorem dX10_put_116 : decode cX10_put 116 = .ok (.getfield 169, 3) := by decide +kernel
theorem dX10_put_119 : decode cX10_put 119 = .ok (.lload_n 1, 1) := by decide +kernel
theorem dX10_put_120 : decode cX10_put 120 = .ok (.bipush 8, 2) := by decide +kernel
theorem dX10_put_122 : decode cX10_put 122 = .ok (.iload 7, 2) := by decide +kernel
theorem dX10_put_124 : decode cX10_put 124 = .ok (.imul, 1) := by decide +kernel
theorem dX10_put_125 : decode cX10_put 125 = .ok (.lushr, 1) := by decide +kernel
theorem dX10_put_126 : decode cX10_put 126 = .ok (.ldc2_w 172, 3) := by decide +kernel
theorem dX10_put_129 : decode cX10_put 129 = .ok (.land, 1) := by decide +kernel
theorem dX10_put_130 : decode cX10_put 130 = .ok (.l2i, 1) := by decide +kernel
theorem dX10_put_131 : decode cX10_put 131 = .ok (.iastore, 1) := by decide +kernel
theorem dX10_put_132 : decode cX10_put 132 = .ok (.aload_n 0, 1) := by decide +kernel
theorem dX10_put_133 : decode cX10_put 133 = .ok (.dup, 1) := by decide +kernel
theorem dX10_put_134 : decode cX10_put 134 = .ok (.getfield 169, 3) := by decide +kernel
theorem dX10_put_137 : decode cX10_put 137 = .ok (.iconst 1, 1) := by decide +kernel
theorem dX10_put_138 : decode cX10_put 138 = .ok (.iadd, 1) := by decide +kernel
theorem dX10_put_139 : decode cX10_put 139 = .ok (.putfield 169, 3) := by decide +kernel
theorem dX10_put_142 : decode cX10_put 142 = .ok (.iinc 7 (-1), 3) := by decide +kernel
theorem dX10_put_145 : decode cX10_put 145 = .ok (.goto (-39), 3) := by decide +kernel
theorem dX10_put_148 : decode cX10_put 148 = .ok (.aload_n 0, 1) := by decide +kernel
theorem dX10_put_149 : decode cX10_put 149 = .ok (.getfield 169, 3) := by decide +kernel
theorem dX10_put_152 : decode cX10_put 152 = .ok (.ireturn, 1) := by decide +kernel
theorem dX10_wipe_0 : decode cX10_wipe 0 = .ok (.aload_n 0, 1) := by decide +kernel
theorem dX10_wipe_1 : decode cX10_wipe 1 = .ok (.getfield 169, 3) := by decide +kernel
theorem dX10_wipe_4 : decode cX10_wipe 4 = .ok (.istore_n 1, 1) := by decide +kernel
theorem dX10_wipe_5 : decode cX10_wipe 5 = .ok (.aload_n 0, 1) := by decide +kernel
theorem dX10_wipe_6 : decode cX10_wipe 6 = .ok (.iconst 0, 1) := by decide +kernel
theorem dX10_wipe_7 : decode cX10_wipe 7 = .ok (.putfield 169, 3) := by decide +kernel
theorem dX10_wipe_10 : decode cX10_wipe 10 = .ok (.iload_n 1, 1) := by decide +kernel
theorem dX10_wipe_11 : decode cX10_wipe 11 = .ok (.ireturn, 1) := by decide +kernel
theorem dX10_isHere_0 : decode cX10_isHere 0 = .ok (.aload_n 0, 1) := by decide +kernel
theorem dX10_isHere_1 : decode cX10_isHere 1 = .ok (.getfield 178, 3) := by decide +kernel
theorem dX10_isHere_4 : decode cX10_isHere 4 = .ok (.aload_n 0, 1) := by decide +kernel
theorem dX10_isHere_5 : decode cX10_isHere 5 = .ok (.getfield 169, 3) := by decide +kernel
theorem dX10_isHere_8 : decode cX10_isHere 8 = .ok (.if_icmp .ge 27, 3) := by decide +kernel
theorem dX10_isHere_11 : decode cX10_isHere 11 = .ok (.aload_n 0, 1) := by decide +kernel
theorem dX10_isHere_12 : decode cX10_isHere 12 = .ok (.getfield 40, 3) := by decide +kernel
theorem dX10_isHere_15 : decode cX10_isHere 15 = .ok (.aload_n 0, 1) := by decide +kernel
theorem dX10_isHere_16 : decode cX10_isHere 16 = .ok (.getfield 178, 3) := by decide +kernel
theorem dX10_isHere_19 : decode cX10_isHere 19 = .ok (.iaload, 1) := by decide +kernel
theorem dX10_isHere_20 : decode cX10_isHere 20 = .ok (.i2l, 1) := by decide +kernel
theorem dX10_isHere_21 : decode cX10_isHere 21 = .ok (.iload_n 1, 1) := by decide +kernel
theorem dX10_isHere_22 : decode cX10_isHere 22 = .ok (.i2l, 1) := by decide +kernel
theorem dX10_isHere_23 : decode cX10_isHere 23 = .ok (.iload_n 2, 1) := by decide +kernel
theorem dX10_isHere_24 : decode cX10_isHere 24 = .ok (.i2l, 1) := by decide +kernel
theorem dX10_isHere_25 : decode cX10_isHere 25 = .ok (.invokestatic 51, 3) := by decide +kernel
theorem dX10_isHere_28 : decode cX10_isHere 28 = .ok (.ifCond .eq 7, 3) := by decide +kernel
theorem dX10_isHere_31 : decode cX10_isHere 31 = .ok (.iconst 1, 1) := by decide +kernel
theorem dX10_isHere_32 : decode cX10_isHere 32 = .ok (.goto 4, 3) := by decide +kernel
theorem dX10_isHere_35 : decode cX10_isHere 35 = .ok (.iconst 0, 1) := by decide +kernel
theorem dX10_isHere_36 : decode cX10_isHere 36 = .ok (.ireturn, 1) := by decide +kernel
theorem dX10_takes_0 : decode cX10_takes 0 = .ok (.aload_n 0, 1) := by decide +kernel
theorem dX10_takes_1 : decode cX10_takes 1 = .ok (.iload_n 1, 1) := by decide +kernel
theorem dX10_takes_2 : decode cX10_takes 2 = .ok (.iload_n 1, 1) := by decide +kernel
theorem dX10_takes_3 : decode cX10_takes 3 = .ok (.invokevirtual 181, 3) := by decide +kernel
theorem dX10_takes_6 : decode cX10_takes 6 = .ok (.istore_n 2, 1) := by decide +kernel
theorem dX10_takes_7 : decode cX10_takes 7 = .ok (.aload_n 0, 1) := by decide +kernel
theorem dX10_takes_8 : decode cX10_takes 8 = .ok (.dup, 1) := by decide +kernel
theorem dX10_takes_9 : decode cX10_takes 9 = .ok (.getfield 178, 3) := by decide +kernel
theorem dX10_takes_12 : decode cX10_takes 12 = .ok (.iload_n 2, 1) := by decide +kernel
theorem dX10_takes_13 : decode cX10_takes 13 = .ok (.ifCond .eq 7, 3) := by decide +kernel
theorem dX10_takes_16 : decode cX10_takes 16 = .ok (.iconst 1, 1) := by decide +kernel
theorem dX10_takes_17 : decode cX10_takes 17 = .ok (.goto 4, 3) := by decide +kernel
theorem dX10_takes_20 : decode cX10_takes 20 = .ok (.iconst 0, 1) := by decide +kernel
theorem dX10_takes_21 : decode cX10_takes 21 = .ok (.iadd, 1) := by decide +kernel
theorem dX10_takes_22 : decode cX10_takes 22 = .ok (.putfield 178, 3) := by decide +kernel
theorem dX10_takes_25 : decode cX10_takes 25 = .ok (.iload_n 2, 1) := by decide +kernel
theorem dX10_takes_26 : decode cX10_takes 26 = .ok (.ireturn, 1) := by decide +kernel
theorem dX10_readsNumber_0 : decode cX10_readsNumber 0 = .ok (.aload_n 0, 1) := by decide +kernel
theorem dX10_readsNumber_1 : decode cX10_readsNumber 1 = .ok (.bipush 48, 2) := by decide +kernel
theorem dX10_readsNumber_3 : decode cX10_readsNumber 3 = .ok (.bipush 57, 2) := by decide +kernel
theorem dX10_readsNumber_5 : decode cX10_readsNumber 5 = .ok (.invokevirtual 181, 3) := by decide +kernel
theorem dX10_readsNumber_8 : decode cX10_readsNumber 8 = .ok (.ifCond .eq 19, 3) := by decide +kernel
theorem dX10_readsNumber_11 : decode cX10_readsNumber 11 = .ok (.aload_n 0, 1) := by decide +kernel
theorem dX10_readsNumber_12 : decode cX10_readsNumber 12 = .ok (.getfield 40, 3) := by decide +kernel
theorem dX10_readsNumber_15 : decode cX10_readsNumber 15 = .ok (.aload_n 0, 1) := by decide +kernel
theorem dX10_readsNumber_16 : decode cX10_readsNumber 16 = .ok (.getfield 178, 3) := by decide +kernel
theorem dX10_readsNumber_19 : decode cX10_readsNumber 19 = .ok (.iaload, 1) := by decide +kernel
theorem dX10_readsNumber_20 : decode cX10_readsNumber 20 = .ok (.bipush 48, 2) := by decide +kernel
theorem dX10_readsNumber_22 : decode cX10_readsNumber 22 = .ok (.isub, 1) := by decide +kernel
theorem dX10_readsNumber_23 : decode cX10_readsNumber 23 = .ok (.iload_n 1, 1) := by decide +kernel
theorem dX10_readsNumber_24 : decode cX10_readsNumber 24 = .ok (.if_icmp .le 5, 3) := by decide +kernel
theorem dX10_readsNumber_27 : decode cX10_readsNumber 27 = .ok (.iconst 0, 1) := by decide +kernel
theorem dX10_readsNumber_28 : decode cX10_readsNumber 28 = .ok (.ireturn, 1) := by decide +kernel
theorem dX10_readsNumber_29 : decode cX10_readsNumber 29 = .ok (.aload_n 0, 1) := by decide +kernel
theorem dX10_readsNumber_30 : decode cX10_readsNumber 30 = .ok (.aload_n 0, 1) := by decide +kernel
theorem dX10_readsNumber_31 : decode cX10_readsNumber 31 = .ok (.getfield 40, 3) := by decide +kernel
theorem dX10_readsNumber_34 : decode cX10_readsNumber 34 = .ok (.aload_n 0, 1) := by decide +kernel
theorem dX10_readsNumber_35 : decode cX10_readsNumber 35 = .ok (.getfield 178, 3) := by decide +kernel
theorem dX10_readsNumber_38 : decode cX10_readsNumber 38 = .ok (.iaload, 1) := by decide +kernel
theorem dX10_readsNumber_39 : decode cX10_readsNumber 39 = .ok (.bipush 48, 2) := by decide +kernel
theorem dX10_readsNumber_41 : decode cX10_readsNumber 41 = .ok (.isub, 1) := by decide +kernel
theorem dX10_readsNumber_42 : decode cX10_readsNumber 42 = .ok (.putfield 184, 3) := by decide +kernel
theorem dX10_readsNumber_45 : decode cX10_readsNumber 45 = .ok (.aload_n 0, 1) := by decide +kernel
theorem dX10_readsNumber_46 : decode cX10_readsNumber 46 = .ok (.dup, 1) := by decide +kernel
theorem dX10_readsNumber_47 : decode cX10_readsNumber 47 = .ok (.getfield 178, 3) := by decide +kernel
theorem dX10_readsNumber_50 : decode cX10_readsNumber 50 = .ok (.iconst 1, 1) := by decide +kernel
theorem dX10_readsNumber_51 : decode cX10_readsNumber 51 = .ok (.iadd, 1) := by decide +kernel
theorem dX10_readsNumber_52 : decode cX10_readsNumber 52 = .ok (.putfield 178, 3) := by decide +kernel
theorem dX10_readsNumber_55 : decode cX10_readsNumber 55 = .ok (.aload_n 0, 1) := by decide +kernel
theorem dX10_readsNumber_56 : decode cX10_readsNumber 56 = .ok (.getfield 184, 3) := by decide +kernel
theorem dX10_readsNumber_59 : decode cX10_readsNumber 59 = .ok (.ifCond .le 75, 3) := by decide +kernel
theorem dX10_readsNumber_62 : decode cX10_readsNumber 62 = .ok (.aload_n 0, 1) := by decide +kernel
theorem dX10_readsNumber_63 : decode cX10_readsNumber 63 = .ok (.bipush 48, 2) := by decide +kernel
theorem dX10_readsNumber_65 : decode cX10_readsNumber 65 = .ok (.bipush 57, 2) := by decide +kernel
theorem dX10_readsNumber_67 : decode cX10_readsNumber 67 = .ok (.invokevirtual 181, 3) := by decide +kernel
theorem dX10_readsNumber_70 : decode cX10_readsNumber 70 = .ok (.ifCond .eq 64, 3) := by decide +kernel
theorem dX10_readsNumber_73 : decode cX10_readsNumber 73 = .ok (.bipush 10, 2) := by decide +kernel
theorem dX10_readsNumber_75 : decode cX10_readsNumber 75 = .ok (.aload_n 0, 1) := by decide +kernel
theorem dX10_readsNumber_76 : decode cX10_readsNumber 76 = .ok (.getfield 184, 3) := by decide +kernel
theorem dX10_readsNumber_79 : decode cX10_readsNumber 79 = .ok (.imul, 1) := by decide +kernel
theorem dX10_readsNumber_80 : decode cX10_readsNumber 80 = .ok (.aload_n 0, 1) := by decide +kernel
theorem dX10_readsNumber_81 : decode cX10_readsNumber 81 = .ok (.getfield 40, 3) := by decide +kernel
theorem dX10_readsNumber_84 : decode cX10_readsNumber 84 = .ok (.aload_n 0, 1) := by decide +kernel
theorem dX10_readsNumber_85 : decode cX10_readsNumber 85 = .ok (.getfield 178, 3) := by decide +kernel
theorem dX10_readsNumber_88 : decode cX10_readsNumber 88 = .ok (.iaload, 1) := by decide +kernel
theorem dX10_readsNumber_89 : decode cX10_readsNumber 89 = .ok (.iadd, 1) := by decide +kernel
theorem dX10_readsNumber_90 : decode cX10_readsNumber 90 = .ok (.bipush 48, 2) := by decide +kernel
theorem dX10_readsNumber_92 : decode cX10_readsNumber 92 = .ok (.isub, 1) := by decide +kernel
theorem dX10_readsNumber_93 : decode cX10_readsNumber 93 = .ok (.iload_n 1, 1) := by decide +kernel
theorem dX10_readsNumber_94 : decode cX10_readsNumber 94 = .ok (.if_icmp .gt 40, 3) := by decide +kernel
theorem dX10_readsNumber_97 : decode cX10_readsNumber 97 = .ok (.aload_n 0, 1) := by decide +kernel
theorem dX10_readsNumber_98 : decode cX10_readsNumber 98 = .ok (.bipush 10, 2) := by decide +kernel
theorem dX10_readsNumber_100 : decode cX10_readsNumber 100 = .ok (.aload_n 0, 1) := by decide +kernel
theorem dX10_readsNumber_101 : decode cX10_readsNumber 101 = .ok (.getfield 184, 3) := by decide +kernel
theorem dX10_readsNumber_104 : decode cX10_readsNumber 104 = .ok (.imul, 1) := by decide +kernel
theorem dX10_readsNumber_105 : decode cX10_readsNumber 105 = .ok (.aload_n 0, 1) := by decide +kernel
theorem dX10_readsNumber_106 : decode cX10_readsNumber 106 = .ok (.getfield 40, 3) := by decide +kernel
theorem dX10_readsNumber_109 : decode cX10_readsNumber 109 = .ok (.aload_n 0, 1) := by decide +kernel
theorem dX10_readsNumber_110 : decode cX10_readsNumber 110 = .ok (.getfield 178, 3) := by decide +kernel
theorem dX10_readsNumber_113 : decode cX10_readsNumber 113 = .ok (.iaload, 1) := by decide +kernel
theorem dX10_readsNumber_114 : decode cX10_readsNumber 114 = .ok (.iadd, 1) := by decide +kernel
theorem dX10_readsNumber_115 : decode cX10_readsNumber 115 = .ok (.bipush 48, 2) := by decide +kernel
theorem dX10_readsNumber_117 : decode cX10_readsNumber 117 = .ok (.isub, 1) := by decide +kernel
theorem dX10_readsNumber_118 : decode cX10_readsNumber 118 = .ok (.putfield 184, 3) := by decide +kernel
theorem dX10_readsNumber_121 : decode cX10_readsNumber 121 = .ok (.aload_n 0, 1) := by decide +kernel
theorem dX10_readsNumber_122 : decode cX10_readsNumber 122 = .ok (.dup, 1) := by decide +kernel
theorem dX10_readsNumber_123 : decode cX10_readsNumber 123 = .ok (.getfield 178, 3) := by decide +kernel
theorem dX10_readsNumber_126 : decode cX10_readsNumber 126 = .ok (.iconst 1, 1) := by decide +kernel
theorem dX10_readsNumber_127 : decode cX10_readsNumber 127 = .ok (.iadd, 1) := by decide +kernel
theorem dX10_readsNumber_128 : decode cX10_readsNumber 128 = .ok (.putfield 178, 3) := by decide +kernel
theorem dX10_readsNumber_131 : decode cX10_readsNumber 131 = .ok (.goto (-76), 3) := by decide +kernel
theorem dX10_readsNumber_134 : decode cX10_readsNumber 134 = .ok (.iconst 1, 1) := by decide +kernel
theorem dX10_readsNumber_135 : decode cX10_readsNumber 135 = .ok (.ireturn, 1) := by decide +kernel
theorem dX10_does_0 : decode cX10_does 0 = .ok (.aload_n 0, 1) := by decide +kernel
theorem dX10_does_1 : decode cX10_does 1 = .ok (.iload_n 1, 1) := by decide +kernel
theorem dX10_does_2 : decode cX10_does 2 = .ok (.ifCond .ge 7, 3) := by decide +kernel
theorem dX10_does_5 : decode cX10_does 5 = .ok (.iload_n 1, 1) := by decide +kernel
theorem dX10_does_6 : decode cX10_does 6 = .ok (.goto 4, 3) := by decide +kernel
theorem dX10_does_9 : decode cX10_does 9 = .ok (.iconst 0, 1) := by decide +kernel
theorem dX10_does_10 : decode cX10_does 10 = .ok (.putfield 187, 3) := by decide +kernel
theorem dX10_does_13 : decode cX10_does 13 = .ok (.return_, 1) := by decide +kernel
theorem dX10_readsMirror_0 : decode cX10_readsMirror 0 = .ok (.aload_n 0, 1) := by decide +kernel
theorem dX10_readsMirror_1 : decode cX10_readsMirror 1 = .ok (.bipush 99, 2) := by decide +kernel
theorem dX10_readsMirror_3 : decode cX10_readsMirror 3 = .ok (.invokevirtual 190, 3) := by decide +kernel
theorem dX10_readsMirror_6 : decode cX10_readsMirror 6 = .ok (.ifCond .ne 5, 3) := by decide +kernel
theorem dX10_readsMirror_9 : decode cX10_readsMirror 9 = .ok (.iconst 0, 1) := by decide +kernel
theorem dX10_readsMirror_10 : decode cX10_readsMirror 10 = .ok (.ireturn, 1) := by decide +kernel
theorem dX10_readsMirror_11 : decode cX10_readsMirror 11 = .ok (.aload_n 0, 1) := by decide +kernel
theorem dX10_readsMirror_12 : decode cX10_readsMirror 12 = .ok (.getfield 184, 3) := by decide +kernel
theorem dX10_readsMirror_15 : decode cX10_readsMirror 15 = .ok (.istore_n 1, 1) := by decide +kernel
theorem dX10_readsMirror_16 : decode cX10_readsMirror 16 = .ok (.aload_n 0, 1) := by decide +kernel
theorem dX10_readsMirror_17 : decode cX10_readsMirror 17 = .ok (.bipush 46, 2) := by decide +kernel
theorem dX10_readsMirror_19 : decode cX10_readsMirror 19 = .ok (.invokevirtual 193, 3) := by decide +kernel
theorem dX10_readsMirror_22 : decode cX10_readsMirror 22 = .ok (.ifCond .eq 12, 3) := by decide +kernel
theorem dX10_readsMirror_25 : decode cX10_readsMirror 25 = .ok (.aload_n 0, 1) := by decide +kernel
theorem dX10_readsMirror_26 : decode cX10_readsMirror 26 = .ok (.bipush 99, 2) := by decide +kernel
theorem dX10_readsMirror_28 : decode cX10_readsMirror 28 = .ok (.invokevirtual 190, 3) := by decide +kernel
theorem dX10_readsMirror_31 : decode cX10_readsMirror 31 = .ok (.ifCond .ne 5, 3) := by decide +kernel
theorem dX10_readsMirror_34 : decode cX10_readsMirror 34 = .ok (.iconst 0, 1) := by decide +kernel
theorem dX10_readsMirror_35 : decode cX10_readsMirror 35 = .ok (.ireturn, 1) := by decide +kernel
theorem dX10_readsMirror_36 : decode cX10_readsMirror 36 = .ok (.aload_n 0, 1) := by decide +kernel
theorem dX10_readsMirror_37 : decode cX10_readsMirror 37 = .ok (.getfield 184, 3) := by decide +kernel
theorem dX10_readsMirror_40 : decode cX10_readsMirror 40 = .ok (.istore_n 2, 1) := by decide +kernel
theorem dX10_readsMirror_41 : decode cX10_readsMirror 41 = .ok (.aload_n 0, 1) := by decide +kernel
theorem dX10_readsMirror_42 : decode cX10_readsMirror 42 = .ok (.iconst 0, 1) := by decide +kernel
theorem dX10_readsMirror_43 : decode cX10_readsMirror 43 = .ok (.putfield 184, 3) := by decide +kernel
theorem dX10_readsMirror_46 : decode cX10_readsMirror 46 = .ok (.aload_n 0, 1) := by decide +kernel
theorem dX10_readsMirror_47 : decode cX10_readsMirror 47 = .ok (.bipush 97, 2) := by decide +kernel
theorem dX10_readsMirror_49 : decode cX10_readsMirror 49 = .ok (.invokevirtual 193, 3) := by decide +kernel
theorem dX10_readsMirror_52 : decode cX10_readsMirror 52 = .ok (.ifCond .eq 13, 3) := by decide +kernel
theorem dX10_readsMirror_55 : decode cX10_readsMirror 55 = .ok (.aload_n 0, 1) := by decide +kernel
theorem dX10_readsMirror_56 : decode cX10_readsMirror 56 = .ok (.iconst 3, 1) := by decide +kernel
theorem dX10_readsMirror_57 : decode cX10_readsMirror 57 = .ok (.invokevirtual 190, 3) := by decide +kernel
theorem dX10_readsMirror_60 : decode cX10_readsMirror 60 = .ok (.ifCond .ne 5, 3) := by decide +kernel
theorem dX10_readsMirror_63 : decode cX10_readsMirror 63 = .ok (.iconst 0, 1) := by decide +kernel
theorem dX10_readsMirror_64 : decode cX10_readsMirror 64 = .ok (.ireturn, 1) := by decide +kernel
theorem dX10_readsMirror_65 : decode cX10_readsMirror 65 = .ok (.aload_n 0, 1) := by decide +kernel
theorem dX10_readsMirror_66 : decode cX10_readsMirror 66 = .ok (.getfield 196, 3) := by decide +kernel
theorem dX10_readsMirror_69 : decode cX10_readsMirror 69 = .ok (.ifCond .eq 17, 3) := by decide +kernel
theorem dX10_readsMirror_72 : decode cX10_readsMirror 72 = .ok (.aload_n 0, 1) := by decide +kernel
theorem dX10_readsMirror_73 : decode cX10_readsMirror 73 = .ok (.aload_n 0, 1) := by decide +kernel
theorem dX10_readsMirror_74 : decode cX10_readsMirror 74 = .ok (.iload_n 1, 1) := by decide +kernel
theorem dX10_readsMirror_75 : decode cX10_readsMirror 75 = .ok (.iload_n 2, 1) := by decide +kernel
theorem dX10_readsMirror_76 : decode cX10_readsMirror 76 = .ok (.aload_n 0, 1) := by decide +kernel
theorem dX10_readsMirror_77 : decode cX10_readsMirror 77 = .ok (.getfield 184, 3) := by decide +kernel
theorem dX10_readsMirror_80 : decode cX10_readsMirror 80 = .ok (.invokevirtual 128, 3) := by decide +kernel
theorem dX10_readsMirror_83 : decode cX10_readsMirror 83 = .ok (.invokevirtual 200, 3) := by decide +kernel
theorem dX10_readsMirror_86 : decode cX10_readsMirror 86 = .ok (.iconst 1, 1) := by decide +kernel
theorem dX10_readsMirror_87 : decode cX10_readsMirror 87 = .ok (.ireturn, 1) := by decide +kernel
theorem dX10_readsAim_0 : decode cX10_readsAim 0 = .ok (.aload_n 0, 1) := by decide +kernel
theorem dX10_readsAim_1 : decode cX10_readsAim 1 = .ok (.bipush 99, 2) := by decide +kernel
theorem dX10_readsAim_3 : decode cX10_readsAim 3 = .ok (.invokevirtual 190, 3) := by decide +kernel
theorem dX10_readsAim_6 : decode cX10_readsAim 6 = .ok (.ifCond .ne 5, 3) := by decide +kernel
theorem dX10_readsAim_9 : decode cX10_readsAim 9 = .ok (.iconst 0, 1) := by decide +kernel
theorem dX10_readsAim_10 : decode cX10_readsAim 10 = .ok (.ireturn, 1) := by decide +kernel
theorem dX10_readsAim_11 : decode cX10_readsAim 11 = .ok (.aload_n 0, 1) := by decide +kernel
theorem dX10_readsAim_12 : decode cX10_readsAim 12 = .ok (.getfield 184, 3) := by decide +kernel
theorem dX10_readsAim_15 : decode cX10_readsAim 15 = .ok (.istore_n 1, 1) := by decide +kernel
theorem dX10_readsAim_16 : decode cX10_readsAim 16 = .ok (.aload_n 0, 1) := by decide +kernel
theorem dX10_readsAim_17 : decode cX10_readsAim 17 = .ok (.bipush 62, 2) := by decide +kernel
theorem dX10_readsAim_19 : decode cX10_readsAim 19 = .ok (.invokevirtual 193, 3) := by decide +kernel
theorem dX10_readsAim_22 : decode cX10_readsAim 22 = .ok (.ifCond .eq 11, 3) := by decide +kernel
theorem dX10_readsAim_25 : decode cX10_readsAim 25 = .ok (.aload_n 0, 1) := by decide +kernel
theorem dX10_readsAim_26 : decode cX10_readsAim 26 = .ok (.iconst 3, 1) := by decide +kernel
theorem dX10_readsAim_27 : decode cX10_readsAim 27 = .ok (.invokevirtual 190, 3) := by decide +kernel
theorem dX10_readsAim_30 : decode cX10_readsAim 30 = .ok (.ifCond .ne 5, 3) := by decide +kernel
theorem dX10_readsAim_33 : decode cX10_readsAim 33 = .ok (.iconst 0, 1) := by decide +kernel
theorem dX10_readsAim_34 : decode cX10_readsAim 34 = .ok (.ireturn, 1) := by decide +kernel
theorem dX10_readsAim_35 : decode cX10_readsAim 35 = .ok (.aload_n 0, 1) := by decide +kernel
theorem dX10_readsAim_36 : decode cX10_readsAim 36 = .ok (.getfield 196, 3) := by decide +kernel
theorem dX10_readsAim_39 : decode cX10_readsAim 39 = .ok (.ifCond .eq 16, 3) := by decide +kernel
theorem dX10_readsAim_42 : decode cX10_readsAim 42 = .ok (.aload_n 0, 1) := by decide +kernel
theorem dX10_readsAim_43 : decode cX10_readsAim 43 = .ok (.aload_n 0, 1) := by decide +kernel
theorem dX10_readsAim_44 : decode cX10_readsAim 44 = .ok (.iload_n 1, 1) := by decide +kernel
theorem dX10_readsAim_45 : decode cX10_readsAim 45 = .ok (.aload_n 0, 1) := by decide +kernel
theorem dX10_readsAim_46 : decode cX10_readsAim 46 = .ok (.getfield 184, 3) := by decide +kernel
theorem dX10_readsAim_49 : decode cX10_readsAim 49 = .ok (.invokevirtual 138, 3) := by decide +kernel
theorem dX10_readsAim_52 : decode cX10_readsAim 52 = .ok (.invokevirtual 200, 3) := by decide +kernel
theorem dX10_readsAim_55 : decode cX10_readsAim 55 = .ok (.iconst 1, 1) := by decide +kernel
theorem dX10_readsAim_56 : decode cX10_readsAim 56 = .ok (.ireturn, 1) := by decide +kernel
theorem dX10_readsOrder_0 : decode cX10_readsOrder 0 = .ok (.aload_n 0, 1) := by decide +kernel
theorem dX10_readsOrder_1 : decode cX10_readsOrder 1 = .ok (.bipush 43, 2) := by decide +kernel
theorem dX10_readsOrder_3 : decode cX10_readsOrder 3 = .ok (.invokevirtual 193, 3) := by decide +kernel
theorem dX10_readsOrder_6 : decode cX10_readsOrder 6 = .ok (.ifCond .eq 8, 3) := by decide +kernel
theorem dX10_readsOrder_9 : decode cX10_readsOrder 9 = .ok (.aload_n 0, 1) := by decide +kernel
theorem dX10_readsOrder_10 : decode cX10_readsOrder 10 = .ok (.invokevirtual 203, 3) := by decide +kernel
theorem dX10_readsOrder_13 : decode cX10_readsOrder 13 = .ok (.ireturn, 1) := by decide +kernel
theorem dX10_readsOrder_14 : decode cX10_readsOrder 14 = .ok (.aload_n 0, 1) := by decide +kernel
theorem dX10_readsOrder_15 : decode cX10_readsOrder 15 = .ok (.bipush 97, 2) := by decide +kernel
theorem dX10_readsOrder_17 : decode cX10_readsOrder 17 = .ok (.invokevirtual 193, 3) := by decide +kernel
theorem dX10_readsOrder_20 : decode cX10_readsOrder 20 = .ok (.ifCond .eq 8, 3) := by decide +kernel
theorem dX10_readsOrder_23 : decode cX10_readsOrder 23 = .ok (.aload_n 0, 1) := by decide +kernel
theorem dX10_readsOrder_24 : decode cX10_readsOrder 24 = .ok (.invokevirtual 206, 3) := by decide +kernel
theorem dX10_readsOrder_27 : decode cX10_readsOrder 27 = .ok (.ireturn, 1) := by decide +kernel
theorem dX10_readsOrder_28 : decode cX10_readsOrder 28 = .ok (.aload_n 0, 1) := by decide +kernel
theorem dX10_readsOrder_29 : decode cX10_readsOrder 29 = .ok (.bipush 120, 2) := by decide +kernel
theorem dX10_readsOrder_31 : decode cX10_readsOrder 31 = .ok (.bipush 120, 2) := by decide +kernel
theorem dX10_readsOrder_33 : decode cX10_readsOrder 33 = .ok (.invokevirtual 181, 3) := by decide +kernel
theorem dX10_readsOrder_36 : decode cX10_readsOrder 36 = .ok (.ifCond .ne 36, 3) := by decide +kernel
theorem dX10_readsOrder_39 : decode cX10_readsOrder 39 = .ok (.aload_n 0, 1) := by decide +kernel
theorem dX10_readsOrder_40 : decode cX10_readsOrder 40 = .ok (.bipush 119, 2) := by decide +kernel
theorem dX10_readsOrder_42 : decode cX10_readsOrder 42 = .ok (.bipush 119, 2) := by decide +kernel
theorem dX10_readsOrder_44 : decode cX10_readsOrder 44 = .ok (.invokevirtual 181, 3) := by decide +kernel
theorem dX10_readsOrder_47 : decode cX10_readsOrder 47 = .ok (.ifCond .ne 25, 3) := by decide +kernel
theorem dX10_readsOrder_50 : decode cX10_readsOrder 50 = .ok (.aload_n 0, 1) := by decide +kernel
theorem dX10_readsOrder_51 : decode cX10_readsOrder 51 = .ok (.bipush 118, 2) := by decide +kernel
theorem dX10_readsOrder_53 : decode cX10_readsOrder 53 = .ok (.bipush 118, 2) := by decide +kernel
theorem dX10_readsOrder_55 : decode cX10_readsOrder 55 = .ok (.invokevirtual 181, 3) := by decide +kernel
theorem dX10_readsOrder_58 : decode cX10_readsOrder 58 = .ok (.ifCond .ne 14, 3) := by decide +kernel
theorem dX10_readsOrder_61 : decode cX10_readsOrder 61 = .ok (.aload_n 0, 1) := by decide +kernel
theorem dX10_readsOrder_62 : decode cX10_readsOrder 62 = .ok (.bipush 116, 2) := by decide +kernel
theorem dX10_readsOrder_64 : decode cX10_readsOrder 64 = .ok (.bipush 116, 2) := by decide +kernel
theorem dX10_readsOrder_66 : decode cX10_readsOrder 66 = .ok (.invokevirtual 181, 3) := by decide +kernel
theorem dX10_readsOrder_69 : decode cX10_readsOrder 69 = .ok (.ifCond .eq 15, 3) := by decide +kernel
theorem dX10_readsOrder_72 : decode cX10_readsOrder 72 = .ok (.aload_n 0, 1) := by decide +kernel
theorem dX10_readsOrder_73 : decode cX10_readsOrder 73 = .ok (.getfield 40, 3) := by decide +kernel
theorem dX10_readsOrder_76 : decode cX10_readsOrder 76 = .ok (.aload_n 0, 1) := by decide +kernel
theorem dX10_readsOrder_77 : decode cX10_readsOrder 77 = .ok (.getfield 178, 3) := by decide +kernel
theorem dX10_readsOrder_80 : decode cX10_readsOrder 80 = .ok (.iaload, 1) := by decide +kernel
theorem dX10_readsOrder_81 : decode cX10_readsOrder 81 = .ok (.goto 5, 3) := by decide +kernel
theorem dX10_readsOrder_84 : decode cX10_readsOrder 84 = .ok (.bipush (-6), 2) := by decide +kernel
theorem dX10_readsOrder_86 : decode cX10_readsOrder 86 = .ok (.istore_n 1, 1) := by decide +kernel
theorem dX10_readsOrder_87 : decode cX10_readsOrder 87 = .ok (.aload_n 0, 1) := by decide +kernel
theorem dX10_readsOrder_88 : decode cX10_readsOrder 88 = .ok (.dup, 1) := by decide +kernel
theorem dX10_readsOrder_89 : decode cX10_readsOrder 89 = .ok (.getfield 178, 3) := by decide +kernel
theorem dX10_readsOrder_92 : decode cX10_readsOrder 92 = .ok (.iload_n 1, 1) := by decide +kernel
theorem dX10_readsOrder_93 : decode cX10_readsOrder 93 = .ok (.bipush (-6), 2) := by decide +kernel
theorem dX10_readsOrder_95 : decode cX10_readsOrder 95 = .ok (.if_icmp .ne 7, 3) := by decide +kernel
theorem dX10_readsOrder_98 : decode cX10_readsOrder 98 = .ok (.iconst 0, 1) := by decide +kernel
theorem dX10_readsOrder_99 : decode cX10_readsOrder 99 = .ok (.goto 4, 3) := by decide +kernel
theorem dX10_readsOrder_102 : decode cX10_readsOrder 102 = .ok (.iconst 1, 1) := by decide +kernel
theorem dX10_readsOrder_103 : decode cX10_readsOrder 103 = .ok (.iadd, 1) := by decide +kernel
theorem dX10_readsOrder_104 : decode cX10_readsOrder 104 = .ok (.putfield 178, 3) := by decide +kernel
theorem dX10_readsOrder_107 : decode cX10_readsOrder 107 = .ok (.iload_n 1, 1) := by decide +kernel
theorem dX10_readsOrder_108 : decode cX10_readsOrder 108 = .ok (.bipush (-6), 2) := by decide +kernel
theorem dX10_readsOrder_110 : decode cX10_readsOrder 110 = .ok (.if_icmp .eq 12, 3) := by decide +kernel
theorem dX10_readsOrder_113 : decode cX10_readsOrder 113 = .ok (.aload_n 0, 1) := by decide +kernel
theorem dX10_readsOrder_114 : decode cX10_readsOrder 114 = .ok (.bipush 99, 2) := by decide +kernel
theorem dX10_readsOrder_116 : decode cX10_readsOrder 116 = .ok (.invokevirtual 190, 3) := by decide +kernel
theorem dX10_readsOrder_119 : decode cX10_readsOrder 119 = .ok (.ifCond .ne 5, 3) := by decide +kernel
theorem dX10_readsOrder_122 : decode cX10_readsOrder 122 = .ok (.iconst 0, 1) := by decide +kernel
theorem dX10_readsOrder_123 : decode cX10_readsOrder 123 = .ok (.ireturn, 1) := by decide +kernel
theorem dX10_readsOrder_124 : decode cX10_readsOrder 124 = .ok (.aload_n 0, 1) := by decide +kernel
theorem dX10_readsOrder_125 : decode cX10_readsOrder 125 = .ok (.getfield 196, 3) := by decide +kernel
theorem dX10_readsOrder_128 : decode cX10_readsOrder 128 = .ok (.ifCond .eq 66, 3) := by decide +kernel
theorem dX10_readsOrder_131 : decode cX10_readsOrder 131 = .ok (.aload_n 0, 1) := by decide +kernel
theorem dX10_readsOrder_132 : decode cX10_readsOrder 132 = .ok (.iload_n 1, 1) := by decide +kernel
theorem dX10_readsOrder_133 : decode cX10_readsOrder 133 = .ok (.bipush 120, 2) := by decide +kernel
theorem dX10_readsOrder_135 : decode cX10_readsOrder 135 = .ok (.if_icmp .ne 14, 3) := by decide +kernel
theorem dX10_readsOrder_138 : decode cX10_readsOrder 138 = .ok (.aload_n 0, 1) := by decide +kernel
theorem dX10_readsOrder_139 : decode cX10_readsOrder 139 = .ok (.aload_n 0, 1) := by decide +kernel
theorem dX10_readsOrder_140 : decode cX10_readsOrder 140 = .ok (.getfield 184, 3) := by decide +kernel
theorem dX10_readsOrder_143 : decode cX10_readsOrder 143 = .ok (.invokevirtual 135, 3) := by decide +kernel
theorem dX10_readsOrder_146 : decode cX10_readsOrder 146 = .ok (.goto 45, 3) := by decide +kernel
theorem dX10_readsOrder_149 : decode cX10_readsOrder 149 = .ok (.iload_n 1, 1) := by decide +kernel
theorem dX10_readsOrder_150 : decode cX10_readsOrder 150 = .ok (.bipush 119, 2) := by decide +kernel
theorem dX10_readsOrder_152 : decode cX10_readsOrder 152 = .ok (.if_icmp .ne 14, 3) := by decide +kernel
theorem dX10_readsOrder_155 : decode cX10_readsOrder 155 = .ok (.aload_n 0, 1) := by decide +kernel
theorem dX10_readsOrder_156 : decode cX10_readsOrder 156 = .ok (.aload_n 0, 1) := by decide +kernel
theorem dX10_readsOrder_157 : decode cX10_readsOrder 157 = .ok (.getfield 184, 3) := by decide +kernel
theorem dX10_readsOrder_160 : decode cX10_readsOrder 160 = .ok (.invokevirtual 141, 3) := by decide +kernel
theorem dX10_readsOrder_163 : decode cX10_readsOrder 163 = .ok (.goto 28, 3) := by decide +kernel
theorem dX10_readsOrder_166 : decode cX10_readsOrder 166 = .ok (.iload_n 1, 1) := by decide +kernel
theorem dX10_readsOrder_167 : decode cX10_readsOrder 167 = .ok (.bipush 118, 2) := by decide +kernel
theorem dX10_readsOrder_169 : decode cX10_readsOrder 169 = .ok (.if_icmp .ne 14, 3) := by decide +kernel
theorem dX10_readsOrder_172 : decode cX10_readsOrder 172 = .ok (.aload_n 0, 1) := by decide +kernel
theorem dX10_readsOrder_173 : decode cX10_readsOrder 173 = .ok (.aload_n 0, 1) := by decide +kernel
theorem dX10_readsOrder_174 : decode cX10_readsOrder 174 = .ok (.getfield 184, 3) := by decide +kernel
theorem dX10_readsOrder_177 : decode cX10_readsOrder 177 = .ok (.invokevirtual 144, 3) := by decide +kernel
theorem dX10_readsOrder_180 : decode cX10_readsOrder 180 = .ok (.goto 11, 3) := by decide +kernel
theorem dX10_readsOrder_183 : decode cX10_readsOrder 183 = .ok (.aload_n 0, 1) := by decide +kernel
theorem dX10_readsOrder_184 : decode cX10_readsOrder 184 = .ok (.aload_n 0, 1) := by decide +kernel
theorem dX10_readsOrder_185 : decode cX10_readsOrder 185 = .ok (.getfield 184, 3) := by decide +kernel
theorem dX10_readsOrder_188 : decode cX10_readsOrder 188 = .ok (.invokevirtual 147, 3) := by decide +kernel
theorem dX10_readsOrder_191 : decode cX10_readsOrder 191 = .ok (.invokevirtual 200, 3) := by decide +kernel
theorem dX10_readsOrder_194 : decode cX10_readsOrder 194 = .ok (.iconst 1, 1) := by decide +kernel
theorem dX10_readsOrder_195 : decode cX10_readsOrder 195 = .ok (.ireturn, 1) := by decide +kernel
theorem dX10_fault_0 : decode cX10_fault 0 = .ok (.aload_n 0, 1) := by decide +kernel
theorem dX10_fault_1 : decode cX10_fault 1 = .ok (.iconst 0, 1) := by decide +kernel
theorem dX10_fault_2 : decode cX10_fault 2 = .ok (.putfield 178, 3) := by decide +kernel
theorem dX10_fault_5 : decode cX10_fault 5 = .ok (.aload_n 0, 1) := by decide +kernel
theorem dX10_fault_6 : decode cX10_fault 6 = .ok (.iconst 0, 1) := by decide +kernel
theorem dX10_fault_7 : decode cX10_fault 7 = .ok (.putfield 196, 3) := by decide +kernel
theorem dX10_fault_10 : decode cX10_fault 10 = .ok (.iconst 1, 1) := by decide +kernel
theorem dX10_fault_11 : decode cX10_fault 11 = .ok (.istore_n 1, 1) := by decide +kernel
theorem dX10_fault_12 : decode cX10_fault 12 = .ok (.iload_n 1, 1) := by decide +kernel
theorem dX10_fault_13 : decode cX10_fault 13 = .ok (.ifCond .eq 25, 3) := by decide +kernel
theorem dX10_fault_16 : decode cX10_fault 16 = .ok (.aload_n 0, 1) := by decide +kernel
theorem dX10_fault_17 : decode cX10_fault 17 = .ok (.invokevirtual 209, 3) := by decide +kernel
theorem dX10_fault_20 : decode cX10_fault 20 = .ok (.ifCond .ne 8, 3) := by decide +kernel
theorem dX10_fault_23 : decode cX10_fault 23 = .ok (.aload_n 0, 1) := by decide +kernel
theorem dX10_fault_24 : decode cX10_fault 24 = .ok (.getfield 178, 3) := by decide +kernel
theorem dX10_fault_27 : decode cX10_fault 27 = .ok (.ireturn, 1) := by decide +kernel
theorem dX10_fault_28 : decode cX10_fault 28 = .ok (.aload_n 0, 1) := by decide +kernel
theorem dX10_fault_29 : decode cX10_fault 29 = .ok (.bipush 59, 2) := by decide +kernel
theorem dX10_fault_31 : decode cX10_fault 31 = .ok (.invokevirtual 193, 3) := by decide +kernel
theorem dX10_fault_34 : decode cX10_fault 34 = .ok (.istore_n 1, 1) := by decide +kernel
theorem dX10_fault_35 : decode cX10_fault 35 = .ok (.goto (-23), 3) := by decide +kernel
theorem dX10_fault_38 : decode cX10_fault 38 = .ok (.aload_n 0, 1) := by decide +kernel
theorem dX10_fault_39 : decode cX10_fault 39 = .ok (.getfield 178, 3) := by decide +kernel
theorem dX10_fault_42 : decode cX10_fault 42 = .ok (.aload_n 0, 1) := by decide +kernel
theorem dX10_fault_43 : decode cX10_fault 43 = .ok (.getfield 169, 3) := by decide +kernel
theorem dX10_fault_46 : decode cX10_fault 46 = .ok (.if_icmp .ne 8, 3) := by decide +kernel
theorem dX10_fault_49 : decode cX10_fault 49 = .ok (.bipush (-6), 2) := by decide +kernel
theorem dX10_fault_51 : decode cX10_fault 51 = .ok (.goto 7, 3) := by decide +kernel
theorem dX10_fault_54 : decode cX10_fault 54 = .ok (.aload_n 0, 1) := by decide +kernel
theorem dX10_fault_55 : decode cX10_fault 55 = .ok (.getfield 178, 3) := by decide +kernel
theorem dX10_fault_58 : decode cX10_fault 58 = .ok (.ireturn, 1) := by decide +kernel
theorem dX10_carryOut_0 : decode cX10_carryOut 0 = .ok (.aload_n 0, 1) := by decide +kernel
theorem dX10_carryOut_1 : decode cX10_carryOut 1 = .ok (.invokevirtual 212, 3) := by decide +kernel
theorem dX10_carryOut_4 : decode cX10_carryOut 4 = .ok (.bipush (-6), 2) := by decide +kernel
theorem dX10_carryOut_6 : decode cX10_carryOut 6 = .ok (.if_icmp .eq 6, 3) := by decide +kernel
theorem dX10_carryOut_9 : decode cX10_carryOut 9 = .ok (.bipush (-3), 2) := by decide +kernel
theorem dX10_carryOut_11 : decode cX10_carryOut 11 = .ok (.ireturn, 1) := by decide +kernel
theorem dX10_carryOut_12 : decode cX10_carryOut 12 = .ok (.aload_n 0, 1) := by decide +kernel
theorem dX10_carryOut_13 : decode cX10_carryOut 13 = .ok (.getfield 7, 3) := by decide +kernel
theorem dX10_carryOut_16 : decode cX10_carryOut 16 = .ok (.aload_n 0, 1) := by decide +kernel
theorem dX10_carryOut_17 : decode cX10_carryOut 17 = .ok (.getfield 13, 3) := by decide +kernel
theorem dX10_carryOut_20 : decode cX10_carryOut 20 = .ok (.invokestatic 124, 3) := by decide +kernel
theorem dX10_carryOut_23 : decode cX10_carryOut 23 = .ok (.aload_n 0, 1) := by decide +kernel
theorem dX10_carryOut_24 : decode cX10_carryOut 24 = .ok (.iconst 0, 1) := by decide +kernel
theorem dX10_carryOut_25 : decode cX10_carryOut 25 = .ok (.putfield 178, 3) := by decide +kernel
theorem dX10_carryOut_28 : decode cX10_carryOut 28 = .ok (.aload_n 0, 1) := by decide +kernel
theorem dX10_carryOut_29 : decode cX10_carryOut 29 = .ok (.iconst 1, 1) := by decide +kernel
theorem dX10_carryOut_30 : decode cX10_carryOut 30 = .ok (.putfield 196, 3) := by decide +kernel
theorem dX10_carryOut_33 : decode cX10_carryOut 33 = .ok (.aload_n 0, 1) := by decide +kernel
theorem dX10_carryOut_34 : decode cX10_carryOut 34 = .ok (.iconst 0, 1) := by decide +kernel
theorem dX10_carryOut_35 : decode cX10_carryOut 35 = .ok (.putfield 187, 3) := by decide +kernel
theorem dX10_carryOut_38 : decode cX10_carryOut 38 = .ok (.iconst 0, 1) := by decide +kernel
theorem dX10_carryOut_39 : decode cX10_carryOut 39 = .ok (.istore_n 1, 1) := by decide +kernel
theorem dX10_carryOut_40 : decode cX10_carryOut 40 = .ok (.iconst 1, 1) := by decide +kernel
theorem dX10_carryOut_41 : decode cX10_carryOut 41 = .ok (.istore_n 2, 1) := by decide +kernel
theorem dX10_carryOut_42 : decode cX10_carryOut 42 = .ok (.iload_n 2, 1) := by decide +kernel
theorem dX10_carryOut_43 : decode cX10_carryOut 43 = .ok (.ifCond .eq 48, 3) := by decide +kernel
theorem dX10_carryOut_46 : decode cX10_carryOut 46 = .ok (.aload_n 0, 1) := by decide +kernel
theorem dX10_carryOut_47 : decode cX10_carryOut 47 = .ok (.invokevirtual 209, 3) := by decide +kernel
theorem dX10_carryOut_50 : decode cX10_carryOut 50 = .ok (.istore_n 3, 1) := by decide +kernel
theorem dX10_carryOut_51 : decode cX10_carryOut 51 = .ok (.iload_n 1, 1) := by decide +kernel
theorem dX10_carryOut_52 : decode cX10_carryOut 52 = .ok (.aload_n 0, 1) := by decide +kernel
theorem dX10_carryOut_53 : decode cX10_carryOut 53 = .ok (.getfield 187, 3) := by decide +kernel
theorem dX10_carryOut_56 : decode cX10_carryOut 56 = .ok (.ifCond .ne 7, 3) := by decide +kernel
theorem dX10_carryOut_59 : decode cX10_carryOut 59 = .ok (.iconst 1, 1) := by decide +kernel
theorem dX10_carryOut_60 : decode cX10_carryOut 60 = .ok (.goto 4, 3) := by decide +kernel
theorem dX10_carryOut_63 : decode cX10_carryOut 63 = .ok (.iconst 0, 1) := by decide +kernel
theorem dX10_carryOut_64 : decode cX10_carryOut 64 = .ok (.iadd, 1) := by decide +kernel
theorem dX10_carryOut_65 : decode cX10_carryOut 65 = .ok (.istore_n 1, 1) := by decide +kernel
theorem dX10_carryOut_66 : decode cX10_carryOut 66 = .ok (.aload_n 0, 1) := by decide +kernel
theorem dX10_carryOut_67 : decode cX10_carryOut 67 = .ok (.getfield 187, 3) := by decide +kernel
theorem dX10_carryOut_70 : decode cX10_carryOut 70 = .ok (.ifCond .ne 16, 3) := by decide +kernel
theorem dX10_carryOut_73 : decode cX10_carryOut 73 = .ok (.aload_n 0, 1) := by decide +kernel
theorem dX10_carryOut_74 : decode cX10_carryOut 74 = .ok (.bipush 59, 2) := by decide +kernel
theorem dX10_carryOut_76 : decode cX10_carryOut 76 = .ok (.invokevirtual 193, 3) := by decide +kernel
theorem dX10_carryOut_79 : decode cX10_carryOut 79 = .ok (.ifCond .eq 7, 3) := by decide +kernel
theorem dX10_carryOut_82 : decode cX10_carryOut 82 = .ok (.iconst 1, 1) := by decide +kernel
theorem dX10_carryOut_83 : decode cX10_carryOut 83 = .ok (.goto 4, 3) := by decide +kernel
theorem dX10_carryOut_86 : decode cX10_carryOut 86 = .ok (.iconst 0, 1) := by decide +kernel
theorem dX10_carryOut_87 : decode cX10_carryOut 87 = .ok (.istore_n 2, 1) := by decide +kernel
theorem dX10_carryOut_88 : decode cX10_carryOut 88 = .ok (.goto (-46), 3) := by decide +kernel
theorem dX10_carryOut_91 : decode cX10_carryOut 91 = .ok (.aload_n 0, 1) := by decide +kernel
theorem dX10_carryOut_92 : decode cX10_carryOut 92 = .ok (.iconst 0, 1) := by decide +kernel
theorem dX10_carryOut_93 : decode cX10_carryOut 93 = .ok (.putfield 169, 3) := by decide +kernel
theorem dX10_carryOut_96 : decode cX10_carryOut 96 = .ok (.aload_n 0, 1) := by decide +kernel
theorem dX10_carryOut_97 : decode cX10_carryOut 97 = .ok (.iload_n 1, 1) := by decide +kernel
theorem dX10_carryOut_98 : decode cX10_carryOut 98 = .ok (.invokevirtual 118, 3) := by decide +kernel
theorem dX10_carryOut_101 : decode cX10_carryOut 101 = .ok (.ireturn, 1) := by decide +kernel
theorem dX10_undo_0 : decode cX10_undo 0 = .ok (.aload_n 0, 1) := by decide +kernel
theorem dX10_undo_1 : decode cX10_undo 1 = .ok (.getfield 43, 3) := by decide +kernel
theorem dX10_undo_4 : decode cX10_undo 4 = .ok (.ifCond .ne 6, 3) := by decide +kernel
theorem dX10_undo_7 : decode cX10_undo 7 = .ok (.bipush (-5), 2) := by decide +kernel
theorem dX10_undo_9 : decode cX10_undo 9 = .ok (.ireturn, 1) := by decide +kernel
theorem dX10_undo_10 : decode cX10_undo 10 = .ok (.aload_n 0, 1) := by decide +kernel
theorem dX10_undo_11 : decode cX10_undo 11 = .ok (.dup, 1) := by decide +kernel
theorem dX10_undo_12 : decode cX10_undo 12 = .ok (.getfield 43, 3) := by decide +kernel
theorem dX10_undo_15 : decode cX10_undo 15 = .ok (.iconst 1, 1) := by decide +kernel
theorem dX10_undo_16 : decode cX10_undo 16 = .ok (.isub, 1) := by decide +kernel
theorem dX10_undo_17 : decode cX10_undo 17 = .ok (.putfield 43, 3) := by decide +kernel
theorem dX10_undo_20 : decode cX10_undo 20 = .ok (.iconst 0, 1) := by decide +kernel
theorem dX10_undo_21 : decode cX10_undo 21 = .ok (.istore_n 1, 1) := by decide +kernel
theorem dX10_undo_22 : decode cX10_undo 22 = .ok (.iload_n 1, 1) := by decide +kernel
theorem dX10_undo_23 : decode cX10_undo 23 = .ok (.sipush 132, 3) := by decide +kernel
theorem dX10_undo_26 : decode cX10_undo 26 = .ok (.if_icmp .ge 30, 3) := by decide +kernel
theorem dX10_undo_29 : decode cX10_undo 29 = .ok (.aload_n 0, 1) := by decide +kernel
theorem dX10_undo_30 : decode cX10_undo 30 = .ok (.getfield 7, 3) := by decide +kernel
theorem dX10_undo_33 : decode cX10_undo 33 = .ok (.iload_n 1, 1) := by decide +kernel
theorem dX10_undo_34 : decode cX10_undo 34 = .ok (.aload_n 0, 1) := by decide +kernel
theorem dX10_undo_35 : decode cX10_undo 35 = .ok (.getfield 19, 3) := by decide +kernel
theorem dX10_undo_38 : decode cX10_undo 38 = .ok (.sipush 132, 3) := by decide +kernel
theorem dX10_undo_41 : decode cX10_undo 41 = .ok (.aload_n 0, 1) := by decide +kernel
theorem dX10_undo_42 : decode cX10_undo 42 = .ok (.getfield 43, 3) := by decide +kernel
theorem dX10_undo_45 : decode cX10_undo 45 = .ok (.imul, 1) := by decide +kernel
theorem dX10_undo_46 : decode cX10_undo 46 = .ok (.iload_n 1, 1) := by decide +kernel
theorem dX10_undo_47 : decode cX10_undo 47 = .ok (.iadd, 1) := by decide +kernel
theorem dX10_undo_48 : decode cX10_undo 48 = .ok (.iaload, 1) := by decide +kernel
theorem dX10_undo_49 : decode cX10_undo 49 = .ok (.iastore, 1) := by decide +kernel
theorem dX10_undo_50 : decode cX10_undo 50 = .ok (.iinc 1 1, 3) := by decide +kernel
theorem dX10_undo_53 : decode cX10_undo 53 = .ok (.goto (-31), 3) := by decide +kernel
theorem dX10_undo_56 : decode cX10_undo 56 = .ok (.aload_n 0, 1) := by decide +kernel
theorem dX10_undo_57 : decode cX10_undo 57 = .ok (.getfield 43, 3) := by decide +kernel
theorem dX10_undo_60 : decode cX10_undo 60 = .ok (.ireturn, 1) := by decide +kernel
theorem dX10_save_0 : decode cX10_save 0 = .ok (.iload_n 1, 1) := by decide +kernel
theorem dX10_save_1 : decode cX10_save 1 = .ok (.i2l, 1) := by decide +kernel
theorem dX10_save_2 : decode cX10_save 2 = .ok (.lconst 0, 1) := by decide +kernel
theorem dX10_save_3 : decode cX10_save 3 = .ok (.lconst 1, 1) := by decide +kernel
theorem dX10_save_4 : decode cX10_save 4 = .ok (.invokestatic 51, 3) := by decide +kernel
theorem dX10_save_7 : decode cX10_save 7 = .ok (.ifCond .ne 6, 3) := by decide +kernel
theorem dX10_save_10 : decode cX10_save 10 = .ok (.bipush (-2), 2) := by decide +kernel
theorem dX10_save_12 : decode cX10_save 12 = .ok (.ireturn, 1) := by decide +kernel
theorem dX10_save_13 : decode cX10_save 13 = .ok (.iconst 0, 1) := by decide +kernel
theorem dX10_save_14 : decode cX10_save 14 = .ok (.istore_n 2, 1) := by decide +kernel
theorem dX10_save_15 : decode cX10_save 15 = .ok (.iload_n 2, 1) := by decide +kernel
theorem dX10_save_16 : decode cX10_save 16 = .ok (.sipush 132, 3) := by decide +kernel
theorem dX10_save_19 : decode cX10_save 19 = .ok (.if_icmp .ge 27, 3) := by decide +kernel
theorem dX10_save_22 : decode cX10_save 22 = .ok (.aload_n 0, 1) := by decide +kernel
theorem dX10_save_23 : decode cX10_save 23 = .ok (.getfield 22, 3) := by decide +kernel
theorem dX10_save_26 : decode cX10_save 26 = .ok (.sipush 132, 3) := by decide +kernel
theorem dX10_save_29 : decode cX10_save 29 = .ok (.iload_n 1, 1) := by decide +kernel
theorem dX10_save_30 : decode cX10_save 30 = .ok (.imul, 1) := by decide +kernel
theorem dX10_save_31 : decode cX10_save 31 = .ok (.iload_n 2, 1) := by decide +kernel
theorem dX10_save_32 : decode cX10_save 32 = .ok (.iadd, 1) := by decide +kernel
theorem dX10_save_33 : decode cX10_save 33 = .ok (.aload_n 0, 1) := by decide +kernel
theorem dX10_save_34 : decode cX10_save 34 = .ok (.getfield 7, 3) := by decide +kernel
theorem dX10_save_37 : decode cX10_save 37 = .ok (.iload_n 2, 1) := by decide +kernel
theorem dX10_save_38 : decode cX10_save 38 = .ok (.iaload, 1) := by decide +kernel
theorem dX10_save_39 : decode cX10_save 39 = .ok (.iastore, 1) := by decide +kernel
theorem dX10_save_40 : decode cX10_save 40 = .ok (.iinc 2 1, 3) := by decide +kernel
theorem dX10_save_43 : decode cX10_save 43 = .ok (.goto (-28), 3) := by decide +kernel
theorem dX10_save_46 : decode cX10_save 46 = .ok (.aload_n 0, 1) := by decide +kernel
theorem dX10_save_47 : decode cX10_save 47 = .ok (.getfield 25, 3) := by decide +kernel
theorem dX10_save_50 : decode cX10_save 50 = .ok (.iload_n 1, 1) := by decide +kernel
theorem dX10_save_51 : decode cX10_save 51 = .ok (.iconst 1, 1) := by decide +kernel
theorem dX10_save_52 : decode cX10_save 52 = .ok (.iastore, 1) := by decide +kernel
theorem dX10_save_53 : decode cX10_save 53 = .ok (.aload_n 0, 1) := by decide +kernel
theorem dX10_save_54 : decode cX10_save 54 = .ok (.getfield 7, 3) := by decide +kernel
theorem dX10_save_57 : decode cX10_save 57 = .ok (.bipush 6, 2) := by decide +kernel
theorem dX10_save_59 : decode cX10_save 59 = .ok (.iaload, 1) := by decide +kernel
theorem dX10_save_60 : decode cX10_save 60 = .ok (.ireturn, 1) := by decide +kernel
theorem dX10_restore_0 : decode cX10_restore 0 = .ok (.iload_n 1, 1) := by decide +kernel
theorem dX10_restore_1 : decode cX10_restore 1 = .ok (.i2l, 1) := by decide +kernel
theorem dX10_restore_2 : decode cX10_restore 2 = .ok (.lconst 0, 1) := by decide +kernel
theorem dX10_restore_3 : decode cX10_restore 3 = .ok (.lconst 1, 1) := by decide +kernel
theorem dX10_restore_4 : decode cX10_restore 4 = .ok (.invokestatic 51, 3) := by decide +kernel
theorem dX10_restore_7 : decode cX10_restore 7 = .ok (.ifCond .ne 6, 3) := by decide +kernel
theorem dX10_restore_10 : decode cX10_restore 10 = .ok (.bipush (-2), 2) := by decide +kernel
theorem dX10_restore_12 : decode cX10_restore 12 = .ok (.ireturn, 1) := by decide +kernel
theorem dX10_restore_13 : decode cX10_restore 13 = .ok (.aload_n 0, 1) := by decide +kernel
theorem dX10_restore_14 : decode cX10_restore 14 = .ok (.getfield 25, 3) := by decide +kernel
theorem dX10_restore_17 : decode cX10_restore 17 = .ok (.iload_n 1, 1) := by decide +kernel
theorem dX10_restore_18 : decode cX10_restore 18 = .ok (.iaload, 1) := by decide +kernel
theorem dX10_restore_19 : decode cX10_restore 19 = .ok (.ifCond .ne 6, 3) := by decide +kernel
theorem dX10_restore_22 : decode cX10_restore 22 = .ok (.bipush (-5), 2) := by decide +kernel
theorem dX10_restore_24 : decode cX10_restore 24 = .ok (.ireturn, 1) := by decide +kernel
theorem dX10_restore_25 : decode cX10_restore 25 = .ok (.aload_n 0, 1) := by decide +kernel
theorem dX10_restore_26 : decode cX10_restore 26 = .ok (.getfield 7, 3) := by decide +kernel
theorem dX10_restore_29 : decode cX10_restore 29 = .ok (.aload_n 0, 1) := by decide +kernel
theorem dX10_restore_30 : decode cX10_restore 30 = .ok (.getfield 13, 3) := by decide +kernel
theorem dX10_restore_33 : decode cX10_restore 33 = .ok (.invokestatic 124, 3) := by decide +kernel
theorem dX10_restore_36 : decode cX10_restore 36 = .ok (.iconst 0, 1) := by decide +kernel
theorem dX10_restore_37 : decode cX10_restore 37 = .ok (.istore_n 2, 1) := by decide +kernel
theorem dX10_restore_38 : decode cX10_restore 38 = .ok (.iload_n 2, 1) := by decide +kernel
theorem dX10_restore_39 : decode cX10_restore 39 = .ok (.sipush 132, 3) := by decide +kernel
theorem dX10_restore_42 : decode cX10_restore 42 = .ok (.if_icmp .ge 27, 3) := by decide +kernel
theorem dX10_restore_45 : decode cX10_restore 45 = .ok (.aload_n 0, 1) := by decide +kernel
theorem dX10_restore_46 : decode cX10_restore 46 = .ok (.getfield 7, 3) := by decide +kernel
theorem dX10_restore_49 : decode cX10_restore 49 = .ok (.iload_n 2, 1) := by decide +kernel
theorem dX10_restore_50 : decode cX10_restore 50 = .ok (.aload_n 0, 1) := by decide +kernel
theorem dX10_restore_51 : decode cX10_restore 51 = .ok (.getfield 22, 3) := by decide +kernel
theorem dX10_restore_54 : decode cX10_restore 54 = .ok (.sipush 132, 3) := by decide +kernel
theorem dX10_restore_57 : decode cX10_restore 57 = .ok (.iload_n 1, 1) := by decide +kernel
theorem dX10_restore_58 : decode cX10_restore 58 = .ok (.imul, 1) := by decide +kernel
theorem dX10_restore_59 : decode cX10_restore 59 = .ok (.iload_n 2, 1) := by decide +kernel
theorem dX10_restore_60 : decode cX10_restore 60 = .ok (.iadd, 1) := by decide +kernel
theorem dX10_restore_61 : decode cX10_restore 61 = .ok (.iaload, 1) := by decide +kernel
theorem dX10_restore_62 : decode cX10_restore 62 = .ok (.iastore, 1) := by decide +kernel
theorem dX10_restore_63 : decode cX10_restore 63 = .ok (.iinc 2 1, 3) := by decide +kernel
theorem dX10_restore_66 : decode cX10_restore 66 = .ok (.goto (-28), 3) := by decide +kernel
theorem dX10_restore_69 : decode cX10_restore 69 = .ok (.aload_n 0, 1) := by decide +kernel
theorem dX10_restore_70 : decode cX10_restore 70 = .ok (.aload_n 0, 1) := by decide +kernel
theorem dX10_restore_71 : decode cX10_restore 71 = .ok (.getfield 7, 3) := by decide +kernel
theorem dX10_restore_74 : decode cX10_restore 74 = .ok (.bipush 6, 2) := by decide +kernel
theorem dX10_restore_76 : decode cX10_restore 76 = .ok (.iaload, 1) := by decide +kernel
theorem dX10_restore_77 : decode cX10_restore 77 = .ok (.invokevirtual 118, 3) := by decide +kernel
theorem dX10_restore_80 : decode cX10_restore 80 = .ok (.ireturn, 1) := by decide +kernel
theorem dJ9_abs_0f7a4_0 : decode cJ9_abs_0f7a4 0 = .ok (.iload_n 0, 1) := by decide +kernel
theorem dJ9_abs_0f7a4_1 : decode cJ9_abs_0f7a4 1 = .ok (.ifCond .ge 8, 3) := by decide +kernel
theorem dJ9_abs_0f7a4_4 : decode cJ9_abs_0f7a4 4 = .ok (.iload_n 0, 1) := by decide +kernel
theorem dJ9_abs_0f7a4_5 : decode cJ9_abs_0f7a4 5 = .ok (.ineg, 1) := by decide +kernel
theorem dJ9_abs_0f7a4_6 : decode cJ9_abs_0f7a4 6 = .ok (.goto 4, 3) := by decide +kernel
theorem dJ9_abs_0f7a4_9 : decode cJ9_abs_0f7a4 9 = .ok (.iload_n 0, 1) := by decide +kernel
theorem dJ9_abs_0f7a4_10 : decode cJ9_abs_0f7a4 10 = .ok (.ireturn, 1) := by decide +kernel
theorem dJ9_max_7cf53_0 : decode cJ9_max_7cf53 0 = .ok (.iload_n 0, 1) := by decide +kernel
theorem dJ9_max_7cf53_1 : decode cJ9_max_7cf53 1 = .ok (.iload_n 1, 1) := by decide +kernel
theorem dJ9_max_7cf53_2 : decode cJ9_max_7cf53 2 = .ok (.if_icmp .lt 7, 3) := by decide +kernel
theorem dJ9_max_7cf53_5 : decode cJ9_max_7cf53 5 = .ok (.iload_n 0, 1) := by decide +kernel
theorem dJ9_max_7cf53_6 : decode cJ9_max_7cf53 6 = .ok (.goto 4, 3) := by decide +kernel
theorem dJ9_max_7cf53_9 : decode cJ9_max_7cf53 9 = .ok (.iload_n 1, 1) := by decide +kernel
theorem dJ9_max_7cf53_10 : decode cJ9_max_7cf53 10 = .ok (.ireturn, 1) := by decide +kernel
theorem dJ9_min_7cf53_0 : decode cJ9_min_7cf53 0 = .ok (.iload_n 0, 1) := by decide +kernel
theorem dJ9_min_7cf53_1 : decode cJ9_min_7cf53 1 = .ok (.iload_n 1, 1) := by decide +kernel
theorem dJ9_min_7cf53_2 : decode cJ9_min_7cf53 2 = .ok (.if_icmp .gt 7, 3) := by decide +kernel
theorem dJ9_min_7cf53_5 : decode cJ9_min_7cf53 5 = .ok (.iload_n 0, 1) := by decide +kernel
theorem dJ9_min_7cf53_6 : decode cJ9_min_7cf53 6 = .ok (.goto 4, 3) := by decide +kernel
theorem dJ9_min_7cf53_9 : decode cJ9_min_7cf53 9 = .ok (.iload_n 1, 1) := by decide +kernel
theorem dJ9_min_7cf53_10 : decode cJ9_min_7cf53 10 = .ok (.ireturn, 1) := by decide +kernel
theorem dJ7_fill_53178_0 : decode cJ7_fill_53178 0 = .ok (.iconst 0, 1) := by decide +kernel
theorem dJ7_fill_53178_1 : decode cJ7_fill_53178 1 = .ok (.istore_n 2, 1) := by decide +kernel
theorem dJ7_fill_53178_2 : decode cJ7_fill_53178 2 = .ok (.aload_n 0, 1) := by decide +kernel
theorem dJ7_fill_53178_3 : decode cJ7_fill_53178 3 = .ok (.arraylength, 1) := by decide +kernel
theorem dJ7_fill_53178_4 : decode cJ7_fill_53178 4 = .ok (.istore_n 3, 1) := by decide +kernel
theorem dJ7_fill_53178_5 : decode cJ7_fill_53178 5 = .ok (.iload_n 2, 1) := by decide +kernel
theorem dJ7_fill_53178_6 : decode cJ7_fill_53178 6 = .ok (.iload_n 3, 1) := by decide +kernel
theorem dJ7_fill_53178_7 : decode cJ7_fill_53178 7 = .ok (.if_icmp .ge 13, 3) := by decide +kernel
theorem dJ7_fill_53178_10 : decode cJ7_fill_53178 10 = .ok (.aload_n 0, 1) := by decide +kernel
theorem dJ7_fill_53178_11 : decode cJ7_fill_53178 11 = .ok (.iload_n 2, 1) := by decide +kernel
theorem dJ7_fill_53178_12 : decode cJ7_fill_53178 12 = .ok (.iload_n 1, 1) := by decide +kernel
theorem dJ7_fill_53178_13 : decode cJ7_fill_53178 13 = .ok (.iastore, 1) := by decide +kernel
theorem dJ7_fill_53178_14 : decode cJ7_fill_53178 14 = .ok (.iinc 2 1, 3) := by decide +kernel
theorem dJ7_fill_53178_17 : decode cJ7_fill_53178 17 = .ok (.goto (-12), 3) := by decide +kernel
theorem dJ7_fill_53178_20 : decode cJ7_fill_53178 20 = .ok (.return_, 1) := by decide +kernel
theorem dL_law_0 : decode cL_law 0 = .ok (.new 7, 3) := by decide +kernel
theorem dL_law_3 : decode cL_law 3 = .ok (.dup, 1) := by decide +kernel
theorem dL_law_4 : decode cL_law 4 = .ok (.invokespecial 9, 3) := by decide +kernel
theorem dL_law_7 : decode cL_law 7 = .ok (.astore_n 1, 1) := by decide +kernel
theorem dL_law_8 : decode cL_law 8 = .ok (.new 10, 3) := by decide +kernel
theorem dL_law_11 : decode cL_law 11 = .ok (.dup, 1) := by decide +kernel
theorem dL_law_12 : decode cL_law 12 = .ok (.invokespecial 12, 3) := by decide +kernel
theorem dL_law_15 : decode cL_law 15 = .ok (.astore_n 2, 1) := by decide +kernel
theorem dL_law_16 : decode cL_law 16 = .ok (.iconst 0, 1) := by decide +kernel
theorem dL_law_17 : decode cL_law 17 = .ok (.istore_n 3, 1) := by decide +kernel
theorem dL_law_18 : decode cL_law 18 = .ok (.iload_n 3, 1) := by decide +kernel
theorem dL_law_19 : decode cL_law 19 = .ok (.aload_n 0, 1) := by decide +kernel
theorem dL_law_20 : decode cL_law 20 = .ok (.arraylength, 1) := by decide +kernel
theorem dL_law_21 : decode cL_law 21 = .ok (.iconst 4, 1) := by decide +kernel
theorem dL_law_22 : decode cL_law 22 = .ok (.isub, 1) := by decide +kernel
theorem dL_law_23 : decode cL_law 23 = .ok (.if_icmp .gt 742, 3) := by decide +kernel
theorem dL_law_26 : decode cL_law 26 = .ok (.aload_n 0, 1) := by decide +kernel
theorem dL_law_27 : decode cL_law 27 = .ok (.iload_n 3, 1) := by decide +kernel
theorem dL_law_28 : decode cL_law 28 = .ok (.iaload, 1) := by decide +kernel
theorem dL_law_29 : decode cL_law 29 = .ok (.bipush 31, 2) := by decide +kernel
theorem dL_law_31 : decode cL_law 31 = .ok (.iand, 1) := by decide +kernel
theorem dL_law_32 : decode cL_law 32 = .ok (.tableswitch 727 0 22 #[108, 141, 184, 207, 240, 263, 286, 309, 342, 385, 428, 451, 484, 507, 550, 563, 576, 629, 642, 655, 668, 681, 704], 108) := by decide +kernel
theorem dL_law_140 : decode cL_law 140 = .ok (.aload_n 1, 1) := by decide +kernel
theorem dL_law_141 : decode cL_law 141 = .ok (.aload_n 0, 1) := by decide +kernel
theorem dL_law_142 : decode cL_law 142 = .ok (.iload_n 3, 1) := by decide +kernel
theorem dL_law_143 : decode cL_law 143 = .ok (.iconst 1, 1) := by decide +kernel
theorem dL_law_144 : decode cL_law 144 = .ok (.iadd, 1) := by decide +kernel
theorem dL_law_145 : decode cL_law 145 = .ok (.iaload, 1) := by decide +kernel
theorem dL_law_146 : decode cL_law 146 = .ok (.aload_n 0, 1) := by decide +kernel
theorem dL_law_147 : decode cL_law 147 = .ok (.iload_n 3, 1) := by decide +kernel
theorem dL_law_148 : decode cL_law 148 = .ok (.iconst 2, 1) := by decide +kernel
theorem dL_law_149 : decode cL_law 149 = .ok (.iadd, 1) := by decide +kernel
theorem dL_law_150 : decode cL_law 150 = .ok (.iaload, 1) := by decide +kernel
theorem dL_law_151 : decode cL_law 151 = .ok (.invokevirtual 13, 3) := by decide +kernel
theorem dL_law_154 : decode cL_law 154 = .ok (.aload_n 2, 1) := by decide +kernel
theorem dL_law_155 : decode cL_law 155 = .ok (.aload_n 0, 1) := by decide +kernel
theorem dL_law_156 : decode cL_law 156 = .ok (.iload_n 3, 1) := by decide +kernel
theorem dL_law_157 : decode cL_law 157 = .ok (.iconst 1, 1) := by decide +kernel
theorem dL_law_158 : decode cL_law 158 = .ok (.iadd, 1) := by decide +kernel
theorem dL_law_159 : decode cL_law 159 = .ok (.iaload, 1) := by decide +kernel
theorem dL_law_160 : decode cL_law 160 = .ok (.aload_n 0, 1) := by decide +kernel
theorem dL_law_161 : decode cL_law 161 = .ok (.iload_n 3, 1) := by decide +kernel
theorem dL_law_162 : decode cL_law 162 = .ok (.iconst 2, 1) := by decide +kernel
theorem dL_law_163 : decode cL_law 163 = .ok (.iadd, 1) := by decide +kernel
theorem dL_law_164 : decode cL_law 164 = .ok (.iaload, 1) := by decide +kernel
theorem dL_law_165 : decode cL_law 165 = .ok (.invokevirtual 17, 3) := by decide +kernel
theorem dL_law_168 : decode cL_law 168 = .ok (.if_icmp .eq 591, 3) := by decide +kernel
theorem dL_law_171 : decode cL_law 171 = .ok (.iconst 0, 1) := by decide +kernel
theorem dL_law_172 : decode cL_law 172 = .ok (.ireturn, 1) := by decide +kernel
theorem dL_law_173 : decode cL_law 173 = .ok (.aload_n 1, 1) := by decide +kernel
theorem dL_law_174 : decode cL_law 174 = .ok (.aload_n 0, 1) := by decide +kernel
theorem dL_law_175 : decode cL_law 175 = .ok (.iload_n 3, 1) := by decide +kernel
theorem dL_law_176 : decode cL_law 176 = .ok (.iconst 1, 1) := by decide +kernel
theorem dL_law_177 : decode cL_law 177 = .ok (.iadd, 1) := by decide +kernel
theorem dL_law_178 : decode cL_law 178 = .ok (.iaload, 1) := by decide +kernel
theorem dL_law_179 : decode cL_law 179 = .ok (.aload_n 0, 1) := by decide +kernel
theorem dL_law_180 : decode cL_law 180 = .ok (.iload_n 3, 1) := by decide +kernel
theorem dL_law_181 : decode cL_law 181 = .ok (.iconst 2, 1) := by decide +kernel
theorem dL_law_182 : decode cL_law 182 = .ok (.iadd, 1) := by decide +kernel
theorem dL_law_183 : decode cL_law 183 = .ok (.iaload, 1) := by decide +kernel
theorem dL_law_184 : decode cL_law 184 = .ok (.aload_n 0, 1) := by decide +kernel
theorem dL_law_185 : decode cL_law 185 = .ok (.iload_n 3, 1) := by decide +kernel
theorem dL_law_186 : decode cL_law 186 = .ok (.iconst 3, 1) := by decide +kernel
theorem dL_law_187 : decode cL_law 187 = .ok (.iadd, 1) := by decide +kernel
theorem dL_law_188 : decode cL_law 188 = .ok (.iaload, 1) := by decide +kernel
theorem dL_law_189 : decode cL_law 189 = .ok (.invokevirtual 18, 3) := by decide +kernel
theorem dL_law_192 : decode cL_law 192 = .ok (.aload_n 2, 1) := by decide +kernel
theorem dL_law_193 : decode cL_law 193 = .ok (.aload_n 0, 1) := by decide +kernel
theorem dL_law_194 : decode cL_law 194 = .ok (.iload_n 3, 1) := by decide +kernel
theorem dL_law_195 : decode cL_law 195 = .ok (.iconst 1, 1) := by decide +kernel
theorem dL_law_196 : decode cL_law 196 = .ok (.iadd, 1) := by decide +kernel
theorem dL_law_197 : decode cL_law 197 = .ok (.iaload, 1) := by decide +kernel
theorem dL_law_198 : decode cL_law 198 = .ok (.aload_n 0, 1) := by decide +kernel
theorem dL_law_199 : decode cL_law 199 = .ok (.iload_n 3, 1) := by decide +kernel
theorem dL_law_200 : decode cL_law 200 = .ok (.iconst 2, 1) := by decide +kernel
theorem dL_law_201 : decode cL_law 201 = .ok (.iadd, 1) := by decide +kernel
theorem dL_law_202 : decode cL_law 202 = .ok (.iaload, 1) := by decide +kernel
theorem dL_law_203 : decode cL_law 203 = .ok (.aload_n 0, 1) := by decide +kernel
theorem dL_law_204 : decode cL_law 204 = .ok (.iload_n 3, 1) := by decide +kernel
theorem dL_law_205 : decode cL_law 205 = .ok (.iconst 3, 1) := by decide +kernel
theorem dL_law_206 : decode cL_law 206 = .ok (.iadd, 1) := by decide +kernel
theorem dL_law_207 : decode cL_law 207 = .ok (.iaload, 1) := by decide +kernel
theorem dL_law_208 : decode cL_law 208 = .ok (.invokevirtual 22, 3) := by decide +kernel
theorem dL_law_211 : decode cL_law 211 = .ok (.if_icmp .eq 548, 3) := by decide +kernel
theorem dL_law_214 : decode cL_law 214 = .ok (.iconst 0, 1) := by decide +kernel
theorem dL_law_215 : decode cL_law 215 = .ok (.ireturn, 1) := by decide +kernel
theorem dL_law_216 : decode cL_law 216 = .ok (.aload_n 1, 1) := by decide +kernel
theorem dL_law_217 : decode cL_law 217 = .ok (.aload_n 0, 1) := by decide +kernel
theorem dL_law_218 : decode cL_law 218 = .ok (.iload_n 3, 1) := by decide +kernel
theorem dL_law_219 : decode cL_law 219 = .ok (.iconst 1, 1) := by decide +kernel
theorem dL_law_220 : decode cL_law 220 = .ok (.iadd, 1) := by decide +kernel
theorem dL_law_221 : decode cL_law 221 = .ok (.iaload, 1) := by decide +kernel
theorem dL_law_222 : decode cL_law 222 = .ok (.invokevirtual 23, 3) := by decide +kernel
theorem dL_law_225 : decode cL_law 225 = .ok (.aload_n 2, 1) := by decide +kernel
theorem dL_law_226 : decode cL_law 226 = .ok (.aload_n 0, 1) := by decide +kernel
theorem dL_law_227 : decode cL_law 227 = .ok (.iload_n 3, 1) := by decide +kernel
theorem dL_law_228 : decode cL_law 228 = .ok (.iconst 1, 1) := by decide +kernel
theorem dL_law_229 : decode cL_law 229 = .ok (.iadd, 1) := by decide +kernel
theorem dL_law_230 : decode cL_law 230 = .ok (.iaload, 1) := by decide +kernel
theorem dL_law_231 : decode cL_law 231 = .ok (.invokevirtual 27, 3) := by decide +kernel
theorem dL_law_234 : decode cL_law 234 = .ok (.if_icmp .eq 525, 3) := by decide +kernel
theorem dL_law_237 : decode cL_law 237 = .ok (.iconst 0, 1) := by decide +kernel
theorem dL_law_238 : decode cL_law 238 = .ok (.ireturn, 1) := by decide +kernel
theorem dL_law_239 : decode cL_law 239 = .ok (.aload_n 1, 1) := by decide +kernel
theorem dL_law_240 : decode cL_law 240 = .ok (.aload_n 0, 1) := by decide +kernel
theorem dL_law_241 : decode cL_law 241 = .ok (.iload_n 3, 1) := by decide +kernel
theorem dL_law_242 : decode cL_law 242 = .ok (.iconst 1, 1) := by decide +kernel
theorem dL_law_243 : decode cL_law 243 = .ok (.iadd, 1) := by decide +kernel
theorem dL_law_244 : decode cL_law 244 = .ok (.iaload, 1) := by decide +kernel
theorem dL_law_245 : decode cL_law 245 = .ok (.aload_n 0, 1) := by decide +kernel
theorem dL_law_246 : decode cL_law 246 = .ok (.iload_n 3, 1) := by decide +kernel
theorem dL_law_247 : decode cL_law 247 = .ok (.iconst 2, 1) := by decide +kernel
theorem dL_law_248 : decode cL_law 248 = .ok (.iadd, 1) := by decide +kernel
theorem dL_law_249 : decode cL_law 249 = .ok (.iaload, 1) := by decide +kernel
theorem dL_law_250 : decode cL_law 250 = .ok (.invokevirtual 28, 3) := by decide +kernel
theorem dL_law_253 : decode cL_law 253 = .ok (.aload_n 2, 1) := by decide +kernel
theorem dL_law_254 : decode cL_law 254 = .ok (.aload_n 0, 1) := by decide +kernel
theorem dL_law_255 : decode cL_law 255 = .ok (.iload_n 3, 1) := by decide +kernel
theorem dL_law_256 : decode cL_law 256 = .ok (.iconst 1, 1) := by decide +kernel
theorem dL_law_257 : decode cL_law 257 = .ok (.iadd, 1) := by decide +kernel
theorem dL_law_258 : decode cL_law 258 = .ok (.iaload, 1) := by decide +kernel
theorem dL_law_259 : decode cL_law 259 = .ok (.aload_n 0, 1) := by decide +kernel
theorem dL_law_260 : decode cL_law 260 = .ok (.iload_n 3, 1) := by decide +kernel
theorem dL_law_261 : decode cL_law 261 = .ok (.iconst 2, 1) := by decide +kernel
theorem dL_law_262 : decode cL_law 262 = .ok (.iadd, 1) := by decide +kernel
theorem dL_law_263 : decode cL_law 263 = .ok (.iaload, 1) := by decide +kernel
theorem dL_law_264 : decode cL_law 264 = .ok (.invokevirtual 31, 3) := by decide +kernel
theorem dL_law_267 : decode cL_law 267 = .ok (.if_icmp .eq 492, 3) := by decide +kernel
theorem dL_law_270 : decode cL_law 270 = .ok (.iconst 0, 1) := by decide +kernel
theorem dL_law_271 : decode cL_law 271 = .ok (.ireturn, 1) := by decide +kernel
theorem dL_law_272 : decode cL_law 272 = .ok (.aload_n 1, 1) := by decide +kernel
theorem dL_law_273 : decode cL_law 273 = .ok (.aload_n 0, 1) := by decide +kernel
theorem dL_law_274 : decode cL_law 274 = .ok (.iload_n 3, 1) := by decide +kernel
theorem dL_law_275 : decode cL_law 275 = .ok (.iconst 1, 1) := by decide +kernel
theorem dL_law_276 : decode cL_law 276 = .ok (.iadd, 1) := by decide +kernel
theorem dL_law_277 : decode cL_law 277 = .ok (.iaload, 1) := by decide +kernel
theorem dL_law_278 : decode cL_law 278 = .ok (.invokevirtual 32, 3) := by decide +kernel
theorem dL_law_281 : decode cL_law 281 = .ok (.aload_n 2, 1) := by decide +kernel
theorem dL_law_282 : decode cL_law 282 = .ok (.aload_n 0, 1) := by decide +kernel
theorem dL_law_283 : decode cL_law 283 = .ok (.iload_n 3, 1) := by decide +kernel
theorem dL_law_284 : decode cL_law 284 = .ok (.iconst 1, 1) := by decide +kernel
theorem dL_law_285 : decode cL_law 285 = .ok (.iadd, 1) := by decide +kernel
theorem dL_law_286 : decode cL_law 286 = .ok (.iaload, 1) := by decide +kernel
theorem dL_law_287 : decode cL_law 287 = .ok (.invokevirtual 35, 3) := by decide +kernel
theorem dL_law_290 : decode cL_law 290 = .ok (.if_icmp .eq 469, 3) := by decide +kernel
theorem dL_law_293 : decode cL_law 293 = .ok (.iconst 0, 1) := by decide +kernel
theorem dL_law_294 : decode cL_law 294 = .ok (.ireturn, 1) := by decide +kernel
theorem dL_law_295 : decode cL_law 295 = .ok (.aload_n 1, 1) := by decide +kernel
theorem dL_law_296 : decode cL_law 296 = .ok (.aload_n 0, 1) := by decide +kernel
theorem dL_law_297 : decode cL_law 297 = .ok (.iload_n 3, 1) := by decide +kernel
theorem dL_law_298 : decode cL_law 298 = .ok (.iconst 1, 1) := by decide +kernel
theorem dL_law_299 : decode cL_law 299 = .ok (.iadd, 1) := by decide +kernel
theorem dL_law_300 : decode cL_law 300 = .ok (.iaload, 1) := by decide +kernel
theorem dL_law_301 : decode cL_law 301 = .ok (.invokevirtual 36, 3) := by decide +kernel
theorem dL_law_304 : decode cL_law 304 = .ok (.aload_n 2, 1) := by decide +kernel
theorem dL_law_305 : decode cL_law 305 = .ok (.aload_n 0, 1) := by decide +kernel
theorem dL_law_306 : decode cL_law 306 = .ok (.iload_n 3, 1) := by decide +kernel
theorem dL_law_307 : decode cL_law 307 = .ok (.iconst 1, 1) := by decide +kernel
theorem dL_law_308 : decode cL_law 308 = .ok (.iadd, 1) := by decide +kernel
theorem dL_law_309 : decode cL_law 309 = .ok (.iaload, 1) := by decide +kernel
theorem dL_law_310 : decode cL_law 310 = .ok (.invokevirtual 39, 3) := by decide +kernel
theorem dL_law_313 : decode cL_law 313 = .ok (.if_icmp .eq 446, 3) := by decide +kernel
theorem dL_law_316 : decode cL_law 316 = .ok (.iconst 0, 1) := by decide +kernel
theorem dL_law_317 : decode cL_law 317 = .ok (.ireturn, 1) := by decide +kernel
theorem dL_law_318 : decode cL_law 318 = .ok (.aload_n 1, 1) := by decide +kernel
theorem dL_law_319 : decode cL_law 319 = .ok (.aload_n 0, 1) := by decide +kernel
theorem dL_law_320 : decode cL_law 320 = .ok (.iload_n 3, 1) := by decide +kernel
theorem dL_law_321 : decode cL_law 321 = .ok (.iconst 1, 1) := by decide +kernel
theorem dL_law_322 : decode cL_law 322 = .ok (.iadd, 1) := by decide +kernel
theorem dL_law_323 : decode cL_law 323 = .ok (.iaload, 1) := by decide +kernel
theorem dL_law_324 : decode cL_law 324 = .ok (.invokevirtual 40, 3) := by decide +kernel
theorem dL_law_327 : decode cL_law 327 = .ok (.aload_n 2, 1) := by decide +kernel
theorem dL_law_328 : decode cL_law 328 = .ok (.aload_n 0, 1) := by decide +kernel
theorem dL_law_329 : decode cL_law 329 = .ok (.iload_n 3, 1) := by decide +kernel
theorem dL_law_330 : decode cL_law 330 = .ok (.iconst 1, 1) := by decide +kernel
theorem dL_law_331 : decode cL_law 331 = .ok (.iadd, 1) := by decide +kernel
theorem dL_law_332 : decode cL_law 332 = .ok (.iaload, 1) := by decide +kernel
theorem dL_law_333 : decode cL_law 333 = .ok (.invokevirtual 43, 3) := by decide +kernel
theorem dL_law_336 : decode cL_law 336 = .ok (.if_icmp .eq 423, 3) := by decide +kernel
theorem dL_law_339 : decode cL_law 339 = .ok (.iconst 0, 1) := by decide +kernel
theorem dL_law_340 : decode cL_law 340 = .ok (.ireturn, 1) := by decide +kernel
theorem dL_law_341 : decode cL_law 341 = .ok (.aload_n 1, 1) := by decide +kernel
theorem dL_law_342 : decode cL_law 342 = .ok (.aload_n 0, 1) := by decide +kernel
theorem dL_law_343 : decode cL_law 343 = .ok (.iload_n 3, 1) := by decide +kernel
theorem dL_law_344 : decode cL_law 344 = .ok (.iconst 1, 1) := by decide +kernel
theorem dL_law_345 : decode cL_law 345 = .ok (.iadd, 1) := by decide +kernel
theorem dL_law_346 : decode cL_law 346 = .ok (.iaload, 1) := by decide +kernel
theorem dL_law_347 : decode cL_law 347 = .ok (.aload_n 0, 1) := by decide +kernel
theorem dL_law_348 : decode cL_law 348 = .ok (.iload_n 3, 1) := by decide +kernel
theorem dL_law_349 : decode cL_law 349 = .ok (.iconst 2, 1) := by decide +kernel
theorem dL_law_350 : decode cL_law 350 = .ok (.iadd, 1) := by decide +kernel
theorem dL_law_351 : decode cL_law 351 = .ok (.iaload, 1) := by decide +kernel
theorem dL_law_352 : decode cL_law 352 = .ok (.invokevirtual 44, 3) := by decide +kernel
theorem dL_law_355 : decode cL_law 355 = .ok (.aload_n 2, 1) := by decide +kernel
theorem dL_law_356 : decode cL_law 356 = .ok (.aload_n 0, 1) := by decide +kernel
theorem dL_law_357 : decode cL_law 357 = .ok (.iload_n 3, 1) := by decide +kernel
theorem dL_law_358 : decode cL_law 358 = .ok (.iconst 1, 1) := by decide +kernel
theorem dL_law_359 : decode cL_law 359 = .ok (.iadd, 1) := by decide +kernel
theorem dL_law_360 : decode cL_law 360 = .ok (.iaload, 1) := by decide +kernel
theorem dL_law_361 : decode cL_law 361 = .ok (.aload_n 0, 1) := by decide +kernel
theorem dL_law_362 : decode cL_law 362 = .ok (.iload_n 3, 1) := by decide +kernel
theorem dL_law_363 : decode cL_law 363 = .ok (.iconst 2, 1) := by decide +kernel
theorem dL_law_364 : decode cL_law 364 = .ok (.iadd, 1) := by decide +kernel
theorem dL_law_365 : decode cL_law 365 = .ok (.iaload, 1) := by decide +kernel
theorem dL_law_366 : decode cL_law 366 = .ok (.invokevirtual 47, 3) := by decide +kernel
theorem dL_law_369 : decode cL_law 369 = .ok (.if_icmp .eq 390, 3) := by decide +kernel
theorem dL_law_372 : decode cL_law 372 = .ok (.iconst 0, 1) := by decide +kernel
theorem dL_law_373 : decode cL_law 373 = .ok (.ireturn, 1) := by decide +kernel
theorem dL_law_374 : decode cL_law 374 = .ok (.aload_n 1, 1) := by decide +kernel
theorem dL_law_375 : decode cL_law 375 = .ok (.aload_n 0, 1) := by decide +kernel
theorem dL_law_376 : decode cL_law 376 = .ok (.iload_n 3, 1) := by decide +kernel
theorem dL_law_377 : decode cL_law 377 = .ok (.iconst 1, 1) := by decide +kernel
theorem dL_law_378 : decode cL_law 378 = .ok (.iadd, 1) := by decide +kernel
theorem dL_law_379 : decode cL_law 379 = .ok (.iaload, 1) := by decide +kernel
theorem dL_law_380 : decode cL_law 380 = .ok (.aload_n 0, 1) := by decide +kernel
theorem dL_law_381 : decode cL_law 381 = .ok (.iload_n 3, 1) := by decide +kernel
theorem dL_law_382 : decode cL_law 382 = .ok (.iconst 2, 1) := by decide +kernel
theorem dL_law_383 : decode cL_law 383 = .ok (.iadd, 1) := by decide +kernel
theorem dL_law_384 : decode cL_law 384 = .ok (.iaload, 1) := by decide +kernel
theorem dL_law_385 : decode cL_law 385 = .ok (.aload_n 0, 1) := by decide +kernel
theorem dL_law_386 : decode cL_law 386 = .ok (.iload_n 3, 1) := by decide +kernel
theorem dL_law_387 : decode cL_law 387 = .ok (.iconst 3, 1) := by decide +kernel
theorem dL_law_388 : decode cL_law 388 = .ok (.iadd, 1) := by decide +kernel
theorem dL_law_389 : decode cL_law 389 = .ok (.iaload, 1) := by decide +kernel
theorem dL_law_390 : decode cL_law 390 = .ok (.invokevirtual 48, 3) := by decide +kernel
theorem dL_law_393 : decode cL_law 393 = .ok (.aload_n 2, 1) := by decide +kernel
theorem dL_law_394 : decode cL_law 394 = .ok (.aload_n 0, 1) := by decide +kernel
theorem dL_law_395 : decode cL_law 395 = .ok (.iload_n 3, 1) := by decide +kernel
theorem dL_law_396 : decode cL_law 396 = .ok (.iconst 1, 1) := by decide +kernel
theorem dL_law_397 : decode cL_law 397 = .ok (.iadd, 1) := by decide +kernel
theorem dL_law_398 : decode cL_law 398 = .ok (.iaload, 1) := by decide +kernel
theorem dL_law_399 : decode cL_law 399 = .ok (.aload_n 0, 1) := by decide +kernel
theorem dL_law_400 : decode cL_law 400 = .ok (.iload_n 3, 1) := by decide +kernel
theorem dL_law_401 : decode cL_law 401 = .ok (.iconst 2, 1) := by decide +kernel
theorem dL_law_402 : decode cL_law 402 = .ok (.iadd, 1) := by decide +kernel
theorem dL_law_403 : decode cL_law 403 = .ok (.iaload, 1) := by decide +kernel
theorem dL_law_404 : decode cL_law 404 = .ok (.aload_n 0, 1) := by decide +kernel
theorem dL_law_405 : decode cL_law 405 = .ok (.iload_n 3, 1) := by decide +kernel
theorem dL_law_406 : decode cL_law 406 = .ok (.iconst 3, 1) := by decide +kernel
theorem dL_law_407 : decode cL_law 407 = .ok (.iadd, 1) := by decide +kernel
theorem dL_law_408 : decode cL_law 408 = .ok (.iaload, 1) := by decide +kernel
theorem dL_law_409 : decode cL_law 409 = .ok (.invokevirtual 51, 3) := by decide +kernel
theorem dL_law_412 : decode cL_law 412 = .ok (.if_icmp .eq 347, 3) := by decide +kernel
theorem dL_law_415 : decode cL_law 415 = .ok (.iconst 0, 1) := by decide +kernel
theorem dL_law_416 : decode cL_law 416 = .ok (.ireturn, 1) := by decide +kernel
theorem dL_law_417 : decode cL_law 417 = .ok (.aload_n 1, 1) := by decide +kernel
theorem dL_law_418 : decode cL_law 418 = .ok (.aload_n 0, 1) := by decide +kernel
theorem dL_law_419 : decode cL_law 419 = .ok (.iload_n 3, 1) := by decide +kernel
theorem dL_law_420 : decode cL_law 420 = .ok (.iconst 1, 1) := by decide +kernel
theorem dL_law_421 : decode cL_law 421 = .ok (.iadd, 1) := by decide +kernel
theorem dL_law_422 : decode cL_law 422 = .ok (.iaload, 1) := by decide +kernel
theorem dL_law_423 : decode cL_law 423 = .ok (.aload_n 0, 1) := by decide +kernel
theorem dL_law_424 : decode cL_law 424 = .ok (.iload_n 3, 1) := by decide +kernel
theorem dL_law_425 : decode cL_law 425 = .ok (.iconst 2, 1) := by decide +kernel
theorem dL_law_426 : decode cL_law 426 = .ok (.iadd, 1) := by decide +kernel
theorem dL_law_427 : decode cL_law 427 = .ok (.iaload, 1) := by decide +kernel
theorem dL_law_428 : decode cL_law 428 = .ok (.aload_n 0, 1) := by decide +kernel
theorem dL_law_429 : decode cL_law 429 = .ok (.iload_n 3, 1) := by decide +kernel
theorem dL_law_430 : decode cL_law 430 = .ok (.iconst 3, 1) := by decide +kernel
theorem dL_law_431 : decode cL_law 431 = .ok (.iadd, 1) := by decide +kernel
theorem dL_law_432 : decode cL_law 432 = .ok (.iaload, 1) := by decide +kernel
theorem dL_law_433 : decode cL_law 433 = .ok (.invokevirtual 52, 3) := by decide +kernel
theorem dL_law_436 : decode cL_law 436 = .ok (.aload_n 2, 1) := by decide +kernel
theorem dL_law_437 : decode cL_law 437 = .ok (.aload_n 0, 1) := by decide +kernel
theorem dL_law_438 : decode cL_law 438 = .ok (.iload_n 3, 1) := by decide +kernel
theorem dL_law_439 : decode cL_law 439 = .ok (.iconst 1, 1) := by decide +kernel
theorem dL_law_440 : decode cL_law 440 = .ok (.iadd, 1) := by decide +kernel
theorem dL_law_441 : decode cL_law 441 = .ok (.iaload, 1) := by decide +kernel
theorem dL_law_442 : decode cL_law 442 = .ok (.aload_n 0, 1) := by decide +kernel
theorem dL_law_443 : decode cL_law 443 = .ok (.iload_n 3, 1) := by decide +kernel
theorem dL_law_444 : decode cL_law 444 = .ok (.iconst 2, 1) := by decide +kernel
theorem dL_law_445 : decode cL_law 445 = .ok (.iadd, 1) := by decide +kernel
theorem dL_law_446 : decode cL_law 446 = .ok (.iaload, 1) := by decide +kernel
theorem dL_law_447 : decode cL_law 447 = .ok (.aload_n 0, 1) := by decide +kernel
theorem dL_law_448 : decode cL_law 448 = .ok (.iload_n 3, 1) := by decide +kernel
theorem dL_law_449 : decode cL_law 449 = .ok (.iconst 3, 1) := by decide +kernel
theorem dL_law_450 : decode cL_law 450 = .ok (.iadd, 1) := by decide +kernel
theorem dL_law_451 : decode cL_law 451 = .ok (.iaload, 1) := by decide +kernel
theorem dL_law_452 : decode cL_law 452 = .ok (.invokevirtual 55, 3) := by decide +kernel
theorem dL_law_455 : decode cL_law 455 = .ok (.if_icmp .eq 304, 3) := by decide +kernel
theorem dL_law_458 : decode cL_law 458 = .ok (.iconst 0, 1) := by decide +kernel
theorem dL_law_459 : decode cL_law 459 = .ok (.ireturn, 1) := by decide +kernel
theorem dL_law_460 : decode cL_law 460 = .ok (.aload_n 1, 1) := by decide +kernel
theorem dL_law_461 : decode cL_law 461 = .ok (.aload_n 0, 1) := by decide +kernel
theorem dL_law_462 : decode cL_law 462 = .ok (.iload_n 3, 1) := by decide +kernel
theorem dL_law_463 : decode cL_law 463 = .ok (.iconst 1, 1) := by decide +kernel
theorem dL_law_464 : decode cL_law 464 = .ok (.iadd, 1) := by decide +kernel
theorem dL_law_465 : decode cL_law 465 = .ok (.iaload, 1) := by decide +kernel
theorem dL_law_466 : decode cL_law 466 = .ok (.invokevirtual 56, 3) := by decide +kernel
theorem dL_law_469 : decode cL_law 469 = .ok (.aload_n 2, 1) := by decide +kernel
theorem dL_law_470 : decode cL_law 470 = .ok (.aload_n 0, 1) := by decide +kernel
theorem dL_law_471 : decode cL_law 471 = .ok (.iload_n 3, 1) := by decide +kernel
theorem dL_law_472 : decode cL_law 472 = .ok (.iconst 1, 1) := by decide +kernel
theorem dL_law_473 : decode cL_law 473 = .ok (.iadd, 1) := by decide +kernel
theorem dL_law_474 : decode cL_law 474 = .ok (.iaload, 1) := by decide +kernel
theorem dL_law_475 : decode cL_law 475 = .ok (.invokevirtual 59, 3) := by decide +kernel
theorem dL_law_478 : decode cL_law 478 = .ok (.if_icmp .eq 281, 3) := by decide +kernel
theorem dL_law_481 : decode cL_law 481 = .ok (.iconst 0, 1) := by decide +kernel
theorem dL_law_482 : decode cL_law 482 = .ok (.ireturn, 1) := by decide +kernel
theorem dL_law_483 : decode cL_law 483 = .ok (.aload_n 1, 1) := by decide +kernel
theorem dL_law_484 : decode cL_law 484 = .ok (.aload_n 0, 1) := by decide +kernel
theorem dL_law_485 : decode cL_law 485 = .ok (.iload_n 3, 1) := by decide +kernel
theorem dL_law_486 : decode cL_law 486 = .ok (.iconst 1, 1) := by decide +kernel
theorem dL_law_487 : decode cL_law 487 = .ok (.iadd, 1) := by decide +kernel
theorem dL_law_488 : decode cL_law 488 = .ok (.iaload, 1) := by decide +kernel
theorem dL_law_489 : decode cL_law 489 = .ok (.aload_n 0, 1) := by decide +kernel
theorem dL_law_490 : decode cL_law 490 = .ok (.iload_n 3, 1) := by decide +kernel
theorem dL_law_491 : decode cL_law 491 = .ok (.iconst 2, 1) := by decide +kernel
theorem dL_law_492 : decode cL_law 492 = .ok (.iadd, 1) := by decide +kernel
theorem dL_law_493 : decode cL_law 493 = .ok (.iaload, 1) := by decide +kernel
theorem dL_law_494 : decode cL_law 494 = .ok (.invokevirtual 60, 3) := by decide +kernel
theorem dL_law_497 : decode cL_law 497 = .ok (.aload_n 2, 1) := by decide +kernel
theorem dL_law_498 : decode cL_law 498 = .ok (.aload_n 0, 1) := by decide +kernel
theorem dL_law_499 : decode cL_law 499 = .ok (.iload_n 3, 1) := by decide +kernel
theorem dL_law_500 : decode cL_law 500 = .ok (.iconst 1, 1) := by decide +kernel
theorem dL_law_501 : decode cL_law 501 = .ok (.iadd, 1) := by decide +kernel
theorem dL_law_502 : decode cL_law 502 = .ok (.iaload, 1) := by decide +kernel
theorem dL_law_503 : decode cL_law 503 = .ok (.aload_n 0, 1) := by decide +kernel
theorem dL_law_504 : decode cL_law 504 = .ok (.iload_n 3, 1) := by decide +kernel
theorem dL_law_505 : decode cL_law 505 = .ok (.iconst 2, 1) := by decide +kernel
theorem dL_law_506 : decode cL_law 506 = .ok (.iadd, 1) := by decide +kernel
theorem dL_law_507 : decode cL_law 507 = .ok (.iaload, 1) := by decide +kernel
theorem dL_law_508 : decode cL_law 508 = .ok (.invokevirtual 63, 3) := by decide +kernel
theorem dL_law_511 : decode cL_law 511 = .ok (.if_icmp .eq 248, 3) := by decide +kernel
theorem dL_law_514 : decode cL_law 514 = .ok (.iconst 0, 1) := by decide +kernel
theorem dL_law_515 : decode cL_law 515 = .ok (.ireturn, 1) := by decide +kernel
theorem dL_law_516 : decode cL_law 516 = .ok (.aload_n 1, 1) := by decide +kernel
theorem dL_law_517 : decode cL_law 517 = .ok (.aload_n 0, 1) := by decide +kernel
theorem dL_law_518 : decode cL_law 518 = .ok (.iload_n 3, 1) := by decide +kernel
theorem dL_law_519 : decode cL_law 519 = .ok (.iconst 1, 1) := by decide +kernel
theorem dL_law_520 : decode cL_law 520 = .ok (.iadd, 1) := by decide +kernel
theorem dL_law_521 : decode cL_law 521 = .ok (.iaload, 1) := by decide +kernel
theorem dL_law_522 : decode cL_law 522 = .ok (.invokevirtual 64, 3) := by decide +kernel
theorem dL_law_525 : decode cL_law 525 = .ok (.aload_n 2, 1) := by decide +kernel
theorem dL_law_526 : decode cL_law 526 = .ok (.aload_n 0, 1) := by decide +kernel
theorem dL_law_527 : decode cL_law 527 = .ok (.iload_n 3, 1) := by decide +kernel
theorem dL_law_528 : decode cL_law 528 = .ok (.iconst 1, 1) := by decide +kernel
theorem dL_law_529 : decode cL_law 529 = .ok (.iadd, 1) := by decide +kernel
theorem dL_law_530 : decode cL_law 530 = .ok (.iaload, 1) := by decide +kernel
theorem dL_law_531 : decode cL_law 531 = .ok (.invokevirtual 67, 3) := by decide +kernel
theorem dL_law_534 : decode cL_law 534 = .ok (.if_icmp .eq 225, 3) := by decide +kernel
theorem dL_law_537 : decode cL_law 537 = .ok (.iconst 0, 1) := by decide +kernel
theorem dL_law_538 : decode cL_law 538 = .ok (.ireturn, 1) := by decide +kernel
theorem dL_law_539 : decode cL_law 539 = .ok (.aload_n 1, 1) := by decide +kernel
theorem dL_law_540 : decode cL_law 540 = .ok (.aload_n 0, 1) := by decide +kernel
theorem dL_law_541 : decode cL_law 541 = .ok (.iload_n 3, 1) := by decide +kernel
theorem dL_law_542 : decode cL_law 542 = .ok (.iconst 1, 1) := by decide +kernel
theorem dL_law_543 : decode cL_law 543 = .ok (.iadd, 1) := by decide +kernel
theorem dL_law_544 : decode cL_law 544 = .ok (.iaload, 1) := by decide +kernel
theorem dL_law_545 : decode cL_law 545 = .ok (.aload_n 0, 1) := by decide +kernel
theorem dL_law_546 : decode cL_law 546 = .ok (.iload_n 3, 1) := by decide +kernel
theorem dL_law_547 : decode cL_law 547 = .ok (.iconst 2, 1) := by decide +kernel
theorem dL_law_548 : decode cL_law 548 = .ok (.iadd, 1) := by decide +kernel
theorem dL_law_549 : decode cL_law 549 = .ok (.iaload, 1) := by decide +kernel
theorem dL_law_550 : decode cL_law 550 = .ok (.aload_n 0, 1) := by decide +kernel
theorem dL_law_551 : decode cL_law 551 = .ok (.iload_n 3, 1) := by decide +kernel
theorem dL_law_552 : decode cL_law 552 = .ok (.iconst 3, 1) := by decide +kernel
theorem dL_law_553 : decode cL_law 553 = .ok (.iadd, 1) := by decide +kernel
theorem dL_law_554 : decode cL_law 554 = .ok (.iaload, 1) := by decide +kernel
theorem dL_law_555 : decode cL_law 555 = .ok (.invokevirtual 68, 3) := by decide +kernel
theorem dL_law_558 : decode cL_law 558 = .ok (.aload_n 2, 1) := by decide +kernel
theorem dL_law_559 : decode cL_law 559 = .ok (.aload_n 0, 1) := by decide +kernel
theorem dL_law_560 : decode cL_law 560 = .ok (.iload_n 3, 1) := by decide +kernel
theorem dL_law_561 : decode cL_law 561 = .ok (.iconst 1, 1) := by decide +kernel
theorem dL_law_562 : decode cL_law 562 = .ok (.iadd, 1) := by decide +kernel
theorem dL_law_563 : decode cL_law 563 = .ok (.iaload, 1) := by decide +kernel
theorem dL_law_564 : decode cL_law 564 = .ok (.aload_n 0, 1) := by decide +kernel
theorem dL_law_565 : decode cL_law 565 = .ok (.iload_n 3, 1) := by decide +kernel
theorem dL_law_566 : decode cL_law 566 = .ok (.iconst 2, 1) := by decide +kernel
theorem dL_law_567 : decode cL_law 567 = .ok (.iadd, 1) := by decide +kernel
theorem dL_law_568 : decode cL_law 568 = .ok (.iaload, 1) := by decide +kernel
theorem dL_law_569 : decode cL_law 569 = .ok (.aload_n 0, 1) := by decide +kernel
theorem dL_law_570 : decode cL_law 570 = .ok (.iload_n 3, 1) := by decide +kernel
theorem dL_law_571 : decode cL_law 571 = .ok (.iconst 3, 1) := by decide +kernel
theorem dL_law_572 : decode cL_law 572 = .ok (.iadd, 1) := by decide +kernel
theorem dL_law_573 : decode cL_law 573 = .ok (.iaload, 1) := by decide +kernel
theorem dL_law_574 : decode cL_law 574 = .ok (.invokevirtual 71, 3) := by decide +kernel
theorem dL_law_577 : decode cL_law 577 = .ok (.if_icmp .eq 182, 3) := by decide +kernel
theorem dL_law_580 : decode cL_law 580 = .ok (.iconst 0, 1) := by decide +kernel
theorem dL_law_581 : decode cL_law 581 = .ok (.ireturn, 1) := by decide +kernel
theorem dL_law_582 : decode cL_law 582 = .ok (.aload_n 1, 1) := by decide +kernel
theorem dL_law_583 : decode cL_law 583 = .ok (.invokevirtual 72, 3) := by decide +kernel
theorem dL_law_586 : decode cL_law 586 = .ok (.aload_n 2, 1) := by decide +kernel
theorem dL_law_587 : decode cL_law 587 = .ok (.invokevirtual 76, 3) := by decide +kernel
theorem dL_law_590 : decode cL_law 590 = .ok (.if_icmp .eq 169, 3) := by decide +kernel
theorem dL_law_593 : decode cL_law 593 = .ok (.iconst 0, 1) := by decide +kernel
theorem dL_law_594 : decode cL_law 594 = .ok (.ireturn, 1) := by decide +kernel
theorem dL_law_595 : decode cL_law 595 = .ok (.aload_n 1, 1) := by decide +kernel
theorem dL_law_596 : decode cL_law 596 = .ok (.invokevirtual 77, 3) := by decide +kernel
theorem dL_law_599 : decode cL_law 599 = .ok (.aload_n 2, 1) := by decide +kernel
theorem dL_law_600 : decode cL_law 600 = .ok (.invokevirtual 80, 3) := by decide +kernel
theorem dL_law_603 : decode cL_law 603 = .ok (.if_icmp .eq 156, 3) := by decide +kernel
theorem dL_law_606 : decode cL_law 606 = .ok (.iconst 0, 1) := by decide +kernel
theorem dL_law_607 : decode cL_law 607 = .ok (.ireturn, 1) := by decide +kernel
theorem dL_law_608 : decode cL_law 608 = .ok (.aload_n 1, 1) := by decide +kernel
theorem dL_law_609 : decode cL_law 609 = .ok (.aload_n 0, 1) := by decide +kernel
theorem dL_law_610 : decode cL_law 610 = .ok (.iload_n 3, 1) := by decide +kernel
theorem dL_law_611 : decode cL_law 611 = .ok (.iconst 1, 1) := by decide +kernel
theorem dL_law_612 : decode cL_law 612 = .ok (.iadd, 1) := by decide +kernel
theorem dL_law_613 : decode cL_law 613 = .ok (.iaload, 1) := by decide +kernel
theorem dL_law_614 : decode cL_law 614 = .ok (.i2l, 1) := by decide +kernel
theorem dL_law_615 : decode cL_law 615 = .ok (.bipush 32, 2) := by decide +kernel
theorem dL_law_617 : decode cL_law 617 = .ok (.lshl, 1) := by decide +kernel
theorem dL_law_618 : decode cL_law 618 = .ok (.aload_n 0, 1) := by decide +kernel
theorem dL_law_619 : decode cL_law 619 = .ok (.iload_n 3, 1) := by decide +kernel
theorem dL_law_620 : decode cL_law 620 = .ok (.iconst 2, 1) := by decide +kernel
theorem dL_law_621 : decode cL_law 621 = .ok (.iadd, 1) := by decide +kernel
theorem dL_law_622 : decode cL_law 622 = .ok (.iaload, 1) := by decide +kernel
theorem dL_law_623 : decode cL_law 623 = .ok (.i2l, 1) := by decide +kernel
theorem dL_law_624 : decode cL_law 624 = .ok (.ldc2_w 81, 3) := by decide +kernel
theorem dL_law_627 : decode cL_law 627 = .ok (.land, 1) := by decide +kernel
theorem dL_law_628 : decode cL_law 628 = .ok (.lor, 1) := by decide +kernel
theorem dL_law_629 : decode cL_law 629 = .ok (.invokevirtual 83, 3) := by decide +kernel
theorem dL_law_632 : decode cL_law 632 = .ok (.aload_n 2, 1) := by decide +kernel
theorem dL_law_633 : decode cL_law 633 = .ok (.aload_n 0, 1) := by decide +kernel
theorem dL_law_634 : decode cL_law 634 = .ok (.iload_n 3, 1) := by decide +kernel
theorem dL_law_635 : decode cL_law 635 = .ok (.iconst 1, 1) := by decide +kernel
theorem dL_law_636 : decode cL_law 636 = .ok (.iadd, 1) := by decide +kernel
theorem dL_law_637 : decode cL_law 637 = .ok (.iaload, 1) := by decide +kernel
theorem dL_law_638 : decode cL_law 638 = .ok (.i2l, 1) := by decide +kernel
theorem dL_law_639 : decode cL_law 639 = .ok (.bipush 32, 2) := by decide +kernel
theorem dL_law_641 : decode cL_law 641 = .ok (.lshl, 1) := by decide +kernel
theorem dL_law_642 : decode cL_law 642 = .ok (.aload_n 0, 1) := by decide +kernel
theorem dL_law_643 : decode cL_law 643 = .ok (.iload_n 3, 1) := by decide +kernel
theorem dL_law_644 : decode cL_law 644 = .ok (.iconst 2, 1) := by decide +kernel
theorem dL_law_645 : decode cL_law 645 = .ok (.iadd, 1) := by decide +kernel
theorem dL_law_646 : decode cL_law 646 = .ok (.iaload, 1) := by decide +kernel
theorem dL_law_647 : decode cL_law 647 = .ok (.i2l, 1) := by decide +kernel
theorem dL_law_648 : decode cL_law 648 = .ok (.ldc2_w 81, 3) := by decide +kernel
theorem dL_law_651 : decode cL_law 651 = .ok (.land, 1) := by decide +kernel
theorem dL_law_652 : decode cL_law 652 = .ok (.lor, 1) := by decide +kernel
theorem dL_law_653 : decode cL_law 653 = .ok (.invokevirtual 87, 3) := by decide +kernel
theorem dL_law_656 : decode cL_law 656 = .ok (.if_icmp .eq 103, 3) := by decide +kernel
theorem dL_law_659 : decode cL_law 659 = .ok (.iconst 0, 1) := by decide +kernel
theorem dL_law_660 : decode cL_law 660 = .ok (.ireturn, 1) := by decide +kernel
theorem dL_law_661 : decode cL_law 661 = .ok (.aload_n 1, 1) := by decide +kernel
theorem dL_law_662 : decode cL_law 662 = .ok (.invokevirtual 88, 3) := by decide +kernel
theorem dL_law_665 : decode cL_law 665 = .ok (.aload_n 2, 1) := by decide +kernel
theorem dL_law_666 : decode cL_law 666 = .ok (.invokevirtual 91, 3) := by decide +kernel
theorem dL_law_669 : decode cL_law 669 = .ok (.if_icmp .eq 90, 3) := by decide +kernel
theorem dL_law_672 : decode cL_law 672 = .ok (.iconst 0, 1) := by decide +kernel
theorem dL_law_673 : decode cL_law 673 = .ok (.ireturn, 1) := by decide +kernel
theorem dL_law_674 : decode cL_law 674 = .ok (.aload_n 1, 1) := by decide +kernel
theorem dL_law_675 : decode cL_law 675 = .ok (.invokevirtual 92, 3) := by decide +kernel
theorem dL_law_678 : decode cL_law 678 = .ok (.aload_n 2, 1) := by decide +kernel
theorem dL_law_679 : decode cL_law 679 = .ok (.invokevirtual 95, 3) := by decide +kernel
theorem dL_law_682 : decode cL_law 682 = .ok (.if_icmp .eq 77, 3) := by decide +kernel
theorem dL_law_685 : decode cL_law 685 = .ok (.iconst 0, 1) := by decide +kernel
theorem dL_law_686 : decode cL_law 686 = .ok (.ireturn, 1) := by decide +kernel
theorem dL_law_687 : decode cL_law 687 = .ok (.aload_n 1, 1) := by decide +kernel
theorem dL_law_688 : decode cL_law 688 = .ok (.invokevirtual 96, 3) := by decide +kernel
theorem dL_law_691 : decode cL_law 691 = .ok (.aload_n 2, 1) := by decide +kernel
theorem dL_law_692 : decode cL_law 692 = .ok (.invokevirtual 99, 3) := by decide +kernel
theorem dL_law_695 : decode cL_law 695 = .ok (.if_icmp .eq 64, 3) := by decide +kernel
theorem dL_law_698 : decode cL_law 698 = .ok (.iconst 0, 1) := by decide +kernel
theorem dL_law_699 : decode cL_law 699 = .ok (.ireturn, 1) := by decide +kernel
theorem dL_law_700 : decode cL_law 700 = .ok (.aload_n 1, 1) := by decide +kernel
theorem dL_law_701 : decode cL_law 701 = .ok (.invokevirtual 100, 3) := by decide +kernel
theorem dL_law_704 : decode cL_law 704 = .ok (.aload_n 2, 1) := by decide +kernel
theorem dL_law_705 : decode cL_law 705 = .ok (.invokevirtual 103, 3) := by decide +kernel
theorem dL_law_708 : decode cL_law 708 = .ok (.if_icmp .eq 51, 3) := by decide +kernel
theorem dL_law_711 : decode cL_law 711 = .ok (.iconst 0, 1) := by decide +kernel
theorem dL_law_712 : decode cL_law 712 = .ok (.ireturn, 1) := by decide +kernel
theorem dL_law_713 : decode cL_law 713 = .ok (.aload_n 1, 1) := by decide +kernel
theorem dL_law_714 : decode cL_law 714 = .ok (.aload_n 0, 1) := by decide +kernel
theorem dL_law_715 : decode cL_law 715 = .ok (.iload_n 3, 1) := by decide +kernel
theorem dL_law_716 : decode cL_law 716 = .ok (.iconst 1, 1) := by decide +kernel
theorem dL_law_717 : decode cL_law 717 = .ok (.iadd, 1) := by decide +kernel
theorem dL_law_718 : decode cL_law 718 = .ok (.iaload, 1) := by decide +kernel
theorem dL_law_719 : decode cL_law 719 = .ok (.invokevirtual 104, 3) := by decide +kernel
theorem dL_law_722 : decode cL_law 722 = .ok (.aload_n 2, 1) := by decide +kernel
theorem dL_law_723 : decode cL_law 723 = .ok (.aload_n 0, 1) := by decide +kernel
theorem dL_law_724 : decode cL_law 724 = .ok (.iload_n 3, 1) := by decide +kernel
theorem dL_law_725 : decode cL_law 725 = .ok (.iconst 1, 1) := by decide +kernel
theorem dL_law_726 : decode cL_law 726 = .ok (.iadd, 1) := by decide +kernel
theorem dL_law_727 : decode cL_law 727 = .ok (.iaload, 1) := by decide +kernel
theorem dL_law_728 : decode cL_law 728 = .ok (.invokevirtual 107, 3) := by decide +kernel
theorem dL_law_731 : decode cL_law 731 = .ok (.if_icmp .eq 28, 3) := by decide +kernel
theorem dL_law_734 : decode cL_law 734 = .ok (.iconst 0, 1) := by decide +kernel
theorem dL_law_735 : decode cL_law 735 = .ok (.ireturn, 1) := by decide +kernel
theorem dL_law_736 : decode cL_law 736 = .ok (.aload_n 1, 1) := by decide +kernel
theorem dL_law_737 : decode cL_law 737 = .ok (.aload_n 0, 1) := by decide +kernel
theorem dL_law_738 : decode cL_law 738 = .ok (.iload_n 3, 1) := by decide +kernel
theorem dL_law_739 : decode cL_law 739 = .ok (.iconst 1, 1) := by decide +kernel
theorem dL_law_740 : decode cL_law 740 = .ok (.iadd, 1) := by decide +kernel
theorem dL_law_741 : decode cL_law 741 = .ok (.iaload, 1) := by decide +kernel
theorem dL_law_742 : decode cL_law 742 = .ok (.invokevirtual 108, 3) := by decide +kernel
theorem dL_law_745 : decode cL_law 745 = .ok (.aload_n 2, 1) := by decide +kernel
theorem dL_law_746 : decode cL_law 746 = .ok (.aload_n 0, 1) := by decide +kernel
theorem dL_law_747 : decode cL_law 747 = .ok (.iload_n 3, 1) := by decide +kernel
theorem dL_law_748 : decode cL_law 748 = .ok (.iconst 1, 1) := by decide +kernel
theorem dL_law_749 : decode cL_law 749 = .ok (.iadd, 1) := by decide +kernel
theorem dL_law_750 : decode cL_law 750 = .ok (.iaload, 1) := by decide +kernel
theorem dL_law_751 : decode cL_law 751 = .ok (.invokevirtual 111, 3) := by decide +kernel
theorem dL_law_754 : decode cL_law 754 = .ok (.if_icmp .eq 5, 3) := by decide +kernel
theorem dL_law_757 : decode cL_law 757 = .ok (.iconst 0, 1) := by decide +kernel
theorem dL_law_758 : decode cL_law 758 = .ok (.ireturn, 1) := by decide +kernel
theorem dL_law_759 : decode cL_law 759 = .ok (.iinc 3 4, 3) := by decide +kernel
theorem dL_law_762 : decode cL_law 762 = .ok (.goto (-744), 3) := by decide +kernel
theorem dL_law_765 : decode cL_law 765 = .ok (.iconst 1, 1) := by decide +kernel
theorem dL_law_766 : decode cL_law 766 = .ok (.ireturn, 1) := by decide +kernel
