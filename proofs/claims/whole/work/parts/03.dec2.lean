theorem dX10_changed_34 : decode cX10_changed 34 = .ok (.iinc 2 1, 3) := by decide +kernel
theorem dX10_changed_37 : decode cX10_changed 37 = .ok (.goto (-26), 3) := by decide +kernel
theorem dX10_changed_40 : decode cX10_changed 40 = .ok (.aload_n 0, 1) := by decide +kernel
theorem dX10_changed_41 : decode cX10_changed 41 = .ok (.dup, 1) := by decide +kernel
theorem dX10_changed_42 : decode cX10_changed 42 = .ok (.getfield 43, 3) := by decide +kernel
theorem dX10_changed_45 : decode cX10_changed 45 = .ok (.iconst 1, 1) := by decide +kernel
theorem dX10_changed_46 : decode cX10_changed 46 = .ok (.isub, 1) := by decide +kernel
theorem dX10_changed_47 : decode cX10_changed 47 = .ok (.putfield 43, 3) := by decide +kernel
theorem dX10_changed_50 : decode cX10_changed 50 = .ok (.iconst 0, 1) := by decide +kernel
theorem dX10_changed_51 : decode cX10_changed 51 = .ok (.istore_n 2, 1) := by decide +kernel
theorem dX10_changed_52 : decode cX10_changed 52 = .ok (.iload_n 2, 1) := by decide +kernel
theorem dX10_changed_53 : decode cX10_changed 53 = .ok (.sipush 132, 3) := by decide +kernel
theorem dX10_changed_56 : decode cX10_changed 56 = .ok (.if_icmp .ge 30, 3) := by decide +kernel
theorem dX10_changed_59 : decode cX10_changed 59 = .ok (.aload_n 0, 1) := by decide +kernel
theorem dX10_changed_60 : decode cX10_changed 60 = .ok (.getfield 19, 3) := by decide +kernel
theorem dX10_changed_63 : decode cX10_changed 63 = .ok (.sipush 132, 3) := by decide +kernel
theorem dX10_changed_66 : decode cX10_changed 66 = .ok (.aload_n 0, 1) := by decide +kernel
theorem dX10_changed_67 : decode cX10_changed 67 = .ok (.getfield 43, 3) := by decide +kernel
theorem dX10_changed_70 : decode cX10_changed 70 = .ok (.imul, 1) := by decide +kernel
theorem dX10_changed_71 : decode cX10_changed 71 = .ok (.iload_n 2, 1) := by decide +kernel
theorem dX10_changed_72 : decode cX10_changed 72 = .ok (.iadd, 1) := by decide +kernel
theorem dX10_changed_73 : decode cX10_changed 73 = .ok (.aload_n 0, 1) := by decide +kernel
theorem dX10_changed_74 : decode cX10_changed 74 = .ok (.getfield 13, 3) := by decide +kernel
theorem dX10_changed_77 : decode cX10_changed 77 = .ok (.iload_n 2, 1) := by decide +kernel
theorem dX10_changed_78 : decode cX10_changed 78 = .ok (.iaload, 1) := by decide +kernel
theorem dX10_changed_79 : decode cX10_changed 79 = .ok (.iastore, 1) := by decide +kernel
theorem dX10_changed_80 : decode cX10_changed 80 = .ok (.iinc 2 1, 3) := by decide +kernel
theorem dX10_changed_83 : decode cX10_changed 83 = .ok (.goto (-31), 3) := by decide +kernel
theorem dX10_changed_86 : decode cX10_changed 86 = .ok (.aload_n 0, 1) := by decide +kernel
theorem dX10_changed_87 : decode cX10_changed 87 = .ok (.dup, 1) := by decide +kernel
theorem dX10_changed_88 : decode cX10_changed 88 = .ok (.getfield 43, 3) := by decide +kernel
theorem dX10_changed_91 : decode cX10_changed 91 = .ok (.iconst 1, 1) := by decide +kernel
theorem dX10_changed_92 : decode cX10_changed 92 = .ok (.iadd, 1) := by decide +kernel
theorem dX10_changed_93 : decode cX10_changed 93 = .ok (.putfield 43, 3) := by decide +kernel
theorem dX10_changed_96 : decode cX10_changed 96 = .ok (.iload_n 1, 1) := by decide +kernel
theorem dX10_changed_97 : decode cX10_changed 97 = .ok (.ireturn, 1) := by decide +kernel
theorem dX10_size_0 : decode cX10_size 0 = .ok (.iload_n 0, 1) := by decide +kernel
theorem dX10_size_1 : decode cX10_size 1 = .ok (.ifCond .ge 8, 3) := by decide +kernel
theorem dX10_size_4 : decode cX10_size 4 = .ok (.iload_n 0, 1) := by decide +kernel
theorem dX10_size_5 : decode cX10_size 5 = .ok (.ineg, 1) := by decide +kernel
theorem dX10_size_6 : decode cX10_size 6 = .ok (.goto 4, 3) := by decide +kernel
theorem dX10_size_9 : decode cX10_size 9 = .ok (.iload_n 0, 1) := by decide +kernel
theorem dX10_size_10 : decode cX10_size 10 = .ok (.ireturn, 1) := by decide +kernel
theorem dX10_high_0 : decode cX10_high 0 = .ok (.bipush 6, 2) := by decide +kernel
theorem dX10_high_2 : decode cX10_high 2 = .ok (.iload_n 0, 1) := by decide +kernel
theorem dX10_high_3 : decode cX10_high 3 = .ok (.iconst 5, 1) := by decide +kernel
theorem dX10_high_4 : decode cX10_high 4 = .ok (.isub, 1) := by decide +kernel
theorem dX10_high_5 : decode cX10_high 5 = .ok (.invokestatic 47, 3) := by decide +kernel
theorem dX10_high_8 : decode cX10_high 8 = .ok (.isub, 1) := by decide +kernel
theorem dX10_high_9 : decode cX10_high 9 = .ok (.ireturn, 1) := by decide +kernel
theorem dX10_its_0 : decode cX10_its 0 = .ok (.aload_n 0, 1) := by decide +kernel
theorem dX10_its_1 : decode cX10_its 1 = .ok (.getfield 7, 3) := by decide +kernel
theorem dX10_its_4 : decode cX10_its 4 = .ok (.bipush 7, 2) := by decide +kernel
theorem dX10_its_6 : decode cX10_its 6 = .ok (.iconst 5, 1) := by decide +kernel
theorem dX10_its_7 : decode cX10_its 7 = .ok (.iload_n 1, 1) := by decide +kernel
theorem dX10_its_8 : decode cX10_its 8 = .ok (.imul, 1) := by decide +kernel
theorem dX10_its_9 : decode cX10_its 9 = .ok (.iadd, 1) := by decide +kernel
theorem dX10_its_10 : decode cX10_its 10 = .ok (.iload_n 2, 1) := by decide +kernel
theorem dX10_its_11 : decode cX10_its 11 = .ok (.iadd, 1) := by decide +kernel
theorem dX10_its_12 : decode cX10_its 12 = .ok (.iaload, 1) := by decide +kernel
theorem dX10_its_13 : decode cX10_its 13 = .ok (.ireturn, 1) := by decide +kernel
theorem dX10_sets_0 : decode cX10_sets 0 = .ok (.aload_n 0, 1) := by decide +kernel
theorem dX10_sets_1 : decode cX10_sets 1 = .ok (.getfield 7, 3) := by decide +kernel
theorem dX10_sets_4 : decode cX10_sets 4 = .ok (.bipush 7, 2) := by decide +kernel
theorem dX10_sets_6 : decode cX10_sets 6 = .ok (.iconst 5, 1) := by decide +kernel
theorem dX10_sets_7 : decode cX10_sets 7 = .ok (.iload_n 1, 1) := by decide +kernel
theorem dX10_sets_8 : decode cX10_sets 8 = .ok (.imul, 1) := by decide +kernel
theorem dX10_sets_9 : decode cX10_sets 9 = .ok (.iadd, 1) := by decide +kernel
theorem dX10_sets_10 : decode cX10_sets 10 = .ok (.iload_n 2, 1) := by decide +kernel
theorem dX10_sets_11 : decode cX10_sets 11 = .ok (.iadd, 1) := by decide +kernel
theorem dX10_sets_12 : decode cX10_sets 12 = .ok (.iload_n 3, 1) := by decide +kernel
theorem dX10_sets_13 : decode cX10_sets 13 = .ok (.iastore, 1) := by decide +kernel
theorem dX10_sets_14 : decode cX10_sets 14 = .ok (.return_, 1) := by decide +kernel
theorem dX10_isMirror_0 : decode cX10_isMirror 0 = .ok (.iload_n 1, 1) := by decide +kernel
theorem dX10_isMirror_1 : decode cX10_isMirror 1 = .ok (.i2l, 1) := by decide +kernel
theorem dX10_isMirror_2 : decode cX10_isMirror 2 = .ok (.lconst 0, 1) := by decide +kernel
theorem dX10_isMirror_3 : decode cX10_isMirror 3 = .ok (.aload_n 0, 1) := by decide +kernel
theorem dX10_isMirror_4 : decode cX10_isMirror 4 = .ok (.getfield 7, 3) := by decide +kernel
theorem dX10_isMirror_7 : decode cX10_isMirror 7 = .ok (.bipush 6, 2) := by decide +kernel
theorem dX10_isMirror_9 : decode cX10_isMirror 9 = .ok (.iaload, 1) := by decide +kernel
theorem dX10_isMirror_10 : decode cX10_isMirror 10 = .ok (.i2l, 1) := by decide +kernel
theorem dX10_isMirror_11 : decode cX10_isMirror 11 = .ok (.lconst 1, 1) := by decide +kernel
theorem dX10_isMirror_12 : decode cX10_isMirror 12 = .ok (.lsub, 1) := by decide +kernel
theorem dX10_isMirror_13 : decode cX10_isMirror 13 = .ok (.invokestatic 51, 3) := by decide +kernel
theorem dX10_isMirror_16 : decode cX10_isMirror 16 = .ok (.ireturn, 1) := by decide +kernel
theorem dX10_isPlace_0 : decode cX10_isPlace 0 = .ok (.iload_n 0, 1) := by decide +kernel
theorem dX10_isPlace_1 : decode cX10_isPlace 1 = .ok (.i2l, 1) := by decide +kernel
theorem dX10_isPlace_2 : decode cX10_isPlace 2 = .ok (.lconst 0, 1) := by decide +kernel
theorem dX10_isPlace_3 : decode cX10_isPlace 3 = .ok (.ldc2_w 55, 3) := by decide +kernel
theorem dX10_isPlace_6 : decode cX10_isPlace 6 = .ok (.invokestatic 51, 3) := by decide +kernel
theorem dX10_isPlace_9 : decode cX10_isPlace 9 = .ok (.ifCond .eq 19, 3) := by decide +kernel
theorem dX10_isPlace_12 : decode cX10_isPlace 12 = .ok (.iload_n 1, 1) := by decide +kernel
theorem dX10_isPlace_13 : decode cX10_isPlace 13 = .ok (.i2l, 1) := by decide +kernel
theorem dX10_isPlace_14 : decode cX10_isPlace 14 = .ok (.lconst 0, 1) := by decide +kernel
theorem dX10_isPlace_15 : decode cX10_isPlace 15 = .ok (.ldc2_w 55, 3) := by decide +kernel
theorem dX10_isPlace_18 : decode cX10_isPlace 18 = .ok (.invokestatic 51, 3) := by decide +kernel
theorem dX10_isPlace_21 : decode cX10_isPlace 21 = .ok (.ifCond .eq 7, 3) := by decide +kernel
theorem dX10_isPlace_24 : decode cX10_isPlace 24 = .ok (.iconst 1, 1) := by decide +kernel
theorem dX10_isPlace_25 : decode cX10_isPlace 25 = .ok (.goto 4, 3) := by decide +kernel
theorem dX10_isPlace_28 : decode cX10_isPlace 28 = .ok (.iconst 0, 1) := by decide +kernel
theorem dX10_isPlace_29 : decode cX10_isPlace 29 = .ok (.ireturn, 1) := by decide +kernel
theorem dX10_mirrorAt_0 : decode cX10_mirrorAt 0 = .ok (.iconst 0, 1) := by decide +kernel
theorem dX10_mirrorAt_1 : decode cX10_mirrorAt 1 = .ok (.istore_n 3, 1) := by decide +kernel
theorem dX10_mirrorAt_2 : decode cX10_mirrorAt 2 = .ok (.iload_n 3, 1) := by decide +kernel
theorem dX10_mirrorAt_3 : decode cX10_mirrorAt 3 = .ok (.aload_n 0, 1) := by decide +kernel
theorem dX10_mirrorAt_4 : decode cX10_mirrorAt 4 = .ok (.getfield 7, 3) := by decide +kernel
theorem dX10_mirrorAt_7 : decode cX10_mirrorAt 7 = .ok (.bipush 6, 2) := by decide +kernel
theorem dX10_mirrorAt_9 : decode cX10_mirrorAt 9 = .ok (.iaload, 1) := by decide +kernel
theorem dX10_mirrorAt_10 : decode cX10_mirrorAt 10 = .ok (.if_icmp .ge 31, 3) := by decide +kernel
theorem dX10_mirrorAt_13 : decode cX10_mirrorAt 13 = .ok (.aload_n 0, 1) := by decide +kernel
theorem dX10_mirrorAt_14 : decode cX10_mirrorAt 14 = .ok (.iload_n 3, 1) := by decide +kernel
theorem dX10_mirrorAt_15 : decode cX10_mirrorAt 15 = .ok (.iconst 0, 1) := by decide +kernel
theorem dX10_mirrorAt_16 : decode cX10_mirrorAt 16 = .ok (.invokevirtual 57, 3) := by decide +kernel
theorem dX10_mirrorAt_19 : decode cX10_mirrorAt 19 = .ok (.iload_n 1, 1) := by decide +kernel
theorem dX10_mirrorAt_20 : decode cX10_mirrorAt 20 = .ok (.if_icmp .ne 15, 3) := by decide +kernel
theorem dX10_mirrorAt_23 : decode cX10_mirrorAt 23 = .ok (.aload_n 0, 1) := by decide +kernel
theorem dX10_mirrorAt_24 : decode cX10_mirrorAt 24 = .ok (.iload_n 3, 1) := by decide +kernel
theorem dX10_mirrorAt_25 : decode cX10_mirrorAt 25 = .ok (.iconst 1, 1) := by decide +kernel
theorem dX10_mirrorAt_26 : decode cX10_mirrorAt 26 = .ok (.invokevirtual 57, 3) := by decide +kernel
theorem dX10_mirrorAt_29 : decode cX10_mirrorAt 29 = .ok (.iload_n 2, 1) := by decide +kernel
theorem dX10_mirrorAt_30 : decode cX10_mirrorAt 30 = .ok (.if_icmp .ne 5, 3) := by decide +kernel
theorem dX10_mirrorAt_33 : decode cX10_mirrorAt 33 = .ok (.iload_n 3, 1) := by decide +kernel
theorem dX10_mirrorAt_34 : decode cX10_mirrorAt 34 = .ok (.ireturn, 1) := by decide +kernel
theorem dX10_mirrorAt_35 : decode cX10_mirrorAt 35 = .ok (.iinc 3 1, 3) := by decide +kernel
theorem dX10_mirrorAt_38 : decode cX10_mirrorAt 38 = .ok (.goto (-36), 3) := by decide +kernel
theorem dX10_mirrorAt_41 : decode cX10_mirrorAt 41 = .ok (.bipush (-6), 2) := by decide +kernel
theorem dX10_mirrorAt_43 : decode cX10_mirrorAt 43 = .ok (.ireturn, 1) := by decide +kernel
theorem dX10_shadeOf_0 : decode cX10_shadeOf 0 = .ok (.iconst 1, 1) := by decide +kernel
theorem dX10_shadeOf_1 : decode cX10_shadeOf 1 = .ok (.istore_n 3, 1) := by decide +kernel
theorem dX10_shadeOf_2 : decode cX10_shadeOf 2 = .ok (.iload_n 3, 1) := by decide +kernel
theorem dX10_shadeOf_3 : decode cX10_shadeOf 3 = .ok (.bipush 6, 2) := by decide +kernel
theorem dX10_shadeOf_5 : decode cX10_shadeOf 5 = .ok (.iload_n 2, 1) := by decide +kernel
theorem dX10_shadeOf_6 : decode cX10_shadeOf 6 = .ok (.invokestatic 61, 3) := by decide +kernel
theorem dX10_shadeOf_9 : decode cX10_shadeOf 9 = .ok (.idiv, 1) := by decide +kernel
theorem dX10_shadeOf_10 : decode cX10_shadeOf 10 = .ok (.if_icmp .gt 45, 3) := by decide +kernel
theorem dX10_shadeOf_13 : decode cX10_shadeOf 13 = .ok (.aload_n 0, 1) := by decide +kernel
theorem dX10_shadeOf_14 : decode cX10_shadeOf 14 = .ok (.aload_n 0, 1) := by decide +kernel
theorem dX10_shadeOf_15 : decode cX10_shadeOf 15 = .ok (.iload_n 1, 1) := by decide +kernel
theorem dX10_shadeOf_16 : decode cX10_shadeOf 16 = .ok (.iconst 0, 1) := by decide +kernel
theorem dX10_shadeOf_17 : decode cX10_shadeOf 17 = .ok (.invokevirtual 57, 3) := by decide +kernel
theorem dX10_shadeOf_20 : decode cX10_shadeOf 20 = .ok (.iload_n 3, 1) := by decide +kernel
theorem dX10_shadeOf_21 : decode cX10_shadeOf 21 = .ok (.isub, 1) := by decide +kernel
theorem dX10_shadeOf_22 : decode cX10_shadeOf 22 = .ok (.aload_n 0, 1) := by decide +kernel
theorem dX10_shadeOf_23 : decode cX10_shadeOf 23 = .ok (.iload_n 1, 1) := by decide +kernel
theorem dX10_shadeOf_24 : decode cX10_shadeOf 24 = .ok (.iconst 1, 1) := by decide +kernel
theorem dX10_shadeOf_25 : decode cX10_shadeOf 25 = .ok (.invokevirtual 57, 3) := by decide +kernel
theorem dX10_shadeOf_28 : decode cX10_shadeOf 28 = .ok (.iload_n 3, 1) := by decide +kernel
theorem dX10_shadeOf_29 : decode cX10_shadeOf 29 = .ok (.iconst 5, 1) := by decide +kernel
theorem dX10_shadeOf_30 : decode cX10_shadeOf 30 = .ok (.iload_n 2, 1) := by decide +kernel
theorem dX10_shadeOf_31 : decode cX10_shadeOf 31 = .ok (.isub, 1) := by decide +kernel
theorem dX10_shadeOf_32 : decode cX10_shadeOf 32 = .ok (.imul, 1) := by decide +kernel
theorem dX10_shadeOf_33 : decode cX10_shadeOf 33 = .ok (.iadd, 1) := by decide +kernel
theorem dX10_shadeOf_34 : decode cX10_shadeOf 34 = .ok (.invokevirtual 64, 3) := by decide +kernel
theorem dX10_shadeOf_37 : decode cX10_shadeOf 37 = .ok (.istore 4, 2) := by decide +kernel
theorem dX10_shadeOf_39 : decode cX10_shadeOf 39 = .ok (.iload 4, 2) := by decide +kernel
theorem dX10_shadeOf_41 : decode cX10_shadeOf 41 = .ok (.bipush (-6), 2) := by decide +kernel
theorem dX10_shadeOf_43 : decode cX10_shadeOf 43 = .ok (.if_icmp .eq 6, 3) := by decide +kernel
theorem dX10_shadeOf_46 : decode cX10_shadeOf 46 = .ok (.iload 4, 2) := by decide +kernel
theorem dX10_shadeOf_48 : decode cX10_shadeOf 48 = .ok (.ireturn, 1) := by decide +kernel
theorem dX10_shadeOf_49 : decode cX10_shadeOf 49 = .ok (.iinc 3 1, 3) := by decide +kernel
theorem dX10_shadeOf_52 : decode cX10_shadeOf 52 = .ok (.goto (-50), 3) := by decide +kernel
theorem dX10_shadeOf_55 : decode cX10_shadeOf 55 = .ok (.bipush (-6), 2) := by decide +kernel
theorem dX10_shadeOf_57 : decode cX10_shadeOf 57 = .ok (.ireturn, 1) := by decide +kernel
theorem dX10_isBlocked_0 : decode cX10_isBlocked 0 = .ok (.aload_n 0, 1) := by decide +kernel
theorem dX10_isBlocked_1 : decode cX10_isBlocked 1 = .ok (.iload_n 1, 1) := by decide +kernel
theorem dX10_isBlocked_2 : decode cX10_isBlocked 2 = .ok (.iconst 0, 1) := by decide +kernel
theorem dX10_isBlocked_3 : decode cX10_isBlocked 3 = .ok (.invokevirtual 57, 3) := by decide +kernel
theorem dX10_isBlocked_6 : decode cX10_isBlocked 6 = .ok (.bipush (-2), 2) := by decide +kernel
theorem dX10_isBlocked_8 : decode cX10_isBlocked 8 = .ok (.isub, 1) := by decide +kernel
theorem dX10_isBlocked_9 : decode cX10_isBlocked 9 = .ok (.istore_n 2, 1) := by decide +kernel
theorem dX10_isBlocked_10 : decode cX10_isBlocked 10 = .ok (.aload_n 0, 1) := by decide +kernel
theorem dX10_isBlocked_11 : decode cX10_isBlocked 11 = .ok (.iload_n 1, 1) := by decide +kernel
theorem dX10_isBlocked_12 : decode cX10_isBlocked 12 = .ok (.iconst 1, 1) := by decide +kernel
theorem dX10_isBlocked_13 : decode cX10_isBlocked 13 = .ok (.invokevirtual 57, 3) := by decide +kernel
theorem dX10_isBlocked_16 : decode cX10_isBlocked 16 = .ok (.bipush 10, 2) := by decide +kernel
theorem dX10_isBlocked_18 : decode cX10_isBlocked 18 = .ok (.isub, 1) := by decide +kernel
theorem dX10_isBlocked_19 : decode cX10_isBlocked 19 = .ok (.istore_n 3, 1) := by decide +kernel
theorem dX10_isBlocked_20 : decode cX10_isBlocked 20 = .ok (.iconst 0, 1) := by decide +kernel
theorem dX10_isBlocked_21 : decode cX10_isBlocked 21 = .ok (.istore 4, 2) := by decide +kernel
theorem dX10_isBlocked_23 : decode cX10_isBlocked 23 = .ok (.iconst 0, 1) := by decide +kernel
theorem dX10_isBlocked_24 : decode cX10_isBlocked 24 = .ok (.istore 5, 2) := by decide +kernel
theorem dX10_isBlocked_26 : decode cX10_isBlocked 26 = .ok (.iload 5, 2) := by decide +kernel
theorem dX10_isBlocked_28 : decode cX10_isBlocked 28 = .ok (.aload_n 0, 1) := by decide +kernel
theorem dX10_isBlocked_29 : decode cX10_isBlocked 29 = .ok (.getfield 7, 3) := by decide +kernel
theorem dX10_isBlocked_32 : decode cX10_isBlocked 32 = .ok (.bipush 6, 2) := by decide +kernel
theorem dX10_isBlocked_34 : decode cX10_isBlocked 34 = .ok (.iaload, 1) := by decide +kernel
theorem dX10_isBlocked_35 : decode cX10_isBlocked 35 = .ok (.if_icmp .ge 77, 3) := by decide +kernel
theorem dX10_isBlocked_38 : decode cX10_isBlocked 38 = .ok (.aload_n 0, 1) := by decide +kernel
theorem dX10_isBlocked_39 : decode cX10_isBlocked 39 = .ok (.iload_n 1, 1) := by decide +kernel
theorem dX10_isBlocked_40 : decode cX10_isBlocked 40 = .ok (.iconst 0, 1) := by decide +kernel
theorem dX10_isBlocked_41 : decode cX10_isBlocked 41 = .ok (.invokevirtual 57, 3) := by decide +kernel
theorem dX10_isBlocked_44 : decode cX10_isBlocked 44 = .ok (.aload_n 0, 1) := by decide +kernel
theorem dX10_isBlocked_45 : decode cX10_isBlocked 45 = .ok (.iload 5, 2) := by decide +kernel
theorem dX10_isBlocked_47 : decode cX10_isBlocked 47 = .ok (.iconst 0, 1) := by decide +kernel
theorem dX10_isBlocked_48 : decode cX10_isBlocked 48 = .ok (.invokevirtual 57, 3) := by decide +kernel
theorem dX10_isBlocked_51 : decode cX10_isBlocked 51 = .ok (.isub, 1) := by decide +kernel
theorem dX10_isBlocked_52 : decode cX10_isBlocked 52 = .ok (.istore 6, 2) := by decide +kernel
theorem dX10_isBlocked_54 : decode cX10_isBlocked 54 = .ok (.iload 4, 2) := by decide +kernel
theorem dX10_isBlocked_56 : decode cX10_isBlocked 56 = .ok (.ifCond .ne 43, 3) := by decide +kernel
theorem dX10_isBlocked_59 : decode cX10_isBlocked 59 = .ok (.iload 6, 2) := by decide +kernel
theorem dX10_isBlocked_61 : decode cX10_isBlocked 61 = .ok (.i2l, 1) := by decide +kernel
theorem dX10_isBlocked_62 : decode cX10_isBlocked 62 = .ok (.lconst 1, 1) := by decide +kernel
theorem dX10_isBlocked_63 : decode cX10_isBlocked 63 = .ok (.ldc2_w 67, 3) := by decide +kernel
theorem dX10_isBlocked_66 : decode cX10_isBlocked 66 = .ok (.invokestatic 51, 3) := by decide +kernel
theorem dX10_isBlocked_69 : decode cX10_isBlocked 69 = .ok (.ifCond .eq 34, 3) := by decide +kernel
theorem dX10_isBlocked_72 : decode cX10_isBlocked 72 = .ok (.aload_n 0, 1) := by decide +kernel
theorem dX10_isBlocked_73 : decode cX10_isBlocked 73 = .ok (.iload 5, 2) := by decide +kernel
theorem dX10_isBlocked_75 : decode cX10_isBlocked 75 = .ok (.iconst 1, 1) := by decide +kernel
theorem dX10_isBlocked_76 : decode cX10_isBlocked 76 = .ok (.invokevirtual 57, 3) := by decide +kernel
theorem dX10_isBlocked_79 : decode cX10_isBlocked 79 = .ok (.bipush 10, 2) := by decide +kernel
theorem dX10_isBlocked_81 : decode cX10_isBlocked 81 = .ok (.isub, 1) := by decide +kernel
theorem dX10_isBlocked_82 : decode cX10_isBlocked 82 = .ok (.iload_n 2, 1) := by decide +kernel
theorem dX10_isBlocked_83 : decode cX10_isBlocked 83 = .ok (.imul, 1) := by decide +kernel
theorem dX10_isBlocked_84 : decode cX10_isBlocked 84 = .ok (.iload_n 3, 1) := by decide +kernel
theorem dX10_isBlocked_85 : decode cX10_isBlocked 85 = .ok (.aload_n 0, 1) := by decide +kernel
theorem dX10_isBlocked_86 : decode cX10_isBlocked 86 = .ok (.iload 5, 2) := by decide +kernel
theorem dX10_isBlocked_88 : decode cX10_isBlocked 88 = .ok (.iconst 0, 1) := by decide +kernel
theorem dX10_isBlocked_89 : decode cX10_isBlocked 89 = .ok (.invokevirtual 57, 3) := by decide +kernel
theorem dX10_isBlocked_92 : decode cX10_isBlocked 92 = .ok (.bipush (-2), 2) := by decide +kernel
theorem dX10_isBlocked_94 : decode cX10_isBlocked 94 = .ok (.isub, 1) := by decide +kernel
theorem dX10_isBlocked_95 : decode cX10_isBlocked 95 = .ok (.imul, 1) := by decide +kernel
theorem dX10_isBlocked_96 : decode cX10_isBlocked 96 = .ok (.if_icmp .ne 7, 3) := by decide +kernel
theorem dX10_isBlocked_99 : decode cX10_isBlocked 99 = .ok (.iconst 1, 1) := by decide +kernel
theorem dX10_isBlocked_100 : decode cX10_isBlocked 100 = .ok (.goto 4, 3) := by decide +kernel
theorem dX10_isBlocked_103 : decode cX10_isBlocked 103 = .ok (.iconst 0, 1) := by decide +kernel
theorem dX10_isBlocked_104 : decode cX10_isBlocked 104 = .ok (.istore 4, 2) := by decide +kernel
theorem dX10_isBlocked_106 : decode cX10_isBlocked 106 = .ok (.iinc 5 1, 3) := by decide +kernel
theorem dX10_isBlocked_109 : decode cX10_isBlocked 109 = .ok (.goto (-83), 3) := by decide +kernel
theorem dX10_isBlocked_112 : decode cX10_isBlocked 112 = .ok (.iload 4, 2) := by decide +kernel
theorem dX10_isBlocked_114 : decode cX10_isBlocked 114 = .ok (.ireturn, 1) := by decide +kernel
theorem dX10_areFlat_0 : decode cX10_areFlat 0 = .ok (.aload_n 0, 1) := by decide +kernel
theorem dX10_areFlat_1 : decode cX10_areFlat 1 = .ok (.getfield 7, 3) := by decide +kernel
theorem dX10_areFlat_4 : decode cX10_areFlat 4 = .ok (.iconst 4, 1) := by decide +kernel
theorem dX10_areFlat_5 : decode cX10_areFlat 5 = .ok (.iaload, 1) := by decide +kernel
theorem dX10_areFlat_6 : decode cX10_areFlat 6 = .ok (.aload_n 0, 1) := by decide +kernel
theorem dX10_areFlat_7 : decode cX10_areFlat 7 = .ok (.getfield 7, 3) := by decide +kernel
theorem dX10_areFlat_10 : decode cX10_areFlat 10 = .ok (.iconst 1, 1) := by decide +kernel
theorem dX10_areFlat_11 : decode cX10_areFlat 11 = .ok (.iaload, 1) := by decide +kernel
theorem dX10_areFlat_12 : decode cX10_areFlat 12 = .ok (.if_icmp .le 7, 3) := by decide +kernel
theorem dX10_areFlat_15 : decode cX10_areFlat 15 = .ok (.iconst 1, 1) := by decide +kernel
theorem dX10_areFlat_16 : decode cX10_areFlat 16 = .ok (.goto 4, 3) := by decide +kernel
theorem dX10_areFlat_19 : decode cX10_areFlat 19 = .ok (.iconst 0, 1) := by decide +kernel
theorem dX10_areFlat_20 : decode cX10_areFlat 20 = .ok (.ireturn, 1) := by decide +kernel
theorem dX10_gives_0 : decode cX10_gives 0 = .ok (.aload_n 0, 1) := by decide +kernel
theorem dX10_gives_1 : decode cX10_gives 1 = .ok (.invokevirtual 69, 3) := by decide +kernel
theorem dX10_gives_4 : decode cX10_gives 4 = .ok (.ifCond .ne 22, 3) := by decide +kernel
theorem dX10_gives_7 : decode cX10_gives 7 = .ok (.aload_n 0, 1) := by decide +kernel
theorem dX10_gives_8 : decode cX10_gives 8 = .ok (.iload_n 1, 1) := by decide +kernel
theorem dX10_gives_9 : decode cX10_gives 9 = .ok (.iload_n 2, 1) := by decide +kernel
theorem dX10_gives_10 : decode cX10_gives 10 = .ok (.invokevirtual 73, 3) := by decide +kernel
theorem dX10_gives_13 : decode cX10_gives 13 = .ok (.bipush (-6), 2) := by decide +kernel
theorem dX10_gives_15 : decode cX10_gives 15 = .ok (.if_icmp .ne 11, 3) := by decide +kernel
theorem dX10_gives_18 : decode cX10_gives 18 = .ok (.aload_n 0, 1) := by decide +kernel
theorem dX10_gives_19 : decode cX10_gives 19 = .ok (.iload_n 1, 1) := by decide +kernel
theorem dX10_gives_20 : decode cX10_gives 20 = .ok (.invokevirtual 76, 3) := by decide +kernel
theorem dX10_gives_23 : decode cX10_gives 23 = .ok (.ifCond .eq 5, 3) := by decide +kernel
theorem dX10_gives_26 : decode cX10_gives 26 = .ok (.iconst 0, 1) := by decide +kernel
theorem dX10_gives_27 : decode cX10_gives 27 = .ok (.ireturn, 1) := by decide +kernel
theorem dX10_gives_28 : decode cX10_gives 28 = .ok (.bipush 100, 2) := by decide +kernel
theorem dX10_gives_30 : decode cX10_gives 30 = .ok (.aload_n 0, 1) := by decide +kernel
theorem dX10_gives_31 : decode cX10_gives 31 = .ok (.iload_n 1, 1) := by decide +kernel
theorem dX10_gives_32 : decode cX10_gives 32 = .ok (.iconst 3, 1) := by decide +kernel
theorem dX10_gives_33 : decode cX10_gives 33 = .ok (.invokevirtual 57, 3) := by decide +kernel
theorem dX10_gives_36 : decode cX10_gives 36 = .ok (.isub, 1) := by decide +kernel
theorem dX10_gives_37 : decode cX10_gives 37 = .ok (.iload_n 2, 1) := by decide +kernel
theorem dX10_gives_38 : decode cX10_gives 38 = .ok (.invokestatic 61, 3) := by decide +kernel
theorem dX10_gives_41 : decode cX10_gives 41 = .ok (.imul, 1) := by decide +kernel
theorem dX10_gives_42 : decode cX10_gives 42 = .ok (.bipush 20, 2) := by decide +kernel
theorem dX10_gives_44 : decode cX10_gives 44 = .ok (.imul, 1) := by decide +kernel
theorem dX10_gives_45 : decode cX10_gives 45 = .ok (.bipush 20, 2) := by decide +kernel
theorem dX10_gives_47 : decode cX10_gives 47 = .ok (.aload_n 0, 1) := by decide +kernel
theorem dX10_gives_48 : decode cX10_gives 48 = .ok (.iload_n 1, 1) := by decide +kernel
theorem dX10_gives_49 : decode cX10_gives 49 = .ok (.iconst 0, 1) := by decide +kernel
theorem dX10_gives_50 : decode cX10_gives 50 = .ok (.invokevirtual 57, 3) := by decide +kernel
theorem dX10_gives_53 : decode cX10_gives 53 = .ok (.iadd, 1) := by decide +kernel
theorem dX10_gives_54 : decode cX10_gives 54 = .ok (.idiv, 1) := by decide +kernel
theorem dX10_gives_55 : decode cX10_gives 55 = .ok (.bipush 10, 2) := by decide +kernel
theorem dX10_gives_57 : decode cX10_gives 57 = .ok (.idiv, 1) := by decide +kernel
theorem dX10_gives_58 : decode cX10_gives 58 = .ok (.ireturn, 1) := by decide +kernel
theorem dX10_sorts_0 : decode cX10_sorts 0 = .ok (.iconst 0, 1) := by decide +kernel
theorem dX10_sorts_1 : decode cX10_sorts 1 = .ok (.istore_n 1, 1) := by decide +kernel
theorem dX10_sorts_2 : decode cX10_sorts 2 = .ok (.iload_n 1, 1) := by decide +kernel
theorem dX10_sorts_3 : decode cX10_sorts 3 = .ok (.aload_n 0, 1) := by decide +kernel
theorem dX10_sorts_4 : decode cX10_sorts 4 = .ok (.getfield 7, 3) := by decide +kernel
theorem dX10_sorts_7 : decode cX10_sorts 7 = .ok (.bipush 6, 2) := by decide +kernel
theorem dX10_sorts_9 : decode cX10_sorts 9 = .ok (.iaload, 1) := by decide +kernel
theorem dX10_sorts_10 : decode cX10_sorts 10 = .ok (.if_icmp .ge 64, 3) := by decide +kernel
theorem dX10_sorts_13 : decode cX10_sorts 13 = .ok (.iload_n 1, 1) := by decide +kernel
theorem dX10_sorts_14 : decode cX10_sorts 14 = .ok (.istore_n 2, 1) := by decide +kernel
theorem dX10_sorts_15 : decode cX10_sorts 15 = .ok (.iload_n 2, 1) := by decide +kernel
theorem dX10_sorts_16 : decode cX10_sorts 16 = .ok (.ifCond .le 45, 3) := by decide +kernel
theorem dX10_sorts_19 : decode cX10_sorts 19 = .ok (.aload_n 0, 1) := by decide +kernel
theorem dX10_sorts_20 : decode cX10_sorts 20 = .ok (.getfield 28, 3) := by decide +kernel
theorem dX10_sorts_23 : decode cX10_sorts 23 = .ok (.aload_n 0, 1) := by decide +kernel
theorem dX10_sorts_24 : decode cX10_sorts 24 = .ok (.getfield 37, 3) := by decide +kernel
theorem dX10_sorts_27 : decode cX10_sorts 27 = .ok (.iload_n 2, 1) := by decide +kernel
theorem dX10_sorts_28 : decode cX10_sorts 28 = .ok (.iconst 1, 1) := by decide +kernel
theorem dX10_sorts_29 : decode cX10_sorts 29 = .ok (.isub, 1) := by decide +kernel
theorem dX10_sorts_30 : decode cX10_sorts 30 = .ok (.iaload, 1) := by decide +kernel
theorem dX10_sorts_31 : decode cX10_sorts 31 = .ok (.iaload, 1) := by decide +kernel
theorem dX10_sorts_32 : decode cX10_sorts 32 = .ok (.aload_n 0, 1) := by decide +kernel
theorem dX10_sorts_33 : decode cX10_sorts 33 = .ok (.getfield 28, 3) := by decide +kernel
theorem dX10_sorts_36 : decode cX10_sorts 36 = .ok (.iload_n 1, 1) := by decide +kernel
theorem dX10_sorts_37 : decode cX10_sorts 37 = .ok (.iaload, 1) := by decide +kernel
theorem dX10_sorts_38 : decode cX10_sorts 38 = .ok (.if_icmp .ge 23, 3) := by decide +kernel
theorem dX10_sorts_41 : decode cX10_sorts 41 = .ok (.aload_n 0, 1) := by decide +kernel
theorem dX10_sorts_42 : decode cX10_sorts 42 = .ok (.getfield 37, 3) := by decide +kernel
theorem dX10_sorts_45 : decode cX10_sorts 45 = .ok (.iload_n 2, 1) := by decide +kernel
theorem dX10_sorts_46 : decode cX10_sorts 46 = .ok (.aload_n 0, 1) := by decide +kernel
theorem dX10_sorts_47 : decode cX10_sorts 47 = .ok (.getfield 37, 3) := by decide +kernel
theorem dX10_sorts_50 : decode cX10_sorts 50 = .ok (.iload_n 2, 1) := by decide +kernel
theorem dX10_sorts_51 : decode cX10_sorts 51 = .ok (.iconst 1, 1) := by decide +kernel
theorem dX10_sorts_52 : decode cX10_sorts 52 = .ok (.isub, 1) := by decide +kernel
theorem dX10_sorts_53 : decode cX10_sorts 53 = .ok (.iaload, 1) := by decide +kernel
theorem dX10_sorts_54 : decode cX10_sorts 54 = .ok (.iastore, 1) := by decide +kernel
theorem dX10_sorts_55 : decode cX10_sorts 55 = .ok (.iinc 2 (-1), 3) := by decide +kernel
theorem dX10_sorts_58 : decode cX10_sorts 58 = .ok (.goto (-43), 3) := by decide +kernel
theorem dX10_sorts_61 : decode cX10_sorts 61 = .ok (.aload_n 0, 1) := by decide +kernel
theorem dX10_sorts_62 : decode cX10_sorts 62 = .ok (.getfield 37, 3) := by decide +kernel
theorem dX10_sorts_65 : decode cX10_sorts 65 = .ok (.iload_n 2, 1) := by decide +kernel
theorem dX10_sorts_66 : decode cX10_sorts 66 = .ok (.iload_n 1, 1) := by decide +kernel
theorem dX10_sorts_67 : decode cX10_sorts 67 = .ok (.iastore, 1) := by decide +kernel
theorem dX10_sorts_68 : decode cX10_sorts 68 = .ok (.iinc 1 1, 3) := by decide +kernel
theorem dX10_sorts_71 : decode cX10_sorts 71 = .ok (.goto (-69), 3) := by decide +kernel
theorem dX10_sorts_74 : decode cX10_sorts 74 = .ok (.return_, 1) := by decide +kernel
theorem dX10_looks_0 : decode cX10_looks 0 = .ok (.iconst 0, 1) := by decide +kernel
theorem dX10_looks_1 : decode cX10_looks 1 = .ok (.istore_n 2, 1) := by decide +kernel
theorem dX10_looks_2 : decode cX10_looks 2 = .ok (.iconst 0, 1) := by decide +kernel
theorem dX10_looks_3 : decode cX10_looks 3 = .ok (.istore_n 3, 1) := by decide +kernel
theorem dX10_looks_4 : decode cX10_looks 4 = .ok (.iload_n 3, 1) := by decide +kernel
theorem dX10_looks_5 : decode cX10_looks 5 = .ok (.iconst 4, 1) := by decide +kernel
theorem dX10_looks_6 : decode cX10_looks 6 = .ok (.if_icmp .ge 16, 3) := by decide +kernel
theorem dX10_looks_9 : decode cX10_looks 9 = .ok (.aload_n 0, 1) := by decide +kernel
theorem dX10_looks_10 : decode cX10_looks 10 = .ok (.getfield 34, 3) := by decide +kernel
theorem dX10_looks_13 : decode cX10_looks 13 = .ok (.iload_n 3, 1) := by decide +kernel
theorem dX10_looks_14 : decode cX10_looks 14 = .ok (.iconst 0, 1) := by decide +kernel
theorem dX10_looks_15 : decode cX10_looks 15 = .ok (.iastore, 1) := by decide +kernel
theorem dX10_looks_16 : decode cX10_looks 16 = .ok (.iinc 3 1, 3) := by decide +kernel
theorem dX10_looks_19 : decode cX10_looks 19 = .ok (.goto (-15), 3) := by decide +kernel
theorem dX10_looks_22 : decode cX10_looks 22 = .ok (.iconst 0, 1) := by decide +kernel
theorem dX10_looks_23 : decode cX10_looks 23 = .ok (.istore_n 3, 1) := by decide +kernel
theorem dX10_looks_24 : decode cX10_looks 24 = .ok (.iload_n 3, 1) := by decide +kernel
theorem dX10_looks_25 : decode cX10_looks 25 = .ok (.aload_n 0, 1) := by decide +kernel
theorem dX10_looks_26 : decode cX10_looks 26 = .ok (.getfield 7, 3) := by decide +kernel
theorem dX10_looks_29 : decode cX10_looks 29 = .ok (.bipush 6, 2) := by decide +kernel
theorem dX10_looks_31 : decode cX10_looks 31 = .ok (.iaload, 1) := by decide +kernel
theorem dX10_looks_32 : decode cX10_looks 32 = .ok (.if_icmp .ge 21, 3) := by decide +kernel
theorem dX10_looks_35 : decode cX10_looks 35 = .ok (.aload_n 0, 1) := by decide +kernel
theorem dX10_looks_36 : decode cX10_looks 36 = .ok (.getfield 28, 3) := by decide +kernel
theorem dX10_looks_39 : decode cX10_looks 39 = .ok (.iload_n 3, 1) := by decide +kernel
theorem dX10_looks_40 : decode cX10_looks 40 = .ok (.aload_n 0, 1) := by decide +kernel
theorem dX10_looks_41 : decode cX10_looks 41 = .ok (.iload_n 3, 1) := by decide +kernel
theorem dX10_looks_42 : decode cX10_looks 42 = .ok (.iload_n 1, 1) := by decide +kernel
theorem dX10_looks_43 : decode cX10_looks 43 = .ok (.invokevirtual 80, 3) := by decide +kernel
theorem dX10_looks_46 : decode cX10_looks 46 = .ok (.iastore, 1) := by decide +kernel
theorem dX10_looks_47 : decode cX10_looks 47 = .ok (.iinc 3 1, 3) := by decide +kernel
theorem dX10_looks_50 : decode cX10_looks 50 = .ok (.goto (-26), 3) := by decide +kernel
theorem dX10_looks_53 : decode cX10_looks 53 = .ok (.aload_n 0, 1) := by decide +kernel
theorem dX10_looks_54 : decode cX10_looks 54 = .ok (.invokevirtual 83, 3) := by decide +kernel
theorem dX10_looks_57 : decode cX10_looks 57 = .ok (.iconst 0, 1) := by decide +kernel
theorem dX10_looks_58 : decode cX10_looks 58 = .ok (.istore_n 3, 1) := by decide +kernel
theorem dX10_looks_59 : decode cX10_looks 59 = .ok (.iload_n 3, 1) := by decide +kernel
theorem dX10_looks_60 : decode cX10_looks 60 = .ok (.aload_n 0, 1) := by decide +kernel
theorem dX10_looks_61 : decode cX10_looks 61 = .ok (.getfield 7, 3) := by decide +kernel
theorem dX10_looks_64 : decode cX10_looks 64 = .ok (.bipush 6, 2) := by decide +kernel
theorem dX10_looks_66 : decode cX10_looks 66 = .ok (.iaload, 1) := by decide +kernel
theorem dX10_looks_67 : decode cX10_looks 67 = .ok (.if_icmp .ge 105, 3) := by decide +kernel
theorem dX10_looks_70 : decode cX10_looks 70 = .ok (.aload_n 0, 1) := by decide +kernel
theorem dX10_looks_71 : decode cX10_looks 71 = .ok (.getfield 37, 3) := by decide +kernel
theorem dX10_looks_74 : decode cX10_looks 74 = .ok (.iload_n 3, 1) := by decide +kernel
theorem dX10_looks_75 : decode cX10_looks 75 = .ok (.iaload, 1) := by decide +kernel
theorem dX10_looks_76 : decode cX10_looks 76 = .ok (.istore 4, 2) := by decide +kernel
theorem dX10_looks_78 : decode cX10_looks 78 = .ok (.aload_n 0, 1) := by decide +kernel
theorem dX10_looks_79 : decode cX10_looks 79 = .ok (.iload 4, 2) := by decide +kernel
theorem dX10_looks_81 : decode cX10_looks 81 = .ok (.iconst 2, 1) := by decide +kernel
theorem dX10_looks_82 : decode cX10_looks 82 = .ok (.invokevirtual 57, 3) := by decide +kernel
theorem dX10_looks_85 : decode cX10_looks 85 = .ok (.istore 5, 2) := by decide +kernel
theorem dX10_looks_87 : decode cX10_looks 87 = .ok (.aload_n 0, 1) := by decide +kernel
theorem dX10_looks_88 : decode cX10_looks 88 = .ok (.getfield 31, 3) := by decide +kernel
theorem dX10_looks_91 : decode cX10_looks 91 = .ok (.iload 4, 2) := by decide +kernel
theorem dX10_looks_93 : decode cX10_looks 93 = .ok (.aload_n 0, 1) := by decide +kernel
theorem dX10_looks_94 : decode cX10_looks 94 = .ok (.getfield 34, 3) := by decide +kernel
theorem dX10_looks_97 : decode cX10_looks 97 = .ok (.iload 5, 2) := by decide +kernel
theorem dX10_looks_99 : decode cX10_looks 99 = .ok (.iaload, 1) := by decide +kernel
theorem dX10_looks_100 : decode cX10_looks 100 = .ok (.aload_n 0, 1) := by decide +kernel
theorem dX10_looks_101 : decode cX10_looks 101 = .ok (.getfield 28, 3) := by decide +kernel
theorem dX10_looks_104 : decode cX10_looks 104 = .ok (.iload 4, 2) := by decide +kernel
theorem dX10_looks_106 : decode cX10_looks 106 = .ok (.iaload, 1) := by decide +kernel
theorem dX10_looks_107 : decode cX10_looks 107 = .ok (.iadd, 1) := by decide +kernel
theorem dX10_looks_108 : decode cX10_looks 108 = .ok (.aload_n 0, 1) := by decide +kernel
theorem dX10_looks_109 : decode cX10_looks 109 = .ok (.getfield 7, 3) := by decide +kernel
theorem dX10_looks_112 : decode cX10_looks 112 = .ok (.iconst 0, 1) := by decide +kernel
theorem dX10_looks_113 : decode cX10_looks 113 = .ok (.iaload, 1) := by decide +kernel
theorem dX10_looks_114 : decode cX10_looks 114 = .ok (.if_icmp .gt 7, 3) := by decide +kernel
theorem dX10_looks_117 : decode cX10_looks 117 = .ok (.iconst 1, 1) := by decide +kernel
theorem dX10_looks_118 : decode cX10_looks 118 = .ok (.goto 4, 3) := by decide +kernel
theorem dX10_looks_121 : decode cX10_looks 121 = .ok (.iconst 0, 1) := by decide +kernel
theorem dX10_looks_122 : decode cX10_looks 122 = .ok (.iastore, 1) := by decide +kernel
theorem dX10_looks_123 : decode cX10_looks 123 = .ok (.aload_n 0, 1) := by decide +kernel
theorem dX10_looks_124 : decode cX10_looks 124 = .ok (.getfield 34, 3) := by decide +kernel
theorem dX10_looks_127 : decode cX10_looks 127 = .ok (.iload 5, 2) := by decide +kernel
theorem dX10_looks_129 : decode cX10_looks 129 = .ok (.dup2, 1) := by decide +kernel
theorem dX10_looks_130 : decode cX10_looks 130 = .ok (.iaload, 1) := by decide +kernel
theorem dX10_looks_131 : decode cX10_looks 131 = .ok (.aload_n 0, 1) := by decide +kernel
theorem dX10_looks_132 : decode cX10_looks 132 = .ok (.getfield 31, 3) := by decide +kernel
theorem dX10_looks_135 : decode cX10_looks 135 = .ok (.iload 4, 2) := by decide +kernel
theorem dX10_looks_137 : decode cX10_looks 137 = .ok (.iaload, 1) := by decide +kernel
theorem dX10_looks_138 : decode cX10_looks 138 = .ok (.aload_n 0, 1) := by decide +kernel
theorem dX10_looks_139 : decode cX10_looks 139 = .ok (.getfield 28, 3) := by decide +kernel
theorem dX10_looks_142 : decode cX10_looks 142 = .ok (.iload 4, 2) := by decide +kernel
theorem dX10_looks_144 : decode cX10_looks 144 = .ok (.iaload, 1) := by decide +kernel
theorem dX10_looks_145 : decode cX10_looks 145 = .ok (.imul, 1) := by decide +kernel
theorem dX10_looks_146 : decode cX10_looks 146 = .ok (.iadd, 1) := by decide +kernel
theorem dX10_looks_147 : decode cX10_looks 147 = .ok (.iastore, 1) := by decide +kernel
theorem dX10_looks_148 : decode cX10_looks 148 = .ok (.iload_n 2, 1) := by decide +kernel
theorem dX10_looks_149 : decode cX10_looks 149 = .ok (.aload_n 0, 1) := by decide +kernel
theorem dX10_looks_150 : decode cX10_looks 150 = .ok (.getfield 31, 3) := by decide +kernel
theorem dX10_looks_153 : decode cX10_looks 153 = .ok (.iload 4, 2) := by decide +kernel
theorem dX10_looks_155 : decode cX10_looks 155 = .ok (.iaload, 1) := by decide +kernel
theorem dX10_looks_156 : decode cX10_looks 156 = .ok (.aload_n 0, 1) := by decide +kernel
theorem dX10_looks_157 : decode cX10_looks 157 = .ok (.getfield 28, 3) := by decide +kernel
theorem dX10_looks_160 : decode cX10_looks 160 = .ok (.iload 4, 2) := by decide +kernel
theorem dX10_looks_162 : decode cX10_looks 162 = .ok (.iaload, 1) := by decide +kernel
theorem dX10_looks_163 : decode cX10_looks 163 = .ok (.imul, 1) := by decide +kernel
theorem dX10_looks_164 : decode cX10_looks 164 = .ok (.iadd, 1) := by decide +kernel
theorem dX10_looks_165 : decode cX10_looks 165 = .ok (.istore_n 2, 1) := by decide +kernel
theorem dX10_looks_166 : decode cX10_looks 166 = .ok (.iinc 3 1, 3) := by decide +kernel
theorem dX10_looks_169 : decode cX10_looks 169 = .ok (.goto (-110), 3) := by decide +kernel
theorem dX10_looks_172 : decode cX10_looks 172 = .ok (.iload_n 2, 1) := by decide +kernel
theorem dX10_looks_173 : decode cX10_looks 173 = .ok (.ireturn, 1) := by decide +kernel
theorem dX10_brings_0 : decode cX10_brings 0 = .ok (.iconst 0, 1) := by decide +kernel
theorem dX10_brings_1 : decode cX10_brings 1 = .ok (.istore_n 1, 1) := by decide +kernel
theorem dX10_brings_2 : decode cX10_brings 2 = .ok (.iconst 0, 1) := by decide +kernel
theorem dX10_brings_3 : decode cX10_brings 3 = .ok (.istore_n 2, 1) := by decide +kernel
theorem dX10_brings_4 : decode cX10_brings 4 = .ok (.iload_n 2, 1) := by decide +kernel
theorem dX10_brings_5 : decode cX10_brings 5 = .ok (.bipush 11, 2) := by decide +kernel
theorem dX10_brings_7 : decode cX10_brings 7 = .ok (.if_icmp .ge 17, 3) := by decide +kernel
theorem dX10_brings_10 : decode cX10_brings 10 = .ok (.iload_n 1, 1) := by decide +kernel
theorem dX10_brings_11 : decode cX10_brings 11 = .ok (.aload_n 0, 1) := by decide +kernel
theorem dX10_brings_12 : decode cX10_brings 12 = .ok (.iload_n 2, 1) := by decide +kernel
theorem dX10_brings_13 : decode cX10_brings 13 = .ok (.invokevirtual 86, 3) := by decide +kernel
theorem dX10_brings_16 : decode cX10_brings 16 = .ok (.iadd, 1) := by decide +kernel
theorem dX10_brings_17 : decode cX10_brings 17 = .ok (.istore_n 1, 1) := by decide +kernel
theorem dX10_brings_18 : decode cX10_brings 18 = .ok (.iinc 2 1, 3) := by decide +kernel
theorem dX10_brings_21 : decode cX10_brings 21 = .ok (.goto (-17), 3) := by decide +kernel
theorem dX10_brings_24 : decode cX10_brings 24 = .ok (.iload_n 1, 1) := by decide +kernel
theorem dX10_brings_25 : decode cX10_brings 25 = .ok (.ireturn, 1) := by decide +kernel
theorem dX10_day_0 : decode cX10_day 0 = .ok (.iconst 0, 1) := by decide +kernel
theorem dX10_day_1 : decode cX10_day 1 = .ok (.istore_n 1, 1) := by decide +kernel
theorem dX10_day_2 : decode cX10_day 2 = .ok (.iload_n 1, 1) := by decide +kernel
theorem dX10_day_3 : decode cX10_day 3 = .ok (.bipush 11, 2) := by decide +kernel
theorem dX10_day_5 : decode cX10_day 5 = .ok (.if_icmp .ge 68, 3) := by decide +kernel
theorem dX10_day_8 : decode cX10_day 8 = .ok (.aload_n 0, 1) := by decide +kernel
theorem dX10_day_9 : decode cX10_day 9 = .ok (.getfield 7, 3) := by decide +kernel
theorem dX10_day_12 : decode cX10_day 12 = .ok (.iconst 5, 1) := by decide +kernel
theorem dX10_day_13 : decode cX10_day 13 = .ok (.dup2, 1) := by decide +kernel
theorem dX10_day_14 : decode cX10_day 14 = .ok (.iaload, 1) := by decide +kernel
theorem dX10_day_15 : decode cX10_day 15 = .ok (.aload_n 0, 1) := by decide +kernel
theorem dX10_day_16 : decode cX10_day 16 = .ok (.iload_n 1, 1) := by decide +kernel
theorem dX10_day_17 : decode cX10_day 17 = .ok (.invokevirtual 86, 3) := by decide +kernel
theorem dX10_day_20 : decode cX10_day 20 = .ok (.iadd, 1) := by decide +kernel
theorem dX10_day_21 : decode cX10_day 21 = .ok (.iastore, 1) := by decide +kernel
theorem dX10_day_22 : decode cX10_day 22 = .ok (.iconst 0, 1) := by decide +kernel
theorem dX10_day_23 : decode cX10_day 23 = .ok (.istore_n 2, 1) := by decide +kernel
theorem dX10_day_24 : decode cX10_day 24 = .ok (.iload_n 2, 1) := by decide +kernel
theorem dX10_day_25 : decode cX10_day 25 = .ok (.aload_n 0, 1) := by decide +kernel
theorem dX10_day_26 : decode cX10_day 26 = .ok (.getfield 7, 3) := by decide +kernel
theorem dX10_day_29 : decode cX10_day 29 = .ok (.bipush 6, 2) := by decide +kernel
theorem dX10_day_31 : decode cX10_day 31 = .ok (.iaload, 1) := by decide +kernel
theorem dX10_day_32 : decode cX10_day 32 = .ok (.if_icmp .ge 35, 3) := by decide +kernel
theorem dX10_day_35 : decode cX10_day 35 = .ok (.aload_n 0, 1) := by decide +kernel
theorem dX10_day_36 : decode cX10_day 36 = .ok (.iload_n 2, 1) := by decide +kernel
theorem dX10_day_37 : decode cX10_day 37 = .ok (.iconst 4, 1) := by decide +kernel
theorem dX10_day_38 : decode cX10_day 38 = .ok (.aload_n 0, 1) := by decide +kernel
theorem dX10_day_39 : decode cX10_day 39 = .ok (.iload_n 2, 1) := by decide +kernel
theorem dX10_day_40 : decode cX10_day 40 = .ok (.iconst 4, 1) := by decide +kernel
theorem dX10_day_41 : decode cX10_day 41 = .ok (.invokevirtual 57, 3) := by decide +kernel
theorem dX10_day_44 : decode cX10_day 44 = .ok (.aload_n 0, 1) := by decide +kernel
theorem dX10_day_45 : decode cX10_day 45 = .ok (.getfield 31, 3) := by decide +kernel
theorem dX10_day_48 : decode cX10_day 48 = .ok (.iload_n 2, 1) := by decide +kernel
theorem dX10_day_49 : decode cX10_day 49 = .ok (.iaload, 1) := by decide +kernel
theorem dX10_day_50 : decode cX10_day 50 = .ok (.aload_n 0, 1) := by decide +kernel
theorem dX10_day_51 : decode cX10_day 51 = .ok (.getfield 28, 3) := by decide +kernel
theorem dX10_day_54 : decode cX10_day 54 = .ok (.iload_n 2, 1) := by decide +kernel
theorem dX10_day_55 : decode cX10_day 55 = .ok (.iaload, 1) := by decide +kernel
theorem dX10_day_56 : decode cX10_day 56 = .ok (.imul, 1) := by decide +kernel
theorem dX10_day_57 : decode cX10_day 57 = .ok (.iadd, 1) := by decide +kernel
theorem dX10_day_58 : decode cX10_day 58 = .ok (.invokevirtual 89, 3) := by decide +kernel
theorem dX10_day_61 : decode cX10_day 61 = .ok (.iinc 2 1, 3) := by decide +kernel
theorem dX10_day_64 : decode cX10_day 64 = .ok (.goto (-40), 3) := by decide +kernel
theorem dX10_day_67 : decode cX10_day 67 = .ok (.iinc 1 1, 3) := by decide +kernel
theorem dX10_day_70 : decode cX10_day 70 = .ok (.goto (-68), 3) := by decide +kernel
theorem dX10_day_73 : decode cX10_day 73 = .ok (.iconst 0, 1) := by decide +kernel
theorem dX10_day_74 : decode cX10_day 74 = .ok (.istore_n 1, 1) := by decide +kernel
theorem dX10_day_75 : decode cX10_day 75 = .ok (.iload_n 1, 1) := by decide +kernel
theorem dX10_day_76 : decode cX10_day 76 = .ok (.aload_n 0, 1) := by decide +kernel
theorem dX10_day_77 : decode cX10_day 77 = .ok (.getfield 7, 3) := by decide +kernel
theorem dX10_day_80 : decode cX10_day 80 = .ok (.bipush 6, 2) := by decide +kernel
theorem dX10_day_82 : decode cX10_day 82 = .ok (.iaload, 1) := by decide +kernel
theorem dX10_day_83 : decode cX10_day 83 = .ok (.if_icmp .ge 41, 3) := by decide +kernel
theorem dX10_day_86 : decode cX10_day 86 = .ok (.aload_n 0, 1) := by decide +kernel
theorem dX10_day_87 : decode cX10_day 87 = .ok (.iload_n 1, 1) := by decide +kernel
theorem dX10_day_88 : decode cX10_day 88 = .ok (.iconst 3, 1) := by decide +kernel
theorem dX10_day_89 : decode cX10_day 89 = .ok (.invokevirtual 57, 3) := by decide +kernel
theorem dX10_day_92 : decode cX10_day 92 = .ok (.aload_n 0, 1) := by decide +kernel
theorem dX10_day_93 : decode cX10_day 93 = .ok (.getfield 7, 3) := by decide +kernel
theorem dX10_day_96 : decode cX10_day 96 = .ok (.iconst 2, 1) := by decide +kernel
theorem dX10_day_97 : decode cX10_day 97 = .ok (.iaload, 1) := by decide +kernel
theorem dX10_day_98 : decode cX10_day 98 = .ok (.iadd, 1) := by decide +kernel
theorem dX10_day_99 : decode cX10_day 99 = .ok (.istore_n 2, 1) := by decide +kernel
theorem dX10_day_100 : decode cX10_day 100 = .ok (.aload_n 0, 1) := by decide +kernel
theorem dX10_day_101 : decode cX10_day 101 = .ok (.iload_n 1, 1) := by decide +kernel
theorem dX10_day_102 : decode cX10_day 102 = .ok (.iconst 3, 1) := by decide +kernel
theorem dX10_day_103 : decode cX10_day 103 = .ok (.iload_n 2, 1) := by decide +kernel
theorem dX10_day_104 : decode cX10_day 104 = .ok (.bipush 100, 2) := by decide +kernel
theorem dX10_day_106 : decode cX10_day 106 = .ok (.if_icmp .ge 7, 3) := by decide +kernel
theorem dX10_day_109 : decode cX10_day 109 = .ok (.iload_n 2, 1) := by decide +kernel
theorem dX10_day_110 : decode cX10_day 110 = .ok (.goto 5, 3) := by decide +kernel
theorem dX10_day_113 : decode cX10_day 113 = .ok (.bipush 100, 2) := by decide +kernel
theorem dX10_day_115 : decode cX10_day 115 = .ok (.invokevirtual 89, 3) := by decide +kernel
theorem dX10_day_118 : decode cX10_day 118 = .ok (.iinc 1 1, 3) := by decide +kernel
theorem dX10_day_121 : decode cX10_day 121 = .ok (.goto (-46), 3) := by decide +kernel
theorem dX10_day_124 : decode cX10_day 124 = .ok (.aload_n 0, 1) := by decide +kernel
theorem dX10_day_125 : decode cX10_day 125 = .ok (.getfield 7, 3) := by decide +kernel
theorem dX10_day_128 : decode cX10_day 128 = .ok (.iconst 3, 1) := by decide +kernel
theorem dX10_day_129 : decode cX10_day 129 = .ok (.dup2, 1) := by decide +kernel
theorem dX10_day_130 : decode cX10_day 130 = .ok (.iaload, 1) := by decide +kernel
theorem dX10_day_131 : decode cX10_day 131 = .ok (.iconst 1, 1) := by decide +kernel
theorem dX10_day_132 : decode cX10_day 132 = .ok (.iadd, 1) := by decide +kernel
theorem dX10_day_133 : decode cX10_day 133 = .ok (.iastore, 1) := by decide +kernel
theorem dX10_day_134 : decode cX10_day 134 = .ok (.return_, 1) := by decide +kernel
theorem dX10_puts_0 : decode cX10_puts 0 = .ok (.aload_n 0, 1) := by decide +kernel
theorem dX10_puts_1 : decode cX10_puts 1 = .ok (.getfield 7, 3) := by decide +kernel
theorem dX10_puts_4 : decode cX10_puts 4 = .ok (.bipush 6, 2) := by decide +kernel
theorem dX10_puts_6 : decode cX10_puts 6 = .ok (.iaload, 1) := by decide +kernel
theorem dX10_puts_7 : decode cX10_puts 7 = .ok (.istore 4, 2) := by decide +kernel
theorem dX10_puts_9 : decode cX10_puts 9 = .ok (.aload_n 0, 1) := by decide +kernel
theorem dX10_puts_10 : decode cX10_puts 10 = .ok (.getfield 7, 3) := by decide +kernel
theorem dX10_puts_13 : decode cX10_puts 13 = .ok (.bipush 6, 2) := by decide +kernel
theorem dX10_puts_15 : decode cX10_puts 15 = .ok (.dup2, 1) := by decide +kernel
theorem dX10_puts_16 : decode cX10_puts 16 = .ok (.iaload, 1) := by decide +kernel
theorem dX10_puts_17 : decode cX10_puts 17 = .ok (.iconst 1, 1) := by decide +kernel
theorem dX10_puts_18 : decode cX10_puts 18 = .ok (.iadd, 1) := by decide +kernel
theorem dX10_puts_19 : decode cX10_puts 19 = .ok (.iastore, 1) := by decide +kernel
theorem dX10_puts_20 : decode cX10_puts 20 = .ok (.aload_n 0, 1) := by decide +kernel
theorem dX10_puts_21 : decode cX10_puts 21 = .ok (.iload 4, 2) := by decide +kernel
theorem dX10_puts_23 : decode cX10_puts 23 = .ok (.iconst 0, 1) := by decide +kernel
theorem dX10_puts_24 : decode cX10_puts 24 = .ok (.iload_n 1, 1) := by decide +kernel
theorem dX10_puts_25 : decode cX10_puts 25 = .ok (.invokevirtual 89, 3) := by decide +kernel
theorem dX10_puts_28 : decode cX10_puts 28 = .ok (.aload_n 0, 1) := by decide +kernel
theorem dX10_puts_29 : decode cX10_puts 29 = .ok (.iload 4, 2) := by decide +kernel
theorem dX10_puts_31 : decode cX10_puts 31 = .ok (.iconst 1, 1) := by decide +kernel
theorem dX10_puts_32 : decode cX10_puts 32 = .ok (.iload_n 2, 1) := by decide +kernel
theorem dX10_puts_33 : decode cX10_puts 33 = .ok (.invokevirtual 89, 3) := by decide +kernel
theorem dX10_puts_36 : decode cX10_puts 36 = .ok (.aload_n 0, 1) := by decide +kernel
theorem dX10_puts_37 : decode cX10_puts 37 = .ok (.iload 4, 2) := by decide +kernel
theorem dX10_puts_39 : decode cX10_puts 39 = .ok (.iconst 2, 1) := by decide +kernel
theorem dX10_puts_40 : decode cX10_puts 40 = .ok (.iload_n 3, 1) := by decide +kernel
theorem dX10_puts_41 : decode cX10_puts 41 = .ok (.invokevirtual 89, 3) := by decide +kernel
theorem dX10_puts_44 : decode cX10_puts 44 = .ok (.aload_n 0, 1) := by decide +kernel
theorem dX10_puts_45 : decode cX10_puts 45 = .ok (.iload 4, 2) := by decide +kernel
theorem dX10_puts_47 : decode cX10_puts 47 = .ok (.iconst 3, 1) := by decide +kernel
theorem dX10_puts_48 : decode cX10_puts 48 = .ok (.iconst 0, 1) := by decide +kernel
theorem dX10_puts_49 : decode cX10_puts 49 = .ok (.invokevirtual 89, 3) := by decide +kernel
theorem dX10_puts_52 : decode cX10_puts 52 = .ok (.aload_n 0, 1) := by decide +kernel
theorem dX10_puts_53 : decode cX10_puts 53 = .ok (.iload 4, 2) := by decide +kernel
theorem dX10_puts_55 : decode cX10_puts 55 = .ok (.iconst 4, 1) := by decide +kernel
theorem dX10_puts_56 : decode cX10_puts 56 = .ok (.iconst 0, 1) := by decide +kernel
theorem dX10_puts_57 : decode cX10_puts 57 = .ok (.invokevirtual 89, 3) := by decide +kernel
theorem dX10_puts_60 : decode cX10_puts 60 = .ok (.return_, 1) := by decide +kernel
theorem dX10_takesOut_0 : decode cX10_takesOut 0 = .ok (.aload_n 0, 1) := by decide +kernel
theorem dX10_takesOut_1 : decode cX10_takesOut 1 = .ok (.getfield 7, 3) := by decide +kernel
theorem dX10_takesOut_4 : decode cX10_takesOut 4 = .ok (.bipush 6, 2) := by decide +kernel
theorem dX10_takesOut_6 : decode cX10_takesOut 6 = .ok (.dup2, 1) := by decide +kernel
theorem dX10_takesOut_7 : decode cX10_takesOut 7 = .ok (.iaload, 1) := by decide +kernel
theorem dX10_takesOut_8 : decode cX10_takesOut 8 = .ok (.iconst 1, 1) := by decide +kernel
theorem dX10_takesOut_9 : decode cX10_takesOut 9 = .ok (.isub, 1) := by decide +kernel
theorem dX10_takesOut_10 : decode cX10_takesOut 10 = .ok (.iastore, 1) := by decide +kernel
theorem dX10_takesOut_11 : decode cX10_takesOut 11 = .ok (.bipush 7, 2) := by decide +kernel
theorem dX10_takesOut_13 : decode cX10_takesOut 13 = .ok (.iconst 5, 1) := by decide +kernel
theorem dX10_takesOut_14 : decode cX10_takesOut 14 = .ok (.iload_n 1, 1) := by decide +kernel
theorem dX10_takesOut_15 : decode cX10_takesOut 15 = .ok (.imul, 1) := by decide +kernel
theorem dX10_takesOut_16 : decode cX10_takesOut 16 = .ok (.iadd, 1) := by decide +kernel
theorem dX10_takesOut_17 : decode cX10_takesOut 17 = .ok (.istore_n 2, 1) := by decide +kernel
theorem dX10_takesOut_18 : decode cX10_takesOut 18 = .ok (.iload_n 2, 1) := by decide +kernel
theorem dX10_takesOut_19 : decode cX10_takesOut 19 = .ok (.bipush 7, 2) := by decide +kernel
theorem dX10_takesOut_21 : decode cX10_takesOut 21 = .ok (.iconst 5, 1) := by decide +kernel
theorem dX10_takesOut_22 : decode cX10_takesOut 22 = .ok (.aload_n 0, 1) := by decide +kernel
theorem dX10_takesOut_23 : decode cX10_takesOut 23 = .ok (.getfield 7, 3) := by decide +kernel
theorem dX10_takesOut_26 : decode cX10_takesOut 26 = .ok (.bipush 6, 2) := by decide +kernel
theorem dX10_takesOut_28 : decode cX10_takesOut 28 = .ok (.iaload, 1) := by decide +kernel
theorem dX10_takesOut_29 : decode cX10_takesOut 29 = .ok (.imul, 1) := by decide +kernel
theorem dX10_takesOut_30 : decode cX10_takesOut 30 = .ok (.iadd, 1) := by decide +kernel
theorem dX10_takesOut_31 : decode cX10_takesOut 31 = .ok (.if_icmp .ge 23, 3) := by decide +kernel
theorem dX10_takesOut_34 : decode cX10_takesOut 34 = .ok (.aload_n 0, 1) := by decide +kernel
theorem dX10_takesOut_35 : decode cX10_takesOut 35 = .ok (.getfield 7, 3) := by decide +kernel
theorem dX10_takesOut_38 : decode cX10_takesOut 38 = .ok (.iload_n 2, 1) := by decide +kernel
theorem dX10_takesOut_39 : decode cX10_takesOut 39 = .ok (.aload_n 0, 1) := by decide +kernel
theorem dX10_takesOut_40 : decode cX10_takesOut 40 = .ok (.getfield 7, 3) := by decide +kernel
theorem dX10_takesOut_43 : decode cX10_takesOut 43 = .ok (.iload_n 2, 1) := by decide +kernel
theorem dX10_takesOut_44 : decode cX10_takesOut 44 = .ok (.iconst 5, 1) := by decide +kernel
theorem dX10_takesOut_45 : decode cX10_takesOut 45 = .ok (.iadd, 1) := by decide +kernel
theorem dX10_takesOut_46 : decode cX10_takesOut 46 = .ok (.iaload, 1) := by decide +kernel
theorem dX10_takesOut_47 : decode cX10_takesOut 47 = .ok (.iastore, 1) := by decide +kernel
theorem dX10_takesOut_48 : decode cX10_takesOut 48 = .ok (.iinc 2 1, 3) := by decide +kernel
theorem dX10_takesOut_51 : decode cX10_takesOut 51 = .ok (.goto (-33), 3) := by decide +kernel
theorem dX10_takesOut_54 : decode cX10_takesOut 54 = .ok (.return_, 1) := by decide +kernel
theorem dX10_isSetting_0 : decode cX10_isSetting 0 = .ok (.iload_n 0, 1) := by decide +kernel
theorem dX10_isSetting_1 : decode cX10_isSetting 1 = .ok (.ifCond .ne 15, 3) := by decide +kernel
theorem dX10_isSetting_4 : decode cX10_isSetting 4 = .ok (.iload_n 1, 1) := by decide +kernel
theorem dX10_isSetting_5 : decode cX10_isSetting 5 = .ok (.i2l, 1) := by decide +kernel
theorem dX10_isSetting_6 : decode cX10_isSetting 6 = .ok (.lconst 1, 1) := by decide +kernel
theorem dX10_isSetting_7 : decode cX10_isSetting 7 = .ok (.ldc2_w 93, 3) := by decide +kernel
theorem dX10_isSetting_10 : decode cX10_isSetting 10 = .ok (.invokestatic 51, 3) := by decide +kernel
theorem dX10_isSetting_13 : decode cX10_isSetting 13 = .ok (.goto 42, 3) := by decide +kernel
theorem dX10_isSetting_16 : decode cX10_isSetting 16 = .ok (.iload_n 0, 1) := by decide +kernel
theorem dX10_isSetting_17 : decode cX10_isSetting 17 = .ok (.iconst 1, 1) := by decide +kernel
theorem dX10_isSetting_18 : decode cX10_isSetting 18 = .ok (.if_icmp .ne 15, 3) := by decide +kernel
theorem dX10_isSetting_21 : decode cX10_isSetting 21 = .ok (.iload_n 1, 1) := by decide +kernel
theorem dX10_isSetting_22 : decode cX10_isSetting 22 = .ok (.i2l, 1) := by decide +kernel
theorem dX10_isSetting_23 : decode cX10_isSetting 23 = .ok (.lconst 1, 1) := by decide +kernel
theorem dX10_isSetting_24 : decode cX10_isSetting 24 = .ok (.ldc2_w 95, 3) := by decide +kernel
theorem dX10_isSetting_27 : decode cX10_isSetting 27 = .ok (.invokestatic 51, 3) := by decide +kernel
theorem dX10_isSetting_30 : decode cX10_isSetting 30 = .ok (.goto 25, 3) := by decide +kernel
theorem dX10_isSetting_33 : decode cX10_isSetting 33 = .ok (.iload_n 0, 1) := by decide +kernel
theorem dX10_isSetting_34 : decode cX10_isSetting 34 = .ok (.iconst 2, 1) := by decide +kernel
theorem dX10_isSetting_35 : decode cX10_isSetting 35 = .ok (.if_icmp .ne 19, 3) := by decide +kernel
theorem dX10_isSetting_38 : decode cX10_isSetting 38 = .ok (.iload_n 1, 1) := by decide +kernel
theorem dX10_isSetting_39 : decode cX10_isSetting 39 = .ok (.i2l, 1) := by decide +kernel
theorem dX10_isSetting_40 : decode cX10_isSetting 40 = .ok (.lconst 0, 1) := by decide +kernel
theorem dX10_isSetting_41 : decode cX10_isSetting 41 = .ok (.ldc2_w 97, 3) := by decide +kernel
theorem dX10_isSetting_44 : decode cX10_isSetting 44 = .ok (.invokestatic 51, 3) := by decide +kernel
theorem dX10_isSetting_47 : decode cX10_isSetting 47 = .ok (.ifCond .eq 7, 3) := by decide +kernel
theorem dX10_isSetting_50 : decode cX10_isSetting 50 = .ok (.iconst 1, 1) := by decide +kernel
theorem dX10_isSetting_51 : decode cX10_isSetting 51 = .ok (.goto 4, 3) := by decide +kernel
theorem dX10_isSetting_54 : decode cX10_isSetting 54 = .ok (.iconst 0, 1) := by decide +kernel
theorem dX10_isSetting_55 : decode cX10_isSetting 55 = .ok (.ireturn, 1) := by decide +kernel
theorem dX10_doMirror_0 : decode cX10_doMirror 0 = .ok (.iload_n 1, 1) := by decide +kernel
theorem dX10_doMirror_1 : decode cX10_doMirror 1 = .ok (.iload_n 2, 1) := by decide +kernel
theorem dX10_doMirror_2 : decode cX10_doMirror 2 = .ok (.invokestatic 99, 3) := by decide +kernel
theorem dX10_doMirror_5 : decode cX10_doMirror 5 = .ok (.ifCond .eq 15, 3) := by decide +kernel
theorem dX10_doMirror_8 : decode cX10_doMirror 8 = .ok (.iload_n 3, 1) := by decide +kernel
theorem dX10_doMirror_9 : decode cX10_doMirror 9 = .ok (.i2l, 1) := by decide +kernel
theorem dX10_doMirror_10 : decode cX10_doMirror 10 = .ok (.lconst 0, 1) := by decide +kernel
theorem dX10_doMirror_11 : decode cX10_doMirror 11 = .ok (.ldc2_w 103, 3) := by decide +kernel
theorem dX10_doMirror_14 : decode cX10_doMirror 14 = .ok (.invokestatic 51, 3) := by decide +kernel
theorem dX10_doMirror_17 : decode cX10_doMirror 17 = .ok (.ifCond .ne 6, 3) := by decide +kernel
theorem dX10_doMirror_20 : decode cX10_doMirror 20 = .ok (.bipush (-2), 2) := by decide +kernel
theorem dX10_doMirror_22 : decode cX10_doMirror 22 = .ok (.ireturn, 1) := by decide +kernel
theorem dX10_doMirror_23 : decode cX10_doMirror 23 = .ok (.aload_n 0, 1) := by decide +kernel
theorem dX10_doMirror_24 : decode cX10_doMirror 24 = .ok (.iload_n 1, 1) := by decide +kernel
theorem dX10_doMirror_25 : decode cX10_doMirror 25 = .ok (.iload_n 2, 1) := by decide +kernel
theorem dX10_doMirror_26 : decode cX10_doMirror 26 = .ok (.invokevirtual 64, 3) := by decide +kernel
theorem dX10_doMirror_29 : decode cX10_doMirror 29 = .ok (.bipush (-6), 2) := by decide +kernel
theorem dX10_doMirror_31 : decode cX10_doMirror 31 = .ok (.if_icmp .eq 6, 3) := by decide +kernel
theorem dX10_doMirror_34 : decode cX10_doMirror 34 = .ok (.bipush (-5), 2) := by decide +kernel
theorem dX10_doMirror_36 : decode cX10_doMirror 36 = .ok (.ireturn, 1) := by decide +kernel
theorem dX10_doMirror_37 : decode cX10_doMirror 37 = .ok (.aload_n 0, 1) := by decide +kernel
theorem dX10_doMirror_38 : decode cX10_doMirror 38 = .ok (.getfield 7, 3) := by decide +kernel
theorem dX10_doMirror_41 : decode cX10_doMirror 41 = .ok (.bipush 6, 2) := by decide +kernel
theorem dX10_doMirror_43 : decode cX10_doMirror 43 = .ok (.iaload, 1) := by decide +kernel
theorem dX10_doMirror_44 : decode cX10_doMirror 44 = .ok (.bipush 24, 2) := by decide +kernel
theorem dX10_doMirror_46 : decode cX10_doMirror 46 = .ok (.if_icmp .ne 6, 3) := by decide +kernel
theorem dX10_doMirror_49 : decode cX10_doMirror 49 = .ok (.bipush (-4), 2) := by decide +kernel
theorem dX10_doMirror_51 : decode cX10_doMirror 51 = .ok (.ireturn, 1) := by decide +kernel
theorem dX10_doMirror_52 : decode cX10_doMirror 52 = .ok (.aload_n 0, 1) := by decide +kernel
theorem dX10_doMirror_53 : decode cX10_doMirror 53 = .ok (.iload_n 1, 1) := by decide +kernel
theorem dX10_doMirror_54 : decode cX10_doMirror 54 = .ok (.iload_n 2, 1) := by decide +kernel
theorem dX10_doMirror_55 : decode cX10_doMirror 55 = .ok (.iload_n 3, 1) := by decide +kernel
theorem dX10_doMirror_56 : decode cX10_doMirror 56 = .ok (.invokevirtual 105, 3) := by decide +kernel
theorem dX10_doMirror_59 : decode cX10_doMirror 59 = .ok (.aload_n 0, 1) := by decide +kernel
theorem dX10_doMirror_60 : decode cX10_doMirror 60 = .ok (.getfield 7, 3) := by decide +kernel
theorem dX10_doMirror_63 : decode cX10_doMirror 63 = .ok (.bipush 6, 2) := by decide +kernel
theorem dX10_doMirror_65 : decode cX10_doMirror 65 = .ok (.iaload, 1) := by decide +kernel
theorem dX10_doMirror_66 : decode cX10_doMirror 66 = .ok (.iconst 1, 1) := by decide +kernel
theorem dX10_doMirror_67 : decode cX10_doMirror 67 = .ok (.isub, 1) := by decide +kernel
theorem dX10_doMirror_68 : decode cX10_doMirror 68 = .ok (.ireturn, 1) := by decide +kernel
theorem dX10_doTake_0 : decode cX10_doTake 0 = .ok (.aload_n 0, 1) := by decide +kernel
theorem dX10_doTake_1 : decode cX10_doTake 1 = .ok (.iload_n 1, 1) := by decide +kernel
theorem dX10_doTake_2 : decode cX10_doTake 2 = .ok (.invokevirtual 108, 3) := by decide +kernel
theorem dX10_doTake_5 : decode cX10_doTake 5 = .ok (.ifCond .ne 5, 3) := by decide +kernel
theorem dX10_doTake_8 : decode cX10_doTake 8 = .ok (.iconst (-1), 1) := by decide +kernel
theorem dX10_doTake_9 : decode cX10_doTake 9 = .ok (.ireturn, 1) := by decide +kernel
theorem dX10_doTake_10 : decode cX10_doTake 10 = .ok (.aload_n 0, 1) := by decide +kernel
theorem dX10_doTake_11 : decode cX10_doTake 11 = .ok (.iload_n 1, 1) := by decide +kernel
theorem dX10_doTake_12 : decode cX10_doTake 12 = .ok (.invokevirtual 111, 3) := by decide +kernel
theorem dX10_doTake_15 : decode cX10_doTake 15 = .ok (.aload_n 0, 1) := by decide +kernel
theorem dX10_doTake_16 : decode cX10_doTake 16 = .ok (.getfield 7, 3) := by decide +kernel
theorem dX10_doTake_19 : decode cX10_doTake 19 = .ok (.bipush 6, 2) := by decide +kernel
theorem dX10_doTake_21 : decode cX10_doTake 21 = .ok (.iaload, 1) := by decide +kernel
theorem dX10_doTake_22 : decode cX10_doTake 22 = .ok (.ireturn, 1) := by decide +kernel
theorem dX10_doAim_0 : decode cX10_doAim 0 = .ok (.aload_n 0, 1) := by decide +kernel
theorem dX10_doAim_1 : decode cX10_doAim 1 = .ok (.iload_n 1, 1) := by decide +kernel
theorem dX10_doAim_2 : decode cX10_doAim 2 = .ok (.invokevirtual 108, 3) := by decide +kernel
theorem dX10_doAim_5 : decode cX10_doAim 5 = .ok (.ifCond .ne 5, 3) := by decide +kernel
theorem dX10_doAim_8 : decode cX10_doAim 8 = .ok (.iconst (-1), 1) := by decide +kernel
theorem dX10_doAim_9 : decode cX10_doAim 9 = .ok (.ireturn, 1) := by decide +kernel
theorem dX10_doAim_10 : decode cX10_doAim 10 = .ok (.iload_n 2, 1) := by decide +kernel
theorem dX10_doAim_11 : decode cX10_doAim 11 = .ok (.i2l, 1) := by decide +kernel
theorem dX10_doAim_12 : decode cX10_doAim 12 = .ok (.lconst 0, 1) := by decide +kernel
theorem dX10_doAim_13 : decode cX10_doAim 13 = .ok (.ldc2_w 103, 3) := by decide +kernel
theorem dX10_doAim_16 : decode cX10_doAim 16 = .ok (.invokestatic 51, 3) := by decide +kernel
theorem dX10_doAim_19 : decode cX10_doAim 19 = .ok (.ifCond .ne 6, 3) := by decide +kernel
theorem dX10_doAim_22 : decode cX10_doAim 22 = .ok (.bipush (-2), 2) := by decide +kernel
theorem dX10_doAim_24 : decode cX10_doAim 24 = .ok (.ireturn, 1) := by decide +kernel
theorem dX10_doAim_25 : decode cX10_doAim 25 = .ok (.aload_n 0, 1) := by decide +kernel
theorem dX10_doAim_26 : decode cX10_doAim 26 = .ok (.iload_n 1, 1) := by decide +kernel
theorem dX10_doAim_27 : decode cX10_doAim 27 = .ok (.iconst 2, 1) := by decide +kernel
theorem dX10_doAim_28 : decode cX10_doAim 28 = .ok (.invokevirtual 57, 3) := by decide +kernel
theorem dX10_doAim_31 : decode cX10_doAim 31 = .ok (.istore_n 3, 1) := by decide +kernel
theorem dX10_doAim_32 : decode cX10_doAim 32 = .ok (.aload_n 0, 1) := by decide +kernel
theorem dX10_doAim_33 : decode cX10_doAim 33 = .ok (.iload_n 1, 1) := by decide +kernel
theorem dX10_doAim_34 : decode cX10_doAim 34 = .ok (.iconst 2, 1) := by decide +kernel
theorem dX10_doAim_35 : decode cX10_doAim 35 = .ok (.iload_n 2, 1) := by decide +kernel
theorem dX10_doAim_36 : decode cX10_doAim 36 = .ok (.invokevirtual 89, 3) := by decide +kernel
theorem dX10_doAim_39 : decode cX10_doAim 39 = .ok (.iload_n 3, 1) := by decide +kernel
theorem dX10_doAim_40 : decode cX10_doAim 40 = .ok (.ireturn, 1) := by decide +kernel
theorem dX10_doWash_0 : decode cX10_doWash 0 = .ok (.aload_n 0, 1) := by decide +kernel
theorem dX10_doWash_1 : decode cX10_doWash 1 = .ok (.iload_n 1, 1) := by decide +kernel
theorem dX10_doWash_2 : decode cX10_doWash 2 = .ok (.invokevirtual 108, 3) := by decide +kernel
theorem dX10_doWash_5 : decode cX10_doWash 5 = .ok (.ifCond .ne 5, 3) := by decide +kernel
theorem dX10_doWash_8 : decode cX10_doWash 8 = .ok (.iconst (-1), 1) := by decide +kernel
theorem dX10_doWash_9 : decode cX10_doWash 9 = .ok (.ireturn, 1) := by decide +kernel
theorem dX10_doWash_10 : decode cX10_doWash 10 = .ok (.aload_n 0, 1) := by decide +kernel
theorem dX10_doWash_11 : decode cX10_doWash 11 = .ok (.iload_n 1, 1) := by decide +kernel
theorem dX10_doWash_12 : decode cX10_doWash 12 = .ok (.iconst 3, 1) := by decide +kernel
theorem dX10_doWash_13 : decode cX10_doWash 13 = .ok (.invokevirtual 57, 3) := by decide +kernel
theorem dX10_doWash_16 : decode cX10_doWash 16 = .ok (.istore_n 2, 1) := by decide +kernel
theorem dX10_doWash_17 : decode cX10_doWash 17 = .ok (.aload_n 0, 1) := by decide +kernel
theorem dX10_doWash_18 : decode cX10_doWash 18 = .ok (.iload_n 1, 1) := by decide +kernel
theorem dX10_doWash_19 : decode cX10_doWash 19 = .ok (.iconst 3, 1) := by decide +kernel
theorem dX10_doWash_20 : decode cX10_doWash 20 = .ok (.iconst 0, 1) := by decide +kernel
theorem dX10_doWash_21 : decode cX10_doWash 21 = .ok (.invokevirtual 89, 3) := by decide +kernel
theorem dX10_doWash_24 : decode cX10_doWash 24 = .ok (.iload_n 2, 1) := by decide +kernel
theorem dX10_doWash_25 : decode cX10_doWash 25 = .ok (.ireturn, 1) := by decide +kernel
theorem dX10_doWind_0 : decode cX10_doWind 0 = .ok (.iload_n 1, 1) := by decide +kernel
theorem dX10_doWind_1 : decode cX10_doWind 1 = .ok (.i2l, 1) := by decide +kernel
theorem dX10_doWind_2 : decode cX10_doWind 2 = .ok (.lconst 0, 1) := by decide +kernel
theorem dX10_doWind_3 : decode cX10_doWind 3 = .ok (.ldc2_w 95, 3) := by decide +kernel
theorem dX10_doWind_6 : decode cX10_doWind 6 = .ok (.invokestatic 51, 3) := by decide +kernel
theorem dX10_doWind_9 : decode cX10_doWind 9 = .ok (.ifCond .ne 6, 3) := by decide +kernel
theorem dX10_doWind_12 : decode cX10_doWind 12 = .ok (.bipush (-2), 2) := by decide +kernel
theorem dX10_doWind_14 : decode cX10_doWind 14 = .ok (.ireturn, 1) := by decide +kernel
theorem dX10_doWind_15 : decode cX10_doWind 15 = .ok (.aload_n 0, 1) := by decide +kernel
theorem dX10_doWind_16 : decode cX10_doWind 16 = .ok (.getfield 7, 3) := by decide +kernel
theorem dX10_doWind_19 : decode cX10_doWind 19 = .ok (.iconst 4, 1) := by decide +kernel
theorem dX10_doWind_20 : decode cX10_doWind 20 = .ok (.iload_n 1, 1) := by decide +kernel
theorem dX10_doWind_21 : decode cX10_doWind 21 = .ok (.iastore, 1) := by decide +kernel
theorem dX10_doWind_22 : decode cX10_doWind 22 = .ok (.aload_n 0, 1) := by decide +kernel
theorem dX10_doWind_23 : decode cX10_doWind 23 = .ok (.invokevirtual 69, 3) := by decide +kernel
theorem dX10_doWind_26 : decode cX10_doWind 26 = .ok (.ifCond .eq 7, 3) := by decide +kernel
theorem dX10_doWind_29 : decode cX10_doWind 29 = .ok (.iconst 1, 1) := by decide +kernel
theorem dX10_doWind_30 : decode cX10_doWind 30 = .ok (.goto 4, 3) := by decide +kernel
theorem dX10_doWind_33 : decode cX10_doWind 33 = .ok (.iconst 0, 1) := by decide +kernel
theorem dX10_doWind_34 : decode cX10_doWind 34 = .ok (.ireturn, 1) := by decide +kernel
theorem dX10_doPass_0 : decode cX10_doPass 0 = .ok (.iload_n 1, 1) := by decide +kernel
theorem dX10_doPass_1 : decode cX10_doPass 1 = .ok (.i2l, 1) := by decide +kernel
theorem dX10_doPass_2 : decode cX10_doPass 2 = .ok (.lconst 1, 1) := by decide +kernel
theorem dX10_doPass_3 : decode cX10_doPass 3 = .ok (.ldc2_w 95, 3) := by decide +kernel
theorem dX10_doPass_6 : decode cX10_doPass 6 = .ok (.invokestatic 51, 3) := by decide +kernel
theorem dX10_doPass_9 : decode cX10_doPass 9 = .ok (.ifCond .ne 6, 3) := by decide +kernel
theorem dX10_doPass_12 : decode cX10_doPass 12 = .ok (.bipush (-2), 2) := by decide +kernel
theorem dX10_doPass_14 : decode cX10_doPass 14 = .ok (.ireturn, 1) := by decide +kernel
theorem dX10_doPass_15 : decode cX10_doPass 15 = .ok (.aload_n 0, 1) := by decide +kernel
theorem dX10_doPass_16 : decode cX10_doPass 16 = .ok (.getfield 7, 3) := by decide +kernel
theorem dX10_doPass_19 : decode cX10_doPass 19 = .ok (.iconst 3, 1) := by decide +kernel
theorem dX10_doPass_20 : decode cX10_doPass 20 = .ok (.iaload, 1) := by decide +kernel
theorem dX10_doPass_21 : decode cX10_doPass 21 = .ok (.iload_n 1, 1) := by decide +kernel
theorem dX10_doPass_22 : decode cX10_doPass 22 = .ok (.iadd, 1) := by decide +kernel
theorem dX10_doPass_23 : decode cX10_doPass 23 = .ok (.sipush 999, 3) := by decide +kernel
theorem dX10_doPass_26 : decode cX10_doPass 26 = .ok (.if_icmp .le 6, 3) := by decide +kernel
theorem dX10_doPass_29 : decode cX10_doPass 29 = .ok (.bipush (-5), 2) := by decide +kernel
theorem dX10_doPass_31 : decode cX10_doPass 31 = .ok (.ireturn, 1) := by decide +kernel
theorem dX10_doPass_32 : decode cX10_doPass 32 = .ok (.aload_n 0, 1) := by decide +kernel
theorem dX10_doPass_33 : decode cX10_doPass 33 = .ok (.getfield 7, 3) := by decide +kernel
theorem dX10_doPass_36 : decode cX10_doPass 36 = .ok (.iconst 5, 1) := by decide +kernel
theorem dX10_doPass_37 : decode cX10_doPass 37 = .ok (.iaload, 1) := by decide +kernel
theorem dX10_doPass_38 : decode cX10_doPass 38 = .ok (.istore_n 2, 1) := by decide +kernel
theorem dX10_doPass_39 : decode cX10_doPass 39 = .ok (.iconst 0, 1) := by decide +kernel
theorem dX10_doPass_40 : decode cX10_doPass 40 = .ok (.istore_n 3, 1) := by decide +kernel
theorem dX10_doPass_41 : decode cX10_doPass 41 = .ok (.iload_n 3, 1) := by decide +kernel
theorem dX10_doPass_42 : decode cX10_doPass 42 = .ok (.iload_n 1, 1) := by decide +kernel
theorem dX10_doPass_43 : decode cX10_doPass 43 = .ok (.if_icmp .ge 13, 3) := by decide +kernel
theorem dX10_doPass_46 : decode cX10_doPass 46 = .ok (.aload_n 0, 1) := by decide +kernel
theorem dX10_doPass_47 : decode cX10_doPass 47 = .ok (.invokevirtual 115, 3) := by decide +kernel
theorem dX10_doPass_50 : decode cX10_doPass 50 = .ok (.iinc 3 1, 3) := by decide +kernel
theorem dX10_doPass_53 : decode cX10_doPass 53 = .ok (.goto (-12), 3) := by decide +kernel
theorem dX10_doPass_56 : decode cX10_doPass 56 = .ok (.aload_n 0, 1) := by decide +kernel
theorem dX10_doPass_57 : decode cX10_doPass 57 = .ok (.getfield 7, 3) := by decide +kernel
theorem dX10_doPass_60 : decode cX10_doPass 60 = .ok (.iconst 5, 1) := by decide +kernel
theorem dX10_doPass_61 : decode cX10_doPass 61 = .ok (.iaload, 1) := by decide +kernel
theorem dX10_doPass_62 : decode cX10_doPass 62 = .ok (.iload_n 2, 1) := by decide +kernel
theorem dX10_doPass_63 : decode cX10_doPass 63 = .ok (.isub, 1) := by decide +kernel
theorem dX10_doPass_64 : decode cX10_doPass 64 = .ok (.ireturn, 1) := by decide +kernel
theorem dX10_ends_0 : decode cX10_ends 0 = .ok (.iload_n 1, 1) := by decide +kernel
theorem dX10_ends_1 : decode cX10_ends 1 = .ok (.ifCond .ge 7, 3) := by decide +kernel
theorem dX10_ends_4 : decode cX10_ends 4 = .ok (.iload_n 1, 1) := by decide +kernel
theorem dX10_ends_5 : decode cX10_ends 5 = .ok (.goto 8, 3) := by decide +kernel
theorem dX10_ends_8 : decode cX10_ends 8 = .ok (.aload_n 0, 1) := by decide +kernel
theorem dX10_ends_9 : decode cX10_ends 9 = .ok (.iload_n 1, 1) := by decide +kernel
theorem dX10_ends_10 : decode cX10_ends 10 = .ok (.invokevirtual 118, 3) := by decide +kernel
theorem dX10_ends_13 : decode cX10_ends 13 = .ok (.ireturn, 1) := by decide +kernel
theorem dX10_set_0 : decode cX10_set 0 = .ok (.iload_n 1, 1) := by decide +kernel
theorem dX10_set_1 : decode cX10_set 1 = .ok (.iload_n 2, 1) := by decide +kernel
theorem dX10_set_2 : decode cX10_set 2 = .ok (.invokestatic 121, 3) := by decide +kernel
theorem dX10_set_5 : decode cX10_set 5 = .ok (.ifCond .ne 6, 3) := by decide +kernel
theorem dX10_set_8 : decode cX10_set 8 = .ok (.bipush (-2), 2) := by decide +kernel
theorem dX10_set_10 : decode cX10_set 10 = .ok (.ireturn, 1) := by decide +kernel
theorem dX10_set_11 : decode cX10_set 11 = .ok (.aload_n 0, 1) := by decide +kernel
theorem dX10_set_12 : decode cX10_set 12 = .ok (.getfield 7, 3) := by decide +kernel
theorem dX10_set_15 : decode cX10_set 15 = .ok (.aload_n 0, 1) := by decide +kernel
theorem dX10_set_16 : decode cX10_set 16 = .ok (.getfield 13, 3) := by decide +kernel
theorem dX10_set_19 : decode cX10_set 19 = .ok (.invokestatic 124, 3) := by decide +kernel
theorem dX10_set_22 : decode cX10_set 22 = .ok (.aload_n 0, 1) := by decide +kernel
theorem dX10_set_23 : decode cX10_set 23 = .ok (.getfield 7, 3) := by decide +kernel
theorem dX10_set_26 : decode cX10_set 26 = .ok (.iload_n 1, 1) := by decide +kernel
theorem dX10_set_27 : decode cX10_set 27 = .ok (.iload_n 2, 1) := by decide +kernel
theorem dX10_set_28 : decode cX10_set 28 = .ok (.iastore, 1) := by decide +kernel
theorem dX10_set_29 : decode cX10_set 29 = .ok (.aload_n 0, 1) := by decide +kernel
theorem dX10_set_30 : decode cX10_set 30 = .ok (.aload_n 0, 1) := by decide +kernel
theorem dX10_set_31 : decode cX10_set 31 = .ok (.getfield 13, 3) := by decide +kernel
theorem dX10_set_34 : decode cX10_set 34 = .ok (.iload_n 1, 1) := by decide +kernel
theorem dX10_set_35 : decode cX10_set 35 = .ok (.iaload, 1) := by decide +kernel
theorem dX10_set_36 : decode cX10_set 36 = .ok (.invokevirtual 118, 3) := by decide +kernel
theorem dX10_set_39 : decode cX10_set 39 = .ok (.ireturn, 1) := by decide +kernel
theorem dX10_mirror_0 : decode cX10_mirror 0 = .ok (.aload_n 0, 1) := by decide +kernel
theorem dX10_mirror_1 : decode cX10_mirror 1 = .ok (.getfield 7, 3) := by decide +kernel
theorem dX10_mirror_4 : decode cX10_mirror 4 = .ok (.aload_n 0, 1) := by decide +kernel
theorem dX10_mirror_5 : decode cX10_mirror 5 = .ok (.getfield 13, 3) := by decide +kernel
theorem dX10_mirror_8 : decode cX10_mirror 8 = .ok (.invokestatic 124, 3) := by decide +kernel
theorem dX10_mirror_11 : decode cX10_mirror 11 = .ok (.aload_n 0, 1) := by decide +kernel
theorem dX10_mirror_12 : decode cX10_mirror 12 = .ok (.aload_n 0, 1) := by decide +kernel
theorem dX10_mirror_13 : decode cX10_mirror 13 = .ok (.iload_n 1, 1) := by decide +kernel
theorem dX10_mirror_14 : decode cX10_mirror 14 = .ok (.iload_n 2, 1) := by decide +kernel
theorem dX10_mirror_15 : decode cX10_mirror 15 = .ok (.iload_n 3, 1) := by decide +kernel
theorem dX10_mirror_16 : decode cX10_mirror 16 = .ok (.invokevirtual 128, 3) := by decide +kernel
theorem dX10_mirror_19 : decode cX10_mirror 19 = .ok (.invokevirtual 132, 3) := by decide +kernel
theorem dX10_mirror_22 : decode cX10_mirror 22 = .ok (.ireturn, 1) := by decide +kernel
theorem dX10_take_0 : decode cX10_take 0 = .ok (.aload_n 0, 1) := by decide +kernel
theorem dX10_take_1 : decode cX10_take 1 = .ok (.getfield 7, 3) := by decide +kernel
theorem dX10_take_4 : decode cX10_take 4 = .ok (.aload_n 0, 1) := by decide +kernel
theorem dX10_take_5 : decode cX10_take 5 = .ok (.getfield 13, 3) := by decide +kernel
theorem dX10_take_8 : decode cX10_take 8 = .ok (.invokestatic 124, 3) := by decide +kernel
theorem dX10_take_11 : decode cX10_take 11 = .ok (.aload_n 0, 1) := by decide +kernel
theorem dX10_take_12 : decode cX10_take 12 = .ok (.aload_n 0, 1) := by decide +kernel
theorem dX10_take_13 : decode cX10_take 13 = .ok (.iload_n 1, 1) := by decide +kernel
theorem dX10_take_14 : decode cX10_take 14 = .ok (.invokevirtual 135, 3) := by decide +kernel
theorem dX10_take_17 : decode cX10_take 17 = .ok (.invokevirtual 132, 3) := by decide +kernel
theorem dX10_take_20 : decode cX10_take 20 = .ok (.ireturn, 1) := by decide +kernel
theorem dX10_aim_0 : decode cX10_aim 0 = .ok (.aload_n 0, 1) := by decide +kernel
theorem dX10_aim_1 : decode cX10_aim 1 = .ok (.getfield 7, 3) := by decide +kernel
theorem dX10_aim_4 : decode cX10_aim 4 = .ok (.aload_n 0, 1) := by decide +kernel
theorem dX10_aim_5 : decode cX10_aim 5 = .ok (.getfield 13, 3) := by decide +kernel
theorem dX10_aim_8 : decode cX10_aim 8 = .ok (.invokestatic 124, 3) := by decide +kernel
theorem dX10_aim_11 : decode cX10_aim 11 = .ok (.aload_n 0, 1) := by decide +kernel
theorem dX10_aim_12 : decode cX10_aim 12 = .ok (.aload_n 0, 1) := by decide +kernel
theorem dX10_aim_13 : decode cX10_aim 13 = .ok (.iload_n 1, 1) := by decide +kernel
theorem dX10_aim_14 : decode cX10_aim 14 = .ok (.iload_n 2, 1) := by decide +kernel
theorem dX10_aim_15 : decode cX10_aim 15 = .ok (.invokevirtual 138, 3) := by decide +kernel
theorem dX10_aim_18 : decode cX10_aim 18 = .ok (.invokevirtual 132, 3) := by decide +kernel
theorem dX10_aim_21 : decode cX10_aim 21 = .ok (.ireturn, 1) := by decide +kernel
theorem dX10_wash_0 : decode cX10_wash 0 = .ok (.aload_n 0, 1) := by decide +kernel
theorem dX10_wash_1 : decode cX10_wash 1 = .ok (.getfield 7, 3) := by decide +kernel
theorem dX10_wash_4 : decode cX10_wash 4 = .ok (.aload_n 0, 1) := by decide +kernel
theorem dX10_wash_5 : decode cX10_wash 5 = .ok (.getfield 13, 3) := by decide +kernel
theorem dX10_wash_8 : decode cX10_wash 8 = .ok (.invokestatic 124, 3) := by decide +kernel
theorem dX10_wash_11 : decode cX10_wash 11 = .ok (.aload_n 0, 1) := by decide +kernel
theorem dX10_wash_12 : decode cX10_wash 12 = .ok (.aload_n 0, 1) := by decide +kernel
theorem dX10_wash_13 : decode cX10_wash 13 = .ok (.iload_n 1, 1) := by decide +kernel
theorem dX10_wash_14 : decode cX10_wash 14 = .ok (.invokevirtual 141, 3) := by decide +kernel
theorem dX10_wash_17 : decode cX10_wash 17 = .ok (.invokevirtual 132, 3) := by decide +kernel
theorem dX10_wash_20 : decode cX10_wash 20 = .ok (.ireturn, 1) := by decide +kernel
theorem dX10_wind_0 : decode cX10_wind 0 = .ok (.aload_n 0, 1) := by decide +kernel
theorem dX10_wind_1 : decode cX10_wind 1 = .ok (.getfield 7, 3) := by decide +kernel
theorem dX10_wind_4 : decode cX10_wind 4 = .ok (.aload_n 0, 1) := by decide +kernel
theorem dX10_wind_5 : decode cX10_wind 5 = .ok (.getfield 13, 3) := by decide +kernel
theorem dX10_wind_8 : decode cX10_wind 8 = .ok (.invokestatic 124, 3) := by decide +kernel
theorem dX10_wind_11 : decode cX10_wind 11 = .ok (.aload_n 0, 1) := by decide +kernel
theorem dX10_wind_12 : decode cX10_wind 12 = .ok (.aload_n 0, 1) := by decide +kernel
theorem dX10_wind_13 : decode cX10_wind 13 = .ok (.iload_n 1, 1) := by decide +kernel
theorem dX10_wind_14 : decode cX10_wind 14 = .ok (.invokevirtual 144, 3) := by decide +kernel
theorem dX10_wind_17 : decode cX10_wind 17 = .ok (.invokevirtual 132, 3) := by decide +kernel
theorem dX10_wind_20 : decode cX10_wind 20 = .ok (.ireturn, 1) := by decide +kernel
theorem dX10_pass_0 : decode cX10_pass 0 = .ok (.aload_n 0, 1) := by decide +kernel
theorem dX10_pass_1 : decode cX10_pass 1 = .ok (.getfield 7, 3) := by decide +kernel
theorem dX10_pass_4 : decode cX10_pass 4 = .ok (.aload_n 0, 1) := by decide +kernel
theorem dX10_pass_5 : decode cX10_pass 5 = .ok (.getfield 13, 3) := by decide +kernel
theorem dX10_pass_8 : decode cX10_pass 8 = .ok (.invokestatic 124, 3) := by decide +kernel
theorem dX10_pass_11 : decode cX10_pass 11 = .ok (.aload_n 0, 1) := by decide +kernel
theorem dX10_pass_12 : decode cX10_pass 12 = .ok (.aload_n 0, 1) := by decide +kernel
theorem dX10_pass_13 : decode cX10_pass 13 = .ok (.iload_n 1, 1) := by decide +kernel
theorem dX10_pass_14 : decode cX10_pass 14 = .ok (.invokevirtual 147, 3) := by decide +kernel
theorem dX10_pass_17 : decode cX10_pass 17 = .ok (.invokevirtual 132, 3) := by decide +kernel
theorem dX10_pass_20 : decode cX10_pass 20 = .ok (.ireturn, 1) := by decide +kernel
theorem dX10_of_0 : decode cX10_of 0 = .ok (.aload_n 0, 1) := by decide +kernel
theorem dX10_of_1 : decode cX10_of 1 = .ok (.iload_n 1, 1) := by decide +kernel
theorem dX10_of_2 : decode cX10_of 2 = .ok (.invokevirtual 108, 3) := by decide +kernel
theorem dX10_of_5 : decode cX10_of 5 = .ok (.ifCond .ne 5, 3) := by decide +kernel
theorem dX10_of_8 : decode cX10_of 8 = .ok (.iconst (-1), 1) := by decide +kernel
theorem dX10_of_9 : decode cX10_of 9 = .ok (.ireturn, 1) := by decide +kernel
theorem dX10_of_10 : decode cX10_of 10 = .ok (.iload_n 2, 1) := by decide +kernel
theorem dX10_of_11 : decode cX10_of 11 = .ok (.i2l, 1) := by decide +kernel
theorem dX10_of_12 : decode cX10_of 12 = .ok (.lconst 0, 1) := by decide +kernel
theorem dX10_of_13 : decode cX10_of 13 = .ok (.ldc2_w 103, 3) := by decide +kernel
theorem dX10_of_16 : decode cX10_of 16 = .ok (.invokestatic 51, 3) := by decide +kernel
theorem dX10_of_19 : decode cX10_of 19 = .ok (.ifCond .eq 12, 3) := by decide +kernel
theorem dX10_of_22 : decode cX10_of 22 = .ok (.aload_n 0, 1) := by decide +kernel
theorem dX10_of_23 : decode cX10_of 23 = .ok (.iload_n 1, 1) := by decide +kernel
theorem dX10_of_24 : decode cX10_of 24 = .ok (.iload_n 2, 1) := by decide +kernel
theorem dX10_of_25 : decode cX10_of 25 = .ok (.invokevirtual 57, 3) := by decide +kernel
theorem dX10_of_28 : decode cX10_of 28 = .ok (.goto 40, 3) := by decide +kernel
theorem dX10_of_31 : decode cX10_of 31 = .ok (.iload_n 2, 1) := by decide +kernel
theorem dX10_of_32 : decode cX10_of 32 = .ok (.iconst 4, 1) := by decide +kernel
theorem dX10_of_33 : decode cX10_of 33 = .ok (.if_icmp .ne 19, 3) := by decide +kernel
theorem dX10_of_36 : decode cX10_of 36 = .ok (.aload_n 0, 1) := by decide +kernel
theorem dX10_of_37 : decode cX10_of 37 = .ok (.iload_n 1, 1) := by decide +kernel
theorem dX10_of_38 : decode cX10_of 38 = .ok (.invokevirtual 76, 3) := by decide +kernel
theorem dX10_of_41 : decode cX10_of 41 = .ok (.ifCond .eq 7, 3) := by decide +kernel
theorem dX10_of_44 : decode cX10_of 44 = .ok (.iconst 1, 1) := by decide +kernel
theorem dX10_of_45 : decode cX10_of 45 = .ok (.goto 23, 3) := by decide +kernel
theorem dX10_of_48 : decode cX10_of 48 = .ok (.iconst 0, 1) := by decide +kernel
theorem dX10_of_49 : decode cX10_of 49 = .ok (.goto 19, 3) := by decide +kernel
theorem dX10_of_52 : decode cX10_of 52 = .ok (.iload_n 2, 1) := by decide +kernel
theorem dX10_of_53 : decode cX10_of 53 = .ok (.iconst 5, 1) := by decide +kernel
theorem dX10_of_54 : decode cX10_of 54 = .ok (.if_icmp .ne 12, 3) := by decide +kernel
theorem dX10_of_57 : decode cX10_of 57 = .ok (.aload_n 0, 1) := by decide +kernel
theorem dX10_of_58 : decode cX10_of 58 = .ok (.iload_n 1, 1) := by decide +kernel
theorem dX10_of_59 : decode cX10_of 59 = .ok (.iconst 4, 1) := by decide +kernel
theorem dX10_of_60 : decode cX10_of 60 = .ok (.invokevirtual 57, 3) := by decide +kernel
theorem dX10_of_63 : decode cX10_of 63 = .ok (.goto 5, 3) := by decide +kernel
theorem dX10_of_66 : decode cX10_of 66 = .ok (.bipush (-2), 2) := by decide +kernel
theorem dX10_of_68 : decode cX10_of 68 = .ok (.ireturn, 1) := by decide +kernel
theorem dX10_isHour_0 : decode cX10_isHour 0 = .ok (.iload_n 0, 1) := by decide +kernel
theorem dX10_isHour_1 : decode cX10_isHour 1 = .ok (.i2l, 1) := by decide +kernel
theorem dX10_isHour_2 : decode cX10_isHour 2 = .ok (.lconst 0, 1) := by decide +kernel
theorem dX10_isHour_3 : decode cX10_isHour 3 = .ok (.ldc2_w 150, 3) := by decide +kernel
theorem dX10_isHour_6 : decode cX10_isHour 6 = .ok (.invokestatic 51, 3) := by decide +kernel
theorem dX10_isHour_9 : decode cX10_isHour 9 = .ok (.ireturn, 1) := by decide +kernel
theorem dX10_at_0 : decode cX10_at 0 = .ok (.aload_n 0, 1) := by decide +kernel
theorem dX10_at_1 : decode cX10_at 1 = .ok (.iload_n 1, 1) := by decide +kernel
theorem dX10_at_2 : decode cX10_at 2 = .ok (.invokevirtual 108, 3) := by decide +kernel
theorem dX10_at_5 : decode cX10_at 5 = .ok (.ifCond .eq 10, 3) := by decide +kernel
theorem dX10_at_8 : decode cX10_at 8 = .ok (.iload_n 2, 1) := by decide +kernel
theorem dX10_at_9 : decode cX10_at 9 = .ok (.invokestatic 152, 3) := by decide +kernel
theorem dX10_at_12 : decode cX10_at 12 = .ok (.ifCond .ne 5, 3) := by decide +kernel
theorem dX10_at_15 : decode cX10_at 15 = .ok (.iconst (-1), 1) := by decide +kernel
theorem dX10_at_16 : decode cX10_at 16 = .ok (.ireturn, 1) := by decide +kernel
theorem dX10_at_17 : decode cX10_at 17 = .ok (.aload_n 0, 1) := by decide +kernel
theorem dX10_at_18 : decode cX10_at 18 = .ok (.iload_n 1, 1) := by decide +kernel
theorem dX10_at_19 : decode cX10_at 19 = .ok (.iload_n 2, 1) := by decide +kernel
theorem dX10_at_20 : decode cX10_at 20 = .ok (.invokevirtual 73, 3) := by decide +kernel
theorem dX10_at_23 : decode cX10_at 23 = .ok (.istore 4, 2) := by decide +kernel
theorem dX10_at_25 : decode cX10_at 25 = .ok (.aload_n 0, 1) := by decide +kernel
theorem dX10_at_26 : decode cX10_at 26 = .ok (.iload_n 2, 1) := by decide +kernel
theorem dX10_at_27 : decode cX10_at 27 = .ok (.invokevirtual 86, 3) := by decide +kernel
theorem dX10_at_30 : decode cX10_at 30 = .ok (.istore 5, 2) := by decide +kernel
theorem dX10_at_32 : decode cX10_at 32 = .ok (.iload_n 3, 1) := by decide +kernel
theorem dX10_at_33 : decode cX10_at 33 = .ok (.ifCond .ne 18, 3) := by decide +kernel
theorem dX10_at_36 : decode cX10_at 36 = .ok (.iload 4, 2) := by decide +kernel
theorem dX10_at_38 : decode cX10_at 38 = .ok (.bipush (-6), 2) := by decide +kernel
theorem dX10_at_40 : decode cX10_at 40 = .ok (.if_icmp .ne 7, 3) := by decide +kernel
theorem dX10_at_43 : decode cX10_at 43 = .ok (.iconst 0, 1) := by decide +kernel
theorem dX10_at_44 : decode cX10_at 44 = .ok (.goto 47, 3) := by decide +kernel
theorem dX10_at_47 : decode cX10_at 47 = .ok (.iconst 1, 1) := by decide +kernel
theorem dX10_at_48 : decode cX10_at 48 = .ok (.goto 43, 3) := by decide +kernel
theorem dX10_at_51 : decode cX10_at 51 = .ok (.iload_n 3, 1) := by decide +kernel
theorem dX10_at_52 : decode cX10_at 52 = .ok (.iconst 1, 1) := by decide +kernel
theorem dX10_at_53 : decode cX10_at 53 = .ok (.if_icmp .ne 12, 3) := by decide +kernel
theorem dX10_at_56 : decode cX10_at 56 = .ok (.aload_n 0, 1) := by decide +kernel
theorem dX10_at_57 : decode cX10_at 57 = .ok (.getfield 28, 3) := by decide +kernel
theorem dX10_at_60 : decode cX10_at 60 = .ok (.iload_n 1, 1) := by decide +kernel
theorem dX10_at_61 : decode cX10_at 61 = .ok (.iaload, 1) := by decide +kernel
theorem dX10_at_62 : decode cX10_at 62 = .ok (.goto 29, 3) := by decide +kernel
theorem dX10_at_65 : decode cX10_at 65 = .ok (.iload_n 3, 1) := by decide +kernel
theorem dX10_at_66 : decode cX10_at 66 = .ok (.iconst 2, 1) := by decide +kernel
theorem dX10_at_67 : decode cX10_at 67 = .ok (.if_icmp .ne 12, 3) := by decide +kernel
theorem dX10_at_70 : decode cX10_at 70 = .ok (.aload_n 0, 1) := by decide +kernel
theorem dX10_at_71 : decode cX10_at 71 = .ok (.getfield 31, 3) := by decide +kernel
theorem dX10_at_74 : decode cX10_at 74 = .ok (.iload_n 1, 1) := by decide +kernel
theorem dX10_at_75 : decode cX10_at 75 = .ok (.iaload, 1) := by decide +kernel
theorem dX10_at_76 : decode cX10_at 76 = .ok (.goto 15, 3) := by decide +kernel
theorem dX10_at_79 : decode cX10_at 79 = .ok (.iload_n 3, 1) := by decide +kernel
theorem dX10_at_80 : decode cX10_at 80 = .ok (.iconst 3, 1) := by decide +kernel
theorem dX10_at_81 : decode cX10_at 81 = .ok (.if_icmp .ne 8, 3) := by decide +kernel
theorem dX10_at_84 : decode cX10_at 84 = .ok (.iload 4, 2) := by decide +kernel
theorem dX10_at_86 : decode cX10_at 86 = .ok (.goto 5, 3) := by decide +kernel
theorem dX10_at_89 : decode cX10_at 89 = .ok (.bipush (-2), 2) := by decide +kernel
theorem dX10_at_91 : decode cX10_at 91 = .ok (.ireturn, 1) := by decide +kernel
theorem dX10_mirrorsOf_0 : decode cX10_mirrorsOf 0 = .ok (.iconst 0, 1) := by decide +kernel
theorem dX10_mirrorsOf_1 : decode cX10_mirrorsOf 1 = .ok (.istore_n 3, 1) := by decide +kernel
theorem dX10_mirrorsOf_2 : decode cX10_mirrorsOf 2 = .ok (.iconst 0, 1) := by decide +kernel
theorem dX10_mirrorsOf_3 : decode cX10_mirrorsOf 3 = .ok (.istore 4, 2) := by decide +kernel
theorem dX10_mirrorsOf_5 : decode cX10_mirrorsOf 5 = .ok (.iload 4, 2) := by decide +kernel
theorem dX10_mirrorsOf_7 : decode cX10_mirrorsOf 7 = .ok (.aload_n 0, 1) := by decide +kernel
theorem dX10_mirrorsOf_8 : decode cX10_mirrorsOf 8 = .ok (.getfield 7, 3) := by decide +kernel
theorem dX10_mirrorsOf_11 : decode cX10_mirrorsOf 11 = .ok (.bipush 6, 2) := by decide +kernel
theorem dX10_mirrorsOf_13 : decode cX10_mirrorsOf 13 = .ok (.iaload, 1) := by decide +kernel
theorem dX10_mirrorsOf_14 : decode cX10_mirrorsOf 14 = .ok (.if_icmp .ge 46, 3) := by decide +kernel
theorem dX10_mirrorsOf_17 : decode cX10_mirrorsOf 17 = .ok (.iload_n 3, 1) := by decide +kernel
theorem dX10_mirrorsOf_18 : decode cX10_mirrorsOf 18 = .ok (.aload_n 0, 1) := by decide +kernel
theorem dX10_mirrorsOf_19 : decode cX10_mirrorsOf 19 = .ok (.iload 4, 2) := by decide +kernel
theorem dX10_mirrorsOf_21 : decode cX10_mirrorsOf 21 = .ok (.iconst 2, 1) := by decide +kernel
theorem dX10_mirrorsOf_22 : decode cX10_mirrorsOf 22 = .ok (.invokevirtual 57, 3) := by decide +kernel
theorem dX10_mirrorsOf_25 : decode cX10_mirrorsOf 25 = .ok (.iload_n 1, 1) := by decide +kernel
theorem dX10_mirrorsOf_26 : decode cX10_mirrorsOf 26 = .ok (.if_icmp .ne 25, 3) := by decide +kernel
theorem dX10_mirrorsOf_29 : decode cX10_mirrorsOf 29 = .ok (.iload_n 2, 1) := by decide +kernel
theorem dX10_mirrorsOf_30 : decode cX10_mirrorsOf 30 = .ok (.ifCond .eq 14, 3) := by decide +kernel
theorem dX10_mirrorsOf_33 : decode cX10_mirrorsOf 33 = .ok (.aload_n 0, 1) := by decide +kernel
theorem dX10_mirrorsOf_34 : decode cX10_mirrorsOf 34 = .ok (.getfield 31, 3) := by decide +kernel
theorem dX10_mirrorsOf_37 : decode cX10_mirrorsOf 37 = .ok (.iload 4, 2) := by decide +kernel
theorem dX10_mirrorsOf_39 : decode cX10_mirrorsOf 39 = .ok (.iaload, 1) := by decide +kernel
theorem dX10_mirrorsOf_40 : decode cX10_mirrorsOf 40 = .ok (.iconst 1, 1) := by decide +kernel
theorem dX10_mirrorsOf_41 : decode cX10_mirrorsOf 41 = .ok (.if_icmp .ne 10, 3) := by decide +kernel
theorem dX10_mirrorsOf_44 : decode cX10_mirrorsOf 44 = .ok (.iconst 1, 1) := by decide +kernel
theorem dX10_mirrorsOf_45 : decode cX10_mirrorsOf 45 = .ok (.iload 4, 2) := by decide +kernel
theorem dX10_mirrorsOf_47 : decode cX10_mirrorsOf 47 = .ok (.ishl, 1) := by decide +kernel
theorem dX10_mirrorsOf_48 : decode cX10_mirrorsOf 48 = .ok (.goto 4, 3) := by decide +kernel
theorem dX10_mirrorsOf_51 : decode cX10_mirrorsOf 51 = .ok (.iconst 0, 1) := by decide +kernel
theorem dX10_mirrorsOf_52 : decode cX10_mirrorsOf 52 = .ok (.ior, 1) := by decide +kernel
theorem dX10_mirrorsOf_53 : decode cX10_mirrorsOf 53 = .ok (.istore_n 3, 1) := by decide +kernel
theorem dX10_mirrorsOf_54 : decode cX10_mirrorsOf 54 = .ok (.iinc 4 1, 3) := by decide +kernel
theorem dX10_mirrorsOf_57 : decode cX10_mirrorsOf 57 = .ok (.goto (-52), 3) := by decide +kernel
theorem dX10_mirrorsOf_60 : decode cX10_mirrorsOf 60 = .ok (.iload_n 3, 1) := by decide +kernel
theorem dX10_mirrorsOf_61 : decode cX10_mirrorsOf 61 = .ok (.ireturn, 1) := by decide +kernel
theorem dX10_point_0 : decode cX10_point 0 = .ok (.iload_n 1, 1) := by decide +kernel
theorem dX10_point_1 : decode cX10_point 1 = .ok (.i2l, 1) := by decide +kernel
theorem dX10_point_2 : decode cX10_point 2 = .ok (.lconst 0, 1) := by decide +kernel
theorem dX10_point_3 : decode cX10_point 3 = .ok (.ldc2_w 103, 3) := by decide +kernel
theorem dX10_point_6 : decode cX10_point 6 = .ok (.invokestatic 51, 3) := by decide +kernel
theorem dX10_point_9 : decode cX10_point 9 = .ok (.ifCond .eq 10, 3) := by decide +kernel
theorem dX10_point_12 : decode cX10_point 12 = .ok (.iload_n 2, 1) := by decide +kernel
theorem dX10_point_13 : decode cX10_point 13 = .ok (.invokestatic 152, 3) := by decide +kernel
theorem dX10_point_16 : decode cX10_point 16 = .ok (.ifCond .ne 5, 3) := by decide +kernel
theorem dX10_point_19 : decode cX10_point 19 = .ok (.iconst (-1), 1) := by decide +kernel
theorem dX10_point_20 : decode cX10_point 20 = .ok (.ireturn, 1) := by decide +kernel
theorem dX10_point_21 : decode cX10_point 21 = .ok (.aload_n 0, 1) := by decide +kernel
theorem dX10_point_22 : decode cX10_point 22 = .ok (.iload_n 2, 1) := by decide +kernel
theorem dX10_point_23 : decode cX10_point 23 = .ok (.invokevirtual 86, 3) := by decide +kernel
theorem dX10_point_26 : decode cX10_point 26 = .ok (.istore 4, 2) := by decide +kernel
theorem dX10_point_28 : decode cX10_point 28 = .ok (.iload_n 3, 1) := by decide +kernel
theorem dX10_point_29 : decode cX10_point 29 = .ok (.ifCond .ne 12, 3) := by decide +kernel
theorem dX10_point_32 : decode cX10_point 32 = .ok (.aload_n 0, 1) := by decide +kernel
theorem dX10_point_33 : decode cX10_point 33 = .ok (.getfield 34, 3) := by decide +kernel
theorem dX10_point_36 : decode cX10_point 36 = .ok (.iload_n 1, 1) := by decide +kernel
theorem dX10_point_37 : decode cX10_point 37 = .ok (.iaload, 1) := by decide +kernel
theorem dX10_point_38 : decode cX10_point 38 = .ok (.goto 33, 3) := by decide +kernel
theorem dX10_point_41 : decode cX10_point 41 = .ok (.iload_n 3, 1) := by decide +kernel
theorem dX10_point_42 : decode cX10_point 42 = .ok (.iconst 1, 1) := by decide +kernel
theorem dX10_point_43 : decode cX10_point 43 = .ok (.if_icmp .eq 8, 3) := by decide +kernel
theorem dX10_point_46 : decode cX10_point 46 = .ok (.iload_n 3, 1) := by decide +kernel
theorem dX10_point_47 : decode cX10_point 47 = .ok (.iconst 2, 1) := by decide +kernel
theorem dX10_point_48 : decode cX10_point 48 = .ok (.if_icmp .ne 21, 3) := by decide +kernel
theorem dX10_point_51 : decode cX10_point 51 = .ok (.aload_n 0, 1) := by decide +kernel
theorem dX10_point_52 : decode cX10_point 52 = .ok (.iload_n 1, 1) := by decide +kernel
theorem dX10_point_53 : decode cX10_point 53 = .ok (.iload_n 3, 1) := by decide +kernel
theorem dX10_point_54 : decode cX10_point 54 = .ok (.iconst 2, 1) := by decide +kernel
theorem dX10_point_55 : decode cX10_point 55 = .ok (.if_icmp .ne 7, 3) := by decide +kernel
theorem dX10_point_58 : decode cX10_point 58 = .ok (.iconst 1, 1) := by decide +kernel
theorem dX10_point_59 : decode cX10_point 59 = .ok (.goto 4, 3) := by decide +kernel
theorem dX10_point_62 : decode cX10_point 62 = .ok (.iconst 0, 1) := by decide +kernel
theorem dX10_point_63 : decode cX10_point 63 = .ok (.invokevirtual 155, 3) := by decide +kernel
theorem dX10_point_66 : decode cX10_point 66 = .ok (.goto 5, 3) := by decide +kernel
theorem dX10_point_69 : decode cX10_point 69 = .ok (.bipush (-2), 2) := by decide +kernel
theorem dX10_point_71 : decode cX10_point 71 = .ok (.ireturn, 1) := by decide +kernel
theorem dX10_blockedOnes_0 : decode cX10_blockedOnes 0 = .ok (.iconst 0, 1) := by decide +kernel
theorem dX10_blockedOnes_1 : decode cX10_blockedOnes 1 = .ok (.istore_n 1, 1) := by decide +kernel
theorem dX10_blockedOnes_2 : decode cX10_blockedOnes 2 = .ok (.iconst 0, 1) := by decide +kernel
theorem dX10_blockedOnes_3 : decode cX10_blockedOnes 3 = .ok (.istore_n 2, 1) := by decide +kernel
theorem dX10_blockedOnes_4 : decode cX10_blockedOnes 4 = .ok (.iload_n 2, 1) := by decide +kernel
theorem dX10_blockedOnes_5 : decode cX10_blockedOnes 5 = .ok (.aload_n 0, 1) := by decide +kernel
theorem dX10_blockedOnes_6 : decode cX10_blockedOnes 6 = .ok (.getfield 7, 3) := by decide +kernel
theorem dX10_blockedOnes_9 : decode cX10_blockedOnes 9 = .ok (.bipush 6, 2) := by decide +kernel
theorem dX10_blockedOnes_11 : decode cX10_blockedOnes 11 = .ok (.iaload, 1) := by decide +kernel
theorem dX10_blockedOnes_12 : decode cX10_blockedOnes 12 = .ok (.if_icmp .ge 27, 3) := by decide +kernel
theorem dX10_blockedOnes_15 : decode cX10_blockedOnes 15 = .ok (.iload_n 1, 1) := by decide +kernel
theorem dX10_blockedOnes_16 : decode cX10_blockedOnes 16 = .ok (.aload_n 0, 1) := by decide +kernel
theorem dX10_blockedOnes_17 : decode cX10_blockedOnes 17 = .ok (.iload_n 2, 1) := by decide +kernel
theorem dX10_blockedOnes_18 : decode cX10_blockedOnes 18 = .ok (.invokevirtual 76, 3) := by decide +kernel
theorem dX10_blockedOnes_21 : decode cX10_blockedOnes 21 = .ok (.ifCond .eq 9, 3) := by decide +kernel
theorem dX10_blockedOnes_24 : decode cX10_blockedOnes 24 = .ok (.iconst 1, 1) := by decide +kernel
theorem dX10_blockedOnes_25 : decode cX10_blockedOnes 25 = .ok (.iload_n 2, 1) := by decide +kernel
theorem dX10_blockedOnes_26 : decode cX10_blockedOnes 26 = .ok (.ishl, 1) := by decide +kernel
theorem dX10_blockedOnes_27 : decode cX10_blockedOnes 27 = .ok (.goto 4, 3) := by decide +kernel
theorem dX10_blockedOnes_30 : decode cX10_blockedOnes 30 = .ok (.iconst 0, 1) := by decide +kernel
theorem dX10_blockedOnes_31 : decode cX10_blockedOnes 31 = .ok (.ior, 1) := by decide +kernel
theorem dX10_blockedOnes_32 : decode cX10_blockedOnes 32 = .ok (.istore_n 1, 1) := by decide +kernel
theorem dX10_blockedOnes_33 : decode cX10_blockedOnes 33 = .ok (.iinc 2 1, 3) := by decide +kernel
theorem dX10_blockedOnes_36 : decode cX10_blockedOnes 36 = .ok (.goto (-32), 3) := by decide +kernel
theorem dX10_blockedOnes_39 : decode cX10_blockedOnes 39 = .ok (.iload_n 1, 1) := by decide +kernel
theorem dX10_blockedOnes_40 : decode cX10_blockedOnes 40 = .ok (.ireturn, 1) := by decide +kernel
theorem dX10_allDirt_0 : decode cX10_allDirt 0 = .ok (.iconst 0, 1) := by decide +kernel
theorem dX10_allDirt_1 : decode cX10_allDirt 1 = .ok (.istore_n 1, 1) := by decide +kernel
theorem dX10_allDirt_2 : decode cX10_allDirt 2 = .ok (.iconst 0, 1) := by decide +kernel
theorem dX10_allDirt_3 : decode cX10_allDirt 3 = .ok (.istore_n 2, 1) := by decide +kernel
theorem dX10_allDirt_4 : decode cX10_allDirt 4 = .ok (.iload_n 2, 1) := by decide +kernel
theorem dX10_allDirt_5 : decode cX10_allDirt 5 = .ok (.aload_n 0, 1) := by decide +kernel
theorem dX10_allDirt_6 : decode cX10_allDirt 6 = .ok (.getfield 7, 3) := by decide +kernel
theorem dX10_allDirt_9 : decode cX10_allDirt 9 = .ok (.bipush 6, 2) := by decide +kernel
theorem dX10_allDirt_11 : decode cX10_allDirt 11 = .ok (.iaload, 1) := by decide +kernel
theorem dX10_allDirt_12 : decode cX10_allDirt 12 = .ok (.if_icmp .ge 18, 3) := by decide +kernel
theorem dX10_allDirt_15 : decode cX10_allDirt 15 = .ok (.iload_n 1, 1) := by decide +kernel
theorem dX10_allDirt_16 : decode cX10_allDirt 16 = .ok (.aload_n 0, 1) := by decide +kernel
theorem dX10_allDirt_17 : decode cX10_allDirt 17 = .ok (.iload_n 2, 1) := by decide +kernel
theorem dX10_allDirt_18 : decode cX10_allDirt 18 = .ok (.iconst 3, 1) := by decide +kernel
theorem dX10_allDirt_19 : decode cX10_allDirt 19 = .ok (.invokevirtual 57, 3) := by decide +kernel
theorem dX10_allDirt_22 : decode cX10_allDirt 22 = .ok (.iadd, 1) := by decide +kernel
theorem dX10_allDirt_23 : decode cX10_allDirt 23 = .ok (.istore_n 1, 1) := by decide +kernel
theorem dX10_allDirt_24 : decode cX10_allDirt 24 = .ok (.iinc 2 1, 3) := by decide +kernel
theorem dX10_allDirt_27 : decode cX10_allDirt 27 = .ok (.goto (-23), 3) := by decide +kernel
theorem dX10_allDirt_30 : decode cX10_allDirt 30 = .ok (.iload_n 1, 1) := by decide +kernel
theorem dX10_allDirt_31 : decode cX10_allDirt 31 = .ok (.ireturn, 1) := by decide +kernel
theorem dX10_count_0 : decode cX10_count 0 = .ok (.iload_n 1, 1) := by decide +kernel
theorem dX10_count_1 : decode cX10_count 1 = .ok (.tableswitch 144 0 12 #[67, 74, 82, 89, 102, 109, 114, 119, 124, 124, 124, 134, 139], 67) := by decide +kernel
theorem dX10_count_68 : decode cX10_count 68 = .ok (.aload_n 0, 1) := by decide +kernel
theorem dX10_count_69 : decode cX10_count 69 = .ok (.getfield 7, 3) := by decide +kernel
theorem dX10_count_72 : decode cX10_count 72 = .ok (.iconst 3, 1) := by decide +kernel
theorem dX10_count_73 : decode cX10_count 73 = .ok (.iaload, 1) := by decide +kernel
theorem dX10_count_74 : decode cX10_count 74 = .ok (.ireturn, 1) := by decide +kernel
theorem dX10_count_75 : decode cX10_count 75 = .ok (.aload_n 0, 1) := by decide +kernel
theorem dX10_count_76 : decode cX10_count 76 = .ok (.getfield 7, 3) := by decide +kernel
theorem dX10_count_79 : decode cX10_count 79 = .ok (.bipush 6, 2) := by decide +kernel
theorem dX10_count_81 : decode cX10_count 81 = .ok (.iaload, 1) := by decide +kernel
theorem dX10_count_82 : decode cX10_count 82 = .ok (.ireturn, 1) := by decide +kernel
theorem dX10_count_83 : decode cX10_count 83 = .ok (.aload_n 0, 1) := by decide +kernel
theorem dX10_count_84 : decode cX10_count 84 = .ok (.getfield 7, 3) := by decide +kernel
theorem dX10_count_87 : decode cX10_count 87 = .ok (.iconst 4, 1) := by decide +kernel
theorem dX10_count_88 : decode cX10_count 88 = .ok (.iaload, 1) := by decide +kernel
theorem dX10_count_89 : decode cX10_count 89 = .ok (.ireturn, 1) := by decide +kernel
theorem dX10_count_90 : decode cX10_count 90 = .ok (.aload_n 0, 1) := by decide +kernel
theorem dX10_count_91 : decode cX10_count 91 = .ok (.invokevirtual 69, 3) := by decide +kernel
theorem dX10_count_94 : decode cX10_count 94 = .ok (.ifCond .eq 7, 3) := by decide +kernel
theorem dX10_count_97 : decode cX10_count 97 = .ok (.iconst 1, 1) := by decide +kernel
theorem dX10_count_98 : decode cX10_count 98 = .ok (.goto 4, 3) := by decide +kernel
theorem dX10_count_101 : decode cX10_count 101 = .ok (.iconst 0, 1) := by decide +kernel
theorem dX10_count_102 : decode cX10_count 102 = .ok (.ireturn, 1) := by decide +kernel
theorem dX10_count_103 : decode cX10_count 103 = .ok (.aload_n 0, 1) := by decide +kernel
theorem dX10_count_104 : decode cX10_count 104 = .ok (.getfield 7, 3) := by decide +kernel
theorem dX10_count_107 : decode cX10_count 107 = .ok (.iconst 5, 1) := by decide +kernel
theorem dX10_count_108 : decode cX10_count 108 = .ok (.iaload, 1) := by decide +kernel
theorem dX10_count_109 : decode cX10_count 109 = .ok (.ireturn, 1) := by decide +kernel
theorem dX10_count_110 : decode cX10_count 110 = .ok (.aload_n 0, 1) := by decide +kernel
theorem dX10_count_111 : decode cX10_count 111 = .ok (.invokevirtual 159, 3) := by decide +kernel
theorem dX10_count_114 : decode cX10_count 114 = .ok (.ireturn, 1) := by decide +kernel
theorem dX10_count_115 : decode cX10_count 115 = .ok (.aload_n 0, 1) := by decide +kernel
theorem dX10_count_116 : decode cX10_count 116 = .ok (.invokevirtual 163, 3) := by decide +kernel
theorem dX10_count_119 : decode cX10_count 119 = .ok (.ireturn, 1) := by decide +kernel
theorem dX10_count_120 : decode cX10_count 120 = .ok (.aload_n 0, 1) := by decide +kernel
theorem dX10_count_121 : decode cX10_count 121 = .ok (.invokevirtual 166, 3) := by decide +kernel
theorem dX10_count_124 : decode cX10_count 124 = .ok (.ireturn, 1) := by decide +kernel
theorem dX10_count_125 : decode cX10_count 125 = .ok (.aload_n 0, 1) := by decide +kernel
theorem dX10_count_126 : decode cX10_count 126 = .ok (.getfield 7, 3) := by decide +kernel
theorem dX10_count_129 : decode cX10_count 129 = .ok (.iload_n 1, 1) := by decide +kernel
theorem dX10_count_130 : decode cX10_count 130 = .ok (.bipush 8, 2) := by decide +kernel
theorem dX10_count_132 : decode cX10_count 132 = .ok (.isub, 1) := by decide +kernel
theorem dX10_count_133 : decode cX10_count 133 = .ok (.iaload, 1) := by decide +kernel
theorem dX10_count_134 : decode cX10_count 134 = .ok (.ireturn, 1) := by decide +kernel
theorem dX10_count_135 : decode cX10_count 135 = .ok (.aload_n 0, 1) := by decide +kernel
theorem dX10_count_136 : decode cX10_count 136 = .ok (.getfield 169, 3) := by decide +kernel
theorem dX10_count_139 : decode cX10_count 139 = .ok (.ireturn, 1) := by decide +kernel
theorem dX10_count_140 : decode cX10_count 140 = .ok (.aload_n 0, 1) := by decide +kernel
theorem dX10_count_141 : decode cX10_count 141 = .ok (.getfield 43, 3) := by decide +kernel
theorem dX10_count_144 : decode cX10_count 144 = .ok (.ireturn, 1) := by decide +kernel
theorem dX10_count_145 : decode cX10_count 145 = .ok (.bipush (-2), 2) := by decide +kernel
theorem dX10_count_147 : decode cX10_count 147 = .ok (.ireturn, 1) := by decide +kernel
theorem dX10_in_0 : decode cX10_in 0 = .ok (.iload_n 1, 1) := by decide +kernel
theorem dX10_in_1 : decode cX10_in 1 = .ok (.iload_n 2, 1) := by decide +kernel
theorem dX10_in_2 : decode cX10_in 2 = .ok (.invokestatic 99, 3) := by decide +kernel
theorem dX10_in_5 : decode cX10_in 5 = .ok (.ifCond .eq 12, 3) := by decide +kernel
theorem dX10_in_8 : decode cX10_in 8 = .ok (.aload_n 0, 1) := by decide +kernel
theorem dX10_in_9 : decode cX10_in 9 = .ok (.iload_n 1, 1) := by decide +kernel
theorem dX10_in_10 : decode cX10_in 10 = .ok (.iload_n 2, 1) := by decide +kernel
theorem dX10_in_11 : decode cX10_in 11 = .ok (.invokevirtual 64, 3) := by decide +kernel
theorem dX10_in_14 : decode cX10_in 14 = .ok (.goto 4, 3) := by decide +kernel
theorem dX10_in_17 : decode cX10_in 17 = .ok (.iconst (-1), 1) := by decide +kernel
theorem dX10_in_18 : decode cX10_in 18 = .ok (.ireturn, 1) := by decide +kernel
theorem dX10_worthLeast_0 : decode cX10_worthLeast 0 = .ok (.iload_n 1, 1) := by decide +kernel
theorem dX10_worthLeast_1 : decode cX10_worthLeast 1 = .ok (.i2l, 1) := by decide +kernel
theorem dX10_worthLeast_2 : decode cX10_worthLeast 2 = .ok (.lconst 0, 1) := by decide +kernel
theorem dX10_worthLeast_3 : decode cX10_worthLeast 3 = .ok (.lconst 1, 1) := by decide +kernel
theorem dX10_worthLeast_4 : decode cX10_worthLeast 4 = .ok (.invokestatic 51, 3) := by decide +kernel
theorem dX10_worthLeast_7 : decode cX10_worthLeast 7 = .ok (.ifCond .ne 6, 3) := by decide +kernel
theorem dX10_worthLeast_10 : decode cX10_worthLeast 10 = .ok (.bipush (-2), 2) := by decide +kernel
theorem dX10_worthLeast_12 : decode cX10_worthLeast 12 = .ok (.ireturn, 1) := by decide +kernel
theorem dX10_worthLeast_13 : decode cX10_worthLeast 13 = .ok (.bipush (-6), 2) := by decide +kernel
theorem dX10_worthLeast_15 : decode cX10_worthLeast 15 = .ok (.istore_n 2, 1) := by decide +kernel
theorem dX10_worthLeast_16 : decode cX10_worthLeast 16 = .ok (.bipush (-6), 2) := by decide +kernel
theorem dX10_worthLeast_18 : decode cX10_worthLeast 18 = .ok (.istore_n 3, 1) := by decide +kernel
theorem dX10_worthLeast_19 : decode cX10_worthLeast 19 = .ok (.aload_n 0, 1) := by decide +kernel
theorem dX10_worthLeast_20 : decode cX10_worthLeast 20 = .ok (.getfield 7, 3) := by decide +kernel
theorem dX10_worthLeast_23 : decode cX10_worthLeast 23 = .ok (.aload_n 0, 1) := by decide +kernel
theorem dX10_worthLeast_24 : decode cX10_worthLeast 24 = .ok (.getfield 16, 3) := by decide +kernel
theorem dX10_worthLeast_27 : decode cX10_worthLeast 27 = .ok (.invokestatic 124, 3) := by decide +kernel
theorem dX10_worthLeast_30 : decode cX10_worthLeast 30 = .ok (.iconst 0, 1) := by decide +kernel
theorem dX10_worthLeast_31 : decode cX10_worthLeast 31 = .ok (.istore 4, 2) := by decide +kernel
theorem dX10_worthLeast_33 : decode cX10_worthLeast 33 = .ok (.iload 4, 2) := by decide +kernel
theorem dX10_worthLeast_35 : decode cX10_worthLeast 35 = .ok (.aload_n 0, 1) := by decide +kernel
theorem dX10_worthLeast_36 : decode cX10_worthLeast 36 = .ok (.getfield 16, 3) := by decide +kernel
theorem dX10_worthLeast_39 : decode cX10_worthLeast 39 = .ok (.bipush 6, 2) := by decide +kernel
theorem dX10_worthLeast_41 : decode cX10_worthLeast 41 = .ok (.iaload, 1) := by decide +kernel
theorem dX10_worthLeast_42 : decode cX10_worthLeast 42 = .ok (.if_icmp .ge 58, 3) := by decide +kernel
theorem dX10_worthLeast_45 : decode cX10_worthLeast 45 = .ok (.aload_n 0, 1) := by decide +kernel
theorem dX10_worthLeast_46 : decode cX10_worthLeast 46 = .ok (.iload 4, 2) := by decide +kernel
theorem dX10_worthLeast_48 : decode cX10_worthLeast 48 = .ok (.invokevirtual 111, 3) := by decide +kernel
theorem dX10_worthLeast_51 : decode cX10_worthLeast 51 = .ok (.aload_n 0, 1) := by decide +kernel
theorem dX10_worthLeast_52 : decode cX10_worthLeast 52 = .ok (.invokevirtual 159, 3) := by decide +kernel
theorem dX10_worthLeast_55 : decode cX10_worthLeast 55 = .ok (.istore 5, 2) := by decide +kernel
theorem dX10_worthLeast_57 : decode cX10_worthLeast 57 = .ok (.aload_n 0, 1) := by decide +kernel
theorem dX10_worthLeast_58 : decode cX10_worthLeast 58 = .ok (.getfield 16, 3) := by decide +kernel
theorem dX10_worthLeast_61 : decode cX10_worthLeast 61 = .ok (.aload_n 0, 1) := by decide +kernel
theorem dX10_worthLeast_62 : decode cX10_worthLeast 62 = .ok (.getfield 7, 3) := by decide +kernel
theorem dX10_worthLeast_65 : decode cX10_worthLeast 65 = .ok (.invokestatic 124, 3) := by decide +kernel
theorem dX10_worthLeast_68 : decode cX10_worthLeast 68 = .ok (.iload 5, 2) := by decide +kernel
theorem dX10_worthLeast_70 : decode cX10_worthLeast 70 = .ok (.iload_n 3, 1) := by decide +kernel
theorem dX10_worthLeast_71 : decode cX10_worthLeast 71 = .ok (.if_icmp .le 8, 3) := by decide +kernel
theorem dX10_worthLeast_74 : decode cX10_worthLeast 74 = .ok (.iload 4, 2) := by decide +kernel
theorem dX10_worthLeast_76 : decode cX10_worthLeast 76 = .ok (.goto 4, 3) := by decide +kernel
theorem dX10_worthLeast_79 : decode cX10_worthLeast 79 = .ok (.iload_n 2, 1) := by decide +kernel
theorem dX10_worthLeast_80 : decode cX10_worthLeast 80 = .ok (.istore_n 2, 1) := by decide +kernel
theorem dX10_worthLeast_81 : decode cX10_worthLeast 81 = .ok (.iload 5, 2) := by decide +kernel
theorem dX10_worthLeast_83 : decode cX10_worthLeast 83 = .ok (.iload_n 3, 1) := by decide +kernel
theorem dX10_worthLeast_84 : decode cX10_worthLeast 84 = .ok (.if_icmp .le 8, 3) := by decide +kernel
theorem dX10_worthLeast_87 : decode cX10_worthLeast 87 = .ok (.iload 5, 2) := by decide +kernel
theorem dX10_worthLeast_89 : decode cX10_worthLeast 89 = .ok (.goto 4, 3) := by decide +kernel
theorem dX10_worthLeast_92 : decode cX10_worthLeast 92 = .ok (.iload_n 3, 1) := by decide +kernel
theorem dX10_worthLeast_93 : decode cX10_worthLeast 93 = .ok (.istore_n 3, 1) := by decide +kernel
theorem dX10_worthLeast_94 : decode cX10_worthLeast 94 = .ok (.iinc 4 1, 3) := by decide +kernel
theorem dX10_worthLeast_97 : decode cX10_worthLeast 97 = .ok (.goto (-64), 3) := by decide +kernel
theorem dX10_worthLeast_100 : decode cX10_worthLeast 100 = .ok (.iload_n 1, 1) := by decide +kernel
theorem dX10_worthLeast_101 : decode cX10_worthLeast 101 = .ok (.ifCond .ne 7, 3) := by decide +kernel
theorem dX10_worthLeast_104 : decode cX10_worthLeast 104 = .ok (.iload_n 2, 1) := by decide +kernel
theorem dX10_worthLeast_105 : decode cX10_worthLeast 105 = .ok (.goto 4, 3) := by decide +kernel
theorem dX10_worthLeast_108 : decode cX10_worthLeast 108 = .ok (.iload_n 3, 1) := by decide +kernel
theorem dX10_worthLeast_109 : decode cX10_worthLeast 109 = .ok (.ireturn, 1) := by decide +kernel
theorem dX10_bestColumn_0 : decode cX10_bestColumn 0 = .ok (.iload_n 1, 1) := by decide +kernel
theorem dX10_bestColumn_1 : decode cX10_bestColumn 1 = .ok (.iconst 0, 1) := by decide +kernel
theorem dX10_bestColumn_2 : decode cX10_bestColumn 2 = .ok (.invokestatic 99, 3) := by decide +kernel
theorem dX10_bestColumn_5 : decode cX10_bestColumn 5 = .ok (.ifCond .eq 25, 3) := by decide +kernel
theorem dX10_bestColumn_8 : decode cX10_bestColumn 8 = .ok (.iload_n 2, 1) := by decide +kernel
theorem dX10_bestColumn_9 : decode cX10_bestColumn 9 = .ok (.i2l, 1) := by decide +kernel
theorem dX10_bestColumn_10 : decode cX10_bestColumn 10 = .ok (.lconst 0, 1) := by decide +kernel
theorem dX10_bestColumn_11 : decode cX10_bestColumn 11 = .ok (.ldc2_w 103, 3) := by decide +kernel
theorem dX10_bestColumn_14 : decode cX10_bestColumn 14 = .ok (.invokestatic 51, 3) := by decide +kernel
theorem dX10_bestColumn_17 : decode cX10_bestColumn 17 = .ok (.ifCond .eq 13, 3) := by decide +kernel
theorem dX10_bestColumn_20 : decode cX10_bestColumn 20 = .ok (.iload_n 3, 1) := by decide +kernel
theorem dX10_bestColumn_21 : decode cX10_bestColumn 21 = .ok (.i2l, 1) := by decide +kernel
theorem dX10_bestColumn_22 : decode cX10_bestColumn 22 = .ok (.lconst 0, 1) := by decide +kernel
theorem dX10_bestColumn_23 : decode cX10_bestColumn 23 = .ok (.lconst 1, 1) := by decide +kernel
theorem dX10_bestColumn_24 : decode cX10_bestColumn 24 = .ok (.invokestatic 51, 3) := by decide +kernel
theorem dX10_bestColumn_27 : decode cX10_bestColumn 27 = .ok (.ifCond .ne 6, 3) := by decide +kernel
theorem dX10_bestColumn_30 : decode cX10_bestColumn 30 = .ok (.bipush (-2), 2) := by decide +kernel
theorem dX10_bestColumn_32 : decode cX10_bestColumn 32 = .ok (.ireturn, 1) := by decide +kernel
theorem dX10_bestColumn_33 : decode cX10_bestColumn 33 = .ok (.bipush (-6), 2) := by decide +kernel
theorem dX10_bestColumn_35 : decode cX10_bestColumn 35 = .ok (.istore 4, 2) := by decide +kernel
theorem dX10_bestColumn_37 : decode cX10_bestColumn 37 = .ok (.bipush (-6), 2) := by decide +kernel
theorem dX10_bestColumn_39 : decode cX10_bestColumn 39 = .ok (.istore 5, 2) := by decide +kernel
theorem dX10_bestColumn_41 : decode cX10_bestColumn 41 = .ok (.aload_n 0, 1) := by decide +kernel
theorem dX10_bestColumn_42 : decode cX10_bestColumn 42 = .ok (.getfield 7, 3) := by decide +kernel
theorem dX10_bestColumn_45 : decode cX10_bestColumn 45 = .ok (.aload_n 0, 1) := by decide +kernel
theorem dX10_bestColumn_46 : decode cX10_bestColumn 46 = .ok (.getfield 16, 3) := by decide +kernel
theorem dX10_bestColumn_49 : decode cX10_bestColumn 49 = .ok (.invokestatic 124, 3) := by decide +kernel
theorem dX10_bestColumn_52 : decode cX10_bestColumn 52 = .ok (.iconst 0, 1) := by decide +kernel
theorem dX10_bestColumn_53 : decode cX10_bestColumn 53 = .ok (.istore 6, 2) := by decide +kernel
theorem dX10_bestColumn_55 : decode cX10_bestColumn 55 = .ok (.iload 6, 2) := by decide +kernel
theorem dX10_bestColumn_57 : decode cX10_bestColumn 57 = .ok (.bipush 20, 2) := by decide +kernel
theorem dX10_bestColumn_59 : decode cX10_bestColumn 59 = .ok (.if_icmp .ge 78, 3) := by decide +kernel
theorem dX10_bestColumn_62 : decode cX10_bestColumn 62 = .ok (.aload_n 0, 1) := by decide +kernel
theorem dX10_bestColumn_63 : decode cX10_bestColumn 63 = .ok (.iload_n 1, 1) := by decide +kernel
theorem dX10_bestColumn_64 : decode cX10_bestColumn 64 = .ok (.iload 6, 2) := by decide +kernel
theorem dX10_bestColumn_66 : decode cX10_bestColumn 66 = .ok (.invokevirtual 64, 3) := by decide +kernel
theorem dX10_bestColumn_69 : decode cX10_bestColumn 69 = .ok (.bipush (-6), 2) := by decide +kernel
theorem dX10_bestColumn_71 : decode cX10_bestColumn 71 = .ok (.if_icmp .ne 60, 3) := by decide +kernel
theorem dX10_bestColumn_74 : decode cX10_bestColumn 74 = .ok (.aload_n 0, 1) := by decide +kernel
theorem dX10_bestColumn_75 : decode cX10_bestColumn 75 = .ok (.iload_n 1, 1) := by decide +kernel
theorem dX10_bestColumn_76 : decode cX10_bestColumn 76 = .ok (.iload 6, 2) := by decide +kernel
theorem dX10_bestColumn_78 : decode cX10_bestColumn 78 = .ok (.iload_n 2, 1) := by decide +kernel
theorem dX10_bestColumn_79 : decode cX10_bestColumn 79 = .ok (.invokevirtual 105, 3) := by decide +kernel
theorem dX10_bestColumn_82 : decode cX10_bestColumn 82 = .ok (.aload_n 0, 1) := by decide +kernel
theorem dX10_bestColumn_83 : decode cX10_bestColumn 83 = .ok (.invokevirtual 159, 3) := by decide +kernel
theorem dX10_bestColumn_86 : decode cX10_bestColumn 86 = .ok (.istore 7, 2) := by decide +kernel
theorem dX10_bestColumn_88 : decode cX10_bestColumn 88 = .ok (.aload_n 0, 1) := by decide +kernel
theorem dX10_bestColumn_89 : decode cX10_bestColumn 89 = .ok (.getfield 16, 3) := by decide +kernel
theorem dX10_bestColumn_92 : decode cX10_bestColumn 92 = .ok (.aload_n 0, 1) := by decide +kernel
theorem dX10_bestColumn_93 : decode cX10_bestColumn 93 = .ok (.getfield 7, 3) := by decide +kernel
theorem dX10_bestColumn_96 : decode cX10_bestColumn 96 = .ok (.invokestatic 124, 3) := by decide +kernel
theorem dX10_bestColumn_99 : decode cX10_bestColumn 99 = .ok (.iload 7, 2) := by decide +kernel
theorem dX10_bestColumn_101 : decode cX10_bestColumn 101 = .ok (.iload 5, 2) := by decide +kernel
theorem dX10_bestColumn_103 : decode cX10_bestColumn 103 = .ok (.if_icmp .le 8, 3) := by decide +kernel
theorem dX10_bestColumn_106 : decode cX10_bestColumn 106 = .ok (.iload 6, 2) := by decide +kernel
theorem dX10_bestColumn_108 : decode cX10_bestColumn 108 = .ok (.goto 5, 3) := by decide +kernel
theorem dX10_bestColumn_111 : decode cX10_bestColumn 111 = .ok (.iload 4, 2) := by decide +kernel
theorem dX10_bestColumn_113 : decode cX10_bestColumn 113 = .ok (.istore 4, 2) := by decide +kernel
theorem dX10_bestColumn_115 : decode cX10_bestColumn 115 = .ok (.iload 7, 2) := by decide +kernel
theorem dX10_bestColumn_117 : decode cX10_bestColumn 117 = .ok (.iload 5, 2) := by decide +kernel
theorem dX10_bestColumn_119 : decode cX10_bestColumn 119 = .ok (.if_icmp .le 8, 3) := by decide +kernel
theorem dX10_bestColumn_122 : decode cX10_bestColumn 122 = .ok (.iload 7, 2) := by decide +kernel
theorem dX10_bestColumn_124 : decode cX10_bestColumn 124 = .ok (.goto 5, 3) := by decide +kernel
theorem dX10_bestColumn_127 : decode cX10_bestColumn 127 = .ok (.iload 5, 2) := by decide +kernel
theorem dX10_bestColumn_129 : decode cX10_bestColumn 129 = .ok (.istore 5, 2) := by decide +kernel
theorem dX10_bestColumn_131 : decode cX10_bestColumn 131 = .ok (.iinc 6 1, 3) := by decide +kernel
theorem dX10_bestColumn_134 : decode cX10_bestColumn 134 = .ok (.goto (-79), 3) := by decide +kernel
