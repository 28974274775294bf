theorem dX0_init_0 : decode cX0_init 0 = .ok (.aload_n 0, 1) := by decide +kernel
theorem dX0_init_1 : decode cX0_init 1 = .ok (.invokespecial 3, 3) := by decide +kernel
theorem dX0_init_4 : decode cX0_init 4 = .ok (.aload_n 0, 1) := by decide +kernel
theorem dX0_init_5 : decode cX0_init 5 = .ok (.new 9, 3) := by decide +kernel
theorem dX0_init_8 : decode cX0_init 8 = .ok (.dup, 1) := by decide +kernel
theorem dX0_init_9 : decode cX0_init 9 = .ok (.invokespecial 11, 3) := by decide +kernel
theorem dX0_init_12 : decode cX0_init 12 = .ok (.putfield 12, 3) := by decide +kernel
theorem dX0_init_15 : decode cX0_init 15 = .ok (.aload_n 0, 1) := by decide +kernel
theorem dX0_init_16 : decode cX0_init 16 = .ok (.new 18, 3) := by decide +kernel
theorem dX0_init_19 : decode cX0_init 19 = .ok (.dup, 1) := by decide +kernel
theorem dX0_init_20 : decode cX0_init 20 = .ok (.aload_n 0, 1) := by decide +kernel
theorem dX0_init_21 : decode cX0_init 21 = .ok (.getfield 12, 3) := by decide +kernel
theorem dX0_init_24 : decode cX0_init 24 = .ok (.invokespecial 20, 3) := by decide +kernel
theorem dX0_init_27 : decode cX0_init 27 = .ok (.putfield 23, 3) := by decide +kernel
theorem dX0_init_30 : decode cX0_init 30 = .ok (.aload_n 0, 1) := by decide +kernel
theorem dX0_init_31 : decode cX0_init 31 = .ok (.bipush (-6), 2) := by decide +kernel
theorem dX0_init_33 : decode cX0_init 33 = .ok (.putfield 27, 3) := by decide +kernel
theorem dX0_init_36 : decode cX0_init 36 = .ok (.aload_n 0, 1) := by decide +kernel
theorem dX0_init_37 : decode cX0_init 37 = .ok (.bipush (-6), 2) := by decide +kernel
theorem dX0_init_39 : decode cX0_init 39 = .ok (.putfield 31, 3) := by decide +kernel
theorem dX0_init_42 : decode cX0_init 42 = .ok (.aload_n 0, 1) := by decide +kernel
theorem dX0_init_43 : decode cX0_init 43 = .ok (.aload_n 1, 1) := by decide +kernel
theorem dX0_init_44 : decode cX0_init 44 = .ok (.putfield 34, 3) := by decide +kernel
theorem dX0_init_47 : decode cX0_init 47 = .ok (.return_, 1) := by decide +kernel
theorem dX0_leastWorth_0 : decode cX0_leastWorth 0 = .ok (.aload_n 0, 1) := by decide +kernel
theorem dX0_leastWorth_1 : decode cX0_leastWorth 1 = .ok (.invokevirtual 37, 3) := by decide +kernel
theorem dX0_leastWorth_4 : decode cX0_leastWorth 4 = .ok (.iconst 0, 1) := by decide +kernel
theorem dX0_leastWorth_5 : decode cX0_leastWorth 5 = .ok (.istore_n 2, 1) := by decide +kernel
theorem dX0_leastWorth_6 : decode cX0_leastWorth 6 = .ok (.iload_n 2, 1) := by decide +kernel
theorem dX0_leastWorth_7 : decode cX0_leastWorth 7 = .ok (.aload_n 0, 1) := by decide +kernel
theorem dX0_leastWorth_8 : decode cX0_leastWorth 8 = .ok (.getfield 34, 3) := by decide +kernel
theorem dX0_leastWorth_11 : decode cX0_leastWorth 11 = .ok (.getfield 40, 3) := by decide +kernel
theorem dX0_leastWorth_14 : decode cX0_leastWorth 14 = .ok (.if_icmp .ge 34, 3) := by decide +kernel
theorem dX0_leastWorth_17 : decode cX0_leastWorth 17 = .ok (.aload_n 0, 1) := by decide +kernel
theorem dX0_leastWorth_18 : decode cX0_leastWorth 18 = .ok (.getfield 12, 3) := by decide +kernel
theorem dX0_leastWorth_21 : decode cX0_leastWorth 21 = .ok (.aload_n 0, 1) := by decide +kernel
theorem dX0_leastWorth_22 : decode cX0_leastWorth 22 = .ok (.getfield 34, 3) := by decide +kernel
theorem dX0_leastWorth_25 : decode cX0_leastWorth 25 = .ok (.invokevirtual 43, 3) := by decide +kernel
theorem dX0_leastWorth_28 : decode cX0_leastWorth 28 = .ok (.aload_n 0, 1) := by decide +kernel
theorem dX0_leastWorth_29 : decode cX0_leastWorth 29 = .ok (.getfield 12, 3) := by decide +kernel
theorem dX0_leastWorth_32 : decode cX0_leastWorth 32 = .ok (.iload_n 2, 1) := by decide +kernel
theorem dX0_leastWorth_33 : decode cX0_leastWorth 33 = .ok (.invokevirtual 46, 3) := by decide +kernel
theorem dX0_leastWorth_36 : decode cX0_leastWorth 36 = .ok (.pop, 1) := by decide +kernel
theorem dX0_leastWorth_37 : decode cX0_leastWorth 37 = .ok (.aload_n 0, 1) := by decide +kernel
theorem dX0_leastWorth_38 : decode cX0_leastWorth 38 = .ok (.iload_n 2, 1) := by decide +kernel
theorem dX0_leastWorth_39 : decode cX0_leastWorth 39 = .ok (.invokevirtual 50, 3) := by decide +kernel
theorem dX0_leastWorth_42 : decode cX0_leastWorth 42 = .ok (.iinc 2 1, 3) := by decide +kernel
theorem dX0_leastWorth_45 : decode cX0_leastWorth 45 = .ok (.goto (-39), 3) := by decide +kernel
theorem dX0_leastWorth_48 : decode cX0_leastWorth 48 = .ok (.aload_n 0, 1) := by decide +kernel
theorem dX0_leastWorth_49 : decode cX0_leastWorth 49 = .ok (.iload_n 1, 1) := by decide +kernel
theorem dX0_leastWorth_50 : decode cX0_leastWorth 50 = .ok (.invokevirtual 54, 3) := by decide +kernel
theorem dX0_leastWorth_53 : decode cX0_leastWorth 53 = .ok (.ireturn, 1) := by decide +kernel
theorem dX0_columnForOneMore_0 : decode cX0_columnForOneMore 0 = .ok (.aload_n 0, 1) := by decide +kernel
theorem dX0_columnForOneMore_1 : decode cX0_columnForOneMore 1 = .ok (.invokevirtual 37, 3) := by decide +kernel
theorem dX0_columnForOneMore_4 : decode cX0_columnForOneMore 4 = .ok (.iconst 0, 1) := by decide +kernel
theorem dX0_columnForOneMore_5 : decode cX0_columnForOneMore 5 = .ok (.istore 4, 2) := by decide +kernel
theorem dX0_columnForOneMore_7 : decode cX0_columnForOneMore 7 = .ok (.iload 4, 2) := by decide +kernel
theorem dX0_columnForOneMore_9 : decode cX0_columnForOneMore 9 = .ok (.bipush 20, 2) := by decide +kernel
theorem dX0_columnForOneMore_11 : decode cX0_columnForOneMore 11 = .ok (.if_icmp .ge 53, 3) := by decide +kernel
theorem dX0_columnForOneMore_14 : decode cX0_columnForOneMore 14 = .ok (.aload_n 0, 1) := by decide +kernel
theorem dX0_columnForOneMore_15 : decode cX0_columnForOneMore 15 = .ok (.getfield 34, 3) := by decide +kernel
theorem dX0_columnForOneMore_18 : decode cX0_columnForOneMore 18 = .ok (.iload_n 1, 1) := by decide +kernel
theorem dX0_columnForOneMore_19 : decode cX0_columnForOneMore 19 = .ok (.iload 4, 2) := by decide +kernel
theorem dX0_columnForOneMore_21 : decode cX0_columnForOneMore 21 = .ok (.invokevirtual 57, 3) := by decide +kernel
theorem dX0_columnForOneMore_24 : decode cX0_columnForOneMore 24 = .ok (.bipush (-6), 2) := by decide +kernel
theorem dX0_columnForOneMore_26 : decode cX0_columnForOneMore 26 = .ok (.if_icmp .ne 32, 3) := by decide +kernel
theorem dX0_columnForOneMore_29 : decode cX0_columnForOneMore 29 = .ok (.aload_n 0, 1) := by decide +kernel
theorem dX0_columnForOneMore_30 : decode cX0_columnForOneMore 30 = .ok (.getfield 12, 3) := by decide +kernel
theorem dX0_columnForOneMore_33 : decode cX0_columnForOneMore 33 = .ok (.aload_n 0, 1) := by decide +kernel
theorem dX0_columnForOneMore_34 : decode cX0_columnForOneMore 34 = .ok (.getfield 34, 3) := by decide +kernel
theorem dX0_columnForOneMore_37 : decode cX0_columnForOneMore 37 = .ok (.invokevirtual 43, 3) := by decide +kernel
theorem dX0_columnForOneMore_40 : decode cX0_columnForOneMore 40 = .ok (.aload_n 0, 1) := by decide +kernel
theorem dX0_columnForOneMore_41 : decode cX0_columnForOneMore 41 = .ok (.getfield 12, 3) := by decide +kernel
theorem dX0_columnForOneMore_44 : decode cX0_columnForOneMore 44 = .ok (.iload_n 1, 1) := by decide +kernel
theorem dX0_columnForOneMore_45 : decode cX0_columnForOneMore 45 = .ok (.iload 4, 2) := by decide +kernel
theorem dX0_columnForOneMore_47 : decode cX0_columnForOneMore 47 = .ok (.iload_n 2, 1) := by decide +kernel
theorem dX0_columnForOneMore_48 : decode cX0_columnForOneMore 48 = .ok (.invokevirtual 61, 3) := by decide +kernel
theorem dX0_columnForOneMore_51 : decode cX0_columnForOneMore 51 = .ok (.pop, 1) := by decide +kernel
theorem dX0_columnForOneMore_52 : decode cX0_columnForOneMore 52 = .ok (.aload_n 0, 1) := by decide +kernel
theorem dX0_columnForOneMore_53 : decode cX0_columnForOneMore 53 = .ok (.iload 4, 2) := by decide +kernel
theorem dX0_columnForOneMore_55 : decode cX0_columnForOneMore 55 = .ok (.invokevirtual 50, 3) := by decide +kernel
theorem dX0_columnForOneMore_58 : decode cX0_columnForOneMore 58 = .ok (.iinc 4 1, 3) := by decide +kernel
theorem dX0_columnForOneMore_61 : decode cX0_columnForOneMore 61 = .ok (.goto (-54), 3) := by decide +kernel
theorem dX0_columnForOneMore_64 : decode cX0_columnForOneMore 64 = .ok (.aload_n 0, 1) := by decide +kernel
theorem dX0_columnForOneMore_65 : decode cX0_columnForOneMore 65 = .ok (.iload_n 3, 1) := by decide +kernel
theorem dX0_columnForOneMore_66 : decode cX0_columnForOneMore 66 = .ok (.invokevirtual 54, 3) := by decide +kernel
theorem dX0_columnForOneMore_69 : decode cX0_columnForOneMore 69 = .ok (.ireturn, 1) := by decide +kernel
theorem dX0_mirrorToWash_0 : decode cX0_mirrorToWash 0 = .ok (.aload_n 0, 1) := by decide +kernel
theorem dX0_mirrorToWash_1 : decode cX0_mirrorToWash 1 = .ok (.invokevirtual 37, 3) := by decide +kernel
theorem dX0_mirrorToWash_4 : decode cX0_mirrorToWash 4 = .ok (.iconst 0, 1) := by decide +kernel
theorem dX0_mirrorToWash_5 : decode cX0_mirrorToWash 5 = .ok (.istore_n 1, 1) := by decide +kernel
theorem dX0_mirrorToWash_6 : decode cX0_mirrorToWash 6 = .ok (.iload_n 1, 1) := by decide +kernel
theorem dX0_mirrorToWash_7 : decode cX0_mirrorToWash 7 = .ok (.aload_n 0, 1) := by decide +kernel
theorem dX0_mirrorToWash_8 : decode cX0_mirrorToWash 8 = .ok (.getfield 34, 3) := by decide +kernel
theorem dX0_mirrorToWash_11 : decode cX0_mirrorToWash 11 = .ok (.getfield 40, 3) := by decide +kernel
theorem dX0_mirrorToWash_14 : decode cX0_mirrorToWash 14 = .ok (.if_icmp .ge 34, 3) := by decide +kernel
theorem dX0_mirrorToWash_17 : decode cX0_mirrorToWash 17 = .ok (.aload_n 0, 1) := by decide +kernel
theorem dX0_mirrorToWash_18 : decode cX0_mirrorToWash 18 = .ok (.getfield 12, 3) := by decide +kernel
theorem dX0_mirrorToWash_21 : decode cX0_mirrorToWash 21 = .ok (.aload_n 0, 1) := by decide +kernel
theorem dX0_mirrorToWash_22 : decode cX0_mirrorToWash 22 = .ok (.getfield 34, 3) := by decide +kernel
theorem dX0_mirrorToWash_25 : decode cX0_mirrorToWash 25 = .ok (.invokevirtual 43, 3) := by decide +kernel
theorem dX0_mirrorToWash_28 : decode cX0_mirrorToWash 28 = .ok (.aload_n 0, 1) := by decide +kernel
theorem dX0_mirrorToWash_29 : decode cX0_mirrorToWash 29 = .ok (.getfield 12, 3) := by decide +kernel
theorem dX0_mirrorToWash_32 : decode cX0_mirrorToWash 32 = .ok (.iload_n 1, 1) := by decide +kernel
theorem dX0_mirrorToWash_33 : decode cX0_mirrorToWash 33 = .ok (.invokevirtual 65, 3) := by decide +kernel
theorem dX0_mirrorToWash_36 : decode cX0_mirrorToWash 36 = .ok (.pop, 1) := by decide +kernel
theorem dX0_mirrorToWash_37 : decode cX0_mirrorToWash 37 = .ok (.aload_n 0, 1) := by decide +kernel
theorem dX0_mirrorToWash_38 : decode cX0_mirrorToWash 38 = .ok (.iload_n 1, 1) := by decide +kernel
theorem dX0_mirrorToWash_39 : decode cX0_mirrorToWash 39 = .ok (.invokevirtual 50, 3) := by decide +kernel
theorem dX0_mirrorToWash_42 : decode cX0_mirrorToWash 42 = .ok (.iinc 1 1, 3) := by decide +kernel
theorem dX0_mirrorToWash_45 : decode cX0_mirrorToWash 45 = .ok (.goto (-39), 3) := by decide +kernel
theorem dX0_mirrorToWash_48 : decode cX0_mirrorToWash 48 = .ok (.aload_n 0, 1) := by decide +kernel
theorem dX0_mirrorToWash_49 : decode cX0_mirrorToWash 49 = .ok (.iconst 0, 1) := by decide +kernel
theorem dX0_mirrorToWash_50 : decode cX0_mirrorToWash 50 = .ok (.invokevirtual 54, 3) := by decide +kernel
theorem dX0_mirrorToWash_53 : decode cX0_mirrorToWash 53 = .ok (.ireturn, 1) := by decide +kernel
theorem dX0_limitForAll_0 : decode cX0_limitForAll 0 = .ok (.aload_n 0, 1) := by decide +kernel
theorem dX0_limitForAll_1 : decode cX0_limitForAll 1 = .ok (.getfield 12, 3) := by decide +kernel
theorem dX0_limitForAll_4 : decode cX0_limitForAll 4 = .ok (.aload_n 0, 1) := by decide +kernel
theorem dX0_limitForAll_5 : decode cX0_limitForAll 5 = .ok (.getfield 34, 3) := by decide +kernel
theorem dX0_limitForAll_8 : decode cX0_limitForAll 8 = .ok (.invokevirtual 43, 3) := by decide +kernel
theorem dX0_limitForAll_11 : decode cX0_limitForAll 11 = .ok (.aload_n 0, 1) := by decide +kernel
theorem dX0_limitForAll_12 : decode cX0_limitForAll 12 = .ok (.getfield 12, 3) := by decide +kernel
theorem dX0_limitForAll_15 : decode cX0_limitForAll 15 = .ok (.iconst 0, 1) := by decide +kernel
theorem dX0_limitForAll_16 : decode cX0_limitForAll 16 = .ok (.sipush 9999, 3) := by decide +kernel
theorem dX0_limitForAll_19 : decode cX0_limitForAll 19 = .ok (.invokevirtual 68, 3) := by decide +kernel
theorem dX0_limitForAll_22 : decode cX0_limitForAll 22 = .ok (.pop, 1) := by decide +kernel
theorem dX0_limitForAll_23 : decode cX0_limitForAll 23 = .ok (.aload_n 0, 1) := by decide +kernel
theorem dX0_limitForAll_24 : decode cX0_limitForAll 24 = .ok (.getfield 23, 3) := by decide +kernel
theorem dX0_limitForAll_27 : decode cX0_limitForAll 27 = .ok (.invokevirtual 71, 3) := by decide +kernel
theorem dX0_limitForAll_30 : decode cX0_limitForAll 30 = .ok (.iconst 1, 1) := by decide +kernel
theorem dX0_limitForAll_31 : decode cX0_limitForAll 31 = .ok (.aload_n 0, 1) := by decide +kernel
theorem dX0_limitForAll_32 : decode cX0_limitForAll 32 = .ok (.getfield 12, 3) := by decide +kernel
theorem dX0_limitForAll_35 : decode cX0_limitForAll 35 = .ok (.getfield 40, 3) := by decide +kernel
theorem dX0_limitForAll_38 : decode cX0_limitForAll 38 = .ok (.ishl, 1) := by decide +kernel
theorem dX0_limitForAll_39 : decode cX0_limitForAll 39 = .ok (.iconst 1, 1) := by decide +kernel
theorem dX0_limitForAll_40 : decode cX0_limitForAll 40 = .ok (.isub, 1) := by decide +kernel
theorem dX0_limitForAll_41 : decode cX0_limitForAll 41 = .ok (.istore_n 1, 1) := by decide +kernel
theorem dX0_limitForAll_42 : decode cX0_limitForAll 42 = .ok (.iconst 1, 1) := by decide +kernel
theorem dX0_limitForAll_43 : decode cX0_limitForAll 43 = .ok (.istore_n 2, 1) := by decide +kernel
theorem dX0_limitForAll_44 : decode cX0_limitForAll 44 = .ok (.iconst 0, 1) := by decide +kernel
theorem dX0_limitForAll_45 : decode cX0_limitForAll 45 = .ok (.istore_n 3, 1) := by decide +kernel
theorem dX0_limitForAll_46 : decode cX0_limitForAll 46 = .ok (.iload_n 3, 1) := by decide +kernel
theorem dX0_limitForAll_47 : decode cX0_limitForAll 47 = .ok (.bipush 11, 2) := by decide +kernel
theorem dX0_limitForAll_49 : decode cX0_limitForAll 49 = .ok (.if_icmp .ge 61, 3) := by decide +kernel
theorem dX0_limitForAll_52 : decode cX0_limitForAll 52 = .ok (.aload_n 0, 1) := by decide +kernel
theorem dX0_limitForAll_53 : decode cX0_limitForAll 53 = .ok (.getfield 23, 3) := by decide +kernel
theorem dX0_limitForAll_56 : decode cX0_limitForAll 56 = .ok (.iload_n 3, 1) := by decide +kernel
theorem dX0_limitForAll_57 : decode cX0_limitForAll 57 = .ok (.invokevirtual 74, 3) := by decide +kernel
theorem dX0_limitForAll_60 : decode cX0_limitForAll 60 = .ok (.pop, 1) := by decide +kernel
theorem dX0_limitForAll_61 : decode cX0_limitForAll 61 = .ok (.aload_n 0, 1) := by decide +kernel
theorem dX0_limitForAll_62 : decode cX0_limitForAll 62 = .ok (.getfield 23, 3) := by decide +kernel
theorem dX0_limitForAll_65 : decode cX0_limitForAll 65 = .ok (.invokevirtual 77, 3) := by decide +kernel
theorem dX0_limitForAll_68 : decode cX0_limitForAll 68 = .ok (.iload_n 1, 1) := by decide +kernel
theorem dX0_limitForAll_69 : decode cX0_limitForAll 69 = .ok (.if_icmp .eq 6, 3) := by decide +kernel
theorem dX0_limitForAll_72 : decode cX0_limitForAll 72 = .ok (.bipush (-6), 2) := by decide +kernel
theorem dX0_limitForAll_74 : decode cX0_limitForAll 74 = .ok (.ireturn, 1) := by decide +kernel
theorem dX0_limitForAll_75 : decode cX0_limitForAll 75 = .ok (.iconst 0, 1) := by decide +kernel
theorem dX0_limitForAll_76 : decode cX0_limitForAll 76 = .ok (.istore 4, 2) := by decide +kernel
theorem dX0_limitForAll_78 : decode cX0_limitForAll 78 = .ok (.iload 4, 2) := by decide +kernel
theorem dX0_limitForAll_80 : decode cX0_limitForAll 80 = .ok (.iconst 4, 1) := by decide +kernel
theorem dX0_limitForAll_81 : decode cX0_limitForAll 81 = .ok (.if_icmp .ge 23, 3) := by decide +kernel
theorem dX0_limitForAll_84 : decode cX0_limitForAll 84 = .ok (.iload_n 2, 1) := by decide +kernel
theorem dX0_limitForAll_85 : decode cX0_limitForAll 85 = .ok (.aload_n 0, 1) := by decide +kernel
theorem dX0_limitForAll_86 : decode cX0_limitForAll 86 = .ok (.getfield 23, 3) := by decide +kernel
theorem dX0_limitForAll_89 : decode cX0_limitForAll 89 = .ok (.iload 4, 2) := by decide +kernel
theorem dX0_limitForAll_91 : decode cX0_limitForAll 91 = .ok (.invokevirtual 81, 3) := by decide +kernel
theorem dX0_limitForAll_94 : decode cX0_limitForAll 94 = .ok (.invokestatic 84, 3) := by decide +kernel
theorem dX0_limitForAll_97 : decode cX0_limitForAll 97 = .ok (.istore_n 2, 1) := by decide +kernel
theorem dX0_limitForAll_98 : decode cX0_limitForAll 98 = .ok (.iinc 4 1, 3) := by decide +kernel
theorem dX0_limitForAll_101 : decode cX0_limitForAll 101 = .ok (.goto (-23), 3) := by decide +kernel
theorem dX0_limitForAll_104 : decode cX0_limitForAll 104 = .ok (.iinc 3 1, 3) := by decide +kernel
theorem dX0_limitForAll_107 : decode cX0_limitForAll 107 = .ok (.goto (-61), 3) := by decide +kernel
theorem dX0_limitForAll_110 : decode cX0_limitForAll 110 = .ok (.iload_n 2, 1) := by decide +kernel
theorem dX0_limitForAll_111 : decode cX0_limitForAll 111 = .ok (.ireturn, 1) := by decide +kernel
theorem dX0_forgetBest_0 : decode cX0_forgetBest 0 = .ok (.aload_n 0, 1) := by decide +kernel
theorem dX0_forgetBest_1 : decode cX0_forgetBest 1 = .ok (.bipush (-6), 2) := by decide +kernel
theorem dX0_forgetBest_3 : decode cX0_forgetBest 3 = .ok (.putfield 27, 3) := by decide +kernel
theorem dX0_forgetBest_6 : decode cX0_forgetBest 6 = .ok (.aload_n 0, 1) := by decide +kernel
theorem dX0_forgetBest_7 : decode cX0_forgetBest 7 = .ok (.bipush (-6), 2) := by decide +kernel
theorem dX0_forgetBest_9 : decode cX0_forgetBest 9 = .ok (.putfield 31, 3) := by decide +kernel
theorem dX0_forgetBest_12 : decode cX0_forgetBest 12 = .ok (.return_, 1) := by decide +kernel
theorem dX0_weigh_0 : decode cX0_weigh 0 = .ok (.aload_n 0, 1) := by decide +kernel
theorem dX0_weigh_1 : decode cX0_weigh 1 = .ok (.getfield 23, 3) := by decide +kernel
theorem dX0_weigh_4 : decode cX0_weigh 4 = .ok (.invokevirtual 71, 3) := by decide +kernel
theorem dX0_weigh_7 : decode cX0_weigh 7 = .ok (.aload_n 0, 1) := by decide +kernel
theorem dX0_weigh_8 : decode cX0_weigh 8 = .ok (.getfield 23, 3) := by decide +kernel
theorem dX0_weigh_11 : decode cX0_weigh 11 = .ok (.invokevirtual 89, 3) := by decide +kernel
theorem dX0_weigh_14 : decode cX0_weigh 14 = .ok (.istore_n 2, 1) := by decide +kernel
theorem dX0_weigh_15 : decode cX0_weigh 15 = .ok (.aload_n 0, 1) := by decide +kernel
theorem dX0_weigh_16 : decode cX0_weigh 16 = .ok (.getfield 27, 3) := by decide +kernel
theorem dX0_weigh_19 : decode cX0_weigh 19 = .ok (.bipush (-6), 2) := by decide +kernel
theorem dX0_weigh_21 : decode cX0_weigh 21 = .ok (.if_icmp .eq 11, 3) := by decide +kernel
theorem dX0_weigh_24 : decode cX0_weigh 24 = .ok (.iload_n 2, 1) := by decide +kernel
theorem dX0_weigh_25 : decode cX0_weigh 25 = .ok (.aload_n 0, 1) := by decide +kernel
theorem dX0_weigh_26 : decode cX0_weigh 26 = .ok (.getfield 31, 3) := by decide +kernel
theorem dX0_weigh_29 : decode cX0_weigh 29 = .ok (.if_icmp .le 13, 3) := by decide +kernel
theorem dX0_weigh_32 : decode cX0_weigh 32 = .ok (.aload_n 0, 1) := by decide +kernel
theorem dX0_weigh_33 : decode cX0_weigh 33 = .ok (.iload_n 1, 1) := by decide +kernel
theorem dX0_weigh_34 : decode cX0_weigh 34 = .ok (.putfield 27, 3) := by decide +kernel
theorem dX0_weigh_37 : decode cX0_weigh 37 = .ok (.aload_n 0, 1) := by decide +kernel
theorem dX0_weigh_38 : decode cX0_weigh 38 = .ok (.iload_n 2, 1) := by decide +kernel
theorem dX0_weigh_39 : decode cX0_weigh 39 = .ok (.putfield 31, 3) := by decide +kernel
theorem dX0_weigh_42 : decode cX0_weigh 42 = .ok (.return_, 1) := by decide +kernel
theorem dX0_answer_0 : decode cX0_answer 0 = .ok (.iload_n 1, 1) := by decide +kernel
theorem dX0_answer_1 : decode cX0_answer 1 = .ok (.ifCond .ne 10, 3) := by decide +kernel
theorem dX0_answer_4 : decode cX0_answer 4 = .ok (.aload_n 0, 1) := by decide +kernel
theorem dX0_answer_5 : decode cX0_answer 5 = .ok (.getfield 27, 3) := by decide +kernel
theorem dX0_answer_8 : decode cX0_answer 8 = .ok (.goto 7, 3) := by decide +kernel
theorem dX0_answer_11 : decode cX0_answer 11 = .ok (.aload_n 0, 1) := by decide +kernel
theorem dX0_answer_12 : decode cX0_answer 12 = .ok (.getfield 31, 3) := by decide +kernel
theorem dX0_answer_15 : decode cX0_answer 15 = .ok (.ireturn, 1) := by decide +kernel
theorem dX1_init_0 : decode cX1_init 0 = .ok (.aload_n 0, 1) := by decide +kernel
theorem dX1_init_1 : decode cX1_init 1 = .ok (.invokespecial 1, 3) := by decide +kernel
theorem dX1_init_4 : decode cX1_init 4 = .ok (.aload_n 0, 1) := by decide +kernel
theorem dX1_init_5 : decode cX1_init 5 = .ok (.iload_n 1, 1) := by decide +kernel
theorem dX1_init_6 : decode cX1_init 6 = .ok (.iconst 0, 1) := by decide +kernel
theorem dX1_init_7 : decode cX1_init 7 = .ok (.invokestatic 7, 3) := by decide +kernel
theorem dX1_init_10 : decode cX1_init 10 = .ok (.newarray .int, 2) := by decide +kernel
theorem dX1_init_12 : decode cX1_init 12 = .ok (.putfield 13, 3) := by decide +kernel
theorem dX1_init_15 : decode cX1_init 15 = .ok (.return_, 1) := by decide +kernel
theorem dX1_read_0 : decode cX1_read 0 = .ok (.iload_n 1, 1) := by decide +kernel
theorem dX1_read_1 : decode cX1_read 1 = .ok (.ifCond .lt 21, 3) := by decide +kernel
theorem dX1_read_4 : decode cX1_read 4 = .ok (.iload_n 1, 1) := by decide +kernel
theorem dX1_read_5 : decode cX1_read 5 = .ok (.aload_n 0, 1) := by decide +kernel
theorem dX1_read_6 : decode cX1_read 6 = .ok (.getfield 13, 3) := by decide +kernel
theorem dX1_read_9 : decode cX1_read 9 = .ok (.arraylength, 1) := by decide +kernel
theorem dX1_read_10 : decode cX1_read 10 = .ok (.if_icmp .ge 12, 3) := by decide +kernel
theorem dX1_read_13 : decode cX1_read 13 = .ok (.aload_n 0, 1) := by decide +kernel
theorem dX1_read_14 : decode cX1_read 14 = .ok (.getfield 13, 3) := by decide +kernel
theorem dX1_read_17 : decode cX1_read 17 = .ok (.iload_n 1, 1) := by decide +kernel
theorem dX1_read_18 : decode cX1_read 18 = .ok (.iaload, 1) := by decide +kernel
theorem dX1_read_19 : decode cX1_read 19 = .ok (.goto 4, 3) := by decide +kernel
theorem dX1_read_22 : decode cX1_read 22 = .ok (.iconst 0, 1) := by decide +kernel
theorem dX1_read_23 : decode cX1_read 23 = .ok (.ireturn, 1) := by decide +kernel
theorem dX1_write_0 : decode cX1_write 0 = .ok (.iload_n 1, 1) := by decide +kernel
theorem dX1_write_1 : decode cX1_write 1 = .ok (.ifCond .lt 19, 3) := by decide +kernel
theorem dX1_write_4 : decode cX1_write 4 = .ok (.iload_n 1, 1) := by decide +kernel
theorem dX1_write_5 : decode cX1_write 5 = .ok (.aload_n 0, 1) := by decide +kernel
theorem dX1_write_6 : decode cX1_write 6 = .ok (.getfield 13, 3) := by decide +kernel
theorem dX1_write_9 : decode cX1_write 9 = .ok (.arraylength, 1) := by decide +kernel
theorem dX1_write_10 : decode cX1_write 10 = .ok (.if_icmp .ge 10, 3) := by decide +kernel
theorem dX1_write_13 : decode cX1_write 13 = .ok (.aload_n 0, 1) := by decide +kernel
theorem dX1_write_14 : decode cX1_write 14 = .ok (.getfield 13, 3) := by decide +kernel
theorem dX1_write_17 : decode cX1_write 17 = .ok (.iload_n 1, 1) := by decide +kernel
theorem dX1_write_18 : decode cX1_write 18 = .ok (.iload_n 2, 1) := by decide +kernel
theorem dX1_write_19 : decode cX1_write 19 = .ok (.iastore, 1) := by decide +kernel
theorem dX1_write_20 : decode cX1_write 20 = .ok (.return_, 1) := by decide +kernel
theorem dX1_fill_0 : decode cX1_fill 0 = .ok (.aload_n 0, 1) := by decide +kernel
theorem dX1_fill_1 : decode cX1_fill 1 = .ok (.getfield 13, 3) := by decide +kernel
theorem dX1_fill_4 : decode cX1_fill 4 = .ok (.iload_n 1, 1) := by decide +kernel
theorem dX1_fill_5 : decode cX1_fill 5 = .ok (.invokestatic 19, 3) := by decide +kernel
theorem dX1_fill_8 : decode cX1_fill 8 = .ok (.return_, 1) := by decide +kernel
theorem dX1_copy_0 : decode cX1_copy 0 = .ok (.aload_n 1, 1) := by decide +kernel
theorem dX1_copy_1 : decode cX1_copy 1 = .ok (.getfield 13, 3) := by decide +kernel
theorem dX1_copy_4 : decode cX1_copy 4 = .ok (.iconst 0, 1) := by decide +kernel
theorem dX1_copy_5 : decode cX1_copy 5 = .ok (.aload_n 0, 1) := by decide +kernel
theorem dX1_copy_6 : decode cX1_copy 6 = .ok (.getfield 13, 3) := by decide +kernel
theorem dX1_copy_9 : decode cX1_copy 9 = .ok (.iconst 0, 1) := by decide +kernel
theorem dX1_copy_10 : decode cX1_copy 10 = .ok (.aload_n 1, 1) := by decide +kernel
theorem dX1_copy_11 : decode cX1_copy 11 = .ok (.getfield 13, 3) := by decide +kernel
theorem dX1_copy_14 : decode cX1_copy 14 = .ok (.arraylength, 1) := by decide +kernel
theorem dX1_copy_15 : decode cX1_copy 15 = .ok (.aload_n 0, 1) := by decide +kernel
theorem dX1_copy_16 : decode cX1_copy 16 = .ok (.getfield 13, 3) := by decide +kernel
theorem dX1_copy_19 : decode cX1_copy 19 = .ok (.arraylength, 1) := by decide +kernel
theorem dX1_copy_20 : decode cX1_copy 20 = .ok (.invokestatic 25, 3) := by decide +kernel
theorem dX1_copy_23 : decode cX1_copy 23 = .ok (.invokestatic 28, 3) := by decide +kernel
theorem dX1_copy_26 : decode cX1_copy 26 = .ok (.return_, 1) := by decide +kernel
theorem dX1_leaveOut_0 : decode cX1_leaveOut 0 = .ok (.iload_n 1, 1) := by decide +kernel
theorem dX1_leaveOut_1 : decode cX1_leaveOut 1 = .ok (.ifCond .lt 36, 3) := by decide +kernel
theorem dX1_leaveOut_4 : decode cX1_leaveOut 4 = .ok (.iload_n 1, 1) := by decide +kernel
theorem dX1_leaveOut_5 : decode cX1_leaveOut 5 = .ok (.aload_n 0, 1) := by decide +kernel
theorem dX1_leaveOut_6 : decode cX1_leaveOut 6 = .ok (.getfield 13, 3) := by decide +kernel
theorem dX1_leaveOut_9 : decode cX1_leaveOut 9 = .ok (.arraylength, 1) := by decide +kernel
theorem dX1_leaveOut_10 : decode cX1_leaveOut 10 = .ok (.if_icmp .ge 27, 3) := by decide +kernel
theorem dX1_leaveOut_13 : decode cX1_leaveOut 13 = .ok (.aload_n 0, 1) := by decide +kernel
theorem dX1_leaveOut_14 : decode cX1_leaveOut 14 = .ok (.getfield 13, 3) := by decide +kernel
theorem dX1_leaveOut_17 : decode cX1_leaveOut 17 = .ok (.iload_n 1, 1) := by decide +kernel
theorem dX1_leaveOut_18 : decode cX1_leaveOut 18 = .ok (.iconst 1, 1) := by decide +kernel
theorem dX1_leaveOut_19 : decode cX1_leaveOut 19 = .ok (.iadd, 1) := by decide +kernel
theorem dX1_leaveOut_20 : decode cX1_leaveOut 20 = .ok (.aload_n 0, 1) := by decide +kernel
theorem dX1_leaveOut_21 : decode cX1_leaveOut 21 = .ok (.getfield 13, 3) := by decide +kernel
theorem dX1_leaveOut_24 : decode cX1_leaveOut 24 = .ok (.iload_n 1, 1) := by decide +kernel
theorem dX1_leaveOut_25 : decode cX1_leaveOut 25 = .ok (.aload_n 0, 1) := by decide +kernel
theorem dX1_leaveOut_26 : decode cX1_leaveOut 26 = .ok (.getfield 13, 3) := by decide +kernel
theorem dX1_leaveOut_29 : decode cX1_leaveOut 29 = .ok (.arraylength, 1) := by decide +kernel
theorem dX1_leaveOut_30 : decode cX1_leaveOut 30 = .ok (.iconst 1, 1) := by decide +kernel
theorem dX1_leaveOut_31 : decode cX1_leaveOut 31 = .ok (.isub, 1) := by decide +kernel
theorem dX1_leaveOut_32 : decode cX1_leaveOut 32 = .ok (.iload_n 1, 1) := by decide +kernel
theorem dX1_leaveOut_33 : decode cX1_leaveOut 33 = .ok (.isub, 1) := by decide +kernel
theorem dX1_leaveOut_34 : decode cX1_leaveOut 34 = .ok (.invokestatic 28, 3) := by decide +kernel
theorem dX1_leaveOut_37 : decode cX1_leaveOut 37 = .ok (.return_, 1) := by decide +kernel
theorem dX2_init_0 : decode cX2_init 0 = .ok (.aload_n 0, 1) := by decide +kernel
theorem dX2_init_1 : decode cX2_init 1 = .ok (.invokespecial 3, 3) := by decide +kernel
theorem dX2_init_4 : decode cX2_init 4 = .ok (.aload_n 0, 1) := by decide +kernel
theorem dX2_init_5 : decode cX2_init 5 = .ok (.new 9, 3) := by decide +kernel
theorem dX2_init_8 : decode cX2_init 8 = .ok (.dup, 1) := by decide +kernel
theorem dX2_init_9 : decode cX2_init 9 = .ok (.iconst 3, 1) := by decide +kernel
theorem dX2_init_10 : decode cX2_init 10 = .ok (.invokespecial 11, 3) := by decide +kernel
theorem dX2_init_13 : decode cX2_init 13 = .ok (.putfield 14, 3) := by decide +kernel
theorem dX2_init_16 : decode cX2_init 16 = .ok (.aload_n 0, 1) := by decide +kernel
theorem dX2_init_17 : decode cX2_init 17 = .ok (.new 9, 3) := by decide +kernel
theorem dX2_init_20 : decode cX2_init 20 = .ok (.dup, 1) := by decide +kernel
theorem dX2_init_21 : decode cX2_init 21 = .ok (.bipush 25, 2) := by decide +kernel
theorem dX2_init_23 : decode cX2_init 23 = .ok (.invokespecial 11, 3) := by decide +kernel
theorem dX2_init_26 : decode cX2_init 26 = .ok (.putfield 20, 3) := by decide +kernel
theorem dX2_init_29 : decode cX2_init 29 = .ok (.aload_n 0, 1) := by decide +kernel
theorem dX2_init_30 : decode cX2_init 30 = .ok (.new 9, 3) := by decide +kernel
theorem dX2_init_33 : decode cX2_init 33 = .ok (.dup, 1) := by decide +kernel
theorem dX2_init_34 : decode cX2_init 34 = .ok (.bipush 25, 2) := by decide +kernel
theorem dX2_init_36 : decode cX2_init 36 = .ok (.invokespecial 11, 3) := by decide +kernel
theorem dX2_init_39 : decode cX2_init 39 = .ok (.putfield 23, 3) := by decide +kernel
theorem dX2_init_42 : decode cX2_init 42 = .ok (.aload_n 0, 1) := by decide +kernel
theorem dX2_init_43 : decode cX2_init 43 = .ok (.new 9, 3) := by decide +kernel
theorem dX2_init_46 : decode cX2_init 46 = .ok (.dup, 1) := by decide +kernel
theorem dX2_init_47 : decode cX2_init 47 = .ok (.bipush 25, 2) := by decide +kernel
theorem dX2_init_49 : decode cX2_init 49 = .ok (.invokespecial 11, 3) := by decide +kernel
theorem dX2_init_52 : decode cX2_init 52 = .ok (.putfield 26, 3) := by decide +kernel
theorem dX2_init_55 : decode cX2_init 55 = .ok (.aload_n 0, 1) := by decide +kernel
theorem dX2_init_56 : decode cX2_init 56 = .ok (.new 9, 3) := by decide +kernel
theorem dX2_init_59 : decode cX2_init 59 = .ok (.dup, 1) := by decide +kernel
theorem dX2_init_60 : decode cX2_init 60 = .ok (.bipush 25, 2) := by decide +kernel
theorem dX2_init_62 : decode cX2_init 62 = .ok (.invokespecial 11, 3) := by decide +kernel
theorem dX2_init_65 : decode cX2_init 65 = .ok (.putfield 29, 3) := by decide +kernel
theorem dX2_init_68 : decode cX2_init 68 = .ok (.aload_n 0, 1) := by decide +kernel
theorem dX2_init_69 : decode cX2_init 69 = .ok (.new 9, 3) := by decide +kernel
theorem dX2_init_72 : decode cX2_init 72 = .ok (.dup, 1) := by decide +kernel
theorem dX2_init_73 : decode cX2_init 73 = .ok (.bipush 25, 2) := by decide +kernel
theorem dX2_init_75 : decode cX2_init 75 = .ok (.invokespecial 11, 3) := by decide +kernel
theorem dX2_init_78 : decode cX2_init 78 = .ok (.putfield 32, 3) := by decide +kernel
theorem dX2_init_81 : decode cX2_init 81 = .ok (.aload_n 0, 1) := by decide +kernel
theorem dX2_init_82 : decode cX2_init 82 = .ok (.iconst 0, 1) := by decide +kernel
theorem dX2_init_83 : decode cX2_init 83 = .ok (.putfield 35, 3) := by decide +kernel
theorem dX2_init_86 : decode cX2_init 86 = .ok (.aload_n 0, 1) := by decide +kernel
theorem dX2_init_87 : decode cX2_init 87 = .ok (.iconst 0, 1) := by decide +kernel
theorem dX2_init_88 : decode cX2_init 88 = .ok (.putfield 39, 3) := by decide +kernel
theorem dX2_init_91 : decode cX2_init 91 = .ok (.aload_n 0, 1) := by decide +kernel
theorem dX2_init_92 : decode cX2_init 92 = .ok (.iconst 0, 1) := by decide +kernel
theorem dX2_init_93 : decode cX2_init 93 = .ok (.putfield 42, 3) := by decide +kernel
theorem dX2_init_96 : decode cX2_init 96 = .ok (.aload_n 0, 1) := by decide +kernel
theorem dX2_init_97 : decode cX2_init 97 = .ok (.iconst 0, 1) := by decide +kernel
theorem dX2_init_98 : decode cX2_init 98 = .ok (.putfield 45, 3) := by decide +kernel
theorem dX2_init_101 : decode cX2_init 101 = .ok (.aload_n 0, 1) := by decide +kernel
theorem dX2_init_102 : decode cX2_init 102 = .ok (.getfield 14, 3) := by decide +kernel
theorem dX2_init_105 : decode cX2_init 105 = .ok (.iconst 0, 1) := by decide +kernel
theorem dX2_init_106 : decode cX2_init 106 = .ok (.sipush 400, 3) := by decide +kernel
theorem dX2_init_109 : decode cX2_init 109 = .ok (.invokevirtual 48, 3) := by decide +kernel
theorem dX2_init_112 : decode cX2_init 112 = .ok (.aload_n 0, 1) := by decide +kernel
theorem dX2_init_113 : decode cX2_init 113 = .ok (.getfield 14, 3) := by decide +kernel
theorem dX2_init_116 : decode cX2_init 116 = .ok (.iconst 1, 1) := by decide +kernel
theorem dX2_init_117 : decode cX2_init 117 = .ok (.bipush 50, 2) := by decide +kernel
theorem dX2_init_119 : decode cX2_init 119 = .ok (.invokevirtual 48, 3) := by decide +kernel
theorem dX2_init_122 : decode cX2_init 122 = .ok (.aload_n 0, 1) := by decide +kernel
theorem dX2_init_123 : decode cX2_init 123 = .ok (.getfield 14, 3) := by decide +kernel
theorem dX2_init_126 : decode cX2_init 126 = .ok (.iconst 2, 1) := by decide +kernel
theorem dX2_init_127 : decode cX2_init 127 = .ok (.iconst 2, 1) := by decide +kernel
theorem dX2_init_128 : decode cX2_init 128 = .ok (.invokevirtual 48, 3) := by decide +kernel
theorem dX2_init_131 : decode cX2_init 131 = .ok (.return_, 1) := by decide +kernel
theorem dX2_copy_0 : decode cX2_copy 0 = .ok (.aload_n 0, 1) := by decide +kernel
theorem dX2_copy_1 : decode cX2_copy 1 = .ok (.getfield 14, 3) := by decide +kernel
theorem dX2_copy_4 : decode cX2_copy 4 = .ok (.aload_n 1, 1) := by decide +kernel
theorem dX2_copy_5 : decode cX2_copy 5 = .ok (.getfield 14, 3) := by decide +kernel
theorem dX2_copy_8 : decode cX2_copy 8 = .ok (.invokevirtual 52, 3) := by decide +kernel
theorem dX2_copy_11 : decode cX2_copy 11 = .ok (.aload_n 0, 1) := by decide +kernel
theorem dX2_copy_12 : decode cX2_copy 12 = .ok (.getfield 20, 3) := by decide +kernel
theorem dX2_copy_15 : decode cX2_copy 15 = .ok (.aload_n 1, 1) := by decide +kernel
theorem dX2_copy_16 : decode cX2_copy 16 = .ok (.getfield 20, 3) := by decide +kernel
theorem dX2_copy_19 : decode cX2_copy 19 = .ok (.invokevirtual 52, 3) := by decide +kernel
theorem dX2_copy_22 : decode cX2_copy 22 = .ok (.aload_n 0, 1) := by decide +kernel
theorem dX2_copy_23 : decode cX2_copy 23 = .ok (.getfield 23, 3) := by decide +kernel
theorem dX2_copy_26 : decode cX2_copy 26 = .ok (.aload_n 1, 1) := by decide +kernel
theorem dX2_copy_27 : decode cX2_copy 27 = .ok (.getfield 23, 3) := by decide +kernel
theorem dX2_copy_30 : decode cX2_copy 30 = .ok (.invokevirtual 52, 3) := by decide +kernel
theorem dX2_copy_33 : decode cX2_copy 33 = .ok (.aload_n 0, 1) := by decide +kernel
theorem dX2_copy_34 : decode cX2_copy 34 = .ok (.getfield 26, 3) := by decide +kernel
theorem dX2_copy_37 : decode cX2_copy 37 = .ok (.aload_n 1, 1) := by decide +kernel
theorem dX2_copy_38 : decode cX2_copy 38 = .ok (.getfield 26, 3) := by decide +kernel
theorem dX2_copy_41 : decode cX2_copy 41 = .ok (.invokevirtual 52, 3) := by decide +kernel
theorem dX2_copy_44 : decode cX2_copy 44 = .ok (.aload_n 0, 1) := by decide +kernel
theorem dX2_copy_45 : decode cX2_copy 45 = .ok (.getfield 29, 3) := by decide +kernel
theorem dX2_copy_48 : decode cX2_copy 48 = .ok (.aload_n 1, 1) := by decide +kernel
theorem dX2_copy_49 : decode cX2_copy 49 = .ok (.getfield 29, 3) := by decide +kernel
theorem dX2_copy_52 : decode cX2_copy 52 = .ok (.invokevirtual 52, 3) := by decide +kernel
theorem dX2_copy_55 : decode cX2_copy 55 = .ok (.aload_n 0, 1) := by decide +kernel
theorem dX2_copy_56 : decode cX2_copy 56 = .ok (.getfield 32, 3) := by decide +kernel
theorem dX2_copy_59 : decode cX2_copy 59 = .ok (.aload_n 1, 1) := by decide +kernel
theorem dX2_copy_60 : decode cX2_copy 60 = .ok (.getfield 32, 3) := by decide +kernel
theorem dX2_copy_63 : decode cX2_copy 63 = .ok (.invokevirtual 52, 3) := by decide +kernel
theorem dX2_copy_66 : decode cX2_copy 66 = .ok (.aload_n 0, 1) := by decide +kernel
theorem dX2_copy_67 : decode cX2_copy 67 = .ok (.aload_n 1, 1) := by decide +kernel
theorem dX2_copy_68 : decode cX2_copy 68 = .ok (.getfield 35, 3) := by decide +kernel
theorem dX2_copy_71 : decode cX2_copy 71 = .ok (.putfield 35, 3) := by decide +kernel
theorem dX2_copy_74 : decode cX2_copy 74 = .ok (.aload_n 0, 1) := by decide +kernel
theorem dX2_copy_75 : decode cX2_copy 75 = .ok (.aload_n 1, 1) := by decide +kernel
theorem dX2_copy_76 : decode cX2_copy 76 = .ok (.getfield 39, 3) := by decide +kernel
theorem dX2_copy_79 : decode cX2_copy 79 = .ok (.putfield 39, 3) := by decide +kernel
theorem dX2_copy_82 : decode cX2_copy 82 = .ok (.aload_n 0, 1) := by decide +kernel
theorem dX2_copy_83 : decode cX2_copy 83 = .ok (.aload_n 1, 1) := by decide +kernel
theorem dX2_copy_84 : decode cX2_copy 84 = .ok (.getfield 42, 3) := by decide +kernel
theorem dX2_copy_87 : decode cX2_copy 87 = .ok (.putfield 42, 3) := by decide +kernel
theorem dX2_copy_90 : decode cX2_copy 90 = .ok (.aload_n 0, 1) := by decide +kernel
theorem dX2_copy_91 : decode cX2_copy 91 = .ok (.aload_n 1, 1) := by decide +kernel
theorem dX2_copy_92 : decode cX2_copy 92 = .ok (.getfield 45, 3) := by decide +kernel
theorem dX2_copy_95 : decode cX2_copy 95 = .ok (.putfield 45, 3) := by decide +kernel
theorem dX2_copy_98 : decode cX2_copy 98 = .ok (.return_, 1) := by decide +kernel
theorem dX2_changeSetting_0 : decode cX2_changeSetting 0 = .ok (.iload_n 1, 1) := by decide +kernel
theorem dX2_changeSetting_1 : decode cX2_changeSetting 1 = .ok (.iload_n 2, 1) := by decide +kernel
theorem dX2_changeSetting_2 : decode cX2_changeSetting 2 = .ok (.invokestatic 56, 3) := by decide +kernel
theorem dX2_changeSetting_5 : decode cX2_changeSetting 5 = .ok (.ifCond .ne 6, 3) := by decide +kernel
theorem dX2_changeSetting_8 : decode cX2_changeSetting 8 = .ok (.bipush (-2), 2) := by decide +kernel
theorem dX2_changeSetting_10 : decode cX2_changeSetting 10 = .ok (.ireturn, 1) := by decide +kernel
theorem dX2_changeSetting_11 : decode cX2_changeSetting 11 = .ok (.aload_n 0, 1) := by decide +kernel
theorem dX2_changeSetting_12 : decode cX2_changeSetting 12 = .ok (.getfield 14, 3) := by decide +kernel
theorem dX2_changeSetting_15 : decode cX2_changeSetting 15 = .ok (.iload_n 1, 1) := by decide +kernel
theorem dX2_changeSetting_16 : decode cX2_changeSetting 16 = .ok (.invokevirtual 60, 3) := by decide +kernel
theorem dX2_changeSetting_19 : decode cX2_changeSetting 19 = .ok (.istore_n 3, 1) := by decide +kernel
theorem dX2_changeSetting_20 : decode cX2_changeSetting 20 = .ok (.aload_n 0, 1) := by decide +kernel
theorem dX2_changeSetting_21 : decode cX2_changeSetting 21 = .ok (.getfield 14, 3) := by decide +kernel
theorem dX2_changeSetting_24 : decode cX2_changeSetting 24 = .ok (.iload_n 1, 1) := by decide +kernel
theorem dX2_changeSetting_25 : decode cX2_changeSetting 25 = .ok (.iload_n 2, 1) := by decide +kernel
theorem dX2_changeSetting_26 : decode cX2_changeSetting 26 = .ok (.invokevirtual 48, 3) := by decide +kernel
theorem dX2_changeSetting_29 : decode cX2_changeSetting 29 = .ok (.iload_n 3, 1) := by decide +kernel
theorem dX2_changeSetting_30 : decode cX2_changeSetting 30 = .ok (.ireturn, 1) := by decide +kernel
theorem dX2_isSettingValue_0 : decode cX2_isSettingValue 0 = .ok (.iload_n 0, 1) := by decide +kernel
theorem dX2_isSettingValue_1 : decode cX2_isSettingValue 1 = .ok (.tableswitch 78 0 2 #[27, 45, 62], 27) := by decide +kernel
theorem dX2_isSettingValue_28 : decode cX2_isSettingValue 28 = .ok (.iload_n 1, 1) := by decide +kernel
theorem dX2_isSettingValue_29 : decode cX2_isSettingValue 29 = .ok (.iconst 1, 1) := by decide +kernel
theorem dX2_isSettingValue_30 : decode cX2_isSettingValue 30 = .ok (.if_icmp .lt 14, 3) := by decide +kernel
theorem dX2_isSettingValue_33 : decode cX2_isSettingValue 33 = .ok (.iload_n 1, 1) := by decide +kernel
theorem dX2_isSettingValue_34 : decode cX2_isSettingValue 34 = .ok (.sipush 9999, 3) := by decide +kernel
theorem dX2_isSettingValue_37 : decode cX2_isSettingValue 37 = .ok (.if_icmp .gt 7, 3) := by decide +kernel
theorem dX2_isSettingValue_40 : decode cX2_isSettingValue 40 = .ok (.iconst 1, 1) := by decide +kernel
theorem dX2_isSettingValue_41 : decode cX2_isSettingValue 41 = .ok (.goto 4, 3) := by decide +kernel
theorem dX2_isSettingValue_44 : decode cX2_isSettingValue 44 = .ok (.iconst 0, 1) := by decide +kernel
theorem dX2_isSettingValue_45 : decode cX2_isSettingValue 45 = .ok (.ireturn, 1) := by decide +kernel
theorem dX2_isSettingValue_46 : decode cX2_isSettingValue 46 = .ok (.iload_n 1, 1) := by decide +kernel
theorem dX2_isSettingValue_47 : decode cX2_isSettingValue 47 = .ok (.iconst 1, 1) := by decide +kernel
theorem dX2_isSettingValue_48 : decode cX2_isSettingValue 48 = .ok (.if_icmp .lt 13, 3) := by decide +kernel
theorem dX2_isSettingValue_51 : decode cX2_isSettingValue 51 = .ok (.iload_n 1, 1) := by decide +kernel
theorem dX2_isSettingValue_52 : decode cX2_isSettingValue 52 = .ok (.bipush 99, 2) := by decide +kernel
theorem dX2_isSettingValue_54 : decode cX2_isSettingValue 54 = .ok (.if_icmp .gt 7, 3) := by decide +kernel
theorem dX2_isSettingValue_57 : decode cX2_isSettingValue 57 = .ok (.iconst 1, 1) := by decide +kernel
theorem dX2_isSettingValue_58 : decode cX2_isSettingValue 58 = .ok (.goto 4, 3) := by decide +kernel
theorem dX2_isSettingValue_61 : decode cX2_isSettingValue 61 = .ok (.iconst 0, 1) := by decide +kernel
theorem dX2_isSettingValue_62 : decode cX2_isSettingValue 62 = .ok (.ireturn, 1) := by decide +kernel
theorem dX2_isSettingValue_63 : decode cX2_isSettingValue 63 = .ok (.iload_n 1, 1) := by decide +kernel
theorem dX2_isSettingValue_64 : decode cX2_isSettingValue 64 = .ok (.ifCond .lt 13, 3) := by decide +kernel
theorem dX2_isSettingValue_67 : decode cX2_isSettingValue 67 = .ok (.iload_n 1, 1) := by decide +kernel
theorem dX2_isSettingValue_68 : decode cX2_isSettingValue 68 = .ok (.bipush 20, 2) := by decide +kernel
theorem dX2_isSettingValue_70 : decode cX2_isSettingValue 70 = .ok (.if_icmp .gt 7, 3) := by decide +kernel
theorem dX2_isSettingValue_73 : decode cX2_isSettingValue 73 = .ok (.iconst 1, 1) := by decide +kernel
theorem dX2_isSettingValue_74 : decode cX2_isSettingValue 74 = .ok (.goto 4, 3) := by decide +kernel
theorem dX2_isSettingValue_77 : decode cX2_isSettingValue 77 = .ok (.iconst 0, 1) := by decide +kernel
theorem dX2_isSettingValue_78 : decode cX2_isSettingValue 78 = .ok (.ireturn, 1) := by decide +kernel
theorem dX2_isSettingValue_79 : decode cX2_isSettingValue 79 = .ok (.iconst 0, 1) := by decide +kernel
theorem dX2_isSettingValue_80 : decode cX2_isSettingValue 80 = .ok (.ireturn, 1) := by decide +kernel
theorem dX2_place_0 : decode cX2_place 0 = .ok (.iload_n 1, 1) := by decide +kernel
theorem dX2_place_1 : decode cX2_place 1 = .ok (.iload_n 2, 1) := by decide +kernel
theorem dX2_place_2 : decode cX2_place 2 = .ok (.invokestatic 64, 3) := by decide +kernel
theorem dX2_place_5 : decode cX2_place 5 = .ok (.ifCond .eq 10, 3) := by decide +kernel
theorem dX2_place_8 : decode cX2_place 8 = .ok (.iload_n 3, 1) := by decide +kernel
theorem dX2_place_9 : decode cX2_place 9 = .ok (.invokestatic 67, 3) := by decide +kernel
theorem dX2_place_12 : decode cX2_place 12 = .ok (.ifCond .ne 6, 3) := by decide +kernel
theorem dX2_place_15 : decode cX2_place 15 = .ok (.bipush (-2), 2) := by decide +kernel
theorem dX2_place_17 : decode cX2_place 17 = .ok (.ireturn, 1) := by decide +kernel
theorem dX2_place_18 : decode cX2_place 18 = .ok (.aload_n 0, 1) := by decide +kernel
theorem dX2_place_19 : decode cX2_place 19 = .ok (.iload_n 1, 1) := by decide +kernel
theorem dX2_place_20 : decode cX2_place 20 = .ok (.iload_n 2, 1) := by decide +kernel
theorem dX2_place_21 : decode cX2_place 21 = .ok (.invokevirtual 71, 3) := by decide +kernel
theorem dX2_place_24 : decode cX2_place 24 = .ok (.bipush (-6), 2) := by decide +kernel
theorem dX2_place_26 : decode cX2_place 26 = .ok (.if_icmp .eq 6, 3) := by decide +kernel
theorem dX2_place_29 : decode cX2_place 29 = .ok (.bipush (-5), 2) := by decide +kernel
theorem dX2_place_31 : decode cX2_place 31 = .ok (.ireturn, 1) := by decide +kernel
theorem dX2_place_32 : decode cX2_place 32 = .ok (.aload_n 0, 1) := by decide +kernel
theorem dX2_place_33 : decode cX2_place 33 = .ok (.getfield 35, 3) := by decide +kernel
theorem dX2_place_36 : decode cX2_place 36 = .ok (.bipush 24, 2) := by decide +kernel
theorem dX2_place_38 : decode cX2_place 38 = .ok (.if_icmp .lt 6, 3) := by decide +kernel
theorem dX2_place_41 : decode cX2_place 41 = .ok (.bipush (-4), 2) := by decide +kernel
theorem dX2_place_43 : decode cX2_place 43 = .ok (.ireturn, 1) := by decide +kernel
theorem dX2_place_44 : decode cX2_place 44 = .ok (.aload_n 0, 1) := by decide +kernel
theorem dX2_place_45 : decode cX2_place 45 = .ok (.iload_n 1, 1) := by decide +kernel
theorem dX2_place_46 : decode cX2_place 46 = .ok (.iload_n 2, 1) := by decide +kernel
theorem dX2_place_47 : decode cX2_place 47 = .ok (.iload_n 3, 1) := by decide +kernel
theorem dX2_place_48 : decode cX2_place 48 = .ok (.invokevirtual 75, 3) := by decide +kernel
theorem dX2_place_51 : decode cX2_place 51 = .ok (.ireturn, 1) := by decide +kernel
theorem dX2_add_0 : decode cX2_add 0 = .ok (.aload_n 0, 1) := by decide +kernel
theorem dX2_add_1 : decode cX2_add 1 = .ok (.getfield 35, 3) := by decide +kernel
theorem dX2_add_4 : decode cX2_add 4 = .ok (.istore 4, 2) := by decide +kernel
theorem dX2_add_6 : decode cX2_add 6 = .ok (.aload_n 0, 1) := by decide +kernel
theorem dX2_add_7 : decode cX2_add 7 = .ok (.getfield 20, 3) := by decide +kernel
theorem dX2_add_10 : decode cX2_add 10 = .ok (.iload 4, 2) := by decide +kernel
theorem dX2_add_12 : decode cX2_add 12 = .ok (.iload_n 1, 1) := by decide +kernel
theorem dX2_add_13 : decode cX2_add 13 = .ok (.invokevirtual 48, 3) := by decide +kernel
theorem dX2_add_16 : decode cX2_add 16 = .ok (.aload_n 0, 1) := by decide +kernel
theorem dX2_add_17 : decode cX2_add 17 = .ok (.getfield 23, 3) := by decide +kernel
theorem dX2_add_20 : decode cX2_add 20 = .ok (.iload 4, 2) := by decide +kernel
theorem dX2_add_22 : decode cX2_add 22 = .ok (.iload_n 2, 1) := by decide +kernel
theorem dX2_add_23 : decode cX2_add 23 = .ok (.invokevirtual 48, 3) := by decide +kernel
theorem dX2_add_26 : decode cX2_add 26 = .ok (.aload_n 0, 1) := by decide +kernel
theorem dX2_add_27 : decode cX2_add 27 = .ok (.getfield 26, 3) := by decide +kernel
theorem dX2_add_30 : decode cX2_add 30 = .ok (.iload 4, 2) := by decide +kernel
theorem dX2_add_32 : decode cX2_add 32 = .ok (.iload_n 3, 1) := by decide +kernel
theorem dX2_add_33 : decode cX2_add 33 = .ok (.invokevirtual 48, 3) := by decide +kernel
theorem dX2_add_36 : decode cX2_add 36 = .ok (.aload_n 0, 1) := by decide +kernel
theorem dX2_add_37 : decode cX2_add 37 = .ok (.getfield 29, 3) := by decide +kernel
theorem dX2_add_40 : decode cX2_add 40 = .ok (.iload 4, 2) := by decide +kernel
theorem dX2_add_42 : decode cX2_add 42 = .ok (.iconst 0, 1) := by decide +kernel
theorem dX2_add_43 : decode cX2_add 43 = .ok (.invokevirtual 48, 3) := by decide +kernel
theorem dX2_add_46 : decode cX2_add 46 = .ok (.aload_n 0, 1) := by decide +kernel
theorem dX2_add_47 : decode cX2_add 47 = .ok (.getfield 32, 3) := by decide +kernel
theorem dX2_add_50 : decode cX2_add 50 = .ok (.iload 4, 2) := by decide +kernel
theorem dX2_add_52 : decode cX2_add 52 = .ok (.iconst 0, 1) := by decide +kernel
theorem dX2_add_53 : decode cX2_add 53 = .ok (.invokevirtual 48, 3) := by decide +kernel
theorem dX2_add_56 : decode cX2_add 56 = .ok (.aload_n 0, 1) := by decide +kernel
theorem dX2_add_57 : decode cX2_add 57 = .ok (.dup, 1) := by decide +kernel
theorem dX2_add_58 : decode cX2_add 58 = .ok (.getfield 35, 3) := by decide +kernel
theorem dX2_add_61 : decode cX2_add 61 = .ok (.iconst 1, 1) := by decide +kernel
theorem dX2_add_62 : decode cX2_add 62 = .ok (.iadd, 1) := by decide +kernel
theorem dX2_add_63 : decode cX2_add 63 = .ok (.putfield 35, 3) := by decide +kernel
theorem dX2_add_66 : decode cX2_add 66 = .ok (.iload 4, 2) := by decide +kernel
theorem dX2_add_68 : decode cX2_add 68 = .ok (.ireturn, 1) := by decide +kernel
theorem dX2_remove_0 : decode cX2_remove 0 = .ok (.aload_n 0, 1) := by decide +kernel
theorem dX2_remove_1 : decode cX2_remove 1 = .ok (.iload_n 1, 1) := by decide +kernel
theorem dX2_remove_2 : decode cX2_remove 2 = .ok (.invokevirtual 79, 3) := by decide +kernel
theorem dX2_remove_5 : decode cX2_remove 5 = .ok (.ifCond .ne 5, 3) := by decide +kernel
theorem dX2_remove_8 : decode cX2_remove 8 = .ok (.iconst (-1), 1) := by decide +kernel
theorem dX2_remove_9 : decode cX2_remove 9 = .ok (.ireturn, 1) := by decide +kernel
theorem dX2_remove_10 : decode cX2_remove 10 = .ok (.aload_n 0, 1) := by decide +kernel
theorem dX2_remove_11 : decode cX2_remove 11 = .ok (.getfield 20, 3) := by decide +kernel
theorem dX2_remove_14 : decode cX2_remove 14 = .ok (.iload_n 1, 1) := by decide +kernel
theorem dX2_remove_15 : decode cX2_remove 15 = .ok (.invokevirtual 82, 3) := by decide +kernel
theorem dX2_remove_18 : decode cX2_remove 18 = .ok (.aload_n 0, 1) := by decide +kernel
theorem dX2_remove_19 : decode cX2_remove 19 = .ok (.getfield 23, 3) := by decide +kernel
theorem dX2_remove_22 : decode cX2_remove 22 = .ok (.iload_n 1, 1) := by decide +kernel
theorem dX2_remove_23 : decode cX2_remove 23 = .ok (.invokevirtual 82, 3) := by decide +kernel
theorem dX2_remove_26 : decode cX2_remove 26 = .ok (.aload_n 0, 1) := by decide +kernel
theorem dX2_remove_27 : decode cX2_remove 27 = .ok (.getfield 26, 3) := by decide +kernel
theorem dX2_remove_30 : decode cX2_remove 30 = .ok (.iload_n 1, 1) := by decide +kernel
theorem dX2_remove_31 : decode cX2_remove 31 = .ok (.invokevirtual 82, 3) := by decide +kernel
theorem dX2_remove_34 : decode cX2_remove 34 = .ok (.aload_n 0, 1) := by decide +kernel
theorem dX2_remove_35 : decode cX2_remove 35 = .ok (.getfield 29, 3) := by decide +kernel
theorem dX2_remove_38 : decode cX2_remove 38 = .ok (.iload_n 1, 1) := by decide +kernel
theorem dX2_remove_39 : decode cX2_remove 39 = .ok (.invokevirtual 82, 3) := by decide +kernel
theorem dX2_remove_42 : decode cX2_remove 42 = .ok (.aload_n 0, 1) := by decide +kernel
theorem dX2_remove_43 : decode cX2_remove 43 = .ok (.getfield 32, 3) := by decide +kernel
theorem dX2_remove_46 : decode cX2_remove 46 = .ok (.iload_n 1, 1) := by decide +kernel
theorem dX2_remove_47 : decode cX2_remove 47 = .ok (.invokevirtual 82, 3) := by decide +kernel
theorem dX2_remove_50 : decode cX2_remove 50 = .ok (.aload_n 0, 1) := by decide +kernel
theorem dX2_remove_51 : decode cX2_remove 51 = .ok (.dup, 1) := by decide +kernel
theorem dX2_remove_52 : decode cX2_remove 52 = .ok (.getfield 35, 3) := by decide +kernel
theorem dX2_remove_55 : decode cX2_remove 55 = .ok (.iconst 1, 1) := by decide +kernel
theorem dX2_remove_56 : decode cX2_remove 56 = .ok (.isub, 1) := by decide +kernel
theorem dX2_remove_57 : decode cX2_remove 57 = .ok (.putfield 35, 3) := by decide +kernel
theorem dX2_remove_60 : decode cX2_remove 60 = .ok (.aload_n 0, 1) := by decide +kernel
theorem dX2_remove_61 : decode cX2_remove 61 = .ok (.getfield 35, 3) := by decide +kernel
theorem dX2_remove_64 : decode cX2_remove 64 = .ok (.ireturn, 1) := by decide +kernel
theorem dX2_turn_0 : decode cX2_turn 0 = .ok (.aload_n 0, 1) := by decide +kernel
theorem dX2_turn_1 : decode cX2_turn 1 = .ok (.iload_n 1, 1) := by decide +kernel
theorem dX2_turn_2 : decode cX2_turn 2 = .ok (.invokevirtual 79, 3) := by decide +kernel
theorem dX2_turn_5 : decode cX2_turn 5 = .ok (.ifCond .ne 5, 3) := by decide +kernel
theorem dX2_turn_8 : decode cX2_turn 8 = .ok (.iconst (-1), 1) := by decide +kernel
theorem dX2_turn_9 : decode cX2_turn 9 = .ok (.ireturn, 1) := by decide +kernel
theorem dX2_turn_10 : decode cX2_turn 10 = .ok (.iload_n 2, 1) := by decide +kernel
theorem dX2_turn_11 : decode cX2_turn 11 = .ok (.invokestatic 67, 3) := by decide +kernel
theorem dX2_turn_14 : decode cX2_turn 14 = .ok (.ifCond .ne 6, 3) := by decide +kernel
theorem dX2_turn_17 : decode cX2_turn 17 = .ok (.bipush (-2), 2) := by decide +kernel
theorem dX2_turn_19 : decode cX2_turn 19 = .ok (.ireturn, 1) := by decide +kernel
theorem dX2_turn_20 : decode cX2_turn 20 = .ok (.aload_n 0, 1) := by decide +kernel
theorem dX2_turn_21 : decode cX2_turn 21 = .ok (.getfield 26, 3) := by decide +kernel
theorem dX2_turn_24 : decode cX2_turn 24 = .ok (.iload_n 1, 1) := by decide +kernel
theorem dX2_turn_25 : decode cX2_turn 25 = .ok (.invokevirtual 60, 3) := by decide +kernel
theorem dX2_turn_28 : decode cX2_turn 28 = .ok (.istore_n 3, 1) := by decide +kernel
theorem dX2_turn_29 : decode cX2_turn 29 = .ok (.aload_n 0, 1) := by decide +kernel
theorem dX2_turn_30 : decode cX2_turn 30 = .ok (.getfield 26, 3) := by decide +kernel
theorem dX2_turn_33 : decode cX2_turn 33 = .ok (.iload_n 1, 1) := by decide +kernel
theorem dX2_turn_34 : decode cX2_turn 34 = .ok (.iload_n 2, 1) := by decide +kernel
theorem dX2_turn_35 : decode cX2_turn 35 = .ok (.invokevirtual 48, 3) := by decide +kernel
theorem dX2_turn_38 : decode cX2_turn 38 = .ok (.iload_n 3, 1) := by decide +kernel
theorem dX2_turn_39 : decode cX2_turn 39 = .ok (.ireturn, 1) := by decide +kernel
theorem dX2_clean_0 : decode cX2_clean 0 = .ok (.aload_n 0, 1) := by decide +kernel
theorem dX2_clean_1 : decode cX2_clean 1 = .ok (.iload_n 1, 1) := by decide +kernel
theorem dX2_clean_2 : decode cX2_clean 2 = .ok (.invokevirtual 79, 3) := by decide +kernel
theorem dX2_clean_5 : decode cX2_clean 5 = .ok (.ifCond .ne 5, 3) := by decide +kernel
theorem dX2_clean_8 : decode cX2_clean 8 = .ok (.iconst (-1), 1) := by decide +kernel
theorem dX2_clean_9 : decode cX2_clean 9 = .ok (.ireturn, 1) := by decide +kernel
theorem dX2_clean_10 : decode cX2_clean 10 = .ok (.aload_n 0, 1) := by decide +kernel
theorem dX2_clean_11 : decode cX2_clean 11 = .ok (.getfield 29, 3) := by decide +kernel
theorem dX2_clean_14 : decode cX2_clean 14 = .ok (.iload_n 1, 1) := by decide +kernel
theorem dX2_clean_15 : decode cX2_clean 15 = .ok (.invokevirtual 60, 3) := by decide +kernel
theorem dX2_clean_18 : decode cX2_clean 18 = .ok (.istore_n 2, 1) := by decide +kernel
theorem dX2_clean_19 : decode cX2_clean 19 = .ok (.aload_n 0, 1) := by decide +kernel
theorem dX2_clean_20 : decode cX2_clean 20 = .ok (.getfield 29, 3) := by decide +kernel
theorem dX2_clean_23 : decode cX2_clean 23 = .ok (.iload_n 1, 1) := by decide +kernel
theorem dX2_clean_24 : decode cX2_clean 24 = .ok (.iconst 0, 1) := by decide +kernel
theorem dX2_clean_25 : decode cX2_clean 25 = .ok (.invokevirtual 48, 3) := by decide +kernel
theorem dX2_clean_28 : decode cX2_clean 28 = .ok (.iload_n 2, 1) := by decide +kernel
theorem dX2_clean_29 : decode cX2_clean 29 = .ok (.ireturn, 1) := by decide +kernel
theorem dX2_blow_0 : decode cX2_blow 0 = .ok (.iload_n 1, 1) := by decide +kernel
theorem dX2_blow_1 : decode cX2_blow 1 = .ok (.ifCond .lt 9, 3) := by decide +kernel
theorem dX2_blow_4 : decode cX2_blow 4 = .ok (.iload_n 1, 1) := by decide +kernel
theorem dX2_blow_5 : decode cX2_blow 5 = .ok (.bipush 99, 2) := by decide +kernel
theorem dX2_blow_7 : decode cX2_blow 7 = .ok (.if_icmp .le 6, 3) := by decide +kernel
theorem dX2_blow_10 : decode cX2_blow 10 = .ok (.bipush (-2), 2) := by decide +kernel
theorem dX2_blow_12 : decode cX2_blow 12 = .ok (.ireturn, 1) := by decide +kernel
theorem dX2_blow_13 : decode cX2_blow 13 = .ok (.aload_n 0, 1) := by decide +kernel
theorem dX2_blow_14 : decode cX2_blow 14 = .ok (.iload_n 1, 1) := by decide +kernel
theorem dX2_blow_15 : decode cX2_blow 15 = .ok (.putfield 39, 3) := by decide +kernel
theorem dX2_blow_18 : decode cX2_blow 18 = .ok (.aload_n 0, 1) := by decide +kernel
theorem dX2_blow_19 : decode cX2_blow 19 = .ok (.invokevirtual 85, 3) := by decide +kernel
theorem dX2_blow_22 : decode cX2_blow 22 = .ok (.ifCond .eq 7, 3) := by decide +kernel
theorem dX2_blow_25 : decode cX2_blow 25 = .ok (.iconst 1, 1) := by decide +kernel
theorem dX2_blow_26 : decode cX2_blow 26 = .ok (.goto 4, 3) := by decide +kernel
theorem dX2_blow_29 : decode cX2_blow 29 = .ok (.iconst 0, 1) := by decide +kernel
theorem dX2_blow_30 : decode cX2_blow 30 = .ok (.ireturn, 1) := by decide +kernel
theorem dX2_credit_0 : decode cX2_credit 0 = .ok (.aload_n 0, 1) := by decide +kernel
theorem dX2_credit_1 : decode cX2_credit 1 = .ok (.getfield 32, 3) := by decide +kernel
theorem dX2_credit_4 : decode cX2_credit 4 = .ok (.iload_n 1, 1) := by decide +kernel
theorem dX2_credit_5 : decode cX2_credit 5 = .ok (.aload_n 0, 1) := by decide +kernel
theorem dX2_credit_6 : decode cX2_credit 6 = .ok (.getfield 32, 3) := by decide +kernel
theorem dX2_credit_9 : decode cX2_credit 9 = .ok (.iload_n 1, 1) := by decide +kernel
theorem dX2_credit_10 : decode cX2_credit 10 = .ok (.invokevirtual 60, 3) := by decide +kernel
theorem dX2_credit_13 : decode cX2_credit 13 = .ok (.iload_n 2, 1) := by decide +kernel
theorem dX2_credit_14 : decode cX2_credit 14 = .ok (.iadd, 1) := by decide +kernel
theorem dX2_credit_15 : decode cX2_credit 15 = .ok (.invokevirtual 48, 3) := by decide +kernel
theorem dX2_credit_18 : decode cX2_credit 18 = .ok (.return_, 1) := by decide +kernel
theorem dX2_endDay_0 : decode cX2_endDay 0 = .ok (.aload_n 0, 1) := by decide +kernel
theorem dX2_endDay_1 : decode cX2_endDay 1 = .ok (.dup, 1) := by decide +kernel
theorem dX2_endDay_2 : decode cX2_endDay 2 = .ok (.getfield 42, 3) := by decide +kernel
theorem dX2_endDay_5 : decode cX2_endDay 5 = .ok (.iconst 1, 1) := by decide +kernel
theorem dX2_endDay_6 : decode cX2_endDay 6 = .ok (.iadd, 1) := by decide +kernel
theorem dX2_endDay_7 : decode cX2_endDay 7 = .ok (.putfield 42, 3) := by decide +kernel
theorem dX2_endDay_10 : decode cX2_endDay 10 = .ok (.aload_n 0, 1) := by decide +kernel
theorem dX2_endDay_11 : decode cX2_endDay 11 = .ok (.dup, 1) := by decide +kernel
theorem dX2_endDay_12 : decode cX2_endDay 12 = .ok (.getfield 45, 3) := by decide +kernel
theorem dX2_endDay_15 : decode cX2_endDay 15 = .ok (.iload_n 1, 1) := by decide +kernel
theorem dX2_endDay_16 : decode cX2_endDay 16 = .ok (.iadd, 1) := by decide +kernel
theorem dX2_endDay_17 : decode cX2_endDay 17 = .ok (.putfield 45, 3) := by decide +kernel
theorem dX2_endDay_20 : decode cX2_endDay 20 = .ok (.iconst 0, 1) := by decide +kernel
theorem dX2_endDay_21 : decode cX2_endDay 21 = .ok (.istore_n 2, 1) := by decide +kernel
theorem dX2_endDay_22 : decode cX2_endDay 22 = .ok (.iload_n 2, 1) := by decide +kernel
theorem dX2_endDay_23 : decode cX2_endDay 23 = .ok (.aload_n 0, 1) := by decide +kernel
theorem dX2_endDay_24 : decode cX2_endDay 24 = .ok (.getfield 35, 3) := by decide +kernel
theorem dX2_endDay_27 : decode cX2_endDay 27 = .ok (.if_icmp .ge 39, 3) := by decide +kernel
theorem dX2_endDay_30 : decode cX2_endDay 30 = .ok (.aload_n 0, 1) := by decide +kernel
theorem dX2_endDay_31 : decode cX2_endDay 31 = .ok (.getfield 29, 3) := by decide +kernel
theorem dX2_endDay_34 : decode cX2_endDay 34 = .ok (.iload_n 2, 1) := by decide +kernel
theorem dX2_endDay_35 : decode cX2_endDay 35 = .ok (.bipush 100, 2) := by decide +kernel
theorem dX2_endDay_37 : decode cX2_endDay 37 = .ok (.aload_n 0, 1) := by decide +kernel
theorem dX2_endDay_38 : decode cX2_endDay 38 = .ok (.getfield 29, 3) := by decide +kernel
theorem dX2_endDay_41 : decode cX2_endDay 41 = .ok (.iload_n 2, 1) := by decide +kernel
theorem dX2_endDay_42 : decode cX2_endDay 42 = .ok (.invokevirtual 60, 3) := by decide +kernel
theorem dX2_endDay_45 : decode cX2_endDay 45 = .ok (.aload_n 0, 1) := by decide +kernel
theorem dX2_endDay_46 : decode cX2_endDay 46 = .ok (.getfield 14, 3) := by decide +kernel
theorem dX2_endDay_49 : decode cX2_endDay 49 = .ok (.iconst 2, 1) := by decide +kernel
theorem dX2_endDay_50 : decode cX2_endDay 50 = .ok (.invokevirtual 60, 3) := by decide +kernel
theorem dX2_endDay_53 : decode cX2_endDay 53 = .ok (.iadd, 1) := by decide +kernel
theorem dX2_endDay_54 : decode cX2_endDay 54 = .ok (.invokestatic 89, 3) := by decide +kernel
theorem dX2_endDay_57 : decode cX2_endDay 57 = .ok (.invokevirtual 48, 3) := by decide +kernel
theorem dX2_endDay_60 : decode cX2_endDay 60 = .ok (.iinc 2 1, 3) := by decide +kernel
theorem dX2_endDay_63 : decode cX2_endDay 63 = .ok (.goto (-41), 3) := by decide +kernel
theorem dX2_endDay_66 : decode cX2_endDay 66 = .ok (.return_, 1) := by decide +kernel
theorem dX2_isMirror_0 : decode cX2_isMirror 0 = .ok (.iload_n 1, 1) := by decide +kernel
theorem dX2_isMirror_1 : decode cX2_isMirror 1 = .ok (.ifCond .lt 15, 3) := by decide +kernel
theorem dX2_isMirror_4 : decode cX2_isMirror 4 = .ok (.iload_n 1, 1) := by decide +kernel
theorem dX2_isMirror_5 : decode cX2_isMirror 5 = .ok (.aload_n 0, 1) := by decide +kernel
theorem dX2_isMirror_6 : decode cX2_isMirror 6 = .ok (.getfield 35, 3) := by decide +kernel
theorem dX2_isMirror_9 : decode cX2_isMirror 9 = .ok (.if_icmp .ge 7, 3) := by decide +kernel
theorem dX2_isMirror_12 : decode cX2_isMirror 12 = .ok (.iconst 1, 1) := by decide +kernel
theorem dX2_isMirror_13 : decode cX2_isMirror 13 = .ok (.goto 4, 3) := by decide +kernel
theorem dX2_isMirror_16 : decode cX2_isMirror 16 = .ok (.iconst 0, 1) := by decide +kernel
theorem dX2_isMirror_17 : decode cX2_isMirror 17 = .ok (.ireturn, 1) := by decide +kernel
theorem dX2_mirrorIn_0 : decode cX2_mirrorIn 0 = .ok (.iconst 0, 1) := by decide +kernel
theorem dX2_mirrorIn_1 : decode cX2_mirrorIn 1 = .ok (.istore_n 3, 1) := by decide +kernel
theorem dX2_mirrorIn_2 : decode cX2_mirrorIn 2 = .ok (.iload_n 3, 1) := by decide +kernel
theorem dX2_mirrorIn_3 : decode cX2_mirrorIn 3 = .ok (.aload_n 0, 1) := by decide +kernel
theorem dX2_mirrorIn_4 : decode cX2_mirrorIn 4 = .ok (.getfield 35, 3) := by decide +kernel
theorem dX2_mirrorIn_7 : decode cX2_mirrorIn 7 = .ok (.if_icmp .ge 35, 3) := by decide +kernel
theorem dX2_mirrorIn_10 : decode cX2_mirrorIn 10 = .ok (.aload_n 0, 1) := by decide +kernel
theorem dX2_mirrorIn_11 : decode cX2_mirrorIn 11 = .ok (.getfield 20, 3) := by decide +kernel
theorem dX2_mirrorIn_14 : decode cX2_mirrorIn 14 = .ok (.iload_n 3, 1) := by decide +kernel
theorem dX2_mirrorIn_15 : decode cX2_mirrorIn 15 = .ok (.invokevirtual 60, 3) := by decide +kernel
theorem dX2_mirrorIn_18 : decode cX2_mirrorIn 18 = .ok (.iload_n 1, 1) := by decide +kernel
theorem dX2_mirrorIn_19 : decode cX2_mirrorIn 19 = .ok (.if_icmp .ne 17, 3) := by decide +kernel
theorem dX2_mirrorIn_22 : decode cX2_mirrorIn 22 = .ok (.aload_n 0, 1) := by decide +kernel
theorem dX2_mirrorIn_23 : decode cX2_mirrorIn 23 = .ok (.getfield 23, 3) := by decide +kernel
theorem dX2_mirrorIn_26 : decode cX2_mirrorIn 26 = .ok (.iload_n 3, 1) := by decide +kernel
theorem dX2_mirrorIn_27 : decode cX2_mirrorIn 27 = .ok (.invokevirtual 60, 3) := by decide +kernel
theorem dX2_mirrorIn_30 : decode cX2_mirrorIn 30 = .ok (.iload_n 2, 1) := by decide +kernel
theorem dX2_mirrorIn_31 : decode cX2_mirrorIn 31 = .ok (.if_icmp .ne 5, 3) := by decide +kernel
theorem dX2_mirrorIn_34 : decode cX2_mirrorIn 34 = .ok (.iload_n 3, 1) := by decide +kernel
theorem dX2_mirrorIn_35 : decode cX2_mirrorIn 35 = .ok (.ireturn, 1) := by decide +kernel
theorem dX2_mirrorIn_36 : decode cX2_mirrorIn 36 = .ok (.iinc 3 1, 3) := by decide +kernel
theorem dX2_mirrorIn_39 : decode cX2_mirrorIn 39 = .ok (.goto (-37), 3) := by decide +kernel
theorem dX2_mirrorIn_42 : decode cX2_mirrorIn 42 = .ok (.bipush (-6), 2) := by decide +kernel
theorem dX2_mirrorIn_44 : decode cX2_mirrorIn 44 = .ok (.ireturn, 1) := by decide +kernel
theorem dX2_mirrorsOf_0 : decode cX2_mirrorsOf 0 = .ok (.iconst 0, 1) := by decide +kernel
theorem dX2_mirrorsOf_1 : decode cX2_mirrorsOf 1 = .ok (.istore_n 2, 1) := by decide +kernel
theorem dX2_mirrorsOf_2 : decode cX2_mirrorsOf 2 = .ok (.iconst 0, 1) := by decide +kernel
theorem dX2_mirrorsOf_3 : decode cX2_mirrorsOf 3 = .ok (.istore_n 3, 1) := by decide +kernel
theorem dX2_mirrorsOf_4 : decode cX2_mirrorsOf 4 = .ok (.iload_n 3, 1) := by decide +kernel
theorem dX2_mirrorsOf_5 : decode cX2_mirrorsOf 5 = .ok (.aload_n 0, 1) := by decide +kernel
theorem dX2_mirrorsOf_6 : decode cX2_mirrorsOf 6 = .ok (.getfield 35, 3) := by decide +kernel
theorem dX2_mirrorsOf_9 : decode cX2_mirrorsOf 9 = .ok (.if_icmp .ge 27, 3) := by decide +kernel
theorem dX2_mirrorsOf_12 : decode cX2_mirrorsOf 12 = .ok (.aload_n 0, 1) := by decide +kernel
theorem dX2_mirrorsOf_13 : decode cX2_mirrorsOf 13 = .ok (.getfield 26, 3) := by decide +kernel
theorem dX2_mirrorsOf_16 : decode cX2_mirrorsOf 16 = .ok (.iload_n 3, 1) := by decide +kernel
theorem dX2_mirrorsOf_17 : decode cX2_mirrorsOf 17 = .ok (.invokevirtual 60, 3) := by decide +kernel
theorem dX2_mirrorsOf_20 : decode cX2_mirrorsOf 20 = .ok (.iload_n 1, 1) := by decide +kernel
theorem dX2_mirrorsOf_21 : decode cX2_mirrorsOf 21 = .ok (.if_icmp .ne 9, 3) := by decide +kernel
theorem dX2_mirrorsOf_24 : decode cX2_mirrorsOf 24 = .ok (.iload_n 2, 1) := by decide +kernel
theorem dX2_mirrorsOf_25 : decode cX2_mirrorsOf 25 = .ok (.iconst 1, 1) := by decide +kernel
theorem dX2_mirrorsOf_26 : decode cX2_mirrorsOf 26 = .ok (.iload_n 3, 1) := by decide +kernel
theorem dX2_mirrorsOf_27 : decode cX2_mirrorsOf 27 = .ok (.ishl, 1) := by decide +kernel
theorem dX2_mirrorsOf_28 : decode cX2_mirrorsOf 28 = .ok (.ior, 1) := by decide +kernel
theorem dX2_mirrorsOf_29 : decode cX2_mirrorsOf 29 = .ok (.istore_n 2, 1) := by decide +kernel
theorem dX2_mirrorsOf_30 : decode cX2_mirrorsOf 30 = .ok (.iinc 3 1, 3) := by decide +kernel
theorem dX2_mirrorsOf_33 : decode cX2_mirrorsOf 33 = .ok (.goto (-29), 3) := by decide +kernel
theorem dX2_mirrorsOf_36 : decode cX2_mirrorsOf 36 = .ok (.iload_n 2, 1) := by decide +kernel
theorem dX2_mirrorsOf_37 : decode cX2_mirrorsOf 37 = .ok (.ireturn, 1) := by decide +kernel
theorem dX2_allDust_0 : decode cX2_allDust 0 = .ok (.iconst 0, 1) := by decide +kernel
theorem dX2_allDust_1 : decode cX2_allDust 1 = .ok (.istore_n 1, 1) := by decide +kernel
theorem dX2_allDust_2 : decode cX2_allDust 2 = .ok (.iconst 0, 1) := by decide +kernel
theorem dX2_allDust_3 : decode cX2_allDust 3 = .ok (.istore_n 2, 1) := by decide +kernel
theorem dX2_allDust_4 : decode cX2_allDust 4 = .ok (.iload_n 2, 1) := by decide +kernel
theorem dX2_allDust_5 : decode cX2_allDust 5 = .ok (.aload_n 0, 1) := by decide +kernel
theorem dX2_allDust_6 : decode cX2_allDust 6 = .ok (.getfield 35, 3) := by decide +kernel
theorem dX2_allDust_9 : decode cX2_allDust 9 = .ok (.if_icmp .ge 20, 3) := by decide +kernel
theorem dX2_allDust_12 : decode cX2_allDust 12 = .ok (.iload_n 1, 1) := by decide +kernel
theorem dX2_allDust_13 : decode cX2_allDust 13 = .ok (.aload_n 0, 1) := by decide +kernel
theorem dX2_allDust_14 : decode cX2_allDust 14 = .ok (.getfield 29, 3) := by decide +kernel
theorem dX2_allDust_17 : decode cX2_allDust 17 = .ok (.iload_n 2, 1) := by decide +kernel
theorem dX2_allDust_18 : decode cX2_allDust 18 = .ok (.invokevirtual 60, 3) := by decide +kernel
theorem dX2_allDust_21 : decode cX2_allDust 21 = .ok (.iadd, 1) := by decide +kernel
theorem dX2_allDust_22 : decode cX2_allDust 22 = .ok (.istore_n 1, 1) := by decide +kernel
theorem dX2_allDust_23 : decode cX2_allDust 23 = .ok (.iinc 2 1, 3) := by decide +kernel
theorem dX2_allDust_26 : decode cX2_allDust 26 = .ok (.goto (-22), 3) := by decide +kernel
theorem dX2_allDust_29 : decode cX2_allDust 29 = .ok (.iload_n 1, 1) := by decide +kernel
theorem dX2_allDust_30 : decode cX2_allDust 30 = .ok (.ireturn, 1) := by decide +kernel
theorem dX2_liesFlat_0 : decode cX2_liesFlat 0 = .ok (.aload_n 0, 1) := by decide +kernel
theorem dX2_liesFlat_1 : decode cX2_liesFlat 1 = .ok (.getfield 39, 3) := by decide +kernel
theorem dX2_liesFlat_4 : decode cX2_liesFlat 4 = .ok (.aload_n 0, 1) := by decide +kernel
theorem dX2_liesFlat_5 : decode cX2_liesFlat 5 = .ok (.getfield 14, 3) := by decide +kernel
theorem dX2_liesFlat_8 : decode cX2_liesFlat 8 = .ok (.iconst 1, 1) := by decide +kernel
theorem dX2_liesFlat_9 : decode cX2_liesFlat 9 = .ok (.invokevirtual 60, 3) := by decide +kernel
theorem dX2_liesFlat_12 : decode cX2_liesFlat 12 = .ok (.if_icmp .le 7, 3) := by decide +kernel
theorem dX2_liesFlat_15 : decode cX2_liesFlat 15 = .ok (.iconst 1, 1) := by decide +kernel
theorem dX2_liesFlat_16 : decode cX2_liesFlat 16 = .ok (.goto 4, 3) := by decide +kernel
theorem dX2_liesFlat_19 : decode cX2_liesFlat 19 = .ok (.iconst 0, 1) := by decide +kernel
theorem dX2_liesFlat_20 : decode cX2_liesFlat 20 = .ok (.ireturn, 1) := by decide +kernel
theorem dX3_init_0 : decode cX3_init 0 = .ok (.aload_n 0, 1) := by decide +kernel
theorem dX3_init_1 : decode cX3_init 1 = .ok (.invokespecial 3, 3) := by decide +kernel
theorem dX3_init_4 : decode cX3_init 4 = .ok (.aload_n 0, 1) := by decide +kernel
theorem dX3_init_5 : decode cX3_init 5 = .ok (.new 9, 3) := by decide +kernel
theorem dX3_init_8 : decode cX3_init 8 = .ok (.dup, 1) := by decide +kernel
theorem dX3_init_9 : decode cX3_init 9 = .ok (.bipush 7, 2) := by decide +kernel
theorem dX3_init_11 : decode cX3_init 11 = .ok (.invokespecial 13, 3) := by decide +kernel
theorem dX3_init_14 : decode cX3_init 14 = .ok (.putfield 16, 3) := by decide +kernel
theorem dX3_init_17 : decode cX3_init 17 = .ok (.aload_n 0, 1) := by decide +kernel
theorem dX3_init_18 : decode cX3_init 18 = .ok (.iconst 0, 1) := by decide +kernel
theorem dX3_init_19 : decode cX3_init 19 = .ok (.putfield 20, 3) := by decide +kernel
theorem dX3_init_22 : decode cX3_init 22 = .ok (.aload_n 0, 1) := by decide +kernel
theorem dX3_init_23 : decode cX3_init 23 = .ok (.iconst 0, 1) := by decide +kernel
theorem dX3_init_24 : decode cX3_init 24 = .ok (.putfield 24, 3) := by decide +kernel
theorem dX3_init_27 : decode cX3_init 27 = .ok (.return_, 1) := by decide +kernel
theorem dX3_note_0 : decode cX3_note 0 = .ok (.aload_n 0, 1) := by decide +kernel
theorem dX3_note_1 : decode cX3_note 1 = .ok (.getfield 16, 3) := by decide +kernel
theorem dX3_note_4 : decode cX3_note 4 = .ok (.aload_n 0, 1) := by decide +kernel
theorem dX3_note_5 : decode cX3_note 5 = .ok (.getfield 20, 3) := by decide +kernel
theorem dX3_note_8 : decode cX3_note 8 = .ok (.aload_n 1, 1) := by decide +kernel
theorem dX3_note_9 : decode cX3_note 9 = .ok (.invokevirtual 27, 3) := by decide +kernel
theorem dX3_note_12 : decode cX3_note 12 = .ok (.return_, 1) := by decide +kernel
theorem dX3_keepNote_0 : decode cX3_keepNote 0 = .ok (.aload_n 0, 1) := by decide +kernel
theorem dX3_keepNote_1 : decode cX3_keepNote 1 = .ok (.aload_n 0, 1) := by decide +kernel
theorem dX3_keepNote_2 : decode cX3_keepNote 2 = .ok (.getfield 20, 3) := by decide +kernel
theorem dX3_keepNote_5 : decode cX3_keepNote 5 = .ok (.iconst 1, 1) := by decide +kernel
theorem dX3_keepNote_6 : decode cX3_keepNote 6 = .ok (.iadd, 1) := by decide +kernel
theorem dX3_keepNote_7 : decode cX3_keepNote 7 = .ok (.bipush 7, 2) := by decide +kernel
theorem dX3_keepNote_9 : decode cX3_keepNote 9 = .ok (.irem, 1) := by decide +kernel
theorem dX3_keepNote_10 : decode cX3_keepNote 10 = .ok (.putfield 20, 3) := by decide +kernel
theorem dX3_keepNote_13 : decode cX3_keepNote 13 = .ok (.aload_n 0, 1) := by decide +kernel
theorem dX3_keepNote_14 : decode cX3_keepNote 14 = .ok (.aload_n 0, 1) := by decide +kernel
theorem dX3_keepNote_15 : decode cX3_keepNote 15 = .ok (.getfield 24, 3) := by decide +kernel
theorem dX3_keepNote_18 : decode cX3_keepNote 18 = .ok (.iconst 1, 1) := by decide +kernel
theorem dX3_keepNote_19 : decode cX3_keepNote 19 = .ok (.iadd, 1) := by decide +kernel
theorem dX3_keepNote_20 : decode cX3_keepNote 20 = .ok (.bipush 6, 2) := by decide +kernel
theorem dX3_keepNote_22 : decode cX3_keepNote 22 = .ok (.invokestatic 31, 3) := by decide +kernel
theorem dX3_keepNote_25 : decode cX3_keepNote 25 = .ok (.putfield 24, 3) := by decide +kernel
theorem dX3_keepNote_28 : decode cX3_keepNote 28 = .ok (.return_, 1) := by decide +kernel
theorem dX3_stepBack_0 : decode cX3_stepBack 0 = .ok (.aload_n 0, 1) := by decide +kernel
theorem dX3_stepBack_1 : decode cX3_stepBack 1 = .ok (.getfield 24, 3) := by decide +kernel
theorem dX3_stepBack_4 : decode cX3_stepBack 4 = .ok (.ifCond .ne 5, 3) := by decide +kernel
theorem dX3_stepBack_7 : decode cX3_stepBack 7 = .ok (.iconst 0, 1) := by decide +kernel
theorem dX3_stepBack_8 : decode cX3_stepBack 8 = .ok (.ireturn, 1) := by decide +kernel
theorem dX3_stepBack_9 : decode cX3_stepBack 9 = .ok (.aload_n 0, 1) := by decide +kernel
theorem dX3_stepBack_10 : decode cX3_stepBack 10 = .ok (.aload_n 0, 1) := by decide +kernel
theorem dX3_stepBack_11 : decode cX3_stepBack 11 = .ok (.getfield 20, 3) := by decide +kernel
theorem dX3_stepBack_14 : decode cX3_stepBack 14 = .ok (.bipush 7, 2) := by decide +kernel
theorem dX3_stepBack_16 : decode cX3_stepBack 16 = .ok (.iadd, 1) := by decide +kernel
theorem dX3_stepBack_17 : decode cX3_stepBack 17 = .ok (.iconst 1, 1) := by decide +kernel
theorem dX3_stepBack_18 : decode cX3_stepBack 18 = .ok (.isub, 1) := by decide +kernel
theorem dX3_stepBack_19 : decode cX3_stepBack 19 = .ok (.bipush 7, 2) := by decide +kernel
theorem dX3_stepBack_21 : decode cX3_stepBack 21 = .ok (.irem, 1) := by decide +kernel
theorem dX3_stepBack_22 : decode cX3_stepBack 22 = .ok (.putfield 20, 3) := by decide +kernel
theorem dX3_stepBack_25 : decode cX3_stepBack 25 = .ok (.aload_n 0, 1) := by decide +kernel
theorem dX3_stepBack_26 : decode cX3_stepBack 26 = .ok (.dup, 1) := by decide +kernel
theorem dX3_stepBack_27 : decode cX3_stepBack 27 = .ok (.getfield 24, 3) := by decide +kernel
theorem dX3_stepBack_30 : decode cX3_stepBack 30 = .ok (.iconst 1, 1) := by decide +kernel
theorem dX3_stepBack_31 : decode cX3_stepBack 31 = .ok (.isub, 1) := by decide +kernel
theorem dX3_stepBack_32 : decode cX3_stepBack 32 = .ok (.putfield 24, 3) := by decide +kernel
theorem dX3_stepBack_35 : decode cX3_stepBack 35 = .ok (.aload_n 0, 1) := by decide +kernel
theorem dX3_stepBack_36 : decode cX3_stepBack 36 = .ok (.getfield 16, 3) := by decide +kernel
theorem dX3_stepBack_39 : decode cX3_stepBack 39 = .ok (.aload_n 0, 1) := by decide +kernel
theorem dX3_stepBack_40 : decode cX3_stepBack 40 = .ok (.getfield 20, 3) := by decide +kernel
theorem dX3_stepBack_43 : decode cX3_stepBack 43 = .ok (.aload_n 1, 1) := by decide +kernel
theorem dX3_stepBack_44 : decode cX3_stepBack 44 = .ok (.invokevirtual 37, 3) := by decide +kernel
theorem dX3_stepBack_47 : decode cX3_stepBack 47 = .ok (.iconst 1, 1) := by decide +kernel
theorem dX3_stepBack_48 : decode cX3_stepBack 48 = .ok (.ireturn, 1) := by decide +kernel
theorem dX3_size_0 : decode cX3_size 0 = .ok (.aload_n 0, 1) := by decide +kernel
theorem dX3_size_1 : decode cX3_size 1 = .ok (.getfield 24, 3) := by decide +kernel
theorem dX3_size_4 : decode cX3_size 4 = .ok (.ireturn, 1) := by decide +kernel
theorem dX4_init_0 : decode cX4_init 0 = .ok (.aload_n 0, 1) := by decide +kernel
theorem dX4_init_1 : decode cX4_init 1 = .ok (.invokespecial 3, 3) := by decide +kernel
theorem dX4_init_4 : decode cX4_init 4 = .ok (.aload_n 0, 1) := by decide +kernel
theorem dX4_init_5 : decode cX4_init 5 = .ok (.new 9, 3) := by decide +kernel
theorem dX4_init_8 : decode cX4_init 8 = .ok (.dup, 1) := by decide +kernel
theorem dX4_init_9 : decode cX4_init 9 = .ok (.sipush 400, 3) := by decide +kernel
theorem dX4_init_12 : decode cX4_init 12 = .ok (.invokespecial 11, 3) := by decide +kernel
theorem dX4_init_15 : decode cX4_init 15 = .ok (.putfield 14, 3) := by decide +kernel
theorem dX4_init_18 : decode cX4_init 18 = .ok (.aload_n 0, 1) := by decide +kernel
theorem dX4_init_19 : decode cX4_init 19 = .ok (.new 9, 3) := by decide +kernel
theorem dX4_init_22 : decode cX4_init 22 = .ok (.dup, 1) := by decide +kernel
theorem dX4_init_23 : decode cX4_init 23 = .ok (.sipush 275, 3) := by decide +kernel
theorem dX4_init_26 : decode cX4_init 26 = .ok (.invokespecial 11, 3) := by decide +kernel
theorem dX4_init_29 : decode cX4_init 29 = .ok (.putfield 20, 3) := by decide +kernel
theorem dX4_init_32 : decode cX4_init 32 = .ok (.aload_n 0, 1) := by decide +kernel
theorem dX4_init_33 : decode cX4_init 33 = .ok (.new 9, 3) := by decide +kernel
theorem dX4_init_36 : decode cX4_init 36 = .ok (.dup, 1) := by decide +kernel
theorem dX4_init_37 : decode cX4_init 37 = .ok (.bipush 25, 2) := by decide +kernel
theorem dX4_init_39 : decode cX4_init 39 = .ok (.invokespecial 11, 3) := by decide +kernel
theorem dX4_init_42 : decode cX4_init 42 = .ok (.putfield 23, 3) := by decide +kernel
theorem dX4_init_45 : decode cX4_init 45 = .ok (.aload_n 0, 1) := by decide +kernel
theorem dX4_init_46 : decode cX4_init 46 = .ok (.new 9, 3) := by decide +kernel
theorem dX4_init_49 : decode cX4_init 49 = .ok (.dup, 1) := by decide +kernel
theorem dX4_init_50 : decode cX4_init 50 = .ok (.bipush 25, 2) := by decide +kernel
theorem dX4_init_52 : decode cX4_init 52 = .ok (.invokespecial 11, 3) := by decide +kernel
theorem dX4_init_55 : decode cX4_init 55 = .ok (.putfield 26, 3) := by decide +kernel
theorem dX4_init_58 : decode cX4_init 58 = .ok (.aload_n 0, 1) := by decide +kernel
theorem dX4_init_59 : decode cX4_init 59 = .ok (.new 9, 3) := by decide +kernel
theorem dX4_init_62 : decode cX4_init 62 = .ok (.dup, 1) := by decide +kernel
theorem dX4_init_63 : decode cX4_init 63 = .ok (.iconst 4, 1) := by decide +kernel
theorem dX4_init_64 : decode cX4_init 64 = .ok (.invokespecial 11, 3) := by decide +kernel
theorem dX4_init_67 : decode cX4_init 67 = .ok (.putfield 29, 3) := by decide +kernel
theorem dX4_init_70 : decode cX4_init 70 = .ok (.aload_n 0, 1) := by decide +kernel
theorem dX4_init_71 : decode cX4_init 71 = .ok (.iconst 0, 1) := by decide +kernel
theorem dX4_init_72 : decode cX4_init 72 = .ok (.putfield 32, 3) := by decide +kernel
theorem dX4_init_75 : decode cX4_init 75 = .ok (.aload_n 0, 1) := by decide +kernel
theorem dX4_init_76 : decode cX4_init 76 = .ok (.iconst 0, 1) := by decide +kernel
theorem dX4_init_77 : decode cX4_init 77 = .ok (.putfield 36, 3) := by decide +kernel
theorem dX4_init_80 : decode cX4_init 80 = .ok (.aload_n 0, 1) := by decide +kernel
theorem dX4_init_81 : decode cX4_init 81 = .ok (.aload_n 1, 1) := by decide +kernel
theorem dX4_init_82 : decode cX4_init 82 = .ok (.putfield 39, 3) := by decide +kernel
theorem dX4_init_85 : decode cX4_init 85 = .ok (.return_, 1) := by decide +kernel
theorem dX4_look_0 : decode cX4_look 0 = .ok (.aload_n 0, 1) := by decide +kernel
theorem dX4_look_1 : decode cX4_look 1 = .ok (.getfield 14, 3) := by decide +kernel
theorem dX4_look_4 : decode cX4_look 4 = .ok (.bipush (-6), 2) := by decide +kernel
theorem dX4_look_6 : decode cX4_look 6 = .ok (.invokevirtual 43, 3) := by decide +kernel
theorem dX4_look_9 : decode cX4_look 9 = .ok (.iconst 0, 1) := by decide +kernel
theorem dX4_look_10 : decode cX4_look 10 = .ok (.istore_n 1, 1) := by decide +kernel
theorem dX4_look_11 : decode cX4_look 11 = .ok (.iload_n 1, 1) := by decide +kernel
theorem dX4_look_12 : decode cX4_look 12 = .ok (.aload_n 0, 1) := by decide +kernel
theorem dX4_look_13 : decode cX4_look 13 = .ok (.getfield 39, 3) := by decide +kernel
theorem dX4_look_16 : decode cX4_look 16 = .ok (.getfield 46, 3) := by decide +kernel
theorem dX4_look_19 : decode cX4_look 19 = .ok (.if_icmp .ge 43, 3) := by decide +kernel
theorem dX4_look_22 : decode cX4_look 22 = .ok (.aload_n 0, 1) := by decide +kernel
theorem dX4_look_23 : decode cX4_look 23 = .ok (.getfield 14, 3) := by decide +kernel
theorem dX4_look_26 : decode cX4_look 26 = .ok (.aload_n 0, 1) := by decide +kernel
theorem dX4_look_27 : decode cX4_look 27 = .ok (.getfield 39, 3) := by decide +kernel
theorem dX4_look_30 : decode cX4_look 30 = .ok (.getfield 51, 3) := by decide +kernel
theorem dX4_look_33 : decode cX4_look 33 = .ok (.iload_n 1, 1) := by decide +kernel
theorem dX4_look_34 : decode cX4_look 34 = .ok (.invokevirtual 54, 3) := by decide +kernel
theorem dX4_look_37 : decode cX4_look 37 = .ok (.bipush 20, 2) := by decide +kernel
theorem dX4_look_39 : decode cX4_look 39 = .ok (.imul, 1) := by decide +kernel
theorem dX4_look_40 : decode cX4_look 40 = .ok (.aload_n 0, 1) := by decide +kernel
theorem dX4_look_41 : decode cX4_look 41 = .ok (.getfield 39, 3) := by decide +kernel
theorem dX4_look_44 : decode cX4_look 44 = .ok (.getfield 58, 3) := by decide +kernel
theorem dX4_look_47 : decode cX4_look 47 = .ok (.iload_n 1, 1) := by decide +kernel
theorem dX4_look_48 : decode cX4_look 48 = .ok (.invokevirtual 54, 3) := by decide +kernel
theorem dX4_look_51 : decode cX4_look 51 = .ok (.iadd, 1) := by decide +kernel
theorem dX4_look_52 : decode cX4_look 52 = .ok (.iload_n 1, 1) := by decide +kernel
theorem dX4_look_53 : decode cX4_look 53 = .ok (.invokevirtual 61, 3) := by decide +kernel
theorem dX4_look_56 : decode cX4_look 56 = .ok (.iinc 1 1, 3) := by decide +kernel
theorem dX4_look_59 : decode cX4_look 59 = .ok (.goto (-48), 3) := by decide +kernel
theorem dX4_look_62 : decode cX4_look 62 = .ok (.aload_n 0, 1) := by decide +kernel
theorem dX4_look_63 : decode cX4_look 63 = .ok (.iconst 0, 1) := by decide +kernel
theorem dX4_look_64 : decode cX4_look 64 = .ok (.putfield 32, 3) := by decide +kernel
theorem dX4_look_67 : decode cX4_look 67 = .ok (.iconst 0, 1) := by decide +kernel
theorem dX4_look_68 : decode cX4_look 68 = .ok (.istore_n 1, 1) := by decide +kernel
theorem dX4_look_69 : decode cX4_look 69 = .ok (.iload_n 1, 1) := by decide +kernel
theorem dX4_look_70 : decode cX4_look 70 = .ok (.aload_n 0, 1) := by decide +kernel
theorem dX4_look_71 : decode cX4_look 71 = .ok (.getfield 39, 3) := by decide +kernel
theorem dX4_look_74 : decode cX4_look 74 = .ok (.getfield 46, 3) := by decide +kernel
theorem dX4_look_77 : decode cX4_look 77 = .ok (.if_icmp .ge 62, 3) := by decide +kernel
theorem dX4_look_80 : decode cX4_look 80 = .ok (.aload_n 0, 1) := by decide +kernel
theorem dX4_look_81 : decode cX4_look 81 = .ok (.iload_n 1, 1) := by decide +kernel
theorem dX4_look_82 : decode cX4_look 82 = .ok (.invokevirtual 65, 3) := by decide +kernel
theorem dX4_look_85 : decode cX4_look 85 = .ok (.ifCond .eq 15, 3) := by decide +kernel
theorem dX4_look_88 : decode cX4_look 88 = .ok (.aload_n 0, 1) := by decide +kernel
theorem dX4_look_89 : decode cX4_look 89 = .ok (.dup, 1) := by decide +kernel
theorem dX4_look_90 : decode cX4_look 90 = .ok (.getfield 32, 3) := by decide +kernel
theorem dX4_look_93 : decode cX4_look 93 = .ok (.iconst 1, 1) := by decide +kernel
theorem dX4_look_94 : decode cX4_look 94 = .ok (.iload_n 1, 1) := by decide +kernel
theorem dX4_look_95 : decode cX4_look 95 = .ok (.ishl, 1) := by decide +kernel
theorem dX4_look_96 : decode cX4_look 96 = .ok (.ior, 1) := by decide +kernel
theorem dX4_look_97 : decode cX4_look 97 = .ok (.putfield 32, 3) := by decide +kernel
theorem dX4_look_100 : decode cX4_look 100 = .ok (.iconst 0, 1) := by decide +kernel
theorem dX4_look_101 : decode cX4_look 101 = .ok (.istore_n 2, 1) := by decide +kernel
theorem dX4_look_102 : decode cX4_look 102 = .ok (.iload_n 2, 1) := by decide +kernel
theorem dX4_look_103 : decode cX4_look 103 = .ok (.bipush 11, 2) := by decide +kernel
theorem dX4_look_105 : decode cX4_look 105 = .ok (.if_icmp .ge 28, 3) := by decide +kernel
theorem dX4_look_108 : decode cX4_look 108 = .ok (.aload_n 0, 1) := by decide +kernel
theorem dX4_look_109 : decode cX4_look 109 = .ok (.getfield 20, 3) := by decide +kernel
theorem dX4_look_112 : decode cX4_look 112 = .ok (.iload_n 1, 1) := by decide +kernel
theorem dX4_look_113 : decode cX4_look 113 = .ok (.bipush 11, 2) := by decide +kernel
theorem dX4_look_115 : decode cX4_look 115 = .ok (.imul, 1) := by decide +kernel
theorem dX4_look_116 : decode cX4_look 116 = .ok (.iload_n 2, 1) := by decide +kernel
theorem dX4_look_117 : decode cX4_look 117 = .ok (.iadd, 1) := by decide +kernel
theorem dX4_look_118 : decode cX4_look 118 = .ok (.aload_n 0, 1) := by decide +kernel
theorem dX4_look_119 : decode cX4_look 119 = .ok (.iload_n 1, 1) := by decide +kernel
theorem dX4_look_120 : decode cX4_look 120 = .ok (.iload_n 2, 1) := by decide +kernel
theorem dX4_look_121 : decode cX4_look 121 = .ok (.invokevirtual 69, 3) := by decide +kernel
theorem dX4_look_124 : decode cX4_look 124 = .ok (.invokevirtual 61, 3) := by decide +kernel
theorem dX4_look_127 : decode cX4_look 127 = .ok (.iinc 2 1, 3) := by decide +kernel
theorem dX4_look_130 : decode cX4_look 130 = .ok (.goto (-28), 3) := by decide +kernel
theorem dX4_look_133 : decode cX4_look 133 = .ok (.iinc 1 1, 3) := by decide +kernel
theorem dX4_look_136 : decode cX4_look 136 = .ok (.goto (-67), 3) := by decide +kernel
theorem dX4_look_139 : decode cX4_look 139 = .ok (.return_, 1) := by decide +kernel
theorem dX4_hasBlocker_0 : decode cX4_hasBlocker 0 = .ok (.aload_n 0, 1) := by decide +kernel
theorem dX4_hasBlocker_1 : decode cX4_hasBlocker 1 = .ok (.getfield 39, 3) := by decide +kernel
theorem dX4_hasBlocker_4 : decode cX4_hasBlocker 4 = .ok (.getfield 51, 3) := by decide +kernel
theorem dX4_hasBlocker_7 : decode cX4_hasBlocker 7 = .ok (.iload_n 1, 1) := by decide +kernel
theorem dX4_hasBlocker_8 : decode cX4_hasBlocker 8 = .ok (.invokevirtual 54, 3) := by decide +kernel
theorem dX4_hasBlocker_11 : decode cX4_hasBlocker 11 = .ok (.istore_n 2, 1) := by decide +kernel
theorem dX4_hasBlocker_12 : decode cX4_hasBlocker 12 = .ok (.aload_n 0, 1) := by decide +kernel
theorem dX4_hasBlocker_13 : decode cX4_hasBlocker 13 = .ok (.getfield 39, 3) := by decide +kernel
theorem dX4_hasBlocker_16 : decode cX4_hasBlocker 16 = .ok (.getfield 58, 3) := by decide +kernel
theorem dX4_hasBlocker_19 : decode cX4_hasBlocker 19 = .ok (.iload_n 1, 1) := by decide +kernel
theorem dX4_hasBlocker_20 : decode cX4_hasBlocker 20 = .ok (.invokevirtual 54, 3) := by decide +kernel
theorem dX4_hasBlocker_23 : decode cX4_hasBlocker 23 = .ok (.istore_n 3, 1) := by decide +kernel
theorem dX4_hasBlocker_24 : decode cX4_hasBlocker 24 = .ok (.iload_n 2, 1) := by decide +kernel
theorem dX4_hasBlocker_25 : decode cX4_hasBlocker 25 = .ok (.bipush (-2), 2) := by decide +kernel
theorem dX4_hasBlocker_27 : decode cX4_hasBlocker 27 = .ok (.isub, 1) := by decide +kernel
theorem dX4_hasBlocker_28 : decode cX4_hasBlocker 28 = .ok (.istore 4, 2) := by decide +kernel
theorem dX4_hasBlocker_30 : decode cX4_hasBlocker 30 = .ok (.iconst 1, 1) := by decide +kernel
theorem dX4_hasBlocker_31 : decode cX4_hasBlocker 31 = .ok (.istore 5, 2) := by decide +kernel
theorem dX4_hasBlocker_33 : decode cX4_hasBlocker 33 = .ok (.iload 5, 2) := by decide +kernel
theorem dX4_hasBlocker_35 : decode cX4_hasBlocker 35 = .ok (.iconst 4, 1) := by decide +kernel
theorem dX4_hasBlocker_36 : decode cX4_hasBlocker 36 = .ok (.if_icmp .gt 55, 3) := by decide +kernel
theorem dX4_hasBlocker_39 : decode cX4_hasBlocker 39 = .ok (.iload 5, 2) := by decide +kernel
theorem dX4_hasBlocker_41 : decode cX4_hasBlocker 41 = .ok (.iload 4, 2) := by decide +kernel
theorem dX4_hasBlocker_43 : decode cX4_hasBlocker 43 = .ok (.if_icmp .ge 48, 3) := by decide +kernel
theorem dX4_hasBlocker_46 : decode cX4_hasBlocker 46 = .ok (.bipush 10, 2) := by decide +kernel
theorem dX4_hasBlocker_48 : decode cX4_hasBlocker 48 = .ok (.iload_n 3, 1) := by decide +kernel
theorem dX4_hasBlocker_49 : decode cX4_hasBlocker 49 = .ok (.isub, 1) := by decide +kernel
theorem dX4_hasBlocker_50 : decode cX4_hasBlocker 50 = .ok (.iload 5, 2) := by decide +kernel
theorem dX4_hasBlocker_52 : decode cX4_hasBlocker 52 = .ok (.imul, 1) := by decide +kernel
theorem dX4_hasBlocker_53 : decode cX4_hasBlocker 53 = .ok (.istore 6, 2) := by decide +kernel
theorem dX4_hasBlocker_55 : decode cX4_hasBlocker 55 = .ok (.iload 6, 2) := by decide +kernel
theorem dX4_hasBlocker_57 : decode cX4_hasBlocker 57 = .ok (.iload 4, 2) := by decide +kernel
theorem dX4_hasBlocker_59 : decode cX4_hasBlocker 59 = .ok (.irem, 1) := by decide +kernel
theorem dX4_hasBlocker_60 : decode cX4_hasBlocker 60 = .ok (.ifCond .ne 25, 3) := by decide +kernel
theorem dX4_hasBlocker_63 : decode cX4_hasBlocker 63 = .ok (.aload_n 0, 1) := by decide +kernel
theorem dX4_hasBlocker_64 : decode cX4_hasBlocker 64 = .ok (.iload_n 2, 1) := by decide +kernel
theorem dX4_hasBlocker_65 : decode cX4_hasBlocker 65 = .ok (.iload 5, 2) := by decide +kernel
theorem dX4_hasBlocker_67 : decode cX4_hasBlocker 67 = .ok (.isub, 1) := by decide +kernel
theorem dX4_hasBlocker_68 : decode cX4_hasBlocker 68 = .ok (.iload_n 3, 1) := by decide +kernel
theorem dX4_hasBlocker_69 : decode cX4_hasBlocker 69 = .ok (.iload 6, 2) := by decide +kernel
theorem dX4_hasBlocker_71 : decode cX4_hasBlocker 71 = .ok (.iload 4, 2) := by decide +kernel
theorem dX4_hasBlocker_73 : decode cX4_hasBlocker 73 = .ok (.idiv, 1) := by decide +kernel
theorem dX4_hasBlocker_74 : decode cX4_hasBlocker 74 = .ok (.iadd, 1) := by decide +kernel
theorem dX4_hasBlocker_75 : decode cX4_hasBlocker 75 = .ok (.invokevirtual 73, 3) := by decide +kernel
theorem dX4_hasBlocker_78 : decode cX4_hasBlocker 78 = .ok (.bipush (-6), 2) := by decide +kernel
theorem dX4_hasBlocker_80 : decode cX4_hasBlocker 80 = .ok (.if_icmp .eq 5, 3) := by decide +kernel
theorem dX4_hasBlocker_83 : decode cX4_hasBlocker 83 = .ok (.iconst 1, 1) := by decide +kernel
theorem dX4_hasBlocker_84 : decode cX4_hasBlocker 84 = .ok (.ireturn, 1) := by decide +kernel
theorem dX4_hasBlocker_85 : decode cX4_hasBlocker 85 = .ok (.iinc 5 1, 3) := by decide +kernel
theorem dX4_hasBlocker_88 : decode cX4_hasBlocker 88 = .ok (.goto (-55), 3) := by decide +kernel
theorem dX4_hasBlocker_91 : decode cX4_hasBlocker 91 = .ok (.iconst 0, 1) := by decide +kernel
theorem dX4_hasBlocker_92 : decode cX4_hasBlocker 92 = .ok (.ireturn, 1) := by decide +kernel
theorem dX4_nearestShader_0 : decode cX4_nearestShader 0 = .ok (.aload_n 0, 1) := by decide +kernel
theorem dX4_nearestShader_1 : decode cX4_nearestShader 1 = .ok (.getfield 39, 3) := by decide +kernel
theorem dX4_nearestShader_4 : decode cX4_nearestShader 4 = .ok (.getfield 51, 3) := by decide +kernel
theorem dX4_nearestShader_7 : decode cX4_nearestShader 7 = .ok (.iload_n 1, 1) := by decide +kernel
theorem dX4_nearestShader_8 : decode cX4_nearestShader 8 = .ok (.invokevirtual 54, 3) := by decide +kernel
theorem dX4_nearestShader_11 : decode cX4_nearestShader 11 = .ok (.istore_n 3, 1) := by decide +kernel
theorem dX4_nearestShader_12 : decode cX4_nearestShader 12 = .ok (.aload_n 0, 1) := by decide +kernel
theorem dX4_nearestShader_13 : decode cX4_nearestShader 13 = .ok (.getfield 39, 3) := by decide +kernel
theorem dX4_nearestShader_16 : decode cX4_nearestShader 16 = .ok (.getfield 58, 3) := by decide +kernel
theorem dX4_nearestShader_19 : decode cX4_nearestShader 19 = .ok (.iload_n 1, 1) := by decide +kernel
theorem dX4_nearestShader_20 : decode cX4_nearestShader 20 = .ok (.invokevirtual 54, 3) := by decide +kernel
theorem dX4_nearestShader_23 : decode cX4_nearestShader 23 = .ok (.istore 4, 2) := by decide +kernel
theorem dX4_nearestShader_25 : decode cX4_nearestShader 25 = .ok (.iload_n 2, 1) := by decide +kernel
theorem dX4_nearestShader_26 : decode cX4_nearestShader 26 = .ok (.invokestatic 76, 3) := by decide +kernel
theorem dX4_nearestShader_29 : decode cX4_nearestShader 29 = .ok (.istore 5, 2) := by decide +kernel
theorem dX4_nearestShader_31 : decode cX4_nearestShader 31 = .ok (.iconst 1, 1) := by decide +kernel
theorem dX4_nearestShader_32 : decode cX4_nearestShader 32 = .ok (.istore 6, 2) := by decide +kernel
theorem dX4_nearestShader_34 : decode cX4_nearestShader 34 = .ok (.iload 6, 2) := by decide +kernel
theorem dX4_nearestShader_36 : decode cX4_nearestShader 36 = .ok (.bipush 6, 2) := by decide +kernel
theorem dX4_nearestShader_38 : decode cX4_nearestShader 38 = .ok (.if_icmp .gt 49, 3) := by decide +kernel
theorem dX4_nearestShader_41 : decode cX4_nearestShader 41 = .ok (.iload 6, 2) := by decide +kernel
theorem dX4_nearestShader_43 : decode cX4_nearestShader 43 = .ok (.iload 5, 2) := by decide +kernel
theorem dX4_nearestShader_45 : decode cX4_nearestShader 45 = .ok (.imul, 1) := by decide +kernel
theorem dX4_nearestShader_46 : decode cX4_nearestShader 46 = .ok (.bipush 6, 2) := by decide +kernel
theorem dX4_nearestShader_48 : decode cX4_nearestShader 48 = .ok (.if_icmp .gt 39, 3) := by decide +kernel
theorem dX4_nearestShader_51 : decode cX4_nearestShader 51 = .ok (.aload_n 0, 1) := by decide +kernel
theorem dX4_nearestShader_52 : decode cX4_nearestShader 52 = .ok (.iload_n 3, 1) := by decide +kernel
theorem dX4_nearestShader_53 : decode cX4_nearestShader 53 = .ok (.iload 6, 2) := by decide +kernel
theorem dX4_nearestShader_55 : decode cX4_nearestShader 55 = .ok (.isub, 1) := by decide +kernel
theorem dX4_nearestShader_56 : decode cX4_nearestShader 56 = .ok (.iload 4, 2) := by decide +kernel
theorem dX4_nearestShader_58 : decode cX4_nearestShader 58 = .ok (.iload 6, 2) := by decide +kernel
theorem dX4_nearestShader_60 : decode cX4_nearestShader 60 = .ok (.iload_n 2, 1) := by decide +kernel
theorem dX4_nearestShader_61 : decode cX4_nearestShader 61 = .ok (.invokestatic 81, 3) := by decide +kernel
theorem dX4_nearestShader_64 : decode cX4_nearestShader 64 = .ok (.imul, 1) := by decide +kernel
theorem dX4_nearestShader_65 : decode cX4_nearestShader 65 = .ok (.iadd, 1) := by decide +kernel
theorem dX4_nearestShader_66 : decode cX4_nearestShader 66 = .ok (.invokevirtual 73, 3) := by decide +kernel
theorem dX4_nearestShader_69 : decode cX4_nearestShader 69 = .ok (.istore 7, 2) := by decide +kernel
theorem dX4_nearestShader_71 : decode cX4_nearestShader 71 = .ok (.iload 7, 2) := by decide +kernel
theorem dX4_nearestShader_73 : decode cX4_nearestShader 73 = .ok (.bipush (-6), 2) := by decide +kernel
theorem dX4_nearestShader_75 : decode cX4_nearestShader 75 = .ok (.if_icmp .eq 6, 3) := by decide +kernel
theorem dX4_nearestShader_78 : decode cX4_nearestShader 78 = .ok (.iload 7, 2) := by decide +kernel
theorem dX4_nearestShader_80 : decode cX4_nearestShader 80 = .ok (.ireturn, 1) := by decide +kernel
theorem dX4_nearestShader_81 : decode cX4_nearestShader 81 = .ok (.iinc 6 1, 3) := by decide +kernel
theorem dX4_nearestShader_84 : decode cX4_nearestShader 84 = .ok (.goto (-50), 3) := by decide +kernel
theorem dX4_nearestShader_87 : decode cX4_nearestShader 87 = .ok (.bipush (-6), 2) := by decide +kernel
theorem dX4_nearestShader_89 : decode cX4_nearestShader 89 = .ok (.ireturn, 1) := by decide +kernel
theorem dX4_inPlace_0 : decode cX4_inPlace 0 = .ok (.iload_n 1, 1) := by decide +kernel
theorem dX4_inPlace_1 : decode cX4_inPlace 1 = .ok (.iload_n 2, 1) := by decide +kernel
theorem dX4_inPlace_2 : decode cX4_inPlace 2 = .ok (.invokestatic 83, 3) := by decide +kernel
theorem dX4_inPlace_5 : decode cX4_inPlace 5 = .ok (.ifCond .eq 19, 3) := by decide +kernel
theorem dX4_inPlace_8 : decode cX4_inPlace 8 = .ok (.aload_n 0, 1) := by decide +kernel
theorem dX4_inPlace_9 : decode cX4_inPlace 9 = .ok (.getfield 14, 3) := by decide +kernel
theorem dX4_inPlace_12 : decode cX4_inPlace 12 = .ok (.iload_n 1, 1) := by decide +kernel
theorem dX4_inPlace_13 : decode cX4_inPlace 13 = .ok (.bipush 20, 2) := by decide +kernel
theorem dX4_inPlace_15 : decode cX4_inPlace 15 = .ok (.imul, 1) := by decide +kernel
theorem dX4_inPlace_16 : decode cX4_inPlace 16 = .ok (.iload_n 2, 1) := by decide +kernel
theorem dX4_inPlace_17 : decode cX4_inPlace 17 = .ok (.iadd, 1) := by decide +kernel
theorem dX4_inPlace_18 : decode cX4_inPlace 18 = .ok (.invokevirtual 54, 3) := by decide +kernel
theorem dX4_inPlace_21 : decode cX4_inPlace 21 = .ok (.goto 5, 3) := by decide +kernel
theorem dX4_inPlace_24 : decode cX4_inPlace 24 = .ok (.bipush (-6), 2) := by decide +kernel
theorem dX4_inPlace_26 : decode cX4_inPlace 26 = .ok (.ireturn, 1) := by decide +kernel
theorem dX4_work_0 : decode cX4_work 0 = .ok (.aload_n 0, 1) := by decide +kernel
theorem dX4_work_1 : decode cX4_work 1 = .ok (.getfield 39, 3) := by decide +kernel
theorem dX4_work_4 : decode cX4_work 4 = .ok (.getfield 46, 3) := by decide +kernel
theorem dX4_work_7 : decode cX4_work 7 = .ok (.istore_n 2, 1) := by decide +kernel
theorem dX4_work_8 : decode cX4_work 8 = .ok (.aload_n 0, 1) := by decide +kernel
theorem dX4_work_9 : decode cX4_work 9 = .ok (.getfield 39, 3) := by decide +kernel
theorem dX4_work_12 : decode cX4_work 12 = .ok (.invokevirtual 87, 3) := by decide +kernel
theorem dX4_work_15 : decode cX4_work 15 = .ok (.istore_n 3, 1) := by decide +kernel
theorem dX4_work_16 : decode cX4_work 16 = .ok (.iconst 0, 1) := by decide +kernel
theorem dX4_work_17 : decode cX4_work 17 = .ok (.istore 4, 2) := by decide +kernel
theorem dX4_work_19 : decode cX4_work 19 = .ok (.iload 4, 2) := by decide +kernel
theorem dX4_work_21 : decode cX4_work 21 = .ok (.iload_n 2, 1) := by decide +kernel
theorem dX4_work_22 : decode cX4_work 22 = .ok (.if_icmp .ge 39, 3) := by decide +kernel
theorem dX4_work_25 : decode cX4_work 25 = .ok (.aload_n 0, 1) := by decide +kernel
theorem dX4_work_26 : decode cX4_work 26 = .ok (.getfield 23, 3) := by decide +kernel
theorem dX4_work_29 : decode cX4_work 29 = .ok (.iload 4, 2) := by decide +kernel
theorem dX4_work_31 : decode cX4_work 31 = .ok (.iload_n 3, 1) := by decide +kernel
theorem dX4_work_32 : decode cX4_work 32 = .ok (.ifCond .eq 7, 3) := by decide +kernel
theorem dX4_work_35 : decode cX4_work 35 = .ok (.iconst 0, 1) := by decide +kernel
theorem dX4_work_36 : decode cX4_work 36 = .ok (.goto 10, 3) := by decide +kernel
theorem dX4_work_39 : decode cX4_work 39 = .ok (.aload_n 0, 1) := by decide +kernel
theorem dX4_work_40 : decode cX4_work 40 = .ok (.iload 4, 2) := by decide +kernel
theorem dX4_work_42 : decode cX4_work 42 = .ok (.iload_n 1, 1) := by decide +kernel
theorem dX4_work_43 : decode cX4_work 43 = .ok (.invokevirtual 91, 3) := by decide +kernel
theorem dX4_work_46 : decode cX4_work 46 = .ok (.invokevirtual 61, 3) := by decide +kernel
theorem dX4_work_49 : decode cX4_work 49 = .ok (.aload_n 0, 1) := by decide +kernel
theorem dX4_work_50 : decode cX4_work 50 = .ok (.iload 4, 2) := by decide +kernel
theorem dX4_work_52 : decode cX4_work 52 = .ok (.invokevirtual 94, 3) := by decide +kernel
theorem dX4_work_55 : decode cX4_work 55 = .ok (.iinc 4 1, 3) := by decide +kernel
theorem dX4_work_58 : decode cX4_work 58 = .ok (.goto (-39), 3) := by decide +kernel
theorem dX4_work_61 : decode cX4_work 61 = .ok (.aload_n 0, 1) := by decide +kernel
theorem dX4_work_62 : decode cX4_work 62 = .ok (.getfield 29, 3) := by decide +kernel
theorem dX4_work_65 : decode cX4_work 65 = .ok (.iconst 0, 1) := by decide +kernel
theorem dX4_work_66 : decode cX4_work 66 = .ok (.invokevirtual 43, 3) := by decide +kernel
theorem dX4_work_69 : decode cX4_work 69 = .ok (.aload_n 0, 1) := by decide +kernel
theorem dX4_work_70 : decode cX4_work 70 = .ok (.iconst 0, 1) := by decide +kernel
theorem dX4_work_71 : decode cX4_work 71 = .ok (.putfield 36, 3) := by decide +kernel
theorem dX4_work_74 : decode cX4_work 74 = .ok (.iconst 0, 1) := by decide +kernel
theorem dX4_work_75 : decode cX4_work 75 = .ok (.istore 4, 2) := by decide +kernel
theorem dX4_work_77 : decode cX4_work 77 = .ok (.iconst 0, 1) := by decide +kernel
theorem dX4_work_78 : decode cX4_work 78 = .ok (.istore 5, 2) := by decide +kernel
theorem dX4_work_80 : decode cX4_work 80 = .ok (.iload 5, 2) := by decide +kernel
theorem dX4_work_82 : decode cX4_work 82 = .ok (.iload_n 2, 1) := by decide +kernel
theorem dX4_work_83 : decode cX4_work 83 = .ok (.if_icmp .ge 27, 3) := by decide +kernel
theorem dX4_work_86 : decode cX4_work 86 = .ok (.iload 4, 2) := by decide +kernel
theorem dX4_work_88 : decode cX4_work 88 = .ok (.aload_n 0, 1) := by decide +kernel
theorem dX4_work_89 : decode cX4_work 89 = .ok (.aload_n 0, 1) := by decide +kernel
theorem dX4_work_90 : decode cX4_work 90 = .ok (.getfield 26, 3) := by decide +kernel
theorem dX4_work_93 : decode cX4_work 93 = .ok (.iload 5, 2) := by decide +kernel
theorem dX4_work_95 : decode cX4_work 95 = .ok (.invokevirtual 54, 3) := by decide +kernel
theorem dX4_work_98 : decode cX4_work 98 = .ok (.invokevirtual 97, 3) := by decide +kernel
theorem dX4_work_101 : decode cX4_work 101 = .ok (.iadd, 1) := by decide +kernel
theorem dX4_work_102 : decode cX4_work 102 = .ok (.istore 4, 2) := by decide +kernel
theorem dX4_work_104 : decode cX4_work 104 = .ok (.iinc 5 1, 3) := by decide +kernel
theorem dX4_work_107 : decode cX4_work 107 = .ok (.goto (-27), 3) := by decide +kernel
theorem dX4_work_110 : decode cX4_work 110 = .ok (.iload 4, 2) := by decide +kernel
theorem dX4_work_112 : decode cX4_work 112 = .ok (.ireturn, 1) := by decide +kernel
theorem dX4_gift_0 : decode cX4_gift 0 = .ok (.bipush 20, 2) := by decide +kernel
theorem dX4_gift_2 : decode cX4_gift 2 = .ok (.aload_n 0, 1) := by decide +kernel
theorem dX4_gift_3 : decode cX4_gift 3 = .ok (.getfield 39, 3) := by decide +kernel
theorem dX4_gift_6 : decode cX4_gift 6 = .ok (.getfield 51, 3) := by decide +kernel
theorem dX4_gift_9 : decode cX4_gift 9 = .ok (.iload_n 1, 1) := by decide +kernel
theorem dX4_gift_10 : decode cX4_gift 10 = .ok (.invokevirtual 54, 3) := by decide +kernel
theorem dX4_gift_13 : decode cX4_gift 13 = .ok (.iadd, 1) := by decide +kernel
theorem dX4_gift_14 : decode cX4_gift 14 = .ok (.istore_n 3, 1) := by decide +kernel
theorem dX4_gift_15 : decode cX4_gift 15 = .ok (.aload_n 0, 1) := by decide +kernel
theorem dX4_gift_16 : decode cX4_gift 16 = .ok (.iload_n 1, 1) := by decide +kernel
theorem dX4_gift_17 : decode cX4_gift 17 = .ok (.invokevirtual 100, 3) := by decide +kernel
theorem dX4_gift_20 : decode cX4_gift 20 = .ok (.ifCond .ne 18, 3) := by decide +kernel
theorem dX4_gift_23 : decode cX4_gift 23 = .ok (.aload_n 0, 1) := by decide +kernel
theorem dX4_gift_24 : decode cX4_gift 24 = .ok (.iload_n 1, 1) := by decide +kernel
theorem dX4_gift_25 : decode cX4_gift 25 = .ok (.iload_n 2, 1) := by decide +kernel
theorem dX4_gift_26 : decode cX4_gift 26 = .ok (.invokevirtual 103, 3) := by decide +kernel
theorem dX4_gift_29 : decode cX4_gift 29 = .ok (.bipush (-6), 2) := by decide +kernel
theorem dX4_gift_31 : decode cX4_gift 31 = .ok (.if_icmp .ne 7, 3) := by decide +kernel
theorem dX4_gift_34 : decode cX4_gift 34 = .ok (.iload_n 3, 1) := by decide +kernel
theorem dX4_gift_35 : decode cX4_gift 35 = .ok (.ifCond .gt 5, 3) := by decide +kernel
theorem dX4_gift_38 : decode cX4_gift 38 = .ok (.iconst 0, 1) := by decide +kernel
theorem dX4_gift_39 : decode cX4_gift 39 = .ok (.ireturn, 1) := by decide +kernel
theorem dX4_gift_40 : decode cX4_gift 40 = .ok (.bipush 100, 2) := by decide +kernel
theorem dX4_gift_42 : decode cX4_gift 42 = .ok (.aload_n 0, 1) := by decide +kernel
theorem dX4_gift_43 : decode cX4_gift 43 = .ok (.getfield 39, 3) := by decide +kernel
theorem dX4_gift_46 : decode cX4_gift 46 = .ok (.getfield 106, 3) := by decide +kernel
theorem dX4_gift_49 : decode cX4_gift 49 = .ok (.iload_n 1, 1) := by decide +kernel
theorem dX4_gift_50 : decode cX4_gift 50 = .ok (.invokevirtual 54, 3) := by decide +kernel
theorem dX4_gift_53 : decode cX4_gift 53 = .ok (.isub, 1) := by decide +kernel
theorem dX4_gift_54 : decode cX4_gift 54 = .ok (.iload_n 2, 1) := by decide +kernel
theorem dX4_gift_55 : decode cX4_gift 55 = .ok (.invokestatic 76, 3) := by decide +kernel
theorem dX4_gift_58 : decode cX4_gift 58 = .ok (.imul, 1) := by decide +kernel
theorem dX4_gift_59 : decode cX4_gift 59 = .ok (.bipush 20, 2) := by decide +kernel
theorem dX4_gift_61 : decode cX4_gift 61 = .ok (.imul, 1) := by decide +kernel
theorem dX4_gift_62 : decode cX4_gift 62 = .ok (.iload_n 3, 1) := by decide +kernel
theorem dX4_gift_63 : decode cX4_gift 63 = .ok (.idiv, 1) := by decide +kernel
theorem dX4_gift_64 : decode cX4_gift 64 = .ok (.bipush 10, 2) := by decide +kernel
theorem dX4_gift_66 : decode cX4_gift 66 = .ok (.idiv, 1) := by decide +kernel
theorem dX4_gift_67 : decode cX4_gift 67 = .ok (.ireturn, 1) := by decide +kernel
theorem dX4_putInOrder_0 : decode cX4_putInOrder 0 = .ok (.iload_n 1, 1) := by decide +kernel
theorem dX4_putInOrder_1 : decode cX4_putInOrder 1 = .ok (.istore_n 2, 1) := by decide +kernel
theorem dX4_putInOrder_2 : decode cX4_putInOrder 2 = .ok (.iload_n 2, 1) := by decide +kernel
theorem dX4_putInOrder_3 : decode cX4_putInOrder 3 = .ok (.ifCond .le 55, 3) := by decide +kernel
theorem dX4_putInOrder_6 : decode cX4_putInOrder 6 = .ok (.aload_n 0, 1) := by decide +kernel
theorem dX4_putInOrder_7 : decode cX4_putInOrder 7 = .ok (.getfield 23, 3) := by decide +kernel
theorem dX4_putInOrder_10 : decode cX4_putInOrder 10 = .ok (.aload_n 0, 1) := by decide +kernel
theorem dX4_putInOrder_11 : decode cX4_putInOrder 11 = .ok (.getfield 26, 3) := by decide +kernel
theorem dX4_putInOrder_14 : decode cX4_putInOrder 14 = .ok (.iload_n 2, 1) := by decide +kernel
theorem dX4_putInOrder_15 : decode cX4_putInOrder 15 = .ok (.iconst 1, 1) := by decide +kernel
theorem dX4_putInOrder_16 : decode cX4_putInOrder 16 = .ok (.isub, 1) := by decide +kernel
theorem dX4_putInOrder_17 : decode cX4_putInOrder 17 = .ok (.invokevirtual 54, 3) := by decide +kernel
theorem dX4_putInOrder_20 : decode cX4_putInOrder 20 = .ok (.invokevirtual 54, 3) := by decide +kernel
theorem dX4_putInOrder_23 : decode cX4_putInOrder 23 = .ok (.aload_n 0, 1) := by decide +kernel
theorem dX4_putInOrder_24 : decode cX4_putInOrder 24 = .ok (.getfield 23, 3) := by decide +kernel
theorem dX4_putInOrder_27 : decode cX4_putInOrder 27 = .ok (.iload_n 1, 1) := by decide +kernel
theorem dX4_putInOrder_28 : decode cX4_putInOrder 28 = .ok (.invokevirtual 54, 3) := by decide +kernel
theorem dX4_putInOrder_31 : decode cX4_putInOrder 31 = .ok (.if_icmp .ge 27, 3) := by decide +kernel
theorem dX4_putInOrder_34 : decode cX4_putInOrder 34 = .ok (.aload_n 0, 1) := by decide +kernel
theorem dX4_putInOrder_35 : decode cX4_putInOrder 35 = .ok (.getfield 26, 3) := by decide +kernel
theorem dX4_putInOrder_38 : decode cX4_putInOrder 38 = .ok (.iload_n 2, 1) := by decide +kernel
theorem dX4_putInOrder_39 : decode cX4_putInOrder 39 = .ok (.aload_n 0, 1) := by decide +kernel
theorem dX4_putInOrder_40 : decode cX4_putInOrder 40 = .ok (.getfield 26, 3) := by decide +kernel
theorem dX4_putInOrder_43 : decode cX4_putInOrder 43 = .ok (.iload_n 2, 1) := by decide +kernel
theorem dX4_putInOrder_44 : decode cX4_putInOrder 44 = .ok (.iconst 1, 1) := by decide +kernel
theorem dX4_putInOrder_45 : decode cX4_putInOrder 45 = .ok (.isub, 1) := by decide +kernel
theorem dX4_putInOrder_46 : decode cX4_putInOrder 46 = .ok (.invokevirtual 54, 3) := by decide +kernel
theorem dX4_putInOrder_49 : decode cX4_putInOrder 49 = .ok (.invokevirtual 61, 3) := by decide +kernel
theorem dX4_putInOrder_52 : decode cX4_putInOrder 52 = .ok (.iinc 2 (-1), 3) := by decide +kernel
theorem dX4_putInOrder_55 : decode cX4_putInOrder 55 = .ok (.goto (-53), 3) := by decide +kernel
theorem dX4_putInOrder_58 : decode cX4_putInOrder 58 = .ok (.aload_n 0, 1) := by decide +kernel
theorem dX4_putInOrder_59 : decode cX4_putInOrder 59 = .ok (.getfield 26, 3) := by decide +kernel
theorem dX4_putInOrder_62 : decode cX4_putInOrder 62 = .ok (.iload_n 2, 1) := by decide +kernel
theorem dX4_putInOrder_63 : decode cX4_putInOrder 63 = .ok (.iload_n 1, 1) := by decide +kernel
theorem dX4_putInOrder_64 : decode cX4_putInOrder 64 = .ok (.invokevirtual 61, 3) := by decide +kernel
theorem dX4_putInOrder_67 : decode cX4_putInOrder 67 = .ok (.return_, 1) := by decide +kernel
theorem dX4_useIfBearable_0 : decode cX4_useIfBearable 0 = .ok (.aload_n 0, 1) := by decide +kernel
theorem dX4_useIfBearable_1 : decode cX4_useIfBearable 1 = .ok (.getfield 39, 3) := by decide +kernel
theorem dX4_useIfBearable_4 : decode cX4_useIfBearable 4 = .ok (.getfield 109, 3) := by decide +kernel
theorem dX4_useIfBearable_7 : decode cX4_useIfBearable 7 = .ok (.iload_n 1, 1) := by decide +kernel
theorem dX4_useIfBearable_8 : decode cX4_useIfBearable 8 = .ok (.invokevirtual 54, 3) := by decide +kernel
theorem dX4_useIfBearable_11 : decode cX4_useIfBearable 11 = .ok (.istore_n 2, 1) := by decide +kernel
theorem dX4_useIfBearable_12 : decode cX4_useIfBearable 12 = .ok (.aload_n 0, 1) := by decide +kernel
theorem dX4_useIfBearable_13 : decode cX4_useIfBearable 13 = .ok (.getfield 29, 3) := by decide +kernel
theorem dX4_useIfBearable_16 : decode cX4_useIfBearable 16 = .ok (.iload_n 2, 1) := by decide +kernel
theorem dX4_useIfBearable_17 : decode cX4_useIfBearable 17 = .ok (.invokevirtual 54, 3) := by decide +kernel
theorem dX4_useIfBearable_20 : decode cX4_useIfBearable 20 = .ok (.aload_n 0, 1) := by decide +kernel
theorem dX4_useIfBearable_21 : decode cX4_useIfBearable 21 = .ok (.getfield 23, 3) := by decide +kernel
theorem dX4_useIfBearable_24 : decode cX4_useIfBearable 24 = .ok (.iload_n 1, 1) := by decide +kernel
theorem dX4_useIfBearable_25 : decode cX4_useIfBearable 25 = .ok (.invokevirtual 54, 3) := by decide +kernel
theorem dX4_useIfBearable_28 : decode cX4_useIfBearable 28 = .ok (.iadd, 1) := by decide +kernel
theorem dX4_useIfBearable_29 : decode cX4_useIfBearable 29 = .ok (.istore_n 3, 1) := by decide +kernel
theorem dX4_useIfBearable_30 : decode cX4_useIfBearable 30 = .ok (.iload_n 3, 1) := by decide +kernel
theorem dX4_useIfBearable_31 : decode cX4_useIfBearable 31 = .ok (.aload_n 0, 1) := by decide +kernel
theorem dX4_useIfBearable_32 : decode cX4_useIfBearable 32 = .ok (.getfield 39, 3) := by decide +kernel
theorem dX4_useIfBearable_35 : decode cX4_useIfBearable 35 = .ok (.getfield 112, 3) := by decide +kernel
theorem dX4_useIfBearable_38 : decode cX4_useIfBearable 38 = .ok (.iconst 0, 1) := by decide +kernel
theorem dX4_useIfBearable_39 : decode cX4_useIfBearable 39 = .ok (.invokevirtual 54, 3) := by decide +kernel
theorem dX4_useIfBearable_42 : decode cX4_useIfBearable 42 = .ok (.if_icmp .le 5, 3) := by decide +kernel
theorem dX4_useIfBearable_45 : decode cX4_useIfBearable 45 = .ok (.iconst 0, 1) := by decide +kernel
theorem dX4_useIfBearable_46 : decode cX4_useIfBearable 46 = .ok (.ireturn, 1) := by decide +kernel
theorem dX4_useIfBearable_47 : decode cX4_useIfBearable 47 = .ok (.aload_n 0, 1) := by decide +kernel
theorem dX4_useIfBearable_48 : decode cX4_useIfBearable 48 = .ok (.getfield 29, 3) := by decide +kernel
theorem dX4_useIfBearable_51 : decode cX4_useIfBearable 51 = .ok (.iload_n 2, 1) := by decide +kernel
theorem dX4_useIfBearable_52 : decode cX4_useIfBearable 52 = .ok (.iload_n 3, 1) := by decide +kernel
theorem dX4_useIfBearable_53 : decode cX4_useIfBearable 53 = .ok (.invokevirtual 61, 3) := by decide +kernel
theorem dX4_useIfBearable_56 : decode cX4_useIfBearable 56 = .ok (.aload_n 0, 1) := by decide +kernel
theorem dX4_useIfBearable_57 : decode cX4_useIfBearable 57 = .ok (.dup, 1) := by decide +kernel
theorem dX4_useIfBearable_58 : decode cX4_useIfBearable 58 = .ok (.getfield 36, 3) := by decide +kernel
theorem dX4_useIfBearable_61 : decode cX4_useIfBearable 61 = .ok (.iconst 1, 1) := by decide +kernel
theorem dX4_useIfBearable_62 : decode cX4_useIfBearable 62 = .ok (.iload_n 1, 1) := by decide +kernel
theorem dX4_useIfBearable_63 : decode cX4_useIfBearable 63 = .ok (.ishl, 1) := by decide +kernel
theorem dX4_useIfBearable_64 : decode cX4_useIfBearable 64 = .ok (.ior, 1) := by decide +kernel
theorem dX4_useIfBearable_65 : decode cX4_useIfBearable 65 = .ok (.putfield 36, 3) := by decide +kernel
theorem dX4_useIfBearable_68 : decode cX4_useIfBearable 68 = .ok (.aload_n 0, 1) := by decide +kernel
theorem dX4_useIfBearable_69 : decode cX4_useIfBearable 69 = .ok (.getfield 23, 3) := by decide +kernel
theorem dX4_useIfBearable_72 : decode cX4_useIfBearable 72 = .ok (.iload_n 1, 1) := by decide +kernel
theorem dX4_useIfBearable_73 : decode cX4_useIfBearable 73 = .ok (.invokevirtual 54, 3) := by decide +kernel
theorem dX4_useIfBearable_76 : decode cX4_useIfBearable 76 = .ok (.ireturn, 1) := by decide +kernel
theorem dX4_day_0 : decode cX4_day 0 = .ok (.iconst 0, 1) := by decide +kernel
theorem dX4_day_1 : decode cX4_day 1 = .ok (.istore_n 1, 1) := by decide +kernel
theorem dX4_day_2 : decode cX4_day 2 = .ok (.iconst 0, 1) := by decide +kernel
theorem dX4_day_3 : decode cX4_day 3 = .ok (.istore_n 2, 1) := by decide +kernel
theorem dX4_day_4 : decode cX4_day 4 = .ok (.iload_n 2, 1) := by decide +kernel
theorem dX4_day_5 : decode cX4_day 5 = .ok (.bipush 11, 2) := by decide +kernel
theorem dX4_day_7 : decode cX4_day 7 = .ok (.if_icmp .ge 17, 3) := by decide +kernel
theorem dX4_day_10 : decode cX4_day 10 = .ok (.iload_n 1, 1) := by decide +kernel
theorem dX4_day_11 : decode cX4_day 11 = .ok (.aload_n 0, 1) := by decide +kernel
theorem dX4_day_12 : decode cX4_day 12 = .ok (.iload_n 2, 1) := by decide +kernel
theorem dX4_day_13 : decode cX4_day 13 = .ok (.invokevirtual 115, 3) := by decide +kernel
theorem dX4_day_16 : decode cX4_day 16 = .ok (.iadd, 1) := by decide +kernel
theorem dX4_day_17 : decode cX4_day 17 = .ok (.istore_n 1, 1) := by decide +kernel
theorem dX4_day_18 : decode cX4_day 18 = .ok (.iinc 2 1, 3) := by decide +kernel
theorem dX4_day_21 : decode cX4_day 21 = .ok (.goto (-17), 3) := by decide +kernel
theorem dX4_day_24 : decode cX4_day 24 = .ok (.iload_n 1, 1) := by decide +kernel
theorem dX4_day_25 : decode cX4_day 25 = .ok (.ireturn, 1) := by decide +kernel
theorem dX4_spend_0 : decode cX4_spend 0 = .ok (.iload_n 1, 1) := by decide +kernel
theorem dX4_spend_1 : decode cX4_spend 1 = .ok (.iconst 1, 1) := by decide +kernel
theorem dX4_spend_2 : decode cX4_spend 2 = .ok (.if_icmp .lt 9, 3) := by decide +kernel
theorem dX4_spend_5 : decode cX4_spend 5 = .ok (.iload_n 1, 1) := by decide +kernel
theorem dX4_spend_6 : decode cX4_spend 6 = .ok (.bipush 99, 2) := by decide +kernel
theorem dX4_spend_8 : decode cX4_spend 8 = .ok (.if_icmp .le 6, 3) := by decide +kernel
theorem dX4_spend_11 : decode cX4_spend 11 = .ok (.bipush (-2), 2) := by decide +kernel
theorem dX4_spend_13 : decode cX4_spend 13 = .ok (.ireturn, 1) := by decide +kernel
theorem dX4_spend_14 : decode cX4_spend 14 = .ok (.aload_n 0, 1) := by decide +kernel
theorem dX4_spend_15 : decode cX4_spend 15 = .ok (.getfield 39, 3) := by decide +kernel
theorem dX4_spend_18 : decode cX4_spend 18 = .ok (.getfield 118, 3) := by decide +kernel
theorem dX4_spend_21 : decode cX4_spend 21 = .ok (.iload_n 1, 1) := by decide +kernel
theorem dX4_spend_22 : decode cX4_spend 22 = .ok (.iadd, 1) := by decide +kernel
theorem dX4_spend_23 : decode cX4_spend 23 = .ok (.sipush 999, 3) := by decide +kernel
theorem dX4_spend_26 : decode cX4_spend 26 = .ok (.if_icmp .le 6, 3) := by decide +kernel
theorem dX4_spend_29 : decode cX4_spend 29 = .ok (.bipush (-5), 2) := by decide +kernel
theorem dX4_spend_31 : decode cX4_spend 31 = .ok (.ireturn, 1) := by decide +kernel
theorem dX4_spend_32 : decode cX4_spend 32 = .ok (.aload_n 0, 1) := by decide +kernel
theorem dX4_spend_33 : decode cX4_spend 33 = .ok (.invokevirtual 121, 3) := by decide +kernel
theorem dX4_spend_36 : decode cX4_spend 36 = .ok (.iconst 0, 1) := by decide +kernel
theorem dX4_spend_37 : decode cX4_spend 37 = .ok (.istore_n 2, 1) := by decide +kernel
theorem dX4_spend_38 : decode cX4_spend 38 = .ok (.iconst 0, 1) := by decide +kernel
theorem dX4_spend_39 : decode cX4_spend 39 = .ok (.istore_n 3, 1) := by decide +kernel
theorem dX4_spend_40 : decode cX4_spend 40 = .ok (.iload_n 3, 1) := by decide +kernel
theorem dX4_spend_41 : decode cX4_spend 41 = .ok (.iload_n 1, 1) := by decide +kernel
theorem dX4_spend_42 : decode cX4_spend 42 = .ok (.if_icmp .ge 57, 3) := by decide +kernel
theorem dX4_spend_45 : decode cX4_spend 45 = .ok (.iconst 0, 1) := by decide +kernel
theorem dX4_spend_46 : decode cX4_spend 46 = .ok (.istore 4, 2) := by decide +kernel
theorem dX4_spend_48 : decode cX4_spend 48 = .ok (.iconst 0, 1) := by decide +kernel
theorem dX4_spend_49 : decode cX4_spend 49 = .ok (.istore 5, 2) := by decide +kernel
theorem dX4_spend_51 : decode cX4_spend 51 = .ok (.iload 5, 2) := by decide +kernel
theorem dX4_spend_53 : decode cX4_spend 53 = .ok (.bipush 11, 2) := by decide +kernel
theorem dX4_spend_55 : decode cX4_spend 55 = .ok (.if_icmp .ge 24, 3) := by decide +kernel
theorem dX4_spend_58 : decode cX4_spend 58 = .ok (.iload 4, 2) := by decide +kernel
theorem dX4_spend_60 : decode cX4_spend 60 = .ok (.aload_n 0, 1) := by decide +kernel
theorem dX4_spend_61 : decode cX4_spend 61 = .ok (.iload 5, 2) := by decide +kernel
theorem dX4_spend_63 : decode cX4_spend 63 = .ok (.invokevirtual 115, 3) := by decide +kernel
theorem dX4_spend_66 : decode cX4_spend 66 = .ok (.iadd, 1) := by decide +kernel
theorem dX4_spend_67 : decode cX4_spend 67 = .ok (.istore 4, 2) := by decide +kernel
theorem dX4_spend_69 : decode cX4_spend 69 = .ok (.aload_n 0, 1) := by decide +kernel
theorem dX4_spend_70 : decode cX4_spend 70 = .ok (.invokevirtual 124, 3) := by decide +kernel
theorem dX4_spend_73 : decode cX4_spend 73 = .ok (.iinc 5 1, 3) := by decide +kernel
theorem dX4_spend_76 : decode cX4_spend 76 = .ok (.goto (-25), 3) := by decide +kernel
theorem dX4_spend_79 : decode cX4_spend 79 = .ok (.aload_n 0, 1) := by decide +kernel
theorem dX4_spend_80 : decode cX4_spend 80 = .ok (.getfield 39, 3) := by decide +kernel
theorem dX4_spend_83 : decode cX4_spend 83 = .ok (.iload 4, 2) := by decide +kernel
theorem dX4_spend_85 : decode cX4_spend 85 = .ok (.invokevirtual 127, 3) := by decide +kernel
theorem dX4_spend_88 : decode cX4_spend 88 = .ok (.iload_n 2, 1) := by decide +kernel
theorem dX4_spend_89 : decode cX4_spend 89 = .ok (.iload 4, 2) := by decide +kernel
theorem dX4_spend_91 : decode cX4_spend 91 = .ok (.iadd, 1) := by decide +kernel
theorem dX4_spend_92 : decode cX4_spend 92 = .ok (.istore_n 2, 1) := by decide +kernel
theorem dX4_spend_93 : decode cX4_spend 93 = .ok (.iinc 3 1, 3) := by decide +kernel
theorem dX4_spend_96 : decode cX4_spend 96 = .ok (.goto (-56), 3) := by decide +kernel
theorem dX4_spend_99 : decode cX4_spend 99 = .ok (.iload_n 2, 1) := by decide +kernel
theorem dX4_spend_100 : decode cX4_spend 100 = .ok (.ireturn, 1) := by decide +kernel
theorem dX4_creditUsed_0 : decode cX4_creditUsed 0 = .ok (.iconst 0, 1) := by decide +kernel
theorem dX4_creditUsed_1 : decode cX4_creditUsed 1 = .ok (.istore_n 1, 1) := by decide +kernel
theorem dX4_creditUsed_2 : decode cX4_creditUsed 2 = .ok (.iload_n 1, 1) := by decide +kernel
theorem dX4_creditUsed_3 : decode cX4_creditUsed 3 = .ok (.aload_n 0, 1) := by decide +kernel
theorem dX4_creditUsed_4 : decode cX4_creditUsed 4 = .ok (.getfield 39, 3) := by decide +kernel
